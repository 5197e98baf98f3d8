theorem dX0_init_0 : decode cX0_init 0 = .ok (.aload_n 0, 1) := by decide +kernel
theorem dX0_init_1 : decode cX0_init 1 = .ok (.invokespecial 3, 3) := by decide +kernel
theorem dX0_init_4 : decode cX0_init 4 = .ok (.aload_n 0, 1) := by decide +kernel
theorem dX0_init_5 : decode cX0_init 5 = .ok (.iconst 1, 1) := by decide +kernel
theorem dX0_init_6 : decode cX0_init 6 = .ok (.putfield 9, 3) := by decide +kernel
theorem dX0_init_9 : decode cX0_init 9 = .ok (.aload_n 0, 1) := by decide +kernel
theorem dX0_init_10 : decode cX0_init 10 = .ok (.bipush 64, 2) := by decide +kernel
theorem dX0_init_12 : decode cX0_init 12 = .ok (.newarray .int, 2) := by decide +kernel
theorem dX0_init_14 : decode cX0_init 14 = .ok (.putfield 15, 3) := by decide +kernel
theorem dX0_init_17 : decode cX0_init 17 = .ok (.return_, 1) := by decide +kernel
theorem dX0_become_0 : decode cX0_become 0 = .ok (.aload_n 0, 1) := by decide +kernel
theorem dX0_become_1 : decode cX0_become 1 = .ok (.aload_n 1, 1) := by decide +kernel
theorem dX0_become_2 : decode cX0_become 2 = .ok (.getfield 9, 3) := by decide +kernel
theorem dX0_become_5 : decode cX0_become 5 = .ok (.putfield 9, 3) := by decide +kernel
theorem dX0_become_8 : decode cX0_become 8 = .ok (.aload_n 1, 1) := by decide +kernel
theorem dX0_become_9 : decode cX0_become 9 = .ok (.getfield 15, 3) := by decide +kernel
theorem dX0_become_12 : decode cX0_become 12 = .ok (.iconst 0, 1) := by decide +kernel
theorem dX0_become_13 : decode cX0_become 13 = .ok (.aload_n 0, 1) := by decide +kernel
theorem dX0_become_14 : decode cX0_become 14 = .ok (.getfield 15, 3) := by decide +kernel
theorem dX0_become_17 : decode cX0_become 17 = .ok (.iconst 0, 1) := by decide +kernel
theorem dX0_become_18 : decode cX0_become 18 = .ok (.aload_n 0, 1) := by decide +kernel
theorem dX0_become_19 : decode cX0_become 19 = .ok (.getfield 15, 3) := by decide +kernel
theorem dX0_become_22 : decode cX0_become 22 = .ok (.arraylength, 1) := by decide +kernel
theorem dX0_become_23 : decode cX0_become 23 = .ok (.invokestatic 19, 3) := by decide +kernel
theorem dX0_become_26 : decode cX0_become 26 = .ok (.return_, 1) := by decide +kernel
theorem dX0_drawLand_0 : decode cX0_drawLand 0 = .ok (.aload_n 0, 1) := by decide +kernel
theorem dX0_drawLand_1 : decode cX0_drawLand 1 = .ok (.invokevirtual 25, 3) := by decide +kernel
theorem dX0_drawLand_4 : decode cX0_drawLand 4 = .ok (.lstore_n 1, 1) := by decide +kernel
theorem dX0_drawLand_5 : decode cX0_drawLand 5 = .ok (.aload_n 0, 1) := by decide +kernel
theorem dX0_drawLand_6 : decode cX0_drawLand 6 = .ok (.invokevirtual 25, 3) := by decide +kernel
theorem dX0_drawLand_9 : decode cX0_drawLand 9 = .ok (.lstore_n 3, 1) := by decide +kernel
theorem dX0_drawLand_10 : decode cX0_drawLand 10 = .ok (.aload_n 0, 1) := by decide +kernel
theorem dX0_drawLand_11 : decode cX0_drawLand 11 = .ok (.invokevirtual 25, 3) := by decide +kernel
theorem dX0_drawLand_14 : decode cX0_drawLand 14 = .ok (.lstore 5, 2) := by decide +kernel
theorem dX0_drawLand_16 : decode cX0_drawLand 16 = .ok (.aload_n 0, 1) := by decide +kernel
theorem dX0_drawLand_17 : decode cX0_drawLand 17 = .ok (.getfield 15, 3) := by decide +kernel
theorem dX0_drawLand_20 : decode cX0_drawLand 20 = .ok (.lload_n 1, 1) := by decide +kernel
theorem dX0_drawLand_21 : decode cX0_drawLand 21 = .ok (.lload_n 3, 1) := by decide +kernel
theorem dX0_drawLand_22 : decode cX0_drawLand 22 = .ok (.invokestatic 29, 3) := by decide +kernel
theorem dX0_drawLand_25 : decode cX0_drawLand 25 = .ok (.bipush 8, 2) := by decide +kernel
theorem dX0_drawLand_27 : decode cX0_drawLand 27 = .ok (.imul, 1) := by decide +kernel
theorem dX0_drawLand_28 : decode cX0_drawLand 28 = .ok (.lload_n 3, 1) := by decide +kernel
theorem dX0_drawLand_29 : decode cX0_drawLand 29 = .ok (.lload 5, 2) := by decide +kernel
theorem dX0_drawLand_31 : decode cX0_drawLand 31 = .ok (.invokestatic 29, 3) := by decide +kernel
theorem dX0_drawLand_34 : decode cX0_drawLand 34 = .ok (.iadd, 1) := by decide +kernel
theorem dX0_drawLand_35 : decode cX0_drawLand 35 = .ok (.dup2, 1) := by decide +kernel
theorem dX0_drawLand_36 : decode cX0_drawLand 36 = .ok (.iaload, 1) := by decide +kernel
theorem dX0_drawLand_37 : decode cX0_drawLand 37 = .ok (.iconst 1, 1) := by decide +kernel
theorem dX0_drawLand_38 : decode cX0_drawLand 38 = .ok (.lload_n 1, 1) := by decide +kernel
theorem dX0_drawLand_39 : decode cX0_drawLand 39 = .ok (.lload 5, 2) := by decide +kernel
theorem dX0_drawLand_41 : decode cX0_drawLand 41 = .ok (.invokestatic 29, 3) := by decide +kernel
theorem dX0_drawLand_44 : decode cX0_drawLand 44 = .ok (.ishl, 1) := by decide +kernel
theorem dX0_drawLand_45 : decode cX0_drawLand 45 = .ok (.ior, 1) := by decide +kernel
theorem dX0_drawLand_46 : decode cX0_drawLand 46 = .ok (.iastore, 1) := by decide +kernel
theorem dX0_drawLand_47 : decode cX0_drawLand 47 = .ok (.return_, 1) := by decide +kernel
theorem dX0_foundWays_0 : decode cX0_foundWays 0 = .ok (.iconst 0, 1) := by decide +kernel
theorem dX0_foundWays_1 : decode cX0_foundWays 1 = .ok (.istore_n 1, 1) := by decide +kernel
theorem dX0_foundWays_2 : decode cX0_foundWays 2 = .ok (.iconst 0, 1) := by decide +kernel
theorem dX0_foundWays_3 : decode cX0_foundWays 3 = .ok (.istore_n 2, 1) := by decide +kernel
theorem dX0_foundWays_4 : decode cX0_foundWays 4 = .ok (.iload_n 2, 1) := by decide +kernel
theorem dX0_foundWays_5 : decode cX0_foundWays 5 = .ok (.aload_n 0, 1) := by decide +kernel
theorem dX0_foundWays_6 : decode cX0_foundWays 6 = .ok (.getfield 15, 3) := by decide +kernel
theorem dX0_foundWays_9 : decode cX0_foundWays 9 = .ok (.arraylength, 1) := by decide +kernel
theorem dX0_foundWays_10 : decode cX0_foundWays 10 = .ok (.if_icmp .ge 21, 3) := by decide +kernel
theorem dX0_foundWays_13 : decode cX0_foundWays 13 = .ok (.iload_n 1, 1) := by decide +kernel
theorem dX0_foundWays_14 : decode cX0_foundWays 14 = .ok (.aload_n 0, 1) := by decide +kernel
theorem dX0_foundWays_15 : decode cX0_foundWays 15 = .ok (.getfield 15, 3) := by decide +kernel
theorem dX0_foundWays_18 : decode cX0_foundWays 18 = .ok (.iload_n 2, 1) := by decide +kernel
theorem dX0_foundWays_19 : decode cX0_foundWays 19 = .ok (.iaload, 1) := by decide +kernel
theorem dX0_foundWays_20 : decode cX0_foundWays 20 = .ok (.invokestatic 33, 3) := by decide +kernel
theorem dX0_foundWays_23 : decode cX0_foundWays 23 = .ok (.iadd, 1) := by decide +kernel
theorem dX0_foundWays_24 : decode cX0_foundWays 24 = .ok (.istore_n 1, 1) := by decide +kernel
theorem dX0_foundWays_25 : decode cX0_foundWays 25 = .ok (.iinc 2 1, 3) := by decide +kernel
theorem dX0_foundWays_28 : decode cX0_foundWays 28 = .ok (.goto (-24), 3) := by decide +kernel
theorem dX0_foundWays_31 : decode cX0_foundWays 31 = .ok (.iload_n 1, 1) := by decide +kernel
theorem dX0_foundWays_32 : decode cX0_foundWays 32 = .ok (.ireturn, 1) := by decide +kernel
theorem dX0_drawBox_0 : decode cX0_drawBox 0 = .ok (.aload_n 0, 1) := by decide +kernel
theorem dX0_drawBox_1 : decode cX0_drawBox 1 = .ok (.bipush 6, 2) := by decide +kernel
theorem dX0_drawBox_3 : decode cX0_drawBox 3 = .ok (.invokevirtual 39, 3) := by decide +kernel
theorem dX0_drawBox_6 : decode cX0_drawBox 6 = .ok (.istore_n 1, 1) := by decide +kernel
theorem dX0_drawBox_7 : decode cX0_drawBox 7 = .ok (.aload_n 0, 1) := by decide +kernel
theorem dX0_drawBox_8 : decode cX0_drawBox 8 = .ok (.bipush 6, 2) := by decide +kernel
theorem dX0_drawBox_10 : decode cX0_drawBox 10 = .ok (.invokevirtual 39, 3) := by decide +kernel
theorem dX0_drawBox_13 : decode cX0_drawBox 13 = .ok (.istore_n 2, 1) := by decide +kernel
theorem dX0_drawBox_14 : decode cX0_drawBox 14 = .ok (.bipush 7, 2) := by decide +kernel
theorem dX0_drawBox_16 : decode cX0_drawBox 16 = .ok (.iload_n 1, 1) := by decide +kernel
theorem dX0_drawBox_17 : decode cX0_drawBox 17 = .ok (.aload_n 0, 1) := by decide +kernel
theorem dX0_drawBox_18 : decode cX0_drawBox 18 = .ok (.iconst 3, 1) := by decide +kernel
theorem dX0_drawBox_19 : decode cX0_drawBox 19 = .ok (.invokevirtual 39, 3) := by decide +kernel
theorem dX0_drawBox_22 : decode cX0_drawBox 22 = .ok (.iadd, 1) := by decide +kernel
theorem dX0_drawBox_23 : decode cX0_drawBox 23 = .ok (.invokestatic 42, 3) := by decide +kernel
theorem dX0_drawBox_26 : decode cX0_drawBox 26 = .ok (.istore_n 3, 1) := by decide +kernel
theorem dX0_drawBox_27 : decode cX0_drawBox 27 = .ok (.bipush 7, 2) := by decide +kernel
theorem dX0_drawBox_29 : decode cX0_drawBox 29 = .ok (.iload_n 2, 1) := by decide +kernel
theorem dX0_drawBox_30 : decode cX0_drawBox 30 = .ok (.aload_n 0, 1) := by decide +kernel
theorem dX0_drawBox_31 : decode cX0_drawBox 31 = .ok (.iconst 3, 1) := by decide +kernel
theorem dX0_drawBox_32 : decode cX0_drawBox 32 = .ok (.invokevirtual 39, 3) := by decide +kernel
theorem dX0_drawBox_35 : decode cX0_drawBox 35 = .ok (.iadd, 1) := by decide +kernel
theorem dX0_drawBox_36 : decode cX0_drawBox 36 = .ok (.invokestatic 42, 3) := by decide +kernel
theorem dX0_drawBox_39 : decode cX0_drawBox 39 = .ok (.istore 4, 2) := by decide +kernel
theorem dX0_drawBox_41 : decode cX0_drawBox 41 = .ok (.iload_n 1, 1) := by decide +kernel
theorem dX0_drawBox_42 : decode cX0_drawBox 42 = .ok (.iload_n 2, 1) := by decide +kernel
theorem dX0_drawBox_43 : decode cX0_drawBox 43 = .ok (.iload_n 3, 1) := by decide +kernel
theorem dX0_drawBox_44 : decode cX0_drawBox 44 = .ok (.iload 4, 2) := by decide +kernel
theorem dX0_drawBox_46 : decode cX0_drawBox 46 = .ok (.invokestatic 48, 3) := by decide +kernel
theorem dX0_drawBox_49 : decode cX0_drawBox 49 = .ok (.lreturn, 1) := by decide +kernel
theorem dX0_drawBelow_0 : decode cX0_drawBelow 0 = .ok (.aload_n 0, 1) := by decide +kernel
theorem dX0_drawBelow_1 : decode cX0_drawBelow 1 = .ok (.aload_n 0, 1) := by decide +kernel
theorem dX0_drawBelow_2 : decode cX0_drawBelow 2 = .ok (.getfield 9, 3) := by decide +kernel
theorem dX0_drawBelow_5 : decode cX0_drawBelow 5 = .ok (.ldc 52, 2) := by decide +kernel
theorem dX0_drawBelow_7 : decode cX0_drawBelow 7 = .ok (.imul, 1) := by decide +kernel
theorem dX0_drawBelow_8 : decode cX0_drawBelow 8 = .ok (.sipush 12345, 3) := by decide +kernel
theorem dX0_drawBelow_11 : decode cX0_drawBelow 11 = .ok (.iadd, 1) := by decide +kernel
theorem dX0_drawBelow_12 : decode cX0_drawBelow 12 = .ok (.putfield 9, 3) := by decide +kernel
theorem dX0_drawBelow_15 : decode cX0_drawBelow 15 = .ok (.aload_n 0, 1) := by decide +kernel
theorem dX0_drawBelow_16 : decode cX0_drawBelow 16 = .ok (.getfield 9, 3) := by decide +kernel
theorem dX0_drawBelow_19 : decode cX0_drawBelow 19 = .ok (.bipush 16, 2) := by decide +kernel
theorem dX0_drawBelow_21 : decode cX0_drawBelow 21 = .ok (.iushr, 1) := by decide +kernel
theorem dX0_drawBelow_22 : decode cX0_drawBelow 22 = .ok (.iconst 1, 1) := by decide +kernel
theorem dX0_drawBelow_23 : decode cX0_drawBelow 23 = .ok (.iload_n 1, 1) := by decide +kernel
theorem dX0_drawBelow_24 : decode cX0_drawBelow 24 = .ok (.invokestatic 53, 3) := by decide +kernel
theorem dX0_drawBelow_27 : decode cX0_drawBelow 27 = .ok (.irem, 1) := by decide +kernel
theorem dX0_drawBelow_28 : decode cX0_drawBelow 28 = .ok (.ireturn, 1) := by decide +kernel
theorem dX0_box_0 : decode cX0_box 0 = .ok (.lconst 0, 1) := by decide +kernel
theorem dX0_box_1 : decode cX0_box 1 = .ok (.lstore 4, 2) := by decide +kernel
theorem dX0_box_3 : decode cX0_box 3 = .ok (.iload_n 0, 1) := by decide +kernel
theorem dX0_box_4 : decode cX0_box 4 = .ok (.istore 6, 2) := by decide +kernel
theorem dX0_box_6 : decode cX0_box 6 = .ok (.iload 6, 2) := by decide +kernel
theorem dX0_box_8 : decode cX0_box 8 = .ok (.iload_n 2, 1) := by decide +kernel
theorem dX0_box_9 : decode cX0_box 9 = .ok (.if_icmp .gt 39, 3) := by decide +kernel
theorem dX0_box_12 : decode cX0_box 12 = .ok (.iload_n 1, 1) := by decide +kernel
theorem dX0_box_13 : decode cX0_box 13 = .ok (.istore 7, 2) := by decide +kernel
theorem dX0_box_15 : decode cX0_box 15 = .ok (.iload 7, 2) := by decide +kernel
theorem dX0_box_17 : decode cX0_box 17 = .ok (.iload_n 3, 1) := by decide +kernel
theorem dX0_box_18 : decode cX0_box 18 = .ok (.if_icmp .gt 24, 3) := by decide +kernel
theorem dX0_box_21 : decode cX0_box 21 = .ok (.lload 4, 2) := by decide +kernel
theorem dX0_box_23 : decode cX0_box 23 = .ok (.lconst 1, 1) := by decide +kernel
theorem dX0_box_24 : decode cX0_box 24 = .ok (.iload 6, 2) := by decide +kernel
theorem dX0_box_26 : decode cX0_box 26 = .ok (.bipush 8, 2) := by decide +kernel
theorem dX0_box_28 : decode cX0_box 28 = .ok (.imul, 1) := by decide +kernel
theorem dX0_box_29 : decode cX0_box 29 = .ok (.iload 7, 2) := by decide +kernel
theorem dX0_box_31 : decode cX0_box 31 = .ok (.iadd, 1) := by decide +kernel
theorem dX0_box_32 : decode cX0_box 32 = .ok (.lshl, 1) := by decide +kernel
theorem dX0_box_33 : decode cX0_box 33 = .ok (.lor, 1) := by decide +kernel
theorem dX0_box_34 : decode cX0_box 34 = .ok (.lstore 4, 2) := by decide +kernel
theorem dX0_box_36 : decode cX0_box 36 = .ok (.iinc 7 1, 3) := by decide +kernel
theorem dX0_box_39 : decode cX0_box 39 = .ok (.goto (-24), 3) := by decide +kernel
theorem dX0_box_42 : decode cX0_box 42 = .ok (.iinc 6 1, 3) := by decide +kernel
theorem dX0_box_45 : decode cX0_box 45 = .ok (.goto (-39), 3) := by decide +kernel
theorem dX0_box_48 : decode cX0_box 48 = .ok (.lload 4, 2) := by decide +kernel
theorem dX0_box_50 : decode cX0_box 50 = .ok (.lreturn, 1) := by decide +kernel
theorem dX0_nextTo_0 : decode cX0_nextTo 0 = .ok (.lload_n 0, 1) := by decide +kernel
theorem dX0_nextTo_1 : decode cX0_nextTo 1 = .ok (.ldc2_w 56, 3) := by decide +kernel
theorem dX0_nextTo_4 : decode cX0_nextTo 4 = .ok (.land, 1) := by decide +kernel
theorem dX0_nextTo_5 : decode cX0_nextTo 5 = .ok (.iconst 1, 1) := by decide +kernel
theorem dX0_nextTo_6 : decode cX0_nextTo 6 = .ok (.lshl, 1) := by decide +kernel
theorem dX0_nextTo_7 : decode cX0_nextTo 7 = .ok (.lload_n 0, 1) := by decide +kernel
theorem dX0_nextTo_8 : decode cX0_nextTo 8 = .ok (.ldc2_w 58, 3) := by decide +kernel
theorem dX0_nextTo_11 : decode cX0_nextTo 11 = .ok (.land, 1) := by decide +kernel
theorem dX0_nextTo_12 : decode cX0_nextTo 12 = .ok (.iconst 1, 1) := by decide +kernel
theorem dX0_nextTo_13 : decode cX0_nextTo 13 = .ok (.lushr, 1) := by decide +kernel
theorem dX0_nextTo_14 : decode cX0_nextTo 14 = .ok (.lor, 1) := by decide +kernel
theorem dX0_nextTo_15 : decode cX0_nextTo 15 = .ok (.lstore_n 2, 1) := by decide +kernel
theorem dX0_nextTo_16 : decode cX0_nextTo 16 = .ok (.lload_n 2, 1) := by decide +kernel
theorem dX0_nextTo_17 : decode cX0_nextTo 17 = .ok (.lload_n 0, 1) := by decide +kernel
theorem dX0_nextTo_18 : decode cX0_nextTo 18 = .ok (.bipush 8, 2) := by decide +kernel
theorem dX0_nextTo_20 : decode cX0_nextTo 20 = .ok (.lshl, 1) := by decide +kernel
theorem dX0_nextTo_21 : decode cX0_nextTo 21 = .ok (.lor, 1) := by decide +kernel
theorem dX0_nextTo_22 : decode cX0_nextTo 22 = .ok (.lload_n 0, 1) := by decide +kernel
theorem dX0_nextTo_23 : decode cX0_nextTo 23 = .ok (.bipush 8, 2) := by decide +kernel
theorem dX0_nextTo_25 : decode cX0_nextTo 25 = .ok (.lushr, 1) := by decide +kernel
theorem dX0_nextTo_26 : decode cX0_nextTo 26 = .ok (.lor, 1) := by decide +kernel
theorem dX0_nextTo_27 : decode cX0_nextTo 27 = .ok (.lreturn, 1) := by decide +kernel
theorem dX0_wayOf_0 : decode cX0_wayOf 0 = .ok (.lload_n 0, 1) := by decide +kernel
theorem dX0_wayOf_1 : decode cX0_wayOf 1 = .ok (.lload_n 2, 1) := by decide +kernel
theorem dX0_wayOf_2 : decode cX0_wayOf 2 = .ok (.land, 1) := by decide +kernel
theorem dX0_wayOf_3 : decode cX0_wayOf 3 = .ok (.lstore 4, 2) := by decide +kernel
theorem dX0_wayOf_5 : decode cX0_wayOf 5 = .ok (.lload 4, 2) := by decide +kernel
theorem dX0_wayOf_7 : decode cX0_wayOf 7 = .ok (.lconst 0, 1) := by decide +kernel
theorem dX0_wayOf_8 : decode cX0_wayOf 8 = .ok (.lcmp, 1) := by decide +kernel
theorem dX0_wayOf_9 : decode cX0_wayOf 9 = .ok (.ifCond .ne 20, 3) := by decide +kernel
theorem dX0_wayOf_12 : decode cX0_wayOf 12 = .ok (.lload_n 0, 1) := by decide +kernel
theorem dX0_wayOf_13 : decode cX0_wayOf 13 = .ok (.invokestatic 60, 3) := by decide +kernel
theorem dX0_wayOf_16 : decode cX0_wayOf 16 = .ok (.lload_n 2, 1) := by decide +kernel
theorem dX0_wayOf_17 : decode cX0_wayOf 17 = .ok (.land, 1) := by decide +kernel
theorem dX0_wayOf_18 : decode cX0_wayOf 18 = .ok (.lconst 0, 1) := by decide +kernel
theorem dX0_wayOf_19 : decode cX0_wayOf 19 = .ok (.lcmp, 1) := by decide +kernel
theorem dX0_wayOf_20 : decode cX0_wayOf 20 = .ok (.ifCond .eq 7, 3) := by decide +kernel
theorem dX0_wayOf_23 : decode cX0_wayOf 23 = .ok (.iconst 1, 1) := by decide +kernel
theorem dX0_wayOf_24 : decode cX0_wayOf 24 = .ok (.goto 4, 3) := by decide +kernel
theorem dX0_wayOf_27 : decode cX0_wayOf 27 = .ok (.iconst 0, 1) := by decide +kernel
theorem dX0_wayOf_28 : decode cX0_wayOf 28 = .ok (.ireturn, 1) := by decide +kernel
theorem dX0_wayOf_29 : decode cX0_wayOf 29 = .ok (.lload_n 0, 1) := by decide +kernel
theorem dX0_wayOf_30 : decode cX0_wayOf 30 = .ok (.lload_n 2, 1) := by decide +kernel
theorem dX0_wayOf_31 : decode cX0_wayOf 31 = .ok (.lcmp, 1) := by decide +kernel
theorem dX0_wayOf_32 : decode cX0_wayOf 32 = .ok (.ifCond .ne 6, 3) := by decide +kernel
theorem dX0_wayOf_35 : decode cX0_wayOf 35 = .ok (.bipush 7, 2) := by decide +kernel
theorem dX0_wayOf_37 : decode cX0_wayOf 37 = .ok (.ireturn, 1) := by decide +kernel
theorem dX0_wayOf_38 : decode cX0_wayOf 38 = .ok (.lload 4, 2) := by decide +kernel
theorem dX0_wayOf_40 : decode cX0_wayOf 40 = .ok (.lload_n 0, 1) := by decide +kernel
theorem dX0_wayOf_41 : decode cX0_wayOf 41 = .ok (.lcmp, 1) := by decide +kernel
theorem dX0_wayOf_42 : decode cX0_wayOf 42 = .ok (.ifCond .ne 24, 3) := by decide +kernel
theorem dX0_wayOf_45 : decode cX0_wayOf 45 = .ok (.lload_n 0, 1) := by decide +kernel
theorem dX0_wayOf_46 : decode cX0_wayOf 46 = .ok (.invokestatic 60, 3) := by decide +kernel
theorem dX0_wayOf_49 : decode cX0_wayOf 49 = .ok (.lload_n 2, 1) := by decide +kernel
theorem dX0_wayOf_50 : decode cX0_wayOf 50 = .ok (.ldc2_w 64, 3) := by decide +kernel
theorem dX0_wayOf_53 : decode cX0_wayOf 53 = .ok (.lxor, 1) := by decide +kernel
theorem dX0_wayOf_54 : decode cX0_wayOf 54 = .ok (.land, 1) := by decide +kernel
theorem dX0_wayOf_55 : decode cX0_wayOf 55 = .ok (.lconst 0, 1) := by decide +kernel
theorem dX0_wayOf_56 : decode cX0_wayOf 56 = .ok (.lcmp, 1) := by decide +kernel
theorem dX0_wayOf_57 : decode cX0_wayOf 57 = .ok (.ifCond .eq 7, 3) := by decide +kernel
theorem dX0_wayOf_60 : decode cX0_wayOf 60 = .ok (.iconst 3, 1) := by decide +kernel
theorem dX0_wayOf_61 : decode cX0_wayOf 61 = .ok (.goto 4, 3) := by decide +kernel
theorem dX0_wayOf_64 : decode cX0_wayOf 64 = .ok (.iconst 4, 1) := by decide +kernel
theorem dX0_wayOf_65 : decode cX0_wayOf 65 = .ok (.ireturn, 1) := by decide +kernel
theorem dX0_wayOf_66 : decode cX0_wayOf 66 = .ok (.lload 4, 2) := by decide +kernel
theorem dX0_wayOf_68 : decode cX0_wayOf 68 = .ok (.lload_n 2, 1) := by decide +kernel
theorem dX0_wayOf_69 : decode cX0_wayOf 69 = .ok (.lcmp, 1) := by decide +kernel
theorem dX0_wayOf_70 : decode cX0_wayOf 70 = .ok (.ifCond .ne 25, 3) := by decide +kernel
theorem dX0_wayOf_73 : decode cX0_wayOf 73 = .ok (.lload_n 2, 1) := by decide +kernel
theorem dX0_wayOf_74 : decode cX0_wayOf 74 = .ok (.invokestatic 60, 3) := by decide +kernel
theorem dX0_wayOf_77 : decode cX0_wayOf 77 = .ok (.lload_n 0, 1) := by decide +kernel
theorem dX0_wayOf_78 : decode cX0_wayOf 78 = .ok (.ldc2_w 64, 3) := by decide +kernel
theorem dX0_wayOf_81 : decode cX0_wayOf 81 = .ok (.lxor, 1) := by decide +kernel
theorem dX0_wayOf_82 : decode cX0_wayOf 82 = .ok (.land, 1) := by decide +kernel
theorem dX0_wayOf_83 : decode cX0_wayOf 83 = .ok (.lconst 0, 1) := by decide +kernel
theorem dX0_wayOf_84 : decode cX0_wayOf 84 = .ok (.lcmp, 1) := by decide +kernel
theorem dX0_wayOf_85 : decode cX0_wayOf 85 = .ok (.ifCond .eq 7, 3) := by decide +kernel
theorem dX0_wayOf_88 : decode cX0_wayOf 88 = .ok (.iconst 5, 1) := by decide +kernel
theorem dX0_wayOf_89 : decode cX0_wayOf 89 = .ok (.goto 5, 3) := by decide +kernel
theorem dX0_wayOf_92 : decode cX0_wayOf 92 = .ok (.bipush 6, 2) := by decide +kernel
theorem dX0_wayOf_94 : decode cX0_wayOf 94 = .ok (.ireturn, 1) := by decide +kernel
theorem dX0_wayOf_95 : decode cX0_wayOf 95 = .ok (.iconst 2, 1) := by decide +kernel
theorem dX0_wayOf_96 : decode cX0_wayOf 96 = .ok (.ireturn, 1) := by decide +kernel
theorem dX0_isPiece_0 : decode cX0_isPiece 0 = .ok (.lload_n 0, 1) := by decide +kernel
theorem dX0_isPiece_1 : decode cX0_isPiece 1 = .ok (.lload_n 0, 1) := by decide +kernel
theorem dX0_isPiece_2 : decode cX0_isPiece 2 = .ok (.lneg, 1) := by decide +kernel
theorem dX0_isPiece_3 : decode cX0_isPiece 3 = .ok (.land, 1) := by decide +kernel
theorem dX0_isPiece_4 : decode cX0_isPiece 4 = .ok (.lload_n 0, 1) := by decide +kernel
theorem dX0_isPiece_5 : decode cX0_isPiece 5 = .ok (.invokestatic 66, 3) := by decide +kernel
theorem dX0_isPiece_8 : decode cX0_isPiece 8 = .ok (.lload_n 0, 1) := by decide +kernel
theorem dX0_isPiece_9 : decode cX0_isPiece 9 = .ok (.lcmp, 1) := by decide +kernel
theorem dX0_isPiece_10 : decode cX0_isPiece 10 = .ok (.ifCond .ne 7, 3) := by decide +kernel
theorem dX0_isPiece_13 : decode cX0_isPiece 13 = .ok (.iconst 1, 1) := by decide +kernel
theorem dX0_isPiece_14 : decode cX0_isPiece 14 = .ok (.goto 4, 3) := by decide +kernel
theorem dX0_isPiece_17 : decode cX0_isPiece 17 = .ok (.iconst 0, 1) := by decide +kernel
theorem dX0_isPiece_18 : decode cX0_isPiece 18 = .ok (.ireturn, 1) := by decide +kernel
theorem dX0_isDisc_0 : decode cX0_isDisc 0 = .ok (.lload_n 0, 1) := by decide +kernel
theorem dX0_isDisc_1 : decode cX0_isDisc 1 = .ok (.ldc2_w 64, 3) := by decide +kernel
theorem dX0_isDisc_4 : decode cX0_isDisc 4 = .ok (.lxor, 1) := by decide +kernel
theorem dX0_isDisc_5 : decode cX0_isDisc 5 = .ok (.lstore_n 2, 1) := by decide +kernel
theorem dX0_isDisc_6 : decode cX0_isDisc 6 = .ok (.lload_n 0, 1) := by decide +kernel
theorem dX0_isDisc_7 : decode cX0_isDisc 7 = .ok (.invokestatic 70, 3) := by decide +kernel
theorem dX0_isDisc_10 : decode cX0_isDisc 10 = .ok (.ifCond .eq 21, 3) := by decide +kernel
theorem dX0_isDisc_13 : decode cX0_isDisc 13 = .ok (.lload_n 2, 1) := by decide +kernel
theorem dX0_isDisc_14 : decode cX0_isDisc 14 = .ok (.ldc2_w 74, 3) := by decide +kernel
theorem dX0_isDisc_17 : decode cX0_isDisc 17 = .ok (.land, 1) := by decide +kernel
theorem dX0_isDisc_18 : decode cX0_isDisc 18 = .ok (.lload_n 2, 1) := by decide +kernel
theorem dX0_isDisc_19 : decode cX0_isDisc 19 = .ok (.invokestatic 66, 3) := by decide +kernel
theorem dX0_isDisc_22 : decode cX0_isDisc 22 = .ok (.lload_n 2, 1) := by decide +kernel
theorem dX0_isDisc_23 : decode cX0_isDisc 23 = .ok (.lcmp, 1) := by decide +kernel
theorem dX0_isDisc_24 : decode cX0_isDisc 24 = .ok (.ifCond .ne 7, 3) := by decide +kernel
theorem dX0_isDisc_27 : decode cX0_isDisc 27 = .ok (.iconst 1, 1) := by decide +kernel
theorem dX0_isDisc_28 : decode cX0_isDisc 28 = .ok (.goto 4, 3) := by decide +kernel
theorem dX0_isDisc_31 : decode cX0_isDisc 31 = .ok (.iconst 0, 1) := by decide +kernel
theorem dX0_isDisc_32 : decode cX0_isDisc 32 = .ok (.ireturn, 1) := by decide +kernel
theorem dX0_isBox_0 : decode cX0_isBox 0 = .ok (.lload_n 0, 1) := by decide +kernel
theorem dX0_isBox_1 : decode cX0_isBox 1 = .ok (.invokestatic 76, 3) := by decide +kernel
theorem dX0_isBox_4 : decode cX0_isBox 4 = .ok (.istore_n 2, 1) := by decide +kernel
theorem dX0_isBox_5 : decode cX0_isBox 5 = .ok (.lload_n 0, 1) := by decide +kernel
theorem dX0_isBox_6 : decode cX0_isBox 6 = .ok (.invokestatic 80, 3) := by decide +kernel
theorem dX0_isBox_9 : decode cX0_isBox 9 = .ok (.istore_n 3, 1) := by decide +kernel
theorem dX0_isBox_10 : decode cX0_isBox 10 = .ok (.iload_n 2, 1) := by decide +kernel
theorem dX0_isBox_11 : decode cX0_isBox 11 = .ok (.invokestatic 83, 3) := by decide +kernel
theorem dX0_isBox_14 : decode cX0_isBox 14 = .ok (.iload_n 3, 1) := by decide +kernel
theorem dX0_isBox_15 : decode cX0_isBox 15 = .ok (.invokestatic 83, 3) := by decide +kernel
theorem dX0_isBox_18 : decode cX0_isBox 18 = .ok (.iload_n 2, 1) := by decide +kernel
theorem dX0_isBox_19 : decode cX0_isBox 19 = .ok (.invokestatic 86, 3) := by decide +kernel
theorem dX0_isBox_22 : decode cX0_isBox 22 = .ok (.iload_n 3, 1) := by decide +kernel
theorem dX0_isBox_23 : decode cX0_isBox 23 = .ok (.invokestatic 86, 3) := by decide +kernel
theorem dX0_isBox_26 : decode cX0_isBox 26 = .ok (.invokestatic 48, 3) := by decide +kernel
theorem dX0_isBox_29 : decode cX0_isBox 29 = .ok (.lload_n 0, 1) := by decide +kernel
theorem dX0_isBox_30 : decode cX0_isBox 30 = .ok (.lcmp, 1) := by decide +kernel
theorem dX0_isBox_31 : decode cX0_isBox 31 = .ok (.ifCond .ne 7, 3) := by decide +kernel
theorem dX0_isBox_34 : decode cX0_isBox 34 = .ok (.iconst 1, 1) := by decide +kernel
theorem dX0_isBox_35 : decode cX0_isBox 35 = .ok (.goto 4, 3) := by decide +kernel
theorem dX0_isBox_38 : decode cX0_isBox 38 = .ok (.iconst 0, 1) := by decide +kernel
theorem dX0_isBox_39 : decode cX0_isBox 39 = .ok (.ireturn, 1) := by decide +kernel
theorem dX0_flood_0 : decode cX0_flood 0 = .ok (.lload_n 0, 1) := by decide +kernel
theorem dX0_flood_1 : decode cX0_flood 1 = .ok (.lstore 4, 2) := by decide +kernel
theorem dX0_flood_3 : decode cX0_flood 3 = .ok (.iconst 0, 1) := by decide +kernel
theorem dX0_flood_4 : decode cX0_flood 4 = .ok (.istore 6, 2) := by decide +kernel
theorem dX0_flood_6 : decode cX0_flood 6 = .ok (.iload 6, 2) := by decide +kernel
theorem dX0_flood_8 : decode cX0_flood 8 = .ok (.bipush 64, 2) := by decide +kernel
theorem dX0_flood_10 : decode cX0_flood 10 = .ok (.if_icmp .ge 21, 3) := by decide +kernel
theorem dX0_flood_13 : decode cX0_flood 13 = .ok (.lload 4, 2) := by decide +kernel
theorem dX0_flood_15 : decode cX0_flood 15 = .ok (.lload 4, 2) := by decide +kernel
theorem dX0_flood_17 : decode cX0_flood 17 = .ok (.invokestatic 60, 3) := by decide +kernel
theorem dX0_flood_20 : decode cX0_flood 20 = .ok (.lload_n 2, 1) := by decide +kernel
theorem dX0_flood_21 : decode cX0_flood 21 = .ok (.land, 1) := by decide +kernel
theorem dX0_flood_22 : decode cX0_flood 22 = .ok (.lor, 1) := by decide +kernel
theorem dX0_flood_23 : decode cX0_flood 23 = .ok (.lstore 4, 2) := by decide +kernel
theorem dX0_flood_25 : decode cX0_flood 25 = .ok (.iinc 6 1, 3) := by decide +kernel
theorem dX0_flood_28 : decode cX0_flood 28 = .ok (.goto (-22), 3) := by decide +kernel
theorem dX0_flood_31 : decode cX0_flood 31 = .ok (.lload 4, 2) := by decide +kernel
theorem dX0_flood_33 : decode cX0_flood 33 = .ok (.lreturn, 1) := by decide +kernel
theorem dX0_rowsOf_0 : decode cX0_rowsOf 0 = .ok (.iconst 0, 1) := by decide +kernel
theorem dX0_rowsOf_1 : decode cX0_rowsOf 1 = .ok (.istore_n 2, 1) := by decide +kernel
theorem dX0_rowsOf_2 : decode cX0_rowsOf 2 = .ok (.iconst 0, 1) := by decide +kernel
theorem dX0_rowsOf_3 : decode cX0_rowsOf 3 = .ok (.istore_n 3, 1) := by decide +kernel
theorem dX0_rowsOf_4 : decode cX0_rowsOf 4 = .ok (.iload_n 3, 1) := by decide +kernel
theorem dX0_rowsOf_5 : decode cX0_rowsOf 5 = .ok (.bipush 8, 2) := by decide +kernel
theorem dX0_rowsOf_7 : decode cX0_rowsOf 7 = .ok (.if_icmp .ge 30, 3) := by decide +kernel
theorem dX0_rowsOf_10 : decode cX0_rowsOf 10 = .ok (.lload_n 0, 1) := by decide +kernel
theorem dX0_rowsOf_11 : decode cX0_rowsOf 11 = .ok (.bipush 8, 2) := by decide +kernel
theorem dX0_rowsOf_13 : decode cX0_rowsOf 13 = .ok (.iload_n 3, 1) := by decide +kernel
theorem dX0_rowsOf_14 : decode cX0_rowsOf 14 = .ok (.imul, 1) := by decide +kernel
theorem dX0_rowsOf_15 : decode cX0_rowsOf 15 = .ok (.lushr, 1) := by decide +kernel
theorem dX0_rowsOf_16 : decode cX0_rowsOf 16 = .ok (.ldc2_w 89, 3) := by decide +kernel
theorem dX0_rowsOf_19 : decode cX0_rowsOf 19 = .ok (.land, 1) := by decide +kernel
theorem dX0_rowsOf_20 : decode cX0_rowsOf 20 = .ok (.lconst 0, 1) := by decide +kernel
theorem dX0_rowsOf_21 : decode cX0_rowsOf 21 = .ok (.lcmp, 1) := by decide +kernel
theorem dX0_rowsOf_22 : decode cX0_rowsOf 22 = .ok (.ifCond .eq 9, 3) := by decide +kernel
theorem dX0_rowsOf_25 : decode cX0_rowsOf 25 = .ok (.iload_n 2, 1) := by decide +kernel
theorem dX0_rowsOf_26 : decode cX0_rowsOf 26 = .ok (.iconst 1, 1) := by decide +kernel
theorem dX0_rowsOf_27 : decode cX0_rowsOf 27 = .ok (.iload_n 3, 1) := by decide +kernel
theorem dX0_rowsOf_28 : decode cX0_rowsOf 28 = .ok (.ishl, 1) := by decide +kernel
theorem dX0_rowsOf_29 : decode cX0_rowsOf 29 = .ok (.ior, 1) := by decide +kernel
theorem dX0_rowsOf_30 : decode cX0_rowsOf 30 = .ok (.istore_n 2, 1) := by decide +kernel
theorem dX0_rowsOf_31 : decode cX0_rowsOf 31 = .ok (.iinc 3 1, 3) := by decide +kernel
theorem dX0_rowsOf_34 : decode cX0_rowsOf 34 = .ok (.goto (-30), 3) := by decide +kernel
theorem dX0_rowsOf_37 : decode cX0_rowsOf 37 = .ok (.iload_n 2, 1) := by decide +kernel
theorem dX0_rowsOf_38 : decode cX0_rowsOf 38 = .ok (.ireturn, 1) := by decide +kernel
theorem dX0_columnsOf_0 : decode cX0_columnsOf 0 = .ok (.iconst 0, 1) := by decide +kernel
theorem dX0_columnsOf_1 : decode cX0_columnsOf 1 = .ok (.istore_n 2, 1) := by decide +kernel
theorem dX0_columnsOf_2 : decode cX0_columnsOf 2 = .ok (.iconst 0, 1) := by decide +kernel
theorem dX0_columnsOf_3 : decode cX0_columnsOf 3 = .ok (.istore_n 3, 1) := by decide +kernel
theorem dX0_columnsOf_4 : decode cX0_columnsOf 4 = .ok (.iload_n 3, 1) := by decide +kernel
theorem dX0_columnsOf_5 : decode cX0_columnsOf 5 = .ok (.bipush 8, 2) := by decide +kernel
theorem dX0_columnsOf_7 : decode cX0_columnsOf 7 = .ok (.if_icmp .ge 23, 3) := by decide +kernel
theorem dX0_columnsOf_10 : decode cX0_columnsOf 10 = .ok (.iload_n 2, 1) := by decide +kernel
theorem dX0_columnsOf_11 : decode cX0_columnsOf 11 = .ok (.lload_n 0, 1) := by decide +kernel
theorem dX0_columnsOf_12 : decode cX0_columnsOf 12 = .ok (.bipush 8, 2) := by decide +kernel
theorem dX0_columnsOf_14 : decode cX0_columnsOf 14 = .ok (.iload_n 3, 1) := by decide +kernel
theorem dX0_columnsOf_15 : decode cX0_columnsOf 15 = .ok (.imul, 1) := by decide +kernel
theorem dX0_columnsOf_16 : decode cX0_columnsOf 16 = .ok (.lushr, 1) := by decide +kernel
theorem dX0_columnsOf_17 : decode cX0_columnsOf 17 = .ok (.l2i, 1) := by decide +kernel
theorem dX0_columnsOf_18 : decode cX0_columnsOf 18 = .ok (.sipush 255, 3) := by decide +kernel
theorem dX0_columnsOf_21 : decode cX0_columnsOf 21 = .ok (.iand, 1) := by decide +kernel
theorem dX0_columnsOf_22 : decode cX0_columnsOf 22 = .ok (.ior, 1) := by decide +kernel
theorem dX0_columnsOf_23 : decode cX0_columnsOf 23 = .ok (.istore_n 2, 1) := by decide +kernel
theorem dX0_columnsOf_24 : decode cX0_columnsOf 24 = .ok (.iinc 3 1, 3) := by decide +kernel
theorem dX0_columnsOf_27 : decode cX0_columnsOf 27 = .ok (.goto (-23), 3) := by decide +kernel
theorem dX0_columnsOf_30 : decode cX0_columnsOf 30 = .ok (.iload_n 2, 1) := by decide +kernel
theorem dX0_columnsOf_31 : decode cX0_columnsOf 31 = .ok (.ireturn, 1) := by decide +kernel
theorem dX0_least_0 : decode cX0_least 0 = .ok (.iload_n 0, 1) := by decide +kernel
theorem dX0_least_1 : decode cX0_least 1 = .ok (.iload_n 0, 1) := by decide +kernel
theorem dX0_least_2 : decode cX0_least 2 = .ok (.ineg, 1) := by decide +kernel
theorem dX0_least_3 : decode cX0_least 3 = .ok (.iand, 1) := by decide +kernel
theorem dX0_least_4 : decode cX0_least 4 = .ok (.iconst 1, 1) := by decide +kernel
theorem dX0_least_5 : decode cX0_least 5 = .ok (.isub, 1) := by decide +kernel
theorem dX0_least_6 : decode cX0_least 6 = .ok (.invokestatic 33, 3) := by decide +kernel
theorem dX0_least_9 : decode cX0_least 9 = .ok (.ireturn, 1) := by decide +kernel
theorem dX0_greatest_0 : decode cX0_greatest 0 = .ok (.iconst (-1), 1) := by decide +kernel
theorem dX0_greatest_1 : decode cX0_greatest 1 = .ok (.istore_n 1, 1) := by decide +kernel
theorem dX0_greatest_2 : decode cX0_greatest 2 = .ok (.iconst 0, 1) := by decide +kernel
theorem dX0_greatest_3 : decode cX0_greatest 3 = .ok (.istore_n 2, 1) := by decide +kernel
theorem dX0_greatest_4 : decode cX0_greatest 4 = .ok (.iload_n 2, 1) := by decide +kernel
theorem dX0_greatest_5 : decode cX0_greatest 5 = .ok (.bipush 8, 2) := by decide +kernel
theorem dX0_greatest_7 : decode cX0_greatest 7 = .ok (.if_icmp .ge 23, 3) := by decide +kernel
theorem dX0_greatest_10 : decode cX0_greatest 10 = .ok (.iload_n 0, 1) := by decide +kernel
theorem dX0_greatest_11 : decode cX0_greatest 11 = .ok (.iload_n 2, 1) := by decide +kernel
theorem dX0_greatest_12 : decode cX0_greatest 12 = .ok (.ishr, 1) := by decide +kernel
theorem dX0_greatest_13 : decode cX0_greatest 13 = .ok (.iconst 1, 1) := by decide +kernel
theorem dX0_greatest_14 : decode cX0_greatest 14 = .ok (.iand, 1) := by decide +kernel
theorem dX0_greatest_15 : decode cX0_greatest 15 = .ok (.ifCond .eq 7, 3) := by decide +kernel
theorem dX0_greatest_18 : decode cX0_greatest 18 = .ok (.iload_n 2, 1) := by decide +kernel
theorem dX0_greatest_19 : decode cX0_greatest 19 = .ok (.goto 4, 3) := by decide +kernel
theorem dX0_greatest_22 : decode cX0_greatest 22 = .ok (.iload_n 1, 1) := by decide +kernel
theorem dX0_greatest_23 : decode cX0_greatest 23 = .ok (.istore_n 1, 1) := by decide +kernel
theorem dX0_greatest_24 : decode cX0_greatest 24 = .ok (.iinc 2 1, 3) := by decide +kernel
theorem dX0_greatest_27 : decode cX0_greatest 27 = .ok (.goto (-23), 3) := by decide +kernel
theorem dX0_greatest_30 : decode cX0_greatest 30 = .ok (.iload_n 1, 1) := by decide +kernel
theorem dX0_greatest_31 : decode cX0_greatest 31 = .ok (.ireturn, 1) := by decide +kernel
theorem dX1_init_0 : decode cX1_init 0 = .ok (.aload_n 0, 1) := by decide +kernel
theorem dX1_init_1 : decode cX1_init 1 = .ok (.invokespecial 3, 3) := by decide +kernel
theorem dX1_init_4 : decode cX1_init 4 = .ok (.aload_n 0, 1) := by decide +kernel
theorem dX1_init_5 : decode cX1_init 5 = .ok (.invokevirtual 9, 3) := by decide +kernel
theorem dX1_init_8 : decode cX1_init 8 = .ok (.return_, 1) := by decide +kernel
theorem dX1_clear_0 : decode cX1_clear 0 = .ok (.aload_n 0, 1) := by decide +kernel
theorem dX1_clear_1 : decode cX1_clear 1 = .ok (.iconst (-1), 1) := by decide +kernel
theorem dX1_clear_2 : decode cX1_clear 2 = .ok (.putfield 14, 3) := by decide +kernel
theorem dX1_clear_5 : decode cX1_clear 5 = .ok (.aload_n 0, 1) := by decide +kernel
theorem dX1_clear_6 : decode cX1_clear 6 = .ok (.iconst (-1), 1) := by decide +kernel
theorem dX1_clear_7 : decode cX1_clear 7 = .ok (.putfield 18, 3) := by decide +kernel
theorem dX1_clear_10 : decode cX1_clear 10 = .ok (.aload_n 0, 1) := by decide +kernel
theorem dX1_clear_11 : decode cX1_clear 11 = .ok (.iconst 0, 1) := by decide +kernel
theorem dX1_clear_12 : decode cX1_clear 12 = .ok (.putfield 21, 3) := by decide +kernel
theorem dX1_clear_15 : decode cX1_clear 15 = .ok (.aload_n 0, 1) := by decide +kernel
theorem dX1_clear_16 : decode cX1_clear 16 = .ok (.iconst 1, 1) := by decide +kernel
theorem dX1_clear_17 : decode cX1_clear 17 = .ok (.putfield 24, 3) := by decide +kernel
theorem dX1_clear_20 : decode cX1_clear 20 = .ok (.aload_n 0, 1) := by decide +kernel
theorem dX1_clear_21 : decode cX1_clear 21 = .ok (.iconst (-1), 1) := by decide +kernel
theorem dX1_clear_22 : decode cX1_clear 22 = .ok (.putfield 27, 3) := by decide +kernel
theorem dX1_clear_25 : decode cX1_clear 25 = .ok (.aload_n 0, 1) := by decide +kernel
theorem dX1_clear_26 : decode cX1_clear 26 = .ok (.iconst 0, 1) := by decide +kernel
theorem dX1_clear_27 : decode cX1_clear 27 = .ok (.putfield 30, 3) := by decide +kernel
theorem dX1_clear_30 : decode cX1_clear 30 = .ok (.aload_n 0, 1) := by decide +kernel
theorem dX1_clear_31 : decode cX1_clear 31 = .ok (.iconst 0, 1) := by decide +kernel
theorem dX1_clear_32 : decode cX1_clear 32 = .ok (.putfield 33, 3) := by decide +kernel
theorem dX1_clear_35 : decode cX1_clear 35 = .ok (.aload_n 0, 1) := by decide +kernel
theorem dX1_clear_36 : decode cX1_clear 36 = .ok (.iconst 0, 1) := by decide +kernel
theorem dX1_clear_37 : decode cX1_clear 37 = .ok (.putfield 36, 3) := by decide +kernel
theorem dX1_clear_40 : decode cX1_clear 40 = .ok (.aload_n 0, 1) := by decide +kernel
theorem dX1_clear_41 : decode cX1_clear 41 = .ok (.iconst 0, 1) := by decide +kernel
theorem dX1_clear_42 : decode cX1_clear 42 = .ok (.putfield 40, 3) := by decide +kernel
theorem dX1_clear_45 : decode cX1_clear 45 = .ok (.return_, 1) := by decide +kernel
theorem dX1_become_0 : decode cX1_become 0 = .ok (.aload_n 0, 1) := by decide +kernel
theorem dX1_become_1 : decode cX1_become 1 = .ok (.aload_n 1, 1) := by decide +kernel
theorem dX1_become_2 : decode cX1_become 2 = .ok (.getfield 14, 3) := by decide +kernel
theorem dX1_become_5 : decode cX1_become 5 = .ok (.putfield 14, 3) := by decide +kernel
theorem dX1_become_8 : decode cX1_become 8 = .ok (.aload_n 0, 1) := by decide +kernel
theorem dX1_become_9 : decode cX1_become 9 = .ok (.aload_n 1, 1) := by decide +kernel
theorem dX1_become_10 : decode cX1_become 10 = .ok (.getfield 18, 3) := by decide +kernel
theorem dX1_become_13 : decode cX1_become 13 = .ok (.putfield 18, 3) := by decide +kernel
theorem dX1_become_16 : decode cX1_become 16 = .ok (.aload_n 0, 1) := by decide +kernel
theorem dX1_become_17 : decode cX1_become 17 = .ok (.aload_n 1, 1) := by decide +kernel
theorem dX1_become_18 : decode cX1_become 18 = .ok (.getfield 21, 3) := by decide +kernel
theorem dX1_become_21 : decode cX1_become 21 = .ok (.putfield 21, 3) := by decide +kernel
theorem dX1_become_24 : decode cX1_become 24 = .ok (.aload_n 0, 1) := by decide +kernel
theorem dX1_become_25 : decode cX1_become 25 = .ok (.aload_n 1, 1) := by decide +kernel
theorem dX1_become_26 : decode cX1_become 26 = .ok (.getfield 24, 3) := by decide +kernel
theorem dX1_become_29 : decode cX1_become 29 = .ok (.putfield 24, 3) := by decide +kernel
theorem dX1_become_32 : decode cX1_become 32 = .ok (.aload_n 0, 1) := by decide +kernel
theorem dX1_become_33 : decode cX1_become 33 = .ok (.aload_n 1, 1) := by decide +kernel
theorem dX1_become_34 : decode cX1_become 34 = .ok (.getfield 27, 3) := by decide +kernel
theorem dX1_become_37 : decode cX1_become 37 = .ok (.putfield 27, 3) := by decide +kernel
theorem dX1_become_40 : decode cX1_become 40 = .ok (.aload_n 0, 1) := by decide +kernel
theorem dX1_become_41 : decode cX1_become 41 = .ok (.aload_n 1, 1) := by decide +kernel
theorem dX1_become_42 : decode cX1_become 42 = .ok (.getfield 30, 3) := by decide +kernel
theorem dX1_become_45 : decode cX1_become 45 = .ok (.putfield 30, 3) := by decide +kernel
theorem dX1_become_48 : decode cX1_become 48 = .ok (.aload_n 0, 1) := by decide +kernel
theorem dX1_become_49 : decode cX1_become 49 = .ok (.aload_n 1, 1) := by decide +kernel
theorem dX1_become_50 : decode cX1_become 50 = .ok (.getfield 33, 3) := by decide +kernel
theorem dX1_become_53 : decode cX1_become 53 = .ok (.putfield 33, 3) := by decide +kernel
theorem dX1_become_56 : decode cX1_become 56 = .ok (.aload_n 0, 1) := by decide +kernel
theorem dX1_become_57 : decode cX1_become 57 = .ok (.aload_n 1, 1) := by decide +kernel
theorem dX1_become_58 : decode cX1_become 58 = .ok (.getfield 36, 3) := by decide +kernel
theorem dX1_become_61 : decode cX1_become 61 = .ok (.putfield 36, 3) := by decide +kernel
theorem dX1_become_64 : decode cX1_become 64 = .ok (.aload_n 0, 1) := by decide +kernel
theorem dX1_become_65 : decode cX1_become 65 = .ok (.aload_n 1, 1) := by decide +kernel
theorem dX1_become_66 : decode cX1_become 66 = .ok (.getfield 40, 3) := by decide +kernel
theorem dX1_become_69 : decode cX1_become 69 = .ok (.putfield 40, 3) := by decide +kernel
theorem dX1_become_72 : decode cX1_become 72 = .ok (.return_, 1) := by decide +kernel
theorem dX1_lets_0 : decode cX1_lets 0 = .ok (.aload_n 0, 1) := by decide +kernel
theorem dX1_lets_1 : decode cX1_lets 1 = .ok (.getfield 27, 3) := by decide +kernel
theorem dX1_lets_4 : decode cX1_lets 4 = .ok (.iconst (-1), 1) := by decide +kernel
theorem dX1_lets_5 : decode cX1_lets 5 = .ok (.if_icmp .eq 17, 3) := by decide +kernel
theorem dX1_lets_8 : decode cX1_lets 8 = .ok (.aload_n 0, 1) := by decide +kernel
theorem dX1_lets_9 : decode cX1_lets 9 = .ok (.getfield 27, 3) := by decide +kernel
theorem dX1_lets_12 : decode cX1_lets 12 = .ok (.ifCond .ne 7, 3) := by decide +kernel
theorem dX1_lets_15 : decode cX1_lets 15 = .ok (.iconst 3, 1) := by decide +kernel
theorem dX1_lets_16 : decode cX1_lets 16 = .ok (.goto 5, 3) := by decide +kernel
theorem dX1_lets_19 : decode cX1_lets 19 = .ok (.bipush 103, 2) := by decide +kernel
theorem dX1_lets_21 : decode cX1_lets 21 = .ok (.ireturn, 1) := by decide +kernel
theorem dX1_lets_22 : decode cX1_lets 22 = .ok (.aload_n 0, 1) := by decide +kernel
theorem dX1_lets_23 : decode cX1_lets 23 = .ok (.getfield 30, 3) := by decide +kernel
theorem dX1_lets_26 : decode cX1_lets 26 = .ok (.istore_n 2, 1) := by decide +kernel
theorem dX1_lets_27 : decode cX1_lets 27 = .ok (.iconst 0, 1) := by decide +kernel
theorem dX1_lets_28 : decode cX1_lets 28 = .ok (.istore_n 3, 1) := by decide +kernel
theorem dX1_lets_29 : decode cX1_lets 29 = .ok (.iload_n 3, 1) := by decide +kernel
theorem dX1_lets_30 : decode cX1_lets 30 = .ok (.aload_n 1, 1) := by decide +kernel
theorem dX1_lets_31 : decode cX1_lets 31 = .ok (.arraylength, 1) := by decide +kernel
theorem dX1_lets_32 : decode cX1_lets 32 = .ok (.if_icmp .ge 39, 3) := by decide +kernel
theorem dX1_lets_35 : decode cX1_lets 35 = .ok (.aload_n 0, 1) := by decide +kernel
theorem dX1_lets_36 : decode cX1_lets 36 = .ok (.getfield 33, 3) := by decide +kernel
theorem dX1_lets_39 : decode cX1_lets 39 = .ok (.iload_n 3, 1) := by decide +kernel
theorem dX1_lets_40 : decode cX1_lets 40 = .ok (.ishr, 1) := by decide +kernel
theorem dX1_lets_41 : decode cX1_lets 41 = .ok (.iconst 1, 1) := by decide +kernel
theorem dX1_lets_42 : decode cX1_lets 42 = .ok (.iand, 1) := by decide +kernel
theorem dX1_lets_43 : decode cX1_lets 43 = .ok (.ifCond .eq 22, 3) := by decide +kernel
theorem dX1_lets_46 : decode cX1_lets 46 = .ok (.aload_n 1, 1) := by decide +kernel
theorem dX1_lets_47 : decode cX1_lets 47 = .ok (.iload_n 3, 1) := by decide +kernel
theorem dX1_lets_48 : decode cX1_lets 48 = .ok (.iaload, 1) := by decide +kernel
theorem dX1_lets_49 : decode cX1_lets 49 = .ok (.iconst (-1), 1) := by decide +kernel
theorem dX1_lets_50 : decode cX1_lets 50 = .ok (.if_icmp .ne 7, 3) := by decide +kernel
theorem dX1_lets_53 : decode cX1_lets 53 = .ok (.sipush 255, 3) := by decide +kernel
theorem dX1_lets_56 : decode cX1_lets 56 = .ok (.ireturn, 1) := by decide +kernel
theorem dX1_lets_57 : decode cX1_lets 57 = .ok (.iload_n 2, 1) := by decide +kernel
theorem dX1_lets_58 : decode cX1_lets 58 = .ok (.iconst 1, 1) := by decide +kernel
theorem dX1_lets_59 : decode cX1_lets 59 = .ok (.aload_n 1, 1) := by decide +kernel
theorem dX1_lets_60 : decode cX1_lets 60 = .ok (.iload_n 3, 1) := by decide +kernel
theorem dX1_lets_61 : decode cX1_lets 61 = .ok (.iaload, 1) := by decide +kernel
theorem dX1_lets_62 : decode cX1_lets 62 = .ok (.ishl, 1) := by decide +kernel
theorem dX1_lets_63 : decode cX1_lets 63 = .ok (.ior, 1) := by decide +kernel
theorem dX1_lets_64 : decode cX1_lets 64 = .ok (.istore_n 2, 1) := by decide +kernel
theorem dX1_lets_65 : decode cX1_lets 65 = .ok (.iinc 3 1, 3) := by decide +kernel
theorem dX1_lets_68 : decode cX1_lets 68 = .ok (.goto (-39), 3) := by decide +kernel
theorem dX1_lets_71 : decode cX1_lets 71 = .ok (.aload_n 0, 1) := by decide +kernel
theorem dX1_lets_72 : decode cX1_lets 72 = .ok (.getfield 36, 3) := by decide +kernel
theorem dX1_lets_75 : decode cX1_lets 75 = .ok (.ifCond .eq 13, 3) := by decide +kernel
theorem dX1_lets_78 : decode cX1_lets 78 = .ok (.sipush 255, 3) := by decide +kernel
theorem dX1_lets_81 : decode cX1_lets 81 = .ok (.iload_n 2, 1) := by decide +kernel
theorem dX1_lets_82 : decode cX1_lets 82 = .ok (.iconst (-1), 1) := by decide +kernel
theorem dX1_lets_83 : decode cX1_lets 83 = .ok (.ixor, 1) := by decide +kernel
theorem dX1_lets_84 : decode cX1_lets 84 = .ok (.iand, 1) := by decide +kernel
theorem dX1_lets_85 : decode cX1_lets 85 = .ok (.goto 4, 3) := by decide +kernel
theorem dX1_lets_88 : decode cX1_lets 88 = .ok (.iload_n 2, 1) := by decide +kernel
theorem dX1_lets_89 : decode cX1_lets 89 = .ok (.ireturn, 1) := by decide +kernel
theorem dX2_init_0 : decode cX2_init 0 = .ok (.aload_n 0, 1) := by decide +kernel
theorem dX2_init_1 : decode cX2_init 1 = .ok (.invokespecial 3, 3) := by decide +kernel
theorem dX2_init_4 : decode cX2_init 4 = .ok (.aload_n 0, 1) := by decide +kernel
theorem dX2_init_5 : decode cX2_init 5 = .ok (.iconst 0, 1) := by decide +kernel
theorem dX2_init_6 : decode cX2_init 6 = .ok (.iconst 0, 1) := by decide +kernel
theorem dX2_init_7 : decode cX2_init 7 = .ok (.invokevirtual 9, 3) := by decide +kernel
theorem dX2_init_10 : decode cX2_init 10 = .ok (.return_, 1) := by decide +kernel
theorem dX2_start_0 : decode cX2_start 0 = .ok (.aload_n 0, 1) := by decide +kernel
theorem dX2_start_1 : decode cX2_start 1 = .ok (.iload_n 1, 1) := by decide +kernel
theorem dX2_start_2 : decode cX2_start 2 = .ok (.putfield 15, 3) := by decide +kernel
theorem dX2_start_5 : decode cX2_start 5 = .ok (.aload_n 0, 1) := by decide +kernel
theorem dX2_start_6 : decode cX2_start 6 = .ok (.iload_n 2, 1) := by decide +kernel
theorem dX2_start_7 : decode cX2_start 7 = .ok (.putfield 19, 3) := by decide +kernel
theorem dX2_start_10 : decode cX2_start 10 = .ok (.aload_n 0, 1) := by decide +kernel
theorem dX2_start_11 : decode cX2_start 11 = .ok (.iconst (-1), 1) := by decide +kernel
theorem dX2_start_12 : decode cX2_start 12 = .ok (.putfield 22, 3) := by decide +kernel
theorem dX2_start_15 : decode cX2_start 15 = .ok (.aload_n 0, 1) := by decide +kernel
theorem dX2_start_16 : decode cX2_start 16 = .ok (.iconst (-1), 1) := by decide +kernel
theorem dX2_start_17 : decode cX2_start 17 = .ok (.putfield 25, 3) := by decide +kernel
theorem dX2_start_20 : decode cX2_start 20 = .ok (.aload_n 0, 1) := by decide +kernel
theorem dX2_start_21 : decode cX2_start 21 = .ok (.lconst 0, 1) := by decide +kernel
theorem dX2_start_22 : decode cX2_start 22 = .ok (.putfield 28, 3) := by decide +kernel
theorem dX2_start_25 : decode cX2_start 25 = .ok (.return_, 1) := by decide +kernel
theorem dX2_become_0 : decode cX2_become 0 = .ok (.aload_n 0, 1) := by decide +kernel
theorem dX2_become_1 : decode cX2_become 1 = .ok (.aload_n 1, 1) := by decide +kernel
theorem dX2_become_2 : decode cX2_become 2 = .ok (.getfield 15, 3) := by decide +kernel
theorem dX2_become_5 : decode cX2_become 5 = .ok (.putfield 15, 3) := by decide +kernel
theorem dX2_become_8 : decode cX2_become 8 = .ok (.aload_n 0, 1) := by decide +kernel
theorem dX2_become_9 : decode cX2_become 9 = .ok (.aload_n 1, 1) := by decide +kernel
theorem dX2_become_10 : decode cX2_become 10 = .ok (.getfield 19, 3) := by decide +kernel
theorem dX2_become_13 : decode cX2_become 13 = .ok (.putfield 19, 3) := by decide +kernel
theorem dX2_become_16 : decode cX2_become 16 = .ok (.aload_n 0, 1) := by decide +kernel
theorem dX2_become_17 : decode cX2_become 17 = .ok (.aload_n 1, 1) := by decide +kernel
theorem dX2_become_18 : decode cX2_become 18 = .ok (.getfield 22, 3) := by decide +kernel
theorem dX2_become_21 : decode cX2_become 21 = .ok (.putfield 22, 3) := by decide +kernel
theorem dX2_become_24 : decode cX2_become 24 = .ok (.aload_n 0, 1) := by decide +kernel
theorem dX2_become_25 : decode cX2_become 25 = .ok (.aload_n 1, 1) := by decide +kernel
theorem dX2_become_26 : decode cX2_become 26 = .ok (.getfield 25, 3) := by decide +kernel
theorem dX2_become_29 : decode cX2_become 29 = .ok (.putfield 25, 3) := by decide +kernel
theorem dX2_become_32 : decode cX2_become 32 = .ok (.aload_n 0, 1) := by decide +kernel
theorem dX2_become_33 : decode cX2_become 33 = .ok (.aload_n 1, 1) := by decide +kernel
theorem dX2_become_34 : decode cX2_become 34 = .ok (.getfield 28, 3) := by decide +kernel
theorem dX2_become_37 : decode cX2_become 37 = .ok (.putfield 28, 3) := by decide +kernel
theorem dX2_become_40 : decode cX2_become 40 = .ok (.return_, 1) := by decide +kernel
theorem dX2_isOf_0 : decode cX2_isOf 0 = .ok (.iload_n 1, 1) := by decide +kernel
theorem dX2_isOf_1 : decode cX2_isOf 1 = .ok (.ifCond .eq 11, 3) := by decide +kernel
theorem dX2_isOf_4 : decode cX2_isOf 4 = .ok (.iload_n 1, 1) := by decide +kernel
theorem dX2_isOf_5 : decode cX2_isOf 5 = .ok (.aload_n 0, 1) := by decide +kernel
theorem dX2_isOf_6 : decode cX2_isOf 6 = .ok (.getfield 15, 3) := by decide +kernel
theorem dX2_isOf_9 : decode cX2_isOf 9 = .ok (.if_icmp .ne 5, 3) := by decide +kernel
theorem dX2_isOf_12 : decode cX2_isOf 12 = .ok (.iconst 1, 1) := by decide +kernel
theorem dX2_isOf_13 : decode cX2_isOf 13 = .ok (.ireturn, 1) := by decide +kernel
theorem dX2_isOf_14 : decode cX2_isOf 14 = .ok (.aload_n 0, 1) := by decide +kernel
theorem dX2_isOf_15 : decode cX2_isOf 15 = .ok (.getfield 15, 3) := by decide +kernel
theorem dX2_isOf_18 : decode cX2_isOf 18 = .ok (.iconst 4, 1) := by decide +kernel
theorem dX2_isOf_19 : decode cX2_isOf 19 = .ok (.if_icmp .eq 15, 3) := by decide +kernel
theorem dX2_isOf_22 : decode cX2_isOf 22 = .ok (.iload_n 1, 1) := by decide +kernel
theorem dX2_isOf_23 : decode cX2_isOf 23 = .ok (.aload_n 0, 1) := by decide +kernel
theorem dX2_isOf_24 : decode cX2_isOf 24 = .ok (.getfield 15, 3) := by decide +kernel
theorem dX2_isOf_27 : decode cX2_isOf 27 = .ok (.if_icmp .ge 7, 3) := by decide +kernel
theorem dX2_isOf_30 : decode cX2_isOf 30 = .ok (.iconst 1, 1) := by decide +kernel
theorem dX2_isOf_31 : decode cX2_isOf 31 = .ok (.goto 4, 3) := by decide +kernel
theorem dX2_isOf_34 : decode cX2_isOf 34 = .ok (.iconst 0, 1) := by decide +kernel
theorem dX2_isOf_35 : decode cX2_isOf 35 = .ok (.ireturn, 1) := by decide +kernel
theorem dX2_tells_0 : decode cX2_tells 0 = .ok (.iload_n 1, 1) := by decide +kernel
theorem dX2_tells_1 : decode cX2_tells 1 = .ok (.tableswitch 85 1 3 #[27, 35, 47], 27) := by decide +kernel
theorem dX2_tells_28 : decode cX2_tells 28 = .ok (.aload_n 0, 1) := by decide +kernel
theorem dX2_tells_29 : decode cX2_tells 29 = .ok (.getfield 28, 3) := by decide +kernel
theorem dX2_tells_32 : decode cX2_tells 32 = .ok (.invokestatic 32, 3) := by decide +kernel
theorem dX2_tells_35 : decode cX2_tells 35 = .ok (.ireturn, 1) := by decide +kernel
theorem dX2_tells_36 : decode cX2_tells 36 = .ok (.aload_n 0, 1) := by decide +kernel
theorem dX2_tells_37 : decode cX2_tells 37 = .ok (.getfield 28, 3) := by decide +kernel
theorem dX2_tells_40 : decode cX2_tells 40 = .ok (.ldc2_w 40, 3) := by decide +kernel
theorem dX2_tells_43 : decode cX2_tells 43 = .ok (.land, 1) := by decide +kernel
theorem dX2_tells_44 : decode cX2_tells 44 = .ok (.invokestatic 32, 3) := by decide +kernel
theorem dX2_tells_47 : decode cX2_tells 47 = .ok (.ireturn, 1) := by decide +kernel
theorem dX2_tells_48 : decode cX2_tells 48 = .ok (.aload_n 0, 1) := by decide +kernel
theorem dX2_tells_49 : decode cX2_tells 49 = .ok (.getfield 28, 3) := by decide +kernel
theorem dX2_tells_52 : decode cX2_tells 52 = .ok (.lconst 0, 1) := by decide +kernel
theorem dX2_tells_53 : decode cX2_tells 53 = .ok (.lcmp, 1) := by decide +kernel
theorem dX2_tells_54 : decode cX2_tells 54 = .ok (.ifCond .ne 7, 3) := by decide +kernel
theorem dX2_tells_57 : decode cX2_tells 57 = .ok (.iconst (-1), 1) := by decide +kernel
theorem dX2_tells_58 : decode cX2_tells 58 = .ok (.goto 27, 3) := by decide +kernel
theorem dX2_tells_61 : decode cX2_tells 61 = .ok (.bipush 100, 2) := by decide +kernel
theorem dX2_tells_63 : decode cX2_tells 63 = .ok (.aload_n 0, 1) := by decide +kernel
theorem dX2_tells_64 : decode cX2_tells 64 = .ok (.getfield 28, 3) := by decide +kernel
theorem dX2_tells_67 : decode cX2_tells 67 = .ok (.invokestatic 42, 3) := by decide +kernel
theorem dX2_tells_70 : decode cX2_tells 70 = .ok (.invokestatic 45, 3) := by decide +kernel
theorem dX2_tells_73 : decode cX2_tells 73 = .ok (.imul, 1) := by decide +kernel
theorem dX2_tells_74 : decode cX2_tells 74 = .ok (.aload_n 0, 1) := by decide +kernel
theorem dX2_tells_75 : decode cX2_tells 75 = .ok (.getfield 28, 3) := by decide +kernel
theorem dX2_tells_78 : decode cX2_tells 78 = .ok (.invokestatic 49, 3) := by decide +kernel
theorem dX2_tells_81 : decode cX2_tells 81 = .ok (.invokestatic 45, 3) := by decide +kernel
theorem dX2_tells_84 : decode cX2_tells 84 = .ok (.iadd, 1) := by decide +kernel
theorem dX2_tells_85 : decode cX2_tells 85 = .ok (.ireturn, 1) := by decide +kernel
theorem dX2_tells_86 : decode cX2_tells 86 = .ok (.aload_n 0, 1) := by decide +kernel
theorem dX2_tells_87 : decode cX2_tells 87 = .ok (.getfield 25, 3) := by decide +kernel
theorem dX2_tells_90 : decode cX2_tells 90 = .ok (.ireturn, 1) := by decide +kernel
theorem dX3_init_0 : decode cX3_init 0 = .ok (.aload_n 0, 1) := by decide +kernel
theorem dX3_init_1 : decode cX3_init 1 = .ok (.invokespecial 3, 3) := by decide +kernel
theorem dX3_init_4 : decode cX3_init 4 = .ok (.aload_n 0, 1) := by decide +kernel
theorem dX3_init_5 : decode cX3_init 5 = .ok (.bipush 10, 2) := by decide +kernel
theorem dX3_init_7 : decode cX3_init 7 = .ok (.anewarray 9, 3) := by decide +kernel
theorem dX3_init_10 : decode cX3_init 10 = .ok (.putfield 11, 3) := by decide +kernel
theorem dX3_init_13 : decode cX3_init 13 = .ok (.iconst 0, 1) := by decide +kernel
theorem dX3_init_14 : decode cX3_init 14 = .ok (.istore_n 2, 1) := by decide +kernel
theorem dX3_init_15 : decode cX3_init 15 = .ok (.iload_n 2, 1) := by decide +kernel
theorem dX3_init_16 : decode cX3_init 16 = .ok (.bipush 10, 2) := by decide +kernel
theorem dX3_init_18 : decode cX3_init 18 = .ok (.if_icmp .ge 22, 3) := by decide +kernel
theorem dX3_init_21 : decode cX3_init 21 = .ok (.aload_n 0, 1) := by decide +kernel
theorem dX3_init_22 : decode cX3_init 22 = .ok (.getfield 11, 3) := by decide +kernel
theorem dX3_init_25 : decode cX3_init 25 = .ok (.iload_n 2, 1) := by decide +kernel
theorem dX3_init_26 : decode cX3_init 26 = .ok (.new 9, 3) := by decide +kernel
theorem dX3_init_29 : decode cX3_init 29 = .ok (.dup, 1) := by decide +kernel
theorem dX3_init_30 : decode cX3_init 30 = .ok (.invokespecial 17, 3) := by decide +kernel
theorem dX3_init_33 : decode cX3_init 33 = .ok (.aastore, 1) := by decide +kernel
theorem dX3_init_34 : decode cX3_init 34 = .ok (.iinc 2 1, 3) := by decide +kernel
theorem dX3_init_37 : decode cX3_init 37 = .ok (.goto (-22), 3) := by decide +kernel
theorem dX3_init_40 : decode cX3_init 40 = .ok (.aload_n 0, 1) := by decide +kernel
theorem dX3_init_41 : decode cX3_init 41 = .ok (.iconst 0, 1) := by decide +kernel
theorem dX3_init_42 : decode cX3_init 42 = .ok (.putfield 18, 3) := by decide +kernel
theorem dX3_init_45 : decode cX3_init 45 = .ok (.aload_n 0, 1) := by decide +kernel
theorem dX3_init_46 : decode cX3_init 46 = .ok (.bipush 24, 2) := by decide +kernel
theorem dX3_init_48 : decode cX3_init 48 = .ok (.anewarray 22, 3) := by decide +kernel
theorem dX3_init_51 : decode cX3_init 51 = .ok (.putfield 24, 3) := by decide +kernel
theorem dX3_init_54 : decode cX3_init 54 = .ok (.iconst 0, 1) := by decide +kernel
theorem dX3_init_55 : decode cX3_init 55 = .ok (.istore_n 2, 1) := by decide +kernel
theorem dX3_init_56 : decode cX3_init 56 = .ok (.iload_n 2, 1) := by decide +kernel
theorem dX3_init_57 : decode cX3_init 57 = .ok (.bipush 24, 2) := by decide +kernel
theorem dX3_init_59 : decode cX3_init 59 = .ok (.if_icmp .ge 22, 3) := by decide +kernel
theorem dX3_init_62 : decode cX3_init 62 = .ok (.aload_n 0, 1) := by decide +kernel
theorem dX3_init_63 : decode cX3_init 63 = .ok (.getfield 24, 3) := by decide +kernel
theorem dX3_init_66 : decode cX3_init 66 = .ok (.iload_n 2, 1) := by decide +kernel
theorem dX3_init_67 : decode cX3_init 67 = .ok (.new 22, 3) := by decide +kernel
theorem dX3_init_70 : decode cX3_init 70 = .ok (.dup, 1) := by decide +kernel
theorem dX3_init_71 : decode cX3_init 71 = .ok (.invokespecial 28, 3) := by decide +kernel
theorem dX3_init_74 : decode cX3_init 74 = .ok (.aastore, 1) := by decide +kernel
theorem dX3_init_75 : decode cX3_init 75 = .ok (.iinc 2 1, 3) := by decide +kernel
theorem dX3_init_78 : decode cX3_init 78 = .ok (.goto (-22), 3) := by decide +kernel
theorem dX3_init_81 : decode cX3_init 81 = .ok (.aload_n 0, 1) := by decide +kernel
theorem dX3_init_82 : decode cX3_init 82 = .ok (.iconst 0, 1) := by decide +kernel
theorem dX3_init_83 : decode cX3_init 83 = .ok (.putfield 29, 3) := by decide +kernel
theorem dX3_init_86 : decode cX3_init 86 = .ok (.aload_n 0, 1) := by decide +kernel
theorem dX3_init_87 : decode cX3_init 87 = .ok (.iconst 4, 1) := by decide +kernel
theorem dX3_init_88 : decode cX3_init 88 = .ok (.newarray .int, 2) := by decide +kernel
theorem dX3_init_90 : decode cX3_init 90 = .ok (.putfield 32, 3) := by decide +kernel
theorem dX3_init_93 : decode cX3_init 93 = .ok (.iconst 0, 1) := by decide +kernel
theorem dX3_init_94 : decode cX3_init 94 = .ok (.istore_n 2, 1) := by decide +kernel
theorem dX3_init_95 : decode cX3_init 95 = .ok (.iload_n 2, 1) := by decide +kernel
theorem dX3_init_96 : decode cX3_init 96 = .ok (.iconst 4, 1) := by decide +kernel
theorem dX3_init_97 : decode cX3_init 97 = .ok (.if_icmp .ge 16, 3) := by decide +kernel
theorem dX3_init_100 : decode cX3_init 100 = .ok (.aload_n 0, 1) := by decide +kernel
theorem dX3_init_101 : decode cX3_init 101 = .ok (.getfield 32, 3) := by decide +kernel
theorem dX3_init_104 : decode cX3_init 104 = .ok (.iload_n 2, 1) := by decide +kernel
theorem dX3_init_105 : decode cX3_init 105 = .ok (.iconst (-1), 1) := by decide +kernel
theorem dX3_init_106 : decode cX3_init 106 = .ok (.iastore, 1) := by decide +kernel
theorem dX3_init_107 : decode cX3_init 107 = .ok (.iinc 2 1, 3) := by decide +kernel
theorem dX3_init_110 : decode cX3_init 110 = .ok (.goto (-15), 3) := by decide +kernel
theorem dX3_init_113 : decode cX3_init 113 = .ok (.aload_n 0, 1) := by decide +kernel
theorem dX3_init_114 : decode cX3_init 114 = .ok (.new 36, 3) := by decide +kernel
theorem dX3_init_117 : decode cX3_init 117 = .ok (.dup, 1) := by decide +kernel
theorem dX3_init_118 : decode cX3_init 118 = .ok (.invokespecial 38, 3) := by decide +kernel
theorem dX3_init_121 : decode cX3_init 121 = .ok (.putfield 39, 3) := by decide +kernel
theorem dX3_init_124 : decode cX3_init 124 = .ok (.aload_n 0, 1) := by decide +kernel
theorem dX3_init_125 : decode cX3_init 125 = .ok (.new 43, 3) := by decide +kernel
theorem dX3_init_128 : decode cX3_init 128 = .ok (.dup, 1) := by decide +kernel
theorem dX3_init_129 : decode cX3_init 129 = .ok (.invokespecial 45, 3) := by decide +kernel
theorem dX3_init_132 : decode cX3_init 132 = .ok (.putfield 46, 3) := by decide +kernel
theorem dX3_init_135 : decode cX3_init 135 = .ok (.aload_n 0, 1) := by decide +kernel
theorem dX3_init_136 : decode cX3_init 136 = .ok (.new 50, 3) := by decide +kernel
theorem dX3_init_139 : decode cX3_init 139 = .ok (.dup, 1) := by decide +kernel
theorem dX3_init_140 : decode cX3_init 140 = .ok (.aload_n 1, 1) := by decide +kernel
theorem dX3_init_141 : decode cX3_init 141 = .ok (.invokespecial 52, 3) := by decide +kernel
theorem dX3_init_144 : decode cX3_init 144 = .ok (.putfield 55, 3) := by decide +kernel
theorem dX3_init_147 : decode cX3_init 147 = .ok (.aload_n 0, 1) := by decide +kernel
theorem dX3_init_148 : decode cX3_init 148 = .ok (.bipush 10, 2) := by decide +kernel
theorem dX3_init_150 : decode cX3_init 150 = .ok (.newarray .int, 2) := by decide +kernel
theorem dX3_init_152 : decode cX3_init 152 = .ok (.putfield 59, 3) := by decide +kernel
theorem dX3_init_155 : decode cX3_init 155 = .ok (.aload_n 0, 1) := by decide +kernel
theorem dX3_init_156 : decode cX3_init 156 = .ok (.bipush 10, 2) := by decide +kernel
theorem dX3_init_158 : decode cX3_init 158 = .ok (.newarray .int, 2) := by decide +kernel
theorem dX3_init_160 : decode cX3_init 160 = .ok (.putfield 62, 3) := by decide +kernel
theorem dX3_init_163 : decode cX3_init 163 = .ok (.return_, 1) := by decide +kernel
theorem dX3_become_0 : decode cX3_become 0 = .ok (.aload_n 0, 1) := by decide +kernel
theorem dX3_become_1 : decode cX3_become 1 = .ok (.aload_n 1, 1) := by decide +kernel
theorem dX3_become_2 : decode cX3_become 2 = .ok (.getfield 18, 3) := by decide +kernel
theorem dX3_become_5 : decode cX3_become 5 = .ok (.putfield 18, 3) := by decide +kernel
theorem dX3_become_8 : decode cX3_become 8 = .ok (.iconst 0, 1) := by decide +kernel
theorem dX3_become_9 : decode cX3_become 9 = .ok (.istore_n 2, 1) := by decide +kernel
theorem dX3_become_10 : decode cX3_become 10 = .ok (.iload_n 2, 1) := by decide +kernel
theorem dX3_become_11 : decode cX3_become 11 = .ok (.aload_n 0, 1) := by decide +kernel
theorem dX3_become_12 : decode cX3_become 12 = .ok (.getfield 18, 3) := by decide +kernel
theorem dX3_become_15 : decode cX3_become 15 = .ok (.if_icmp .ge 24, 3) := by decide +kernel
theorem dX3_become_18 : decode cX3_become 18 = .ok (.aload_n 0, 1) := by decide +kernel
theorem dX3_become_19 : decode cX3_become 19 = .ok (.getfield 11, 3) := by decide +kernel
theorem dX3_become_22 : decode cX3_become 22 = .ok (.iload_n 2, 1) := by decide +kernel
theorem dX3_become_23 : decode cX3_become 23 = .ok (.aaload, 1) := by decide +kernel
theorem dX3_become_24 : decode cX3_become 24 = .ok (.aload_n 1, 1) := by decide +kernel
theorem dX3_become_25 : decode cX3_become 25 = .ok (.getfield 11, 3) := by decide +kernel
theorem dX3_become_28 : decode cX3_become 28 = .ok (.iload_n 2, 1) := by decide +kernel
theorem dX3_become_29 : decode cX3_become 29 = .ok (.aaload, 1) := by decide +kernel
theorem dX3_become_30 : decode cX3_become 30 = .ok (.invokevirtual 65, 3) := by decide +kernel
theorem dX3_become_33 : decode cX3_become 33 = .ok (.iinc 2 1, 3) := by decide +kernel
theorem dX3_become_36 : decode cX3_become 36 = .ok (.goto (-26), 3) := by decide +kernel
theorem dX3_become_39 : decode cX3_become 39 = .ok (.aload_n 0, 1) := by decide +kernel
theorem dX3_become_40 : decode cX3_become 40 = .ok (.aload_n 1, 1) := by decide +kernel
theorem dX3_become_41 : decode cX3_become 41 = .ok (.getfield 29, 3) := by decide +kernel
theorem dX3_become_44 : decode cX3_become 44 = .ok (.putfield 29, 3) := by decide +kernel
theorem dX3_become_47 : decode cX3_become 47 = .ok (.iconst 0, 1) := by decide +kernel
theorem dX3_become_48 : decode cX3_become 48 = .ok (.istore_n 2, 1) := by decide +kernel
theorem dX3_become_49 : decode cX3_become 49 = .ok (.iload_n 2, 1) := by decide +kernel
theorem dX3_become_50 : decode cX3_become 50 = .ok (.aload_n 0, 1) := by decide +kernel
theorem dX3_become_51 : decode cX3_become 51 = .ok (.getfield 29, 3) := by decide +kernel
theorem dX3_become_54 : decode cX3_become 54 = .ok (.if_icmp .ge 24, 3) := by decide +kernel
theorem dX3_become_57 : decode cX3_become 57 = .ok (.aload_n 0, 1) := by decide +kernel
theorem dX3_become_58 : decode cX3_become 58 = .ok (.getfield 24, 3) := by decide +kernel
theorem dX3_become_61 : decode cX3_become 61 = .ok (.iload_n 2, 1) := by decide +kernel
theorem dX3_become_62 : decode cX3_become 62 = .ok (.aaload, 1) := by decide +kernel
theorem dX3_become_63 : decode cX3_become 63 = .ok (.aload_n 1, 1) := by decide +kernel
theorem dX3_become_64 : decode cX3_become 64 = .ok (.getfield 24, 3) := by decide +kernel
theorem dX3_become_67 : decode cX3_become 67 = .ok (.iload_n 2, 1) := by decide +kernel
theorem dX3_become_68 : decode cX3_become 68 = .ok (.aaload, 1) := by decide +kernel
theorem dX3_become_69 : decode cX3_become 69 = .ok (.invokevirtual 69, 3) := by decide +kernel
theorem dX3_become_72 : decode cX3_become 72 = .ok (.iinc 2 1, 3) := by decide +kernel
theorem dX3_become_75 : decode cX3_become 75 = .ok (.goto (-26), 3) := by decide +kernel
theorem dX3_become_78 : decode cX3_become 78 = .ok (.aload_n 1, 1) := by decide +kernel
theorem dX3_become_79 : decode cX3_become 79 = .ok (.getfield 32, 3) := by decide +kernel
theorem dX3_become_82 : decode cX3_become 82 = .ok (.iconst 0, 1) := by decide +kernel
theorem dX3_become_83 : decode cX3_become 83 = .ok (.aload_n 0, 1) := by decide +kernel
theorem dX3_become_84 : decode cX3_become 84 = .ok (.getfield 32, 3) := by decide +kernel
theorem dX3_become_87 : decode cX3_become 87 = .ok (.iconst 0, 1) := by decide +kernel
theorem dX3_become_88 : decode cX3_become 88 = .ok (.iconst 4, 1) := by decide +kernel
theorem dX3_become_89 : decode cX3_become 89 = .ok (.invokestatic 72, 3) := by decide +kernel
theorem dX3_become_92 : decode cX3_become 92 = .ok (.aload_n 0, 1) := by decide +kernel
theorem dX3_become_93 : decode cX3_become 93 = .ok (.getfield 39, 3) := by decide +kernel
theorem dX3_become_96 : decode cX3_become 96 = .ok (.aload_n 1, 1) := by decide +kernel
theorem dX3_become_97 : decode cX3_become 97 = .ok (.getfield 39, 3) := by decide +kernel
theorem dX3_become_100 : decode cX3_become 100 = .ok (.invokevirtual 78, 3) := by decide +kernel
theorem dX3_become_103 : decode cX3_become 103 = .ok (.aload_n 0, 1) := by decide +kernel
theorem dX3_become_104 : decode cX3_become 104 = .ok (.getfield 46, 3) := by decide +kernel
theorem dX3_become_107 : decode cX3_become 107 = .ok (.aload_n 1, 1) := by decide +kernel
theorem dX3_become_108 : decode cX3_become 108 = .ok (.getfield 46, 3) := by decide +kernel
theorem dX3_become_111 : decode cX3_become 111 = .ok (.invokevirtual 81, 3) := by decide +kernel
theorem dX3_become_114 : decode cX3_become 114 = .ok (.aload_n 0, 1) := by decide +kernel
theorem dX3_become_115 : decode cX3_become 115 = .ok (.getfield 55, 3) := by decide +kernel
theorem dX3_become_118 : decode cX3_become 118 = .ok (.aload_n 1, 1) := by decide +kernel
theorem dX3_become_119 : decode cX3_become 119 = .ok (.getfield 55, 3) := by decide +kernel
theorem dX3_become_122 : decode cX3_become 122 = .ok (.invokevirtual 84, 3) := by decide +kernel
theorem dX3_become_125 : decode cX3_become 125 = .ok (.return_, 1) := by decide +kernel
theorem dX3_hasField_0 : decode cX3_hasField 0 = .ok (.iload_n 1, 1) := by decide +kernel
theorem dX3_hasField_1 : decode cX3_hasField 1 = .ok (.ifCond .lt 15, 3) := by decide +kernel
theorem dX3_hasField_4 : decode cX3_hasField 4 = .ok (.iload_n 1, 1) := by decide +kernel
theorem dX3_hasField_5 : decode cX3_hasField 5 = .ok (.aload_n 0, 1) := by decide +kernel
theorem dX3_hasField_6 : decode cX3_hasField 6 = .ok (.getfield 18, 3) := by decide +kernel
theorem dX3_hasField_9 : decode cX3_hasField 9 = .ok (.if_icmp .ge 7, 3) := by decide +kernel
theorem dX3_hasField_12 : decode cX3_hasField 12 = .ok (.iconst 1, 1) := by decide +kernel
theorem dX3_hasField_13 : decode cX3_hasField 13 = .ok (.goto 4, 3) := by decide +kernel
theorem dX3_hasField_16 : decode cX3_hasField 16 = .ok (.iconst 0, 1) := by decide +kernel
theorem dX3_hasField_17 : decode cX3_hasField 17 = .ok (.ireturn, 1) := by decide +kernel
theorem dX3_hasDeed_0 : decode cX3_hasDeed 0 = .ok (.iload_n 1, 1) := by decide +kernel
theorem dX3_hasDeed_1 : decode cX3_hasDeed 1 = .ok (.ifCond .lt 15, 3) := by decide +kernel
theorem dX3_hasDeed_4 : decode cX3_hasDeed 4 = .ok (.iload_n 1, 1) := by decide +kernel
theorem dX3_hasDeed_5 : decode cX3_hasDeed 5 = .ok (.aload_n 0, 1) := by decide +kernel
theorem dX3_hasDeed_6 : decode cX3_hasDeed 6 = .ok (.getfield 29, 3) := by decide +kernel
theorem dX3_hasDeed_9 : decode cX3_hasDeed 9 = .ok (.if_icmp .ge 7, 3) := by decide +kernel
theorem dX3_hasDeed_12 : decode cX3_hasDeed 12 = .ok (.iconst 1, 1) := by decide +kernel
theorem dX3_hasDeed_13 : decode cX3_hasDeed 13 = .ok (.goto 4, 3) := by decide +kernel
theorem dX3_hasDeed_16 : decode cX3_hasDeed 16 = .ok (.iconst 0, 1) := by decide +kernel
theorem dX3_hasDeed_17 : decode cX3_hasDeed 17 = .ok (.ireturn, 1) := by decide +kernel
theorem dX3_addField_0 : decode cX3_addField 0 = .ok (.aload_n 0, 1) := by decide +kernel
theorem dX3_addField_1 : decode cX3_addField 1 = .ok (.getfield 11, 3) := by decide +kernel
theorem dX3_addField_4 : decode cX3_addField 4 = .ok (.aload_n 0, 1) := by decide +kernel
theorem dX3_addField_5 : decode cX3_addField 5 = .ok (.getfield 18, 3) := by decide +kernel
theorem dX3_addField_8 : decode cX3_addField 8 = .ok (.aaload, 1) := by decide +kernel
theorem dX3_addField_9 : decode cX3_addField 9 = .ok (.iload_n 1, 1) := by decide +kernel
theorem dX3_addField_10 : decode cX3_addField 10 = .ok (.iload_n 2, 1) := by decide +kernel
theorem dX3_addField_11 : decode cX3_addField 11 = .ok (.invokevirtual 87, 3) := by decide +kernel
theorem dX3_addField_14 : decode cX3_addField 14 = .ok (.aload_n 0, 1) := by decide +kernel
theorem dX3_addField_15 : decode cX3_addField 15 = .ok (.dup, 1) := by decide +kernel
theorem dX3_addField_16 : decode cX3_addField 16 = .ok (.getfield 18, 3) := by decide +kernel
theorem dX3_addField_19 : decode cX3_addField 19 = .ok (.iconst 1, 1) := by decide +kernel
theorem dX3_addField_20 : decode cX3_addField 20 = .ok (.iadd, 1) := by decide +kernel
theorem dX3_addField_21 : decode cX3_addField 21 = .ok (.putfield 18, 3) := by decide +kernel
theorem dX3_addField_24 : decode cX3_addField 24 = .ok (.aload_n 0, 1) := by decide +kernel
theorem dX3_addField_25 : decode cX3_addField 25 = .ok (.getfield 18, 3) := by decide +kernel
theorem dX3_addField_28 : decode cX3_addField 28 = .ok (.iconst 1, 1) := by decide +kernel
theorem dX3_addField_29 : decode cX3_addField 29 = .ok (.isub, 1) := by decide +kernel
theorem dX3_addField_30 : decode cX3_addField 30 = .ok (.ireturn, 1) := by decide +kernel
theorem dX3_asOf_0 : decode cX3_asOf 0 = .ok (.iconst 0, 1) := by decide +kernel
theorem dX3_asOf_1 : decode cX3_asOf 1 = .ok (.istore_n 2, 1) := by decide +kernel
theorem dX3_asOf_2 : decode cX3_asOf 2 = .ok (.iconst 0, 1) := by decide +kernel
theorem dX3_asOf_3 : decode cX3_asOf 3 = .ok (.istore_n 3, 1) := by decide +kernel
theorem dX3_asOf_4 : decode cX3_asOf 4 = .ok (.iload_n 3, 1) := by decide +kernel
theorem dX3_asOf_5 : decode cX3_asOf 5 = .ok (.aload_n 0, 1) := by decide +kernel
theorem dX3_asOf_6 : decode cX3_asOf 6 = .ok (.getfield 29, 3) := by decide +kernel
theorem dX3_asOf_9 : decode cX3_asOf 9 = .ok (.if_icmp .ge 40, 3) := by decide +kernel
theorem dX3_asOf_12 : decode cX3_asOf 12 = .ok (.aload_n 0, 1) := by decide +kernel
theorem dX3_asOf_13 : decode cX3_asOf 13 = .ok (.getfield 24, 3) := by decide +kernel
theorem dX3_asOf_16 : decode cX3_asOf 16 = .ok (.iload_n 3, 1) := by decide +kernel
theorem dX3_asOf_17 : decode cX3_asOf 17 = .ok (.aaload, 1) := by decide +kernel
theorem dX3_asOf_18 : decode cX3_asOf 18 = .ok (.getfield 91, 3) := by decide +kernel
theorem dX3_asOf_21 : decode cX3_asOf 21 = .ok (.ifCond .ne 22, 3) := by decide +kernel
theorem dX3_asOf_24 : decode cX3_asOf 24 = .ok (.aload_n 0, 1) := by decide +kernel
theorem dX3_asOf_25 : decode cX3_asOf 25 = .ok (.getfield 24, 3) := by decide +kernel
theorem dX3_asOf_28 : decode cX3_asOf 28 = .ok (.iload_n 3, 1) := by decide +kernel
theorem dX3_asOf_29 : decode cX3_asOf 29 = .ok (.aaload, 1) := by decide +kernel
theorem dX3_asOf_30 : decode cX3_asOf 30 = .ok (.getfield 95, 3) := by decide +kernel
theorem dX3_asOf_33 : decode cX3_asOf 33 = .ok (.iload_n 1, 1) := by decide +kernel
theorem dX3_asOf_34 : decode cX3_asOf 34 = .ok (.if_icmp .gt 9, 3) := by decide +kernel
theorem dX3_asOf_37 : decode cX3_asOf 37 = .ok (.iload_n 2, 1) := by decide +kernel
theorem dX3_asOf_38 : decode cX3_asOf 38 = .ok (.iconst 1, 1) := by decide +kernel
theorem dX3_asOf_39 : decode cX3_asOf 39 = .ok (.iload_n 3, 1) := by decide +kernel
theorem dX3_asOf_40 : decode cX3_asOf 40 = .ok (.ishl, 1) := by decide +kernel
theorem dX3_asOf_41 : decode cX3_asOf 41 = .ok (.ior, 1) := by decide +kernel
theorem dX3_asOf_42 : decode cX3_asOf 42 = .ok (.istore_n 2, 1) := by decide +kernel
theorem dX3_asOf_43 : decode cX3_asOf 43 = .ok (.iinc 3 1, 3) := by decide +kernel
theorem dX3_asOf_46 : decode cX3_asOf 46 = .ok (.goto (-42), 3) := by decide +kernel
theorem dX3_asOf_49 : decode cX3_asOf 49 = .ok (.iload_n 2, 1) := by decide +kernel
theorem dX3_asOf_50 : decode cX3_asOf 50 = .ok (.ireturn, 1) := by decide +kernel
theorem dX3_fill_0 : decode cX3_fill 0 = .ok (.aload_n 1, 1) := by decide +kernel
theorem dX3_fill_1 : decode cX3_fill 1 = .ok (.aload_n 0, 1) := by decide +kernel
theorem dX3_fill_2 : decode cX3_fill 2 = .ok (.getfield 18, 3) := by decide +kernel
theorem dX3_fill_5 : decode cX3_fill 5 = .ok (.invokevirtual 98, 3) := by decide +kernel
theorem dX3_fill_8 : decode cX3_fill 8 = .ok (.iconst 0, 1) := by decide +kernel
theorem dX3_fill_9 : decode cX3_fill 9 = .ok (.istore 4, 2) := by decide +kernel
theorem dX3_fill_11 : decode cX3_fill 11 = .ok (.iload 4, 2) := by decide +kernel
theorem dX3_fill_13 : decode cX3_fill 13 = .ok (.aload_n 0, 1) := by decide +kernel
theorem dX3_fill_14 : decode cX3_fill 14 = .ok (.getfield 29, 3) := by decide +kernel
theorem dX3_fill_17 : decode cX3_fill 17 = .ok (.if_icmp .ge 56, 3) := by decide +kernel
theorem dX3_fill_20 : decode cX3_fill 20 = .ok (.iload_n 3, 1) := by decide +kernel
theorem dX3_fill_21 : decode cX3_fill 21 = .ok (.iload 4, 2) := by decide +kernel
theorem dX3_fill_23 : decode cX3_fill 23 = .ok (.ishr, 1) := by decide +kernel
theorem dX3_fill_24 : decode cX3_fill 24 = .ok (.iconst 1, 1) := by decide +kernel
theorem dX3_fill_25 : decode cX3_fill 25 = .ok (.iand, 1) := by decide +kernel
theorem dX3_fill_26 : decode cX3_fill 26 = .ok (.ifCond .eq 41, 3) := by decide +kernel
theorem dX3_fill_29 : decode cX3_fill 29 = .ok (.aload_n 1, 1) := by decide +kernel
theorem dX3_fill_30 : decode cX3_fill 30 = .ok (.aload_n 0, 1) := by decide +kernel
theorem dX3_fill_31 : decode cX3_fill 31 = .ok (.getfield 24, 3) := by decide +kernel
theorem dX3_fill_34 : decode cX3_fill 34 = .ok (.iload 4, 2) := by decide +kernel
theorem dX3_fill_36 : decode cX3_fill 36 = .ok (.aaload, 1) := by decide +kernel
theorem dX3_fill_37 : decode cX3_fill 37 = .ok (.getfield 104, 3) := by decide +kernel
theorem dX3_fill_40 : decode cX3_fill 40 = .ok (.aload_n 0, 1) := by decide +kernel
theorem dX3_fill_41 : decode cX3_fill 41 = .ok (.getfield 24, 3) := by decide +kernel
theorem dX3_fill_44 : decode cX3_fill 44 = .ok (.iload 4, 2) := by decide +kernel
theorem dX3_fill_46 : decode cX3_fill 46 = .ok (.aaload, 1) := by decide +kernel
theorem dX3_fill_47 : decode cX3_fill 47 = .ok (.getfield 107, 3) := by decide +kernel
theorem dX3_fill_50 : decode cX3_fill 50 = .ok (.aload_n 0, 1) := by decide +kernel
theorem dX3_fill_51 : decode cX3_fill 51 = .ok (.getfield 24, 3) := by decide +kernel
theorem dX3_fill_54 : decode cX3_fill 54 = .ok (.iload 4, 2) := by decide +kernel
theorem dX3_fill_56 : decode cX3_fill 56 = .ok (.aaload, 1) := by decide +kernel
theorem dX3_fill_57 : decode cX3_fill 57 = .ok (.aload_n 0, 1) := by decide +kernel
theorem dX3_fill_58 : decode cX3_fill 58 = .ok (.getfield 32, 3) := by decide +kernel
theorem dX3_fill_61 : decode cX3_fill 61 = .ok (.invokevirtual 110, 3) := by decide +kernel
theorem dX3_fill_64 : decode cX3_fill 64 = .ok (.invokevirtual 114, 3) := by decide +kernel
theorem dX3_fill_67 : decode cX3_fill 67 = .ok (.iinc 4 1, 3) := by decide +kernel
theorem dX3_fill_70 : decode cX3_fill 70 = .ok (.goto (-59), 3) := by decide +kernel
theorem dX3_fill_73 : decode cX3_fill 73 = .ok (.iconst 0, 1) := by decide +kernel
theorem dX3_fill_74 : decode cX3_fill 74 = .ok (.istore 4, 2) := by decide +kernel
theorem dX3_fill_76 : decode cX3_fill 76 = .ok (.iload 4, 2) := by decide +kernel
theorem dX3_fill_78 : decode cX3_fill 78 = .ok (.aload_n 0, 1) := by decide +kernel
theorem dX3_fill_79 : decode cX3_fill 79 = .ok (.getfield 18, 3) := by decide +kernel
theorem dX3_fill_82 : decode cX3_fill 82 = .ok (.if_icmp .ge 82, 3) := by decide +kernel
theorem dX3_fill_85 : decode cX3_fill 85 = .ok (.aload_n 0, 1) := by decide +kernel
theorem dX3_fill_86 : decode cX3_fill 86 = .ok (.getfield 11, 3) := by decide +kernel
theorem dX3_fill_89 : decode cX3_fill 89 = .ok (.iload 4, 2) := by decide +kernel
theorem dX3_fill_91 : decode cX3_fill 91 = .ok (.aaload, 1) := by decide +kernel
theorem dX3_fill_92 : decode cX3_fill 92 = .ok (.getfield 118, 3) := by decide +kernel
theorem dX3_fill_95 : decode cX3_fill 95 = .ok (.iconst 4, 1) := by decide +kernel
theorem dX3_fill_96 : decode cX3_fill 96 = .ok (.if_icmp .ne 62, 3) := by decide +kernel
theorem dX3_fill_99 : decode cX3_fill 99 = .ok (.aload_n 0, 1) := by decide +kernel
theorem dX3_fill_100 : decode cX3_fill 100 = .ok (.getfield 11, 3) := by decide +kernel
theorem dX3_fill_103 : decode cX3_fill 103 = .ok (.iload 4, 2) := by decide +kernel
theorem dX3_fill_105 : decode cX3_fill 105 = .ok (.aaload, 1) := by decide +kernel
theorem dX3_fill_106 : decode cX3_fill 106 = .ok (.getfield 121, 3) := by decide +kernel
theorem dX3_fill_109 : decode cX3_fill 109 = .ok (.iload_n 2, 1) := by decide +kernel
theorem dX3_fill_110 : decode cX3_fill 110 = .ok (.if_icmp .gt 48, 3) := by decide +kernel
theorem dX3_fill_113 : decode cX3_fill 113 = .ok (.aload_n 0, 1) := by decide +kernel
theorem dX3_fill_114 : decode cX3_fill 114 = .ok (.getfield 11, 3) := by decide +kernel
theorem dX3_fill_117 : decode cX3_fill 117 = .ok (.iload 4, 2) := by decide +kernel
theorem dX3_fill_119 : decode cX3_fill 119 = .ok (.aaload, 1) := by decide +kernel
theorem dX3_fill_120 : decode cX3_fill 120 = .ok (.getfield 124, 3) := by decide +kernel
theorem dX3_fill_123 : decode cX3_fill 123 = .ok (.istore 5, 2) := by decide +kernel
theorem dX3_fill_125 : decode cX3_fill 125 = .ok (.aload_n 1, 1) := by decide +kernel
theorem dX3_fill_126 : decode cX3_fill 126 = .ok (.iload 5, 2) := by decide +kernel
theorem dX3_fill_128 : decode cX3_fill 128 = .ok (.iload 4, 2) := by decide +kernel
theorem dX3_fill_130 : decode cX3_fill 130 = .ok (.bipush 24, 2) := by decide +kernel
theorem dX3_fill_132 : decode cX3_fill 132 = .ok (.invokevirtual 114, 3) := by decide +kernel
theorem dX3_fill_135 : decode cX3_fill 135 = .ok (.aload_n 1, 1) := by decide +kernel
theorem dX3_fill_136 : decode cX3_fill 136 = .ok (.iload 5, 2) := by decide +kernel
theorem dX3_fill_138 : decode cX3_fill 138 = .ok (.iconst 1, 1) := by decide +kernel
theorem dX3_fill_139 : decode cX3_fill 139 = .ok (.iadd, 1) := by decide +kernel
theorem dX3_fill_140 : decode cX3_fill 140 = .ok (.iload 4, 2) := by decide +kernel
theorem dX3_fill_142 : decode cX3_fill 142 = .ok (.bipush 24, 2) := by decide +kernel
theorem dX3_fill_144 : decode cX3_fill 144 = .ok (.invokevirtual 114, 3) := by decide +kernel
theorem dX3_fill_147 : decode cX3_fill 147 = .ok (.aload_n 1, 1) := by decide +kernel
theorem dX3_fill_148 : decode cX3_fill 148 = .ok (.iload 5, 2) := by decide +kernel
theorem dX3_fill_150 : decode cX3_fill 150 = .ok (.iload 5, 2) := by decide +kernel
theorem dX3_fill_152 : decode cX3_fill 152 = .ok (.iconst 1, 1) := by decide +kernel
theorem dX3_fill_153 : decode cX3_fill 153 = .ok (.iadd, 1) := by decide +kernel
theorem dX3_fill_154 : decode cX3_fill 154 = .ok (.iconst 3, 1) := by decide +kernel
theorem dX3_fill_155 : decode cX3_fill 155 = .ok (.invokevirtual 114, 3) := by decide +kernel
theorem dX3_fill_158 : decode cX3_fill 158 = .ok (.iinc 4 1, 3) := by decide +kernel
theorem dX3_fill_161 : decode cX3_fill 161 = .ok (.goto (-85), 3) := by decide +kernel
theorem dX3_fill_164 : decode cX3_fill 164 = .ok (.return_, 1) := by decide +kernel
theorem dX3_canBe_0 : decode cX3_canBe 0 = .ok (.iconst 0, 1) := by decide +kernel
theorem dX3_canBe_1 : decode cX3_canBe 1 = .ok (.istore 4, 2) := by decide +kernel
theorem dX3_canBe_3 : decode cX3_canBe 3 = .ok (.iload 4, 2) := by decide +kernel
theorem dX3_canBe_5 : decode cX3_canBe 5 = .ok (.iconst 3, 1) := by decide +kernel
theorem dX3_canBe_6 : decode cX3_canBe 6 = .ok (.if_icmp .ge 22, 3) := by decide +kernel
theorem dX3_canBe_9 : decode cX3_canBe 9 = .ok (.aload_n 0, 1) := by decide +kernel
theorem dX3_canBe_10 : decode cX3_canBe 10 = .ok (.iload 4, 2) := by decide +kernel
theorem dX3_canBe_12 : decode cX3_canBe 12 = .ok (.iload_n 3, 1) := by decide +kernel
theorem dX3_canBe_13 : decode cX3_canBe 13 = .ok (.invokevirtual 127, 3) := by decide +kernel
theorem dX3_canBe_16 : decode cX3_canBe 16 = .ok (.iconst (-1), 1) := by decide +kernel
theorem dX3_canBe_17 : decode cX3_canBe 17 = .ok (.if_icmp .eq 5, 3) := by decide +kernel
theorem dX3_canBe_20 : decode cX3_canBe 20 = .ok (.iconst 0, 1) := by decide +kernel
theorem dX3_canBe_21 : decode cX3_canBe 21 = .ok (.ireturn, 1) := by decide +kernel
theorem dX3_canBe_22 : decode cX3_canBe 22 = .ok (.iinc 4 1, 3) := by decide +kernel
theorem dX3_canBe_25 : decode cX3_canBe 25 = .ok (.goto (-22), 3) := by decide +kernel
theorem dX3_canBe_28 : decode cX3_canBe 28 = .ok (.aload_n 0, 1) := by decide +kernel
theorem dX3_canBe_29 : decode cX3_canBe 29 = .ok (.aload_n 1, 1) := by decide +kernel
theorem dX3_canBe_30 : decode cX3_canBe 30 = .ok (.getfield 131, 3) := by decide +kernel
theorem dX3_canBe_33 : decode cX3_canBe 33 = .ok (.iload_n 2, 1) := by decide +kernel
theorem dX3_canBe_34 : decode cX3_canBe 34 = .ok (.iload_n 3, 1) := by decide +kernel
theorem dX3_canBe_35 : decode cX3_canBe 35 = .ok (.invokevirtual 135, 3) := by decide +kernel
theorem dX3_canBe_38 : decode cX3_canBe 38 = .ok (.aload_n 1, 1) := by decide +kernel
theorem dX3_canBe_39 : decode cX3_canBe 39 = .ok (.iload_n 2, 1) := by decide +kernel
theorem dX3_canBe_40 : decode cX3_canBe 40 = .ok (.invokevirtual 139, 3) := by decide +kernel
theorem dX3_canBe_43 : decode cX3_canBe 43 = .ok (.aload_n 1, 1) := by decide +kernel
theorem dX3_canBe_44 : decode cX3_canBe 44 = .ok (.sipush 20000, 3) := by decide +kernel
theorem dX3_canBe_47 : decode cX3_canBe 47 = .ok (.invokevirtual 140, 3) := by decide +kernel
theorem dX3_canBe_50 : decode cX3_canBe 50 = .ok (.istore 4, 2) := by decide +kernel
theorem dX3_canBe_52 : decode cX3_canBe 52 = .ok (.iload 4, 2) := by decide +kernel
theorem dX3_canBe_54 : decode cX3_canBe 54 = .ok (.iconst 3, 1) := by decide +kernel
theorem dX3_canBe_55 : decode cX3_canBe 55 = .ok (.if_icmp .ne 6, 3) := by decide +kernel
theorem dX3_canBe_58 : decode cX3_canBe 58 = .ok (.bipush (-5), 2) := by decide +kernel
theorem dX3_canBe_60 : decode cX3_canBe 60 = .ok (.ireturn, 1) := by decide +kernel
theorem dX3_canBe_61 : decode cX3_canBe 61 = .ok (.iload 4, 2) := by decide +kernel
theorem dX3_canBe_63 : decode cX3_canBe 63 = .ok (.iconst 1, 1) := by decide +kernel
theorem dX3_canBe_64 : decode cX3_canBe 64 = .ok (.if_icmp .ne 7, 3) := by decide +kernel
theorem dX3_canBe_67 : decode cX3_canBe 67 = .ok (.iconst 1, 1) := by decide +kernel
theorem dX3_canBe_68 : decode cX3_canBe 68 = .ok (.goto 4, 3) := by decide +kernel
theorem dX3_canBe_71 : decode cX3_canBe 71 = .ok (.iconst 0, 1) := by decide +kernel
theorem dX3_canBe_72 : decode cX3_canBe 72 = .ok (.ireturn, 1) := by decide +kernel
theorem dX3_shortestRing_0 : decode cX3_shortestRing 0 = .ok (.aload_n 0, 1) := by decide +kernel
theorem dX3_shortestRing_1 : decode cX3_shortestRing 1 = .ok (.iload_n 1, 1) := by decide +kernel
theorem dX3_shortestRing_2 : decode cX3_shortestRing 2 = .ok (.iload_n 2, 1) := by decide +kernel
theorem dX3_shortestRing_3 : decode cX3_shortestRing 3 = .ok (.invokevirtual 144, 3) := by decide +kernel
theorem dX3_shortestRing_6 : decode cX3_shortestRing 6 = .ok (.iconst (-1), 1) := by decide +kernel
theorem dX3_shortestRing_7 : decode cX3_shortestRing 7 = .ok (.istore_n 3, 1) := by decide +kernel
theorem dX3_shortestRing_8 : decode cX3_shortestRing 8 = .ok (.iconst 0, 1) := by decide +kernel
theorem dX3_shortestRing_9 : decode cX3_shortestRing 9 = .ok (.istore 4, 2) := by decide +kernel
theorem dX3_shortestRing_11 : decode cX3_shortestRing 11 = .ok (.iload 4, 2) := by decide +kernel
theorem dX3_shortestRing_13 : decode cX3_shortestRing 13 = .ok (.aload_n 0, 1) := by decide +kernel
theorem dX3_shortestRing_14 : decode cX3_shortestRing 14 = .ok (.getfield 18, 3) := by decide +kernel
theorem dX3_shortestRing_17 : decode cX3_shortestRing 17 = .ok (.if_icmp .ge 37, 3) := by decide +kernel
theorem dX3_shortestRing_20 : decode cX3_shortestRing 20 = .ok (.aload_n 0, 1) := by decide +kernel
theorem dX3_shortestRing_21 : decode cX3_shortestRing 21 = .ok (.iload 4, 2) := by decide +kernel
theorem dX3_shortestRing_23 : decode cX3_shortestRing 23 = .ok (.invokevirtual 147, 3) := by decide +kernel
theorem dX3_shortestRing_26 : decode cX3_shortestRing 26 = .ok (.istore 5, 2) := by decide +kernel
theorem dX3_shortestRing_28 : decode cX3_shortestRing 28 = .ok (.iload 5, 2) := by decide +kernel
theorem dX3_shortestRing_30 : decode cX3_shortestRing 30 = .ok (.iconst (-1), 1) := by decide +kernel
theorem dX3_shortestRing_31 : decode cX3_shortestRing 31 = .ok (.if_icmp .eq 17, 3) := by decide +kernel
theorem dX3_shortestRing_34 : decode cX3_shortestRing 34 = .ok (.iload_n 3, 1) := by decide +kernel
theorem dX3_shortestRing_35 : decode cX3_shortestRing 35 = .ok (.iconst (-1), 1) := by decide +kernel
theorem dX3_shortestRing_36 : decode cX3_shortestRing 36 = .ok (.if_icmp .eq 9, 3) := by decide +kernel
theorem dX3_shortestRing_39 : decode cX3_shortestRing 39 = .ok (.iload 5, 2) := by decide +kernel
theorem dX3_shortestRing_41 : decode cX3_shortestRing 41 = .ok (.iload_n 3, 1) := by decide +kernel
theorem dX3_shortestRing_42 : decode cX3_shortestRing 42 = .ok (.if_icmp .ge 6, 3) := by decide +kernel
theorem dX3_shortestRing_45 : decode cX3_shortestRing 45 = .ok (.iload 5, 2) := by decide +kernel
theorem dX3_shortestRing_47 : decode cX3_shortestRing 47 = .ok (.istore_n 3, 1) := by decide +kernel
theorem dX3_shortestRing_48 : decode cX3_shortestRing 48 = .ok (.iinc 4 1, 3) := by decide +kernel
theorem dX3_shortestRing_51 : decode cX3_shortestRing 51 = .ok (.goto (-40), 3) := by decide +kernel
theorem dX3_shortestRing_54 : decode cX3_shortestRing 54 = .ok (.iload_n 3, 1) := by decide +kernel
theorem dX3_shortestRing_55 : decode cX3_shortestRing 55 = .ok (.ireturn, 1) := by decide +kernel
theorem dX3_rankOf_0 : decode cX3_rankOf 0 = .ok (.aload_n 0, 1) := by decide +kernel
theorem dX3_rankOf_1 : decode cX3_rankOf 1 = .ok (.iload_n 1, 1) := by decide +kernel
theorem dX3_rankOf_2 : decode cX3_rankOf 2 = .ok (.iload_n 3, 1) := by decide +kernel
theorem dX3_rankOf_3 : decode cX3_rankOf 3 = .ok (.invokevirtual 144, 3) := by decide +kernel
theorem dX3_rankOf_6 : decode cX3_rankOf 6 = .ok (.iconst 0, 1) := by decide +kernel
theorem dX3_rankOf_7 : decode cX3_rankOf 7 = .ok (.istore 4, 2) := by decide +kernel
theorem dX3_rankOf_9 : decode cX3_rankOf 9 = .ok (.iload 4, 2) := by decide +kernel
theorem dX3_rankOf_11 : decode cX3_rankOf 11 = .ok (.aload_n 0, 1) := by decide +kernel
theorem dX3_rankOf_12 : decode cX3_rankOf 12 = .ok (.getfield 18, 3) := by decide +kernel
theorem dX3_rankOf_15 : decode cX3_rankOf 15 = .ok (.if_icmp .ge 17, 3) := by decide +kernel
theorem dX3_rankOf_18 : decode cX3_rankOf 18 = .ok (.aload_n 0, 1) := by decide +kernel
theorem dX3_rankOf_19 : decode cX3_rankOf 19 = .ok (.getfield 62, 3) := by decide +kernel
theorem dX3_rankOf_22 : decode cX3_rankOf 22 = .ok (.iload 4, 2) := by decide +kernel
theorem dX3_rankOf_24 : decode cX3_rankOf 24 = .ok (.iconst 0, 1) := by decide +kernel
theorem dX3_rankOf_25 : decode cX3_rankOf 25 = .ok (.iastore, 1) := by decide +kernel
theorem dX3_rankOf_26 : decode cX3_rankOf 26 = .ok (.iinc 4 1, 3) := by decide +kernel
theorem dX3_rankOf_29 : decode cX3_rankOf 29 = .ok (.goto (-20), 3) := by decide +kernel
theorem dX3_rankOf_32 : decode cX3_rankOf 32 = .ok (.iconst 0, 1) := by decide +kernel
theorem dX3_rankOf_33 : decode cX3_rankOf 33 = .ok (.istore 4, 2) := by decide +kernel
theorem dX3_rankOf_35 : decode cX3_rankOf 35 = .ok (.iload 4, 2) := by decide +kernel
theorem dX3_rankOf_37 : decode cX3_rankOf 37 = .ok (.aload_n 0, 1) := by decide +kernel
theorem dX3_rankOf_38 : decode cX3_rankOf 38 = .ok (.getfield 18, 3) := by decide +kernel
theorem dX3_rankOf_41 : decode cX3_rankOf 41 = .ok (.if_icmp .ge 86, 3) := by decide +kernel
theorem dX3_rankOf_44 : decode cX3_rankOf 44 = .ok (.iconst 0, 1) := by decide +kernel
theorem dX3_rankOf_45 : decode cX3_rankOf 45 = .ok (.istore 5, 2) := by decide +kernel
theorem dX3_rankOf_47 : decode cX3_rankOf 47 = .ok (.iload 5, 2) := by decide +kernel
theorem dX3_rankOf_49 : decode cX3_rankOf 49 = .ok (.aload_n 0, 1) := by decide +kernel
theorem dX3_rankOf_50 : decode cX3_rankOf 50 = .ok (.getfield 18, 3) := by decide +kernel
theorem dX3_rankOf_53 : decode cX3_rankOf 53 = .ok (.if_icmp .ge 68, 3) := by decide +kernel
theorem dX3_rankOf_56 : decode cX3_rankOf 56 = .ok (.iconst 0, 1) := by decide +kernel
theorem dX3_rankOf_57 : decode cX3_rankOf 57 = .ok (.istore 6, 2) := by decide +kernel
theorem dX3_rankOf_59 : decode cX3_rankOf 59 = .ok (.iload 6, 2) := by decide +kernel
theorem dX3_rankOf_61 : decode cX3_rankOf 61 = .ok (.aload_n 0, 1) := by decide +kernel
theorem dX3_rankOf_62 : decode cX3_rankOf 62 = .ok (.getfield 18, 3) := by decide +kernel
theorem dX3_rankOf_65 : decode cX3_rankOf 65 = .ok (.if_icmp .ge 50, 3) := by decide +kernel
theorem dX3_rankOf_68 : decode cX3_rankOf 68 = .ok (.aload_n 0, 1) := by decide +kernel
theorem dX3_rankOf_69 : decode cX3_rankOf 69 = .ok (.getfield 59, 3) := by decide +kernel
theorem dX3_rankOf_72 : decode cX3_rankOf 72 = .ok (.iload 5, 2) := by decide +kernel
theorem dX3_rankOf_74 : decode cX3_rankOf 74 = .ok (.iaload, 1) := by decide +kernel
theorem dX3_rankOf_75 : decode cX3_rankOf 75 = .ok (.iload 6, 2) := by decide +kernel
theorem dX3_rankOf_77 : decode cX3_rankOf 77 = .ok (.ishr, 1) := by decide +kernel
theorem dX3_rankOf_78 : decode cX3_rankOf 78 = .ok (.iconst 1, 1) := by decide +kernel
theorem dX3_rankOf_79 : decode cX3_rankOf 79 = .ok (.iand, 1) := by decide +kernel
theorem dX3_rankOf_80 : decode cX3_rankOf 80 = .ok (.ifCond .eq 29, 3) := by decide +kernel
theorem dX3_rankOf_83 : decode cX3_rankOf 83 = .ok (.aload_n 0, 1) := by decide +kernel
theorem dX3_rankOf_84 : decode cX3_rankOf 84 = .ok (.getfield 62, 3) := by decide +kernel
theorem dX3_rankOf_87 : decode cX3_rankOf 87 = .ok (.iload 5, 2) := by decide +kernel
theorem dX3_rankOf_89 : decode cX3_rankOf 89 = .ok (.aload_n 0, 1) := by decide +kernel
theorem dX3_rankOf_90 : decode cX3_rankOf 90 = .ok (.getfield 62, 3) := by decide +kernel
theorem dX3_rankOf_93 : decode cX3_rankOf 93 = .ok (.iload 5, 2) := by decide +kernel
theorem dX3_rankOf_95 : decode cX3_rankOf 95 = .ok (.iaload, 1) := by decide +kernel
theorem dX3_rankOf_96 : decode cX3_rankOf 96 = .ok (.iconst 1, 1) := by decide +kernel
theorem dX3_rankOf_97 : decode cX3_rankOf 97 = .ok (.aload_n 0, 1) := by decide +kernel
theorem dX3_rankOf_98 : decode cX3_rankOf 98 = .ok (.getfield 62, 3) := by decide +kernel
theorem dX3_rankOf_101 : decode cX3_rankOf 101 = .ok (.iload 6, 2) := by decide +kernel
theorem dX3_rankOf_103 : decode cX3_rankOf 103 = .ok (.iaload, 1) := by decide +kernel
theorem dX3_rankOf_104 : decode cX3_rankOf 104 = .ok (.iadd, 1) := by decide +kernel
theorem dX3_rankOf_105 : decode cX3_rankOf 105 = .ok (.invokestatic 150, 3) := by decide +kernel
theorem dX3_rankOf_108 : decode cX3_rankOf 108 = .ok (.iastore, 1) := by decide +kernel
theorem dX3_rankOf_109 : decode cX3_rankOf 109 = .ok (.iinc 6 1, 3) := by decide +kernel
theorem dX3_rankOf_112 : decode cX3_rankOf 112 = .ok (.goto (-53), 3) := by decide +kernel
theorem dX3_rankOf_115 : decode cX3_rankOf 115 = .ok (.iinc 5 1, 3) := by decide +kernel
theorem dX3_rankOf_118 : decode cX3_rankOf 118 = .ok (.goto (-71), 3) := by decide +kernel
theorem dX3_rankOf_121 : decode cX3_rankOf 121 = .ok (.iinc 4 1, 3) := by decide +kernel
theorem dX3_rankOf_124 : decode cX3_rankOf 124 = .ok (.goto (-89), 3) := by decide +kernel
theorem dX3_rankOf_127 : decode cX3_rankOf 127 = .ok (.aload_n 0, 1) := by decide +kernel
theorem dX3_rankOf_128 : decode cX3_rankOf 128 = .ok (.getfield 62, 3) := by decide +kernel
theorem dX3_rankOf_131 : decode cX3_rankOf 131 = .ok (.iload_n 2, 1) := by decide +kernel
theorem dX3_rankOf_132 : decode cX3_rankOf 132 = .ok (.iaload, 1) := by decide +kernel
theorem dX3_rankOf_133 : decode cX3_rankOf 133 = .ok (.ireturn, 1) := by decide +kernel
theorem dX3_drawArrows_0 : decode cX3_drawArrows 0 = .ok (.iconst 0, 1) := by decide +kernel
theorem dX3_drawArrows_1 : decode cX3_drawArrows 1 = .ok (.istore_n 3, 1) := by decide +kernel
theorem dX3_drawArrows_2 : decode cX3_drawArrows 2 = .ok (.iload_n 3, 1) := by decide +kernel
theorem dX3_drawArrows_3 : decode cX3_drawArrows 3 = .ok (.aload_n 0, 1) := by decide +kernel
theorem dX3_drawArrows_4 : decode cX3_drawArrows 4 = .ok (.getfield 18, 3) := by decide +kernel
theorem dX3_drawArrows_7 : decode cX3_drawArrows 7 = .ok (.if_icmp .ge 16, 3) := by decide +kernel
theorem dX3_drawArrows_10 : decode cX3_drawArrows 10 = .ok (.aload_n 0, 1) := by decide +kernel
theorem dX3_drawArrows_11 : decode cX3_drawArrows 11 = .ok (.getfield 59, 3) := by decide +kernel
theorem dX3_drawArrows_14 : decode cX3_drawArrows 14 = .ok (.iload_n 3, 1) := by decide +kernel
theorem dX3_drawArrows_15 : decode cX3_drawArrows 15 = .ok (.iconst 0, 1) := by decide +kernel
theorem dX3_drawArrows_16 : decode cX3_drawArrows 16 = .ok (.iastore, 1) := by decide +kernel
theorem dX3_drawArrows_17 : decode cX3_drawArrows 17 = .ok (.iinc 3 1, 3) := by decide +kernel
theorem dX3_drawArrows_20 : decode cX3_drawArrows 20 = .ok (.goto (-18), 3) := by decide +kernel
theorem dX3_drawArrows_23 : decode cX3_drawArrows 23 = .ok (.iconst 0, 1) := by decide +kernel
theorem dX3_drawArrows_24 : decode cX3_drawArrows 24 = .ok (.istore_n 3, 1) := by decide +kernel
theorem dX3_drawArrows_25 : decode cX3_drawArrows 25 = .ok (.iload_n 3, 1) := by decide +kernel
theorem dX3_drawArrows_26 : decode cX3_drawArrows 26 = .ok (.aload_n 0, 1) := by decide +kernel
theorem dX3_drawArrows_27 : decode cX3_drawArrows 27 = .ok (.getfield 29, 3) := by decide +kernel
theorem dX3_drawArrows_30 : decode cX3_drawArrows 30 = .ok (.if_icmp .ge 58, 3) := by decide +kernel
theorem dX3_drawArrows_33 : decode cX3_drawArrows 33 = .ok (.iload_n 2, 1) := by decide +kernel
theorem dX3_drawArrows_34 : decode cX3_drawArrows 34 = .ok (.iload_n 3, 1) := by decide +kernel
theorem dX3_drawArrows_35 : decode cX3_drawArrows 35 = .ok (.ishr, 1) := by decide +kernel
theorem dX3_drawArrows_36 : decode cX3_drawArrows 36 = .ok (.iconst 1, 1) := by decide +kernel
theorem dX3_drawArrows_37 : decode cX3_drawArrows 37 = .ok (.iand, 1) := by decide +kernel
theorem dX3_drawArrows_38 : decode cX3_drawArrows 38 = .ok (.ifCond .eq 44, 3) := by decide +kernel
theorem dX3_drawArrows_41 : decode cX3_drawArrows 41 = .ok (.aload_n 0, 1) := by decide +kernel
theorem dX3_drawArrows_42 : decode cX3_drawArrows 42 = .ok (.getfield 24, 3) := by decide +kernel
theorem dX3_drawArrows_45 : decode cX3_drawArrows 45 = .ok (.iload_n 3, 1) := by decide +kernel
theorem dX3_drawArrows_46 : decode cX3_drawArrows 46 = .ok (.aaload, 1) := by decide +kernel
theorem dX3_drawArrows_47 : decode cX3_drawArrows 47 = .ok (.getfield 155, 3) := by decide +kernel
theorem dX3_drawArrows_50 : decode cX3_drawArrows 50 = .ok (.iload_n 1, 1) := by decide +kernel
theorem dX3_drawArrows_51 : decode cX3_drawArrows 51 = .ok (.if_icmp .ne 31, 3) := by decide +kernel
theorem dX3_drawArrows_54 : decode cX3_drawArrows 54 = .ok (.aload_n 0, 1) := by decide +kernel
theorem dX3_drawArrows_55 : decode cX3_drawArrows 55 = .ok (.getfield 59, 3) := by decide +kernel
theorem dX3_drawArrows_58 : decode cX3_drawArrows 58 = .ok (.aload_n 0, 1) := by decide +kernel
theorem dX3_drawArrows_59 : decode cX3_drawArrows 59 = .ok (.getfield 24, 3) := by decide +kernel
theorem dX3_drawArrows_62 : decode cX3_drawArrows 62 = .ok (.iload_n 3, 1) := by decide +kernel
theorem dX3_drawArrows_63 : decode cX3_drawArrows 63 = .ok (.aaload, 1) := by decide +kernel
theorem dX3_drawArrows_64 : decode cX3_drawArrows 64 = .ok (.getfield 104, 3) := by decide +kernel
theorem dX3_drawArrows_67 : decode cX3_drawArrows 67 = .ok (.dup2, 1) := by decide +kernel
theorem dX3_drawArrows_68 : decode cX3_drawArrows 68 = .ok (.iaload, 1) := by decide +kernel
theorem dX3_drawArrows_69 : decode cX3_drawArrows 69 = .ok (.iconst 1, 1) := by decide +kernel
theorem dX3_drawArrows_70 : decode cX3_drawArrows 70 = .ok (.aload_n 0, 1) := by decide +kernel
theorem dX3_drawArrows_71 : decode cX3_drawArrows 71 = .ok (.getfield 24, 3) := by decide +kernel
theorem dX3_drawArrows_74 : decode cX3_drawArrows 74 = .ok (.iload_n 3, 1) := by decide +kernel
theorem dX3_drawArrows_75 : decode cX3_drawArrows 75 = .ok (.aaload, 1) := by decide +kernel
theorem dX3_drawArrows_76 : decode cX3_drawArrows 76 = .ok (.getfield 107, 3) := by decide +kernel
theorem dX3_drawArrows_79 : decode cX3_drawArrows 79 = .ok (.ishl, 1) := by decide +kernel
theorem dX3_drawArrows_80 : decode cX3_drawArrows 80 = .ok (.ior, 1) := by decide +kernel
theorem dX3_drawArrows_81 : decode cX3_drawArrows 81 = .ok (.iastore, 1) := by decide +kernel
theorem dX3_drawArrows_82 : decode cX3_drawArrows 82 = .ok (.iinc 3 1, 3) := by decide +kernel
theorem dX3_drawArrows_85 : decode cX3_drawArrows 85 = .ok (.goto (-60), 3) := by decide +kernel
theorem dX3_drawArrows_88 : decode cX3_drawArrows 88 = .ok (.return_, 1) := by decide +kernel
theorem dX3_ringFrom_0 : decode cX3_ringFrom 0 = .ok (.aload_n 0, 1) := by decide +kernel
theorem dX3_ringFrom_1 : decode cX3_ringFrom 1 = .ok (.getfield 59, 3) := by decide +kernel
theorem dX3_ringFrom_4 : decode cX3_ringFrom 4 = .ok (.iload_n 1, 1) := by decide +kernel
theorem dX3_ringFrom_5 : decode cX3_ringFrom 5 = .ok (.iaload, 1) := by decide +kernel
theorem dX3_ringFrom_6 : decode cX3_ringFrom 6 = .ok (.istore_n 2, 1) := by decide +kernel
theorem dX3_ringFrom_7 : decode cX3_ringFrom 7 = .ok (.iconst 1, 1) := by decide +kernel
theorem dX3_ringFrom_8 : decode cX3_ringFrom 8 = .ok (.istore_n 3, 1) := by decide +kernel
theorem dX3_ringFrom_9 : decode cX3_ringFrom 9 = .ok (.iload_n 3, 1) := by decide +kernel
theorem dX3_ringFrom_10 : decode cX3_ringFrom 10 = .ok (.aload_n 0, 1) := by decide +kernel
theorem dX3_ringFrom_11 : decode cX3_ringFrom 11 = .ok (.getfield 18, 3) := by decide +kernel
theorem dX3_ringFrom_14 : decode cX3_ringFrom 14 = .ok (.if_icmp .gt 72, 3) := by decide +kernel
theorem dX3_ringFrom_17 : decode cX3_ringFrom 17 = .ok (.iload_n 2, 1) := by decide +kernel
theorem dX3_ringFrom_18 : decode cX3_ringFrom 18 = .ok (.ifCond .eq 68, 3) := by decide +kernel
theorem dX3_ringFrom_21 : decode cX3_ringFrom 21 = .ok (.iload_n 2, 1) := by decide +kernel
theorem dX3_ringFrom_22 : decode cX3_ringFrom 22 = .ok (.iload_n 1, 1) := by decide +kernel
theorem dX3_ringFrom_23 : decode cX3_ringFrom 23 = .ok (.ishr, 1) := by decide +kernel
theorem dX3_ringFrom_24 : decode cX3_ringFrom 24 = .ok (.iconst 1, 1) := by decide +kernel
theorem dX3_ringFrom_25 : decode cX3_ringFrom 25 = .ok (.iand, 1) := by decide +kernel
theorem dX3_ringFrom_26 : decode cX3_ringFrom 26 = .ok (.ifCond .eq 5, 3) := by decide +kernel
theorem dX3_ringFrom_29 : decode cX3_ringFrom 29 = .ok (.iload_n 3, 1) := by decide +kernel
theorem dX3_ringFrom_30 : decode cX3_ringFrom 30 = .ok (.ireturn, 1) := by decide +kernel
theorem dX3_ringFrom_31 : decode cX3_ringFrom 31 = .ok (.iconst 0, 1) := by decide +kernel
theorem dX3_ringFrom_32 : decode cX3_ringFrom 32 = .ok (.istore 4, 2) := by decide +kernel
theorem dX3_ringFrom_34 : decode cX3_ringFrom 34 = .ok (.iconst 0, 1) := by decide +kernel
theorem dX3_ringFrom_35 : decode cX3_ringFrom 35 = .ok (.istore 5, 2) := by decide +kernel
theorem dX3_ringFrom_37 : decode cX3_ringFrom 37 = .ok (.iload 5, 2) := by decide +kernel
theorem dX3_ringFrom_39 : decode cX3_ringFrom 39 = .ok (.aload_n 0, 1) := by decide +kernel
theorem dX3_ringFrom_40 : decode cX3_ringFrom 40 = .ok (.getfield 18, 3) := by decide +kernel
theorem dX3_ringFrom_43 : decode cX3_ringFrom 43 = .ok (.if_icmp .ge 34, 3) := by decide +kernel
theorem dX3_ringFrom_46 : decode cX3_ringFrom 46 = .ok (.iload 4, 2) := by decide +kernel
theorem dX3_ringFrom_48 : decode cX3_ringFrom 48 = .ok (.iload_n 2, 1) := by decide +kernel
theorem dX3_ringFrom_49 : decode cX3_ringFrom 49 = .ok (.iload 5, 2) := by decide +kernel
theorem dX3_ringFrom_51 : decode cX3_ringFrom 51 = .ok (.ishr, 1) := by decide +kernel
theorem dX3_ringFrom_52 : decode cX3_ringFrom 52 = .ok (.iconst 1, 1) := by decide +kernel
theorem dX3_ringFrom_53 : decode cX3_ringFrom 53 = .ok (.iand, 1) := by decide +kernel
theorem dX3_ringFrom_54 : decode cX3_ringFrom 54 = .ok (.ifCond .eq 13, 3) := by decide +kernel
theorem dX3_ringFrom_57 : decode cX3_ringFrom 57 = .ok (.aload_n 0, 1) := by decide +kernel
theorem dX3_ringFrom_58 : decode cX3_ringFrom 58 = .ok (.getfield 59, 3) := by decide +kernel
theorem dX3_ringFrom_61 : decode cX3_ringFrom 61 = .ok (.iload 5, 2) := by decide +kernel
theorem dX3_ringFrom_63 : decode cX3_ringFrom 63 = .ok (.iaload, 1) := by decide +kernel
theorem dX3_ringFrom_64 : decode cX3_ringFrom 64 = .ok (.goto 4, 3) := by decide +kernel
theorem dX3_ringFrom_67 : decode cX3_ringFrom 67 = .ok (.iconst 0, 1) := by decide +kernel
theorem dX3_ringFrom_68 : decode cX3_ringFrom 68 = .ok (.ior, 1) := by decide +kernel
theorem dX3_ringFrom_69 : decode cX3_ringFrom 69 = .ok (.istore 4, 2) := by decide +kernel
theorem dX3_ringFrom_71 : decode cX3_ringFrom 71 = .ok (.iinc 5 1, 3) := by decide +kernel
theorem dX3_ringFrom_74 : decode cX3_ringFrom 74 = .ok (.goto (-37), 3) := by decide +kernel
theorem dX3_ringFrom_77 : decode cX3_ringFrom 77 = .ok (.iload 4, 2) := by decide +kernel
theorem dX3_ringFrom_79 : decode cX3_ringFrom 79 = .ok (.istore_n 2, 1) := by decide +kernel
theorem dX3_ringFrom_80 : decode cX3_ringFrom 80 = .ok (.iinc 3 1, 3) := by decide +kernel
theorem dX3_ringFrom_83 : decode cX3_ringFrom 83 = .ok (.goto (-74), 3) := by decide +kernel
theorem dX3_ringFrom_86 : decode cX3_ringFrom 86 = .ok (.iconst (-1), 1) := by decide +kernel
theorem dX3_ringFrom_87 : decode cX3_ringFrom 87 = .ok (.ireturn, 1) := by decide +kernel
theorem dX3_isSo_0 : decode cX3_isSo 0 = .ok (.aload_n 0, 1) := by decide +kernel
theorem dX3_isSo_1 : decode cX3_isSo 1 = .ok (.getfield 11, 3) := by decide +kernel
theorem dX3_isSo_4 : decode cX3_isSo 4 = .ok (.aload_n 1, 1) := by decide +kernel
theorem dX3_isSo_5 : decode cX3_isSo 5 = .ok (.getfield 104, 3) := by decide +kernel
theorem dX3_isSo_8 : decode cX3_isSo 8 = .ok (.aaload, 1) := by decide +kernel
theorem dX3_isSo_9 : decode cX3_isSo 9 = .ok (.getfield 158, 3) := by decide +kernel
theorem dX3_isSo_12 : decode cX3_isSo 12 = .ok (.lstore_n 2, 1) := by decide +kernel
theorem dX3_isSo_13 : decode cX3_isSo 13 = .ok (.aload_n 0, 1) := by decide +kernel
theorem dX3_isSo_14 : decode cX3_isSo 14 = .ok (.getfield 11, 3) := by decide +kernel
theorem dX3_isSo_17 : decode cX3_isSo 17 = .ok (.aload_n 1, 1) := by decide +kernel
theorem dX3_isSo_18 : decode cX3_isSo 18 = .ok (.getfield 107, 3) := by decide +kernel
theorem dX3_isSo_21 : decode cX3_isSo 21 = .ok (.aaload, 1) := by decide +kernel
theorem dX3_isSo_22 : decode cX3_isSo 22 = .ok (.getfield 158, 3) := by decide +kernel
theorem dX3_isSo_25 : decode cX3_isSo 25 = .ok (.lstore 4, 2) := by decide +kernel
theorem dX3_isSo_27 : decode cX3_isSo 27 = .ok (.lload_n 2, 1) := by decide +kernel
theorem dX3_isSo_28 : decode cX3_isSo 28 = .ok (.lconst 0, 1) := by decide +kernel
theorem dX3_isSo_29 : decode cX3_isSo 29 = .ok (.lcmp, 1) := by decide +kernel
theorem dX3_isSo_30 : decode cX3_isSo 30 = .ok (.ifCond .eq 10, 3) := by decide +kernel
theorem dX3_isSo_33 : decode cX3_isSo 33 = .ok (.lload 4, 2) := by decide +kernel
theorem dX3_isSo_35 : decode cX3_isSo 35 = .ok (.lconst 0, 1) := by decide +kernel
theorem dX3_isSo_36 : decode cX3_isSo 36 = .ok (.lcmp, 1) := by decide +kernel
theorem dX3_isSo_37 : decode cX3_isSo 37 = .ok (.ifCond .ne 5, 3) := by decide +kernel
theorem dX3_isSo_40 : decode cX3_isSo 40 = .ok (.iconst 0, 1) := by decide +kernel
theorem dX3_isSo_41 : decode cX3_isSo 41 = .ok (.ireturn, 1) := by decide +kernel
theorem dX3_isSo_42 : decode cX3_isSo 42 = .ok (.aload_n 1, 1) := by decide +kernel
theorem dX3_isSo_43 : decode cX3_isSo 43 = .ok (.getfield 155, 3) := by decide +kernel
theorem dX3_isSo_46 : decode cX3_isSo 46 = .ok (.tableswitch 92 0 2 #[26, 50, 74], 26) := by decide +kernel
theorem dX3_isSo_72 : decode cX3_isSo 72 = .ok (.lload_n 2, 1) := by decide +kernel
theorem dX3_isSo_73 : decode cX3_isSo 73 = .ok (.invokestatic 162, 3) := by decide +kernel
theorem dX3_isSo_76 : decode cX3_isSo 76 = .ok (.invokestatic 166, 3) := by decide +kernel
theorem dX3_isSo_79 : decode cX3_isSo 79 = .ok (.lload 4, 2) := by decide +kernel
theorem dX3_isSo_81 : decode cX3_isSo 81 = .ok (.invokestatic 162, 3) := by decide +kernel
theorem dX3_isSo_84 : decode cX3_isSo 84 = .ok (.invokestatic 169, 3) := by decide +kernel
theorem dX3_isSo_87 : decode cX3_isSo 87 = .ok (.if_icmp .ge 7, 3) := by decide +kernel
theorem dX3_isSo_90 : decode cX3_isSo 90 = .ok (.iconst 1, 1) := by decide +kernel
theorem dX3_isSo_91 : decode cX3_isSo 91 = .ok (.goto 4, 3) := by decide +kernel
theorem dX3_isSo_94 : decode cX3_isSo 94 = .ok (.iconst 0, 1) := by decide +kernel
theorem dX3_isSo_95 : decode cX3_isSo 95 = .ok (.ireturn, 1) := by decide +kernel
theorem dX3_isSo_96 : decode cX3_isSo 96 = .ok (.lload_n 2, 1) := by decide +kernel
theorem dX3_isSo_97 : decode cX3_isSo 97 = .ok (.invokestatic 172, 3) := by decide +kernel
theorem dX3_isSo_100 : decode cX3_isSo 100 = .ok (.invokestatic 166, 3) := by decide +kernel
theorem dX3_isSo_103 : decode cX3_isSo 103 = .ok (.lload 4, 2) := by decide +kernel
theorem dX3_isSo_105 : decode cX3_isSo 105 = .ok (.invokestatic 172, 3) := by decide +kernel
theorem dX3_isSo_108 : decode cX3_isSo 108 = .ok (.invokestatic 166, 3) := by decide +kernel
theorem dX3_isSo_111 : decode cX3_isSo 111 = .ok (.if_icmp .le 7, 3) := by decide +kernel
theorem dX3_isSo_114 : decode cX3_isSo 114 = .ok (.iconst 1, 1) := by decide +kernel
theorem dX3_isSo_115 : decode cX3_isSo 115 = .ok (.goto 4, 3) := by decide +kernel
theorem dX3_isSo_118 : decode cX3_isSo 118 = .ok (.iconst 0, 1) := by decide +kernel
theorem dX3_isSo_119 : decode cX3_isSo 119 = .ok (.ireturn, 1) := by decide +kernel
theorem dX3_isSo_120 : decode cX3_isSo 120 = .ok (.lload_n 2, 1) := by decide +kernel
theorem dX3_isSo_121 : decode cX3_isSo 121 = .ok (.invokestatic 175, 3) := by decide +kernel
theorem dX3_isSo_124 : decode cX3_isSo 124 = .ok (.lload 4, 2) := by decide +kernel
theorem dX3_isSo_126 : decode cX3_isSo 126 = .ok (.invokestatic 175, 3) := by decide +kernel
theorem dX3_isSo_129 : decode cX3_isSo 129 = .ok (.if_icmp .le 7, 3) := by decide +kernel
theorem dX3_isSo_132 : decode cX3_isSo 132 = .ok (.iconst 1, 1) := by decide +kernel
theorem dX3_isSo_133 : decode cX3_isSo 133 = .ok (.goto 4, 3) := by decide +kernel
theorem dX3_isSo_136 : decode cX3_isSo 136 = .ok (.iconst 0, 1) := by decide +kernel
theorem dX3_isSo_137 : decode cX3_isSo 137 = .ok (.ireturn, 1) := by decide +kernel
theorem dX3_isSo_138 : decode cX3_isSo 138 = .ok (.aload_n 1, 1) := by decide +kernel
theorem dX3_isSo_139 : decode cX3_isSo 139 = .ok (.aload_n 0, 1) := by decide +kernel
theorem dX3_isSo_140 : decode cX3_isSo 140 = .ok (.getfield 32, 3) := by decide +kernel
theorem dX3_isSo_143 : decode cX3_isSo 143 = .ok (.invokevirtual 110, 3) := by decide +kernel
theorem dX3_isSo_146 : decode cX3_isSo 146 = .ok (.lload_n 2, 1) := by decide +kernel
theorem dX3_isSo_147 : decode cX3_isSo 147 = .ok (.lload 4, 2) := by decide +kernel
theorem dX3_isSo_149 : decode cX3_isSo 149 = .ok (.invokestatic 180, 3) := by decide +kernel
theorem dX3_isSo_152 : decode cX3_isSo 152 = .ok (.ishr, 1) := by decide +kernel
theorem dX3_isSo_153 : decode cX3_isSo 153 = .ok (.iconst 1, 1) := by decide +kernel
theorem dX3_isSo_154 : decode cX3_isSo 154 = .ok (.iand, 1) := by decide +kernel
theorem dX3_isSo_155 : decode cX3_isSo 155 = .ok (.ifCond .eq 7, 3) := by decide +kernel
theorem dX3_isSo_158 : decode cX3_isSo 158 = .ok (.iconst 1, 1) := by decide +kernel
theorem dX3_isSo_159 : decode cX3_isSo 159 = .ok (.goto 4, 3) := by decide +kernel
theorem dX3_isSo_162 : decode cX3_isSo 162 = .ok (.iconst 0, 1) := by decide +kernel
theorem dX3_isSo_163 : decode cX3_isSo 163 = .ok (.ireturn, 1) := by decide +kernel
theorem dX3_isRight_0 : decode cX3_isRight 0 = .ok (.aload_n 1, 1) := by decide +kernel
theorem dX3_isRight_1 : decode cX3_isRight 1 = .ok (.getfield 158, 3) := by decide +kernel
theorem dX3_isRight_4 : decode cX3_isRight 4 = .ok (.lstore_n 2, 1) := by decide +kernel
theorem dX3_isRight_5 : decode cX3_isRight 5 = .ok (.lload_n 2, 1) := by decide +kernel
theorem dX3_isRight_6 : decode cX3_isRight 6 = .ok (.lconst 0, 1) := by decide +kernel
theorem dX3_isRight_7 : decode cX3_isRight 7 = .ok (.lcmp, 1) := by decide +kernel
theorem dX3_isRight_8 : decode cX3_isRight 8 = .ok (.ifCond .ne 5, 3) := by decide +kernel
theorem dX3_isRight_11 : decode cX3_isRight 11 = .ok (.iconst 0, 1) := by decide +kernel
theorem dX3_isRight_12 : decode cX3_isRight 12 = .ok (.ireturn, 1) := by decide +kernel
theorem dX3_isRight_13 : decode cX3_isRight 13 = .ok (.aload_n 1, 1) := by decide +kernel
theorem dX3_isRight_14 : decode cX3_isRight 14 = .ok (.getfield 118, 3) := by decide +kernel
theorem dX3_isRight_17 : decode cX3_isRight 17 = .ok (.tableswitch 63 0 3 #[31, 33, 38, 43], 31) := by decide +kernel
theorem dX3_isRight_48 : decode cX3_isRight 48 = .ok (.iconst 1, 1) := by decide +kernel
theorem dX3_isRight_49 : decode cX3_isRight 49 = .ok (.ireturn, 1) := by decide +kernel
theorem dX3_isRight_50 : decode cX3_isRight 50 = .ok (.lload_n 2, 1) := by decide +kernel
theorem dX3_isRight_51 : decode cX3_isRight 51 = .ok (.invokestatic 184, 3) := by decide +kernel
theorem dX3_isRight_54 : decode cX3_isRight 54 = .ok (.ireturn, 1) := by decide +kernel
theorem dX3_isRight_55 : decode cX3_isRight 55 = .ok (.lload_n 2, 1) := by decide +kernel
theorem dX3_isRight_56 : decode cX3_isRight 56 = .ok (.invokestatic 188, 3) := by decide +kernel
theorem dX3_isRight_59 : decode cX3_isRight 59 = .ok (.ireturn, 1) := by decide +kernel
theorem dX3_isRight_60 : decode cX3_isRight 60 = .ok (.lload_n 2, 1) := by decide +kernel
theorem dX3_isRight_61 : decode cX3_isRight 61 = .ok (.invokestatic 188, 3) := by decide +kernel
theorem dX3_isRight_64 : decode cX3_isRight 64 = .ok (.ifCond .eq 14, 3) := by decide +kernel
theorem dX3_isRight_67 : decode cX3_isRight 67 = .ok (.lload_n 2, 1) := by decide +kernel
theorem dX3_isRight_68 : decode cX3_isRight 68 = .ok (.invokestatic 191, 3) := by decide +kernel
theorem dX3_isRight_71 : decode cX3_isRight 71 = .ok (.ifCond .eq 7, 3) := by decide +kernel
theorem dX3_isRight_74 : decode cX3_isRight 74 = .ok (.iconst 1, 1) := by decide +kernel
theorem dX3_isRight_75 : decode cX3_isRight 75 = .ok (.goto 4, 3) := by decide +kernel
theorem dX3_isRight_78 : decode cX3_isRight 78 = .ok (.iconst 0, 1) := by decide +kernel
theorem dX3_isRight_79 : decode cX3_isRight 79 = .ok (.ireturn, 1) := by decide +kernel
theorem dX3_isRight_80 : decode cX3_isRight 80 = .ok (.aload_n 0, 1) := by decide +kernel
theorem dX3_isRight_81 : decode cX3_isRight 81 = .ok (.lload_n 2, 1) := by decide +kernel
theorem dX3_isRight_82 : decode cX3_isRight 82 = .ok (.iconst 3, 1) := by decide +kernel
theorem dX3_isRight_83 : decode cX3_isRight 83 = .ok (.aload_n 1, 1) := by decide +kernel
theorem dX3_isRight_84 : decode cX3_isRight 84 = .ok (.getfield 124, 3) := by decide +kernel
theorem dX3_isRight_87 : decode cX3_isRight 87 = .ok (.ishl, 1) := by decide +kernel
theorem dX3_isRight_88 : decode cX3_isRight 88 = .ok (.invokevirtual 194, 3) := by decide +kernel
theorem dX3_isRight_91 : decode cX3_isRight 91 = .ok (.ireturn, 1) := by decide +kernel
theorem dX3_isWhole_0 : decode cX3_isWhole 0 = .ok (.lconst 0, 1) := by decide +kernel
theorem dX3_isWhole_1 : decode cX3_isWhole 1 = .ok (.lstore 4, 2) := by decide +kernel
theorem dX3_isWhole_3 : decode cX3_isWhole 3 = .ok (.iconst 0, 1) := by decide +kernel
theorem dX3_isWhole_4 : decode cX3_isWhole 4 = .ok (.istore 6, 2) := by decide +kernel
theorem dX3_isWhole_6 : decode cX3_isWhole 6 = .ok (.iconst 0, 1) := by decide +kernel
theorem dX3_isWhole_7 : decode cX3_isWhole 7 = .ok (.istore 7, 2) := by decide +kernel
theorem dX3_isWhole_9 : decode cX3_isWhole 9 = .ok (.iload 7, 2) := by decide +kernel
theorem dX3_isWhole_11 : decode cX3_isWhole 11 = .ok (.aload_n 0, 1) := by decide +kernel
theorem dX3_isWhole_12 : decode cX3_isWhole 12 = .ok (.getfield 18, 3) := by decide +kernel
theorem dX3_isWhole_15 : decode cX3_isWhole 15 = .ok (.if_icmp .ge 61, 3) := by decide +kernel
theorem dX3_isWhole_18 : decode cX3_isWhole 18 = .ok (.iload_n 3, 1) := by decide +kernel
theorem dX3_isWhole_19 : decode cX3_isWhole 19 = .ok (.iload 7, 2) := by decide +kernel
theorem dX3_isWhole_21 : decode cX3_isWhole 21 = .ok (.ishr, 1) := by decide +kernel
theorem dX3_isWhole_22 : decode cX3_isWhole 22 = .ok (.iconst 1, 1) := by decide +kernel
theorem dX3_isWhole_23 : decode cX3_isWhole 23 = .ok (.iand, 1) := by decide +kernel
theorem dX3_isWhole_24 : decode cX3_isWhole 24 = .ok (.ifCond .eq 46, 3) := by decide +kernel
theorem dX3_isWhole_27 : decode cX3_isWhole 27 = .ok (.iload 6, 2) := by decide +kernel
theorem dX3_isWhole_29 : decode cX3_isWhole 29 = .ok (.lload 4, 2) := by decide +kernel
theorem dX3_isWhole_31 : decode cX3_isWhole 31 = .ok (.aload_n 0, 1) := by decide +kernel
theorem dX3_isWhole_32 : decode cX3_isWhole 32 = .ok (.getfield 11, 3) := by decide +kernel
theorem dX3_isWhole_35 : decode cX3_isWhole 35 = .ok (.iload 7, 2) := by decide +kernel
theorem dX3_isWhole_37 : decode cX3_isWhole 37 = .ok (.aaload, 1) := by decide +kernel
theorem dX3_isWhole_38 : decode cX3_isWhole 38 = .ok (.getfield 158, 3) := by decide +kernel
theorem dX3_isWhole_41 : decode cX3_isWhole 41 = .ok (.land, 1) := by decide +kernel
theorem dX3_isWhole_42 : decode cX3_isWhole 42 = .ok (.lconst 0, 1) := by decide +kernel
theorem dX3_isWhole_43 : decode cX3_isWhole 43 = .ok (.lcmp, 1) := by decide +kernel
theorem dX3_isWhole_44 : decode cX3_isWhole 44 = .ok (.ifCond .eq 7, 3) := by decide +kernel
theorem dX3_isWhole_47 : decode cX3_isWhole 47 = .ok (.iconst 1, 1) := by decide +kernel
theorem dX3_isWhole_48 : decode cX3_isWhole 48 = .ok (.goto 4, 3) := by decide +kernel
theorem dX3_isWhole_51 : decode cX3_isWhole 51 = .ok (.iconst 0, 1) := by decide +kernel
theorem dX3_isWhole_52 : decode cX3_isWhole 52 = .ok (.ior, 1) := by decide +kernel
theorem dX3_isWhole_53 : decode cX3_isWhole 53 = .ok (.istore 6, 2) := by decide +kernel
theorem dX3_isWhole_55 : decode cX3_isWhole 55 = .ok (.lload 4, 2) := by decide +kernel
theorem dX3_isWhole_57 : decode cX3_isWhole 57 = .ok (.aload_n 0, 1) := by decide +kernel
theorem dX3_isWhole_58 : decode cX3_isWhole 58 = .ok (.getfield 11, 3) := by decide +kernel
theorem dX3_isWhole_61 : decode cX3_isWhole 61 = .ok (.iload 7, 2) := by decide +kernel
theorem dX3_isWhole_63 : decode cX3_isWhole 63 = .ok (.aaload, 1) := by decide +kernel
theorem dX3_isWhole_64 : decode cX3_isWhole 64 = .ok (.getfield 158, 3) := by decide +kernel
theorem dX3_isWhole_67 : decode cX3_isWhole 67 = .ok (.lor, 1) := by decide +kernel
theorem dX3_isWhole_68 : decode cX3_isWhole 68 = .ok (.lstore 4, 2) := by decide +kernel
theorem dX3_isWhole_70 : decode cX3_isWhole 70 = .ok (.iinc 7 1, 3) := by decide +kernel
theorem dX3_isWhole_73 : decode cX3_isWhole 73 = .ok (.goto (-64), 3) := by decide +kernel
theorem dX3_isWhole_76 : decode cX3_isWhole 76 = .ok (.iload 6, 2) := by decide +kernel
theorem dX3_isWhole_78 : decode cX3_isWhole 78 = .ok (.ifCond .ne 14, 3) := by decide +kernel
theorem dX3_isWhole_81 : decode cX3_isWhole 81 = .ok (.lload 4, 2) := by decide +kernel
theorem dX3_isWhole_83 : decode cX3_isWhole 83 = .ok (.lload_n 1, 1) := by decide +kernel
theorem dX3_isWhole_84 : decode cX3_isWhole 84 = .ok (.lcmp, 1) := by decide +kernel
theorem dX3_isWhole_85 : decode cX3_isWhole 85 = .ok (.ifCond .ne 7, 3) := by decide +kernel
theorem dX3_isWhole_88 : decode cX3_isWhole 88 = .ok (.iconst 1, 1) := by decide +kernel
theorem dX3_isWhole_89 : decode cX3_isWhole 89 = .ok (.goto 4, 3) := by decide +kernel
theorem dX3_isWhole_92 : decode cX3_isWhole 92 = .ok (.iconst 0, 1) := by decide +kernel
theorem dX3_isWhole_93 : decode cX3_isWhole 93 = .ok (.ireturn, 1) := by decide +kernel
theorem dX4_init_0 : decode cX4_init 0 = .ok (.aload_n 0, 1) := by decide +kernel
theorem dX4_init_1 : decode cX4_init 1 = .ok (.invokespecial 3, 3) := by decide +kernel
theorem dX4_init_4 : decode cX4_init 4 = .ok (.aload_n 0, 1) := by decide +kernel
theorem dX4_init_5 : decode cX4_init 5 = .ok (.iconst 0, 1) := by decide +kernel
theorem dX4_init_6 : decode cX4_init 6 = .ok (.putfield 9, 3) := by decide +kernel
theorem dX4_init_9 : decode cX4_init 9 = .ok (.aload_n 0, 1) := by decide +kernel
theorem dX4_init_10 : decode cX4_init 10 = .ok (.bipush 100, 2) := by decide +kernel
theorem dX4_init_12 : decode cX4_init 12 = .ok (.newarray .int, 2) := by decide +kernel
theorem dX4_init_14 : decode cX4_init 14 = .ok (.putfield 15, 3) := by decide +kernel
theorem dX4_init_17 : decode cX4_init 17 = .ok (.aload_n 0, 1) := by decide +kernel
theorem dX4_init_18 : decode cX4_init 18 = .ok (.bipush 100, 2) := by decide +kernel
theorem dX4_init_20 : decode cX4_init 20 = .ok (.newarray .int, 2) := by decide +kernel
theorem dX4_init_22 : decode cX4_init 22 = .ok (.putfield 19, 3) := by decide +kernel
theorem dX4_init_25 : decode cX4_init 25 = .ok (.return_, 1) := by decide +kernel
theorem dX4_become_0 : decode cX4_become 0 = .ok (.aload_n 0, 1) := by decide +kernel
theorem dX4_become_1 : decode cX4_become 1 = .ok (.aload_n 1, 1) := by decide +kernel
theorem dX4_become_2 : decode cX4_become 2 = .ok (.getfield 9, 3) := by decide +kernel
theorem dX4_become_5 : decode cX4_become 5 = .ok (.putfield 9, 3) := by decide +kernel
theorem dX4_become_8 : decode cX4_become 8 = .ok (.aload_n 1, 1) := by decide +kernel
theorem dX4_become_9 : decode cX4_become 9 = .ok (.getfield 15, 3) := by decide +kernel
theorem dX4_become_12 : decode cX4_become 12 = .ok (.iconst 0, 1) := by decide +kernel
theorem dX4_become_13 : decode cX4_become 13 = .ok (.aload_n 0, 1) := by decide +kernel
theorem dX4_become_14 : decode cX4_become 14 = .ok (.getfield 15, 3) := by decide +kernel
theorem dX4_become_17 : decode cX4_become 17 = .ok (.iconst 0, 1) := by decide +kernel
theorem dX4_become_18 : decode cX4_become 18 = .ok (.aload_n 0, 1) := by decide +kernel
theorem dX4_become_19 : decode cX4_become 19 = .ok (.getfield 9, 3) := by decide +kernel
theorem dX4_become_22 : decode cX4_become 22 = .ok (.invokestatic 22, 3) := by decide +kernel
theorem dX4_become_25 : decode cX4_become 25 = .ok (.aload_n 1, 1) := by decide +kernel
theorem dX4_become_26 : decode cX4_become 26 = .ok (.getfield 19, 3) := by decide +kernel
theorem dX4_become_29 : decode cX4_become 29 = .ok (.iconst 0, 1) := by decide +kernel
theorem dX4_become_30 : decode cX4_become 30 = .ok (.aload_n 0, 1) := by decide +kernel
theorem dX4_become_31 : decode cX4_become 31 = .ok (.getfield 19, 3) := by decide +kernel
theorem dX4_become_34 : decode cX4_become 34 = .ok (.iconst 0, 1) := by decide +kernel
theorem dX4_become_35 : decode cX4_become 35 = .ok (.aload_n 0, 1) := by decide +kernel
theorem dX4_become_36 : decode cX4_become 36 = .ok (.getfield 9, 3) := by decide +kernel
theorem dX4_become_39 : decode cX4_become 39 = .ok (.invokestatic 22, 3) := by decide +kernel
theorem dX4_become_42 : decode cX4_become 42 = .ok (.return_, 1) := by decide +kernel
theorem dX4_hasCell_0 : decode cX4_hasCell 0 = .ok (.iload_n 1, 1) := by decide +kernel
theorem dX4_hasCell_1 : decode cX4_hasCell 1 = .ok (.ifCond .lt 15, 3) := by decide +kernel
theorem dX4_hasCell_4 : decode cX4_hasCell 4 = .ok (.iload_n 1, 1) := by decide +kernel
theorem dX4_hasCell_5 : decode cX4_hasCell 5 = .ok (.aload_n 0, 1) := by decide +kernel
theorem dX4_hasCell_6 : decode cX4_hasCell 6 = .ok (.getfield 9, 3) := by decide +kernel
theorem dX4_hasCell_9 : decode cX4_hasCell 9 = .ok (.if_icmp .ge 7, 3) := by decide +kernel
theorem dX4_hasCell_12 : decode cX4_hasCell 12 = .ok (.iconst 1, 1) := by decide +kernel
theorem dX4_hasCell_13 : decode cX4_hasCell 13 = .ok (.goto 4, 3) := by decide +kernel
theorem dX4_hasCell_16 : decode cX4_hasCell 16 = .ok (.iconst 0, 1) := by decide +kernel
theorem dX4_hasCell_17 : decode cX4_hasCell 17 = .ok (.ireturn, 1) := by decide +kernel
theorem dX4_layOut_0 : decode cX4_layOut 0 = .ok (.aload_n 0, 1) := by decide +kernel
theorem dX4_layOut_1 : decode cX4_layOut 1 = .ok (.iconst 0, 1) := by decide +kernel
theorem dX4_layOut_2 : decode cX4_layOut 2 = .ok (.putfield 9, 3) := by decide +kernel
theorem dX4_layOut_5 : decode cX4_layOut 5 = .ok (.iconst 0, 1) := by decide +kernel
theorem dX4_layOut_6 : decode cX4_layOut 6 = .ok (.istore_n 2, 1) := by decide +kernel
theorem dX4_layOut_7 : decode cX4_layOut 7 = .ok (.iload_n 2, 1) := by decide +kernel
theorem dX4_layOut_8 : decode cX4_layOut 8 = .ok (.aload_n 1, 1) := by decide +kernel
theorem dX4_layOut_9 : decode cX4_layOut 9 = .ok (.getfield 28, 3) := by decide +kernel
theorem dX4_layOut_12 : decode cX4_layOut 12 = .ok (.if_icmp .ge 18, 3) := by decide +kernel
theorem dX4_layOut_15 : decode cX4_layOut 15 = .ok (.aload_n 0, 1) := by decide +kernel
theorem dX4_layOut_16 : decode cX4_layOut 16 = .ok (.aload_n 1, 1) := by decide +kernel
theorem dX4_layOut_17 : decode cX4_layOut 17 = .ok (.iload_n 2, 1) := by decide +kernel
theorem dX4_layOut_18 : decode cX4_layOut 18 = .ok (.invokestatic 31, 3) := by decide +kernel
theorem dX4_layOut_21 : decode cX4_layOut 21 = .ok (.invokevirtual 35, 3) := by decide +kernel
theorem dX4_layOut_24 : decode cX4_layOut 24 = .ok (.iinc 2 1, 3) := by decide +kernel
theorem dX4_layOut_27 : decode cX4_layOut 27 = .ok (.goto (-20), 3) := by decide +kernel
theorem dX4_layOut_30 : decode cX4_layOut 30 = .ok (.aload_n 1, 1) := by decide +kernel
theorem dX4_layOut_31 : decode cX4_layOut 31 = .ok (.invokevirtual 39, 3) := by decide +kernel
theorem dX4_layOut_34 : decode cX4_layOut 34 = .ok (.istore_n 2, 1) := by decide +kernel
theorem dX4_layOut_35 : decode cX4_layOut 35 = .ok (.iconst 0, 1) := by decide +kernel
theorem dX4_layOut_36 : decode cX4_layOut 36 = .ok (.istore_n 3, 1) := by decide +kernel
theorem dX4_layOut_37 : decode cX4_layOut 37 = .ok (.iload_n 3, 1) := by decide +kernel
theorem dX4_layOut_38 : decode cX4_layOut 38 = .ok (.iload_n 2, 1) := by decide +kernel
theorem dX4_layOut_39 : decode cX4_layOut 39 = .ok (.if_icmp .ge 30, 3) := by decide +kernel
theorem dX4_layOut_42 : decode cX4_layOut 42 = .ok (.aload_n 0, 1) := by decide +kernel
theorem dX4_layOut_43 : decode cX4_layOut 43 = .ok (.aload_n 1, 1) := by decide +kernel
theorem dX4_layOut_44 : decode cX4_layOut 44 = .ok (.getstatic 43, 3) := by decide +kernel
theorem dX4_layOut_47 : decode cX4_layOut 47 = .ok (.iload_n 3, 1) := by decide +kernel
theorem dX4_layOut_48 : decode cX4_layOut 48 = .ok (.iaload, 1) := by decide +kernel
theorem dX4_layOut_49 : decode cX4_layOut 49 = .ok (.bipush 10, 2) := by decide +kernel
theorem dX4_layOut_51 : decode cX4_layOut 51 = .ok (.idiv, 1) := by decide +kernel
theorem dX4_layOut_52 : decode cX4_layOut 52 = .ok (.getstatic 43, 3) := by decide +kernel
theorem dX4_layOut_55 : decode cX4_layOut 55 = .ok (.iload_n 3, 1) := by decide +kernel
theorem dX4_layOut_56 : decode cX4_layOut 56 = .ok (.iaload, 1) := by decide +kernel
theorem dX4_layOut_57 : decode cX4_layOut 57 = .ok (.bipush 10, 2) := by decide +kernel
theorem dX4_layOut_59 : decode cX4_layOut 59 = .ok (.irem, 1) := by decide +kernel
theorem dX4_layOut_60 : decode cX4_layOut 60 = .ok (.invokevirtual 46, 3) := by decide +kernel
theorem dX4_layOut_63 : decode cX4_layOut 63 = .ok (.iinc 3 1, 3) := by decide +kernel
theorem dX4_layOut_66 : decode cX4_layOut 66 = .ok (.goto (-29), 3) := by decide +kernel
theorem dX4_layOut_69 : decode cX4_layOut 69 = .ok (.return_, 1) := by decide +kernel
theorem dX4_layPair_0 : decode cX4_layPair 0 = .ok (.aload_n 1, 1) := by decide +kernel
theorem dX4_layPair_1 : decode cX4_layPair 1 = .ok (.iload_n 2, 1) := by decide +kernel
theorem dX4_layPair_2 : decode cX4_layPair 2 = .ok (.invokestatic 31, 3) := by decide +kernel
theorem dX4_layPair_5 : decode cX4_layPair 5 = .ok (.istore 4, 2) := by decide +kernel
theorem dX4_layPair_7 : decode cX4_layPair 7 = .ok (.aload_n 1, 1) := by decide +kernel
theorem dX4_layPair_8 : decode cX4_layPair 8 = .ok (.iload_n 3, 1) := by decide +kernel
theorem dX4_layPair_9 : decode cX4_layPair 9 = .ok (.invokestatic 31, 3) := by decide +kernel
theorem dX4_layPair_12 : decode cX4_layPair 12 = .ok (.istore 5, 2) := by decide +kernel
theorem dX4_layPair_14 : decode cX4_layPair 14 = .ok (.aload_n 1, 1) := by decide +kernel
theorem dX4_layPair_15 : decode cX4_layPair 15 = .ok (.getfield 50, 3) := by decide +kernel
theorem dX4_layPair_18 : decode cX4_layPair 18 = .ok (.iload_n 2, 1) := by decide +kernel
theorem dX4_layPair_19 : decode cX4_layPair 19 = .ok (.bipush 10, 2) := by decide +kernel
theorem dX4_layPair_21 : decode cX4_layPair 21 = .ok (.imul, 1) := by decide +kernel
theorem dX4_layPair_22 : decode cX4_layPair 22 = .ok (.iload_n 3, 1) := by decide +kernel
theorem dX4_layPair_23 : decode cX4_layPair 23 = .ok (.iadd, 1) := by decide +kernel
theorem dX4_layPair_24 : decode cX4_layPair 24 = .ok (.iaload, 1) := by decide +kernel
theorem dX4_layPair_25 : decode cX4_layPair 25 = .ok (.invokestatic 53, 3) := by decide +kernel
theorem dX4_layPair_28 : decode cX4_layPair 28 = .ok (.tableswitch 103 1 5 #[48, 36, 73, 103, 88], 36) := by decide +kernel
theorem dX4_layPair_64 : decode cX4_layPair 64 = .ok (.aload_n 0, 1) := by decide +kernel
theorem dX4_layPair_65 : decode cX4_layPair 65 = .ok (.iload 4, 2) := by decide +kernel
theorem dX4_layPair_67 : decode cX4_layPair 67 = .ok (.iload 5, 2) := by decide +kernel
theorem dX4_layPair_69 : decode cX4_layPair 69 = .ok (.ior, 1) := by decide +kernel
theorem dX4_layPair_70 : decode cX4_layPair 70 = .ok (.invokevirtual 35, 3) := by decide +kernel
theorem dX4_layPair_73 : decode cX4_layPair 73 = .ok (.goto 58, 3) := by decide +kernel
theorem dX4_layPair_76 : decode cX4_layPair 76 = .ok (.aload_n 0, 1) := by decide +kernel
theorem dX4_layPair_77 : decode cX4_layPair 77 = .ok (.iload 4, 2) := by decide +kernel
theorem dX4_layPair_79 : decode cX4_layPair 79 = .ok (.aload_n 1, 1) := by decide +kernel
theorem dX4_layPair_80 : decode cX4_layPair 80 = .ok (.iload 5, 2) := by decide +kernel
theorem dX4_layPair_82 : decode cX4_layPair 82 = .ok (.invokestatic 59, 3) := by decide +kernel
theorem dX4_layPair_85 : decode cX4_layPair 85 = .ok (.ior, 1) := by decide +kernel
theorem dX4_layPair_86 : decode cX4_layPair 86 = .ok (.iload 5, 2) := by decide +kernel
theorem dX4_layPair_88 : decode cX4_layPair 88 = .ok (.aload_n 1, 1) := by decide +kernel
theorem dX4_layPair_89 : decode cX4_layPair 89 = .ok (.iload 4, 2) := by decide +kernel
theorem dX4_layPair_91 : decode cX4_layPair 91 = .ok (.invokestatic 59, 3) := by decide +kernel
theorem dX4_layPair_94 : decode cX4_layPair 94 = .ok (.ior, 1) := by decide +kernel
theorem dX4_layPair_95 : decode cX4_layPair 95 = .ok (.invokevirtual 62, 3) := by decide +kernel
theorem dX4_layPair_98 : decode cX4_layPair 98 = .ok (.goto 33, 3) := by decide +kernel
theorem dX4_layPair_101 : decode cX4_layPair 101 = .ok (.aload_n 0, 1) := by decide +kernel
theorem dX4_layPair_102 : decode cX4_layPair 102 = .ok (.iload 4, 2) := by decide +kernel
theorem dX4_layPair_104 : decode cX4_layPair 104 = .ok (.aload_n 1, 1) := by decide +kernel
theorem dX4_layPair_105 : decode cX4_layPair 105 = .ok (.iload 4, 2) := by decide +kernel
theorem dX4_layPair_107 : decode cX4_layPair 107 = .ok (.invokestatic 59, 3) := by decide +kernel
theorem dX4_layPair_110 : decode cX4_layPair 110 = .ok (.invokevirtual 62, 3) := by decide +kernel
theorem dX4_layPair_113 : decode cX4_layPair 113 = .ok (.goto 18, 3) := by decide +kernel
theorem dX4_layPair_116 : decode cX4_layPair 116 = .ok (.aload_n 0, 1) := by decide +kernel
theorem dX4_layPair_117 : decode cX4_layPair 117 = .ok (.iload 5, 2) := by decide +kernel
theorem dX4_layPair_119 : decode cX4_layPair 119 = .ok (.aload_n 1, 1) := by decide +kernel
theorem dX4_layPair_120 : decode cX4_layPair 120 = .ok (.iload 5, 2) := by decide +kernel
theorem dX4_layPair_122 : decode cX4_layPair 122 = .ok (.invokestatic 59, 3) := by decide +kernel
theorem dX4_layPair_125 : decode cX4_layPair 125 = .ok (.invokevirtual 62, 3) := by decide +kernel
theorem dX4_layPair_128 : decode cX4_layPair 128 = .ok (.goto 3, 3) := by decide +kernel
theorem dX4_layPair_131 : decode cX4_layPair 131 = .ok (.return_, 1) := by decide +kernel
theorem dX4_addCell_0 : decode cX4_addCell 0 = .ok (.aload_n 0, 1) := by decide +kernel
theorem dX4_addCell_1 : decode cX4_addCell 1 = .ok (.getfield 9, 3) := by decide +kernel
theorem dX4_addCell_4 : decode cX4_addCell 4 = .ok (.bipush 100, 2) := by decide +kernel
theorem dX4_addCell_6 : decode cX4_addCell 6 = .ok (.if_icmp .ge 33, 3) := by decide +kernel
theorem dX4_addCell_9 : decode cX4_addCell 9 = .ok (.aload_n 0, 1) := by decide +kernel
theorem dX4_addCell_10 : decode cX4_addCell 10 = .ok (.getfield 15, 3) := by decide +kernel
theorem dX4_addCell_13 : decode cX4_addCell 13 = .ok (.aload_n 0, 1) := by decide +kernel
theorem dX4_addCell_14 : decode cX4_addCell 14 = .ok (.getfield 9, 3) := by decide +kernel
theorem dX4_addCell_17 : decode cX4_addCell 17 = .ok (.iload_n 1, 1) := by decide +kernel
theorem dX4_addCell_18 : decode cX4_addCell 18 = .ok (.iastore, 1) := by decide +kernel
theorem dX4_addCell_19 : decode cX4_addCell 19 = .ok (.aload_n 0, 1) := by decide +kernel
theorem dX4_addCell_20 : decode cX4_addCell 20 = .ok (.getfield 19, 3) := by decide +kernel
theorem dX4_addCell_23 : decode cX4_addCell 23 = .ok (.aload_n 0, 1) := by decide +kernel
theorem dX4_addCell_24 : decode cX4_addCell 24 = .ok (.getfield 9, 3) := by decide +kernel
theorem dX4_addCell_27 : decode cX4_addCell 27 = .ok (.iconst (-1), 1) := by decide +kernel
theorem dX4_addCell_28 : decode cX4_addCell 28 = .ok (.iastore, 1) := by decide +kernel
theorem dX4_addCell_29 : decode cX4_addCell 29 = .ok (.aload_n 0, 1) := by decide +kernel
theorem dX4_addCell_30 : decode cX4_addCell 30 = .ok (.dup, 1) := by decide +kernel
theorem dX4_addCell_31 : decode cX4_addCell 31 = .ok (.getfield 9, 3) := by decide +kernel
theorem dX4_addCell_34 : decode cX4_addCell 34 = .ok (.iconst 1, 1) := by decide +kernel
theorem dX4_addCell_35 : decode cX4_addCell 35 = .ok (.iadd, 1) := by decide +kernel
theorem dX4_addCell_36 : decode cX4_addCell 36 = .ok (.putfield 9, 3) := by decide +kernel
theorem dX4_addCell_39 : decode cX4_addCell 39 = .ok (.return_, 1) := by decide +kernel
theorem dX4_addMates_0 : decode cX4_addMates 0 = .ok (.aload_n 0, 1) := by decide +kernel
theorem dX4_addMates_1 : decode cX4_addMates 1 = .ok (.getfield 9, 3) := by decide +kernel
theorem dX4_addMates_4 : decode cX4_addMates 4 = .ok (.iconst 2, 1) := by decide +kernel
theorem dX4_addMates_5 : decode cX4_addMates 5 = .ok (.iadd, 1) := by decide +kernel
theorem dX4_addMates_6 : decode cX4_addMates 6 = .ok (.bipush 100, 2) := by decide +kernel
theorem dX4_addMates_8 : decode cX4_addMates 8 = .ok (.if_icmp .gt 47, 3) := by decide +kernel
theorem dX4_addMates_11 : decode cX4_addMates 11 = .ok (.aload_n 0, 1) := by decide +kernel
theorem dX4_addMates_12 : decode cX4_addMates 12 = .ok (.iload_n 1, 1) := by decide +kernel
theorem dX4_addMates_13 : decode cX4_addMates 13 = .ok (.invokevirtual 35, 3) := by decide +kernel
theorem dX4_addMates_16 : decode cX4_addMates 16 = .ok (.aload_n 0, 1) := by decide +kernel
theorem dX4_addMates_17 : decode cX4_addMates 17 = .ok (.iload_n 2, 1) := by decide +kernel
theorem dX4_addMates_18 : decode cX4_addMates 18 = .ok (.invokevirtual 35, 3) := by decide +kernel
theorem dX4_addMates_21 : decode cX4_addMates 21 = .ok (.aload_n 0, 1) := by decide +kernel
theorem dX4_addMates_22 : decode cX4_addMates 22 = .ok (.getfield 19, 3) := by decide +kernel
theorem dX4_addMates_25 : decode cX4_addMates 25 = .ok (.aload_n 0, 1) := by decide +kernel
theorem dX4_addMates_26 : decode cX4_addMates 26 = .ok (.getfield 9, 3) := by decide +kernel
theorem dX4_addMates_29 : decode cX4_addMates 29 = .ok (.iconst 2, 1) := by decide +kernel
theorem dX4_addMates_30 : decode cX4_addMates 30 = .ok (.isub, 1) := by decide +kernel
theorem dX4_addMates_31 : decode cX4_addMates 31 = .ok (.aload_n 0, 1) := by decide +kernel
theorem dX4_addMates_32 : decode cX4_addMates 32 = .ok (.getfield 9, 3) := by decide +kernel
theorem dX4_addMates_35 : decode cX4_addMates 35 = .ok (.iconst 1, 1) := by decide +kernel
theorem dX4_addMates_36 : decode cX4_addMates 36 = .ok (.isub, 1) := by decide +kernel
theorem dX4_addMates_37 : decode cX4_addMates 37 = .ok (.iastore, 1) := by decide +kernel
theorem dX4_addMates_38 : decode cX4_addMates 38 = .ok (.aload_n 0, 1) := by decide +kernel
theorem dX4_addMates_39 : decode cX4_addMates 39 = .ok (.getfield 19, 3) := by decide +kernel
theorem dX4_addMates_42 : decode cX4_addMates 42 = .ok (.aload_n 0, 1) := by decide +kernel
theorem dX4_addMates_43 : decode cX4_addMates 43 = .ok (.getfield 9, 3) := by decide +kernel
theorem dX4_addMates_46 : decode cX4_addMates 46 = .ok (.iconst 1, 1) := by decide +kernel
theorem dX4_addMates_47 : decode cX4_addMates 47 = .ok (.isub, 1) := by decide +kernel
theorem dX4_addMates_48 : decode cX4_addMates 48 = .ok (.aload_n 0, 1) := by decide +kernel
theorem dX4_addMates_49 : decode cX4_addMates 49 = .ok (.getfield 9, 3) := by decide +kernel
theorem dX4_addMates_52 : decode cX4_addMates 52 = .ok (.iconst 2, 1) := by decide +kernel
theorem dX4_addMates_53 : decode cX4_addMates 53 = .ok (.isub, 1) := by decide +kernel
theorem dX4_addMates_54 : decode cX4_addMates 54 = .ok (.iastore, 1) := by decide +kernel
theorem dX4_addMates_55 : decode cX4_addMates 55 = .ok (.return_, 1) := by decide +kernel
theorem dX4_upOf_0 : decode cX4_upOf 0 = .ok (.iconst 1, 1) := by decide +kernel
theorem dX4_upOf_1 : decode cX4_upOf 1 = .ok (.iload_n 1, 1) := by decide +kernel
theorem dX4_upOf_2 : decode cX4_upOf 2 = .ok (.ishl, 1) := by decide +kernel
theorem dX4_upOf_3 : decode cX4_upOf 3 = .ok (.aload_n 0, 1) := by decide +kernel
theorem dX4_upOf_4 : decode cX4_upOf 4 = .ok (.iload_n 1, 1) := by decide +kernel
theorem dX4_upOf_5 : decode cX4_upOf 5 = .ok (.sipush 152, 3) := by decide +kernel
theorem dX4_upOf_8 : decode cX4_upOf 8 = .ok (.invokestatic 66, 3) := by decide +kernel
theorem dX4_upOf_11 : decode cX4_upOf 11 = .ok (.ior, 1) := by decide +kernel
theorem dX4_upOf_12 : decode cX4_upOf 12 = .ok (.ireturn, 1) := by decide +kernel
theorem dX4_beyond_0 : decode cX4_beyond 0 = .ok (.iconst 0, 1) := by decide +kernel
theorem dX4_beyond_1 : decode cX4_beyond 1 = .ok (.istore_n 2, 1) := by decide +kernel
theorem dX4_beyond_2 : decode cX4_beyond 2 = .ok (.iconst 0, 1) := by decide +kernel
theorem dX4_beyond_3 : decode cX4_beyond 3 = .ok (.istore_n 3, 1) := by decide +kernel
theorem dX4_beyond_4 : decode cX4_beyond 4 = .ok (.iload_n 3, 1) := by decide +kernel
theorem dX4_beyond_5 : decode cX4_beyond 5 = .ok (.aload_n 0, 1) := by decide +kernel
theorem dX4_beyond_6 : decode cX4_beyond 6 = .ok (.getfield 28, 3) := by decide +kernel
theorem dX4_beyond_9 : decode cX4_beyond 9 = .ok (.if_icmp .ge 27, 3) := by decide +kernel
theorem dX4_beyond_12 : decode cX4_beyond 12 = .ok (.iload_n 1, 1) := by decide +kernel
theorem dX4_beyond_13 : decode cX4_beyond 13 = .ok (.iload_n 3, 1) := by decide +kernel
theorem dX4_beyond_14 : decode cX4_beyond 14 = .ok (.ishr, 1) := by decide +kernel
theorem dX4_beyond_15 : decode cX4_beyond 15 = .ok (.iconst 1, 1) := by decide +kernel
theorem dX4_beyond_16 : decode cX4_beyond 16 = .ok (.iand, 1) := by decide +kernel
theorem dX4_beyond_17 : decode cX4_beyond 17 = .ok (.ifCond .eq 13, 3) := by decide +kernel
theorem dX4_beyond_20 : decode cX4_beyond 20 = .ok (.iload_n 2, 1) := by decide +kernel
theorem dX4_beyond_21 : decode cX4_beyond 21 = .ok (.aload_n 0, 1) := by decide +kernel
theorem dX4_beyond_22 : decode cX4_beyond 22 = .ok (.iload_n 3, 1) := by decide +kernel
theorem dX4_beyond_23 : decode cX4_beyond 23 = .ok (.bipush 16, 2) := by decide +kernel
theorem dX4_beyond_25 : decode cX4_beyond 25 = .ok (.invokestatic 66, 3) := by decide +kernel
theorem dX4_beyond_28 : decode cX4_beyond 28 = .ok (.ior, 1) := by decide +kernel
theorem dX4_beyond_29 : decode cX4_beyond 29 = .ok (.istore_n 2, 1) := by decide +kernel
theorem dX4_beyond_30 : decode cX4_beyond 30 = .ok (.iinc 3 1, 3) := by decide +kernel
theorem dX4_beyond_33 : decode cX4_beyond 33 = .ok (.goto (-29), 3) := by decide +kernel
theorem dX4_beyond_36 : decode cX4_beyond 36 = .ok (.iload_n 2, 1) := by decide +kernel
theorem dX4_beyond_37 : decode cX4_beyond 37 = .ok (.ireturn, 1) := by decide +kernel
theorem dX4_reached_0 : decode cX4_reached 0 = .ok (.iconst 0, 1) := by decide +kernel
theorem dX4_reached_1 : decode cX4_reached 1 = .ok (.istore_n 3, 1) := by decide +kernel
theorem dX4_reached_2 : decode cX4_reached 2 = .ok (.iconst 0, 1) := by decide +kernel
theorem dX4_reached_3 : decode cX4_reached 3 = .ok (.istore 4, 2) := by decide +kernel
theorem dX4_reached_5 : decode cX4_reached 5 = .ok (.iload 4, 2) := by decide +kernel
theorem dX4_reached_7 : decode cX4_reached 7 = .ok (.aload_n 0, 1) := by decide +kernel
theorem dX4_reached_8 : decode cX4_reached 8 = .ok (.getfield 28, 3) := by decide +kernel
theorem dX4_reached_11 : decode cX4_reached 11 = .ok (.if_icmp .ge 39, 3) := by decide +kernel
theorem dX4_reached_14 : decode cX4_reached 14 = .ok (.iload 4, 2) := by decide +kernel
theorem dX4_reached_16 : decode cX4_reached 16 = .ok (.iload_n 1, 1) := by decide +kernel
theorem dX4_reached_17 : decode cX4_reached 17 = .ok (.if_icmp .eq 27, 3) := by decide +kernel
theorem dX4_reached_20 : decode cX4_reached 20 = .ok (.aload_n 0, 1) := by decide +kernel
theorem dX4_reached_21 : decode cX4_reached 21 = .ok (.getfield 50, 3) := by decide +kernel
theorem dX4_reached_24 : decode cX4_reached 24 = .ok (.iload_n 1, 1) := by decide +kernel
theorem dX4_reached_25 : decode cX4_reached 25 = .ok (.bipush 10, 2) := by decide +kernel
theorem dX4_reached_27 : decode cX4_reached 27 = .ok (.imul, 1) := by decide +kernel
theorem dX4_reached_28 : decode cX4_reached 28 = .ok (.iload 4, 2) := by decide +kernel
theorem dX4_reached_30 : decode cX4_reached 30 = .ok (.iadd, 1) := by decide +kernel
theorem dX4_reached_31 : decode cX4_reached 31 = .ok (.iaload, 1) := by decide +kernel
theorem dX4_reached_32 : decode cX4_reached 32 = .ok (.iload_n 2, 1) := by decide +kernel
theorem dX4_reached_33 : decode cX4_reached 33 = .ok (.iand, 1) := by decide +kernel
theorem dX4_reached_34 : decode cX4_reached 34 = .ok (.ifCond .eq 10, 3) := by decide +kernel
theorem dX4_reached_37 : decode cX4_reached 37 = .ok (.iload_n 3, 1) := by decide +kernel
theorem dX4_reached_38 : decode cX4_reached 38 = .ok (.iconst 1, 1) := by decide +kernel
theorem dX4_reached_39 : decode cX4_reached 39 = .ok (.iload 4, 2) := by decide +kernel
theorem dX4_reached_41 : decode cX4_reached 41 = .ok (.ishl, 1) := by decide +kernel
theorem dX4_reached_42 : decode cX4_reached 42 = .ok (.ior, 1) := by decide +kernel
theorem dX4_reached_43 : decode cX4_reached 43 = .ok (.istore_n 3, 1) := by decide +kernel
theorem dX4_reached_44 : decode cX4_reached 44 = .ok (.iinc 4 1, 3) := by decide +kernel
theorem dX4_reached_47 : decode cX4_reached 47 = .ok (.goto (-42), 3) := by decide +kernel
theorem dX4_reached_50 : decode cX4_reached 50 = .ok (.iload_n 3, 1) := by decide +kernel
theorem dX4_reached_51 : decode cX4_reached 51 = .ok (.ireturn, 1) := by decide +kernel
theorem dX4_wayOf_0 : decode cX4_wayOf 0 = .ok (.iconst 0, 1) := by decide +kernel
theorem dX4_wayOf_1 : decode cX4_wayOf 1 = .ok (.istore_n 3, 1) := by decide +kernel
theorem dX4_wayOf_2 : decode cX4_wayOf 2 = .ok (.iconst 0, 1) := by decide +kernel
theorem dX4_wayOf_3 : decode cX4_wayOf 3 = .ok (.istore 4, 2) := by decide +kernel
theorem dX4_wayOf_5 : decode cX4_wayOf 5 = .ok (.iconst 0, 1) := by decide +kernel
theorem dX4_wayOf_6 : decode cX4_wayOf 6 = .ok (.istore 5, 2) := by decide +kernel
theorem dX4_wayOf_8 : decode cX4_wayOf 8 = .ok (.iconst 0, 1) := by decide +kernel
theorem dX4_wayOf_9 : decode cX4_wayOf 9 = .ok (.istore 6, 2) := by decide +kernel
theorem dX4_wayOf_11 : decode cX4_wayOf 11 = .ok (.iload 6, 2) := by decide +kernel
theorem dX4_wayOf_13 : decode cX4_wayOf 13 = .ok (.aload_n 0, 1) := by decide +kernel
theorem dX4_wayOf_14 : decode cX4_wayOf 14 = .ok (.getfield 9, 3) := by decide +kernel
theorem dX4_wayOf_17 : decode cX4_wayOf 17 = .ok (.if_icmp .ge 97, 3) := by decide +kernel
theorem dX4_wayOf_20 : decode cX4_wayOf 20 = .ok (.iload_n 3, 1) := by decide +kernel
theorem dX4_wayOf_21 : decode cX4_wayOf 21 = .ok (.aload_n 0, 1) := by decide +kernel
theorem dX4_wayOf_22 : decode cX4_wayOf 22 = .ok (.iload 6, 2) := by decide +kernel
theorem dX4_wayOf_24 : decode cX4_wayOf 24 = .ok (.iload_n 1, 1) := by decide +kernel
theorem dX4_wayOf_25 : decode cX4_wayOf 25 = .ok (.invokevirtual 70, 3) := by decide +kernel
theorem dX4_wayOf_28 : decode cX4_wayOf 28 = .ok (.ifCond .eq 17, 3) := by decide +kernel
theorem dX4_wayOf_31 : decode cX4_wayOf 31 = .ok (.aload_n 0, 1) := by decide +kernel
theorem dX4_wayOf_32 : decode cX4_wayOf 32 = .ok (.iload 6, 2) := by decide +kernel
theorem dX4_wayOf_34 : decode cX4_wayOf 34 = .ok (.iload_n 2, 1) := by decide +kernel
theorem dX4_wayOf_35 : decode cX4_wayOf 35 = .ok (.invokevirtual 70, 3) := by decide +kernel
theorem dX4_wayOf_38 : decode cX4_wayOf 38 = .ok (.ifCond .eq 7, 3) := by decide +kernel
theorem dX4_wayOf_41 : decode cX4_wayOf 41 = .ok (.iconst 1, 1) := by decide +kernel
theorem dX4_wayOf_42 : decode cX4_wayOf 42 = .ok (.goto 4, 3) := by decide +kernel
theorem dX4_wayOf_45 : decode cX4_wayOf 45 = .ok (.iconst 0, 1) := by decide +kernel
theorem dX4_wayOf_46 : decode cX4_wayOf 46 = .ok (.ior, 1) := by decide +kernel
theorem dX4_wayOf_47 : decode cX4_wayOf 47 = .ok (.istore_n 3, 1) := by decide +kernel
theorem dX4_wayOf_48 : decode cX4_wayOf 48 = .ok (.iload 4, 2) := by decide +kernel
theorem dX4_wayOf_50 : decode cX4_wayOf 50 = .ok (.aload_n 0, 1) := by decide +kernel
theorem dX4_wayOf_51 : decode cX4_wayOf 51 = .ok (.iload 6, 2) := by decide +kernel
theorem dX4_wayOf_53 : decode cX4_wayOf 53 = .ok (.iload_n 1, 1) := by decide +kernel
theorem dX4_wayOf_54 : decode cX4_wayOf 54 = .ok (.invokevirtual 70, 3) := by decide +kernel
theorem dX4_wayOf_57 : decode cX4_wayOf 57 = .ok (.ifCond .eq 17, 3) := by decide +kernel
theorem dX4_wayOf_60 : decode cX4_wayOf 60 = .ok (.aload_n 0, 1) := by decide +kernel
theorem dX4_wayOf_61 : decode cX4_wayOf 61 = .ok (.iload 6, 2) := by decide +kernel
theorem dX4_wayOf_63 : decode cX4_wayOf 63 = .ok (.iload_n 2, 1) := by decide +kernel
theorem dX4_wayOf_64 : decode cX4_wayOf 64 = .ok (.invokevirtual 70, 3) := by decide +kernel
theorem dX4_wayOf_67 : decode cX4_wayOf 67 = .ok (.ifCond .ne 7, 3) := by decide +kernel
theorem dX4_wayOf_70 : decode cX4_wayOf 70 = .ok (.iconst 1, 1) := by decide +kernel
theorem dX4_wayOf_71 : decode cX4_wayOf 71 = .ok (.goto 4, 3) := by decide +kernel
theorem dX4_wayOf_74 : decode cX4_wayOf 74 = .ok (.iconst 0, 1) := by decide +kernel
theorem dX4_wayOf_75 : decode cX4_wayOf 75 = .ok (.ior, 1) := by decide +kernel
theorem dX4_wayOf_76 : decode cX4_wayOf 76 = .ok (.istore 4, 2) := by decide +kernel
theorem dX4_wayOf_78 : decode cX4_wayOf 78 = .ok (.iload 5, 2) := by decide +kernel
theorem dX4_wayOf_80 : decode cX4_wayOf 80 = .ok (.aload_n 0, 1) := by decide +kernel
theorem dX4_wayOf_81 : decode cX4_wayOf 81 = .ok (.iload 6, 2) := by decide +kernel
theorem dX4_wayOf_83 : decode cX4_wayOf 83 = .ok (.iload_n 2, 1) := by decide +kernel
theorem dX4_wayOf_84 : decode cX4_wayOf 84 = .ok (.invokevirtual 70, 3) := by decide +kernel
theorem dX4_wayOf_87 : decode cX4_wayOf 87 = .ok (.ifCond .eq 17, 3) := by decide +kernel
theorem dX4_wayOf_90 : decode cX4_wayOf 90 = .ok (.aload_n 0, 1) := by decide +kernel
theorem dX4_wayOf_91 : decode cX4_wayOf 91 = .ok (.iload 6, 2) := by decide +kernel
theorem dX4_wayOf_93 : decode cX4_wayOf 93 = .ok (.iload_n 1, 1) := by decide +kernel
theorem dX4_wayOf_94 : decode cX4_wayOf 94 = .ok (.invokevirtual 70, 3) := by decide +kernel
theorem dX4_wayOf_97 : decode cX4_wayOf 97 = .ok (.ifCond .ne 7, 3) := by decide +kernel
theorem dX4_wayOf_100 : decode cX4_wayOf 100 = .ok (.iconst 1, 1) := by decide +kernel
theorem dX4_wayOf_101 : decode cX4_wayOf 101 = .ok (.goto 4, 3) := by decide +kernel
theorem dX4_wayOf_104 : decode cX4_wayOf 104 = .ok (.iconst 0, 1) := by decide +kernel
theorem dX4_wayOf_105 : decode cX4_wayOf 105 = .ok (.ior, 1) := by decide +kernel
theorem dX4_wayOf_106 : decode cX4_wayOf 106 = .ok (.istore 5, 2) := by decide +kernel
theorem dX4_wayOf_108 : decode cX4_wayOf 108 = .ok (.iinc 6 1, 3) := by decide +kernel
theorem dX4_wayOf_111 : decode cX4_wayOf 111 = .ok (.goto (-100), 3) := by decide +kernel
theorem dX4_wayOf_114 : decode cX4_wayOf 114 = .ok (.iload_n 3, 1) := by decide +kernel
theorem dX4_wayOf_115 : decode cX4_wayOf 115 = .ok (.ifCond .ne 15, 3) := by decide +kernel
theorem dX4_wayOf_118 : decode cX4_wayOf 118 = .ok (.iload 4, 2) := by decide +kernel
theorem dX4_wayOf_120 : decode cX4_wayOf 120 = .ok (.ifCond .eq 8, 3) := by decide +kernel
theorem dX4_wayOf_123 : decode cX4_wayOf 123 = .ok (.iload 5, 2) := by decide +kernel
theorem dX4_wayOf_125 : decode cX4_wayOf 125 = .ok (.ifCond .ne 5, 3) := by decide +kernel
theorem dX4_wayOf_128 : decode cX4_wayOf 128 = .ok (.iconst (-1), 1) := by decide +kernel
theorem dX4_wayOf_129 : decode cX4_wayOf 129 = .ok (.ireturn, 1) := by decide +kernel
theorem dX4_wayOf_130 : decode cX4_wayOf 130 = .ok (.iload_n 3, 1) := by decide +kernel
theorem dX4_wayOf_131 : decode cX4_wayOf 131 = .ok (.ifCond .ne 19, 3) := by decide +kernel
theorem dX4_wayOf_134 : decode cX4_wayOf 134 = .ok (.aload_n 0, 1) := by decide +kernel
theorem dX4_wayOf_135 : decode cX4_wayOf 135 = .ok (.iload_n 1, 1) := by decide +kernel
theorem dX4_wayOf_136 : decode cX4_wayOf 136 = .ok (.iload_n 2, 1) := by decide +kernel
theorem dX4_wayOf_137 : decode cX4_wayOf 137 = .ok (.iconst 1, 1) := by decide +kernel
theorem dX4_wayOf_138 : decode cX4_wayOf 138 = .ok (.invokevirtual 74, 3) := by decide +kernel
theorem dX4_wayOf_141 : decode cX4_wayOf 141 = .ok (.ifCond .eq 7, 3) := by decide +kernel
theorem dX4_wayOf_144 : decode cX4_wayOf 144 = .ok (.iconst 1, 1) := by decide +kernel
theorem dX4_wayOf_145 : decode cX4_wayOf 145 = .ok (.goto 4, 3) := by decide +kernel
theorem dX4_wayOf_148 : decode cX4_wayOf 148 = .ok (.iconst 0, 1) := by decide +kernel
theorem dX4_wayOf_149 : decode cX4_wayOf 149 = .ok (.ireturn, 1) := by decide +kernel
theorem dX4_wayOf_150 : decode cX4_wayOf 150 = .ok (.iload 4, 2) := by decide +kernel
theorem dX4_wayOf_152 : decode cX4_wayOf 152 = .ok (.ifCond .eq 10, 3) := by decide +kernel
theorem dX4_wayOf_155 : decode cX4_wayOf 155 = .ok (.iload 5, 2) := by decide +kernel
theorem dX4_wayOf_157 : decode cX4_wayOf 157 = .ok (.ifCond .eq 5, 3) := by decide +kernel
theorem dX4_wayOf_160 : decode cX4_wayOf 160 = .ok (.iconst 2, 1) := by decide +kernel
theorem dX4_wayOf_161 : decode cX4_wayOf 161 = .ok (.ireturn, 1) := by decide +kernel
theorem dX4_wayOf_162 : decode cX4_wayOf 162 = .ok (.iload 5, 2) := by decide +kernel
theorem dX4_wayOf_164 : decode cX4_wayOf 164 = .ok (.ifCond .eq 19, 3) := by decide +kernel
theorem dX4_wayOf_167 : decode cX4_wayOf 167 = .ok (.aload_n 0, 1) := by decide +kernel
theorem dX4_wayOf_168 : decode cX4_wayOf 168 = .ok (.iload_n 1, 1) := by decide +kernel
theorem dX4_wayOf_169 : decode cX4_wayOf 169 = .ok (.iload_n 2, 1) := by decide +kernel
theorem dX4_wayOf_170 : decode cX4_wayOf 170 = .ok (.iconst 0, 1) := by decide +kernel
theorem dX4_wayOf_171 : decode cX4_wayOf 171 = .ok (.invokevirtual 74, 3) := by decide +kernel
theorem dX4_wayOf_174 : decode cX4_wayOf 174 = .ok (.ifCond .eq 7, 3) := by decide +kernel
theorem dX4_wayOf_177 : decode cX4_wayOf 177 = .ok (.iconst 3, 1) := by decide +kernel
theorem dX4_wayOf_178 : decode cX4_wayOf 178 = .ok (.goto 4, 3) := by decide +kernel
theorem dX4_wayOf_181 : decode cX4_wayOf 181 = .ok (.iconst 4, 1) := by decide +kernel
theorem dX4_wayOf_182 : decode cX4_wayOf 182 = .ok (.ireturn, 1) := by decide +kernel
theorem dX4_wayOf_183 : decode cX4_wayOf 183 = .ok (.iload 4, 2) := by decide +kernel
theorem dX4_wayOf_185 : decode cX4_wayOf 185 = .ok (.ifCond .eq 20, 3) := by decide +kernel
theorem dX4_wayOf_188 : decode cX4_wayOf 188 = .ok (.aload_n 0, 1) := by decide +kernel
theorem dX4_wayOf_189 : decode cX4_wayOf 189 = .ok (.iload_n 2, 1) := by decide +kernel
theorem dX4_wayOf_190 : decode cX4_wayOf 190 = .ok (.iload_n 1, 1) := by decide +kernel
theorem dX4_wayOf_191 : decode cX4_wayOf 191 = .ok (.iconst 0, 1) := by decide +kernel
theorem dX4_wayOf_192 : decode cX4_wayOf 192 = .ok (.invokevirtual 74, 3) := by decide +kernel
theorem dX4_wayOf_195 : decode cX4_wayOf 195 = .ok (.ifCond .eq 7, 3) := by decide +kernel
theorem dX4_wayOf_198 : decode cX4_wayOf 198 = .ok (.iconst 5, 1) := by decide +kernel
theorem dX4_wayOf_199 : decode cX4_wayOf 199 = .ok (.goto 5, 3) := by decide +kernel
theorem dX4_wayOf_202 : decode cX4_wayOf 202 = .ok (.bipush 6, 2) := by decide +kernel
theorem dX4_wayOf_204 : decode cX4_wayOf 204 = .ok (.ireturn, 1) := by decide +kernel
theorem dX4_wayOf_205 : decode cX4_wayOf 205 = .ok (.bipush 7, 2) := by decide +kernel
theorem dX4_wayOf_207 : decode cX4_wayOf 207 = .ok (.ireturn, 1) := by decide +kernel
theorem dX4_isIn_0 : decode cX4_isIn 0 = .ok (.aload_n 0, 1) := by decide +kernel
theorem dX4_isIn_1 : decode cX4_isIn 1 = .ok (.getfield 15, 3) := by decide +kernel
theorem dX4_isIn_4 : decode cX4_isIn 4 = .ok (.iload_n 1, 1) := by decide +kernel
theorem dX4_isIn_5 : decode cX4_isIn 5 = .ok (.iaload, 1) := by decide +kernel
theorem dX4_isIn_6 : decode cX4_isIn 6 = .ok (.iload_n 2, 1) := by decide +kernel
theorem dX4_isIn_7 : decode cX4_isIn 7 = .ok (.ishr, 1) := by decide +kernel
theorem dX4_isIn_8 : decode cX4_isIn 8 = .ok (.iconst 1, 1) := by decide +kernel
theorem dX4_isIn_9 : decode cX4_isIn 9 = .ok (.iand, 1) := by decide +kernel
theorem dX4_isIn_10 : decode cX4_isIn 10 = .ok (.ifCond .eq 7, 3) := by decide +kernel
theorem dX4_isIn_13 : decode cX4_isIn 13 = .ok (.iconst 1, 1) := by decide +kernel
theorem dX4_isIn_14 : decode cX4_isIn 14 = .ok (.goto 4, 3) := by decide +kernel
theorem dX4_isIn_17 : decode cX4_isIn 17 = .ok (.iconst 0, 1) := by decide +kernel
theorem dX4_isIn_18 : decode cX4_isIn 18 = .ok (.ireturn, 1) := by decide +kernel
theorem dX4_hasNext_0 : decode cX4_hasNext 0 = .ok (.iconst 0, 1) := by decide +kernel
theorem dX4_hasNext_1 : decode cX4_hasNext 1 = .ok (.istore 4, 2) := by decide +kernel
theorem dX4_hasNext_3 : decode cX4_hasNext 3 = .ok (.iload 4, 2) := by decide +kernel
theorem dX4_hasNext_5 : decode cX4_hasNext 5 = .ok (.aload_n 0, 1) := by decide +kernel
theorem dX4_hasNext_6 : decode cX4_hasNext 6 = .ok (.getfield 9, 3) := by decide +kernel
theorem dX4_hasNext_9 : decode cX4_hasNext 9 = .ok (.if_icmp .ge 51, 3) := by decide +kernel
theorem dX4_hasNext_12 : decode cX4_hasNext 12 = .ok (.aload_n 0, 1) := by decide +kernel
theorem dX4_hasNext_13 : decode cX4_hasNext 13 = .ok (.iload 4, 2) := by decide +kernel
theorem dX4_hasNext_15 : decode cX4_hasNext 15 = .ok (.iload_n 1, 1) := by decide +kernel
theorem dX4_hasNext_16 : decode cX4_hasNext 16 = .ok (.invokevirtual 70, 3) := by decide +kernel
theorem dX4_hasNext_19 : decode cX4_hasNext 19 = .ok (.ifCond .eq 35, 3) := by decide +kernel
theorem dX4_hasNext_22 : decode cX4_hasNext 22 = .ok (.aload_n 0, 1) := by decide +kernel
theorem dX4_hasNext_23 : decode cX4_hasNext 23 = .ok (.aload_n 0, 1) := by decide +kernel
theorem dX4_hasNext_24 : decode cX4_hasNext 24 = .ok (.getfield 19, 3) := by decide +kernel
theorem dX4_hasNext_27 : decode cX4_hasNext 27 = .ok (.iload 4, 2) := by decide +kernel
theorem dX4_hasNext_29 : decode cX4_hasNext 29 = .ok (.iaload, 1) := by decide +kernel
theorem dX4_hasNext_30 : decode cX4_hasNext 30 = .ok (.invokevirtual 78, 3) := by decide +kernel
theorem dX4_hasNext_33 : decode cX4_hasNext 33 = .ok (.ifCond .eq 21, 3) := by decide +kernel
theorem dX4_hasNext_36 : decode cX4_hasNext 36 = .ok (.aload_n 0, 1) := by decide +kernel
theorem dX4_hasNext_37 : decode cX4_hasNext 37 = .ok (.aload_n 0, 1) := by decide +kernel
theorem dX4_hasNext_38 : decode cX4_hasNext 38 = .ok (.getfield 19, 3) := by decide +kernel
theorem dX4_hasNext_41 : decode cX4_hasNext 41 = .ok (.iload 4, 2) := by decide +kernel
theorem dX4_hasNext_43 : decode cX4_hasNext 43 = .ok (.iaload, 1) := by decide +kernel
theorem dX4_hasNext_44 : decode cX4_hasNext 44 = .ok (.iload_n 2, 1) := by decide +kernel
theorem dX4_hasNext_45 : decode cX4_hasNext 45 = .ok (.invokevirtual 70, 3) := by decide +kernel
theorem dX4_hasNext_48 : decode cX4_hasNext 48 = .ok (.iload_n 3, 1) := by decide +kernel
theorem dX4_hasNext_49 : decode cX4_hasNext 49 = .ok (.if_icmp .ne 5, 3) := by decide +kernel
theorem dX4_hasNext_52 : decode cX4_hasNext 52 = .ok (.iconst 1, 1) := by decide +kernel
theorem dX4_hasNext_53 : decode cX4_hasNext 53 = .ok (.ireturn, 1) := by decide +kernel
theorem dX4_hasNext_54 : decode cX4_hasNext 54 = .ok (.iinc 4 1, 3) := by decide +kernel
theorem dX4_hasNext_57 : decode cX4_hasNext 57 = .ok (.goto (-54), 3) := by decide +kernel
theorem dX4_hasNext_60 : decode cX4_hasNext 60 = .ok (.iconst 0, 1) := by decide +kernel
theorem dX4_hasNext_61 : decode cX4_hasNext 61 = .ok (.ireturn, 1) := by decide +kernel
theorem dX5_init_0 : decode cX5_init 0 = .ok (.aload_n 0, 1) := by decide +kernel
theorem dX5_init_1 : decode cX5_init 1 = .ok (.invokespecial 3, 3) := by decide +kernel
theorem dX5_init_4 : decode cX5_init 4 = .ok (.aload_n 0, 1) := by decide +kernel
theorem dX5_init_5 : decode cX5_init 5 = .ok (.bipush 8, 2) := by decide +kernel
theorem dX5_init_7 : decode cX5_init 7 = .ok (.newarray .int, 2) := by decide +kernel
theorem dX5_init_9 : decode cX5_init 9 = .ok (.putfield 11, 3) := by decide +kernel
theorem dX5_init_12 : decode cX5_init 12 = .ok (.aload_n 0, 1) := by decide +kernel
theorem dX5_init_13 : decode cX5_init 13 = .ok (.sipush 256, 3) := by decide +kernel
theorem dX5_init_16 : decode cX5_init 16 = .ok (.newarray .boolean, 2) := by decide +kernel
theorem dX5_init_18 : decode cX5_init 18 = .ok (.putfield 15, 3) := by decide +kernel
theorem dX5_init_21 : decode cX5_init 21 = .ok (.return_, 1) := by decide +kernel
theorem dX5_examine_0 : decode cX5_examine 0 = .ok (.aload_n 1, 1) := by decide +kernel
theorem dX5_examine_1 : decode cX5_examine 1 = .ok (.iload_n 3, 1) := by decide +kernel
theorem dX5_examine_2 : decode cX5_examine 2 = .ok (.invokevirtual 19, 3) := by decide +kernel
theorem dX5_examine_5 : decode cX5_examine 5 = .ok (.istore 4, 2) := by decide +kernel
theorem dX5_examine_7 : decode cX5_examine 7 = .ok (.iload 4, 2) := by decide +kernel
theorem dX5_examine_9 : decode cX5_examine 9 = .ok (.invokestatic 25, 3) := by decide +kernel
theorem dX5_examine_12 : decode cX5_examine 12 = .ok (.bipush 8, 2) := by decide +kernel
theorem dX5_examine_14 : decode cX5_examine 14 = .ok (.if_icmp .le 5, 3) := by decide +kernel
theorem dX5_examine_17 : decode cX5_examine 17 = .ok (.iconst 0, 1) := by decide +kernel
theorem dX5_examine_18 : decode cX5_examine 18 = .ok (.ireturn, 1) := by decide +kernel
theorem dX5_examine_19 : decode cX5_examine 19 = .ok (.aload_n 0, 1) := by decide +kernel
theorem dX5_examine_20 : decode cX5_examine 20 = .ok (.iload 4, 2) := by decide +kernel
theorem dX5_examine_22 : decode cX5_examine 22 = .ok (.invokevirtual 30, 3) := by decide +kernel
theorem dX5_examine_25 : decode cX5_examine 25 = .ok (.iconst 1, 1) := by decide +kernel
theorem dX5_examine_26 : decode cX5_examine 26 = .ok (.aload_n 0, 1) := by decide +kernel
theorem dX5_examine_27 : decode cX5_examine 27 = .ok (.getfield 34, 3) := by decide +kernel
theorem dX5_examine_30 : decode cX5_examine 30 = .ok (.ishl, 1) := by decide +kernel
theorem dX5_examine_31 : decode cX5_examine 31 = .ok (.iconst 1, 1) := by decide +kernel
theorem dX5_examine_32 : decode cX5_examine 32 = .ok (.isub, 1) := by decide +kernel
theorem dX5_examine_33 : decode cX5_examine 33 = .ok (.istore 5, 2) := by decide +kernel
theorem dX5_examine_35 : decode cX5_examine 35 = .ok (.iload 5, 2) := by decide +kernel
theorem dX5_examine_37 : decode cX5_examine 37 = .ok (.ifCond .lt 73, 3) := by decide +kernel
theorem dX5_examine_40 : decode cX5_examine 40 = .ok (.aload_n 0, 1) := by decide +kernel
theorem dX5_examine_41 : decode cX5_examine 41 = .ok (.getfield 15, 3) := by decide +kernel
theorem dX5_examine_44 : decode cX5_examine 44 = .ok (.iload 5, 2) := by decide +kernel
theorem dX5_examine_46 : decode cX5_examine 46 = .ok (.aload_n 0, 1) := by decide +kernel
theorem dX5_examine_47 : decode cX5_examine 47 = .ok (.iload 5, 2) := by decide +kernel
theorem dX5_examine_49 : decode cX5_examine 49 = .ok (.invokevirtual 38, 3) := by decide +kernel
theorem dX5_examine_52 : decode cX5_examine 52 = .ok (.bastore, 1) := by decide +kernel
theorem dX5_examine_53 : decode cX5_examine 53 = .ok (.aload_n 0, 1) := by decide +kernel
theorem dX5_examine_54 : decode cX5_examine 54 = .ok (.getfield 15, 3) := by decide +kernel
theorem dX5_examine_57 : decode cX5_examine 57 = .ok (.iload 5, 2) := by decide +kernel
theorem dX5_examine_59 : decode cX5_examine 59 = .ok (.baload, 1) := by decide +kernel
theorem dX5_examine_60 : decode cX5_examine 60 = .ok (.ifCond .ne 44, 3) := by decide +kernel
theorem dX5_examine_63 : decode cX5_examine 63 = .ok (.aload_n 1, 1) := by decide +kernel
theorem dX5_examine_64 : decode cX5_examine 64 = .ok (.aload_n 2, 1) := by decide +kernel
theorem dX5_examine_65 : decode cX5_examine 65 = .ok (.iload_n 3, 1) := by decide +kernel
theorem dX5_examine_66 : decode cX5_examine 66 = .ok (.aload_n 0, 1) := by decide +kernel
theorem dX5_examine_67 : decode cX5_examine 67 = .ok (.iload 5, 2) := by decide +kernel
theorem dX5_examine_69 : decode cX5_examine 69 = .ok (.invokevirtual 42, 3) := by decide +kernel
theorem dX5_examine_72 : decode cX5_examine 72 = .ok (.invokevirtual 45, 3) := by decide +kernel
theorem dX5_examine_75 : decode cX5_examine 75 = .ok (.istore 6, 2) := by decide +kernel
theorem dX5_examine_77 : decode cX5_examine 77 = .ok (.iload 6, 2) := by decide +kernel
theorem dX5_examine_79 : decode cX5_examine 79 = .ok (.bipush (-5), 2) := by decide +kernel
theorem dX5_examine_81 : decode cX5_examine 81 = .ok (.if_icmp .ne 5, 3) := by decide +kernel
theorem dX5_examine_84 : decode cX5_examine 84 = .ok (.iconst 0, 1) := by decide +kernel
theorem dX5_examine_85 : decode cX5_examine 85 = .ok (.ireturn, 1) := by decide +kernel
theorem dX5_examine_86 : decode cX5_examine 86 = .ok (.aload_n 0, 1) := by decide +kernel
theorem dX5_examine_87 : decode cX5_examine 87 = .ok (.getfield 15, 3) := by decide +kernel
theorem dX5_examine_90 : decode cX5_examine 90 = .ok (.iload 5, 2) := by decide +kernel
theorem dX5_examine_92 : decode cX5_examine 92 = .ok (.iload 6, 2) := by decide +kernel
theorem dX5_examine_94 : decode cX5_examine 94 = .ok (.iconst 1, 1) := by decide +kernel
theorem dX5_examine_95 : decode cX5_examine 95 = .ok (.if_icmp .ne 7, 3) := by decide +kernel
theorem dX5_examine_98 : decode cX5_examine 98 = .ok (.iconst 1, 1) := by decide +kernel
theorem dX5_examine_99 : decode cX5_examine 99 = .ok (.goto 4, 3) := by decide +kernel
theorem dX5_examine_102 : decode cX5_examine 102 = .ok (.iconst 0, 1) := by decide +kernel
theorem dX5_examine_103 : decode cX5_examine 103 = .ok (.bastore, 1) := by decide +kernel
theorem dX5_examine_104 : decode cX5_examine 104 = .ok (.iinc 5 (-1), 3) := by decide +kernel
theorem dX5_examine_107 : decode cX5_examine 107 = .ok (.goto (-72), 3) := by decide +kernel
theorem dX5_examine_110 : decode cX5_examine 110 = .ok (.aload_n 0, 1) := by decide +kernel
theorem dX5_examine_111 : decode cX5_examine 111 = .ok (.invokevirtual 49, 3) := by decide +kernel
theorem dX5_examine_114 : decode cX5_examine 114 = .ok (.aload_n 0, 1) := by decide +kernel
theorem dX5_examine_115 : decode cX5_examine 115 = .ok (.aload_n 1, 1) := by decide +kernel
theorem dX5_examine_116 : decode cX5_examine 116 = .ok (.invokevirtual 52, 3) := by decide +kernel
theorem dX5_examine_119 : decode cX5_examine 119 = .ok (.iconst 1, 1) := by decide +kernel
theorem dX5_examine_120 : decode cX5_examine 120 = .ok (.ireturn, 1) := by decide +kernel
theorem dX5_list_0 : decode cX5_list 0 = .ok (.aload_n 0, 1) := by decide +kernel
theorem dX5_list_1 : decode cX5_list 1 = .ok (.iconst 0, 1) := by decide +kernel
theorem dX5_list_2 : decode cX5_list 2 = .ok (.putfield 34, 3) := by decide +kernel
theorem dX5_list_5 : decode cX5_list 5 = .ok (.iconst 0, 1) := by decide +kernel
theorem dX5_list_6 : decode cX5_list 6 = .ok (.istore_n 2, 1) := by decide +kernel
theorem dX5_list_7 : decode cX5_list 7 = .ok (.iload_n 2, 1) := by decide +kernel
theorem dX5_list_8 : decode cX5_list 8 = .ok (.bipush 24, 2) := by decide +kernel
theorem dX5_list_10 : decode cX5_list 10 = .ok (.if_icmp .ge 46, 3) := by decide +kernel
theorem dX5_list_13 : decode cX5_list 13 = .ok (.aload_n 0, 1) := by decide +kernel
theorem dX5_list_14 : decode cX5_list 14 = .ok (.getfield 34, 3) := by decide +kernel
theorem dX5_list_17 : decode cX5_list 17 = .ok (.bipush 8, 2) := by decide +kernel
theorem dX5_list_19 : decode cX5_list 19 = .ok (.if_icmp .ge 37, 3) := by decide +kernel
theorem dX5_list_22 : decode cX5_list 22 = .ok (.iload_n 1, 1) := by decide +kernel
theorem dX5_list_23 : decode cX5_list 23 = .ok (.iload_n 2, 1) := by decide +kernel
theorem dX5_list_24 : decode cX5_list 24 = .ok (.ishr, 1) := by decide +kernel
theorem dX5_list_25 : decode cX5_list 25 = .ok (.iconst 1, 1) := by decide +kernel
theorem dX5_list_26 : decode cX5_list 26 = .ok (.iand, 1) := by decide +kernel
theorem dX5_list_27 : decode cX5_list 27 = .ok (.ifCond .eq 23, 3) := by decide +kernel
theorem dX5_list_30 : decode cX5_list 30 = .ok (.aload_n 0, 1) := by decide +kernel
theorem dX5_list_31 : decode cX5_list 31 = .ok (.getfield 11, 3) := by decide +kernel
theorem dX5_list_34 : decode cX5_list 34 = .ok (.aload_n 0, 1) := by decide +kernel
theorem dX5_list_35 : decode cX5_list 35 = .ok (.getfield 34, 3) := by decide +kernel
theorem dX5_list_38 : decode cX5_list 38 = .ok (.iload_n 2, 1) := by decide +kernel
theorem dX5_list_39 : decode cX5_list 39 = .ok (.iastore, 1) := by decide +kernel
theorem dX5_list_40 : decode cX5_list 40 = .ok (.aload_n 0, 1) := by decide +kernel
theorem dX5_list_41 : decode cX5_list 41 = .ok (.dup, 1) := by decide +kernel
theorem dX5_list_42 : decode cX5_list 42 = .ok (.getfield 34, 3) := by decide +kernel
theorem dX5_list_45 : decode cX5_list 45 = .ok (.iconst 1, 1) := by decide +kernel
theorem dX5_list_46 : decode cX5_list 46 = .ok (.iadd, 1) := by decide +kernel
theorem dX5_list_47 : decode cX5_list 47 = .ok (.putfield 34, 3) := by decide +kernel
theorem dX5_list_50 : decode cX5_list 50 = .ok (.iinc 2 1, 3) := by decide +kernel
theorem dX5_list_53 : decode cX5_list 53 = .ok (.goto (-46), 3) := by decide +kernel
theorem dX5_list_56 : decode cX5_list 56 = .ok (.return_, 1) := by decide +kernel
theorem dX5_isPartOfFine_0 : decode cX5_isPartOfFine 0 = .ok (.iconst 0, 1) := by decide +kernel
theorem dX5_isPartOfFine_1 : decode cX5_isPartOfFine 1 = .ok (.istore_n 2, 1) := by decide +kernel
theorem dX5_isPartOfFine_2 : decode cX5_isPartOfFine 2 = .ok (.iload_n 2, 1) := by decide +kernel
theorem dX5_isPartOfFine_3 : decode cX5_isPartOfFine 3 = .ok (.aload_n 0, 1) := by decide +kernel
theorem dX5_isPartOfFine_4 : decode cX5_isPartOfFine 4 = .ok (.getfield 34, 3) := by decide +kernel
theorem dX5_isPartOfFine_7 : decode cX5_isPartOfFine 7 = .ok (.if_icmp .ge 32, 3) := by decide +kernel
theorem dX5_isPartOfFine_10 : decode cX5_isPartOfFine 10 = .ok (.iload_n 1, 1) := by decide +kernel
theorem dX5_isPartOfFine_11 : decode cX5_isPartOfFine 11 = .ok (.iload_n 2, 1) := by decide +kernel
theorem dX5_isPartOfFine_12 : decode cX5_isPartOfFine 12 = .ok (.ishr, 1) := by decide +kernel
theorem dX5_isPartOfFine_13 : decode cX5_isPartOfFine 13 = .ok (.iconst 1, 1) := by decide +kernel
theorem dX5_isPartOfFine_14 : decode cX5_isPartOfFine 14 = .ok (.iand, 1) := by decide +kernel
theorem dX5_isPartOfFine_15 : decode cX5_isPartOfFine 15 = .ok (.ifCond .ne 18, 3) := by decide +kernel
theorem dX5_isPartOfFine_18 : decode cX5_isPartOfFine 18 = .ok (.aload_n 0, 1) := by decide +kernel
theorem dX5_isPartOfFine_19 : decode cX5_isPartOfFine 19 = .ok (.getfield 15, 3) := by decide +kernel
theorem dX5_isPartOfFine_22 : decode cX5_isPartOfFine 22 = .ok (.iload_n 1, 1) := by decide +kernel
theorem dX5_isPartOfFine_23 : decode cX5_isPartOfFine 23 = .ok (.iconst 1, 1) := by decide +kernel
theorem dX5_isPartOfFine_24 : decode cX5_isPartOfFine 24 = .ok (.iload_n 2, 1) := by decide +kernel
theorem dX5_isPartOfFine_25 : decode cX5_isPartOfFine 25 = .ok (.ishl, 1) := by decide +kernel
theorem dX5_isPartOfFine_26 : decode cX5_isPartOfFine 26 = .ok (.ior, 1) := by decide +kernel
theorem dX5_isPartOfFine_27 : decode cX5_isPartOfFine 27 = .ok (.baload, 1) := by decide +kernel
theorem dX5_isPartOfFine_28 : decode cX5_isPartOfFine 28 = .ok (.ifCond .eq 5, 3) := by decide +kernel
theorem dX5_isPartOfFine_31 : decode cX5_isPartOfFine 31 = .ok (.iconst 1, 1) := by decide +kernel
theorem dX5_isPartOfFine_32 : decode cX5_isPartOfFine 32 = .ok (.ireturn, 1) := by decide +kernel
theorem dX5_isPartOfFine_33 : decode cX5_isPartOfFine 33 = .ok (.iinc 2 1, 3) := by decide +kernel
theorem dX5_isPartOfFine_36 : decode cX5_isPartOfFine 36 = .ok (.goto (-34), 3) := by decide +kernel
theorem dX5_isPartOfFine_39 : decode cX5_isPartOfFine 39 = .ok (.iconst 0, 1) := by decide +kernel
theorem dX5_isPartOfFine_40 : decode cX5_isPartOfFine 40 = .ok (.ireturn, 1) := by decide +kernel
theorem dX5_deedsOf_0 : decode cX5_deedsOf 0 = .ok (.iconst 0, 1) := by decide +kernel
theorem dX5_deedsOf_1 : decode cX5_deedsOf 1 = .ok (.istore_n 2, 1) := by decide +kernel
theorem dX5_deedsOf_2 : decode cX5_deedsOf 2 = .ok (.iconst 0, 1) := by decide +kernel
theorem dX5_deedsOf_3 : decode cX5_deedsOf 3 = .ok (.istore_n 3, 1) := by decide +kernel
theorem dX5_deedsOf_4 : decode cX5_deedsOf 4 = .ok (.iload_n 3, 1) := by decide +kernel
theorem dX5_deedsOf_5 : decode cX5_deedsOf 5 = .ok (.aload_n 0, 1) := by decide +kernel
theorem dX5_deedsOf_6 : decode cX5_deedsOf 6 = .ok (.getfield 34, 3) := by decide +kernel
theorem dX5_deedsOf_9 : decode cX5_deedsOf 9 = .ok (.if_icmp .ge 32, 3) := by decide +kernel
theorem dX5_deedsOf_12 : decode cX5_deedsOf 12 = .ok (.iload_n 2, 1) := by decide +kernel
theorem dX5_deedsOf_13 : decode cX5_deedsOf 13 = .ok (.iload_n 1, 1) := by decide +kernel
theorem dX5_deedsOf_14 : decode cX5_deedsOf 14 = .ok (.iload_n 3, 1) := by decide +kernel
theorem dX5_deedsOf_15 : decode cX5_deedsOf 15 = .ok (.ishr, 1) := by decide +kernel
theorem dX5_deedsOf_16 : decode cX5_deedsOf 16 = .ok (.iconst 1, 1) := by decide +kernel
theorem dX5_deedsOf_17 : decode cX5_deedsOf 17 = .ok (.iand, 1) := by decide +kernel
theorem dX5_deedsOf_18 : decode cX5_deedsOf 18 = .ok (.ifCond .eq 14, 3) := by decide +kernel
theorem dX5_deedsOf_21 : decode cX5_deedsOf 21 = .ok (.iconst 1, 1) := by decide +kernel
theorem dX5_deedsOf_22 : decode cX5_deedsOf 22 = .ok (.aload_n 0, 1) := by decide +kernel
theorem dX5_deedsOf_23 : decode cX5_deedsOf 23 = .ok (.getfield 11, 3) := by decide +kernel
theorem dX5_deedsOf_26 : decode cX5_deedsOf 26 = .ok (.iload_n 3, 1) := by decide +kernel
theorem dX5_deedsOf_27 : decode cX5_deedsOf 27 = .ok (.iaload, 1) := by decide +kernel
theorem dX5_deedsOf_28 : decode cX5_deedsOf 28 = .ok (.ishl, 1) := by decide +kernel
theorem dX5_deedsOf_29 : decode cX5_deedsOf 29 = .ok (.goto 4, 3) := by decide +kernel
theorem dX5_deedsOf_32 : decode cX5_deedsOf 32 = .ok (.iconst 0, 1) := by decide +kernel
theorem dX5_deedsOf_33 : decode cX5_deedsOf 33 = .ok (.ior, 1) := by decide +kernel
theorem dX5_deedsOf_34 : decode cX5_deedsOf 34 = .ok (.istore_n 2, 1) := by decide +kernel
theorem dX5_deedsOf_35 : decode cX5_deedsOf 35 = .ok (.iinc 3 1, 3) := by decide +kernel
theorem dX5_deedsOf_38 : decode cX5_deedsOf 38 = .ok (.goto (-34), 3) := by decide +kernel
theorem dX5_deedsOf_41 : decode cX5_deedsOf 41 = .ok (.iload_n 2, 1) := by decide +kernel
theorem dX5_deedsOf_42 : decode cX5_deedsOf 42 = .ok (.ireturn, 1) := by decide +kernel
theorem dX5_findQuarrel_0 : decode cX5_findQuarrel 0 = .ok (.aload_n 0, 1) := by decide +kernel
theorem dX5_findQuarrel_1 : decode cX5_findQuarrel 1 = .ok (.iconst 0, 1) := by decide +kernel
theorem dX5_findQuarrel_2 : decode cX5_findQuarrel 2 = .ok (.putfield 56, 3) := by decide +kernel
theorem dX5_findQuarrel_5 : decode cX5_findQuarrel 5 = .ok (.bipush 9, 2) := by decide +kernel
theorem dX5_findQuarrel_7 : decode cX5_findQuarrel 7 = .ok (.istore_n 1, 1) := by decide +kernel
theorem dX5_findQuarrel_8 : decode cX5_findQuarrel 8 = .ok (.iconst 0, 1) := by decide +kernel
theorem dX5_findQuarrel_9 : decode cX5_findQuarrel 9 = .ok (.istore_n 2, 1) := by decide +kernel
theorem dX5_findQuarrel_10 : decode cX5_findQuarrel 10 = .ok (.iload_n 2, 1) := by decide +kernel
theorem dX5_findQuarrel_11 : decode cX5_findQuarrel 11 = .ok (.iconst 1, 1) := by decide +kernel
theorem dX5_findQuarrel_12 : decode cX5_findQuarrel 12 = .ok (.aload_n 0, 1) := by decide +kernel
theorem dX5_findQuarrel_13 : decode cX5_findQuarrel 13 = .ok (.getfield 34, 3) := by decide +kernel
theorem dX5_findQuarrel_16 : decode cX5_findQuarrel 16 = .ok (.ishl, 1) := by decide +kernel
theorem dX5_findQuarrel_17 : decode cX5_findQuarrel 17 = .ok (.if_icmp .ge 40, 3) := by decide +kernel
theorem dX5_findQuarrel_20 : decode cX5_findQuarrel 20 = .ok (.aload_n 0, 1) := by decide +kernel
theorem dX5_findQuarrel_21 : decode cX5_findQuarrel 21 = .ok (.getfield 15, 3) := by decide +kernel
theorem dX5_findQuarrel_24 : decode cX5_findQuarrel 24 = .ok (.iload_n 2, 1) := by decide +kernel
theorem dX5_findQuarrel_25 : decode cX5_findQuarrel 25 = .ok (.baload, 1) := by decide +kernel
theorem dX5_findQuarrel_26 : decode cX5_findQuarrel 26 = .ok (.ifCond .ne 25, 3) := by decide +kernel
theorem dX5_findQuarrel_29 : decode cX5_findQuarrel 29 = .ok (.iload_n 2, 1) := by decide +kernel
theorem dX5_findQuarrel_30 : decode cX5_findQuarrel 30 = .ok (.invokestatic 25, 3) := by decide +kernel
theorem dX5_findQuarrel_33 : decode cX5_findQuarrel 33 = .ok (.iload_n 1, 1) := by decide +kernel
theorem dX5_findQuarrel_34 : decode cX5_findQuarrel 34 = .ok (.if_icmp .ge 17, 3) := by decide +kernel
theorem dX5_findQuarrel_37 : decode cX5_findQuarrel 37 = .ok (.iload_n 2, 1) := by decide +kernel
theorem dX5_findQuarrel_38 : decode cX5_findQuarrel 38 = .ok (.invokestatic 25, 3) := by decide +kernel
theorem dX5_findQuarrel_41 : decode cX5_findQuarrel 41 = .ok (.istore_n 1, 1) := by decide +kernel
theorem dX5_findQuarrel_42 : decode cX5_findQuarrel 42 = .ok (.aload_n 0, 1) := by decide +kernel
theorem dX5_findQuarrel_43 : decode cX5_findQuarrel 43 = .ok (.aload_n 0, 1) := by decide +kernel
theorem dX5_findQuarrel_44 : decode cX5_findQuarrel 44 = .ok (.iload_n 2, 1) := by decide +kernel
theorem dX5_findQuarrel_45 : decode cX5_findQuarrel 45 = .ok (.invokevirtual 42, 3) := by decide +kernel
theorem dX5_findQuarrel_48 : decode cX5_findQuarrel 48 = .ok (.putfield 56, 3) := by decide +kernel
theorem dX5_findQuarrel_51 : decode cX5_findQuarrel 51 = .ok (.iinc 2 1, 3) := by decide +kernel
theorem dX5_findQuarrel_54 : decode cX5_findQuarrel 54 = .ok (.goto (-44), 3) := by decide +kernel
theorem dX5_findQuarrel_57 : decode cX5_findQuarrel 57 = .ok (.return_, 1) := by decide +kernel
theorem dX5_findDoubt_0 : decode cX5_findDoubt 0 = .ok (.aload_n 0, 1) := by decide +kernel
theorem dX5_findDoubt_1 : decode cX5_findDoubt 1 = .ok (.iconst (-1), 1) := by decide +kernel
theorem dX5_findDoubt_2 : decode cX5_findDoubt 2 = .ok (.putfield 59, 3) := by decide +kernel
theorem dX5_findDoubt_5 : decode cX5_findDoubt 5 = .ok (.aload_n 0, 1) := by decide +kernel
theorem dX5_findDoubt_6 : decode cX5_findDoubt 6 = .ok (.iconst 0, 1) := by decide +kernel
theorem dX5_findDoubt_7 : decode cX5_findDoubt 7 = .ok (.putfield 62, 3) := by decide +kernel
theorem dX5_findDoubt_10 : decode cX5_findDoubt 10 = .ok (.aload_n 0, 1) := by decide +kernel
theorem dX5_findDoubt_11 : decode cX5_findDoubt 11 = .ok (.iconst 0, 1) := by decide +kernel
theorem dX5_findDoubt_12 : decode cX5_findDoubt 12 = .ok (.putfield 65, 3) := by decide +kernel
theorem dX5_findDoubt_15 : decode cX5_findDoubt 15 = .ok (.iconst 1, 1) := by decide +kernel
theorem dX5_findDoubt_16 : decode cX5_findDoubt 16 = .ok (.aload_n 0, 1) := by decide +kernel
theorem dX5_findDoubt_17 : decode cX5_findDoubt 17 = .ok (.getfield 34, 3) := by decide +kernel
theorem dX5_findDoubt_20 : decode cX5_findDoubt 20 = .ok (.ishl, 1) := by decide +kernel
theorem dX5_findDoubt_21 : decode cX5_findDoubt 21 = .ok (.iconst 1, 1) := by decide +kernel
theorem dX5_findDoubt_22 : decode cX5_findDoubt 22 = .ok (.isub, 1) := by decide +kernel
theorem dX5_findDoubt_23 : decode cX5_findDoubt 23 = .ok (.istore_n 2, 1) := by decide +kernel
theorem dX5_findDoubt_24 : decode cX5_findDoubt 24 = .ok (.iconst 0, 1) := by decide +kernel
theorem dX5_findDoubt_25 : decode cX5_findDoubt 25 = .ok (.istore_n 3, 1) := by decide +kernel
theorem dX5_findDoubt_26 : decode cX5_findDoubt 26 = .ok (.iload_n 3, 1) := by decide +kernel
theorem dX5_findDoubt_27 : decode cX5_findDoubt 27 = .ok (.iload_n 2, 1) := by decide +kernel
theorem dX5_findDoubt_28 : decode cX5_findDoubt 28 = .ok (.if_icmp .gt 89, 3) := by decide +kernel
theorem dX5_findDoubt_31 : decode cX5_findDoubt 31 = .ok (.aload_n 0, 1) := by decide +kernel
theorem dX5_findDoubt_32 : decode cX5_findDoubt 32 = .ok (.getfield 15, 3) := by decide +kernel
theorem dX5_findDoubt_35 : decode cX5_findDoubt 35 = .ok (.iload_n 2, 1) := by decide +kernel
theorem dX5_findDoubt_36 : decode cX5_findDoubt 36 = .ok (.iload_n 3, 1) := by decide +kernel
theorem dX5_findDoubt_37 : decode cX5_findDoubt 37 = .ok (.iconst (-1), 1) := by decide +kernel
theorem dX5_findDoubt_38 : decode cX5_findDoubt 38 = .ok (.ixor, 1) := by decide +kernel
theorem dX5_findDoubt_39 : decode cX5_findDoubt 39 = .ok (.iand, 1) := by decide +kernel
theorem dX5_findDoubt_40 : decode cX5_findDoubt 40 = .ok (.baload, 1) := by decide +kernel
theorem dX5_findDoubt_41 : decode cX5_findDoubt 41 = .ok (.ifCond .eq 70, 3) := by decide +kernel
theorem dX5_findDoubt_44 : decode cX5_findDoubt 44 = .ok (.aload_n 0, 1) := by decide +kernel
theorem dX5_findDoubt_45 : decode cX5_findDoubt 45 = .ok (.aload_n 1, 1) := by decide +kernel
theorem dX5_findDoubt_46 : decode cX5_findDoubt 46 = .ok (.iload_n 3, 1) := by decide +kernel
theorem dX5_findDoubt_47 : decode cX5_findDoubt 47 = .ok (.invokevirtual 68, 3) := by decide +kernel
theorem dX5_findDoubt_50 : decode cX5_findDoubt 50 = .ok (.istore 4, 2) := by decide +kernel
theorem dX5_findDoubt_52 : decode cX5_findDoubt 52 = .ok (.aload_n 0, 1) := by decide +kernel
theorem dX5_findDoubt_53 : decode cX5_findDoubt 53 = .ok (.getfield 59, 3) := by decide +kernel
theorem dX5_findDoubt_56 : decode cX5_findDoubt 56 = .ok (.iconst (-1), 1) := by decide +kernel
theorem dX5_findDoubt_57 : decode cX5_findDoubt 57 = .ok (.if_icmp .eq 12, 3) := by decide +kernel
theorem dX5_findDoubt_60 : decode cX5_findDoubt 60 = .ok (.iload 4, 2) := by decide +kernel
theorem dX5_findDoubt_62 : decode cX5_findDoubt 62 = .ok (.aload_n 0, 1) := by decide +kernel
theorem dX5_findDoubt_63 : decode cX5_findDoubt 63 = .ok (.getfield 59, 3) := by decide +kernel
theorem dX5_findDoubt_66 : decode cX5_findDoubt 66 = .ok (.if_icmp .ge 26, 3) := by decide +kernel
theorem dX5_findDoubt_69 : decode cX5_findDoubt 69 = .ok (.aload_n 0, 1) := by decide +kernel
theorem dX5_findDoubt_70 : decode cX5_findDoubt 70 = .ok (.iload 4, 2) := by decide +kernel
theorem dX5_findDoubt_72 : decode cX5_findDoubt 72 = .ok (.putfield 59, 3) := by decide +kernel
theorem dX5_findDoubt_75 : decode cX5_findDoubt 75 = .ok (.aload_n 0, 1) := by decide +kernel
theorem dX5_findDoubt_76 : decode cX5_findDoubt 76 = .ok (.aload_n 0, 1) := by decide +kernel
theorem dX5_findDoubt_77 : decode cX5_findDoubt 77 = .ok (.iload_n 3, 1) := by decide +kernel
theorem dX5_findDoubt_78 : decode cX5_findDoubt 78 = .ok (.invokevirtual 42, 3) := by decide +kernel
theorem dX5_findDoubt_81 : decode cX5_findDoubt 81 = .ok (.putfield 62, 3) := by decide +kernel
theorem dX5_findDoubt_84 : decode cX5_findDoubt 84 = .ok (.aload_n 0, 1) := by decide +kernel
theorem dX5_findDoubt_85 : decode cX5_findDoubt 85 = .ok (.iconst 1, 1) := by decide +kernel
theorem dX5_findDoubt_86 : decode cX5_findDoubt 86 = .ok (.putfield 65, 3) := by decide +kernel
theorem dX5_findDoubt_89 : decode cX5_findDoubt 89 = .ok (.goto 22, 3) := by decide +kernel
theorem dX5_findDoubt_92 : decode cX5_findDoubt 92 = .ok (.iload 4, 2) := by decide +kernel
theorem dX5_findDoubt_94 : decode cX5_findDoubt 94 = .ok (.aload_n 0, 1) := by decide +kernel
theorem dX5_findDoubt_95 : decode cX5_findDoubt 95 = .ok (.getfield 59, 3) := by decide +kernel
theorem dX5_findDoubt_98 : decode cX5_findDoubt 98 = .ok (.if_icmp .ne 13, 3) := by decide +kernel
theorem dX5_findDoubt_101 : decode cX5_findDoubt 101 = .ok (.aload_n 0, 1) := by decide +kernel
theorem dX5_findDoubt_102 : decode cX5_findDoubt 102 = .ok (.dup, 1) := by decide +kernel
theorem dX5_findDoubt_103 : decode cX5_findDoubt 103 = .ok (.getfield 65, 3) := by decide +kernel
theorem dX5_findDoubt_106 : decode cX5_findDoubt 106 = .ok (.iconst 1, 1) := by decide +kernel
theorem dX5_findDoubt_107 : decode cX5_findDoubt 107 = .ok (.iadd, 1) := by decide +kernel
theorem dX5_findDoubt_108 : decode cX5_findDoubt 108 = .ok (.putfield 65, 3) := by decide +kernel
theorem dX5_findDoubt_111 : decode cX5_findDoubt 111 = .ok (.iinc 3 1, 3) := by decide +kernel
theorem dX5_findDoubt_114 : decode cX5_findDoubt 114 = .ok (.goto (-88), 3) := by decide +kernel
theorem dX5_findDoubt_117 : decode cX5_findDoubt 117 = .ok (.return_, 1) := by decide +kernel
theorem dX5_sumOf_0 : decode cX5_sumOf 0 = .ok (.iconst 0, 1) := by decide +kernel
theorem dX5_sumOf_1 : decode cX5_sumOf 1 = .ok (.istore_n 3, 1) := by decide +kernel
theorem dX5_sumOf_2 : decode cX5_sumOf 2 = .ok (.iconst 0, 1) := by decide +kernel
theorem dX5_sumOf_3 : decode cX5_sumOf 3 = .ok (.istore 4, 2) := by decide +kernel
theorem dX5_sumOf_5 : decode cX5_sumOf 5 = .ok (.iload 4, 2) := by decide +kernel
theorem dX5_sumOf_7 : decode cX5_sumOf 7 = .ok (.aload_n 0, 1) := by decide +kernel
theorem dX5_sumOf_8 : decode cX5_sumOf 8 = .ok (.getfield 34, 3) := by decide +kernel
theorem dX5_sumOf_11 : decode cX5_sumOf 11 = .ok (.if_icmp .ge 40, 3) := by decide +kernel
theorem dX5_sumOf_14 : decode cX5_sumOf 14 = .ok (.iload_n 3, 1) := by decide +kernel
theorem dX5_sumOf_15 : decode cX5_sumOf 15 = .ok (.iload_n 2, 1) := by decide +kernel
theorem dX5_sumOf_16 : decode cX5_sumOf 16 = .ok (.iload 4, 2) := by decide +kernel
theorem dX5_sumOf_18 : decode cX5_sumOf 18 = .ok (.ishr, 1) := by decide +kernel
theorem dX5_sumOf_19 : decode cX5_sumOf 19 = .ok (.iconst 1, 1) := by decide +kernel
theorem dX5_sumOf_20 : decode cX5_sumOf 20 = .ok (.iand, 1) := by decide +kernel
theorem dX5_sumOf_21 : decode cX5_sumOf 21 = .ok (.ifCond .eq 21, 3) := by decide +kernel
theorem dX5_sumOf_24 : decode cX5_sumOf 24 = .ok (.aload_n 1, 1) := by decide +kernel
theorem dX5_sumOf_25 : decode cX5_sumOf 25 = .ok (.getfield 72, 3) := by decide +kernel
theorem dX5_sumOf_28 : decode cX5_sumOf 28 = .ok (.aload_n 0, 1) := by decide +kernel
theorem dX5_sumOf_29 : decode cX5_sumOf 29 = .ok (.getfield 11, 3) := by decide +kernel
theorem dX5_sumOf_32 : decode cX5_sumOf 32 = .ok (.iload 4, 2) := by decide +kernel
theorem dX5_sumOf_34 : decode cX5_sumOf 34 = .ok (.iaload, 1) := by decide +kernel
theorem dX5_sumOf_35 : decode cX5_sumOf 35 = .ok (.aaload, 1) := by decide +kernel
theorem dX5_sumOf_36 : decode cX5_sumOf 36 = .ok (.getfield 76, 3) := by decide +kernel
theorem dX5_sumOf_39 : decode cX5_sumOf 39 = .ok (.goto 4, 3) := by decide +kernel
theorem dX5_sumOf_42 : decode cX5_sumOf 42 = .ok (.iconst 0, 1) := by decide +kernel
theorem dX5_sumOf_43 : decode cX5_sumOf 43 = .ok (.iadd, 1) := by decide +kernel
theorem dX5_sumOf_44 : decode cX5_sumOf 44 = .ok (.istore_n 3, 1) := by decide +kernel
theorem dX5_sumOf_45 : decode cX5_sumOf 45 = .ok (.iinc 4 1, 3) := by decide +kernel
theorem dX5_sumOf_48 : decode cX5_sumOf 48 = .ok (.goto (-43), 3) := by decide +kernel
theorem dX5_sumOf_51 : decode cX5_sumOf 51 = .ok (.iload_n 3, 1) := by decide +kernel
theorem dX5_sumOf_52 : decode cX5_sumOf 52 = .ok (.ireturn, 1) := by decide +kernel
theorem dX6_init_0 : decode cX6_init 0 = .ok (.aload_n 0, 1) := by decide +kernel
theorem dX6_init_1 : decode cX6_init 1 = .ok (.invokespecial 3, 3) := by decide +kernel
theorem dX6_init_4 : decode cX6_init 4 = .ok (.aload_n 0, 1) := by decide +kernel
theorem dX6_init_5 : decode cX6_init 5 = .ok (.new 9, 3) := by decide +kernel
theorem dX6_init_8 : decode cX6_init 8 = .ok (.dup, 1) := by decide +kernel
theorem dX6_init_9 : decode cX6_init 9 = .ok (.aload_n 1, 1) := by decide +kernel
theorem dX6_init_10 : decode cX6_init 10 = .ok (.invokespecial 11, 3) := by decide +kernel
theorem dX6_init_13 : decode cX6_init 13 = .ok (.putfield 14, 3) := by decide +kernel
theorem dX6_init_16 : decode cX6_init 16 = .ok (.aload_n 0, 1) := by decide +kernel
theorem dX6_init_17 : decode cX6_init 17 = .ok (.iconst (-1), 1) := by decide +kernel
theorem dX6_init_18 : decode cX6_init 18 = .ok (.putfield 20, 3) := by decide +kernel
theorem dX6_init_21 : decode cX6_init 21 = .ok (.aload_n 0, 1) := by decide +kernel
theorem dX6_init_22 : decode cX6_init 22 = .ok (.iconst 2, 1) := by decide +kernel
theorem dX6_init_23 : decode cX6_init 23 = .ok (.putfield 24, 3) := by decide +kernel
theorem dX6_init_26 : decode cX6_init 26 = .ok (.aload_n 0, 1) := by decide +kernel
theorem dX6_init_27 : decode cX6_init 27 = .ok (.bipush 45, 2) := by decide +kernel
theorem dX6_init_29 : decode cX6_init 29 = .ok (.newarray .int, 2) := by decide +kernel
theorem dX6_init_31 : decode cX6_init 31 = .ok (.putfield 27, 3) := by decide +kernel
theorem dX6_init_34 : decode cX6_init 34 = .ok (.aload_n 0, 1) := by decide +kernel
theorem dX6_init_35 : decode cX6_init 35 = .ok (.bipush 45, 2) := by decide +kernel
theorem dX6_init_37 : decode cX6_init 37 = .ok (.newarray .int, 2) := by decide +kernel
theorem dX6_init_39 : decode cX6_init 39 = .ok (.putfield 31, 3) := by decide +kernel
theorem dX6_init_42 : decode cX6_init 42 = .ok (.return_, 1) := by decide +kernel
theorem dX6_become_0 : decode cX6_become 0 = .ok (.aload_n 0, 1) := by decide +kernel
theorem dX6_become_1 : decode cX6_become 1 = .ok (.getfield 14, 3) := by decide +kernel
theorem dX6_become_4 : decode cX6_become 4 = .ok (.aload_n 1, 1) := by decide +kernel
theorem dX6_become_5 : decode cX6_become 5 = .ok (.getfield 14, 3) := by decide +kernel
theorem dX6_become_8 : decode cX6_become 8 = .ok (.invokevirtual 34, 3) := by decide +kernel
theorem dX6_become_11 : decode cX6_become 11 = .ok (.aload_n 0, 1) := by decide +kernel
theorem dX6_become_12 : decode cX6_become 12 = .ok (.aload_n 1, 1) := by decide +kernel
theorem dX6_become_13 : decode cX6_become 13 = .ok (.getfield 20, 3) := by decide +kernel
theorem dX6_become_16 : decode cX6_become 16 = .ok (.putfield 20, 3) := by decide +kernel
theorem dX6_become_19 : decode cX6_become 19 = .ok (.aload_n 0, 1) := by decide +kernel
theorem dX6_become_20 : decode cX6_become 20 = .ok (.aload_n 1, 1) := by decide +kernel
theorem dX6_become_21 : decode cX6_become 21 = .ok (.getfield 38, 3) := by decide +kernel
theorem dX6_become_24 : decode cX6_become 24 = .ok (.putfield 38, 3) := by decide +kernel
theorem dX6_become_27 : decode cX6_become 27 = .ok (.aload_n 0, 1) := by decide +kernel
theorem dX6_become_28 : decode cX6_become 28 = .ok (.aload_n 1, 1) := by decide +kernel
theorem dX6_become_29 : decode cX6_become 29 = .ok (.getfield 41, 3) := by decide +kernel
theorem dX6_become_32 : decode cX6_become 32 = .ok (.putfield 41, 3) := by decide +kernel
theorem dX6_become_35 : decode cX6_become 35 = .ok (.aload_n 0, 1) := by decide +kernel
theorem dX6_become_36 : decode cX6_become 36 = .ok (.aload_n 1, 1) := by decide +kernel
theorem dX6_become_37 : decode cX6_become 37 = .ok (.getfield 24, 3) := by decide +kernel
theorem dX6_become_40 : decode cX6_become 40 = .ok (.putfield 24, 3) := by decide +kernel
theorem dX6_become_43 : decode cX6_become 43 = .ok (.aload_n 0, 1) := by decide +kernel
theorem dX6_become_44 : decode cX6_become 44 = .ok (.aload_n 1, 1) := by decide +kernel
theorem dX6_become_45 : decode cX6_become 45 = .ok (.getfield 44, 3) := by decide +kernel
theorem dX6_become_48 : decode cX6_become 48 = .ok (.putfield 44, 3) := by decide +kernel
theorem dX6_become_51 : decode cX6_become 51 = .ok (.aload_n 0, 1) := by decide +kernel
theorem dX6_become_52 : decode cX6_become 52 = .ok (.aload_n 1, 1) := by decide +kernel
theorem dX6_become_53 : decode cX6_become 53 = .ok (.getfield 47, 3) := by decide +kernel
theorem dX6_become_56 : decode cX6_become 56 = .ok (.putfield 47, 3) := by decide +kernel
theorem dX6_become_59 : decode cX6_become 59 = .ok (.aload_n 1, 1) := by decide +kernel
theorem dX6_become_60 : decode cX6_become 60 = .ok (.getfield 27, 3) := by decide +kernel
theorem dX6_become_63 : decode cX6_become 63 = .ok (.iconst 0, 1) := by decide +kernel
theorem dX6_become_64 : decode cX6_become 64 = .ok (.aload_n 0, 1) := by decide +kernel
theorem dX6_become_65 : decode cX6_become 65 = .ok (.getfield 27, 3) := by decide +kernel
theorem dX6_become_68 : decode cX6_become 68 = .ok (.iconst 0, 1) := by decide +kernel
theorem dX6_become_69 : decode cX6_become 69 = .ok (.bipush 45, 2) := by decide +kernel
theorem dX6_become_71 : decode cX6_become 71 = .ok (.invokestatic 50, 3) := by decide +kernel
theorem dX6_become_74 : decode cX6_become 74 = .ok (.aload_n 1, 1) := by decide +kernel
theorem dX6_become_75 : decode cX6_become 75 = .ok (.getfield 31, 3) := by decide +kernel
theorem dX6_become_78 : decode cX6_become 78 = .ok (.iconst 0, 1) := by decide +kernel
theorem dX6_become_79 : decode cX6_become 79 = .ok (.aload_n 0, 1) := by decide +kernel
theorem dX6_become_80 : decode cX6_become 80 = .ok (.getfield 31, 3) := by decide +kernel
theorem dX6_become_83 : decode cX6_become 83 = .ok (.iconst 0, 1) := by decide +kernel
theorem dX6_become_84 : decode cX6_become 84 = .ok (.bipush 45, 2) := by decide +kernel
theorem dX6_become_86 : decode cX6_become 86 = .ok (.invokestatic 50, 3) := by decide +kernel
theorem dX6_become_89 : decode cX6_become 89 = .ok (.return_, 1) := by decide +kernel
theorem dX6_open_0 : decode cX6_open 0 = .ok (.aload_n 0, 1) := by decide +kernel
theorem dX6_open_1 : decode cX6_open 1 = .ok (.iload_n 1, 1) := by decide +kernel
theorem dX6_open_2 : decode cX6_open 2 = .ok (.putfield 20, 3) := by decide +kernel
theorem dX6_open_5 : decode cX6_open 5 = .ok (.aload_n 0, 1) := by decide +kernel
theorem dX6_open_6 : decode cX6_open 6 = .ok (.iconst 0, 1) := by decide +kernel
theorem dX6_open_7 : decode cX6_open 7 = .ok (.putfield 38, 3) := by decide +kernel
theorem dX6_open_10 : decode cX6_open 10 = .ok (.aload_n 0, 1) := by decide +kernel
theorem dX6_open_11 : decode cX6_open 11 = .ok (.iconst 0, 1) := by decide +kernel
theorem dX6_open_12 : decode cX6_open 12 = .ok (.putfield 41, 3) := by decide +kernel
theorem dX6_open_15 : decode cX6_open 15 = .ok (.aload_n 0, 1) := by decide +kernel
theorem dX6_open_16 : decode cX6_open 16 = .ok (.iconst 0, 1) := by decide +kernel
theorem dX6_open_17 : decode cX6_open 17 = .ok (.putfield 47, 3) := by decide +kernel
theorem dX6_open_20 : decode cX6_open 20 = .ok (.aload_n 0, 1) := by decide +kernel
theorem dX6_open_21 : decode cX6_open 21 = .ok (.aload_n 0, 1) := by decide +kernel
theorem dX6_open_22 : decode cX6_open 22 = .ok (.getfield 14, 3) := by decide +kernel
theorem dX6_open_25 : decode cX6_open 25 = .ok (.invokevirtual 56, 3) := by decide +kernel
theorem dX6_open_28 : decode cX6_open 28 = .ok (.putfield 44, 3) := by decide +kernel
theorem dX6_open_31 : decode cX6_open 31 = .ok (.aload_n 0, 1) := by decide +kernel
theorem dX6_open_32 : decode cX6_open 32 = .ok (.getfield 44, 3) := by decide +kernel
theorem dX6_open_35 : decode cX6_open 35 = .ok (.ifCond .ne 11, 3) := by decide +kernel
theorem dX6_open_38 : decode cX6_open 38 = .ok (.aload_n 0, 1) := by decide +kernel
theorem dX6_open_39 : decode cX6_open 39 = .ok (.iconst 1, 1) := by decide +kernel
theorem dX6_open_40 : decode cX6_open 40 = .ok (.putfield 24, 3) := by decide +kernel
theorem dX6_open_43 : decode cX6_open 43 = .ok (.goto 45, 3) := by decide +kernel
theorem dX6_open_46 : decode cX6_open 46 = .ok (.aload_n 0, 1) := by decide +kernel
theorem dX6_open_47 : decode cX6_open 47 = .ok (.getfield 14, 3) := by decide +kernel
theorem dX6_open_50 : decode cX6_open 50 = .ok (.invokevirtual 59, 3) := by decide +kernel
theorem dX6_open_53 : decode cX6_open 53 = .ok (.ifCond .eq 30, 3) := by decide +kernel
theorem dX6_open_56 : decode cX6_open 56 = .ok (.aload_n 0, 1) := by decide +kernel
theorem dX6_open_57 : decode cX6_open 57 = .ok (.iconst 0, 1) := by decide +kernel
theorem dX6_open_58 : decode cX6_open 58 = .ok (.putfield 24, 3) := by decide +kernel
theorem dX6_open_61 : decode cX6_open 61 = .ok (.aload_n 0, 1) := by decide +kernel
theorem dX6_open_62 : decode cX6_open 62 = .ok (.getfield 27, 3) := by decide +kernel
theorem dX6_open_65 : decode cX6_open 65 = .ok (.iconst 0, 1) := by decide +kernel
theorem dX6_open_66 : decode cX6_open 66 = .ok (.aload_n 0, 1) := by decide +kernel
theorem dX6_open_67 : decode cX6_open 67 = .ok (.getfield 14, 3) := by decide +kernel
theorem dX6_open_70 : decode cX6_open 70 = .ok (.getfield 63, 3) := by decide +kernel
theorem dX6_open_73 : decode cX6_open 73 = .ok (.getstatic 66, 3) := by decide +kernel
theorem dX6_open_76 : decode cX6_open 76 = .ok (.iconst 0, 1) := by decide +kernel
theorem dX6_open_77 : decode cX6_open 77 = .ok (.iaload, 1) := by decide +kernel
theorem dX6_open_78 : decode cX6_open 78 = .ok (.iaload, 1) := by decide +kernel
theorem dX6_open_79 : decode cX6_open 79 = .ok (.iastore, 1) := by decide +kernel
theorem dX6_open_80 : decode cX6_open 80 = .ok (.goto 8, 3) := by decide +kernel
theorem dX6_open_83 : decode cX6_open 83 = .ok (.aload_n 0, 1) := by decide +kernel
theorem dX6_open_84 : decode cX6_open 84 = .ok (.iconst 2, 1) := by decide +kernel
theorem dX6_open_85 : decode cX6_open 85 = .ok (.putfield 24, 3) := by decide +kernel
theorem dX6_open_88 : decode cX6_open 88 = .ok (.return_, 1) := by decide +kernel
theorem dX6_run_0 : decode cX6_run 0 = .ok (.iconst 0, 1) := by decide +kernel
theorem dX6_run_1 : decode cX6_run 1 = .ok (.istore_n 2, 1) := by decide +kernel
theorem dX6_run_2 : decode cX6_run 2 = .ok (.iload_n 2, 1) := by decide +kernel
theorem dX6_run_3 : decode cX6_run 3 = .ok (.iload_n 1, 1) := by decide +kernel
theorem dX6_run_4 : decode cX6_run 4 = .ok (.if_icmp .ge 132, 3) := by decide +kernel
theorem dX6_run_7 : decode cX6_run 7 = .ok (.aload_n 0, 1) := by decide +kernel
theorem dX6_run_8 : decode cX6_run 8 = .ok (.getfield 24, 3) := by decide +kernel
theorem dX6_run_11 : decode cX6_run 11 = .ok (.ifCond .ne 125, 3) := by decide +kernel
theorem dX6_run_14 : decode cX6_run 14 = .ok (.aload_n 0, 1) := by decide +kernel
theorem dX6_run_15 : decode cX6_run 15 = .ok (.getfield 27, 3) := by decide +kernel
theorem dX6_run_18 : decode cX6_run 18 = .ok (.aload_n 0, 1) := by decide +kernel
theorem dX6_run_19 : decode cX6_run 19 = .ok (.getfield 47, 3) := by decide +kernel
theorem dX6_run_22 : decode cX6_run 22 = .ok (.iaload, 1) := by decide +kernel
theorem dX6_run_23 : decode cX6_run 23 = .ok (.aload_n 0, 1) := by decide +kernel
theorem dX6_run_24 : decode cX6_run 24 = .ok (.getfield 27, 3) := by decide +kernel
theorem dX6_run_27 : decode cX6_run 27 = .ok (.aload_n 0, 1) := by decide +kernel
theorem dX6_run_28 : decode cX6_run 28 = .ok (.getfield 47, 3) := by decide +kernel
theorem dX6_run_31 : decode cX6_run 31 = .ok (.iaload, 1) := by decide +kernel
theorem dX6_run_32 : decode cX6_run 32 = .ok (.ineg, 1) := by decide +kernel
theorem dX6_run_33 : decode cX6_run 33 = .ok (.iand, 1) := by decide +kernel
theorem dX6_run_34 : decode cX6_run 34 = .ok (.istore_n 3, 1) := by decide +kernel
theorem dX6_run_35 : decode cX6_run 35 = .ok (.aload_n 0, 1) := by decide +kernel
theorem dX6_run_36 : decode cX6_run 36 = .ok (.getfield 27, 3) := by decide +kernel
theorem dX6_run_39 : decode cX6_run 39 = .ok (.aload_n 0, 1) := by decide +kernel
theorem dX6_run_40 : decode cX6_run 40 = .ok (.getfield 47, 3) := by decide +kernel
theorem dX6_run_43 : decode cX6_run 43 = .ok (.dup2, 1) := by decide +kernel
theorem dX6_run_44 : decode cX6_run 44 = .ok (.iaload, 1) := by decide +kernel
theorem dX6_run_45 : decode cX6_run 45 = .ok (.iload_n 3, 1) := by decide +kernel
theorem dX6_run_46 : decode cX6_run 46 = .ok (.iconst (-1), 1) := by decide +kernel
theorem dX6_run_47 : decode cX6_run 47 = .ok (.ixor, 1) := by decide +kernel
theorem dX6_run_48 : decode cX6_run 48 = .ok (.iand, 1) := by decide +kernel
theorem dX6_run_49 : decode cX6_run 49 = .ok (.iastore, 1) := by decide +kernel
theorem dX6_run_50 : decode cX6_run 50 = .ok (.aload_n 0, 1) := by decide +kernel
theorem dX6_run_51 : decode cX6_run 51 = .ok (.getfield 31, 3) := by decide +kernel
theorem dX6_run_54 : decode cX6_run 54 = .ok (.aload_n 0, 1) := by decide +kernel
theorem dX6_run_55 : decode cX6_run 55 = .ok (.getfield 47, 3) := by decide +kernel
theorem dX6_run_58 : decode cX6_run 58 = .ok (.aload_n 0, 1) := by decide +kernel
theorem dX6_run_59 : decode cX6_run 59 = .ok (.getfield 14, 3) := by decide +kernel
theorem dX6_run_62 : decode cX6_run 62 = .ok (.getfield 69, 3) := by decide +kernel
theorem dX6_run_65 : decode cX6_run 65 = .ok (.iastore, 1) := by decide +kernel
theorem dX6_run_66 : decode cX6_run 66 = .ok (.aload_n 0, 1) := by decide +kernel
theorem dX6_run_67 : decode cX6_run 67 = .ok (.dup, 1) := by decide +kernel
theorem dX6_run_68 : decode cX6_run 68 = .ok (.getfield 38, 3) := by decide +kernel
theorem dX6_run_71 : decode cX6_run 71 = .ok (.iconst 1, 1) := by decide +kernel
theorem dX6_run_72 : decode cX6_run 72 = .ok (.iadd, 1) := by decide +kernel
theorem dX6_run_73 : decode cX6_run 73 = .ok (.putfield 38, 3) := by decide +kernel
theorem dX6_run_76 : decode cX6_run 76 = .ok (.aload_n 0, 1) := by decide +kernel
theorem dX6_run_77 : decode cX6_run 77 = .ok (.getfield 14, 3) := by decide +kernel
theorem dX6_run_80 : decode cX6_run 80 = .ok (.getstatic 66, 3) := by decide +kernel
theorem dX6_run_83 : decode cX6_run 83 = .ok (.aload_n 0, 1) := by decide +kernel
theorem dX6_run_84 : decode cX6_run 84 = .ok (.getfield 47, 3) := by decide +kernel
theorem dX6_run_87 : decode cX6_run 87 = .ok (.iaload, 1) := by decide +kernel
theorem dX6_run_88 : decode cX6_run 88 = .ok (.iload_n 3, 1) := by decide +kernel
theorem dX6_run_89 : decode cX6_run 89 = .ok (.invokevirtual 72, 3) := by decide +kernel
theorem dX6_run_92 : decode cX6_run 92 = .ok (.ifCond .eq 20, 3) := by decide +kernel
theorem dX6_run_95 : decode cX6_run 95 = .ok (.aload_n 0, 1) := by decide +kernel
theorem dX6_run_96 : decode cX6_run 96 = .ok (.getfield 14, 3) := by decide +kernel
theorem dX6_run_99 : decode cX6_run 99 = .ok (.invokevirtual 76, 3) := by decide +kernel
theorem dX6_run_102 : decode cX6_run 102 = .ok (.ifCond .eq 10, 3) := by decide +kernel
theorem dX6_run_105 : decode cX6_run 105 = .ok (.aload_n 0, 1) := by decide +kernel
theorem dX6_run_106 : decode cX6_run 106 = .ok (.invokevirtual 79, 3) := by decide +kernel
theorem dX6_run_109 : decode cX6_run 109 = .ok (.goto 17, 3) := by decide +kernel
theorem dX6_run_112 : decode cX6_run 112 = .ok (.aload_n 0, 1) := by decide +kernel
theorem dX6_run_113 : decode cX6_run 113 = .ok (.dup, 1) := by decide +kernel
theorem dX6_run_114 : decode cX6_run 114 = .ok (.getfield 41, 3) := by decide +kernel
theorem dX6_run_117 : decode cX6_run 117 = .ok (.iconst 1, 1) := by decide +kernel
theorem dX6_run_118 : decode cX6_run 118 = .ok (.iadd, 1) := by decide +kernel
theorem dX6_run_119 : decode cX6_run 119 = .ok (.putfield 41, 3) := by decide +kernel
theorem dX6_run_122 : decode cX6_run 122 = .ok (.aload_n 0, 1) := by decide +kernel
theorem dX6_run_123 : decode cX6_run 123 = .ok (.invokevirtual 82, 3) := by decide +kernel
theorem dX6_run_126 : decode cX6_run 126 = .ok (.aload_n 0, 1) := by decide +kernel
theorem dX6_run_127 : decode cX6_run 127 = .ok (.invokevirtual 85, 3) := by decide +kernel
theorem dX6_run_130 : decode cX6_run 130 = .ok (.iinc 2 1, 3) := by decide +kernel
theorem dX6_run_133 : decode cX6_run 133 = .ok (.goto (-131), 3) := by decide +kernel
theorem dX6_run_136 : decode cX6_run 136 = .ok (.aload_n 0, 1) := by decide +kernel
theorem dX6_run_137 : decode cX6_run 137 = .ok (.getfield 24, 3) := by decide +kernel
theorem dX6_run_140 : decode cX6_run 140 = .ok (.ireturn, 1) := by decide +kernel
theorem dX6_runBehind_0 : decode cX6_runBehind 0 = .ok (.aload_n 0, 1) := by decide +kernel
theorem dX6_runBehind_1 : decode cX6_runBehind 1 = .ok (.iconst 0, 1) := by decide +kernel
theorem dX6_runBehind_2 : decode cX6_runBehind 2 = .ok (.putfield 24, 3) := by decide +kernel
theorem dX6_runBehind_5 : decode cX6_runBehind 5 = .ok (.aload_n 0, 1) := by decide +kernel
theorem dX6_runBehind_6 : decode cX6_runBehind 6 = .ok (.dup, 1) := by decide +kernel
theorem dX6_runBehind_7 : decode cX6_runBehind 7 = .ok (.getfield 47, 3) := by decide +kernel
theorem dX6_runBehind_10 : decode cX6_runBehind 10 = .ok (.iconst 1, 1) := by decide +kernel
theorem dX6_runBehind_11 : decode cX6_runBehind 11 = .ok (.isub, 1) := by decide +kernel
theorem dX6_runBehind_12 : decode cX6_runBehind 12 = .ok (.putfield 47, 3) := by decide +kernel
theorem dX6_runBehind_15 : decode cX6_runBehind 15 = .ok (.aload_n 0, 1) := by decide +kernel
theorem dX6_runBehind_16 : decode cX6_runBehind 16 = .ok (.invokevirtual 82, 3) := by decide +kernel
theorem dX6_runBehind_19 : decode cX6_runBehind 19 = .ok (.aload_n 0, 1) := by decide +kernel
theorem dX6_runBehind_20 : decode cX6_runBehind 20 = .ok (.invokevirtual 85, 3) := by decide +kernel
theorem dX6_runBehind_23 : decode cX6_runBehind 23 = .ok (.aload_n 0, 1) := by decide +kernel
theorem dX6_runBehind_24 : decode cX6_runBehind 24 = .ok (.sipush 20000, 3) := by decide +kernel
theorem dX6_runBehind_27 : decode cX6_runBehind 27 = .ok (.invokevirtual 88, 3) := by decide +kernel
theorem dX6_runBehind_30 : decode cX6_runBehind 30 = .ok (.ireturn, 1) := by decide +kernel
theorem dX6_goAhead_0 : decode cX6_goAhead 0 = .ok (.aload_n 0, 1) := by decide +kernel
theorem dX6_goAhead_1 : decode cX6_goAhead 1 = .ok (.dup, 1) := by decide +kernel
theorem dX6_goAhead_2 : decode cX6_goAhead 2 = .ok (.getfield 47, 3) := by decide +kernel
theorem dX6_goAhead_5 : decode cX6_goAhead 5 = .ok (.iconst 1, 1) := by decide +kernel
theorem dX6_goAhead_6 : decode cX6_goAhead 6 = .ok (.iadd, 1) := by decide +kernel
theorem dX6_goAhead_7 : decode cX6_goAhead 7 = .ok (.putfield 47, 3) := by decide +kernel
theorem dX6_goAhead_10 : decode cX6_goAhead 10 = .ok (.aload_n 0, 1) := by decide +kernel
theorem dX6_goAhead_11 : decode cX6_goAhead 11 = .ok (.getfield 47, 3) := by decide +kernel
theorem dX6_goAhead_14 : decode cX6_goAhead 14 = .ok (.aload_n 0, 1) := by decide +kernel
theorem dX6_goAhead_15 : decode cX6_goAhead 15 = .ok (.getfield 44, 3) := by decide +kernel
theorem dX6_goAhead_18 : decode cX6_goAhead 18 = .ok (.if_icmp .ge 31, 3) := by decide +kernel
theorem dX6_goAhead_21 : decode cX6_goAhead 21 = .ok (.aload_n 0, 1) := by decide +kernel
theorem dX6_goAhead_22 : decode cX6_goAhead 22 = .ok (.getfield 27, 3) := by decide +kernel
theorem dX6_goAhead_25 : decode cX6_goAhead 25 = .ok (.aload_n 0, 1) := by decide +kernel
theorem dX6_goAhead_26 : decode cX6_goAhead 26 = .ok (.getfield 47, 3) := by decide +kernel
theorem dX6_goAhead_29 : decode cX6_goAhead 29 = .ok (.aload_n 0, 1) := by decide +kernel
theorem dX6_goAhead_30 : decode cX6_goAhead 30 = .ok (.getfield 14, 3) := by decide +kernel
theorem dX6_goAhead_33 : decode cX6_goAhead 33 = .ok (.getfield 63, 3) := by decide +kernel
theorem dX6_goAhead_36 : decode cX6_goAhead 36 = .ok (.getstatic 66, 3) := by decide +kernel
theorem dX6_goAhead_39 : decode cX6_goAhead 39 = .ok (.aload_n 0, 1) := by decide +kernel
theorem dX6_goAhead_40 : decode cX6_goAhead 40 = .ok (.getfield 47, 3) := by decide +kernel
theorem dX6_goAhead_43 : decode cX6_goAhead 43 = .ok (.iaload, 1) := by decide +kernel
theorem dX6_goAhead_44 : decode cX6_goAhead 44 = .ok (.iaload, 1) := by decide +kernel
theorem dX6_goAhead_45 : decode cX6_goAhead 45 = .ok (.iastore, 1) := by decide +kernel
theorem dX6_goAhead_46 : decode cX6_goAhead 46 = .ok (.goto 8, 3) := by decide +kernel
theorem dX6_goAhead_49 : decode cX6_goAhead 49 = .ok (.aload_n 0, 1) := by decide +kernel
theorem dX6_goAhead_50 : decode cX6_goAhead 50 = .ok (.iconst 1, 1) := by decide +kernel
theorem dX6_goAhead_51 : decode cX6_goAhead 51 = .ok (.putfield 24, 3) := by decide +kernel
theorem dX6_goAhead_54 : decode cX6_goAhead 54 = .ok (.return_, 1) := by decide +kernel
theorem dX6_goBack_0 : decode cX6_goBack 0 = .ok (.aload_n 0, 1) := by decide +kernel
theorem dX6_goBack_1 : decode cX6_goBack 1 = .ok (.getfield 47, 3) := by decide +kernel
theorem dX6_goBack_4 : decode cX6_goBack 4 = .ok (.ifCond .lt 19, 3) := by decide +kernel
theorem dX6_goBack_7 : decode cX6_goBack 7 = .ok (.aload_n 0, 1) := by decide +kernel
theorem dX6_goBack_8 : decode cX6_goBack 8 = .ok (.getfield 14, 3) := by decide +kernel
theorem dX6_goBack_11 : decode cX6_goBack 11 = .ok (.aload_n 0, 1) := by decide +kernel
theorem dX6_goBack_12 : decode cX6_goBack 12 = .ok (.getfield 31, 3) := by decide +kernel
theorem dX6_goBack_15 : decode cX6_goBack 15 = .ok (.aload_n 0, 1) := by decide +kernel
theorem dX6_goBack_16 : decode cX6_goBack 16 = .ok (.getfield 47, 3) := by decide +kernel
theorem dX6_goBack_19 : decode cX6_goBack 19 = .ok (.iaload, 1) := by decide +kernel
theorem dX6_goBack_20 : decode cX6_goBack 20 = .ok (.invokevirtual 92, 3) := by decide +kernel
theorem dX6_goBack_23 : decode cX6_goBack 23 = .ok (.aload_n 0, 1) := by decide +kernel
theorem dX6_goBack_24 : decode cX6_goBack 24 = .ok (.getfield 47, 3) := by decide +kernel
theorem dX6_goBack_27 : decode cX6_goBack 27 = .ok (.ifCond .lt 51, 3) := by decide +kernel
theorem dX6_goBack_30 : decode cX6_goBack 30 = .ok (.aload_n 0, 1) := by decide +kernel
theorem dX6_goBack_31 : decode cX6_goBack 31 = .ok (.getfield 27, 3) := by decide +kernel
theorem dX6_goBack_34 : decode cX6_goBack 34 = .ok (.aload_n 0, 1) := by decide +kernel
theorem dX6_goBack_35 : decode cX6_goBack 35 = .ok (.getfield 47, 3) := by decide +kernel
theorem dX6_goBack_38 : decode cX6_goBack 38 = .ok (.iaload, 1) := by decide +kernel
theorem dX6_goBack_39 : decode cX6_goBack 39 = .ok (.ifCond .ne 39, 3) := by decide +kernel
theorem dX6_goBack_42 : decode cX6_goBack 42 = .ok (.aload_n 0, 1) := by decide +kernel
theorem dX6_goBack_43 : decode cX6_goBack 43 = .ok (.dup, 1) := by decide +kernel
theorem dX6_goBack_44 : decode cX6_goBack 44 = .ok (.getfield 47, 3) := by decide +kernel
theorem dX6_goBack_47 : decode cX6_goBack 47 = .ok (.iconst 1, 1) := by decide +kernel
theorem dX6_goBack_48 : decode cX6_goBack 48 = .ok (.isub, 1) := by decide +kernel
theorem dX6_goBack_49 : decode cX6_goBack 49 = .ok (.putfield 47, 3) := by decide +kernel
theorem dX6_goBack_52 : decode cX6_goBack 52 = .ok (.aload_n 0, 1) := by decide +kernel
theorem dX6_goBack_53 : decode cX6_goBack 53 = .ok (.getfield 47, 3) := by decide +kernel
theorem dX6_goBack_56 : decode cX6_goBack 56 = .ok (.ifCond .lt (-33), 3) := by decide +kernel
theorem dX6_goBack_59 : decode cX6_goBack 59 = .ok (.aload_n 0, 1) := by decide +kernel
theorem dX6_goBack_60 : decode cX6_goBack 60 = .ok (.getfield 14, 3) := by decide +kernel
theorem dX6_goBack_63 : decode cX6_goBack 63 = .ok (.aload_n 0, 1) := by decide +kernel
theorem dX6_goBack_64 : decode cX6_goBack 64 = .ok (.getfield 31, 3) := by decide +kernel
theorem dX6_goBack_67 : decode cX6_goBack 67 = .ok (.aload_n 0, 1) := by decide +kernel
theorem dX6_goBack_68 : decode cX6_goBack 68 = .ok (.getfield 47, 3) := by decide +kernel
theorem dX6_goBack_71 : decode cX6_goBack 71 = .ok (.iaload, 1) := by decide +kernel
theorem dX6_goBack_72 : decode cX6_goBack 72 = .ok (.invokevirtual 92, 3) := by decide +kernel
theorem dX6_goBack_75 : decode cX6_goBack 75 = .ok (.goto (-52), 3) := by decide +kernel
theorem dX6_goBack_78 : decode cX6_goBack 78 = .ok (.aload_n 0, 1) := by decide +kernel
theorem dX6_goBack_79 : decode cX6_goBack 79 = .ok (.getfield 47, 3) := by decide +kernel
theorem dX6_goBack_82 : decode cX6_goBack 82 = .ok (.ifCond .ge 13, 3) := by decide +kernel
theorem dX6_goBack_85 : decode cX6_goBack 85 = .ok (.aload_n 0, 1) := by decide +kernel
theorem dX6_goBack_86 : decode cX6_goBack 86 = .ok (.iconst 0, 1) := by decide +kernel
theorem dX6_goBack_87 : decode cX6_goBack 87 = .ok (.putfield 47, 3) := by decide +kernel
theorem dX6_goBack_90 : decode cX6_goBack 90 = .ok (.aload_n 0, 1) := by decide +kernel
theorem dX6_goBack_91 : decode cX6_goBack 91 = .ok (.iconst 2, 1) := by decide +kernel
theorem dX6_goBack_92 : decode cX6_goBack 92 = .ok (.putfield 24, 3) := by decide +kernel
theorem dX6_goBack_95 : decode cX6_goBack 95 = .ok (.return_, 1) := by decide +kernel
theorem dX6_seeWhetherSpent_0 : decode cX6_seeWhetherSpent 0 = .ok (.aload_n 0, 1) := by decide +kernel
theorem dX6_seeWhetherSpent_1 : decode cX6_seeWhetherSpent 1 = .ok (.getfield 24, 3) := by decide +kernel
theorem dX6_seeWhetherSpent_4 : decode cX6_seeWhetherSpent 4 = .ok (.ifCond .ne 18, 3) := by decide +kernel
theorem dX6_seeWhetherSpent_7 : decode cX6_seeWhetherSpent 7 = .ok (.aload_n 0, 1) := by decide +kernel
theorem dX6_seeWhetherSpent_8 : decode cX6_seeWhetherSpent 8 = .ok (.getfield 38, 3) := by decide +kernel
theorem dX6_seeWhetherSpent_11 : decode cX6_seeWhetherSpent 11 = .ok (.sipush 20000, 3) := by decide +kernel
theorem dX6_seeWhetherSpent_14 : decode cX6_seeWhetherSpent 14 = .ok (.if_icmp .lt 8, 3) := by decide +kernel
theorem dX6_seeWhetherSpent_17 : decode cX6_seeWhetherSpent 17 = .ok (.aload_n 0, 1) := by decide +kernel
theorem dX6_seeWhetherSpent_18 : decode cX6_seeWhetherSpent 18 = .ok (.iconst 3, 1) := by decide +kernel
theorem dX6_seeWhetherSpent_19 : decode cX6_seeWhetherSpent 19 = .ok (.putfield 24, 3) := by decide +kernel
theorem dX6_seeWhetherSpent_22 : decode cX6_seeWhetherSpent 22 = .ok (.return_, 1) := by decide +kernel
theorem dX7_init_0 : decode cX7_init 0 = .ok (.aload_n 0, 1) := by decide +kernel
theorem dX7_init_1 : decode cX7_init 1 = .ok (.invokespecial 3, 3) := by decide +kernel
theorem dX7_init_4 : decode cX7_init 4 = .ok (.aload_n 0, 1) := by decide +kernel
theorem dX7_init_5 : decode cX7_init 5 = .ok (.aload_n 1, 1) := by decide +kernel
theorem dX7_init_6 : decode cX7_init 6 = .ok (.putfield 9, 3) := by decide +kernel
theorem dX7_init_9 : decode cX7_init 9 = .ok (.aload_n 0, 1) := by decide +kernel
theorem dX7_init_10 : decode cX7_init 10 = .ok (.bipush 100, 2) := by decide +kernel
theorem dX7_init_12 : decode cX7_init 12 = .ok (.newarray .int, 2) := by decide +kernel
theorem dX7_init_14 : decode cX7_init 14 = .ok (.putfield 15, 3) := by decide +kernel
theorem dX7_init_17 : decode cX7_init 17 = .ok (.aload_n 0, 1) := by decide +kernel
theorem dX7_init_18 : decode cX7_init 18 = .ok (.sipush 360, 3) := by decide +kernel
theorem dX7_init_21 : decode cX7_init 21 = .ok (.newarray .int, 2) := by decide +kernel
theorem dX7_init_23 : decode cX7_init 23 = .ok (.putfield 19, 3) := by decide +kernel
theorem dX7_init_26 : decode cX7_init 26 = .ok (.aload_n 0, 1) := by decide +kernel
theorem dX7_init_27 : decode cX7_init 27 = .ok (.sipush 360, 3) := by decide +kernel
theorem dX7_init_30 : decode cX7_init 30 = .ok (.newarray .int, 2) := by decide +kernel
theorem dX7_init_32 : decode cX7_init 32 = .ok (.putfield 22, 3) := by decide +kernel
theorem dX7_init_35 : decode cX7_init 35 = .ok (.aload_n 0, 1) := by decide +kernel
theorem dX7_init_36 : decode cX7_init 36 = .ok (.bipush 45, 2) := by decide +kernel
theorem dX7_init_38 : decode cX7_init 38 = .ok (.newarray .int, 2) := by decide +kernel
theorem dX7_init_40 : decode cX7_init 40 = .ok (.putfield 25, 3) := by decide +kernel
theorem dX7_init_43 : decode cX7_init 43 = .ok (.aload_n 0, 1) := by decide +kernel
theorem dX7_init_44 : decode cX7_init 44 = .ok (.bipush 100, 2) := by decide +kernel
theorem dX7_init_46 : decode cX7_init 46 = .ok (.newarray .boolean, 2) := by decide +kernel
theorem dX7_init_48 : decode cX7_init 48 = .ok (.putfield 28, 3) := by decide +kernel
theorem dX7_init_51 : decode cX7_init 51 = .ok (.return_, 1) := by decide +kernel
theorem dX7_become_0 : decode cX7_become 0 = .ok (.aload_n 0, 1) := by decide +kernel
theorem dX7_become_1 : decode cX7_become 1 = .ok (.aload_n 1, 1) := by decide +kernel
theorem dX7_become_2 : decode cX7_become 2 = .ok (.getfield 32, 3) := by decide +kernel
theorem dX7_become_5 : decode cX7_become 5 = .ok (.putfield 32, 3) := by decide +kernel
theorem dX7_become_8 : decode cX7_become 8 = .ok (.aload_n 0, 1) := by decide +kernel
theorem dX7_become_9 : decode cX7_become 9 = .ok (.aload_n 1, 1) := by decide +kernel
theorem dX7_become_10 : decode cX7_become 10 = .ok (.getfield 36, 3) := by decide +kernel
theorem dX7_become_13 : decode cX7_become 13 = .ok (.putfield 36, 3) := by decide +kernel
theorem dX7_become_16 : decode cX7_become 16 = .ok (.aload_n 1, 1) := by decide +kernel
theorem dX7_become_17 : decode cX7_become 17 = .ok (.getfield 15, 3) := by decide +kernel
theorem dX7_become_20 : decode cX7_become 20 = .ok (.iconst 0, 1) := by decide +kernel
theorem dX7_become_21 : decode cX7_become 21 = .ok (.aload_n 0, 1) := by decide +kernel
theorem dX7_become_22 : decode cX7_become 22 = .ok (.getfield 15, 3) := by decide +kernel
theorem dX7_become_25 : decode cX7_become 25 = .ok (.iconst 0, 1) := by decide +kernel
theorem dX7_become_26 : decode cX7_become 26 = .ok (.aload_n 0, 1) := by decide +kernel
theorem dX7_become_27 : decode cX7_become 27 = .ok (.getfield 15, 3) := by decide +kernel
theorem dX7_become_30 : decode cX7_become 30 = .ok (.arraylength, 1) := by decide +kernel
theorem dX7_become_31 : decode cX7_become 31 = .ok (.invokestatic 39, 3) := by decide +kernel
theorem dX7_become_34 : decode cX7_become 34 = .ok (.aload_n 1, 1) := by decide +kernel
theorem dX7_become_35 : decode cX7_become 35 = .ok (.getfield 19, 3) := by decide +kernel
theorem dX7_become_38 : decode cX7_become 38 = .ok (.iconst 0, 1) := by decide +kernel
theorem dX7_become_39 : decode cX7_become 39 = .ok (.aload_n 0, 1) := by decide +kernel
theorem dX7_become_40 : decode cX7_become 40 = .ok (.getfield 19, 3) := by decide +kernel
theorem dX7_become_43 : decode cX7_become 43 = .ok (.iconst 0, 1) := by decide +kernel
theorem dX7_become_44 : decode cX7_become 44 = .ok (.aload_n 0, 1) := by decide +kernel
theorem dX7_become_45 : decode cX7_become 45 = .ok (.getfield 36, 3) := by decide +kernel
theorem dX7_become_48 : decode cX7_become 48 = .ok (.invokestatic 39, 3) := by decide +kernel
theorem dX7_become_51 : decode cX7_become 51 = .ok (.aload_n 1, 1) := by decide +kernel
theorem dX7_become_52 : decode cX7_become 52 = .ok (.getfield 22, 3) := by decide +kernel
theorem dX7_become_55 : decode cX7_become 55 = .ok (.iconst 0, 1) := by decide +kernel
theorem dX7_become_56 : decode cX7_become 56 = .ok (.aload_n 0, 1) := by decide +kernel
theorem dX7_become_57 : decode cX7_become 57 = .ok (.getfield 22, 3) := by decide +kernel
theorem dX7_become_60 : decode cX7_become 60 = .ok (.iconst 0, 1) := by decide +kernel
theorem dX7_become_61 : decode cX7_become 61 = .ok (.aload_n 0, 1) := by decide +kernel
theorem dX7_become_62 : decode cX7_become 62 = .ok (.getfield 36, 3) := by decide +kernel
theorem dX7_become_65 : decode cX7_become 65 = .ok (.invokestatic 39, 3) := by decide +kernel
theorem dX7_become_68 : decode cX7_become 68 = .ok (.return_, 1) := by decide +kernel
theorem dX7_open_0 : decode cX7_open 0 = .ok (.aload_n 0, 1) := by decide +kernel
theorem dX7_open_1 : decode cX7_open 1 = .ok (.iload_n 1, 1) := by decide +kernel
theorem dX7_open_2 : decode cX7_open 2 = .ok (.putfield 32, 3) := by decide +kernel
theorem dX7_open_5 : decode cX7_open 5 = .ok (.aload_n 0, 1) := by decide +kernel
theorem dX7_open_6 : decode cX7_open 6 = .ok (.iconst 0, 1) := by decide +kernel
theorem dX7_open_7 : decode cX7_open 7 = .ok (.putfield 36, 3) := by decide +kernel
theorem dX7_open_10 : decode cX7_open 10 = .ok (.aload_n 0, 1) := by decide +kernel
theorem dX7_open_11 : decode cX7_open 11 = .ok (.iconst 0, 1) := by decide +kernel
theorem dX7_open_12 : decode cX7_open 12 = .ok (.putfield 45, 3) := by decide +kernel
theorem dX7_open_15 : decode cX7_open 15 = .ok (.aload_n 0, 1) := by decide +kernel
theorem dX7_open_16 : decode cX7_open 16 = .ok (.iconst 0, 1) := by decide +kernel
theorem dX7_open_17 : decode cX7_open 17 = .ok (.putfield 48, 3) := by decide +kernel
theorem dX7_open_20 : decode cX7_open 20 = .ok (.iconst 0, 1) := by decide +kernel
theorem dX7_open_21 : decode cX7_open 21 = .ok (.istore_n 2, 1) := by decide +kernel
theorem dX7_open_22 : decode cX7_open 22 = .ok (.iload_n 2, 1) := by decide +kernel
theorem dX7_open_23 : decode cX7_open 23 = .ok (.aload_n 0, 1) := by decide +kernel
theorem dX7_open_24 : decode cX7_open 24 = .ok (.getfield 15, 3) := by decide +kernel
theorem dX7_open_27 : decode cX7_open 27 = .ok (.arraylength, 1) := by decide +kernel
theorem dX7_open_28 : decode cX7_open 28 = .ok (.if_icmp .ge 25, 3) := by decide +kernel
theorem dX7_open_31 : decode cX7_open 31 = .ok (.aload_n 0, 1) := by decide +kernel
theorem dX7_open_32 : decode cX7_open 32 = .ok (.getfield 15, 3) := by decide +kernel
theorem dX7_open_35 : decode cX7_open 35 = .ok (.iload_n 2, 1) := by decide +kernel
theorem dX7_open_36 : decode cX7_open 36 = .ok (.sipush 255, 3) := by decide +kernel
theorem dX7_open_39 : decode cX7_open 39 = .ok (.iastore, 1) := by decide +kernel
theorem dX7_open_40 : decode cX7_open 40 = .ok (.aload_n 0, 1) := by decide +kernel
theorem dX7_open_41 : decode cX7_open 41 = .ok (.getfield 28, 3) := by decide +kernel
theorem dX7_open_44 : decode cX7_open 44 = .ok (.iload_n 2, 1) := by decide +kernel
theorem dX7_open_45 : decode cX7_open 45 = .ok (.iconst 0, 1) := by decide +kernel
theorem dX7_open_46 : decode cX7_open 46 = .ok (.bastore, 1) := by decide +kernel
theorem dX7_open_47 : decode cX7_open 47 = .ok (.iinc 2 1, 3) := by decide +kernel
theorem dX7_open_50 : decode cX7_open 50 = .ok (.goto (-28), 3) := by decide +kernel
theorem dX7_open_53 : decode cX7_open 53 = .ok (.return_, 1) := by decide +kernel
theorem dX7_pairs_0 : decode cX7_pairs 0 = .ok (.aload_n 0, 1) := by decide +kernel
theorem dX7_pairs_1 : decode cX7_pairs 1 = .ok (.getfield 32, 3) := by decide +kernel
theorem dX7_pairs_4 : decode cX7_pairs 4 = .ok (.aload_n 0, 1) := by decide +kernel
theorem dX7_pairs_5 : decode cX7_pairs 5 = .ok (.getfield 32, 3) := by decide +kernel
theorem dX7_pairs_8 : decode cX7_pairs 8 = .ok (.iconst 1, 1) := by decide +kernel
theorem dX7_pairs_9 : decode cX7_pairs 9 = .ok (.isub, 1) := by decide +kernel
theorem dX7_pairs_10 : decode cX7_pairs 10 = .ok (.imul, 1) := by decide +kernel
theorem dX7_pairs_11 : decode cX7_pairs 11 = .ok (.iconst 2, 1) := by decide +kernel
theorem dX7_pairs_12 : decode cX7_pairs 12 = .ok (.idiv, 1) := by decide +kernel
theorem dX7_pairs_13 : decode cX7_pairs 13 = .ok (.ireturn, 1) := by decide +kernel
theorem dX7_lessen_0 : decode cX7_lessen 0 = .ok (.aload_n 0, 1) := by decide +kernel
theorem dX7_lessen_1 : decode cX7_lessen 1 = .ok (.getfield 15, 3) := by decide +kernel
theorem dX7_lessen_4 : decode cX7_lessen 4 = .ok (.iload_n 1, 1) := by decide +kernel
theorem dX7_lessen_5 : decode cX7_lessen 5 = .ok (.bipush 10, 2) := by decide +kernel
theorem dX7_lessen_7 : decode cX7_lessen 7 = .ok (.imul, 1) := by decide +kernel
theorem dX7_lessen_8 : decode cX7_lessen 8 = .ok (.iload_n 2, 1) := by decide +kernel
theorem dX7_lessen_9 : decode cX7_lessen 9 = .ok (.iadd, 1) := by decide +kernel
theorem dX7_lessen_10 : decode cX7_lessen 10 = .ok (.iaload, 1) := by decide +kernel
theorem dX7_lessen_11 : decode cX7_lessen 11 = .ok (.iload_n 3, 1) := by decide +kernel
theorem dX7_lessen_12 : decode cX7_lessen 12 = .ok (.iand, 1) := by decide +kernel
theorem dX7_lessen_13 : decode cX7_lessen 13 = .ok (.istore 4, 2) := by decide +kernel
theorem dX7_lessen_15 : decode cX7_lessen 15 = .ok (.aload_n 0, 1) := by decide +kernel
theorem dX7_lessen_16 : decode cX7_lessen 16 = .ok (.getfield 15, 3) := by decide +kernel
theorem dX7_lessen_19 : decode cX7_lessen 19 = .ok (.iload_n 1, 1) := by decide +kernel
theorem dX7_lessen_20 : decode cX7_lessen 20 = .ok (.bipush 10, 2) := by decide +kernel
theorem dX7_lessen_22 : decode cX7_lessen 22 = .ok (.imul, 1) := by decide +kernel
theorem dX7_lessen_23 : decode cX7_lessen 23 = .ok (.iload_n 2, 1) := by decide +kernel
theorem dX7_lessen_24 : decode cX7_lessen 24 = .ok (.iadd, 1) := by decide +kernel
theorem dX7_lessen_25 : decode cX7_lessen 25 = .ok (.iload 4, 2) := by decide +kernel
theorem dX7_lessen_27 : decode cX7_lessen 27 = .ok (.iastore, 1) := by decide +kernel
theorem dX7_lessen_28 : decode cX7_lessen 28 = .ok (.aload_n 0, 1) := by decide +kernel
theorem dX7_lessen_29 : decode cX7_lessen 29 = .ok (.getfield 15, 3) := by decide +kernel
theorem dX7_lessen_32 : decode cX7_lessen 32 = .ok (.iload_n 2, 1) := by decide +kernel
theorem dX7_lessen_33 : decode cX7_lessen 33 = .ok (.bipush 10, 2) := by decide +kernel
theorem dX7_lessen_35 : decode cX7_lessen 35 = .ok (.imul, 1) := by decide +kernel
theorem dX7_lessen_36 : decode cX7_lessen 36 = .ok (.iload_n 1, 1) := by decide +kernel
theorem dX7_lessen_37 : decode cX7_lessen 37 = .ok (.iadd, 1) := by decide +kernel
theorem dX7_lessen_38 : decode cX7_lessen 38 = .ok (.aload_n 0, 1) := by decide +kernel
theorem dX7_lessen_39 : decode cX7_lessen 39 = .ok (.getfield 9, 3) := by decide +kernel
theorem dX7_lessen_42 : decode cX7_lessen 42 = .ok (.getfield 51, 3) := by decide +kernel
theorem dX7_lessen_45 : decode cX7_lessen 45 = .ok (.iload 4, 2) := by decide +kernel
theorem dX7_lessen_47 : decode cX7_lessen 47 = .ok (.iaload, 1) := by decide +kernel
theorem dX7_lessen_48 : decode cX7_lessen 48 = .ok (.iastore, 1) := by decide +kernel
theorem dX7_lessen_49 : decode cX7_lessen 49 = .ok (.return_, 1) := by decide +kernel
theorem dX7_shrinkAll_0 : decode cX7_shrinkAll 0 = .ok (.aload_n 0, 1) := by decide +kernel
theorem dX7_shrinkAll_1 : decode cX7_shrinkAll 1 = .ok (.invokevirtual 56, 3) := by decide +kernel
theorem dX7_shrinkAll_4 : decode cX7_shrinkAll 4 = .ok (.istore_n 1, 1) := by decide +kernel
theorem dX7_shrinkAll_5 : decode cX7_shrinkAll 5 = .ok (.iconst 0, 1) := by decide +kernel
theorem dX7_shrinkAll_6 : decode cX7_shrinkAll 6 = .ok (.istore_n 2, 1) := by decide +kernel
theorem dX7_shrinkAll_7 : decode cX7_shrinkAll 7 = .ok (.iload_n 2, 1) := by decide +kernel
theorem dX7_shrinkAll_8 : decode cX7_shrinkAll 8 = .ok (.iload_n 1, 1) := by decide +kernel
theorem dX7_shrinkAll_9 : decode cX7_shrinkAll 9 = .ok (.if_icmp .ge 24, 3) := by decide +kernel
theorem dX7_shrinkAll_12 : decode cX7_shrinkAll 12 = .ok (.aload_n 0, 1) := by decide +kernel
theorem dX7_shrinkAll_13 : decode cX7_shrinkAll 13 = .ok (.getfield 15, 3) := by decide +kernel
theorem dX7_shrinkAll_16 : decode cX7_shrinkAll 16 = .ok (.getstatic 60, 3) := by decide +kernel
theorem dX7_shrinkAll_19 : decode cX7_shrinkAll 19 = .ok (.iload_n 2, 1) := by decide +kernel
theorem dX7_shrinkAll_20 : decode cX7_shrinkAll 20 = .ok (.iaload, 1) := by decide +kernel
theorem dX7_shrinkAll_21 : decode cX7_shrinkAll 21 = .ok (.iaload, 1) := by decide +kernel
theorem dX7_shrinkAll_22 : decode cX7_shrinkAll 22 = .ok (.ifCond .ne 5, 3) := by decide +kernel
theorem dX7_shrinkAll_25 : decode cX7_shrinkAll 25 = .ok (.iconst 0, 1) := by decide +kernel
theorem dX7_shrinkAll_26 : decode cX7_shrinkAll 26 = .ok (.ireturn, 1) := by decide +kernel
theorem dX7_shrinkAll_27 : decode cX7_shrinkAll 27 = .ok (.iinc 2 1, 3) := by decide +kernel
theorem dX7_shrinkAll_30 : decode cX7_shrinkAll 30 = .ok (.goto (-23), 3) := by decide +kernel
theorem dX7_shrinkAll_33 : decode cX7_shrinkAll 33 = .ok (.aload_n 0, 1) := by decide +kernel
theorem dX7_shrinkAll_34 : decode cX7_shrinkAll 34 = .ok (.iconst 0, 1) := by decide +kernel
theorem dX7_shrinkAll_35 : decode cX7_shrinkAll 35 = .ok (.putfield 45, 3) := by decide +kernel
theorem dX7_shrinkAll_38 : decode cX7_shrinkAll 38 = .ok (.aload_n 0, 1) := by decide +kernel
theorem dX7_shrinkAll_39 : decode cX7_shrinkAll 39 = .ok (.iconst 0, 1) := by decide +kernel
theorem dX7_shrinkAll_40 : decode cX7_shrinkAll 40 = .ok (.putfield 48, 3) := by decide +kernel
theorem dX7_shrinkAll_43 : decode cX7_shrinkAll 43 = .ok (.iconst 0, 1) := by decide +kernel
theorem dX7_shrinkAll_44 : decode cX7_shrinkAll 44 = .ok (.istore_n 2, 1) := by decide +kernel
theorem dX7_shrinkAll_45 : decode cX7_shrinkAll 45 = .ok (.iload_n 2, 1) := by decide +kernel
theorem dX7_shrinkAll_46 : decode cX7_shrinkAll 46 = .ok (.iload_n 1, 1) := by decide +kernel
theorem dX7_shrinkAll_47 : decode cX7_shrinkAll 47 = .ok (.if_icmp .ge 60, 3) := by decide +kernel
theorem dX7_shrinkAll_50 : decode cX7_shrinkAll 50 = .ok (.aload_n 0, 1) := by decide +kernel
theorem dX7_shrinkAll_51 : decode cX7_shrinkAll 51 = .ok (.getfield 15, 3) := by decide +kernel
theorem dX7_shrinkAll_54 : decode cX7_shrinkAll 54 = .ok (.getstatic 60, 3) := by decide +kernel
theorem dX7_shrinkAll_57 : decode cX7_shrinkAll 57 = .ok (.iload_n 2, 1) := by decide +kernel
theorem dX7_shrinkAll_58 : decode cX7_shrinkAll 58 = .ok (.iaload, 1) := by decide +kernel
theorem dX7_shrinkAll_59 : decode cX7_shrinkAll 59 = .ok (.iaload, 1) := by decide +kernel
theorem dX7_shrinkAll_60 : decode cX7_shrinkAll 60 = .ok (.sipush 255, 3) := by decide +kernel
theorem dX7_shrinkAll_63 : decode cX7_shrinkAll 63 = .ok (.if_icmp .eq 38, 3) := by decide +kernel
theorem dX7_shrinkAll_66 : decode cX7_shrinkAll 66 = .ok (.aload_n 0, 1) := by decide +kernel
theorem dX7_shrinkAll_67 : decode cX7_shrinkAll 67 = .ok (.getfield 25, 3) := by decide +kernel
theorem dX7_shrinkAll_70 : decode cX7_shrinkAll 70 = .ok (.aload_n 0, 1) := by decide +kernel
theorem dX7_shrinkAll_71 : decode cX7_shrinkAll 71 = .ok (.getfield 48, 3) := by decide +kernel
theorem dX7_shrinkAll_74 : decode cX7_shrinkAll 74 = .ok (.getstatic 60, 3) := by decide +kernel
theorem dX7_shrinkAll_77 : decode cX7_shrinkAll 77 = .ok (.iload_n 2, 1) := by decide +kernel
theorem dX7_shrinkAll_78 : decode cX7_shrinkAll 78 = .ok (.iaload, 1) := by decide +kernel
theorem dX7_shrinkAll_79 : decode cX7_shrinkAll 79 = .ok (.iastore, 1) := by decide +kernel
theorem dX7_shrinkAll_80 : decode cX7_shrinkAll 80 = .ok (.aload_n 0, 1) := by decide +kernel
theorem dX7_shrinkAll_81 : decode cX7_shrinkAll 81 = .ok (.getfield 28, 3) := by decide +kernel
theorem dX7_shrinkAll_84 : decode cX7_shrinkAll 84 = .ok (.getstatic 60, 3) := by decide +kernel
theorem dX7_shrinkAll_87 : decode cX7_shrinkAll 87 = .ok (.iload_n 2, 1) := by decide +kernel
theorem dX7_shrinkAll_88 : decode cX7_shrinkAll 88 = .ok (.iaload, 1) := by decide +kernel
theorem dX7_shrinkAll_89 : decode cX7_shrinkAll 89 = .ok (.iconst 1, 1) := by decide +kernel
theorem dX7_shrinkAll_90 : decode cX7_shrinkAll 90 = .ok (.bastore, 1) := by decide +kernel
theorem dX7_shrinkAll_91 : decode cX7_shrinkAll 91 = .ok (.aload_n 0, 1) := by decide +kernel
theorem dX7_shrinkAll_92 : decode cX7_shrinkAll 92 = .ok (.dup, 1) := by decide +kernel
theorem dX7_shrinkAll_93 : decode cX7_shrinkAll 93 = .ok (.getfield 48, 3) := by decide +kernel
theorem dX7_shrinkAll_96 : decode cX7_shrinkAll 96 = .ok (.iconst 1, 1) := by decide +kernel
theorem dX7_shrinkAll_97 : decode cX7_shrinkAll 97 = .ok (.iadd, 1) := by decide +kernel
theorem dX7_shrinkAll_98 : decode cX7_shrinkAll 98 = .ok (.putfield 48, 3) := by decide +kernel
theorem dX7_shrinkAll_101 : decode cX7_shrinkAll 101 = .ok (.iinc 2 1, 3) := by decide +kernel
theorem dX7_shrinkAll_104 : decode cX7_shrinkAll 104 = .ok (.goto (-59), 3) := by decide +kernel
theorem dX7_shrinkAll_107 : decode cX7_shrinkAll 107 = .ok (.aload_n 0, 1) := by decide +kernel
theorem dX7_shrinkAll_108 : decode cX7_shrinkAll 108 = .ok (.invokevirtual 63, 3) := by decide +kernel
theorem dX7_shrinkAll_111 : decode cX7_shrinkAll 111 = .ok (.istore_n 2, 1) := by decide +kernel
theorem dX7_shrinkAll_112 : decode cX7_shrinkAll 112 = .ok (.aload_n 0, 1) := by decide +kernel
theorem dX7_shrinkAll_113 : decode cX7_shrinkAll 113 = .ok (.iconst 0, 1) := by decide +kernel
theorem dX7_shrinkAll_114 : decode cX7_shrinkAll 114 = .ok (.putfield 36, 3) := by decide +kernel
theorem dX7_shrinkAll_117 : decode cX7_shrinkAll 117 = .ok (.iload_n 2, 1) := by decide +kernel
theorem dX7_shrinkAll_118 : decode cX7_shrinkAll 118 = .ok (.ireturn, 1) := by decide +kernel
theorem dX7_spread_0 : decode cX7_spread 0 = .ok (.iconst 1, 1) := by decide +kernel
theorem dX7_spread_1 : decode cX7_spread 1 = .ok (.istore_n 1, 1) := by decide +kernel
theorem dX7_spread_2 : decode cX7_spread 2 = .ok (.iconst 0, 1) := by decide +kernel
theorem dX7_spread_3 : decode cX7_spread 3 = .ok (.istore_n 2, 1) := by decide +kernel
theorem dX7_spread_4 : decode cX7_spread 4 = .ok (.iload_n 2, 1) := by decide +kernel
theorem dX7_spread_5 : decode cX7_spread 5 = .ok (.sipush 405, 3) := by decide +kernel
theorem dX7_spread_8 : decode cX7_spread 8 = .ok (.if_icmp .ge 192, 3) := by decide +kernel
theorem dX7_spread_11 : decode cX7_spread 11 = .ok (.aload_n 0, 1) := by decide +kernel
theorem dX7_spread_12 : decode cX7_spread 12 = .ok (.getfield 48, 3) := by decide +kernel
theorem dX7_spread_15 : decode cX7_spread 15 = .ok (.ifCond .le 185, 3) := by decide +kernel
theorem dX7_spread_18 : decode cX7_spread 18 = .ok (.aload_n 0, 1) := by decide +kernel
theorem dX7_spread_19 : decode cX7_spread 19 = .ok (.getfield 25, 3) := by decide +kernel
theorem dX7_spread_22 : decode cX7_spread 22 = .ok (.aload_n 0, 1) := by decide +kernel
theorem dX7_spread_23 : decode cX7_spread 23 = .ok (.getfield 45, 3) := by decide +kernel
theorem dX7_spread_26 : decode cX7_spread 26 = .ok (.iaload, 1) := by decide +kernel
theorem dX7_spread_27 : decode cX7_spread 27 = .ok (.istore_n 3, 1) := by decide +kernel
theorem dX7_spread_28 : decode cX7_spread 28 = .ok (.aload_n 0, 1) := by decide +kernel
theorem dX7_spread_29 : decode cX7_spread 29 = .ok (.aload_n 0, 1) := by decide +kernel
theorem dX7_spread_30 : decode cX7_spread 30 = .ok (.getfield 45, 3) := by decide +kernel
theorem dX7_spread_33 : decode cX7_spread 33 = .ok (.iconst 1, 1) := by decide +kernel
theorem dX7_spread_34 : decode cX7_spread 34 = .ok (.iadd, 1) := by decide +kernel
theorem dX7_spread_35 : decode cX7_spread 35 = .ok (.bipush 45, 2) := by decide +kernel
theorem dX7_spread_37 : decode cX7_spread 37 = .ok (.irem, 1) := by decide +kernel
theorem dX7_spread_38 : decode cX7_spread 38 = .ok (.putfield 45, 3) := by decide +kernel
theorem dX7_spread_41 : decode cX7_spread 41 = .ok (.aload_n 0, 1) := by decide +kernel
theorem dX7_spread_42 : decode cX7_spread 42 = .ok (.dup, 1) := by decide +kernel
theorem dX7_spread_43 : decode cX7_spread 43 = .ok (.getfield 48, 3) := by decide +kernel
theorem dX7_spread_46 : decode cX7_spread 46 = .ok (.iconst 1, 1) := by decide +kernel
theorem dX7_spread_47 : decode cX7_spread 47 = .ok (.isub, 1) := by decide +kernel
theorem dX7_spread_48 : decode cX7_spread 48 = .ok (.putfield 48, 3) := by decide +kernel
theorem dX7_spread_51 : decode cX7_spread 51 = .ok (.aload_n 0, 1) := by decide +kernel
theorem dX7_spread_52 : decode cX7_spread 52 = .ok (.getfield 28, 3) := by decide +kernel
theorem dX7_spread_55 : decode cX7_spread 55 = .ok (.iload_n 3, 1) := by decide +kernel
theorem dX7_spread_56 : decode cX7_spread 56 = .ok (.iconst 0, 1) := by decide +kernel
theorem dX7_spread_57 : decode cX7_spread 57 = .ok (.bastore, 1) := by decide +kernel
theorem dX7_spread_58 : decode cX7_spread 58 = .ok (.iload_n 3, 1) := by decide +kernel
theorem dX7_spread_59 : decode cX7_spread 59 = .ok (.bipush 10, 2) := by decide +kernel
theorem dX7_spread_61 : decode cX7_spread 61 = .ok (.idiv, 1) := by decide +kernel
theorem dX7_spread_62 : decode cX7_spread 62 = .ok (.istore 4, 2) := by decide +kernel
theorem dX7_spread_64 : decode cX7_spread 64 = .ok (.iload_n 3, 1) := by decide +kernel
theorem dX7_spread_65 : decode cX7_spread 65 = .ok (.bipush 10, 2) := by decide +kernel
theorem dX7_spread_67 : decode cX7_spread 67 = .ok (.irem, 1) := by decide +kernel
theorem dX7_spread_68 : decode cX7_spread 68 = .ok (.istore 5, 2) := by decide +kernel
theorem dX7_spread_70 : decode cX7_spread 70 = .ok (.iconst 0, 1) := by decide +kernel
theorem dX7_spread_71 : decode cX7_spread 71 = .ok (.istore 6, 2) := by decide +kernel
theorem dX7_spread_73 : decode cX7_spread 73 = .ok (.iload 6, 2) := by decide +kernel
theorem dX7_spread_75 : decode cX7_spread 75 = .ok (.aload_n 0, 1) := by decide +kernel
theorem dX7_spread_76 : decode cX7_spread 76 = .ok (.getfield 32, 3) := by decide +kernel
theorem dX7_spread_79 : decode cX7_spread 79 = .ok (.if_icmp .ge 115, 3) := by decide +kernel
theorem dX7_spread_82 : decode cX7_spread 82 = .ok (.iload_n 1, 1) := by decide +kernel
theorem dX7_spread_83 : decode cX7_spread 83 = .ok (.ifCond .eq 111, 3) := by decide +kernel
theorem dX7_spread_86 : decode cX7_spread 86 = .ok (.iload 6, 2) := by decide +kernel
theorem dX7_spread_88 : decode cX7_spread 88 = .ok (.iload 4, 2) := by decide +kernel
theorem dX7_spread_90 : decode cX7_spread 90 = .ok (.if_icmp .eq 98, 3) := by decide +kernel
theorem dX7_spread_93 : decode cX7_spread 93 = .ok (.iload 6, 2) := by decide +kernel
theorem dX7_spread_95 : decode cX7_spread 95 = .ok (.iload 5, 2) := by decide +kernel
theorem dX7_spread_97 : decode cX7_spread 97 = .ok (.if_icmp .eq 91, 3) := by decide +kernel
theorem dX7_spread_100 : decode cX7_spread 100 = .ok (.aload_n 0, 1) := by decide +kernel
theorem dX7_spread_101 : decode cX7_spread 101 = .ok (.iload 4, 2) := by decide +kernel
theorem dX7_spread_103 : decode cX7_spread 103 = .ok (.bipush 10, 2) := by decide +kernel
theorem dX7_spread_105 : decode cX7_spread 105 = .ok (.imul, 1) := by decide +kernel
theorem dX7_spread_106 : decode cX7_spread 106 = .ok (.iload 6, 2) := by decide +kernel
theorem dX7_spread_108 : decode cX7_spread 108 = .ok (.iadd, 1) := by decide +kernel
theorem dX7_spread_109 : decode cX7_spread 109 = .ok (.aload_n 0, 1) := by decide +kernel
theorem dX7_spread_110 : decode cX7_spread 110 = .ok (.getfield 9, 3) := by decide +kernel
theorem dX7_spread_113 : decode cX7_spread 113 = .ok (.aload_n 0, 1) := by decide +kernel
theorem dX7_spread_114 : decode cX7_spread 114 = .ok (.getfield 15, 3) := by decide +kernel
theorem dX7_spread_117 : decode cX7_spread 117 = .ok (.iload_n 3, 1) := by decide +kernel
theorem dX7_spread_118 : decode cX7_spread 118 = .ok (.iaload, 1) := by decide +kernel
theorem dX7_spread_119 : decode cX7_spread 119 = .ok (.aload_n 0, 1) := by decide +kernel
theorem dX7_spread_120 : decode cX7_spread 120 = .ok (.getfield 15, 3) := by decide +kernel
theorem dX7_spread_123 : decode cX7_spread 123 = .ok (.iload 5, 2) := by decide +kernel
theorem dX7_spread_125 : decode cX7_spread 125 = .ok (.bipush 10, 2) := by decide +kernel
theorem dX7_spread_127 : decode cX7_spread 127 = .ok (.imul, 1) := by decide +kernel
theorem dX7_spread_128 : decode cX7_spread 128 = .ok (.iload 6, 2) := by decide +kernel
theorem dX7_spread_130 : decode cX7_spread 130 = .ok (.iadd, 1) := by decide +kernel
theorem dX7_spread_131 : decode cX7_spread 131 = .ok (.iaload, 1) := by decide +kernel
theorem dX7_spread_132 : decode cX7_spread 132 = .ok (.invokevirtual 67, 3) := by decide +kernel
theorem dX7_spread_135 : decode cX7_spread 135 = .ok (.invokevirtual 71, 3) := by decide +kernel
theorem dX7_spread_138 : decode cX7_spread 138 = .ok (.ifCond .eq 48, 3) := by decide +kernel
theorem dX7_spread_141 : decode cX7_spread 141 = .ok (.aload_n 0, 1) := by decide +kernel
theorem dX7_spread_142 : decode cX7_spread 142 = .ok (.iload 6, 2) := by decide +kernel
theorem dX7_spread_144 : decode cX7_spread 144 = .ok (.bipush 10, 2) := by decide +kernel
theorem dX7_spread_146 : decode cX7_spread 146 = .ok (.imul, 1) := by decide +kernel
theorem dX7_spread_147 : decode cX7_spread 147 = .ok (.iload 5, 2) := by decide +kernel
theorem dX7_spread_149 : decode cX7_spread 149 = .ok (.iadd, 1) := by decide +kernel
theorem dX7_spread_150 : decode cX7_spread 150 = .ok (.aload_n 0, 1) := by decide +kernel
theorem dX7_spread_151 : decode cX7_spread 151 = .ok (.getfield 9, 3) := by decide +kernel
theorem dX7_spread_154 : decode cX7_spread 154 = .ok (.aload_n 0, 1) := by decide +kernel
theorem dX7_spread_155 : decode cX7_spread 155 = .ok (.getfield 15, 3) := by decide +kernel
theorem dX7_spread_158 : decode cX7_spread 158 = .ok (.iload 6, 2) := by decide +kernel
theorem dX7_spread_160 : decode cX7_spread 160 = .ok (.bipush 10, 2) := by decide +kernel
theorem dX7_spread_162 : decode cX7_spread 162 = .ok (.imul, 1) := by decide +kernel
theorem dX7_spread_163 : decode cX7_spread 163 = .ok (.iload 4, 2) := by decide +kernel
theorem dX7_spread_165 : decode cX7_spread 165 = .ok (.iadd, 1) := by decide +kernel
theorem dX7_spread_166 : decode cX7_spread 166 = .ok (.iaload, 1) := by decide +kernel
theorem dX7_spread_167 : decode cX7_spread 167 = .ok (.aload_n 0, 1) := by decide +kernel
theorem dX7_spread_168 : decode cX7_spread 168 = .ok (.getfield 15, 3) := by decide +kernel
theorem dX7_spread_171 : decode cX7_spread 171 = .ok (.iload_n 3, 1) := by decide +kernel
theorem dX7_spread_172 : decode cX7_spread 172 = .ok (.iaload, 1) := by decide +kernel
theorem dX7_spread_173 : decode cX7_spread 173 = .ok (.invokevirtual 67, 3) := by decide +kernel
theorem dX7_spread_176 : decode cX7_spread 176 = .ok (.invokevirtual 71, 3) := by decide +kernel
theorem dX7_spread_179 : decode cX7_spread 179 = .ok (.ifCond .eq 7, 3) := by decide +kernel
theorem dX7_spread_182 : decode cX7_spread 182 = .ok (.iconst 1, 1) := by decide +kernel
theorem dX7_spread_183 : decode cX7_spread 183 = .ok (.goto 4, 3) := by decide +kernel
theorem dX7_spread_186 : decode cX7_spread 186 = .ok (.iconst 0, 1) := by decide +kernel
theorem dX7_spread_187 : decode cX7_spread 187 = .ok (.istore_n 1, 1) := by decide +kernel
theorem dX7_spread_188 : decode cX7_spread 188 = .ok (.iinc 6 1, 3) := by decide +kernel
theorem dX7_spread_191 : decode cX7_spread 191 = .ok (.goto (-118), 3) := by decide +kernel
theorem dX7_spread_194 : decode cX7_spread 194 = .ok (.iinc 2 1, 3) := by decide +kernel
theorem dX7_spread_197 : decode cX7_spread 197 = .ok (.goto (-193), 3) := by decide +kernel
theorem dX7_spread_200 : decode cX7_spread 200 = .ok (.iload_n 1, 1) := by decide +kernel
theorem dX7_spread_201 : decode cX7_spread 201 = .ok (.ireturn, 1) := by decide +kernel
theorem dX7_keep_0 : decode cX7_keep 0 = .ok (.aload_n 0, 1) := by decide +kernel
theorem dX7_keep_1 : decode cX7_keep 1 = .ok (.getfield 15, 3) := by decide +kernel
theorem dX7_keep_4 : decode cX7_keep 4 = .ok (.iload_n 1, 1) := by decide +kernel
theorem dX7_keep_5 : decode cX7_keep 5 = .ok (.iaload, 1) := by decide +kernel
theorem dX7_keep_6 : decode cX7_keep 6 = .ok (.istore_n 3, 1) := by decide +kernel
theorem dX7_keep_7 : decode cX7_keep 7 = .ok (.iload_n 3, 1) := by decide +kernel
theorem dX7_keep_8 : decode cX7_keep 8 = .ok (.iload_n 2, 1) := by decide +kernel
theorem dX7_keep_9 : decode cX7_keep 9 = .ok (.iand, 1) := by decide +kernel
theorem dX7_keep_10 : decode cX7_keep 10 = .ok (.istore 4, 2) := by decide +kernel
theorem dX7_keep_12 : decode cX7_keep 12 = .ok (.iload 4, 2) := by decide +kernel
theorem dX7_keep_14 : decode cX7_keep 14 = .ok (.iload_n 3, 1) := by decide +kernel
theorem dX7_keep_15 : decode cX7_keep 15 = .ok (.if_icmp .ne 5, 3) := by decide +kernel
theorem dX7_keep_18 : decode cX7_keep 18 = .ok (.iconst 1, 1) := by decide +kernel
theorem dX7_keep_19 : decode cX7_keep 19 = .ok (.ireturn, 1) := by decide +kernel
theorem dX7_keep_20 : decode cX7_keep 20 = .ok (.aload_n 0, 1) := by decide +kernel
theorem dX7_keep_21 : decode cX7_keep 21 = .ok (.getfield 36, 3) := by decide +kernel
theorem dX7_keep_24 : decode cX7_keep 24 = .ok (.sipush 360, 3) := by decide +kernel
theorem dX7_keep_27 : decode cX7_keep 27 = .ok (.if_icmp .ge 33, 3) := by decide +kernel
theorem dX7_keep_30 : decode cX7_keep 30 = .ok (.aload_n 0, 1) := by decide +kernel
theorem dX7_keep_31 : decode cX7_keep 31 = .ok (.getfield 19, 3) := by decide +kernel
theorem dX7_keep_34 : decode cX7_keep 34 = .ok (.aload_n 0, 1) := by decide +kernel
theorem dX7_keep_35 : decode cX7_keep 35 = .ok (.getfield 36, 3) := by decide +kernel
theorem dX7_keep_38 : decode cX7_keep 38 = .ok (.iload_n 1, 1) := by decide +kernel
theorem dX7_keep_39 : decode cX7_keep 39 = .ok (.iastore, 1) := by decide +kernel
theorem dX7_keep_40 : decode cX7_keep 40 = .ok (.aload_n 0, 1) := by decide +kernel
theorem dX7_keep_41 : decode cX7_keep 41 = .ok (.getfield 22, 3) := by decide +kernel
theorem dX7_keep_44 : decode cX7_keep 44 = .ok (.aload_n 0, 1) := by decide +kernel
theorem dX7_keep_45 : decode cX7_keep 45 = .ok (.getfield 36, 3) := by decide +kernel
theorem dX7_keep_48 : decode cX7_keep 48 = .ok (.iload_n 3, 1) := by decide +kernel
theorem dX7_keep_49 : decode cX7_keep 49 = .ok (.iastore, 1) := by decide +kernel
theorem dX7_keep_50 : decode cX7_keep 50 = .ok (.aload_n 0, 1) := by decide +kernel
theorem dX7_keep_51 : decode cX7_keep 51 = .ok (.dup, 1) := by decide +kernel
theorem dX7_keep_52 : decode cX7_keep 52 = .ok (.getfield 36, 3) := by decide +kernel
theorem dX7_keep_55 : decode cX7_keep 55 = .ok (.iconst 1, 1) := by decide +kernel
theorem dX7_keep_56 : decode cX7_keep 56 = .ok (.iadd, 1) := by decide +kernel
theorem dX7_keep_57 : decode cX7_keep 57 = .ok (.putfield 36, 3) := by decide +kernel
theorem dX7_keep_60 : decode cX7_keep 60 = .ok (.iload_n 1, 1) := by decide +kernel
theorem dX7_keep_61 : decode cX7_keep 61 = .ok (.bipush 10, 2) := by decide +kernel
theorem dX7_keep_63 : decode cX7_keep 63 = .ok (.irem, 1) := by decide +kernel
theorem dX7_keep_64 : decode cX7_keep 64 = .ok (.bipush 10, 2) := by decide +kernel
theorem dX7_keep_66 : decode cX7_keep 66 = .ok (.imul, 1) := by decide +kernel
theorem dX7_keep_67 : decode cX7_keep 67 = .ok (.iload_n 1, 1) := by decide +kernel
theorem dX7_keep_68 : decode cX7_keep 68 = .ok (.bipush 10, 2) := by decide +kernel
theorem dX7_keep_70 : decode cX7_keep 70 = .ok (.idiv, 1) := by decide +kernel
theorem dX7_keep_71 : decode cX7_keep 71 = .ok (.iadd, 1) := by decide +kernel
theorem dX7_keep_72 : decode cX7_keep 72 = .ok (.istore 5, 2) := by decide +kernel
theorem dX7_keep_74 : decode cX7_keep 74 = .ok (.aload_n 0, 1) := by decide +kernel
theorem dX7_keep_75 : decode cX7_keep 75 = .ok (.getfield 15, 3) := by decide +kernel
theorem dX7_keep_78 : decode cX7_keep 78 = .ok (.iload_n 1, 1) := by decide +kernel
theorem dX7_keep_79 : decode cX7_keep 79 = .ok (.iload 4, 2) := by decide +kernel
theorem dX7_keep_81 : decode cX7_keep 81 = .ok (.iastore, 1) := by decide +kernel
theorem dX7_keep_82 : decode cX7_keep 82 = .ok (.aload_n 0, 1) := by decide +kernel
theorem dX7_keep_83 : decode cX7_keep 83 = .ok (.getfield 15, 3) := by decide +kernel
theorem dX7_keep_86 : decode cX7_keep 86 = .ok (.iload 5, 2) := by decide +kernel
theorem dX7_keep_88 : decode cX7_keep 88 = .ok (.aload_n 0, 1) := by decide +kernel
theorem dX7_keep_89 : decode cX7_keep 89 = .ok (.getfield 9, 3) := by decide +kernel
theorem dX7_keep_92 : decode cX7_keep 92 = .ok (.getfield 51, 3) := by decide +kernel
theorem dX7_keep_95 : decode cX7_keep 95 = .ok (.iload 4, 2) := by decide +kernel
theorem dX7_keep_97 : decode cX7_keep 97 = .ok (.iaload, 1) := by decide +kernel
theorem dX7_keep_98 : decode cX7_keep 98 = .ok (.iastore, 1) := by decide +kernel
theorem dX7_keep_99 : decode cX7_keep 99 = .ok (.iload_n 1, 1) := by decide +kernel
theorem dX7_keep_100 : decode cX7_keep 100 = .ok (.iload 5, 2) := by decide +kernel
theorem dX7_keep_102 : decode cX7_keep 102 = .ok (.invokestatic 75, 3) := by decide +kernel
theorem dX7_keep_105 : decode cX7_keep 105 = .ok (.istore 6, 2) := by decide +kernel
theorem dX7_keep_107 : decode cX7_keep 107 = .ok (.iload 4, 2) := by decide +kernel
theorem dX7_keep_109 : decode cX7_keep 109 = .ok (.ifCond .eq 59, 3) := by decide +kernel
theorem dX7_keep_112 : decode cX7_keep 112 = .ok (.aload_n 0, 1) := by decide +kernel
theorem dX7_keep_113 : decode cX7_keep 113 = .ok (.getfield 28, 3) := by decide +kernel
theorem dX7_keep_116 : decode cX7_keep 116 = .ok (.iload 6, 2) := by decide +kernel
theorem dX7_keep_118 : decode cX7_keep 118 = .ok (.baload, 1) := by decide +kernel
theorem dX7_keep_119 : decode cX7_keep 119 = .ok (.ifCond .ne 49, 3) := by decide +kernel
theorem dX7_keep_122 : decode cX7_keep 122 = .ok (.aload_n 0, 1) := by decide +kernel
theorem dX7_keep_123 : decode cX7_keep 123 = .ok (.getfield 48, 3) := by decide +kernel
theorem dX7_keep_126 : decode cX7_keep 126 = .ok (.bipush 45, 2) := by decide +kernel
theorem dX7_keep_128 : decode cX7_keep 128 = .ok (.if_icmp .ge 40, 3) := by decide +kernel
theorem dX7_keep_131 : decode cX7_keep 131 = .ok (.aload_n 0, 1) := by decide +kernel
theorem dX7_keep_132 : decode cX7_keep 132 = .ok (.getfield 25, 3) := by decide +kernel
theorem dX7_keep_135 : decode cX7_keep 135 = .ok (.aload_n 0, 1) := by decide +kernel
theorem dX7_keep_136 : decode cX7_keep 136 = .ok (.getfield 45, 3) := by decide +kernel
theorem dX7_keep_139 : decode cX7_keep 139 = .ok (.aload_n 0, 1) := by decide +kernel
theorem dX7_keep_140 : decode cX7_keep 140 = .ok (.getfield 48, 3) := by decide +kernel
theorem dX7_keep_143 : decode cX7_keep 143 = .ok (.iadd, 1) := by decide +kernel
theorem dX7_keep_144 : decode cX7_keep 144 = .ok (.bipush 45, 2) := by decide +kernel
theorem dX7_keep_146 : decode cX7_keep 146 = .ok (.irem, 1) := by decide +kernel
theorem dX7_keep_147 : decode cX7_keep 147 = .ok (.iload 6, 2) := by decide +kernel
theorem dX7_keep_149 : decode cX7_keep 149 = .ok (.iastore, 1) := by decide +kernel
theorem dX7_keep_150 : decode cX7_keep 150 = .ok (.aload_n 0, 1) := by decide +kernel
theorem dX7_keep_151 : decode cX7_keep 151 = .ok (.getfield 28, 3) := by decide +kernel
theorem dX7_keep_154 : decode cX7_keep 154 = .ok (.iload 6, 2) := by decide +kernel
theorem dX7_keep_156 : decode cX7_keep 156 = .ok (.iconst 1, 1) := by decide +kernel
theorem dX7_keep_157 : decode cX7_keep 157 = .ok (.bastore, 1) := by decide +kernel
theorem dX7_keep_158 : decode cX7_keep 158 = .ok (.aload_n 0, 1) := by decide +kernel
theorem dX7_keep_159 : decode cX7_keep 159 = .ok (.dup, 1) := by decide +kernel
theorem dX7_keep_160 : decode cX7_keep 160 = .ok (.getfield 48, 3) := by decide +kernel
theorem dX7_keep_163 : decode cX7_keep 163 = .ok (.iconst 1, 1) := by decide +kernel
theorem dX7_keep_164 : decode cX7_keep 164 = .ok (.iadd, 1) := by decide +kernel
theorem dX7_keep_165 : decode cX7_keep 165 = .ok (.putfield 48, 3) := by decide +kernel
theorem dX7_keep_168 : decode cX7_keep 168 = .ok (.iload 4, 2) := by decide +kernel
theorem dX7_keep_170 : decode cX7_keep 170 = .ok (.ifCond .eq 7, 3) := by decide +kernel
theorem dX7_keep_173 : decode cX7_keep 173 = .ok (.iconst 1, 1) := by decide +kernel
theorem dX7_keep_174 : decode cX7_keep 174 = .ok (.goto 4, 3) := by decide +kernel
theorem dX7_keep_177 : decode cX7_keep 177 = .ok (.iconst 0, 1) := by decide +kernel
theorem dX7_keep_178 : decode cX7_keep 178 = .ok (.ireturn, 1) := by decide +kernel
theorem dX7_takeBack_0 : decode cX7_takeBack 0 = .ok (.aload_n 0, 1) := by decide +kernel
theorem dX7_takeBack_1 : decode cX7_takeBack 1 = .ok (.getfield 36, 3) := by decide +kernel
theorem dX7_takeBack_4 : decode cX7_takeBack 4 = .ok (.iconst 1, 1) := by decide +kernel
theorem dX7_takeBack_5 : decode cX7_takeBack 5 = .ok (.isub, 1) := by decide +kernel
theorem dX7_takeBack_6 : decode cX7_takeBack 6 = .ok (.istore_n 2, 1) := by decide +kernel
theorem dX7_takeBack_7 : decode cX7_takeBack 7 = .ok (.iload_n 2, 1) := by decide +kernel
theorem dX7_takeBack_8 : decode cX7_takeBack 8 = .ok (.iload_n 1, 1) := by decide +kernel
theorem dX7_takeBack_9 : decode cX7_takeBack 9 = .ok (.if_icmp .lt 59, 3) := by decide +kernel
theorem dX7_takeBack_12 : decode cX7_takeBack 12 = .ok (.aload_n 0, 1) := by decide +kernel
theorem dX7_takeBack_13 : decode cX7_takeBack 13 = .ok (.getfield 19, 3) := by decide +kernel
theorem dX7_takeBack_16 : decode cX7_takeBack 16 = .ok (.iload_n 2, 1) := by decide +kernel
theorem dX7_takeBack_17 : decode cX7_takeBack 17 = .ok (.iaload, 1) := by decide +kernel
theorem dX7_takeBack_18 : decode cX7_takeBack 18 = .ok (.istore_n 3, 1) := by decide +kernel
theorem dX7_takeBack_19 : decode cX7_takeBack 19 = .ok (.aload_n 0, 1) := by decide +kernel
theorem dX7_takeBack_20 : decode cX7_takeBack 20 = .ok (.getfield 15, 3) := by decide +kernel
theorem dX7_takeBack_23 : decode cX7_takeBack 23 = .ok (.iload_n 3, 1) := by decide +kernel
theorem dX7_takeBack_24 : decode cX7_takeBack 24 = .ok (.aload_n 0, 1) := by decide +kernel
theorem dX7_takeBack_25 : decode cX7_takeBack 25 = .ok (.getfield 22, 3) := by decide +kernel
theorem dX7_takeBack_28 : decode cX7_takeBack 28 = .ok (.iload_n 2, 1) := by decide +kernel
theorem dX7_takeBack_29 : decode cX7_takeBack 29 = .ok (.iaload, 1) := by decide +kernel
theorem dX7_takeBack_30 : decode cX7_takeBack 30 = .ok (.iastore, 1) := by decide +kernel
theorem dX7_takeBack_31 : decode cX7_takeBack 31 = .ok (.aload_n 0, 1) := by decide +kernel
theorem dX7_takeBack_32 : decode cX7_takeBack 32 = .ok (.getfield 15, 3) := by decide +kernel
theorem dX7_takeBack_35 : decode cX7_takeBack 35 = .ok (.iload_n 3, 1) := by decide +kernel
theorem dX7_takeBack_36 : decode cX7_takeBack 36 = .ok (.bipush 10, 2) := by decide +kernel
theorem dX7_takeBack_38 : decode cX7_takeBack 38 = .ok (.irem, 1) := by decide +kernel
theorem dX7_takeBack_39 : decode cX7_takeBack 39 = .ok (.bipush 10, 2) := by decide +kernel
theorem dX7_takeBack_41 : decode cX7_takeBack 41 = .ok (.imul, 1) := by decide +kernel
theorem dX7_takeBack_42 : decode cX7_takeBack 42 = .ok (.iload_n 3, 1) := by decide +kernel
theorem dX7_takeBack_43 : decode cX7_takeBack 43 = .ok (.bipush 10, 2) := by decide +kernel
theorem dX7_takeBack_45 : decode cX7_takeBack 45 = .ok (.idiv, 1) := by decide +kernel
theorem dX7_takeBack_46 : decode cX7_takeBack 46 = .ok (.iadd, 1) := by decide +kernel
theorem dX7_takeBack_47 : decode cX7_takeBack 47 = .ok (.aload_n 0, 1) := by decide +kernel
theorem dX7_takeBack_48 : decode cX7_takeBack 48 = .ok (.getfield 9, 3) := by decide +kernel
theorem dX7_takeBack_51 : decode cX7_takeBack 51 = .ok (.getfield 51, 3) := by decide +kernel
theorem dX7_takeBack_54 : decode cX7_takeBack 54 = .ok (.aload_n 0, 1) := by decide +kernel
theorem dX7_takeBack_55 : decode cX7_takeBack 55 = .ok (.getfield 22, 3) := by decide +kernel
theorem dX7_takeBack_58 : decode cX7_takeBack 58 = .ok (.iload_n 2, 1) := by decide +kernel
theorem dX7_takeBack_59 : decode cX7_takeBack 59 = .ok (.iaload, 1) := by decide +kernel
theorem dX7_takeBack_60 : decode cX7_takeBack 60 = .ok (.iaload, 1) := by decide +kernel
theorem dX7_takeBack_61 : decode cX7_takeBack 61 = .ok (.iastore, 1) := by decide +kernel
theorem dX7_takeBack_62 : decode cX7_takeBack 62 = .ok (.iinc 2 (-1), 3) := by decide +kernel
theorem dX7_takeBack_65 : decode cX7_takeBack 65 = .ok (.goto (-58), 3) := by decide +kernel
theorem dX7_takeBack_68 : decode cX7_takeBack 68 = .ok (.aload_n 0, 1) := by decide +kernel
theorem dX7_takeBack_69 : decode cX7_takeBack 69 = .ok (.aload_n 0, 1) := by decide +kernel
theorem dX7_takeBack_70 : decode cX7_takeBack 70 = .ok (.getfield 36, 3) := by decide +kernel
theorem dX7_takeBack_73 : decode cX7_takeBack 73 = .ok (.iload_n 1, 1) := by decide +kernel
theorem dX7_takeBack_74 : decode cX7_takeBack 74 = .ok (.invokestatic 75, 3) := by decide +kernel
theorem dX7_takeBack_77 : decode cX7_takeBack 77 = .ok (.putfield 36, 3) := by decide +kernel
theorem dX7_takeBack_80 : decode cX7_takeBack 80 = .ok (.return_, 1) := by decide +kernel
theorem dX8_init_0 : decode cX8_init 0 = .ok (.aload_n 0, 1) := by decide +kernel
theorem dX8_init_1 : decode cX8_init 1 = .ok (.invokespecial 3, 3) := by decide +kernel
theorem dX8_init_4 : decode cX8_init 4 = .ok (.aload_n 0, 1) := by decide +kernel
theorem dX8_init_5 : decode cX8_init 5 = .ok (.iconst (-1), 1) := by decide +kernel
theorem dX8_init_6 : decode cX8_init 6 = .ok (.putfield 9, 3) := by decide +kernel
theorem dX8_init_9 : decode cX8_init 9 = .ok (.aload_n 0, 1) := by decide +kernel
theorem dX8_init_10 : decode cX8_init 10 = .ok (.iconst 0, 1) := by decide +kernel
theorem dX8_init_11 : decode cX8_init 11 = .ok (.putfield 15, 3) := by decide +kernel
theorem dX8_init_14 : decode cX8_init 14 = .ok (.aload_n 0, 1) := by decide +kernel
theorem dX8_init_15 : decode cX8_init 15 = .ok (.iconst (-1), 1) := by decide +kernel
theorem dX8_init_16 : decode cX8_init 16 = .ok (.putfield 18, 3) := by decide +kernel
theorem dX8_init_19 : decode cX8_init 19 = .ok (.aload_n 0, 1) := by decide +kernel
theorem dX8_init_20 : decode cX8_init 20 = .ok (.bipush 64, 2) := by decide +kernel
theorem dX8_init_22 : decode cX8_init 22 = .ok (.newarray .long, 2) := by decide +kernel
theorem dX8_init_24 : decode cX8_init 24 = .ok (.putfield 21, 3) := by decide +kernel
theorem dX8_init_27 : decode cX8_init 27 = .ok (.return_, 1) := by decide +kernel
theorem dX8_hasRow_0 : decode cX8_hasRow 0 = .ok (.aload_n 0, 1) := by decide +kernel
theorem dX8_hasRow_1 : decode cX8_hasRow 1 = .ok (.getfield 9, 3) := by decide +kernel
theorem dX8_hasRow_4 : decode cX8_hasRow 4 = .ok (.iconst (-1), 1) := by decide +kernel
theorem dX8_hasRow_5 : decode cX8_hasRow 5 = .ok (.if_icmp .eq 7, 3) := by decide +kernel
theorem dX8_hasRow_8 : decode cX8_hasRow 8 = .ok (.iconst 1, 1) := by decide +kernel
theorem dX8_hasRow_9 : decode cX8_hasRow 9 = .ok (.goto 4, 3) := by decide +kernel
theorem dX8_hasRow_12 : decode cX8_hasRow 12 = .ok (.iconst 0, 1) := by decide +kernel
theorem dX8_hasRow_13 : decode cX8_hasRow 13 = .ok (.ireturn, 1) := by decide +kernel
theorem dX8_hasField_0 : decode cX8_hasField 0 = .ok (.aload_n 0, 1) := by decide +kernel
theorem dX8_hasField_1 : decode cX8_hasField 1 = .ok (.getfield 18, 3) := by decide +kernel
theorem dX8_hasField_4 : decode cX8_hasField 4 = .ok (.iconst (-1), 1) := by decide +kernel
theorem dX8_hasField_5 : decode cX8_hasField 5 = .ok (.if_icmp .eq 7, 3) := by decide +kernel
theorem dX8_hasField_8 : decode cX8_hasField 8 = .ok (.iconst 1, 1) := by decide +kernel
theorem dX8_hasField_9 : decode cX8_hasField 9 = .ok (.goto 4, 3) := by decide +kernel
theorem dX8_hasField_12 : decode cX8_hasField 12 = .ok (.iconst 0, 1) := by decide +kernel
theorem dX8_hasField_13 : decode cX8_hasField 13 = .ok (.ireturn, 1) := by decide +kernel
theorem dX8_hasPart_0 : decode cX8_hasPart 0 = .ok (.iload_n 1, 1) := by decide +kernel
theorem dX8_hasPart_1 : decode cX8_hasPart 1 = .ok (.ifCond .lt 29, 3) := by decide +kernel
theorem dX8_hasPart_4 : decode cX8_hasPart 4 = .ok (.iload_n 2, 1) := by decide +kernel
theorem dX8_hasPart_5 : decode cX8_hasPart 5 = .ok (.ifCond .lt 25, 3) := by decide +kernel
theorem dX8_hasPart_8 : decode cX8_hasPart 8 = .ok (.iload_n 1, 1) := by decide +kernel
theorem dX8_hasPart_9 : decode cX8_hasPart 9 = .ok (.aload_n 0, 1) := by decide +kernel
theorem dX8_hasPart_10 : decode cX8_hasPart 10 = .ok (.getfield 15, 3) := by decide +kernel
theorem dX8_hasPart_13 : decode cX8_hasPart 13 = .ok (.if_icmp .gt 17, 3) := by decide +kernel
theorem dX8_hasPart_16 : decode cX8_hasPart 16 = .ok (.iload_n 2, 1) := by decide +kernel
theorem dX8_hasPart_17 : decode cX8_hasPart 17 = .ok (.aload_n 0, 1) := by decide +kernel
theorem dX8_hasPart_18 : decode cX8_hasPart 18 = .ok (.getfield 15, 3) := by decide +kernel
theorem dX8_hasPart_21 : decode cX8_hasPart 21 = .ok (.iload_n 1, 1) := by decide +kernel
theorem dX8_hasPart_22 : decode cX8_hasPart 22 = .ok (.isub, 1) := by decide +kernel
theorem dX8_hasPart_23 : decode cX8_hasPart 23 = .ok (.if_icmp .gt 7, 3) := by decide +kernel
theorem dX8_hasPart_26 : decode cX8_hasPart 26 = .ok (.iconst 1, 1) := by decide +kernel
theorem dX8_hasPart_27 : decode cX8_hasPart 27 = .ok (.goto 4, 3) := by decide +kernel
theorem dX8_hasPart_30 : decode cX8_hasPart 30 = .ok (.iconst 0, 1) := by decide +kernel
theorem dX8_hasPart_31 : decode cX8_hasPart 31 = .ok (.ireturn, 1) := by decide +kernel
theorem dX8_holdRow_0 : decode cX8_holdRow 0 = .ok (.aload_n 0, 1) := by decide +kernel
theorem dX8_holdRow_1 : decode cX8_holdRow 1 = .ok (.iconst (-1), 1) := by decide +kernel
theorem dX8_holdRow_2 : decode cX8_holdRow 2 = .ok (.putfield 18, 3) := by decide +kernel
theorem dX8_holdRow_5 : decode cX8_holdRow 5 = .ok (.aload_n 0, 1) := by decide +kernel
theorem dX8_holdRow_6 : decode cX8_holdRow 6 = .ok (.iload_n 1, 1) := by decide +kernel
theorem dX8_holdRow_7 : decode cX8_holdRow 7 = .ok (.putfield 9, 3) := by decide +kernel
theorem dX8_holdRow_10 : decode cX8_holdRow 10 = .ok (.aload_n 0, 1) := by decide +kernel
theorem dX8_holdRow_11 : decode cX8_holdRow 11 = .ok (.iload_n 2, 1) := by decide +kernel
theorem dX8_holdRow_12 : decode cX8_holdRow 12 = .ok (.putfield 15, 3) := by decide +kernel
theorem dX8_holdRow_15 : decode cX8_holdRow 15 = .ok (.iconst 0, 1) := by decide +kernel
theorem dX8_holdRow_16 : decode cX8_holdRow 16 = .ok (.istore_n 3, 1) := by decide +kernel
theorem dX8_holdRow_17 : decode cX8_holdRow 17 = .ok (.iload_n 3, 1) := by decide +kernel
theorem dX8_holdRow_18 : decode cX8_holdRow 18 = .ok (.bipush 64, 2) := by decide +kernel
theorem dX8_holdRow_20 : decode cX8_holdRow 20 = .ok (.if_icmp .ge 16, 3) := by decide +kernel
theorem dX8_holdRow_23 : decode cX8_holdRow 23 = .ok (.aload_n 0, 1) := by decide +kernel
theorem dX8_holdRow_24 : decode cX8_holdRow 24 = .ok (.getfield 21, 3) := by decide +kernel
theorem dX8_holdRow_27 : decode cX8_holdRow 27 = .ok (.iload_n 3, 1) := by decide +kernel
theorem dX8_holdRow_28 : decode cX8_holdRow 28 = .ok (.lconst 0, 1) := by decide +kernel
theorem dX8_holdRow_29 : decode cX8_holdRow 29 = .ok (.lastore, 1) := by decide +kernel
theorem dX8_holdRow_30 : decode cX8_holdRow 30 = .ok (.iinc 3 1, 3) := by decide +kernel
theorem dX8_holdRow_33 : decode cX8_holdRow 33 = .ok (.goto (-16), 3) := by decide +kernel
theorem dX8_holdRow_36 : decode cX8_holdRow 36 = .ok (.return_, 1) := by decide +kernel
theorem dX8_holdField_0 : decode cX8_holdField 0 = .ok (.aload_n 0, 1) := by decide +kernel
theorem dX8_holdField_1 : decode cX8_holdField 1 = .ok (.iconst (-1), 1) := by decide +kernel
theorem dX8_holdField_2 : decode cX8_holdField 2 = .ok (.putfield 9, 3) := by decide +kernel
theorem dX8_holdField_5 : decode cX8_holdField 5 = .ok (.aload_n 0, 1) := by decide +kernel
theorem dX8_holdField_6 : decode cX8_holdField 6 = .ok (.iconst 0, 1) := by decide +kernel
theorem dX8_holdField_7 : decode cX8_holdField 7 = .ok (.putfield 15, 3) := by decide +kernel
theorem dX8_holdField_10 : decode cX8_holdField 10 = .ok (.aload_n 0, 1) := by decide +kernel
theorem dX8_holdField_11 : decode cX8_holdField 11 = .ok (.iload_n 1, 1) := by decide +kernel
theorem dX8_holdField_12 : decode cX8_holdField 12 = .ok (.putfield 18, 3) := by decide +kernel
theorem dX8_holdField_15 : decode cX8_holdField 15 = .ok (.return_, 1) := by decide +kernel
theorem dX8_put_0 : decode cX8_put 0 = .ok (.aload_n 0, 1) := by decide +kernel
theorem dX8_put_1 : decode cX8_put 1 = .ok (.getfield 21, 3) := by decide +kernel
theorem dX8_put_4 : decode cX8_put 4 = .ok (.iload_n 1, 1) := by decide +kernel
theorem dX8_put_5 : decode cX8_put 5 = .ok (.aload_n 0, 1) := by decide +kernel
theorem dX8_put_6 : decode cX8_put 6 = .ok (.lload_n 2, 1) := by decide +kernel
theorem dX8_put_7 : decode cX8_put 7 = .ok (.invokevirtual 25, 3) := by decide +kernel
theorem dX8_put_10 : decode cX8_put 10 = .ok (.lastore, 1) := by decide +kernel
theorem dX8_put_11 : decode cX8_put 11 = .ok (.return_, 1) := by decide +kernel
theorem dX8_cut_0 : decode cX8_cut 0 = .ok (.aload_n 0, 1) := by decide +kernel
theorem dX8_cut_1 : decode cX8_cut 1 = .ok (.getfield 9, 3) := by decide +kernel
theorem dX8_cut_4 : decode cX8_cut 4 = .ok (.tableswitch 48 0 3 #[32, 37, 42, 46], 32) := by decide +kernel
theorem dX8_cut_36 : decode cX8_cut 36 = .ok (.lload_n 1, 1) := by decide +kernel
theorem dX8_cut_37 : decode cX8_cut 37 = .ok (.l2i, 1) := by decide +kernel
theorem dX8_cut_38 : decode cX8_cut 38 = .ok (.i2b, 1) := by decide +kernel
theorem dX8_cut_39 : decode cX8_cut 39 = .ok (.i2l, 1) := by decide +kernel
theorem dX8_cut_40 : decode cX8_cut 40 = .ok (.lreturn, 1) := by decide +kernel
theorem dX8_cut_41 : decode cX8_cut 41 = .ok (.lload_n 1, 1) := by decide +kernel
theorem dX8_cut_42 : decode cX8_cut 42 = .ok (.l2i, 1) := by decide +kernel
theorem dX8_cut_43 : decode cX8_cut 43 = .ok (.i2s, 1) := by decide +kernel
theorem dX8_cut_44 : decode cX8_cut 44 = .ok (.i2l, 1) := by decide +kernel
theorem dX8_cut_45 : decode cX8_cut 45 = .ok (.lreturn, 1) := by decide +kernel
theorem dX8_cut_46 : decode cX8_cut 46 = .ok (.lload_n 1, 1) := by decide +kernel
theorem dX8_cut_47 : decode cX8_cut 47 = .ok (.l2i, 1) := by decide +kernel
theorem dX8_cut_48 : decode cX8_cut 48 = .ok (.i2l, 1) := by decide +kernel
theorem dX8_cut_49 : decode cX8_cut 49 = .ok (.lreturn, 1) := by decide +kernel
theorem dX8_cut_50 : decode cX8_cut 50 = .ok (.lload_n 1, 1) := by decide +kernel
theorem dX8_cut_51 : decode cX8_cut 51 = .ok (.lreturn, 1) := by decide +kernel
theorem dX8_cut_52 : decode cX8_cut 52 = .ok (.lload_n 1, 1) := by decide +kernel
theorem dX8_cut_53 : decode cX8_cut 53 = .ok (.lconst 0, 1) := by decide +kernel
theorem dX8_cut_54 : decode cX8_cut 54 = .ok (.lcmp, 1) := by decide +kernel
theorem dX8_cut_55 : decode cX8_cut 55 = .ok (.ifCond .eq 7, 3) := by decide +kernel
theorem dX8_cut_58 : decode cX8_cut 58 = .ok (.lconst 1, 1) := by decide +kernel
theorem dX8_cut_59 : decode cX8_cut 59 = .ok (.goto 4, 3) := by decide +kernel
theorem dX8_cut_62 : decode cX8_cut 62 = .ok (.lconst 0, 1) := by decide +kernel
theorem dX8_cut_63 : decode cX8_cut 63 = .ok (.lreturn, 1) := by decide +kernel
theorem dX8_cells_0 : decode cX8_cells 0 = .ok (.lconst 0, 1) := by decide +kernel
theorem dX8_cells_1 : decode cX8_cells 1 = .ok (.lstore_n 1, 1) := by decide +kernel
theorem dX8_cells_2 : decode cX8_cells 2 = .ok (.iconst 0, 1) := by decide +kernel
theorem dX8_cells_3 : decode cX8_cells 3 = .ok (.istore_n 3, 1) := by decide +kernel
theorem dX8_cells_4 : decode cX8_cells 4 = .ok (.iload_n 3, 1) := by decide +kernel
theorem dX8_cells_5 : decode cX8_cells 5 = .ok (.aload_n 0, 1) := by decide +kernel
theorem dX8_cells_6 : decode cX8_cells 6 = .ok (.getfield 15, 3) := by decide +kernel
theorem dX8_cells_9 : decode cX8_cells 9 = .ok (.if_icmp .ge 26, 3) := by decide +kernel
theorem dX8_cells_12 : decode cX8_cells 12 = .ok (.aload_n 0, 1) := by decide +kernel
theorem dX8_cells_13 : decode cX8_cells 13 = .ok (.getfield 21, 3) := by decide +kernel
theorem dX8_cells_16 : decode cX8_cells 16 = .ok (.iload_n 3, 1) := by decide +kernel
theorem dX8_cells_17 : decode cX8_cells 17 = .ok (.laload, 1) := by decide +kernel
theorem dX8_cells_18 : decode cX8_cells 18 = .ok (.lconst 0, 1) := by decide +kernel
theorem dX8_cells_19 : decode cX8_cells 19 = .ok (.lcmp, 1) := by decide +kernel
theorem dX8_cells_20 : decode cX8_cells 20 = .ok (.ifCond .eq 9, 3) := by decide +kernel
theorem dX8_cells_23 : decode cX8_cells 23 = .ok (.lload_n 1, 1) := by decide +kernel
theorem dX8_cells_24 : decode cX8_cells 24 = .ok (.lconst 1, 1) := by decide +kernel
theorem dX8_cells_25 : decode cX8_cells 25 = .ok (.iload_n 3, 1) := by decide +kernel
theorem dX8_cells_26 : decode cX8_cells 26 = .ok (.lshl, 1) := by decide +kernel
theorem dX8_cells_27 : decode cX8_cells 27 = .ok (.lor, 1) := by decide +kernel
theorem dX8_cells_28 : decode cX8_cells 28 = .ok (.lstore_n 1, 1) := by decide +kernel
theorem dX8_cells_29 : decode cX8_cells 29 = .ok (.iinc 3 1, 3) := by decide +kernel
theorem dX8_cells_32 : decode cX8_cells 32 = .ok (.goto (-28), 3) := by decide +kernel
theorem dX8_cells_35 : decode cX8_cells 35 = .ok (.lload_n 1, 1) := by decide +kernel
theorem dX8_cells_36 : decode cX8_cells 36 = .ok (.lreturn, 1) := by decide +kernel
theorem dX9_init_0 : decode cX9_init 0 = .ok (.aload_n 0, 1) := by decide +kernel
theorem dX9_init_1 : decode cX9_init 1 = .ok (.invokespecial 3, 3) := by decide +kernel
theorem dX9_init_4 : decode cX9_init 4 = .ok (.aload_n 0, 1) := by decide +kernel
theorem dX9_init_5 : decode cX9_init 5 = .ok (.iconst 0, 1) := by decide +kernel
theorem dX9_init_6 : decode cX9_init 6 = .ok (.putfield 9, 3) := by decide +kernel
theorem dX9_init_9 : decode cX9_init 9 = .ok (.aload_n 0, 1) := by decide +kernel
theorem dX9_init_10 : decode cX9_init 10 = .ok (.bipush 80, 2) := by decide +kernel
theorem dX9_init_12 : decode cX9_init 12 = .ok (.newarray .byte, 2) := by decide +kernel
theorem dX9_init_14 : decode cX9_init 14 = .ok (.putfield 15, 3) := by decide +kernel
theorem dX9_init_17 : decode cX9_init 17 = .ok (.return_, 1) := by decide +kernel
theorem dX9_add_0 : decode cX9_add 0 = .ok (.aload_n 0, 1) := by decide +kernel
theorem dX9_add_1 : decode cX9_add 1 = .ok (.getfield 9, 3) := by decide +kernel
theorem dX9_add_4 : decode cX9_add 4 = .ok (.bipush 80, 2) := by decide +kernel
theorem dX9_add_6 : decode cX9_add 6 = .ok (.if_icmp .ge 24, 3) := by decide +kernel
theorem dX9_add_9 : decode cX9_add 9 = .ok (.aload_n 0, 1) := by decide +kernel
theorem dX9_add_10 : decode cX9_add 10 = .ok (.getfield 15, 3) := by decide +kernel
theorem dX9_add_13 : decode cX9_add 13 = .ok (.aload_n 0, 1) := by decide +kernel
theorem dX9_add_14 : decode cX9_add 14 = .ok (.getfield 9, 3) := by decide +kernel
theorem dX9_add_17 : decode cX9_add 17 = .ok (.iload_n 1, 1) := by decide +kernel
theorem dX9_add_18 : decode cX9_add 18 = .ok (.i2b, 1) := by decide +kernel
theorem dX9_add_19 : decode cX9_add 19 = .ok (.bastore, 1) := by decide +kernel
theorem dX9_add_20 : decode cX9_add 20 = .ok (.aload_n 0, 1) := by decide +kernel
theorem dX9_add_21 : decode cX9_add 21 = .ok (.dup, 1) := by decide +kernel
theorem dX9_add_22 : decode cX9_add 22 = .ok (.getfield 9, 3) := by decide +kernel
theorem dX9_add_25 : decode cX9_add 25 = .ok (.iconst 1, 1) := by decide +kernel
theorem dX9_add_26 : decode cX9_add 26 = .ok (.iadd, 1) := by decide +kernel
theorem dX9_add_27 : decode cX9_add 27 = .ok (.putfield 9, 3) := by decide +kernel
theorem dX9_add_30 : decode cX9_add 30 = .ok (.return_, 1) := by decide +kernel
theorem dX9_read_0 : decode cX9_read 0 = .ok (.aload_n 1, 1) := by decide +kernel
theorem dX9_read_1 : decode cX9_read 1 = .ok (.invokevirtual 19, 3) := by decide +kernel
theorem dX9_read_4 : decode cX9_read 4 = .ok (.aload_n 0, 1) := by decide +kernel
theorem dX9_read_5 : decode cX9_read 5 = .ok (.iconst 0, 1) := by decide +kernel
theorem dX9_read_6 : decode cX9_read 6 = .ok (.putfield 24, 3) := by decide +kernel
theorem dX9_read_9 : decode cX9_read 9 = .ok (.aload_n 0, 1) := by decide +kernel
theorem dX9_read_10 : decode cX9_read 10 = .ok (.invokevirtual 27, 3) := by decide +kernel
theorem dX9_read_13 : decode cX9_read 13 = .ok (.aload_n 1, 1) := by decide +kernel
theorem dX9_read_14 : decode cX9_read 14 = .ok (.aload_n 0, 1) := by decide +kernel
theorem dX9_read_15 : decode cX9_read 15 = .ok (.iconst 0, 1) := by decide +kernel
theorem dX9_read_16 : decode cX9_read 16 = .ok (.iload_n 2, 1) := by decide +kernel
theorem dX9_read_17 : decode cX9_read 17 = .ok (.iconst 1, 1) := by decide +kernel
theorem dX9_read_18 : decode cX9_read 18 = .ok (.isub, 1) := by decide +kernel
theorem dX9_read_19 : decode cX9_read 19 = .ok (.invokevirtual 30, 3) := by decide +kernel
theorem dX9_read_22 : decode cX9_read 22 = .ok (.putfield 34, 3) := by decide +kernel
theorem dX9_read_25 : decode cX9_read 25 = .ok (.aload_n 1, 1) := by decide +kernel
theorem dX9_read_26 : decode cX9_read 26 = .ok (.getfield 34, 3) := by decide +kernel
theorem dX9_read_29 : decode cX9_read 29 = .ok (.iconst (-1), 1) := by decide +kernel
theorem dX9_read_30 : decode cX9_read 30 = .ok (.if_icmp .eq 40, 3) := by decide +kernel
theorem dX9_read_33 : decode cX9_read 33 = .ok (.aload_n 0, 1) := by decide +kernel
theorem dX9_read_34 : decode cX9_read 34 = .ok (.aload_n 1, 1) := by decide +kernel
theorem dX9_read_35 : decode cX9_read 35 = .ok (.invokevirtual 37, 3) := by decide +kernel
theorem dX9_read_38 : decode cX9_read 38 = .ok (.ifCond .eq 32, 3) := by decide +kernel
theorem dX9_read_41 : decode cX9_read 41 = .ok (.aload_n 0, 1) := by decide +kernel
theorem dX9_read_42 : decode cX9_read 42 = .ok (.aload_n 1, 1) := by decide +kernel
theorem dX9_read_43 : decode cX9_read 43 = .ok (.iload_n 2, 1) := by decide +kernel
theorem dX9_read_44 : decode cX9_read 44 = .ok (.invokevirtual 41, 3) := by decide +kernel
theorem dX9_read_47 : decode cX9_read 47 = .ok (.ifCond .eq 23, 3) := by decide +kernel
theorem dX9_read_50 : decode cX9_read 50 = .ok (.aload_n 0, 1) := by decide +kernel
theorem dX9_read_51 : decode cX9_read 51 = .ok (.aload_n 1, 1) := by decide +kernel
theorem dX9_read_52 : decode cX9_read 52 = .ok (.invokevirtual 45, 3) := by decide +kernel
theorem dX9_read_55 : decode cX9_read 55 = .ok (.ifCond .eq 15, 3) := by decide +kernel
theorem dX9_read_58 : decode cX9_read 58 = .ok (.aload_n 0, 1) := by decide +kernel
theorem dX9_read_59 : decode cX9_read 59 = .ok (.aload_n 1, 1) := by decide +kernel
theorem dX9_read_60 : decode cX9_read 60 = .ok (.invokevirtual 48, 3) := by decide +kernel
theorem dX9_read_63 : decode cX9_read 63 = .ok (.ifCond .eq 7, 3) := by decide +kernel
theorem dX9_read_66 : decode cX9_read 66 = .ok (.iconst 1, 1) := by decide +kernel
theorem dX9_read_67 : decode cX9_read 67 = .ok (.goto 4, 3) := by decide +kernel
theorem dX9_read_70 : decode cX9_read 70 = .ok (.iconst 0, 1) := by decide +kernel
theorem dX9_read_71 : decode cX9_read 71 = .ok (.istore_n 3, 1) := by decide +kernel
theorem dX9_read_72 : decode cX9_read 72 = .ok (.iload_n 3, 1) := by decide +kernel
theorem dX9_read_73 : decode cX9_read 73 = .ok (.ifCond .eq 14, 3) := by decide +kernel
theorem dX9_read_76 : decode cX9_read 76 = .ok (.aload_n 0, 1) := by decide +kernel
theorem dX9_read_77 : decode cX9_read 77 = .ok (.getfield 51, 3) := by decide +kernel
theorem dX9_read_80 : decode cX9_read 80 = .ok (.ifCond .ne 7, 3) := by decide +kernel
theorem dX9_read_83 : decode cX9_read 83 = .ok (.iconst (-1), 1) := by decide +kernel
theorem dX9_read_84 : decode cX9_read 84 = .ok (.goto 7, 3) := by decide +kernel
theorem dX9_read_87 : decode cX9_read 87 = .ok (.aload_n 0, 1) := by decide +kernel
theorem dX9_read_88 : decode cX9_read 88 = .ok (.getfield 54, 3) := by decide +kernel
theorem dX9_read_91 : decode cX9_read 91 = .ok (.ireturn, 1) := by decide +kernel
theorem dX9_readSecond_0 : decode cX9_readSecond 0 = .ok (.aload_n 0, 1) := by decide +kernel
theorem dX9_readSecond_1 : decode cX9_readSecond 1 = .ok (.getfield 51, 3) := by decide +kernel
theorem dX9_readSecond_4 : decode cX9_readSecond 4 = .ok (.iconst 2, 1) := by decide +kernel
theorem dX9_readSecond_5 : decode cX9_readSecond 5 = .ok (.if_icmp .ne 16, 3) := by decide +kernel
theorem dX9_readSecond_8 : decode cX9_readSecond 8 = .ok (.aload_n 0, 1) := by decide +kernel
theorem dX9_readSecond_9 : decode cX9_readSecond 9 = .ok (.getfield 57, 3) := by decide +kernel
theorem dX9_readSecond_12 : decode cX9_readSecond 12 = .ok (.aload_n 1, 1) := by decide +kernel
theorem dX9_readSecond_13 : decode cX9_readSecond 13 = .ok (.getfield 34, 3) := by decide +kernel
theorem dX9_readSecond_16 : decode cX9_readSecond 16 = .ok (.if_icmp .ne 5, 3) := by decide +kernel
theorem dX9_readSecond_19 : decode cX9_readSecond 19 = .ok (.iconst 0, 1) := by decide +kernel
theorem dX9_readSecond_20 : decode cX9_readSecond 20 = .ok (.ireturn, 1) := by decide +kernel
theorem dX9_readSecond_21 : decode cX9_readSecond 21 = .ok (.aload_n 1, 1) := by decide +kernel
theorem dX9_readSecond_22 : decode cX9_readSecond 22 = .ok (.aload_n 0, 1) := by decide +kernel
theorem dX9_readSecond_23 : decode cX9_readSecond 23 = .ok (.iconst 0, 1) := by decide +kernel
theorem dX9_readSecond_24 : decode cX9_readSecond 24 = .ok (.iload_n 2, 1) := by decide +kernel
theorem dX9_readSecond_25 : decode cX9_readSecond 25 = .ok (.iconst 1, 1) := by decide +kernel
theorem dX9_readSecond_26 : decode cX9_readSecond 26 = .ok (.isub, 1) := by decide +kernel
theorem dX9_readSecond_27 : decode cX9_readSecond 27 = .ok (.invokevirtual 30, 3) := by decide +kernel
theorem dX9_readSecond_30 : decode cX9_readSecond 30 = .ok (.putfield 60, 3) := by decide +kernel
theorem dX9_readSecond_33 : decode cX9_readSecond 33 = .ok (.aload_n 1, 1) := by decide +kernel
theorem dX9_readSecond_34 : decode cX9_readSecond 34 = .ok (.getfield 60, 3) := by decide +kernel
theorem dX9_readSecond_37 : decode cX9_readSecond 37 = .ok (.iconst (-1), 1) := by decide +kernel
theorem dX9_readSecond_38 : decode cX9_readSecond 38 = .ok (.if_icmp .eq 7, 3) := by decide +kernel
theorem dX9_readSecond_41 : decode cX9_readSecond 41 = .ok (.iconst 1, 1) := by decide +kernel
theorem dX9_readSecond_42 : decode cX9_readSecond 42 = .ok (.goto 4, 3) := by decide +kernel
theorem dX9_readSecond_45 : decode cX9_readSecond 45 = .ok (.iconst 0, 1) := by decide +kernel
theorem dX9_readSecond_46 : decode cX9_readSecond 46 = .ok (.ireturn, 1) := by decide +kernel
theorem dX9_readSaid_0 : decode cX9_readSaid 0 = .ok (.aload_n 1, 1) := by decide +kernel
theorem dX9_readSaid_1 : decode cX9_readSaid 1 = .ok (.aload_n 0, 1) := by decide +kernel
theorem dX9_readSaid_2 : decode cX9_readSaid 2 = .ok (.invokevirtual 63, 3) := by decide +kernel
theorem dX9_readSaid_5 : decode cX9_readSaid 5 = .ok (.putfield 67, 3) := by decide +kernel
theorem dX9_readSaid_8 : decode cX9_readSaid 8 = .ok (.aload_n 1, 1) := by decide +kernel
theorem dX9_readSaid_9 : decode cX9_readSaid 9 = .ok (.getfield 67, 3) := by decide +kernel
theorem dX9_readSaid_12 : decode cX9_readSaid 12 = .ok (.iconst (-1), 1) := by decide +kernel
theorem dX9_readSaid_13 : decode cX9_readSaid 13 = .ok (.if_icmp .eq 9, 3) := by decide +kernel
theorem dX9_readSaid_16 : decode cX9_readSaid 16 = .ok (.aload_n 0, 1) := by decide +kernel
theorem dX9_readSaid_17 : decode cX9_readSaid 17 = .ok (.invokevirtual 27, 3) := by decide +kernel
theorem dX9_readSaid_20 : decode cX9_readSaid 20 = .ok (.iconst 1, 1) := by decide +kernel
theorem dX9_readSaid_21 : decode cX9_readSaid 21 = .ok (.ireturn, 1) := by decide +kernel
theorem dX9_readSaid_22 : decode cX9_readSaid 22 = .ok (.aload_n 0, 1) := by decide +kernel
theorem dX9_readSaid_23 : decode cX9_readSaid 23 = .ok (.ldc 70, 2) := by decide +kernel
theorem dX9_readSaid_25 : decode cX9_readSaid 25 = .ok (.invokevirtual 72, 3) := by decide +kernel
theorem dX9_readSaid_28 : decode cX9_readSaid 28 = .ok (.ifCond .eq 12, 3) := by decide +kernel
theorem dX9_readSaid_31 : decode cX9_readSaid 31 = .ok (.aload_n 1, 1) := by decide +kernel
theorem dX9_readSaid_32 : decode cX9_readSaid 32 = .ok (.iconst 1, 1) := by decide +kernel
theorem dX9_readSaid_33 : decode cX9_readSaid 33 = .ok (.putfield 76, 3) := by decide +kernel
theorem dX9_readSaid_36 : decode cX9_readSaid 36 = .ok (.aload_n 0, 1) := by decide +kernel
theorem dX9_readSaid_37 : decode cX9_readSaid 37 = .ok (.invokevirtual 27, 3) := by decide +kernel
theorem dX9_readSaid_40 : decode cX9_readSaid 40 = .ok (.aload_n 0, 1) := by decide +kernel
theorem dX9_readSaid_41 : decode cX9_readSaid 41 = .ok (.aload_n 1, 1) := by decide +kernel
theorem dX9_readSaid_42 : decode cX9_readSaid 42 = .ok (.invokevirtual 80, 3) := by decide +kernel
theorem dX9_readSaid_45 : decode cX9_readSaid 45 = .ok (.istore_n 2, 1) := by decide +kernel
theorem dX9_readSaid_46 : decode cX9_readSaid 46 = .ok (.iconst 0, 1) := by decide +kernel
theorem dX9_readSaid_47 : decode cX9_readSaid 47 = .ok (.istore_n 3, 1) := by decide +kernel
theorem dX9_readSaid_48 : decode cX9_readSaid 48 = .ok (.iload_n 3, 1) := by decide +kernel
theorem dX9_readSaid_49 : decode cX9_readSaid 49 = .ok (.bipush 80, 2) := by decide +kernel
theorem dX9_readSaid_51 : decode cX9_readSaid 51 = .ok (.if_icmp .ge 32, 3) := by decide +kernel
theorem dX9_readSaid_54 : decode cX9_readSaid 54 = .ok (.iload_n 2, 1) := by decide +kernel
theorem dX9_readSaid_55 : decode cX9_readSaid 55 = .ok (.ifCond .eq 28, 3) := by decide +kernel
theorem dX9_readSaid_58 : decode cX9_readSaid 58 = .ok (.aload_n 0, 1) := by decide +kernel
theorem dX9_readSaid_59 : decode cX9_readSaid 59 = .ok (.ldc 83, 2) := by decide +kernel
theorem dX9_readSaid_61 : decode cX9_readSaid 61 = .ok (.invokevirtual 72, 3) := by decide +kernel
theorem dX9_readSaid_64 : decode cX9_readSaid 64 = .ok (.ifCond .eq 19, 3) := by decide +kernel
theorem dX9_readSaid_67 : decode cX9_readSaid 67 = .ok (.aload_n 0, 1) := by decide +kernel
theorem dX9_readSaid_68 : decode cX9_readSaid 68 = .ok (.invokevirtual 27, 3) := by decide +kernel
theorem dX9_readSaid_71 : decode cX9_readSaid 71 = .ok (.aload_n 0, 1) := by decide +kernel
theorem dX9_readSaid_72 : decode cX9_readSaid 72 = .ok (.aload_n 1, 1) := by decide +kernel
theorem dX9_readSaid_73 : decode cX9_readSaid 73 = .ok (.invokevirtual 80, 3) := by decide +kernel
theorem dX9_readSaid_76 : decode cX9_readSaid 76 = .ok (.istore_n 2, 1) := by decide +kernel
theorem dX9_readSaid_77 : decode cX9_readSaid 77 = .ok (.iinc 3 1, 3) := by decide +kernel
theorem dX9_readSaid_80 : decode cX9_readSaid 80 = .ok (.goto (-32), 3) := by decide +kernel
theorem dX9_readSaid_83 : decode cX9_readSaid 83 = .ok (.iload_n 2, 1) := by decide +kernel
theorem dX9_readSaid_84 : decode cX9_readSaid 84 = .ok (.ireturn, 1) := by decide +kernel
theorem dX9_readOne_0 : decode cX9_readOne 0 = .ok (.aload_n 0, 1) := by decide +kernel
theorem dX9_readOne_1 : decode cX9_readOne 1 = .ok (.invokevirtual 85, 3) := by decide +kernel
theorem dX9_readOne_4 : decode cX9_readOne 4 = .ok (.istore_n 2, 1) := by decide +kernel
theorem dX9_readOne_5 : decode cX9_readOne 5 = .ok (.iload_n 2, 1) := by decide +kernel
theorem dX9_readOne_6 : decode cX9_readOne 6 = .ok (.ifCond .eq 19, 3) := by decide +kernel
theorem dX9_readOne_9 : decode cX9_readOne 9 = .ok (.aload_n 1, 1) := by decide +kernel
theorem dX9_readOne_10 : decode cX9_readOne 10 = .ok (.dup, 1) := by decide +kernel
theorem dX9_readOne_11 : decode cX9_readOne 11 = .ok (.getfield 88, 3) := by decide +kernel
theorem dX9_readOne_14 : decode cX9_readOne 14 = .ok (.iload_n 2, 1) := by decide +kernel
theorem dX9_readOne_15 : decode cX9_readOne 15 = .ok (.ior, 1) := by decide +kernel
theorem dX9_readOne_16 : decode cX9_readOne 16 = .ok (.putfield 88, 3) := by decide +kernel
theorem dX9_readOne_19 : decode cX9_readOne 19 = .ok (.aload_n 0, 1) := by decide +kernel
theorem dX9_readOne_20 : decode cX9_readOne 20 = .ok (.invokevirtual 27, 3) := by decide +kernel
theorem dX9_readOne_23 : decode cX9_readOne 23 = .ok (.iconst 1, 1) := by decide +kernel
theorem dX9_readOne_24 : decode cX9_readOne 24 = .ok (.ireturn, 1) := by decide +kernel
theorem dX9_readOne_25 : decode cX9_readOne 25 = .ok (.aload_n 0, 1) := by decide +kernel
theorem dX9_readOne_26 : decode cX9_readOne 26 = .ok (.ldc 91, 2) := by decide +kernel
theorem dX9_readOne_28 : decode cX9_readOne 28 = .ok (.invokevirtual 72, 3) := by decide +kernel
theorem dX9_readOne_31 : decode cX9_readOne 31 = .ok (.ifCond .ne 5, 3) := by decide +kernel
theorem dX9_readOne_34 : decode cX9_readOne 34 = .ok (.iconst 0, 1) := by decide +kernel
theorem dX9_readOne_35 : decode cX9_readOne 35 = .ok (.ireturn, 1) := by decide +kernel
theorem dX9_readOne_36 : decode cX9_readOne 36 = .ok (.aload_n 0, 1) := by decide +kernel
theorem dX9_readOne_37 : decode cX9_readOne 37 = .ok (.invokevirtual 27, 3) := by decide +kernel
theorem dX9_readOne_40 : decode cX9_readOne 40 = .ok (.aload_n 0, 1) := by decide +kernel
theorem dX9_readOne_41 : decode cX9_readOne 41 = .ok (.iconst 0, 1) := by decide +kernel
theorem dX9_readOne_42 : decode cX9_readOne 42 = .ok (.iconst 3, 1) := by decide +kernel
theorem dX9_readOne_43 : decode cX9_readOne 43 = .ok (.invokevirtual 30, 3) := by decide +kernel
theorem dX9_readOne_46 : decode cX9_readOne 46 = .ok (.istore_n 3, 1) := by decide +kernel
theorem dX9_readOne_47 : decode cX9_readOne 47 = .ok (.iload_n 3, 1) := by decide +kernel
theorem dX9_readOne_48 : decode cX9_readOne 48 = .ok (.iconst (-1), 1) := by decide +kernel
theorem dX9_readOne_49 : decode cX9_readOne 49 = .ok (.if_icmp .ne 5, 3) := by decide +kernel
theorem dX9_readOne_52 : decode cX9_readOne 52 = .ok (.iconst 0, 1) := by decide +kernel
theorem dX9_readOne_53 : decode cX9_readOne 53 = .ok (.ireturn, 1) := by decide +kernel
theorem dX9_readOne_54 : decode cX9_readOne 54 = .ok (.aload_n 1, 1) := by decide +kernel
theorem dX9_readOne_55 : decode cX9_readOne 55 = .ok (.dup, 1) := by decide +kernel
theorem dX9_readOne_56 : decode cX9_readOne 56 = .ok (.getfield 93, 3) := by decide +kernel
theorem dX9_readOne_59 : decode cX9_readOne 59 = .ok (.iconst 1, 1) := by decide +kernel
theorem dX9_readOne_60 : decode cX9_readOne 60 = .ok (.iload_n 3, 1) := by decide +kernel
theorem dX9_readOne_61 : decode cX9_readOne 61 = .ok (.ishl, 1) := by decide +kernel
theorem dX9_readOne_62 : decode cX9_readOne 62 = .ok (.ior, 1) := by decide +kernel
theorem dX9_readOne_63 : decode cX9_readOne 63 = .ok (.putfield 93, 3) := by decide +kernel
theorem dX9_readOne_66 : decode cX9_readOne 66 = .ok (.iconst 1, 1) := by decide +kernel
theorem dX9_readOne_67 : decode cX9_readOne 67 = .ok (.ireturn, 1) := by decide +kernel
theorem dX9_readYear_0 : decode cX9_readYear 0 = .ok (.aload_n 0, 1) := by decide +kernel
theorem dX9_readYear_1 : decode cX9_readYear 1 = .ok (.ldc 96, 2) := by decide +kernel
theorem dX9_readYear_3 : decode cX9_readYear 3 = .ok (.invokevirtual 72, 3) := by decide +kernel
theorem dX9_readYear_6 : decode cX9_readYear 6 = .ok (.ifCond .ne 5, 3) := by decide +kernel
theorem dX9_readYear_9 : decode cX9_readYear 9 = .ok (.iconst 1, 1) := by decide +kernel
theorem dX9_readYear_10 : decode cX9_readYear 10 = .ok (.ireturn, 1) := by decide +kernel
theorem dX9_readYear_11 : decode cX9_readYear 11 = .ok (.aload_n 0, 1) := by decide +kernel
theorem dX9_readYear_12 : decode cX9_readYear 12 = .ok (.invokevirtual 27, 3) := by decide +kernel
theorem dX9_readYear_15 : decode cX9_readYear 15 = .ok (.aload_n 1, 1) := by decide +kernel
theorem dX9_readYear_16 : decode cX9_readYear 16 = .ok (.aload_n 0, 1) := by decide +kernel
theorem dX9_readYear_17 : decode cX9_readYear 17 = .ok (.iconst 0, 1) := by decide +kernel
theorem dX9_readYear_18 : decode cX9_readYear 18 = .ok (.sipush 999, 3) := by decide +kernel
theorem dX9_readYear_21 : decode cX9_readYear 21 = .ok (.invokevirtual 30, 3) := by decide +kernel
theorem dX9_readYear_24 : decode cX9_readYear 24 = .ok (.putfield 98, 3) := by decide +kernel
theorem dX9_readYear_27 : decode cX9_readYear 27 = .ok (.aload_n 1, 1) := by decide +kernel
theorem dX9_readYear_28 : decode cX9_readYear 28 = .ok (.getfield 98, 3) := by decide +kernel
theorem dX9_readYear_31 : decode cX9_readYear 31 = .ok (.iconst (-1), 1) := by decide +kernel
theorem dX9_readYear_32 : decode cX9_readYear 32 = .ok (.if_icmp .eq 7, 3) := by decide +kernel
theorem dX9_readYear_35 : decode cX9_readYear 35 = .ok (.iconst 1, 1) := by decide +kernel
theorem dX9_readYear_36 : decode cX9_readYear 36 = .ok (.goto 4, 3) := by decide +kernel
theorem dX9_readYear_39 : decode cX9_readYear 39 = .ok (.iconst 0, 1) := by decide +kernel
theorem dX9_readYear_40 : decode cX9_readYear 40 = .ok (.ireturn, 1) := by decide +kernel
theorem dX9_readWeight_0 : decode cX9_readWeight 0 = .ok (.aload_n 0, 1) := by decide +kernel
theorem dX9_readWeight_1 : decode cX9_readWeight 1 = .ok (.ldc 100, 2) := by decide +kernel
theorem dX9_readWeight_3 : decode cX9_readWeight 3 = .ok (.invokevirtual 72, 3) := by decide +kernel
theorem dX9_readWeight_6 : decode cX9_readWeight 6 = .ok (.ifCond .ne 5, 3) := by decide +kernel
theorem dX9_readWeight_9 : decode cX9_readWeight 9 = .ok (.iconst 1, 1) := by decide +kernel
theorem dX9_readWeight_10 : decode cX9_readWeight 10 = .ok (.ireturn, 1) := by decide +kernel
theorem dX9_readWeight_11 : decode cX9_readWeight 11 = .ok (.aload_n 0, 1) := by decide +kernel
theorem dX9_readWeight_12 : decode cX9_readWeight 12 = .ok (.invokevirtual 27, 3) := by decide +kernel
theorem dX9_readWeight_15 : decode cX9_readWeight 15 = .ok (.aload_n 1, 1) := by decide +kernel
theorem dX9_readWeight_16 : decode cX9_readWeight 16 = .ok (.aload_n 0, 1) := by decide +kernel
theorem dX9_readWeight_17 : decode cX9_readWeight 17 = .ok (.iconst 1, 1) := by decide +kernel
theorem dX9_readWeight_18 : decode cX9_readWeight 18 = .ok (.bipush 99, 2) := by decide +kernel
theorem dX9_readWeight_20 : decode cX9_readWeight 20 = .ok (.invokevirtual 30, 3) := by decide +kernel
theorem dX9_readWeight_23 : decode cX9_readWeight 23 = .ok (.putfield 102, 3) := by decide +kernel
theorem dX9_readWeight_26 : decode cX9_readWeight 26 = .ok (.aload_n 1, 1) := by decide +kernel
theorem dX9_readWeight_27 : decode cX9_readWeight 27 = .ok (.getfield 102, 3) := by decide +kernel
theorem dX9_readWeight_30 : decode cX9_readWeight 30 = .ok (.iconst (-1), 1) := by decide +kernel
theorem dX9_readWeight_31 : decode cX9_readWeight 31 = .ok (.if_icmp .eq 7, 3) := by decide +kernel
theorem dX9_readWeight_34 : decode cX9_readWeight 34 = .ok (.iconst 1, 1) := by decide +kernel
theorem dX9_readWeight_35 : decode cX9_readWeight 35 = .ok (.goto 4, 3) := by decide +kernel
theorem dX9_readWeight_38 : decode cX9_readWeight 38 = .ok (.iconst 0, 1) := by decide +kernel
theorem dX9_readWeight_39 : decode cX9_readWeight 39 = .ok (.ireturn, 1) := by decide +kernel
theorem dX9_orderHere_0 : decode cX9_orderHere 0 = .ok (.aload_n 0, 1) := by decide +kernel
theorem dX9_orderHere_1 : decode cX9_orderHere 1 = .ok (.ldc 104, 2) := by decide +kernel
theorem dX9_orderHere_3 : decode cX9_orderHere 3 = .ok (.invokevirtual 72, 3) := by decide +kernel
theorem dX9_orderHere_6 : decode cX9_orderHere 6 = .ok (.ifCond .eq 5, 3) := by decide +kernel
theorem dX9_orderHere_9 : decode cX9_orderHere 9 = .ok (.iconst 0, 1) := by decide +kernel
theorem dX9_orderHere_10 : decode cX9_orderHere 10 = .ok (.ireturn, 1) := by decide +kernel
theorem dX9_orderHere_11 : decode cX9_orderHere 11 = .ok (.aload_n 0, 1) := by decide +kernel
theorem dX9_orderHere_12 : decode cX9_orderHere 12 = .ok (.ldc 106, 2) := by decide +kernel
theorem dX9_orderHere_14 : decode cX9_orderHere 14 = .ok (.invokevirtual 72, 3) := by decide +kernel
theorem dX9_orderHere_17 : decode cX9_orderHere 17 = .ok (.ifCond .eq 5, 3) := by decide +kernel
theorem dX9_orderHere_20 : decode cX9_orderHere 20 = .ok (.iconst 1, 1) := by decide +kernel
theorem dX9_orderHere_21 : decode cX9_orderHere 21 = .ok (.ireturn, 1) := by decide +kernel
theorem dX9_orderHere_22 : decode cX9_orderHere 22 = .ok (.aload_n 0, 1) := by decide +kernel
theorem dX9_orderHere_23 : decode cX9_orderHere 23 = .ok (.ldc 108, 2) := by decide +kernel
theorem dX9_orderHere_25 : decode cX9_orderHere 25 = .ok (.invokevirtual 72, 3) := by decide +kernel
theorem dX9_orderHere_28 : decode cX9_orderHere 28 = .ok (.ifCond .eq 7, 3) := by decide +kernel
theorem dX9_orderHere_31 : decode cX9_orderHere 31 = .ok (.iconst 2, 1) := by decide +kernel
theorem dX9_orderHere_32 : decode cX9_orderHere 32 = .ok (.goto 4, 3) := by decide +kernel
theorem dX9_orderHere_35 : decode cX9_orderHere 35 = .ok (.iconst (-1), 1) := by decide +kernel
theorem dX9_orderHere_36 : decode cX9_orderHere 36 = .ok (.ireturn, 1) := by decide +kernel
theorem dX9_waysHere_0 : decode cX9_waysHere 0 = .ok (.aload_n 0, 1) := by decide +kernel
theorem dX9_waysHere_1 : decode cX9_waysHere 1 = .ok (.ldc 110, 2) := by decide +kernel
theorem dX9_waysHere_3 : decode cX9_waysHere 3 = .ok (.invokevirtual 72, 3) := by decide +kernel
theorem dX9_waysHere_6 : decode cX9_waysHere 6 = .ok (.ifCond .eq 5, 3) := by decide +kernel
theorem dX9_waysHere_9 : decode cX9_waysHere 9 = .ok (.iconst 1, 1) := by decide +kernel
theorem dX9_waysHere_10 : decode cX9_waysHere 10 = .ok (.ireturn, 1) := by decide +kernel
theorem dX9_waysHere_11 : decode cX9_waysHere 11 = .ok (.aload_n 0, 1) := by decide +kernel
theorem dX9_waysHere_12 : decode cX9_waysHere 12 = .ok (.ldc 112, 2) := by decide +kernel
theorem dX9_waysHere_14 : decode cX9_waysHere 14 = .ok (.invokevirtual 72, 3) := by decide +kernel
theorem dX9_waysHere_17 : decode cX9_waysHere 17 = .ok (.ifCond .eq 5, 3) := by decide +kernel
theorem dX9_waysHere_20 : decode cX9_waysHere 20 = .ok (.iconst 2, 1) := by decide +kernel
theorem dX9_waysHere_21 : decode cX9_waysHere 21 = .ok (.ireturn, 1) := by decide +kernel
theorem dX9_waysHere_22 : decode cX9_waysHere 22 = .ok (.aload_n 0, 1) := by decide +kernel
theorem dX9_waysHere_23 : decode cX9_waysHere 23 = .ok (.ldc 114, 2) := by decide +kernel
theorem dX9_waysHere_25 : decode cX9_waysHere 25 = .ok (.invokevirtual 72, 3) := by decide +kernel
theorem dX9_waysHere_28 : decode cX9_waysHere 28 = .ok (.ifCond .eq 5, 3) := by decide +kernel
theorem dX9_waysHere_31 : decode cX9_waysHere 31 = .ok (.iconst 4, 1) := by decide +kernel
theorem dX9_waysHere_32 : decode cX9_waysHere 32 = .ok (.ireturn, 1) := by decide +kernel
theorem dX9_waysHere_33 : decode cX9_waysHere 33 = .ok (.aload_n 0, 1) := by decide +kernel
theorem dX9_waysHere_34 : decode cX9_waysHere 34 = .ok (.ldc 116, 2) := by decide +kernel
theorem dX9_waysHere_36 : decode cX9_waysHere 36 = .ok (.invokevirtual 72, 3) := by decide +kernel
theorem dX9_waysHere_39 : decode cX9_waysHere 39 = .ok (.ifCond .eq 6, 3) := by decide +kernel
theorem dX9_waysHere_42 : decode cX9_waysHere 42 = .ok (.bipush 8, 2) := by decide +kernel
theorem dX9_waysHere_44 : decode cX9_waysHere 44 = .ok (.ireturn, 1) := by decide +kernel
theorem dX9_waysHere_45 : decode cX9_waysHere 45 = .ok (.aload_n 0, 1) := by decide +kernel
theorem dX9_waysHere_46 : decode cX9_waysHere 46 = .ok (.ldc 118, 2) := by decide +kernel
theorem dX9_waysHere_48 : decode cX9_waysHere 48 = .ok (.invokevirtual 72, 3) := by decide +kernel
theorem dX9_waysHere_51 : decode cX9_waysHere 51 = .ok (.ifCond .eq 6, 3) := by decide +kernel
theorem dX9_waysHere_54 : decode cX9_waysHere 54 = .ok (.bipush 16, 2) := by decide +kernel
theorem dX9_waysHere_56 : decode cX9_waysHere 56 = .ok (.ireturn, 1) := by decide +kernel
theorem dX9_waysHere_57 : decode cX9_waysHere 57 = .ok (.aload_n 0, 1) := by decide +kernel
theorem dX9_waysHere_58 : decode cX9_waysHere 58 = .ok (.ldc 120, 2) := by decide +kernel
theorem dX9_waysHere_60 : decode cX9_waysHere 60 = .ok (.invokevirtual 72, 3) := by decide +kernel
theorem dX9_waysHere_63 : decode cX9_waysHere 63 = .ok (.ifCond .eq 6, 3) := by decide +kernel
theorem dX9_waysHere_66 : decode cX9_waysHere 66 = .ok (.bipush 32, 2) := by decide +kernel
theorem dX9_waysHere_68 : decode cX9_waysHere 68 = .ok (.ireturn, 1) := by decide +kernel
theorem dX9_waysHere_69 : decode cX9_waysHere 69 = .ok (.aload_n 0, 1) := by decide +kernel
theorem dX9_waysHere_70 : decode cX9_waysHere 70 = .ok (.ldc 122, 2) := by decide +kernel
theorem dX9_waysHere_72 : decode cX9_waysHere 72 = .ok (.invokevirtual 72, 3) := by decide +kernel
theorem dX9_waysHere_75 : decode cX9_waysHere 75 = .ok (.ifCond .eq 6, 3) := by decide +kernel
theorem dX9_waysHere_78 : decode cX9_waysHere 78 = .ok (.bipush 64, 2) := by decide +kernel
theorem dX9_waysHere_80 : decode cX9_waysHere 80 = .ok (.ireturn, 1) := by decide +kernel
theorem dX9_waysHere_81 : decode cX9_waysHere 81 = .ok (.aload_n 0, 1) := by decide +kernel
theorem dX9_waysHere_82 : decode cX9_waysHere 82 = .ok (.ldc 124, 2) := by decide +kernel
theorem dX9_waysHere_84 : decode cX9_waysHere 84 = .ok (.invokevirtual 72, 3) := by decide +kernel
theorem dX9_waysHere_87 : decode cX9_waysHere 87 = .ok (.ifCond .eq 7, 3) := by decide +kernel
theorem dX9_waysHere_90 : decode cX9_waysHere 90 = .ok (.sipush 128, 3) := by decide +kernel
theorem dX9_waysHere_93 : decode cX9_waysHere 93 = .ok (.ireturn, 1) := by decide +kernel
theorem dX9_waysHere_94 : decode cX9_waysHere 94 = .ok (.aload_n 0, 1) := by decide +kernel
theorem dX9_waysHere_95 : decode cX9_waysHere 95 = .ok (.ldc 126, 2) := by decide +kernel
theorem dX9_waysHere_97 : decode cX9_waysHere 97 = .ok (.invokevirtual 72, 3) := by decide +kernel
theorem dX9_waysHere_100 : decode cX9_waysHere 100 = .ok (.ifCond .eq 8, 3) := by decide +kernel
theorem dX9_waysHere_103 : decode cX9_waysHere 103 = .ok (.bipush 24, 2) := by decide +kernel
theorem dX9_waysHere_105 : decode cX9_waysHere 105 = .ok (.goto 4, 3) := by decide +kernel
theorem dX9_waysHere_108 : decode cX9_waysHere 108 = .ok (.iconst 0, 1) := by decide +kernel
theorem dX9_waysHere_109 : decode cX9_waysHere 109 = .ok (.ireturn, 1) := by decide +kernel
theorem dX9_spells_0 : decode cX9_spells 0 = .ok (.aload_n 0, 1) := by decide +kernel
theorem dX9_spells_1 : decode cX9_spells 1 = .ok (.getfield 51, 3) := by decide +kernel
theorem dX9_spells_4 : decode cX9_spells 4 = .ok (.iconst 1, 1) := by decide +kernel
theorem dX9_spells_5 : decode cX9_spells 5 = .ok (.if_icmp .ne 19, 3) := by decide +kernel
theorem dX9_spells_8 : decode cX9_spells 8 = .ok (.aload_n 0, 1) := by decide +kernel
theorem dX9_spells_9 : decode cX9_spells 9 = .ok (.getfield 24, 3) := by decide +kernel
theorem dX9_spells_12 : decode cX9_spells 12 = .ok (.aload_n 0, 1) := by decide +kernel
theorem dX9_spells_13 : decode cX9_spells 13 = .ok (.getfield 54, 3) := by decide +kernel
theorem dX9_spells_16 : decode cX9_spells 16 = .ok (.isub, 1) := by decide +kernel
theorem dX9_spells_17 : decode cX9_spells 17 = .ok (.aload_n 1, 1) := by decide +kernel
theorem dX9_spells_18 : decode cX9_spells 18 = .ok (.invokevirtual 128, 3) := by decide +kernel
theorem dX9_spells_21 : decode cX9_spells 21 = .ok (.if_icmp .eq 5, 3) := by decide +kernel
theorem dX9_spells_24 : decode cX9_spells 24 = .ok (.iconst 0, 1) := by decide +kernel
theorem dX9_spells_25 : decode cX9_spells 25 = .ok (.ireturn, 1) := by decide +kernel
theorem dX9_spells_26 : decode cX9_spells 26 = .ok (.iconst 0, 1) := by decide +kernel
theorem dX9_spells_27 : decode cX9_spells 27 = .ok (.istore_n 2, 1) := by decide +kernel
theorem dX9_spells_28 : decode cX9_spells 28 = .ok (.iload_n 2, 1) := by decide +kernel
theorem dX9_spells_29 : decode cX9_spells 29 = .ok (.aload_n 1, 1) := by decide +kernel
theorem dX9_spells_30 : decode cX9_spells 30 = .ok (.invokevirtual 128, 3) := by decide +kernel
theorem dX9_spells_33 : decode cX9_spells 33 = .ok (.if_icmp .ge 29, 3) := by decide +kernel
theorem dX9_spells_36 : decode cX9_spells 36 = .ok (.aload_n 0, 1) := by decide +kernel
theorem dX9_spells_37 : decode cX9_spells 37 = .ok (.aload_n 0, 1) := by decide +kernel
theorem dX9_spells_38 : decode cX9_spells 38 = .ok (.getfield 54, 3) := by decide +kernel
theorem dX9_spells_41 : decode cX9_spells 41 = .ok (.iload_n 2, 1) := by decide +kernel
theorem dX9_spells_42 : decode cX9_spells 42 = .ok (.iadd, 1) := by decide +kernel
theorem dX9_spells_43 : decode cX9_spells 43 = .ok (.invokevirtual 133, 3) := by decide +kernel
theorem dX9_spells_46 : decode cX9_spells 46 = .ok (.aload_n 1, 1) := by decide +kernel
theorem dX9_spells_47 : decode cX9_spells 47 = .ok (.iload_n 2, 1) := by decide +kernel
theorem dX9_spells_48 : decode cX9_spells 48 = .ok (.invokevirtual 137, 3) := by decide +kernel
theorem dX9_spells_51 : decode cX9_spells 51 = .ok (.if_icmp .eq 5, 3) := by decide +kernel
theorem dX9_spells_54 : decode cX9_spells 54 = .ok (.iconst 0, 1) := by decide +kernel
theorem dX9_spells_55 : decode cX9_spells 55 = .ok (.ireturn, 1) := by decide +kernel
theorem dX9_spells_56 : decode cX9_spells 56 = .ok (.iinc 2 1, 3) := by decide +kernel
theorem dX9_spells_59 : decode cX9_spells 59 = .ok (.goto (-31), 3) := by decide +kernel
theorem dX9_spells_62 : decode cX9_spells 62 = .ok (.iconst 1, 1) := by decide +kernel
theorem dX9_spells_63 : decode cX9_spells 63 = .ok (.ireturn, 1) := by decide +kernel
theorem dX9_take_0 : decode cX9_take 0 = .ok (.aload_n 0, 1) := by decide +kernel
theorem dX9_take_1 : decode cX9_take 1 = .ok (.getfield 51, 3) := by decide +kernel
theorem dX9_take_4 : decode cX9_take 4 = .ok (.iconst 2, 1) := by decide +kernel
theorem dX9_take_5 : decode cX9_take 5 = .ok (.if_icmp .ne 19, 3) := by decide +kernel
theorem dX9_take_8 : decode cX9_take 8 = .ok (.aload_n 0, 1) := by decide +kernel
theorem dX9_take_9 : decode cX9_take 9 = .ok (.getfield 57, 3) := by decide +kernel
theorem dX9_take_12 : decode cX9_take 12 = .ok (.iload_n 1, 1) := by decide +kernel
theorem dX9_take_13 : decode cX9_take 13 = .ok (.if_icmp .lt 11, 3) := by decide +kernel
theorem dX9_take_16 : decode cX9_take 16 = .ok (.aload_n 0, 1) := by decide +kernel
theorem dX9_take_17 : decode cX9_take 17 = .ok (.getfield 57, 3) := by decide +kernel
theorem dX9_take_20 : decode cX9_take 20 = .ok (.iload_n 2, 1) := by decide +kernel
theorem dX9_take_21 : decode cX9_take 21 = .ok (.if_icmp .le 5, 3) := by decide +kernel
theorem dX9_take_24 : decode cX9_take 24 = .ok (.iconst (-1), 1) := by decide +kernel
theorem dX9_take_25 : decode cX9_take 25 = .ok (.ireturn, 1) := by decide +kernel
theorem dX9_take_26 : decode cX9_take 26 = .ok (.aload_n 0, 1) := by decide +kernel
theorem dX9_take_27 : decode cX9_take 27 = .ok (.getfield 57, 3) := by decide +kernel
theorem dX9_take_30 : decode cX9_take 30 = .ok (.istore_n 3, 1) := by decide +kernel
theorem dX9_take_31 : decode cX9_take 31 = .ok (.aload_n 0, 1) := by decide +kernel
theorem dX9_take_32 : decode cX9_take 32 = .ok (.invokevirtual 27, 3) := by decide +kernel
theorem dX9_take_35 : decode cX9_take 35 = .ok (.iload_n 3, 1) := by decide +kernel
theorem dX9_take_36 : decode cX9_take 36 = .ok (.ireturn, 1) := by decide +kernel
theorem dX9_advance_0 : decode cX9_advance 0 = .ok (.aload_n 0, 1) := by decide +kernel
theorem dX9_advance_1 : decode cX9_advance 1 = .ok (.aload_n 0, 1) := by decide +kernel
theorem dX9_advance_2 : decode cX9_advance 2 = .ok (.getfield 24, 3) := by decide +kernel
theorem dX9_advance_5 : decode cX9_advance 5 = .ok (.putfield 54, 3) := by decide +kernel
theorem dX9_advance_8 : decode cX9_advance 8 = .ok (.aload_n 0, 1) := by decide +kernel
theorem dX9_advance_9 : decode cX9_advance 9 = .ok (.getfield 54, 3) := by decide +kernel
theorem dX9_advance_12 : decode cX9_advance 12 = .ok (.aload_n 0, 1) := by decide +kernel
theorem dX9_advance_13 : decode cX9_advance 13 = .ok (.getfield 9, 3) := by decide +kernel
theorem dX9_advance_16 : decode cX9_advance 16 = .ok (.if_icmp .ge 30, 3) := by decide +kernel
theorem dX9_advance_19 : decode cX9_advance 19 = .ok (.aload_n 0, 1) := by decide +kernel
theorem dX9_advance_20 : decode cX9_advance 20 = .ok (.getfield 15, 3) := by decide +kernel
theorem dX9_advance_23 : decode cX9_advance 23 = .ok (.aload_n 0, 1) := by decide +kernel
theorem dX9_advance_24 : decode cX9_advance 24 = .ok (.getfield 54, 3) := by decide +kernel
theorem dX9_advance_27 : decode cX9_advance 27 = .ok (.baload, 1) := by decide +kernel
theorem dX9_advance_28 : decode cX9_advance 28 = .ok (.bipush 32, 2) := by decide +kernel
theorem dX9_advance_30 : decode cX9_advance 30 = .ok (.if_icmp .ne 16, 3) := by decide +kernel
theorem dX9_advance_33 : decode cX9_advance 33 = .ok (.aload_n 0, 1) := by decide +kernel
theorem dX9_advance_34 : decode cX9_advance 34 = .ok (.dup, 1) := by decide +kernel
theorem dX9_advance_35 : decode cX9_advance 35 = .ok (.getfield 54, 3) := by decide +kernel
theorem dX9_advance_38 : decode cX9_advance 38 = .ok (.iconst 1, 1) := by decide +kernel
theorem dX9_advance_39 : decode cX9_advance 39 = .ok (.iadd, 1) := by decide +kernel
theorem dX9_advance_40 : decode cX9_advance 40 = .ok (.putfield 54, 3) := by decide +kernel
theorem dX9_advance_43 : decode cX9_advance 43 = .ok (.goto (-35), 3) := by decide +kernel
theorem dX9_advance_46 : decode cX9_advance 46 = .ok (.aload_n 0, 1) := by decide +kernel
theorem dX9_advance_47 : decode cX9_advance 47 = .ok (.aload_n 0, 1) := by decide +kernel
theorem dX9_advance_48 : decode cX9_advance 48 = .ok (.getfield 54, 3) := by decide +kernel
theorem dX9_advance_51 : decode cX9_advance 51 = .ok (.putfield 24, 3) := by decide +kernel
theorem dX9_advance_54 : decode cX9_advance 54 = .ok (.aload_n 0, 1) := by decide +kernel
theorem dX9_advance_55 : decode cX9_advance 55 = .ok (.aload_n 0, 1) := by decide +kernel
theorem dX9_advance_56 : decode cX9_advance 56 = .ok (.getfield 54, 3) := by decide +kernel
theorem dX9_advance_59 : decode cX9_advance 59 = .ok (.invokevirtual 133, 3) := by decide +kernel
theorem dX9_advance_62 : decode cX9_advance 62 = .ok (.invokestatic 141, 3) := by decide +kernel
theorem dX9_advance_65 : decode cX9_advance 65 = .ok (.ifCond .eq 47, 3) := by decide +kernel
theorem dX9_advance_68 : decode cX9_advance 68 = .ok (.aload_n 0, 1) := by decide +kernel
theorem dX9_advance_69 : decode cX9_advance 69 = .ok (.iconst 1, 1) := by decide +kernel
theorem dX9_advance_70 : decode cX9_advance 70 = .ok (.putfield 51, 3) := by decide +kernel
theorem dX9_advance_73 : decode cX9_advance 73 = .ok (.aload_n 0, 1) := by decide +kernel
theorem dX9_advance_74 : decode cX9_advance 74 = .ok (.getfield 24, 3) := by decide +kernel
theorem dX9_advance_77 : decode cX9_advance 77 = .ok (.aload_n 0, 1) := by decide +kernel
theorem dX9_advance_78 : decode cX9_advance 78 = .ok (.getfield 9, 3) := by decide +kernel
theorem dX9_advance_81 : decode cX9_advance 81 = .ok (.if_icmp .ge 120, 3) := by decide +kernel
theorem dX9_advance_84 : decode cX9_advance 84 = .ok (.aload_n 0, 1) := by decide +kernel
theorem dX9_advance_85 : decode cX9_advance 85 = .ok (.getfield 15, 3) := by decide +kernel
theorem dX9_advance_88 : decode cX9_advance 88 = .ok (.aload_n 0, 1) := by decide +kernel
theorem dX9_advance_89 : decode cX9_advance 89 = .ok (.getfield 24, 3) := by decide +kernel
theorem dX9_advance_92 : decode cX9_advance 92 = .ok (.baload, 1) := by decide +kernel
theorem dX9_advance_93 : decode cX9_advance 93 = .ok (.invokestatic 141, 3) := by decide +kernel
theorem dX9_advance_96 : decode cX9_advance 96 = .ok (.ifCond .eq 105, 3) := by decide +kernel
theorem dX9_advance_99 : decode cX9_advance 99 = .ok (.aload_n 0, 1) := by decide +kernel
theorem dX9_advance_100 : decode cX9_advance 100 = .ok (.dup, 1) := by decide +kernel
theorem dX9_advance_101 : decode cX9_advance 101 = .ok (.getfield 24, 3) := by decide +kernel
theorem dX9_advance_104 : decode cX9_advance 104 = .ok (.iconst 1, 1) := by decide +kernel
theorem dX9_advance_105 : decode cX9_advance 105 = .ok (.iadd, 1) := by decide +kernel
theorem dX9_advance_106 : decode cX9_advance 106 = .ok (.putfield 24, 3) := by decide +kernel
theorem dX9_advance_109 : decode cX9_advance 109 = .ok (.goto (-36), 3) := by decide +kernel
theorem dX9_advance_112 : decode cX9_advance 112 = .ok (.aload_n 0, 1) := by decide +kernel
theorem dX9_advance_113 : decode cX9_advance 113 = .ok (.aload_n 0, 1) := by decide +kernel
theorem dX9_advance_114 : decode cX9_advance 114 = .ok (.getfield 54, 3) := by decide +kernel
theorem dX9_advance_117 : decode cX9_advance 117 = .ok (.invokevirtual 133, 3) := by decide +kernel
theorem dX9_advance_120 : decode cX9_advance 120 = .ok (.invokestatic 145, 3) := by decide +kernel
theorem dX9_advance_123 : decode cX9_advance 123 = .ok (.ifCond .eq 58, 3) := by decide +kernel
theorem dX9_advance_126 : decode cX9_advance 126 = .ok (.aload_n 0, 1) := by decide +kernel
theorem dX9_advance_127 : decode cX9_advance 127 = .ok (.iconst 2, 1) := by decide +kernel
theorem dX9_advance_128 : decode cX9_advance 128 = .ok (.putfield 51, 3) := by decide +kernel
theorem dX9_advance_131 : decode cX9_advance 131 = .ok (.aload_n 0, 1) := by decide +kernel
theorem dX9_advance_132 : decode cX9_advance 132 = .ok (.getfield 24, 3) := by decide +kernel
theorem dX9_advance_135 : decode cX9_advance 135 = .ok (.aload_n 0, 1) := by decide +kernel
theorem dX9_advance_136 : decode cX9_advance 136 = .ok (.getfield 9, 3) := by decide +kernel
theorem dX9_advance_139 : decode cX9_advance 139 = .ok (.if_icmp .ge 31, 3) := by decide +kernel
theorem dX9_advance_142 : decode cX9_advance 142 = .ok (.aload_n 0, 1) := by decide +kernel
theorem dX9_advance_143 : decode cX9_advance 143 = .ok (.getfield 15, 3) := by decide +kernel
theorem dX9_advance_146 : decode cX9_advance 146 = .ok (.aload_n 0, 1) := by decide +kernel
theorem dX9_advance_147 : decode cX9_advance 147 = .ok (.getfield 24, 3) := by decide +kernel
theorem dX9_advance_150 : decode cX9_advance 150 = .ok (.baload, 1) := by decide +kernel
theorem dX9_advance_151 : decode cX9_advance 151 = .ok (.invokestatic 145, 3) := by decide +kernel
theorem dX9_advance_154 : decode cX9_advance 154 = .ok (.ifCond .eq 16, 3) := by decide +kernel
theorem dX9_advance_157 : decode cX9_advance 157 = .ok (.aload_n 0, 1) := by decide +kernel
theorem dX9_advance_158 : decode cX9_advance 158 = .ok (.dup, 1) := by decide +kernel
theorem dX9_advance_159 : decode cX9_advance 159 = .ok (.getfield 24, 3) := by decide +kernel
theorem dX9_advance_162 : decode cX9_advance 162 = .ok (.iconst 1, 1) := by decide +kernel
theorem dX9_advance_163 : decode cX9_advance 163 = .ok (.iadd, 1) := by decide +kernel
theorem dX9_advance_164 : decode cX9_advance 164 = .ok (.putfield 24, 3) := by decide +kernel
theorem dX9_advance_167 : decode cX9_advance 167 = .ok (.goto (-36), 3) := by decide +kernel
theorem dX9_advance_170 : decode cX9_advance 170 = .ok (.aload_n 0, 1) := by decide +kernel
theorem dX9_advance_171 : decode cX9_advance 171 = .ok (.aload_n 0, 1) := by decide +kernel
theorem dX9_advance_172 : decode cX9_advance 172 = .ok (.invokevirtual 148, 3) := by decide +kernel
theorem dX9_advance_175 : decode cX9_advance 175 = .ok (.putfield 57, 3) := by decide +kernel
theorem dX9_advance_178 : decode cX9_advance 178 = .ok (.goto 23, 3) := by decide +kernel
theorem dX9_advance_181 : decode cX9_advance 181 = .ok (.aload_n 0, 1) := by decide +kernel
theorem dX9_advance_182 : decode cX9_advance 182 = .ok (.aload_n 0, 1) := by decide +kernel
theorem dX9_advance_183 : decode cX9_advance 183 = .ok (.getfield 54, 3) := by decide +kernel
theorem dX9_advance_186 : decode cX9_advance 186 = .ok (.aload_n 0, 1) := by decide +kernel
theorem dX9_advance_187 : decode cX9_advance 187 = .ok (.getfield 9, 3) := by decide +kernel
theorem dX9_advance_190 : decode cX9_advance 190 = .ok (.if_icmp .ge 7, 3) := by decide +kernel
theorem dX9_advance_193 : decode cX9_advance 193 = .ok (.iconst 3, 1) := by decide +kernel
theorem dX9_advance_194 : decode cX9_advance 194 = .ok (.goto 4, 3) := by decide +kernel
theorem dX9_advance_197 : decode cX9_advance 197 = .ok (.iconst 0, 1) := by decide +kernel
theorem dX9_advance_198 : decode cX9_advance 198 = .ok (.putfield 51, 3) := by decide +kernel
theorem dX9_advance_201 : decode cX9_advance 201 = .ok (.return_, 1) := by decide +kernel
theorem dX9_valueHere_0 : decode cX9_valueHere 0 = .ok (.aload_n 0, 1) := by decide +kernel
theorem dX9_valueHere_1 : decode cX9_valueHere 1 = .ok (.getfield 24, 3) := by decide +kernel
theorem dX9_valueHere_4 : decode cX9_valueHere 4 = .ok (.aload_n 0, 1) := by decide +kernel
theorem dX9_valueHere_5 : decode cX9_valueHere 5 = .ok (.getfield 54, 3) := by decide +kernel
theorem dX9_valueHere_8 : decode cX9_valueHere 8 = .ok (.isub, 1) := by decide +kernel
theorem dX9_valueHere_9 : decode cX9_valueHere 9 = .ok (.iconst 3, 1) := by decide +kernel
theorem dX9_valueHere_10 : decode cX9_valueHere 10 = .ok (.if_icmp .le 7, 3) := by decide +kernel
theorem dX9_valueHere_13 : decode cX9_valueHere 13 = .ok (.sipush 1000, 3) := by decide +kernel
theorem dX9_valueHere_16 : decode cX9_valueHere 16 = .ok (.ireturn, 1) := by decide +kernel
theorem dX9_valueHere_17 : decode cX9_valueHere 17 = .ok (.iconst 0, 1) := by decide +kernel
theorem dX9_valueHere_18 : decode cX9_valueHere 18 = .ok (.istore_n 1, 1) := by decide +kernel
theorem dX9_valueHere_19 : decode cX9_valueHere 19 = .ok (.aload_n 0, 1) := by decide +kernel
theorem dX9_valueHere_20 : decode cX9_valueHere 20 = .ok (.getfield 54, 3) := by decide +kernel
theorem dX9_valueHere_23 : decode cX9_valueHere 23 = .ok (.istore_n 2, 1) := by decide +kernel
theorem dX9_valueHere_24 : decode cX9_valueHere 24 = .ok (.iload_n 2, 1) := by decide +kernel
theorem dX9_valueHere_25 : decode cX9_valueHere 25 = .ok (.aload_n 0, 1) := by decide +kernel
theorem dX9_valueHere_26 : decode cX9_valueHere 26 = .ok (.getfield 24, 3) := by decide +kernel
theorem dX9_valueHere_29 : decode cX9_valueHere 29 = .ok (.if_icmp .ge 24, 3) := by decide +kernel
theorem dX9_valueHere_32 : decode cX9_valueHere 32 = .ok (.iload_n 1, 1) := by decide +kernel
theorem dX9_valueHere_33 : decode cX9_valueHere 33 = .ok (.bipush 10, 2) := by decide +kernel
theorem dX9_valueHere_35 : decode cX9_valueHere 35 = .ok (.imul, 1) := by decide +kernel
theorem dX9_valueHere_36 : decode cX9_valueHere 36 = .ok (.aload_n 0, 1) := by decide +kernel
theorem dX9_valueHere_37 : decode cX9_valueHere 37 = .ok (.getfield 15, 3) := by decide +kernel
theorem dX9_valueHere_40 : decode cX9_valueHere 40 = .ok (.iload_n 2, 1) := by decide +kernel
theorem dX9_valueHere_41 : decode cX9_valueHere 41 = .ok (.baload, 1) := by decide +kernel
theorem dX9_valueHere_42 : decode cX9_valueHere 42 = .ok (.iadd, 1) := by decide +kernel
theorem dX9_valueHere_43 : decode cX9_valueHere 43 = .ok (.bipush 48, 2) := by decide +kernel
theorem dX9_valueHere_45 : decode cX9_valueHere 45 = .ok (.isub, 1) := by decide +kernel
theorem dX9_valueHere_46 : decode cX9_valueHere 46 = .ok (.istore_n 1, 1) := by decide +kernel
theorem dX9_valueHere_47 : decode cX9_valueHere 47 = .ok (.iinc 2 1, 3) := by decide +kernel
theorem dX9_valueHere_50 : decode cX9_valueHere 50 = .ok (.goto (-26), 3) := by decide +kernel
theorem dX9_valueHere_53 : decode cX9_valueHere 53 = .ok (.iload_n 1, 1) := by decide +kernel
theorem dX9_valueHere_54 : decode cX9_valueHere 54 = .ok (.ireturn, 1) := by decide +kernel
theorem dX9_byteAt_0 : decode cX9_byteAt 0 = .ok (.iload_n 1, 1) := by decide +kernel
theorem dX9_byteAt_1 : decode cX9_byteAt 1 = .ok (.ifCond .lt 20, 3) := by decide +kernel
theorem dX9_byteAt_4 : decode cX9_byteAt 4 = .ok (.iload_n 1, 1) := by decide +kernel
theorem dX9_byteAt_5 : decode cX9_byteAt 5 = .ok (.aload_n 0, 1) := by decide +kernel
theorem dX9_byteAt_6 : decode cX9_byteAt 6 = .ok (.getfield 9, 3) := by decide +kernel
theorem dX9_byteAt_9 : decode cX9_byteAt 9 = .ok (.if_icmp .ge 12, 3) := by decide +kernel
theorem dX9_byteAt_12 : decode cX9_byteAt 12 = .ok (.aload_n 0, 1) := by decide +kernel
theorem dX9_byteAt_13 : decode cX9_byteAt 13 = .ok (.getfield 15, 3) := by decide +kernel
theorem dX9_byteAt_16 : decode cX9_byteAt 16 = .ok (.iload_n 1, 1) := by decide +kernel
theorem dX9_byteAt_17 : decode cX9_byteAt 17 = .ok (.baload, 1) := by decide +kernel
theorem dX9_byteAt_18 : decode cX9_byteAt 18 = .ok (.goto 4, 3) := by decide +kernel
theorem dX9_byteAt_21 : decode cX9_byteAt 21 = .ok (.iconst (-1), 1) := by decide +kernel
theorem dX9_byteAt_22 : decode cX9_byteAt 22 = .ok (.ireturn, 1) := by decide +kernel
theorem dX9_isLetter_0 : decode cX9_isLetter 0 = .ok (.iload_n 0, 1) := by decide +kernel
theorem dX9_isLetter_1 : decode cX9_isLetter 1 = .ok (.bipush 97, 2) := by decide +kernel
theorem dX9_isLetter_3 : decode cX9_isLetter 3 = .ok (.if_icmp .lt 13, 3) := by decide +kernel
theorem dX9_isLetter_6 : decode cX9_isLetter 6 = .ok (.iload_n 0, 1) := by decide +kernel
theorem dX9_isLetter_7 : decode cX9_isLetter 7 = .ok (.bipush 122, 2) := by decide +kernel
theorem dX9_isLetter_9 : decode cX9_isLetter 9 = .ok (.if_icmp .gt 7, 3) := by decide +kernel
theorem dX9_isLetter_12 : decode cX9_isLetter 12 = .ok (.iconst 1, 1) := by decide +kernel
theorem dX9_isLetter_13 : decode cX9_isLetter 13 = .ok (.goto 4, 3) := by decide +kernel
theorem dX9_isLetter_16 : decode cX9_isLetter 16 = .ok (.iconst 0, 1) := by decide +kernel
theorem dX9_isLetter_17 : decode cX9_isLetter 17 = .ok (.ireturn, 1) := by decide +kernel
theorem dX9_isDigit_0 : decode cX9_isDigit 0 = .ok (.iload_n 0, 1) := by decide +kernel
theorem dX9_isDigit_1 : decode cX9_isDigit 1 = .ok (.bipush 48, 2) := by decide +kernel
theorem dX9_isDigit_3 : decode cX9_isDigit 3 = .ok (.if_icmp .lt 13, 3) := by decide +kernel
theorem dX9_isDigit_6 : decode cX9_isDigit 6 = .ok (.iload_n 0, 1) := by decide +kernel
theorem dX9_isDigit_7 : decode cX9_isDigit 7 = .ok (.bipush 57, 2) := by decide +kernel
theorem dX9_isDigit_9 : decode cX9_isDigit 9 = .ok (.if_icmp .gt 7, 3) := by decide +kernel
theorem dX9_isDigit_12 : decode cX9_isDigit 12 = .ok (.iconst 1, 1) := by decide +kernel
theorem dX9_isDigit_13 : decode cX9_isDigit 13 = .ok (.goto 4, 3) := by decide +kernel
theorem dX9_isDigit_16 : decode cX9_isDigit 16 = .ok (.iconst 0, 1) := by decide +kernel
theorem dX9_isDigit_17 : decode cX9_isDigit 17 = .ok (.ireturn, 1) := by decide +kernel
theorem dX10_init_0 : decode cX10_init 0 = .ok (.aload_n 0, 1) := by decide +kernel
theorem dX10_init_1 : decode cX10_init 1 = .ok (.invokespecial 3, 3) := by decide +kernel
theorem dX10_init_4 : decode cX10_init 4 = .ok (.aload_n 0, 1) := by decide +kernel
theorem dX10_init_5 : decode cX10_init 5 = .ok (.sipush 256, 3) := by decide +kernel
theorem dX10_init_8 : decode cX10_init 8 = .ok (.newarray .int, 2) := by decide +kernel
theorem dX10_init_10 : decode cX10_init 10 = .ok (.putfield 9, 3) := by decide +kernel
theorem dX10_init_13 : decode cX10_init 13 = .ok (.iconst 0, 1) := by decide +kernel
theorem dX10_init_14 : decode cX10_init 14 = .ok (.istore_n 1, 1) := by decide +kernel
theorem dX10_init_15 : decode cX10_init 15 = .ok (.iload_n 1, 1) := by decide +kernel
theorem dX10_init_16 : decode cX10_init 16 = .ok (.sipush 255, 3) := by decide +kernel
theorem dX10_init_19 : decode cX10_init 19 = .ok (.if_icmp .gt 35, 3) := by decide +kernel
theorem dX10_init_22 : decode cX10_init 22 = .ok (.iload_n 1, 1) := by decide +kernel
theorem dX10_init_23 : decode cX10_init 23 = .ok (.bipush (-121), 2) := by decide +kernel
theorem dX10_init_25 : decode cX10_init 25 = .ok (.iand, 1) := by decide +kernel
theorem dX10_init_26 : decode cX10_init 26 = .ok (.istore_n 2, 1) := by decide +kernel
theorem dX10_init_27 : decode cX10_init 27 = .ok (.aload_n 0, 1) := by decide +kernel
theorem dX10_init_28 : decode cX10_init 28 = .ok (.getfield 9, 3) := by decide +kernel
theorem dX10_init_31 : decode cX10_init 31 = .ok (.iload_n 1, 1) := by decide +kernel
theorem dX10_init_32 : decode cX10_init 32 = .ok (.iload_n 2, 1) := by decide +kernel
theorem dX10_init_33 : decode cX10_init 33 = .ok (.iload_n 1, 1) := by decide +kernel
theorem dX10_init_34 : decode cX10_init 34 = .ok (.bipush 24, 2) := by decide +kernel
theorem dX10_init_36 : decode cX10_init 36 = .ok (.iand, 1) := by decide +kernel
theorem dX10_init_37 : decode cX10_init 37 = .ok (.iconst 2, 1) := by decide +kernel
theorem dX10_init_38 : decode cX10_init 38 = .ok (.ishl, 1) := by decide +kernel
theorem dX10_init_39 : decode cX10_init 39 = .ok (.ior, 1) := by decide +kernel
theorem dX10_init_40 : decode cX10_init 40 = .ok (.iload_n 1, 1) := by decide +kernel
theorem dX10_init_41 : decode cX10_init 41 = .ok (.iconst 2, 1) := by decide +kernel
theorem dX10_init_42 : decode cX10_init 42 = .ok (.ishr, 1) := by decide +kernel
theorem dX10_init_43 : decode cX10_init 43 = .ok (.bipush 24, 2) := by decide +kernel
theorem dX10_init_45 : decode cX10_init 45 = .ok (.iand, 1) := by decide +kernel
theorem dX10_init_46 : decode cX10_init 46 = .ok (.ior, 1) := by decide +kernel
theorem dX10_init_47 : decode cX10_init 47 = .ok (.iastore, 1) := by decide +kernel
theorem dX10_init_48 : decode cX10_init 48 = .ok (.iinc 1 1, 3) := by decide +kernel
theorem dX10_init_51 : decode cX10_init 51 = .ok (.goto (-36), 3) := by decide +kernel
theorem dX10_init_54 : decode cX10_init 54 = .ok (.aload_n 0, 1) := by decide +kernel
theorem dX10_init_55 : decode cX10_init 55 = .ok (.sipush 1024, 3) := by decide +kernel
theorem dX10_init_58 : decode cX10_init 58 = .ok (.newarray .int, 2) := by decide +kernel
theorem dX10_init_60 : decode cX10_init 60 = .ok (.putfield 15, 3) := by decide +kernel
theorem dX10_init_63 : decode cX10_init 63 = .ok (.iconst 0, 1) := by decide +kernel
theorem dX10_init_64 : decode cX10_init 64 = .ok (.istore_n 1, 1) := by decide +kernel
theorem dX10_init_65 : decode cX10_init 65 = .ok (.iload_n 1, 1) := by decide +kernel
theorem dX10_init_66 : decode cX10_init 66 = .ok (.sipush 1024, 3) := by decide +kernel
theorem dX10_init_69 : decode cX10_init 69 = .ok (.if_icmp .ge 20, 3) := by decide +kernel
theorem dX10_init_72 : decode cX10_init 72 = .ok (.aload_n 0, 1) := by decide +kernel
theorem dX10_init_73 : decode cX10_init 73 = .ok (.getfield 15, 3) := by decide +kernel
theorem dX10_init_76 : decode cX10_init 76 = .ok (.iload_n 1, 1) := by decide +kernel
theorem dX10_init_77 : decode cX10_init 77 = .ok (.aload_n 0, 1) := by decide +kernel
theorem dX10_init_78 : decode cX10_init 78 = .ok (.iload_n 1, 1) := by decide +kernel
theorem dX10_init_79 : decode cX10_init 79 = .ok (.invokevirtual 18, 3) := by decide +kernel
theorem dX10_init_82 : decode cX10_init 82 = .ok (.iastore, 1) := by decide +kernel
theorem dX10_init_83 : decode cX10_init 83 = .ok (.iinc 1 1, 3) := by decide +kernel
theorem dX10_init_86 : decode cX10_init 86 = .ok (.goto (-21), 3) := by decide +kernel
theorem dX10_init_89 : decode cX10_init 89 = .ok (.return_, 1) := by decide +kernel
theorem dX10_fromLesser_0 : decode cX10_fromLesser 0 = .ok (.iload_n 1, 1) := by decide +kernel
theorem dX10_fromLesser_1 : decode cX10_fromLesser 1 = .ok (.sipush 240, 3) := by decide +kernel
theorem dX10_fromLesser_4 : decode cX10_fromLesser 4 = .ok (.iand, 1) := by decide +kernel
theorem dX10_fromLesser_5 : decode cX10_fromLesser 5 = .ok (.istore_n 2, 1) := by decide +kernel
theorem dX10_fromLesser_6 : decode cX10_fromLesser 6 = .ok (.iload_n 1, 1) := by decide +kernel
theorem dX10_fromLesser_7 : decode cX10_fromLesser 7 = .ok (.bipush 15, 2) := by decide +kernel
theorem dX10_fromLesser_9 : decode cX10_fromLesser 9 = .ok (.iand, 1) := by decide +kernel
theorem dX10_fromLesser_10 : decode cX10_fromLesser 10 = .ok (.istore_n 3, 1) := by decide +kernel
theorem dX10_fromLesser_11 : decode cX10_fromLesser 11 = .ok (.iload_n 2, 1) := by decide +kernel
theorem dX10_fromLesser_12 : decode cX10_fromLesser 12 = .ok (.iload_n 2, 1) := by decide +kernel
theorem dX10_fromLesser_13 : decode cX10_fromLesser 13 = .ok (.ineg, 1) := by decide +kernel
theorem dX10_fromLesser_14 : decode cX10_fromLesser 14 = .ok (.iand, 1) := by decide +kernel
theorem dX10_fromLesser_15 : decode cX10_fromLesser 15 = .ok (.istore 4, 2) := by decide +kernel
theorem dX10_fromLesser_17 : decode cX10_fromLesser 17 = .ok (.iload_n 3, 1) := by decide +kernel
theorem dX10_fromLesser_18 : decode cX10_fromLesser 18 = .ok (.iload_n 3, 1) := by decide +kernel
theorem dX10_fromLesser_19 : decode cX10_fromLesser 19 = .ok (.ineg, 1) := by decide +kernel
theorem dX10_fromLesser_20 : decode cX10_fromLesser 20 = .ok (.iand, 1) := by decide +kernel
theorem dX10_fromLesser_21 : decode cX10_fromLesser 21 = .ok (.istore 5, 2) := by decide +kernel
theorem dX10_fromLesser_23 : decode cX10_fromLesser 23 = .ok (.iload_n 2, 1) := by decide +kernel
theorem dX10_fromLesser_24 : decode cX10_fromLesser 24 = .ok (.ifCond .eq 7, 3) := by decide +kernel
theorem dX10_fromLesser_27 : decode cX10_fromLesser 27 = .ok (.iload_n 3, 1) := by decide +kernel
theorem dX10_fromLesser_28 : decode cX10_fromLesser 28 = .ok (.ifCond .ne 5, 3) := by decide +kernel
theorem dX10_fromLesser_31 : decode cX10_fromLesser 31 = .ok (.iconst 0, 1) := by decide +kernel
theorem dX10_fromLesser_32 : decode cX10_fromLesser 32 = .ok (.ireturn, 1) := by decide +kernel
theorem dX10_fromLesser_33 : decode cX10_fromLesser 33 = .ok (.iload_n 2, 1) := by decide +kernel
theorem dX10_fromLesser_34 : decode cX10_fromLesser 34 = .ok (.iload 4, 2) := by decide +kernel
theorem dX10_fromLesser_36 : decode cX10_fromLesser 36 = .ok (.if_icmp .eq 25, 3) := by decide +kernel
theorem dX10_fromLesser_39 : decode cX10_fromLesser 39 = .ok (.aload_n 0, 1) := by decide +kernel
theorem dX10_fromLesser_40 : decode cX10_fromLesser 40 = .ok (.getfield 15, 3) := by decide +kernel
theorem dX10_fromLesser_43 : decode cX10_fromLesser 43 = .ok (.iload_n 1, 1) := by decide +kernel
theorem dX10_fromLesser_44 : decode cX10_fromLesser 44 = .ok (.iload 4, 2) := by decide +kernel
theorem dX10_fromLesser_46 : decode cX10_fromLesser 46 = .ok (.isub, 1) := by decide +kernel
theorem dX10_fromLesser_47 : decode cX10_fromLesser 47 = .ok (.iaload, 1) := by decide +kernel
theorem dX10_fromLesser_48 : decode cX10_fromLesser 48 = .ok (.aload_n 0, 1) := by decide +kernel
theorem dX10_fromLesser_49 : decode cX10_fromLesser 49 = .ok (.getfield 15, 3) := by decide +kernel
theorem dX10_fromLesser_52 : decode cX10_fromLesser 52 = .ok (.iload_n 1, 1) := by decide +kernel
theorem dX10_fromLesser_53 : decode cX10_fromLesser 53 = .ok (.iload_n 2, 1) := by decide +kernel
theorem dX10_fromLesser_54 : decode cX10_fromLesser 54 = .ok (.isub, 1) := by decide +kernel
theorem dX10_fromLesser_55 : decode cX10_fromLesser 55 = .ok (.iload 4, 2) := by decide +kernel
theorem dX10_fromLesser_57 : decode cX10_fromLesser 57 = .ok (.iadd, 1) := by decide +kernel
theorem dX10_fromLesser_58 : decode cX10_fromLesser 58 = .ok (.iaload, 1) := by decide +kernel
theorem dX10_fromLesser_59 : decode cX10_fromLesser 59 = .ok (.ior, 1) := by decide +kernel
theorem dX10_fromLesser_60 : decode cX10_fromLesser 60 = .ok (.ireturn, 1) := by decide +kernel
theorem dX10_fromLesser_61 : decode cX10_fromLesser 61 = .ok (.iload_n 3, 1) := by decide +kernel
theorem dX10_fromLesser_62 : decode cX10_fromLesser 62 = .ok (.iload 5, 2) := by decide +kernel
theorem dX10_fromLesser_64 : decode cX10_fromLesser 64 = .ok (.if_icmp .eq 25, 3) := by decide +kernel
theorem dX10_fromLesser_67 : decode cX10_fromLesser 67 = .ok (.aload_n 0, 1) := by decide +kernel
theorem dX10_fromLesser_68 : decode cX10_fromLesser 68 = .ok (.getfield 15, 3) := by decide +kernel
theorem dX10_fromLesser_71 : decode cX10_fromLesser 71 = .ok (.iload_n 1, 1) := by decide +kernel
theorem dX10_fromLesser_72 : decode cX10_fromLesser 72 = .ok (.iload 5, 2) := by decide +kernel
theorem dX10_fromLesser_74 : decode cX10_fromLesser 74 = .ok (.isub, 1) := by decide +kernel
theorem dX10_fromLesser_75 : decode cX10_fromLesser 75 = .ok (.iaload, 1) := by decide +kernel
theorem dX10_fromLesser_76 : decode cX10_fromLesser 76 = .ok (.aload_n 0, 1) := by decide +kernel
theorem dX10_fromLesser_77 : decode cX10_fromLesser 77 = .ok (.getfield 15, 3) := by decide +kernel
theorem dX10_fromLesser_80 : decode cX10_fromLesser 80 = .ok (.iload_n 1, 1) := by decide +kernel
theorem dX10_fromLesser_81 : decode cX10_fromLesser 81 = .ok (.iload_n 3, 1) := by decide +kernel
theorem dX10_fromLesser_82 : decode cX10_fromLesser 82 = .ok (.isub, 1) := by decide +kernel
theorem dX10_fromLesser_83 : decode cX10_fromLesser 83 = .ok (.iload 5, 2) := by decide +kernel
theorem dX10_fromLesser_85 : decode cX10_fromLesser 85 = .ok (.iadd, 1) := by decide +kernel
theorem dX10_fromLesser_86 : decode cX10_fromLesser 86 = .ok (.iaload, 1) := by decide +kernel
theorem dX10_fromLesser_87 : decode cX10_fromLesser 87 = .ok (.ior, 1) := by decide +kernel
theorem dX10_fromLesser_88 : decode cX10_fromLesser 88 = .ok (.ireturn, 1) := by decide +kernel
theorem dX10_fromLesser_89 : decode cX10_fromLesser 89 = .ok (.iload 4, 2) := by decide +kernel
theorem dX10_fromLesser_91 : decode cX10_fromLesser 91 = .ok (.iconst 4, 1) := by decide +kernel
theorem dX10_fromLesser_92 : decode cX10_fromLesser 92 = .ok (.ishr, 1) := by decide +kernel
theorem dX10_fromLesser_93 : decode cX10_fromLesser 93 = .ok (.iconst 1, 1) := by decide +kernel
theorem dX10_fromLesser_94 : decode cX10_fromLesser 94 = .ok (.isub, 1) := by decide +kernel
theorem dX10_fromLesser_95 : decode cX10_fromLesser 95 = .ok (.invokestatic 22, 3) := by decide +kernel
theorem dX10_fromLesser_98 : decode cX10_fromLesser 98 = .ok (.iload_n 1, 1) := by decide +kernel
theorem dX10_fromLesser_99 : decode cX10_fromLesser 99 = .ok (.bipush 9, 2) := by decide +kernel
theorem dX10_fromLesser_101 : decode cX10_fromLesser 101 = .ok (.ishr, 1) := by decide +kernel
theorem dX10_fromLesser_102 : decode cX10_fromLesser 102 = .ok (.iconst 2, 1) := by decide +kernel
theorem dX10_fromLesser_103 : decode cX10_fromLesser 103 = .ok (.ishl, 1) := by decide +kernel
theorem dX10_fromLesser_104 : decode cX10_fromLesser 104 = .ok (.iadd, 1) := by decide +kernel
theorem dX10_fromLesser_105 : decode cX10_fromLesser 105 = .ok (.istore 6, 2) := by decide +kernel
theorem dX10_fromLesser_107 : decode cX10_fromLesser 107 = .ok (.iload 5, 2) := by decide +kernel
theorem dX10_fromLesser_109 : decode cX10_fromLesser 109 = .ok (.iconst 1, 1) := by decide +kernel
theorem dX10_fromLesser_110 : decode cX10_fromLesser 110 = .ok (.isub, 1) := by decide +kernel
theorem dX10_fromLesser_111 : decode cX10_fromLesser 111 = .ok (.invokestatic 22, 3) := by decide +kernel
theorem dX10_fromLesser_114 : decode cX10_fromLesser 114 = .ok (.iload_n 1, 1) := by decide +kernel
theorem dX10_fromLesser_115 : decode cX10_fromLesser 115 = .ok (.bipush 8, 2) := by decide +kernel
theorem dX10_fromLesser_117 : decode cX10_fromLesser 117 = .ok (.ishr, 1) := by decide +kernel
theorem dX10_fromLesser_118 : decode cX10_fromLesser 118 = .ok (.iconst 1, 1) := by decide +kernel
theorem dX10_fromLesser_119 : decode cX10_fromLesser 119 = .ok (.iand, 1) := by decide +kernel
theorem dX10_fromLesser_120 : decode cX10_fromLesser 120 = .ok (.iconst 2, 1) := by decide +kernel
theorem dX10_fromLesser_121 : decode cX10_fromLesser 121 = .ok (.ishl, 1) := by decide +kernel
theorem dX10_fromLesser_122 : decode cX10_fromLesser 122 = .ok (.iadd, 1) := by decide +kernel
theorem dX10_fromLesser_123 : decode cX10_fromLesser 123 = .ok (.istore 7, 2) := by decide +kernel
theorem dX10_fromLesser_125 : decode cX10_fromLesser 125 = .ok (.getstatic 27, 3) := by decide +kernel
theorem dX10_fromLesser_128 : decode cX10_fromLesser 128 = .ok (.iload 6, 2) := by decide +kernel
theorem dX10_fromLesser_130 : decode cX10_fromLesser 130 = .ok (.bipush 8, 2) := by decide +kernel
theorem dX10_fromLesser_132 : decode cX10_fromLesser 132 = .ok (.imul, 1) := by decide +kernel
theorem dX10_fromLesser_133 : decode cX10_fromLesser 133 = .ok (.iload 7, 2) := by decide +kernel
theorem dX10_fromLesser_135 : decode cX10_fromLesser 135 = .ok (.iadd, 1) := by decide +kernel
theorem dX10_fromLesser_136 : decode cX10_fromLesser 136 = .ok (.iaload, 1) := by decide +kernel
theorem dX10_fromLesser_137 : decode cX10_fromLesser 137 = .ok (.ireturn, 1) := by decide +kernel
theorem dX10_ofTwo_0 : decode cX10_ofTwo 0 = .ok (.iload_n 1, 1) := by decide +kernel
theorem dX10_ofTwo_1 : decode cX10_ofTwo 1 = .ok (.iconst 4, 1) := by decide +kernel
theorem dX10_ofTwo_2 : decode cX10_ofTwo 2 = .ok (.ishl, 1) := by decide +kernel
theorem dX10_ofTwo_3 : decode cX10_ofTwo 3 = .ok (.sipush 240, 3) := by decide +kernel
theorem dX10_ofTwo_6 : decode cX10_ofTwo 6 = .ok (.iand, 1) := by decide +kernel
theorem dX10_ofTwo_7 : decode cX10_ofTwo 7 = .ok (.istore_n 3, 1) := by decide +kernel
theorem dX10_ofTwo_8 : decode cX10_ofTwo 8 = .ok (.iload_n 1, 1) := by decide +kernel
theorem dX10_ofTwo_9 : decode cX10_ofTwo 9 = .ok (.sipush 240, 3) := by decide +kernel
theorem dX10_ofTwo_12 : decode cX10_ofTwo 12 = .ok (.iand, 1) := by decide +kernel
theorem dX10_ofTwo_13 : decode cX10_ofTwo 13 = .ok (.istore 4, 2) := by decide +kernel
theorem dX10_ofTwo_15 : decode cX10_ofTwo 15 = .ok (.iload_n 2, 1) := by decide +kernel
theorem dX10_ofTwo_16 : decode cX10_ofTwo 16 = .ok (.bipush 15, 2) := by decide +kernel
theorem dX10_ofTwo_18 : decode cX10_ofTwo 18 = .ok (.iand, 1) := by decide +kernel
theorem dX10_ofTwo_19 : decode cX10_ofTwo 19 = .ok (.istore 5, 2) := by decide +kernel
theorem dX10_ofTwo_21 : decode cX10_ofTwo 21 = .ok (.iload_n 2, 1) := by decide +kernel
theorem dX10_ofTwo_22 : decode cX10_ofTwo 22 = .ok (.iconst 4, 1) := by decide +kernel
theorem dX10_ofTwo_23 : decode cX10_ofTwo 23 = .ok (.ishr, 1) := by decide +kernel
theorem dX10_ofTwo_24 : decode cX10_ofTwo 24 = .ok (.bipush 15, 2) := by decide +kernel
theorem dX10_ofTwo_26 : decode cX10_ofTwo 26 = .ok (.iand, 1) := by decide +kernel
theorem dX10_ofTwo_27 : decode cX10_ofTwo 27 = .ok (.istore 6, 2) := by decide +kernel
theorem dX10_ofTwo_29 : decode cX10_ofTwo 29 = .ok (.aload_n 0, 1) := by decide +kernel
theorem dX10_ofTwo_30 : decode cX10_ofTwo 30 = .ok (.getfield 15, 3) := by decide +kernel
theorem dX10_ofTwo_33 : decode cX10_ofTwo 33 = .ok (.iload_n 3, 1) := by decide +kernel
theorem dX10_ofTwo_34 : decode cX10_ofTwo 34 = .ok (.iload 5, 2) := by decide +kernel
theorem dX10_ofTwo_36 : decode cX10_ofTwo 36 = .ok (.ior, 1) := by decide +kernel
theorem dX10_ofTwo_37 : decode cX10_ofTwo 37 = .ok (.iaload, 1) := by decide +kernel
theorem dX10_ofTwo_38 : decode cX10_ofTwo 38 = .ok (.aload_n 0, 1) := by decide +kernel
theorem dX10_ofTwo_39 : decode cX10_ofTwo 39 = .ok (.getfield 15, 3) := by decide +kernel
theorem dX10_ofTwo_42 : decode cX10_ofTwo 42 = .ok (.sipush 256, 3) := by decide +kernel
theorem dX10_ofTwo_45 : decode cX10_ofTwo 45 = .ok (.iload_n 3, 1) := by decide +kernel
theorem dX10_ofTwo_46 : decode cX10_ofTwo 46 = .ok (.ior, 1) := by decide +kernel
theorem dX10_ofTwo_47 : decode cX10_ofTwo 47 = .ok (.iload 6, 2) := by decide +kernel
theorem dX10_ofTwo_49 : decode cX10_ofTwo 49 = .ok (.ior, 1) := by decide +kernel
theorem dX10_ofTwo_50 : decode cX10_ofTwo 50 = .ok (.iaload, 1) := by decide +kernel
theorem dX10_ofTwo_51 : decode cX10_ofTwo 51 = .ok (.ior, 1) := by decide +kernel
theorem dX10_ofTwo_52 : decode cX10_ofTwo 52 = .ok (.aload_n 0, 1) := by decide +kernel
theorem dX10_ofTwo_53 : decode cX10_ofTwo 53 = .ok (.getfield 15, 3) := by decide +kernel
theorem dX10_ofTwo_56 : decode cX10_ofTwo 56 = .ok (.sipush 512, 3) := by decide +kernel
theorem dX10_ofTwo_59 : decode cX10_ofTwo 59 = .ok (.iload 4, 2) := by decide +kernel
theorem dX10_ofTwo_61 : decode cX10_ofTwo 61 = .ok (.ior, 1) := by decide +kernel
theorem dX10_ofTwo_62 : decode cX10_ofTwo 62 = .ok (.iload 5, 2) := by decide +kernel
theorem dX10_ofTwo_64 : decode cX10_ofTwo 64 = .ok (.ior, 1) := by decide +kernel
theorem dX10_ofTwo_65 : decode cX10_ofTwo 65 = .ok (.iaload, 1) := by decide +kernel
theorem dX10_ofTwo_66 : decode cX10_ofTwo 66 = .ok (.ior, 1) := by decide +kernel
theorem dX10_ofTwo_67 : decode cX10_ofTwo 67 = .ok (.aload_n 0, 1) := by decide +kernel
theorem dX10_ofTwo_68 : decode cX10_ofTwo 68 = .ok (.getfield 15, 3) := by decide +kernel
theorem dX10_ofTwo_71 : decode cX10_ofTwo 71 = .ok (.sipush 768, 3) := by decide +kernel
theorem dX10_ofTwo_74 : decode cX10_ofTwo 74 = .ok (.iload 4, 2) := by decide +kernel
theorem dX10_ofTwo_76 : decode cX10_ofTwo 76 = .ok (.ior, 1) := by decide +kernel
theorem dX10_ofTwo_77 : decode cX10_ofTwo 77 = .ok (.iload 6, 2) := by decide +kernel
theorem dX10_ofTwo_79 : decode cX10_ofTwo 79 = .ok (.ior, 1) := by decide +kernel
theorem dX10_ofTwo_80 : decode cX10_ofTwo 80 = .ok (.iaload, 1) := by decide +kernel
theorem dX10_ofTwo_81 : decode cX10_ofTwo 81 = .ok (.ior, 1) := by decide +kernel
theorem dX10_ofTwo_82 : decode cX10_ofTwo 82 = .ok (.ireturn, 1) := by decide +kernel
theorem dX10_only_0 : decode cX10_only 0 = .ok (.iload_n 0, 1) := by decide +kernel
theorem dX10_only_1 : decode cX10_only 1 = .ok (.invokestatic 22, 3) := by decide +kernel
theorem dX10_only_4 : decode cX10_only 4 = .ok (.iconst 1, 1) := by decide +kernel
theorem dX10_only_5 : decode cX10_only 5 = .ok (.if_icmp .ne 12, 3) := by decide +kernel
theorem dX10_only_8 : decode cX10_only 8 = .ok (.iload_n 0, 1) := by decide +kernel
theorem dX10_only_9 : decode cX10_only 9 = .ok (.iconst 1, 1) := by decide +kernel
theorem dX10_only_10 : decode cX10_only 10 = .ok (.isub, 1) := by decide +kernel
theorem dX10_only_11 : decode cX10_only 11 = .ok (.invokestatic 22, 3) := by decide +kernel
theorem dX10_only_14 : decode cX10_only 14 = .ok (.goto 4, 3) := by decide +kernel
theorem dX10_only_17 : decode cX10_only 17 = .ok (.iconst (-1), 1) := by decide +kernel
theorem dX10_only_18 : decode cX10_only 18 = .ok (.ireturn, 1) := by decide +kernel
theorem dX11_init_0 : decode cX11_init 0 = .ok (.aload_n 0, 1) := by decide +kernel
theorem dX11_init_1 : decode cX11_init 1 = .ok (.invokespecial 3, 3) := by decide +kernel
theorem dX11_init_4 : decode cX11_init 4 = .ok (.aload_n 0, 1) := by decide +kernel
theorem dX11_init_5 : decode cX11_init 5 = .ok (.bipush 8, 2) := by decide +kernel
theorem dX11_init_7 : decode cX11_init 7 = .ok (.anewarray 9, 3) := by decide +kernel
theorem dX11_init_10 : decode cX11_init 10 = .ok (.putfield 11, 3) := by decide +kernel
theorem dX11_init_13 : decode cX11_init 13 = .ok (.iconst 0, 1) := by decide +kernel
theorem dX11_init_14 : decode cX11_init 14 = .ok (.istore_n 1, 1) := by decide +kernel
theorem dX11_init_15 : decode cX11_init 15 = .ok (.iload_n 1, 1) := by decide +kernel
theorem dX11_init_16 : decode cX11_init 16 = .ok (.bipush 8, 2) := by decide +kernel
theorem dX11_init_18 : decode cX11_init 18 = .ok (.if_icmp .ge 22, 3) := by decide +kernel
theorem dX11_init_21 : decode cX11_init 21 = .ok (.aload_n 0, 1) := by decide +kernel
theorem dX11_init_22 : decode cX11_init 22 = .ok (.getfield 11, 3) := by decide +kernel
theorem dX11_init_25 : decode cX11_init 25 = .ok (.iload_n 1, 1) := by decide +kernel
theorem dX11_init_26 : decode cX11_init 26 = .ok (.new 9, 3) := by decide +kernel
theorem dX11_init_29 : decode cX11_init 29 = .ok (.dup, 1) := by decide +kernel
theorem dX11_init_30 : decode cX11_init 30 = .ok (.invokespecial 15, 3) := by decide +kernel
theorem dX11_init_33 : decode cX11_init 33 = .ok (.aastore, 1) := by decide +kernel
theorem dX11_init_34 : decode cX11_init 34 = .ok (.iinc 1 1, 3) := by decide +kernel
theorem dX11_init_37 : decode cX11_init 37 = .ok (.goto (-22), 3) := by decide +kernel
theorem dX11_init_40 : decode cX11_init 40 = .ok (.aload_n 0, 1) := by decide +kernel
theorem dX11_init_41 : decode cX11_init 41 = .ok (.new 16, 3) := by decide +kernel
theorem dX11_init_44 : decode cX11_init 44 = .ok (.dup, 1) := by decide +kernel
theorem dX11_init_45 : decode cX11_init 45 = .ok (.invokespecial 18, 3) := by decide +kernel
theorem dX11_init_48 : decode cX11_init 48 = .ok (.putfield 19, 3) := by decide +kernel
theorem dX11_init_51 : decode cX11_init 51 = .ok (.aload_n 0, 1) := by decide +kernel
theorem dX11_init_52 : decode cX11_init 52 = .ok (.new 23, 3) := by decide +kernel
theorem dX11_init_55 : decode cX11_init 55 = .ok (.dup, 1) := by decide +kernel
theorem dX11_init_56 : decode cX11_init 56 = .ok (.invokespecial 25, 3) := by decide +kernel
theorem dX11_init_59 : decode cX11_init 59 = .ok (.putfield 26, 3) := by decide +kernel
theorem dX11_init_62 : decode cX11_init 62 = .ok (.aload_n 0, 1) := by decide +kernel
theorem dX11_init_63 : decode cX11_init 63 = .ok (.new 30, 3) := by decide +kernel
theorem dX11_init_66 : decode cX11_init 66 = .ok (.dup, 1) := by decide +kernel
theorem dX11_init_67 : decode cX11_init 67 = .ok (.aload_n 0, 1) := by decide +kernel
theorem dX11_init_68 : decode cX11_init 68 = .ok (.getfield 26, 3) := by decide +kernel
theorem dX11_init_71 : decode cX11_init 71 = .ok (.invokespecial 32, 3) := by decide +kernel
theorem dX11_init_74 : decode cX11_init 74 = .ok (.putfield 35, 3) := by decide +kernel
theorem dX11_init_77 : decode cX11_init 77 = .ok (.aload_n 0, 1) := by decide +kernel
theorem dX11_init_78 : decode cX11_init 78 = .ok (.new 30, 3) := by decide +kernel
theorem dX11_init_81 : decode cX11_init 81 = .ok (.dup, 1) := by decide +kernel
theorem dX11_init_82 : decode cX11_init 82 = .ok (.aload_n 0, 1) := by decide +kernel
theorem dX11_init_83 : decode cX11_init 83 = .ok (.getfield 26, 3) := by decide +kernel
theorem dX11_init_86 : decode cX11_init 86 = .ok (.invokespecial 32, 3) := by decide +kernel
theorem dX11_init_89 : decode cX11_init 89 = .ok (.putfield 39, 3) := by decide +kernel
theorem dX11_init_92 : decode cX11_init 92 = .ok (.aload_n 0, 1) := by decide +kernel
theorem dX11_init_93 : decode cX11_init 93 = .ok (.iconst 0, 1) := by decide +kernel
theorem dX11_init_94 : decode cX11_init 94 = .ok (.putfield 42, 3) := by decide +kernel
theorem dX11_init_97 : decode cX11_init 97 = .ok (.aload_n 0, 1) := by decide +kernel
theorem dX11_init_98 : decode cX11_init 98 = .ok (.iconst 5, 1) := by decide +kernel
theorem dX11_init_99 : decode cX11_init 99 = .ok (.newarray .int, 2) := by decide +kernel
theorem dX11_init_101 : decode cX11_init 101 = .ok (.putfield 46, 3) := by decide +kernel
theorem dX11_init_104 : decode cX11_init 104 = .ok (.aload_n 0, 1) := by decide +kernel
theorem dX11_init_105 : decode cX11_init 105 = .ok (.new 50, 3) := by decide +kernel
theorem dX11_init_108 : decode cX11_init 108 = .ok (.dup, 1) := by decide +kernel
theorem dX11_init_109 : decode cX11_init 109 = .ok (.aload_n 0, 1) := by decide +kernel
theorem dX11_init_110 : decode cX11_init 110 = .ok (.getfield 26, 3) := by decide +kernel
theorem dX11_init_113 : decode cX11_init 113 = .ok (.invokespecial 52, 3) := by decide +kernel
theorem dX11_init_116 : decode cX11_init 116 = .ok (.putfield 53, 3) := by decide +kernel
theorem dX11_init_119 : decode cX11_init 119 = .ok (.aload_n 0, 1) := by decide +kernel
theorem dX11_init_120 : decode cX11_init 120 = .ok (.new 57, 3) := by decide +kernel
theorem dX11_init_123 : decode cX11_init 123 = .ok (.dup, 1) := by decide +kernel
theorem dX11_init_124 : decode cX11_init 124 = .ok (.invokespecial 59, 3) := by decide +kernel
theorem dX11_init_127 : decode cX11_init 127 = .ok (.putfield 60, 3) := by decide +kernel
theorem dX11_init_130 : decode cX11_init 130 = .ok (.aload_n 0, 1) := by decide +kernel
theorem dX11_init_131 : decode cX11_init 131 = .ok (.bipush 48, 2) := by decide +kernel
theorem dX11_init_133 : decode cX11_init 133 = .ok (.newarray .int, 2) := by decide +kernel
theorem dX11_init_135 : decode cX11_init 135 = .ok (.putfield 64, 3) := by decide +kernel
theorem dX11_init_138 : decode cX11_init 138 = .ok (.return_, 1) := by decide +kernel
theorem dX11_row_0 : decode cX11_row 0 = .ok (.iload_n 1, 1) := by decide +kernel
theorem dX11_row_1 : decode cX11_row 1 = .ok (.invokestatic 67, 3) := by decide +kernel
theorem dX11_row_4 : decode cX11_row 4 = .ok (.ifCond .eq 22, 3) := by decide +kernel
theorem dX11_row_7 : decode cX11_row 7 = .ok (.iload_n 2, 1) := by decide +kernel
theorem dX11_row_8 : decode cX11_row 8 = .ok (.ifCond .lt 18, 3) := by decide +kernel
theorem dX11_row_11 : decode cX11_row 11 = .ok (.iload_n 2, 1) := by decide +kernel
theorem dX11_row_12 : decode cX11_row 12 = .ok (.iconst 4, 1) := by decide +kernel
theorem dX11_row_13 : decode cX11_row 13 = .ok (.if_icmp .gt 13, 3) := by decide +kernel
theorem dX11_row_16 : decode cX11_row 16 = .ok (.iload_n 3, 1) := by decide +kernel
theorem dX11_row_17 : decode cX11_row 17 = .ok (.ifCond .lt 9, 3) := by decide +kernel
theorem dX11_row_20 : decode cX11_row 20 = .ok (.iload_n 3, 1) := by decide +kernel
theorem dX11_row_21 : decode cX11_row 21 = .ok (.bipush 64, 2) := by decide +kernel
theorem dX11_row_23 : decode cX11_row 23 = .ok (.if_icmp .le 10, 3) := by decide +kernel
theorem dX11_row_26 : decode cX11_row 26 = .ok (.aload_n 0, 1) := by decide +kernel
theorem dX11_row_27 : decode cX11_row 27 = .ok (.bipush (-2), 2) := by decide +kernel
theorem dX11_row_29 : decode cX11_row 29 = .ok (.invokevirtual 71, 3) := by decide +kernel
theorem dX11_row_32 : decode cX11_row 32 = .ok (.ireturn, 1) := by decide +kernel
theorem dX11_row_33 : decode cX11_row 33 = .ok (.aload_n 0, 1) := by decide +kernel
theorem dX11_row_34 : decode cX11_row 34 = .ok (.getfield 11, 3) := by decide +kernel
theorem dX11_row_37 : decode cX11_row 37 = .ok (.iload_n 1, 1) := by decide +kernel
theorem dX11_row_38 : decode cX11_row 38 = .ok (.aaload, 1) := by decide +kernel
theorem dX11_row_39 : decode cX11_row 39 = .ok (.iload_n 2, 1) := by decide +kernel
theorem dX11_row_40 : decode cX11_row 40 = .ok (.iload_n 3, 1) := by decide +kernel
theorem dX11_row_41 : decode cX11_row 41 = .ok (.invokevirtual 75, 3) := by decide +kernel
theorem dX11_row_44 : decode cX11_row 44 = .ok (.iconst 1, 1) := by decide +kernel
theorem dX11_row_45 : decode cX11_row 45 = .ok (.ireturn, 1) := by decide +kernel
theorem dX11_set_0 : decode cX11_set 0 = .ok (.iload_n 1, 1) := by decide +kernel
theorem dX11_set_1 : decode cX11_set 1 = .ok (.invokestatic 67, 3) := by decide +kernel
theorem dX11_set_4 : decode cX11_set 4 = .ok (.ifCond .ne 10, 3) := by decide +kernel
theorem dX11_set_7 : decode cX11_set 7 = .ok (.aload_n 0, 1) := by decide +kernel
theorem dX11_set_8 : decode cX11_set 8 = .ok (.bipush (-2), 2) := by decide +kernel
theorem dX11_set_10 : decode cX11_set 10 = .ok (.invokevirtual 71, 3) := by decide +kernel
theorem dX11_set_13 : decode cX11_set 13 = .ok (.ireturn, 1) := by decide +kernel
theorem dX11_set_14 : decode cX11_set 14 = .ok (.aload_n 0, 1) := by decide +kernel
theorem dX11_set_15 : decode cX11_set 15 = .ok (.getfield 11, 3) := by decide +kernel
theorem dX11_set_18 : decode cX11_set 18 = .ok (.iload_n 1, 1) := by decide +kernel
theorem dX11_set_19 : decode cX11_set 19 = .ok (.aaload, 1) := by decide +kernel
theorem dX11_set_20 : decode cX11_set 20 = .ok (.astore 5, 2) := by decide +kernel
theorem dX11_set_22 : decode cX11_set 22 = .ok (.aload 5, 2) := by decide +kernel
theorem dX11_set_24 : decode cX11_set 24 = .ok (.invokevirtual 79, 3) := by decide +kernel
theorem dX11_set_27 : decode cX11_set 27 = .ok (.ifCond .eq 10, 3) := by decide +kernel
theorem dX11_set_30 : decode cX11_set 30 = .ok (.aload_n 0, 1) := by decide +kernel
theorem dX11_set_31 : decode cX11_set 31 = .ok (.bipush (-3), 2) := by decide +kernel
theorem dX11_set_33 : decode cX11_set 33 = .ok (.invokevirtual 71, 3) := by decide +kernel
theorem dX11_set_36 : decode cX11_set 36 = .ok (.ireturn, 1) := by decide +kernel
theorem dX11_set_37 : decode cX11_set 37 = .ok (.aload 5, 2) := by decide +kernel
theorem dX11_set_39 : decode cX11_set 39 = .ok (.invokevirtual 83, 3) := by decide +kernel
theorem dX11_set_42 : decode cX11_set 42 = .ok (.ifCond .ne 10, 3) := by decide +kernel
theorem dX11_set_45 : decode cX11_set 45 = .ok (.aload_n 0, 1) := by decide +kernel
theorem dX11_set_46 : decode cX11_set 46 = .ok (.bipush (-4), 2) := by decide +kernel
theorem dX11_set_48 : decode cX11_set 48 = .ok (.invokevirtual 71, 3) := by decide +kernel
theorem dX11_set_51 : decode cX11_set 51 = .ok (.ireturn, 1) := by decide +kernel
theorem dX11_set_52 : decode cX11_set 52 = .ok (.iload_n 2, 1) := by decide +kernel
theorem dX11_set_53 : decode cX11_set 53 = .ok (.ifCond .lt 12, 3) := by decide +kernel
theorem dX11_set_56 : decode cX11_set 56 = .ok (.iload_n 2, 1) := by decide +kernel
theorem dX11_set_57 : decode cX11_set 57 = .ok (.aload 5, 2) := by decide +kernel
theorem dX11_set_59 : decode cX11_set 59 = .ok (.getfield 86, 3) := by decide +kernel
theorem dX11_set_62 : decode cX11_set 62 = .ok (.if_icmp .lt 10, 3) := by decide +kernel
theorem dX11_set_65 : decode cX11_set 65 = .ok (.aload_n 0, 1) := by decide +kernel
theorem dX11_set_66 : decode cX11_set 66 = .ok (.bipush (-2), 2) := by decide +kernel
theorem dX11_set_68 : decode cX11_set 68 = .ok (.invokevirtual 71, 3) := by decide +kernel
theorem dX11_set_71 : decode cX11_set 71 = .ok (.ireturn, 1) := by decide +kernel
theorem dX11_set_72 : decode cX11_set 72 = .ok (.aload 5, 2) := by decide +kernel
theorem dX11_set_74 : decode cX11_set 74 = .ok (.iload_n 2, 1) := by decide +kernel
theorem dX11_set_75 : decode cX11_set 75 = .ok (.lload_n 3, 1) := by decide +kernel
theorem dX11_set_76 : decode cX11_set 76 = .ok (.invokevirtual 90, 3) := by decide +kernel
theorem dX11_set_79 : decode cX11_set 79 = .ok (.iconst 1, 1) := by decide +kernel
theorem dX11_set_80 : decode cX11_set 80 = .ok (.ireturn, 1) := by decide +kernel
theorem dX11_copy_0 : decode cX11_copy 0 = .ok (.iload_n 1, 1) := by decide +kernel
theorem dX11_copy_1 : decode cX11_copy 1 = .ok (.invokestatic 67, 3) := by decide +kernel
theorem dX11_copy_4 : decode cX11_copy 4 = .ok (.ifCond .eq 10, 3) := by decide +kernel
theorem dX11_copy_7 : decode cX11_copy 7 = .ok (.iload_n 2, 1) := by decide +kernel
theorem dX11_copy_8 : decode cX11_copy 8 = .ok (.invokestatic 67, 3) := by decide +kernel
theorem dX11_copy_11 : decode cX11_copy 11 = .ok (.ifCond .ne 10, 3) := by decide +kernel
theorem dX11_copy_14 : decode cX11_copy 14 = .ok (.aload_n 0, 1) := by decide +kernel
theorem dX11_copy_15 : decode cX11_copy 15 = .ok (.bipush (-2), 2) := by decide +kernel
theorem dX11_copy_17 : decode cX11_copy 17 = .ok (.invokevirtual 71, 3) := by decide +kernel
theorem dX11_copy_20 : decode cX11_copy 20 = .ok (.ireturn, 1) := by decide +kernel
theorem dX11_copy_21 : decode cX11_copy 21 = .ok (.aload_n 0, 1) := by decide +kernel
theorem dX11_copy_22 : decode cX11_copy 22 = .ok (.getfield 11, 3) := by decide +kernel
theorem dX11_copy_25 : decode cX11_copy 25 = .ok (.iload_n 1, 1) := by decide +kernel
theorem dX11_copy_26 : decode cX11_copy 26 = .ok (.aaload, 1) := by decide +kernel
theorem dX11_copy_27 : decode cX11_copy 27 = .ok (.astore 6, 2) := by decide +kernel
theorem dX11_copy_29 : decode cX11_copy 29 = .ok (.aload_n 0, 1) := by decide +kernel
theorem dX11_copy_30 : decode cX11_copy 30 = .ok (.getfield 11, 3) := by decide +kernel
theorem dX11_copy_33 : decode cX11_copy 33 = .ok (.iload_n 2, 1) := by decide +kernel
theorem dX11_copy_34 : decode cX11_copy 34 = .ok (.aaload, 1) := by decide +kernel
theorem dX11_copy_35 : decode cX11_copy 35 = .ok (.astore 7, 2) := by decide +kernel
theorem dX11_copy_37 : decode cX11_copy 37 = .ok (.aload 6, 2) := by decide +kernel
theorem dX11_copy_39 : decode cX11_copy 39 = .ok (.invokevirtual 79, 3) := by decide +kernel
theorem dX11_copy_42 : decode cX11_copy 42 = .ok (.ifCond .ne 11, 3) := by decide +kernel
theorem dX11_copy_45 : decode cX11_copy 45 = .ok (.aload 7, 2) := by decide +kernel
theorem dX11_copy_47 : decode cX11_copy 47 = .ok (.invokevirtual 79, 3) := by decide +kernel
theorem dX11_copy_50 : decode cX11_copy 50 = .ok (.ifCond .eq 10, 3) := by decide +kernel
theorem dX11_copy_53 : decode cX11_copy 53 = .ok (.aload_n 0, 1) := by decide +kernel
theorem dX11_copy_54 : decode cX11_copy 54 = .ok (.bipush (-3), 2) := by decide +kernel
theorem dX11_copy_56 : decode cX11_copy 56 = .ok (.invokevirtual 71, 3) := by decide +kernel
theorem dX11_copy_59 : decode cX11_copy 59 = .ok (.ireturn, 1) := by decide +kernel
theorem dX11_copy_60 : decode cX11_copy 60 = .ok (.aload 6, 2) := by decide +kernel
theorem dX11_copy_62 : decode cX11_copy 62 = .ok (.invokevirtual 83, 3) := by decide +kernel
theorem dX11_copy_65 : decode cX11_copy 65 = .ok (.ifCond .eq 31, 3) := by decide +kernel
theorem dX11_copy_68 : decode cX11_copy 68 = .ok (.aload 7, 2) := by decide +kernel
theorem dX11_copy_70 : decode cX11_copy 70 = .ok (.invokevirtual 83, 3) := by decide +kernel
theorem dX11_copy_73 : decode cX11_copy 73 = .ok (.ifCond .eq 23, 3) := by decide +kernel
theorem dX11_copy_76 : decode cX11_copy 76 = .ok (.aload 6, 2) := by decide +kernel
theorem dX11_copy_78 : decode cX11_copy 78 = .ok (.getfield 94, 3) := by decide +kernel
theorem dX11_copy_81 : decode cX11_copy 81 = .ok (.aload 7, 2) := by decide +kernel
theorem dX11_copy_83 : decode cX11_copy 83 = .ok (.getfield 94, 3) := by decide +kernel
theorem dX11_copy_86 : decode cX11_copy 86 = .ok (.if_icmp .eq 10, 3) := by decide +kernel
theorem dX11_copy_89 : decode cX11_copy 89 = .ok (.aload_n 0, 1) := by decide +kernel
theorem dX11_copy_90 : decode cX11_copy 90 = .ok (.bipush (-3), 2) := by decide +kernel
theorem dX11_copy_92 : decode cX11_copy 92 = .ok (.invokevirtual 71, 3) := by decide +kernel
theorem dX11_copy_95 : decode cX11_copy 95 = .ok (.ireturn, 1) := by decide +kernel
theorem dX11_copy_96 : decode cX11_copy 96 = .ok (.aload 6, 2) := by decide +kernel
theorem dX11_copy_98 : decode cX11_copy 98 = .ok (.invokevirtual 83, 3) := by decide +kernel
theorem dX11_copy_101 : decode cX11_copy 101 = .ok (.ifCond .eq 11, 3) := by decide +kernel
theorem dX11_copy_104 : decode cX11_copy 104 = .ok (.aload 7, 2) := by decide +kernel
theorem dX11_copy_106 : decode cX11_copy 106 = .ok (.invokevirtual 83, 3) := by decide +kernel
theorem dX11_copy_109 : decode cX11_copy 109 = .ok (.ifCond .ne 10, 3) := by decide +kernel
theorem dX11_copy_112 : decode cX11_copy 112 = .ok (.aload_n 0, 1) := by decide +kernel
theorem dX11_copy_113 : decode cX11_copy 113 = .ok (.bipush (-4), 2) := by decide +kernel
theorem dX11_copy_115 : decode cX11_copy 115 = .ok (.invokevirtual 71, 3) := by decide +kernel
theorem dX11_copy_118 : decode cX11_copy 118 = .ok (.ireturn, 1) := by decide +kernel
theorem dX11_copy_119 : decode cX11_copy 119 = .ok (.aload 6, 2) := by decide +kernel
theorem dX11_copy_121 : decode cX11_copy 121 = .ok (.iload_n 3, 1) := by decide +kernel
theorem dX11_copy_122 : decode cX11_copy 122 = .ok (.iload 5, 2) := by decide +kernel
theorem dX11_copy_124 : decode cX11_copy 124 = .ok (.invokevirtual 97, 3) := by decide +kernel
theorem dX11_copy_127 : decode cX11_copy 127 = .ok (.ifCond .eq 15, 3) := by decide +kernel
theorem dX11_copy_130 : decode cX11_copy 130 = .ok (.aload 7, 2) := by decide +kernel
theorem dX11_copy_132 : decode cX11_copy 132 = .ok (.iload 4, 2) := by decide +kernel
theorem dX11_copy_134 : decode cX11_copy 134 = .ok (.iload 5, 2) := by decide +kernel
theorem dX11_copy_136 : decode cX11_copy 136 = .ok (.invokevirtual 97, 3) := by decide +kernel
theorem dX11_copy_139 : decode cX11_copy 139 = .ok (.ifCond .ne 10, 3) := by decide +kernel
theorem dX11_copy_142 : decode cX11_copy 142 = .ok (.aload_n 0, 1) := by decide +kernel
theorem dX11_copy_143 : decode cX11_copy 143 = .ok (.bipush (-2), 2) := by decide +kernel
theorem dX11_copy_145 : decode cX11_copy 145 = .ok (.invokevirtual 71, 3) := by decide +kernel
theorem dX11_copy_148 : decode cX11_copy 148 = .ok (.ireturn, 1) := by decide +kernel
theorem dX11_copy_149 : decode cX11_copy 149 = .ok (.aload 6, 2) := by decide +kernel
theorem dX11_copy_151 : decode cX11_copy 151 = .ok (.getfield 101, 3) := by decide +kernel
theorem dX11_copy_154 : decode cX11_copy 154 = .ok (.iload_n 3, 1) := by decide +kernel
theorem dX11_copy_155 : decode cX11_copy 155 = .ok (.aload 7, 2) := by decide +kernel
theorem dX11_copy_157 : decode cX11_copy 157 = .ok (.getfield 101, 3) := by decide +kernel
theorem dX11_copy_160 : decode cX11_copy 160 = .ok (.iload 4, 2) := by decide +kernel
theorem dX11_copy_162 : decode cX11_copy 162 = .ok (.iload 5, 2) := by decide +kernel
theorem dX11_copy_164 : decode cX11_copy 164 = .ok (.invokestatic 105, 3) := by decide +kernel
theorem dX11_copy_167 : decode cX11_copy 167 = .ok (.iload 5, 2) := by decide +kernel
theorem dX11_copy_169 : decode cX11_copy 169 = .ok (.ireturn, 1) := by decide +kernel
theorem dX11_element_0 : decode cX11_element 0 = .ok (.iload_n 1, 1) := by decide +kernel
theorem dX11_element_1 : decode cX11_element 1 = .ok (.invokestatic 67, 3) := by decide +kernel
theorem dX11_element_4 : decode cX11_element 4 = .ok (.ifCond .ne 5, 3) := by decide +kernel
theorem dX11_element_7 : decode cX11_element 7 = .ok (.lconst 0, 1) := by decide +kernel
theorem dX11_element_8 : decode cX11_element 8 = .ok (.lreturn, 1) := by decide +kernel
theorem dX11_element_9 : decode cX11_element 9 = .ok (.aload_n 0, 1) := by decide +kernel
theorem dX11_element_10 : decode cX11_element 10 = .ok (.getfield 11, 3) := by decide +kernel
theorem dX11_element_13 : decode cX11_element 13 = .ok (.iload_n 1, 1) := by decide +kernel
theorem dX11_element_14 : decode cX11_element 14 = .ok (.aaload, 1) := by decide +kernel
theorem dX11_element_15 : decode cX11_element 15 = .ok (.astore_n 3, 1) := by decide +kernel
theorem dX11_element_16 : decode cX11_element 16 = .ok (.aload_n 3, 1) := by decide +kernel
theorem dX11_element_17 : decode cX11_element 17 = .ok (.invokevirtual 83, 3) := by decide +kernel
theorem dX11_element_20 : decode cX11_element 20 = .ok (.ifCond .eq 24, 3) := by decide +kernel
theorem dX11_element_23 : decode cX11_element 23 = .ok (.iload_n 2, 1) := by decide +kernel
theorem dX11_element_24 : decode cX11_element 24 = .ok (.ifCond .lt 20, 3) := by decide +kernel
theorem dX11_element_27 : decode cX11_element 27 = .ok (.iload_n 2, 1) := by decide +kernel
theorem dX11_element_28 : decode cX11_element 28 = .ok (.aload_n 3, 1) := by decide +kernel
theorem dX11_element_29 : decode cX11_element 29 = .ok (.getfield 86, 3) := by decide +kernel
theorem dX11_element_32 : decode cX11_element 32 = .ok (.if_icmp .ge 12, 3) := by decide +kernel
theorem dX11_element_35 : decode cX11_element 35 = .ok (.aload_n 3, 1) := by decide +kernel
theorem dX11_element_36 : decode cX11_element 36 = .ok (.getfield 101, 3) := by decide +kernel
theorem dX11_element_39 : decode cX11_element 39 = .ok (.iload_n 2, 1) := by decide +kernel
theorem dX11_element_40 : decode cX11_element 40 = .ok (.laload, 1) := by decide +kernel
theorem dX11_element_41 : decode cX11_element 41 = .ok (.goto 4, 3) := by decide +kernel
theorem dX11_element_44 : decode cX11_element 44 = .ok (.lconst 0, 1) := by decide +kernel
theorem dX11_element_45 : decode cX11_element 45 = .ok (.lreturn, 1) := by decide +kernel
theorem dX11_holds_0 : decode cX11_holds 0 = .ok (.iload_n 1, 1) := by decide +kernel
theorem dX11_holds_1 : decode cX11_holds 1 = .ok (.invokestatic 67, 3) := by decide +kernel
theorem dX11_holds_4 : decode cX11_holds 4 = .ok (.ifCond .ne 5, 3) := by decide +kernel
theorem dX11_holds_7 : decode cX11_holds 7 = .ok (.iconst (-1), 1) := by decide +kernel
theorem dX11_holds_8 : decode cX11_holds 8 = .ok (.ireturn, 1) := by decide +kernel
theorem dX11_holds_9 : decode cX11_holds 9 = .ok (.aload_n 0, 1) := by decide +kernel
theorem dX11_holds_10 : decode cX11_holds 10 = .ok (.getfield 11, 3) := by decide +kernel
theorem dX11_holds_13 : decode cX11_holds 13 = .ok (.iload_n 1, 1) := by decide +kernel
theorem dX11_holds_14 : decode cX11_holds 14 = .ok (.aaload, 1) := by decide +kernel
theorem dX11_holds_15 : decode cX11_holds 15 = .ok (.astore_n 2, 1) := by decide +kernel
theorem dX11_holds_16 : decode cX11_holds 16 = .ok (.aload_n 2, 1) := by decide +kernel
theorem dX11_holds_17 : decode cX11_holds 17 = .ok (.invokevirtual 79, 3) := by decide +kernel
theorem dX11_holds_20 : decode cX11_holds 20 = .ok (.ifCond .eq 13, 3) := by decide +kernel
theorem dX11_holds_23 : decode cX11_holds 23 = .ok (.bipush 10, 2) := by decide +kernel
theorem dX11_holds_25 : decode cX11_holds 25 = .ok (.aload_n 2, 1) := by decide +kernel
theorem dX11_holds_26 : decode cX11_holds 26 = .ok (.getfield 111, 3) := by decide +kernel
theorem dX11_holds_29 : decode cX11_holds 29 = .ok (.iadd, 1) := by decide +kernel
theorem dX11_holds_30 : decode cX11_holds 30 = .ok (.goto 7, 3) := by decide +kernel
theorem dX11_holds_33 : decode cX11_holds 33 = .ok (.aload_n 2, 1) := by decide +kernel
theorem dX11_holds_34 : decode cX11_holds 34 = .ok (.getfield 94, 3) := by decide +kernel
theorem dX11_holds_37 : decode cX11_holds 37 = .ok (.ireturn, 1) := by decide +kernel
theorem dX11_show_0 : decode cX11_show 0 = .ok (.iload_n 1, 1) := by decide +kernel
theorem dX11_show_1 : decode cX11_show 1 = .ok (.invokestatic 67, 3) := by decide +kernel
theorem dX11_show_4 : decode cX11_show 4 = .ok (.ifCond .eq 19, 3) := by decide +kernel
theorem dX11_show_7 : decode cX11_show 7 = .ok (.iload_n 2, 1) := by decide +kernel
theorem dX11_show_8 : decode cX11_show 8 = .ok (.iconst (-1), 1) := by decide +kernel
theorem dX11_show_9 : decode cX11_show 9 = .ok (.if_icmp .eq 21, 3) := by decide +kernel
theorem dX11_show_12 : decode cX11_show 12 = .ok (.aload_n 0, 1) := by decide +kernel
theorem dX11_show_13 : decode cX11_show 13 = .ok (.getfield 35, 3) := by decide +kernel
theorem dX11_show_16 : decode cX11_show 16 = .ok (.iload_n 2, 1) := by decide +kernel
theorem dX11_show_17 : decode cX11_show 17 = .ok (.invokevirtual 114, 3) := by decide +kernel
theorem dX11_show_20 : decode cX11_show 20 = .ok (.ifCond .ne 10, 3) := by decide +kernel
theorem dX11_show_23 : decode cX11_show 23 = .ok (.aload_n 0, 1) := by decide +kernel
theorem dX11_show_24 : decode cX11_show 24 = .ok (.bipush (-2), 2) := by decide +kernel
theorem dX11_show_26 : decode cX11_show 26 = .ok (.invokevirtual 71, 3) := by decide +kernel
theorem dX11_show_29 : decode cX11_show 29 = .ok (.ireturn, 1) := by decide +kernel
theorem dX11_show_30 : decode cX11_show 30 = .ok (.aload_n 0, 1) := by decide +kernel
theorem dX11_show_31 : decode cX11_show 31 = .ok (.getfield 11, 3) := by decide +kernel
theorem dX11_show_34 : decode cX11_show 34 = .ok (.iload_n 1, 1) := by decide +kernel
theorem dX11_show_35 : decode cX11_show 35 = .ok (.aaload, 1) := by decide +kernel
theorem dX11_show_36 : decode cX11_show 36 = .ok (.iload_n 2, 1) := by decide +kernel
theorem dX11_show_37 : decode cX11_show 37 = .ok (.invokevirtual 116, 3) := by decide +kernel
theorem dX11_show_40 : decode cX11_show 40 = .ok (.iconst 1, 1) := by decide +kernel
theorem dX11_show_41 : decode cX11_show 41 = .ok (.ireturn, 1) := by decide +kernel
theorem dX11_says_0 : decode cX11_says 0 = .ok (.iload_n 1, 1) := by decide +kernel
theorem dX11_says_1 : decode cX11_says 1 = .ok (.invokestatic 67, 3) := by decide +kernel
theorem dX11_says_4 : decode cX11_says 4 = .ok (.ifCond .eq 12, 3) := by decide +kernel
theorem dX11_says_7 : decode cX11_says 7 = .ok (.iload_n 2, 1) := by decide +kernel
theorem dX11_says_8 : decode cX11_says 8 = .ok (.ifCond .lt 8, 3) := by decide +kernel
theorem dX11_says_11 : decode cX11_says 11 = .ok (.iload_n 2, 1) := by decide +kernel
theorem dX11_says_12 : decode cX11_says 12 = .ok (.iconst 4, 1) := by decide +kernel
theorem dX11_says_13 : decode cX11_says 13 = .ok (.if_icmp .le 10, 3) := by decide +kernel
theorem dX11_says_16 : decode cX11_says 16 = .ok (.aload_n 0, 1) := by decide +kernel
theorem dX11_says_17 : decode cX11_says 17 = .ok (.bipush (-2), 2) := by decide +kernel
theorem dX11_says_19 : decode cX11_says 19 = .ok (.invokevirtual 71, 3) := by decide +kernel
theorem dX11_says_22 : decode cX11_says 22 = .ok (.ireturn, 1) := by decide +kernel
theorem dX11_says_23 : decode cX11_says 23 = .ok (.aload_n 0, 1) := by decide +kernel
theorem dX11_says_24 : decode cX11_says 24 = .ok (.getfield 11, 3) := by decide +kernel
theorem dX11_says_27 : decode cX11_says 27 = .ok (.iload_n 1, 1) := by decide +kernel
theorem dX11_says_28 : decode cX11_says 28 = .ok (.aaload, 1) := by decide +kernel
theorem dX11_says_29 : decode cX11_says 29 = .ok (.astore_n 3, 1) := by decide +kernel
theorem dX11_says_30 : decode cX11_says 30 = .ok (.aload_n 3, 1) := by decide +kernel
theorem dX11_says_31 : decode cX11_says 31 = .ok (.invokevirtual 83, 3) := by decide +kernel
theorem dX11_says_34 : decode cX11_says 34 = .ok (.ifCond .eq 10, 3) := by decide +kernel
theorem dX11_says_37 : decode cX11_says 37 = .ok (.aload_n 0, 1) := by decide +kernel
theorem dX11_says_38 : decode cX11_says 38 = .ok (.bipush (-3), 2) := by decide +kernel
theorem dX11_says_40 : decode cX11_says 40 = .ok (.invokevirtual 71, 3) := by decide +kernel
theorem dX11_says_43 : decode cX11_says 43 = .ok (.ireturn, 1) := by decide +kernel
theorem dX11_says_44 : decode cX11_says 44 = .ok (.aload_n 0, 1) := by decide +kernel
theorem dX11_says_45 : decode cX11_says 45 = .ok (.getfield 35, 3) := by decide +kernel
theorem dX11_says_48 : decode cX11_says 48 = .ok (.aload_n 3, 1) := by decide +kernel
theorem dX11_says_49 : decode cX11_says 49 = .ok (.getfield 111, 3) := by decide +kernel
theorem dX11_says_52 : decode cX11_says 52 = .ok (.invokevirtual 114, 3) := by decide +kernel
theorem dX11_says_55 : decode cX11_says 55 = .ok (.ifCond .ne 10, 3) := by decide +kernel
theorem dX11_says_58 : decode cX11_says 58 = .ok (.aload_n 0, 1) := by decide +kernel
theorem dX11_says_59 : decode cX11_says 59 = .ok (.bipush (-4), 2) := by decide +kernel
theorem dX11_says_61 : decode cX11_says 61 = .ok (.invokevirtual 71, 3) := by decide +kernel
theorem dX11_says_64 : decode cX11_says 64 = .ok (.ireturn, 1) := by decide +kernel
theorem dX11_says_65 : decode cX11_says 65 = .ok (.aload_n 0, 1) := by decide +kernel
theorem dX11_says_66 : decode cX11_says 66 = .ok (.getfield 35, 3) := by decide +kernel
theorem dX11_says_69 : decode cX11_says 69 = .ok (.getfield 120, 3) := by decide +kernel
theorem dX11_says_72 : decode cX11_says 72 = .ok (.aload_n 3, 1) := by decide +kernel
theorem dX11_says_73 : decode cX11_says 73 = .ok (.getfield 111, 3) := by decide +kernel
theorem dX11_says_76 : decode cX11_says 76 = .ok (.aaload, 1) := by decide +kernel
theorem dX11_says_77 : decode cX11_says 77 = .ok (.astore 4, 2) := by decide +kernel
theorem dX11_says_79 : decode cX11_says 79 = .ok (.aload 4, 2) := by decide +kernel
theorem dX11_says_81 : decode cX11_says 81 = .ok (.iload_n 2, 1) := by decide +kernel
theorem dX11_says_82 : decode cX11_says 82 = .ok (.invokevirtual 124, 3) := by decide +kernel
theorem dX11_says_85 : decode cX11_says 85 = .ok (.ifCond .ne 10, 3) := by decide +kernel
theorem dX11_says_88 : decode cX11_says 88 = .ok (.aload_n 0, 1) := by decide +kernel
theorem dX11_says_89 : decode cX11_says 89 = .ok (.bipush (-3), 2) := by decide +kernel
theorem dX11_says_91 : decode cX11_says 91 = .ok (.invokevirtual 71, 3) := by decide +kernel
theorem dX11_says_94 : decode cX11_says 94 = .ok (.ireturn, 1) := by decide +kernel
theorem dX11_says_95 : decode cX11_says 95 = .ok (.iload_n 2, 1) := by decide +kernel
theorem dX11_says_96 : decode cX11_says 96 = .ok (.ifCond .ne 10, 3) := by decide +kernel
theorem dX11_says_99 : decode cX11_says 99 = .ok (.aload_n 3, 1) := by decide +kernel
theorem dX11_says_100 : decode cX11_says 100 = .ok (.getfield 111, 3) := by decide +kernel
theorem dX11_says_103 : decode cX11_says 103 = .ok (.goto 9, 3) := by decide +kernel
theorem dX11_says_106 : decode cX11_says 106 = .ok (.aload 4, 2) := by decide +kernel
theorem dX11_says_108 : decode cX11_says 108 = .ok (.iload_n 2, 1) := by decide +kernel
theorem dX11_says_109 : decode cX11_says 109 = .ok (.invokevirtual 129, 3) := by decide +kernel
theorem dX11_says_112 : decode cX11_says 112 = .ok (.ireturn, 1) := by decide +kernel
theorem dX11_field_0 : decode cX11_field 0 = .ok (.iload_n 1, 1) := by decide +kernel
theorem dX11_field_1 : decode cX11_field 1 = .ok (.ifCond .lt 15, 3) := by decide +kernel
theorem dX11_field_4 : decode cX11_field 4 = .ok (.iload_n 1, 1) := by decide +kernel
theorem dX11_field_5 : decode cX11_field 5 = .ok (.iconst 3, 1) := by decide +kernel
theorem dX11_field_6 : decode cX11_field 6 = .ok (.if_icmp .gt 10, 3) := by decide +kernel
theorem dX11_field_9 : decode cX11_field 9 = .ok (.iload_n 2, 1) := by decide +kernel
theorem dX11_field_10 : decode cX11_field 10 = .ok (.invokestatic 132, 3) := by decide +kernel
theorem dX11_field_13 : decode cX11_field 13 = .ok (.ifCond .ne 10, 3) := by decide +kernel
theorem dX11_field_16 : decode cX11_field 16 = .ok (.aload_n 0, 1) := by decide +kernel
theorem dX11_field_17 : decode cX11_field 17 = .ok (.bipush (-2), 2) := by decide +kernel
theorem dX11_field_19 : decode cX11_field 19 = .ok (.invokevirtual 71, 3) := by decide +kernel
theorem dX11_field_22 : decode cX11_field 22 = .ok (.ireturn, 1) := by decide +kernel
theorem dX11_field_23 : decode cX11_field 23 = .ok (.aload_n 0, 1) := by decide +kernel
theorem dX11_field_24 : decode cX11_field 24 = .ok (.getfield 35, 3) := by decide +kernel
theorem dX11_field_27 : decode cX11_field 27 = .ok (.getfield 135, 3) := by decide +kernel
theorem dX11_field_30 : decode cX11_field 30 = .ok (.bipush 10, 2) := by decide +kernel
theorem dX11_field_32 : decode cX11_field 32 = .ok (.if_icmp .lt 10, 3) := by decide +kernel
theorem dX11_field_35 : decode cX11_field 35 = .ok (.aload_n 0, 1) := by decide +kernel
theorem dX11_field_36 : decode cX11_field 36 = .ok (.bipush (-6), 2) := by decide +kernel
theorem dX11_field_38 : decode cX11_field 38 = .ok (.invokevirtual 71, 3) := by decide +kernel
theorem dX11_field_41 : decode cX11_field 41 = .ok (.ireturn, 1) := by decide +kernel
theorem dX11_field_42 : decode cX11_field 42 = .ok (.aload_n 0, 1) := by decide +kernel
theorem dX11_field_43 : decode cX11_field 43 = .ok (.getfield 35, 3) := by decide +kernel
theorem dX11_field_46 : decode cX11_field 46 = .ok (.iload_n 1, 1) := by decide +kernel
theorem dX11_field_47 : decode cX11_field 47 = .ok (.iload_n 2, 1) := by decide +kernel
theorem dX11_field_48 : decode cX11_field 48 = .ok (.invokevirtual 138, 3) := by decide +kernel
theorem dX11_field_51 : decode cX11_field 51 = .ok (.ireturn, 1) := by decide +kernel
theorem dX11_fieldOf_0 : decode cX11_fieldOf 0 = .ok (.aload_n 0, 1) := by decide +kernel
theorem dX11_fieldOf_1 : decode cX11_fieldOf 1 = .ok (.getfield 35, 3) := by decide +kernel
theorem dX11_fieldOf_4 : decode cX11_fieldOf 4 = .ok (.iload_n 1, 1) := by decide +kernel
theorem dX11_fieldOf_5 : decode cX11_fieldOf 5 = .ok (.invokevirtual 114, 3) := by decide +kernel
theorem dX11_fieldOf_8 : decode cX11_fieldOf 8 = .ok (.ifCond .ne 10, 3) := by decide +kernel
theorem dX11_fieldOf_11 : decode cX11_fieldOf 11 = .ok (.aload_n 0, 1) := by decide +kernel
theorem dX11_fieldOf_12 : decode cX11_fieldOf 12 = .ok (.bipush (-2), 2) := by decide +kernel
theorem dX11_fieldOf_14 : decode cX11_fieldOf 14 = .ok (.invokevirtual 71, 3) := by decide +kernel
theorem dX11_fieldOf_17 : decode cX11_fieldOf 17 = .ok (.ireturn, 1) := by decide +kernel
theorem dX11_fieldOf_18 : decode cX11_fieldOf 18 = .ok (.aload_n 0, 1) := by decide +kernel
theorem dX11_fieldOf_19 : decode cX11_fieldOf 19 = .ok (.getfield 35, 3) := by decide +kernel
theorem dX11_fieldOf_22 : decode cX11_fieldOf 22 = .ok (.getfield 120, 3) := by decide +kernel
theorem dX11_fieldOf_25 : decode cX11_fieldOf 25 = .ok (.iload_n 1, 1) := by decide +kernel
theorem dX11_fieldOf_26 : decode cX11_fieldOf 26 = .ok (.aaload, 1) := by decide +kernel
theorem dX11_fieldOf_27 : decode cX11_fieldOf 27 = .ok (.astore_n 3, 1) := by decide +kernel
theorem dX11_fieldOf_28 : decode cX11_fieldOf 28 = .ok (.iload_n 2, 1) := by decide +kernel
theorem dX11_fieldOf_29 : decode cX11_fieldOf 29 = .ok (.tableswitch 51 0 3 #[31, 36, 41, 46], 31) := by decide +kernel
theorem dX11_fieldOf_60 : decode cX11_fieldOf 60 = .ok (.aload_n 3, 1) := by decide +kernel
theorem dX11_fieldOf_61 : decode cX11_fieldOf 61 = .ok (.getfield 142, 3) := by decide +kernel
theorem dX11_fieldOf_64 : decode cX11_fieldOf 64 = .ok (.ireturn, 1) := by decide +kernel
theorem dX11_fieldOf_65 : decode cX11_fieldOf 65 = .ok (.aload_n 3, 1) := by decide +kernel
theorem dX11_fieldOf_66 : decode cX11_fieldOf 66 = .ok (.getfield 145, 3) := by decide +kernel
theorem dX11_fieldOf_69 : decode cX11_fieldOf 69 = .ok (.ireturn, 1) := by decide +kernel
theorem dX11_fieldOf_70 : decode cX11_fieldOf 70 = .ok (.aload_n 3, 1) := by decide +kernel
theorem dX11_fieldOf_71 : decode cX11_fieldOf 71 = .ok (.getfield 148, 3) := by decide +kernel
theorem dX11_fieldOf_74 : decode cX11_fieldOf 74 = .ok (.ireturn, 1) := by decide +kernel
theorem dX11_fieldOf_75 : decode cX11_fieldOf 75 = .ok (.aload_n 3, 1) := by decide +kernel
theorem dX11_fieldOf_76 : decode cX11_fieldOf 76 = .ok (.getfield 151, 3) := by decide +kernel
theorem dX11_fieldOf_79 : decode cX11_fieldOf 79 = .ok (.ireturn, 1) := by decide +kernel
theorem dX11_fieldOf_80 : decode cX11_fieldOf 80 = .ok (.aload_n 0, 1) := by decide +kernel
theorem dX11_fieldOf_81 : decode cX11_fieldOf 81 = .ok (.bipush (-2), 2) := by decide +kernel
theorem dX11_fieldOf_83 : decode cX11_fieldOf 83 = .ok (.invokevirtual 71, 3) := by decide +kernel
theorem dX11_fieldOf_86 : decode cX11_fieldOf 86 = .ok (.ireturn, 1) := by decide +kernel
theorem dX11_part_0 : decode cX11_part 0 = .ok (.aload_n 0, 1) := by decide +kernel
theorem dX11_part_1 : decode cX11_part 1 = .ok (.getfield 35, 3) := by decide +kernel
theorem dX11_part_4 : decode cX11_part 4 = .ok (.iload_n 1, 1) := by decide +kernel
theorem dX11_part_5 : decode cX11_part 5 = .ok (.invokevirtual 114, 3) := by decide +kernel
theorem dX11_part_8 : decode cX11_part 8 = .ok (.ifCond .eq 10, 3) := by decide +kernel
theorem dX11_part_11 : decode cX11_part 11 = .ok (.iload_n 2, 1) := by decide +kernel
theorem dX11_part_12 : decode cX11_part 12 = .ok (.invokestatic 132, 3) := by decide +kernel
theorem dX11_part_15 : decode cX11_part 15 = .ok (.ifCond .ne 10, 3) := by decide +kernel
theorem dX11_part_18 : decode cX11_part 18 = .ok (.aload_n 0, 1) := by decide +kernel
theorem dX11_part_19 : decode cX11_part 19 = .ok (.bipush (-2), 2) := by decide +kernel
theorem dX11_part_21 : decode cX11_part 21 = .ok (.invokevirtual 71, 3) := by decide +kernel
theorem dX11_part_24 : decode cX11_part 24 = .ok (.ireturn, 1) := by decide +kernel
theorem dX11_part_25 : decode cX11_part 25 = .ok (.aload_n 0, 1) := by decide +kernel
theorem dX11_part_26 : decode cX11_part 26 = .ok (.getfield 35, 3) := by decide +kernel
theorem dX11_part_29 : decode cX11_part 29 = .ok (.getfield 120, 3) := by decide +kernel
theorem dX11_part_32 : decode cX11_part 32 = .ok (.iload_n 1, 1) := by decide +kernel
theorem dX11_part_33 : decode cX11_part 33 = .ok (.aaload, 1) := by decide +kernel
theorem dX11_part_34 : decode cX11_part 34 = .ok (.astore_n 3, 1) := by decide +kernel
theorem dX11_part_35 : decode cX11_part 35 = .ok (.iload_n 2, 1) := by decide +kernel
theorem dX11_part_36 : decode cX11_part 36 = .ok (.aload_n 3, 1) := by decide +kernel
theorem dX11_part_37 : decode cX11_part 37 = .ok (.getfield 145, 3) := by decide +kernel
theorem dX11_part_40 : decode cX11_part 40 = .ok (.if_icmp .ge 10, 3) := by decide +kernel
theorem dX11_part_43 : decode cX11_part 43 = .ok (.aload_n 0, 1) := by decide +kernel
theorem dX11_part_44 : decode cX11_part 44 = .ok (.bipush (-2), 2) := by decide +kernel
theorem dX11_part_46 : decode cX11_part 46 = .ok (.invokevirtual 71, 3) := by decide +kernel
theorem dX11_part_49 : decode cX11_part 49 = .ok (.ireturn, 1) := by decide +kernel
theorem dX11_part_50 : decode cX11_part 50 = .ok (.aload_n 3, 1) := by decide +kernel
theorem dX11_part_51 : decode cX11_part 51 = .ok (.getfield 142, 3) := by decide +kernel
theorem dX11_part_54 : decode cX11_part 54 = .ok (.iconst 4, 1) := by decide +kernel
theorem dX11_part_55 : decode cX11_part 55 = .ok (.if_icmp .ne 10, 3) := by decide +kernel
theorem dX11_part_58 : decode cX11_part 58 = .ok (.aload_n 0, 1) := by decide +kernel
theorem dX11_part_59 : decode cX11_part 59 = .ok (.bipush (-5), 2) := by decide +kernel
theorem dX11_part_61 : decode cX11_part 61 = .ok (.invokevirtual 71, 3) := by decide +kernel
theorem dX11_part_64 : decode cX11_part 64 = .ok (.ireturn, 1) := by decide +kernel
theorem dX11_part_65 : decode cX11_part 65 = .ok (.aload_n 0, 1) := by decide +kernel
theorem dX11_part_66 : decode cX11_part 66 = .ok (.getfield 35, 3) := by decide +kernel
theorem dX11_part_69 : decode cX11_part 69 = .ok (.getfield 135, 3) := by decide +kernel
theorem dX11_part_72 : decode cX11_part 72 = .ok (.iconst 2, 1) := by decide +kernel
theorem dX11_part_73 : decode cX11_part 73 = .ok (.iadd, 1) := by decide +kernel
theorem dX11_part_74 : decode cX11_part 74 = .ok (.bipush 10, 2) := by decide +kernel
theorem dX11_part_76 : decode cX11_part 76 = .ok (.if_icmp .le 10, 3) := by decide +kernel
theorem dX11_part_79 : decode cX11_part 79 = .ok (.aload_n 0, 1) := by decide +kernel
theorem dX11_part_80 : decode cX11_part 80 = .ok (.bipush (-6), 2) := by decide +kernel
theorem dX11_part_82 : decode cX11_part 82 = .ok (.invokevirtual 71, 3) := by decide +kernel
theorem dX11_part_85 : decode cX11_part 85 = .ok (.ireturn, 1) := by decide +kernel
theorem dX11_part_86 : decode cX11_part 86 = .ok (.aload_n 0, 1) := by decide +kernel
theorem dX11_part_87 : decode cX11_part 87 = .ok (.getfield 35, 3) := by decide +kernel
theorem dX11_part_90 : decode cX11_part 90 = .ok (.aload_n 3, 1) := by decide +kernel
theorem dX11_part_91 : decode cX11_part 91 = .ok (.getfield 142, 3) := by decide +kernel
theorem dX11_part_94 : decode cX11_part 94 = .ok (.iload_n 2, 1) := by decide +kernel
theorem dX11_part_95 : decode cX11_part 95 = .ok (.invokevirtual 138, 3) := by decide +kernel
theorem dX11_part_98 : decode cX11_part 98 = .ok (.istore 4, 2) := by decide +kernel
theorem dX11_part_100 : decode cX11_part 100 = .ok (.aload_n 0, 1) := by decide +kernel
theorem dX11_part_101 : decode cX11_part 101 = .ok (.getfield 35, 3) := by decide +kernel
theorem dX11_part_104 : decode cX11_part 104 = .ok (.aload_n 3, 1) := by decide +kernel
theorem dX11_part_105 : decode cX11_part 105 = .ok (.getfield 142, 3) := by decide +kernel
theorem dX11_part_108 : decode cX11_part 108 = .ok (.iload_n 2, 1) := by decide +kernel
theorem dX11_part_109 : decode cX11_part 109 = .ok (.invokevirtual 138, 3) := by decide +kernel
theorem dX11_part_112 : decode cX11_part 112 = .ok (.pop, 1) := by decide +kernel
theorem dX11_part_113 : decode cX11_part 113 = .ok (.aload_n 3, 1) := by decide +kernel
theorem dX11_part_114 : decode cX11_part 114 = .ok (.iconst 4, 1) := by decide +kernel
theorem dX11_part_115 : decode cX11_part 115 = .ok (.putfield 142, 3) := by decide +kernel
theorem dX11_part_118 : decode cX11_part 118 = .ok (.aload_n 3, 1) := by decide +kernel
theorem dX11_part_119 : decode cX11_part 119 = .ok (.iload_n 2, 1) := by decide +kernel
theorem dX11_part_120 : decode cX11_part 120 = .ok (.putfield 148, 3) := by decide +kernel
theorem dX11_part_123 : decode cX11_part 123 = .ok (.aload_n 3, 1) := by decide +kernel
theorem dX11_part_124 : decode cX11_part 124 = .ok (.iload 4, 2) := by decide +kernel
theorem dX11_part_126 : decode cX11_part 126 = .ok (.putfield 151, 3) := by decide +kernel
theorem dX11_part_129 : decode cX11_part 129 = .ok (.iload 4, 2) := by decide +kernel
theorem dX11_part_131 : decode cX11_part 131 = .ok (.ireturn, 1) := by decide +kernel
theorem dX11_feed_0 : decode cX11_feed 0 = .ok (.iload_n 2, 1) := by decide +kernel
theorem dX11_feed_1 : decode cX11_feed 1 = .ok (.iconst 1, 1) := by decide +kernel
theorem dX11_feed_2 : decode cX11_feed 2 = .ok (.if_icmp .lt 8, 3) := by decide +kernel
theorem dX11_feed_5 : decode cX11_feed 5 = .ok (.iload_n 2, 1) := by decide +kernel
theorem dX11_feed_6 : decode cX11_feed 6 = .ok (.iconst 4, 1) := by decide +kernel
theorem dX11_feed_7 : decode cX11_feed 7 = .ok (.if_icmp .le 10, 3) := by decide +kernel
theorem dX11_feed_10 : decode cX11_feed 10 = .ok (.aload_n 0, 1) := by decide +kernel
theorem dX11_feed_11 : decode cX11_feed 11 = .ok (.bipush (-2), 2) := by decide +kernel
theorem dX11_feed_13 : decode cX11_feed 13 = .ok (.invokevirtual 71, 3) := by decide +kernel
theorem dX11_feed_16 : decode cX11_feed 16 = .ok (.ireturn, 1) := by decide +kernel
theorem dX11_feed_17 : decode cX11_feed 17 = .ok (.aload_n 0, 1) := by decide +kernel
theorem dX11_feed_18 : decode cX11_feed 18 = .ok (.getfield 19, 3) := by decide +kernel
theorem dX11_feed_21 : decode cX11_feed 21 = .ok (.getfield 154, 3) := by decide +kernel
theorem dX11_feed_24 : decode cX11_feed 24 = .ok (.iload_n 2, 1) := by decide +kernel
theorem dX11_feed_25 : decode cX11_feed 25 = .ok (.iadd, 1) := by decide +kernel
theorem dX11_feed_26 : decode cX11_feed 26 = .ok (.bipush 80, 2) := by decide +kernel
theorem dX11_feed_28 : decode cX11_feed 28 = .ok (.if_icmp .le 10, 3) := by decide +kernel
theorem dX11_feed_31 : decode cX11_feed 31 = .ok (.aload_n 0, 1) := by decide +kernel
theorem dX11_feed_32 : decode cX11_feed 32 = .ok (.bipush (-6), 2) := by decide +kernel
theorem dX11_feed_34 : decode cX11_feed 34 = .ok (.invokevirtual 71, 3) := by decide +kernel
theorem dX11_feed_37 : decode cX11_feed 37 = .ok (.ireturn, 1) := by decide +kernel
theorem dX11_feed_38 : decode cX11_feed 38 = .ok (.iload_n 2, 1) := by decide +kernel
theorem dX11_feed_39 : decode cX11_feed 39 = .ok (.iconst 1, 1) := by decide +kernel
theorem dX11_feed_40 : decode cX11_feed 40 = .ok (.isub, 1) := by decide +kernel
theorem dX11_feed_41 : decode cX11_feed 41 = .ok (.istore_n 3, 1) := by decide +kernel
theorem dX11_feed_42 : decode cX11_feed 42 = .ok (.iload_n 3, 1) := by decide +kernel
theorem dX11_feed_43 : decode cX11_feed 43 = .ok (.ifCond .lt 22, 3) := by decide +kernel
theorem dX11_feed_46 : decode cX11_feed 46 = .ok (.aload_n 0, 1) := by decide +kernel
theorem dX11_feed_47 : decode cX11_feed 47 = .ok (.getfield 19, 3) := by decide +kernel
theorem dX11_feed_50 : decode cX11_feed 50 = .ok (.iload_n 1, 1) := by decide +kernel
theorem dX11_feed_51 : decode cX11_feed 51 = .ok (.bipush 8, 2) := by decide +kernel
theorem dX11_feed_53 : decode cX11_feed 53 = .ok (.iload_n 3, 1) := by decide +kernel
theorem dX11_feed_54 : decode cX11_feed 54 = .ok (.imul, 1) := by decide +kernel
theorem dX11_feed_55 : decode cX11_feed 55 = .ok (.ishr, 1) := by decide +kernel
theorem dX11_feed_56 : decode cX11_feed 56 = .ok (.invokevirtual 155, 3) := by decide +kernel
theorem dX11_feed_59 : decode cX11_feed 59 = .ok (.iinc 3 (-1), 3) := by decide +kernel
theorem dX11_feed_62 : decode cX11_feed 62 = .ok (.goto (-20), 3) := by decide +kernel
theorem dX11_feed_65 : decode cX11_feed 65 = .ok (.aload_n 0, 1) := by decide +kernel
theorem dX11_feed_66 : decode cX11_feed 66 = .ok (.getfield 19, 3) := by decide +kernel
theorem dX11_feed_69 : decode cX11_feed 69 = .ok (.getfield 154, 3) := by decide +kernel
theorem dX11_feed_72 : decode cX11_feed 72 = .ok (.ireturn, 1) := by decide +kernel
theorem dX11_wipe_0 : decode cX11_wipe 0 = .ok (.aload_n 0, 1) := by decide +kernel
theorem dX11_wipe_1 : decode cX11_wipe 1 = .ok (.getfield 19, 3) := by decide +kernel
theorem dX11_wipe_4 : decode cX11_wipe 4 = .ok (.getfield 154, 3) := by decide +kernel
theorem dX11_wipe_7 : decode cX11_wipe 7 = .ok (.istore_n 1, 1) := by decide +kernel
theorem dX11_wipe_8 : decode cX11_wipe 8 = .ok (.aload_n 0, 1) := by decide +kernel
theorem dX11_wipe_9 : decode cX11_wipe 9 = .ok (.getfield 19, 3) := by decide +kernel
theorem dX11_wipe_12 : decode cX11_wipe 12 = .ok (.iconst 0, 1) := by decide +kernel
theorem dX11_wipe_13 : decode cX11_wipe 13 = .ok (.putfield 154, 3) := by decide +kernel
theorem dX11_wipe_16 : decode cX11_wipe 16 = .ok (.iload_n 1, 1) := by decide +kernel
theorem dX11_wipe_17 : decode cX11_wipe 17 = .ok (.ireturn, 1) := by decide +kernel
theorem dX11_deed_0 : decode cX11_deed 0 = .ok (.aload_n 0, 1) := by decide +kernel
theorem dX11_deed_1 : decode cX11_deed 1 = .ok (.getfield 35, 3) := by decide +kernel
theorem dX11_deed_4 : decode cX11_deed 4 = .ok (.getfield 158, 3) := by decide +kernel
theorem dX11_deed_7 : decode cX11_deed 7 = .ok (.istore_n 1, 1) := by decide +kernel
theorem dX11_deed_8 : decode cX11_deed 8 = .ok (.iload_n 1, 1) := by decide +kernel
theorem dX11_deed_9 : decode cX11_deed 9 = .ok (.bipush 24, 2) := by decide +kernel
theorem dX11_deed_11 : decode cX11_deed 11 = .ok (.if_icmp .lt 10, 3) := by decide +kernel
theorem dX11_deed_14 : decode cX11_deed 14 = .ok (.aload_n 0, 1) := by decide +kernel
theorem dX11_deed_15 : decode cX11_deed 15 = .ok (.bipush (-6), 2) := by decide +kernel
theorem dX11_deed_17 : decode cX11_deed 17 = .ok (.invokevirtual 71, 3) := by decide +kernel
theorem dX11_deed_20 : decode cX11_deed 20 = .ok (.ireturn, 1) := by decide +kernel
theorem dX11_deed_21 : decode cX11_deed 21 = .ok (.aload_n 0, 1) := by decide +kernel
theorem dX11_deed_22 : decode cX11_deed 22 = .ok (.getfield 19, 3) := by decide +kernel
theorem dX11_deed_25 : decode cX11_deed 25 = .ok (.aload_n 0, 1) := by decide +kernel
theorem dX11_deed_26 : decode cX11_deed 26 = .ok (.getfield 35, 3) := by decide +kernel
theorem dX11_deed_29 : decode cX11_deed 29 = .ok (.getfield 161, 3) := by decide +kernel
theorem dX11_deed_32 : decode cX11_deed 32 = .ok (.iload_n 1, 1) := by decide +kernel
theorem dX11_deed_33 : decode cX11_deed 33 = .ok (.aaload, 1) := by decide +kernel
theorem dX11_deed_34 : decode cX11_deed 34 = .ok (.aload_n 0, 1) := by decide +kernel
theorem dX11_deed_35 : decode cX11_deed 35 = .ok (.getfield 35, 3) := by decide +kernel
theorem dX11_deed_38 : decode cX11_deed 38 = .ok (.getfield 135, 3) := by decide +kernel
theorem dX11_deed_41 : decode cX11_deed 41 = .ok (.invokevirtual 165, 3) := by decide +kernel
theorem dX11_deed_44 : decode cX11_deed 44 = .ok (.istore_n 2, 1) := by decide +kernel
theorem dX11_deed_45 : decode cX11_deed 45 = .ok (.aload_n 0, 1) := by decide +kernel
theorem dX11_deed_46 : decode cX11_deed 46 = .ok (.getfield 19, 3) := by decide +kernel
theorem dX11_deed_49 : decode cX11_deed 49 = .ok (.iconst 0, 1) := by decide +kernel
theorem dX11_deed_50 : decode cX11_deed 50 = .ok (.putfield 154, 3) := by decide +kernel
theorem dX11_deed_53 : decode cX11_deed 53 = .ok (.iload_n 2, 1) := by decide +kernel
theorem dX11_deed_54 : decode cX11_deed 54 = .ok (.iconst (-1), 1) := by decide +kernel
theorem dX11_deed_55 : decode cX11_deed 55 = .ok (.if_icmp .eq 15, 3) := by decide +kernel
theorem dX11_deed_58 : decode cX11_deed 58 = .ok (.aload_n 0, 1) := by decide +kernel
theorem dX11_deed_59 : decode cX11_deed 59 = .ok (.bipush (-2), 2) := by decide +kernel
theorem dX11_deed_61 : decode cX11_deed 61 = .ok (.invokevirtual 71, 3) := by decide +kernel
theorem dX11_deed_64 : decode cX11_deed 64 = .ok (.pop, 1) := by decide +kernel
theorem dX11_deed_65 : decode cX11_deed 65 = .ok (.bipush (-20), 2) := by decide +kernel
theorem dX11_deed_67 : decode cX11_deed 67 = .ok (.iload_n 2, 1) := by decide +kernel
theorem dX11_deed_68 : decode cX11_deed 68 = .ok (.isub, 1) := by decide +kernel
theorem dX11_deed_69 : decode cX11_deed 69 = .ok (.ireturn, 1) := by decide +kernel
theorem dX11_deed_70 : decode cX11_deed 70 = .ok (.aload_n 0, 1) := by decide +kernel
theorem dX11_deed_71 : decode cX11_deed 71 = .ok (.getfield 35, 3) := by decide +kernel
theorem dX11_deed_74 : decode cX11_deed 74 = .ok (.dup, 1) := by decide +kernel
theorem dX11_deed_75 : decode cX11_deed 75 = .ok (.getfield 158, 3) := by decide +kernel
theorem dX11_deed_78 : decode cX11_deed 78 = .ok (.iconst 1, 1) := by decide +kernel
theorem dX11_deed_79 : decode cX11_deed 79 = .ok (.iadd, 1) := by decide +kernel
theorem dX11_deed_80 : decode cX11_deed 80 = .ok (.putfield 158, 3) := by decide +kernel
theorem dX11_deed_83 : decode cX11_deed 83 = .ok (.iload_n 1, 1) := by decide +kernel
theorem dX11_deed_84 : decode cX11_deed 84 = .ok (.ireturn, 1) := by decide +kernel
theorem dX11_deedOf_0 : decode cX11_deedOf 0 = .ok (.aload_n 0, 1) := by decide +kernel
theorem dX11_deedOf_1 : decode cX11_deedOf 1 = .ok (.getfield 35, 3) := by decide +kernel
theorem dX11_deedOf_4 : decode cX11_deedOf 4 = .ok (.iload_n 1, 1) := by decide +kernel
theorem dX11_deedOf_5 : decode cX11_deedOf 5 = .ok (.invokevirtual 169, 3) := by decide +kernel
theorem dX11_deedOf_8 : decode cX11_deedOf 8 = .ok (.ifCond .ne 10, 3) := by decide +kernel
theorem dX11_deedOf_11 : decode cX11_deedOf 11 = .ok (.aload_n 0, 1) := by decide +kernel
theorem dX11_deedOf_12 : decode cX11_deedOf 12 = .ok (.bipush (-2), 2) := by decide +kernel
theorem dX11_deedOf_14 : decode cX11_deedOf 14 = .ok (.invokevirtual 71, 3) := by decide +kernel
theorem dX11_deedOf_17 : decode cX11_deedOf 17 = .ok (.ireturn, 1) := by decide +kernel
theorem dX11_deedOf_18 : decode cX11_deedOf 18 = .ok (.aload_n 0, 1) := by decide +kernel
theorem dX11_deedOf_19 : decode cX11_deedOf 19 = .ok (.getfield 35, 3) := by decide +kernel
theorem dX11_deedOf_22 : decode cX11_deedOf 22 = .ok (.getfield 161, 3) := by decide +kernel
theorem dX11_deedOf_25 : decode cX11_deedOf 25 = .ok (.iload_n 1, 1) := by decide +kernel
theorem dX11_deedOf_26 : decode cX11_deedOf 26 = .ok (.aaload, 1) := by decide +kernel
theorem dX11_deedOf_27 : decode cX11_deedOf 27 = .ok (.astore_n 3, 1) := by decide +kernel
theorem dX11_deedOf_28 : decode cX11_deedOf 28 = .ok (.iload_n 2, 1) := by decide +kernel
theorem dX11_deedOf_29 : decode cX11_deedOf 29 = .ok (.tableswitch 93 0 6 #[43, 48, 53, 58, 63, 68, 80], 43) := by decide +kernel
theorem dX11_deedOf_72 : decode cX11_deedOf 72 = .ok (.aload_n 3, 1) := by decide +kernel
theorem dX11_deedOf_73 : decode cX11_deedOf 73 = .ok (.getfield 172, 3) := by decide +kernel
theorem dX11_deedOf_76 : decode cX11_deedOf 76 = .ok (.ireturn, 1) := by decide +kernel
theorem dX11_deedOf_77 : decode cX11_deedOf 77 = .ok (.aload_n 3, 1) := by decide +kernel
theorem dX11_deedOf_78 : decode cX11_deedOf 78 = .ok (.getfield 177, 3) := by decide +kernel
theorem dX11_deedOf_81 : decode cX11_deedOf 81 = .ok (.ireturn, 1) := by decide +kernel
theorem dX11_deedOf_82 : decode cX11_deedOf 82 = .ok (.aload_n 3, 1) := by decide +kernel
theorem dX11_deedOf_83 : decode cX11_deedOf 83 = .ok (.getfield 180, 3) := by decide +kernel
theorem dX11_deedOf_86 : decode cX11_deedOf 86 = .ok (.ireturn, 1) := by decide +kernel
theorem dX11_deedOf_87 : decode cX11_deedOf 87 = .ok (.aload_n 3, 1) := by decide +kernel
theorem dX11_deedOf_88 : decode cX11_deedOf 88 = .ok (.getfield 183, 3) := by decide +kernel
theorem dX11_deedOf_91 : decode cX11_deedOf 91 = .ok (.ireturn, 1) := by decide +kernel
theorem dX11_deedOf_92 : decode cX11_deedOf 92 = .ok (.aload_n 3, 1) := by decide +kernel
theorem dX11_deedOf_93 : decode cX11_deedOf 93 = .ok (.getfield 186, 3) := by decide +kernel
theorem dX11_deedOf_96 : decode cX11_deedOf 96 = .ok (.ireturn, 1) := by decide +kernel
theorem dX11_deedOf_97 : decode cX11_deedOf 97 = .ok (.aload_n 3, 1) := by decide +kernel
theorem dX11_deedOf_98 : decode cX11_deedOf 98 = .ok (.aload_n 0, 1) := by decide +kernel
theorem dX11_deedOf_99 : decode cX11_deedOf 99 = .ok (.getfield 35, 3) := by decide +kernel
theorem dX11_deedOf_102 : decode cX11_deedOf 102 = .ok (.getfield 189, 3) := by decide +kernel
theorem dX11_deedOf_105 : decode cX11_deedOf 105 = .ok (.invokevirtual 192, 3) := by decide +kernel
theorem dX11_deedOf_108 : decode cX11_deedOf 108 = .ok (.ireturn, 1) := by decide +kernel
theorem dX11_deedOf_109 : decode cX11_deedOf 109 = .ok (.aload_n 3, 1) := by decide +kernel
theorem dX11_deedOf_110 : decode cX11_deedOf 110 = .ok (.getfield 196, 3) := by decide +kernel
theorem dX11_deedOf_113 : decode cX11_deedOf 113 = .ok (.ifCond .eq 7, 3) := by decide +kernel
theorem dX11_deedOf_116 : decode cX11_deedOf 116 = .ok (.iconst 1, 1) := by decide +kernel
theorem dX11_deedOf_117 : decode cX11_deedOf 117 = .ok (.goto 4, 3) := by decide +kernel
theorem dX11_deedOf_120 : decode cX11_deedOf 120 = .ok (.iconst 0, 1) := by decide +kernel
theorem dX11_deedOf_121 : decode cX11_deedOf 121 = .ok (.ireturn, 1) := by decide +kernel
theorem dX11_deedOf_122 : decode cX11_deedOf 122 = .ok (.aload_n 0, 1) := by decide +kernel
theorem dX11_deedOf_123 : decode cX11_deedOf 123 = .ok (.bipush (-2), 2) := by decide +kernel
theorem dX11_deedOf_125 : decode cX11_deedOf 125 = .ok (.invokevirtual 71, 3) := by decide +kernel
theorem dX11_deedOf_128 : decode cX11_deedOf 128 = .ok (.ireturn, 1) := by decide +kernel
theorem dX11_drop_0 : decode cX11_drop 0 = .ok (.aload_n 0, 1) := by decide +kernel
theorem dX11_drop_1 : decode cX11_drop 1 = .ok (.getfield 35, 3) := by decide +kernel
theorem dX11_drop_4 : decode cX11_drop 4 = .ok (.iload_n 1, 1) := by decide +kernel
theorem dX11_drop_5 : decode cX11_drop 5 = .ok (.invokevirtual 169, 3) := by decide +kernel
theorem dX11_drop_8 : decode cX11_drop 8 = .ok (.ifCond .ne 10, 3) := by decide +kernel
theorem dX11_drop_11 : decode cX11_drop 11 = .ok (.aload_n 0, 1) := by decide +kernel
theorem dX11_drop_12 : decode cX11_drop 12 = .ok (.bipush (-2), 2) := by decide +kernel
theorem dX11_drop_14 : decode cX11_drop 14 = .ok (.invokevirtual 71, 3) := by decide +kernel
theorem dX11_drop_17 : decode cX11_drop 17 = .ok (.ireturn, 1) := by decide +kernel
theorem dX11_drop_18 : decode cX11_drop 18 = .ok (.aload_n 0, 1) := by decide +kernel
theorem dX11_drop_19 : decode cX11_drop 19 = .ok (.getfield 35, 3) := by decide +kernel
theorem dX11_drop_22 : decode cX11_drop 22 = .ok (.getfield 161, 3) := by decide +kernel
theorem dX11_drop_25 : decode cX11_drop 25 = .ok (.iload_n 1, 1) := by decide +kernel
theorem dX11_drop_26 : decode cX11_drop 26 = .ok (.aaload, 1) := by decide +kernel
theorem dX11_drop_27 : decode cX11_drop 27 = .ok (.astore_n 3, 1) := by decide +kernel
theorem dX11_drop_28 : decode cX11_drop 28 = .ok (.aload_n 3, 1) := by decide +kernel
theorem dX11_drop_29 : decode cX11_drop 29 = .ok (.getfield 196, 3) := by decide +kernel
theorem dX11_drop_32 : decode cX11_drop 32 = .ok (.ifCond .eq 7, 3) := by decide +kernel
theorem dX11_drop_35 : decode cX11_drop 35 = .ok (.iconst 1, 1) := by decide +kernel
theorem dX11_drop_36 : decode cX11_drop 36 = .ok (.goto 4, 3) := by decide +kernel
theorem dX11_drop_39 : decode cX11_drop 39 = .ok (.iconst 0, 1) := by decide +kernel
theorem dX11_drop_40 : decode cX11_drop 40 = .ok (.istore 4, 2) := by decide +kernel
theorem dX11_drop_42 : decode cX11_drop 42 = .ok (.aload_n 3, 1) := by decide +kernel
theorem dX11_drop_43 : decode cX11_drop 43 = .ok (.iload_n 2, 1) := by decide +kernel
theorem dX11_drop_44 : decode cX11_drop 44 = .ok (.putfield 196, 3) := by decide +kernel
theorem dX11_drop_47 : decode cX11_drop 47 = .ok (.iload 4, 2) := by decide +kernel
theorem dX11_drop_49 : decode cX11_drop 49 = .ok (.ireturn, 1) := by decide +kernel
theorem dX11_weigh_0 : decode cX11_weigh 0 = .ok (.aload_n 0, 1) := by decide +kernel
theorem dX11_weigh_1 : decode cX11_weigh 1 = .ok (.getfield 35, 3) := by decide +kernel
theorem dX11_weigh_4 : decode cX11_weigh 4 = .ok (.iload_n 1, 1) := by decide +kernel
theorem dX11_weigh_5 : decode cX11_weigh 5 = .ok (.invokevirtual 169, 3) := by decide +kernel
theorem dX11_weigh_8 : decode cX11_weigh 8 = .ok (.ifCond .eq 14, 3) := by decide +kernel
theorem dX11_weigh_11 : decode cX11_weigh 11 = .ok (.iload_n 2, 1) := by decide +kernel
theorem dX11_weigh_12 : decode cX11_weigh 12 = .ok (.iconst 1, 1) := by decide +kernel
theorem dX11_weigh_13 : decode cX11_weigh 13 = .ok (.if_icmp .lt 9, 3) := by decide +kernel
theorem dX11_weigh_16 : decode cX11_weigh 16 = .ok (.iload_n 2, 1) := by decide +kernel
theorem dX11_weigh_17 : decode cX11_weigh 17 = .ok (.bipush 99, 2) := by decide +kernel
theorem dX11_weigh_19 : decode cX11_weigh 19 = .ok (.if_icmp .le 10, 3) := by decide +kernel
theorem dX11_weigh_22 : decode cX11_weigh 22 = .ok (.aload_n 0, 1) := by decide +kernel
theorem dX11_weigh_23 : decode cX11_weigh 23 = .ok (.bipush (-2), 2) := by decide +kernel
theorem dX11_weigh_25 : decode cX11_weigh 25 = .ok (.invokevirtual 71, 3) := by decide +kernel
theorem dX11_weigh_28 : decode cX11_weigh 28 = .ok (.ireturn, 1) := by decide +kernel
theorem dX11_weigh_29 : decode cX11_weigh 29 = .ok (.aload_n 0, 1) := by decide +kernel
theorem dX11_weigh_30 : decode cX11_weigh 30 = .ok (.getfield 35, 3) := by decide +kernel
theorem dX11_weigh_33 : decode cX11_weigh 33 = .ok (.getfield 161, 3) := by decide +kernel
theorem dX11_weigh_36 : decode cX11_weigh 36 = .ok (.iload_n 1, 1) := by decide +kernel
theorem dX11_weigh_37 : decode cX11_weigh 37 = .ok (.aaload, 1) := by decide +kernel
theorem dX11_weigh_38 : decode cX11_weigh 38 = .ok (.astore_n 3, 1) := by decide +kernel
theorem dX11_weigh_39 : decode cX11_weigh 39 = .ok (.aload_n 3, 1) := by decide +kernel
theorem dX11_weigh_40 : decode cX11_weigh 40 = .ok (.getfield 183, 3) := by decide +kernel
theorem dX11_weigh_43 : decode cX11_weigh 43 = .ok (.istore 4, 2) := by decide +kernel
theorem dX11_weigh_45 : decode cX11_weigh 45 = .ok (.aload_n 3, 1) := by decide +kernel
theorem dX11_weigh_46 : decode cX11_weigh 46 = .ok (.iload_n 2, 1) := by decide +kernel
theorem dX11_weigh_47 : decode cX11_weigh 47 = .ok (.putfield 183, 3) := by decide +kernel
theorem dX11_weigh_50 : decode cX11_weigh 50 = .ok (.iload 4, 2) := by decide +kernel
theorem dX11_weigh_52 : decode cX11_weigh 52 = .ok (.ireturn, 1) := by decide +kernel
theorem dX11_mean_0 : decode cX11_mean 0 = .ok (.iload_n 1, 1) := by decide +kernel
theorem dX11_mean_1 : decode cX11_mean 1 = .ok (.ifCond .lt 20, 3) := by decide +kernel
theorem dX11_mean_4 : decode cX11_mean 4 = .ok (.iload_n 1, 1) := by decide +kernel
theorem dX11_mean_5 : decode cX11_mean 5 = .ok (.iconst 4, 1) := by decide +kernel
theorem dX11_mean_6 : decode cX11_mean 6 = .ok (.if_icmp .ge 15, 3) := by decide +kernel
theorem dX11_mean_9 : decode cX11_mean 9 = .ok (.iload_n 2, 1) := by decide +kernel
theorem dX11_mean_10 : decode cX11_mean 10 = .ok (.iconst (-1), 1) := by decide +kernel
theorem dX11_mean_11 : decode cX11_mean 11 = .ok (.if_icmp .eq 17, 3) := by decide +kernel
theorem dX11_mean_14 : decode cX11_mean 14 = .ok (.iload_n 2, 1) := by decide +kernel
theorem dX11_mean_15 : decode cX11_mean 15 = .ok (.invokestatic 199, 3) := by decide +kernel
theorem dX11_mean_18 : decode cX11_mean 18 = .ok (.ifCond .ne 10, 3) := by decide +kernel
theorem dX11_mean_21 : decode cX11_mean 21 = .ok (.aload_n 0, 1) := by decide +kernel
theorem dX11_mean_22 : decode cX11_mean 22 = .ok (.bipush (-2), 2) := by decide +kernel
theorem dX11_mean_24 : decode cX11_mean 24 = .ok (.invokevirtual 71, 3) := by decide +kernel
theorem dX11_mean_27 : decode cX11_mean 27 = .ok (.ireturn, 1) := by decide +kernel
theorem dX11_mean_28 : decode cX11_mean 28 = .ok (.aload_n 0, 1) := by decide +kernel
theorem dX11_mean_29 : decode cX11_mean 29 = .ok (.getfield 35, 3) := by decide +kernel
theorem dX11_mean_32 : decode cX11_mean 32 = .ok (.getfield 189, 3) := by decide +kernel
theorem dX11_mean_35 : decode cX11_mean 35 = .ok (.iload_n 1, 1) := by decide +kernel
theorem dX11_mean_36 : decode cX11_mean 36 = .ok (.iaload, 1) := by decide +kernel
theorem dX11_mean_37 : decode cX11_mean 37 = .ok (.istore_n 3, 1) := by decide +kernel
theorem dX11_mean_38 : decode cX11_mean 38 = .ok (.aload_n 0, 1) := by decide +kernel
theorem dX11_mean_39 : decode cX11_mean 39 = .ok (.getfield 35, 3) := by decide +kernel
theorem dX11_mean_42 : decode cX11_mean 42 = .ok (.getfield 189, 3) := by decide +kernel
theorem dX11_mean_45 : decode cX11_mean 45 = .ok (.iload_n 1, 1) := by decide +kernel
theorem dX11_mean_46 : decode cX11_mean 46 = .ok (.iload_n 2, 1) := by decide +kernel
theorem dX11_mean_47 : decode cX11_mean 47 = .ok (.iastore, 1) := by decide +kernel
theorem dX11_mean_48 : decode cX11_mean 48 = .ok (.iload_n 3, 1) := by decide +kernel
theorem dX11_mean_49 : decode cX11_mean 49 = .ok (.ireturn, 1) := by decide +kernel
theorem dX11_turned_0 : decode cX11_turned 0 = .ok (.iload_n 1, 1) := by decide +kernel
theorem dX11_turned_1 : decode cX11_turned 1 = .ok (.invokestatic 202, 3) := by decide +kernel
theorem dX11_turned_4 : decode cX11_turned 4 = .ok (.ifCond .eq 15, 3) := by decide +kernel
theorem dX11_turned_7 : decode cX11_turned 7 = .ok (.aload_n 0, 1) := by decide +kernel
theorem dX11_turned_8 : decode cX11_turned 8 = .ok (.getfield 26, 3) := by decide +kernel
theorem dX11_turned_11 : decode cX11_turned 11 = .ok (.getfield 205, 3) := by decide +kernel
theorem dX11_turned_14 : decode cX11_turned 14 = .ok (.iload_n 1, 1) := by decide +kernel
theorem dX11_turned_15 : decode cX11_turned 15 = .ok (.iaload, 1) := by decide +kernel
theorem dX11_turned_16 : decode cX11_turned 16 = .ok (.goto 9, 3) := by decide +kernel
theorem dX11_turned_19 : decode cX11_turned 19 = .ok (.aload_n 0, 1) := by decide +kernel
theorem dX11_turned_20 : decode cX11_turned 20 = .ok (.bipush (-2), 2) := by decide +kernel
theorem dX11_turned_22 : decode cX11_turned 22 = .ok (.invokevirtual 71, 3) := by decide +kernel
theorem dX11_turned_25 : decode cX11_turned 25 = .ok (.ireturn, 1) := by decide +kernel
theorem dX11_three_0 : decode cX11_three 0 = .ok (.iload_n 1, 1) := by decide +kernel
theorem dX11_three_1 : decode cX11_three 1 = .ok (.invokestatic 199, 3) := by decide +kernel
theorem dX11_three_4 : decode cX11_three 4 = .ok (.ifCond .eq 23, 3) := by decide +kernel
theorem dX11_three_7 : decode cX11_three 7 = .ok (.iload_n 2, 1) := by decide +kernel
theorem dX11_three_8 : decode cX11_three 8 = .ok (.invokestatic 199, 3) := by decide +kernel
theorem dX11_three_11 : decode cX11_three 11 = .ok (.ifCond .eq 16, 3) := by decide +kernel
theorem dX11_three_14 : decode cX11_three 14 = .ok (.getstatic 208, 3) := by decide +kernel
theorem dX11_three_17 : decode cX11_three 17 = .ok (.iload_n 1, 1) := by decide +kernel
theorem dX11_three_18 : decode cX11_three 18 = .ok (.bipush 8, 2) := by decide +kernel
theorem dX11_three_20 : decode cX11_three 20 = .ok (.imul, 1) := by decide +kernel
theorem dX11_three_21 : decode cX11_three 21 = .ok (.iload_n 2, 1) := by decide +kernel
theorem dX11_three_22 : decode cX11_three 22 = .ok (.iadd, 1) := by decide +kernel
theorem dX11_three_23 : decode cX11_three 23 = .ok (.iaload, 1) := by decide +kernel
theorem dX11_three_24 : decode cX11_three 24 = .ok (.goto 9, 3) := by decide +kernel
theorem dX11_three_27 : decode cX11_three 27 = .ok (.aload_n 0, 1) := by decide +kernel
theorem dX11_three_28 : decode cX11_three 28 = .ok (.bipush (-2), 2) := by decide +kernel
theorem dX11_three_30 : decode cX11_three 30 = .ok (.invokevirtual 71, 3) := by decide +kernel
theorem dX11_three_33 : decode cX11_three 33 = .ok (.ireturn, 1) := by decide +kernel
theorem dX11_follow_0 : decode cX11_follow 0 = .ok (.iload_n 1, 1) := by decide +kernel
theorem dX11_follow_1 : decode cX11_follow 1 = .ok (.invokestatic 202, 3) := by decide +kernel
theorem dX11_follow_4 : decode cX11_follow 4 = .ok (.ifCond .eq 22, 3) := by decide +kernel
theorem dX11_follow_7 : decode cX11_follow 7 = .ok (.iload_n 2, 1) := by decide +kernel
theorem dX11_follow_8 : decode cX11_follow 8 = .ok (.invokestatic 202, 3) := by decide +kernel
theorem dX11_follow_11 : decode cX11_follow 11 = .ok (.ifCond .eq 15, 3) := by decide +kernel
theorem dX11_follow_14 : decode cX11_follow 14 = .ok (.aload_n 0, 1) := by decide +kernel
theorem dX11_follow_15 : decode cX11_follow 15 = .ok (.getfield 26, 3) := by decide +kernel
theorem dX11_follow_18 : decode cX11_follow 18 = .ok (.iload_n 1, 1) := by decide +kernel
theorem dX11_follow_19 : decode cX11_follow 19 = .ok (.iload_n 2, 1) := by decide +kernel
theorem dX11_follow_20 : decode cX11_follow 20 = .ok (.invokevirtual 211, 3) := by decide +kernel
theorem dX11_follow_23 : decode cX11_follow 23 = .ok (.goto 9, 3) := by decide +kernel
theorem dX11_follow_26 : decode cX11_follow 26 = .ok (.aload_n 0, 1) := by decide +kernel
theorem dX11_follow_27 : decode cX11_follow 27 = .ok (.bipush (-2), 2) := by decide +kernel
theorem dX11_follow_29 : decode cX11_follow 29 = .ok (.invokevirtual 71, 3) := by decide +kernel
theorem dX11_follow_32 : decode cX11_follow 32 = .ok (.ireturn, 1) := by decide +kernel
theorem dX11_ways_0 : decode cX11_ways 0 = .ok (.aload_n 0, 1) := by decide +kernel
theorem dX11_ways_1 : decode cX11_ways 1 = .ok (.iload_n 1, 1) := by decide +kernel
theorem dX11_ways_2 : decode cX11_ways 2 = .ok (.iload_n 2, 1) := by decide +kernel
theorem dX11_ways_3 : decode cX11_ways 3 = .ok (.invokevirtual 214, 3) := by decide +kernel
theorem dX11_ways_6 : decode cX11_ways 6 = .ok (.ifCond .eq 10, 3) := by decide +kernel
theorem dX11_ways_9 : decode cX11_ways 9 = .ok (.iload_n 3, 1) := by decide +kernel
theorem dX11_ways_10 : decode cX11_ways 10 = .ok (.invokestatic 132, 3) := by decide +kernel
theorem dX11_ways_13 : decode cX11_ways 13 = .ok (.ifCond .ne 10, 3) := by decide +kernel
theorem dX11_ways_16 : decode cX11_ways 16 = .ok (.aload_n 0, 1) := by decide +kernel
theorem dX11_ways_17 : decode cX11_ways 17 = .ok (.bipush (-2), 2) := by decide +kernel
theorem dX11_ways_19 : decode cX11_ways 19 = .ok (.invokevirtual 71, 3) := by decide +kernel
theorem dX11_ways_22 : decode cX11_ways 22 = .ok (.ireturn, 1) := by decide +kernel
theorem dX11_ways_23 : decode cX11_ways 23 = .ok (.aload_n 0, 1) := by decide +kernel
theorem dX11_ways_24 : decode cX11_ways 24 = .ok (.getfield 35, 3) := by decide +kernel
theorem dX11_ways_27 : decode cX11_ways 27 = .ok (.aload_n 0, 1) := by decide +kernel
theorem dX11_ways_28 : decode cX11_ways 28 = .ok (.getfield 53, 3) := by decide +kernel
theorem dX11_ways_31 : decode cX11_ways 31 = .ok (.getfield 217, 3) := by decide +kernel
theorem dX11_ways_34 : decode cX11_ways 34 = .ok (.iload_n 3, 1) := by decide +kernel
theorem dX11_ways_35 : decode cX11_ways 35 = .ok (.aload_n 0, 1) := by decide +kernel
theorem dX11_ways_36 : decode cX11_ways 36 = .ok (.getfield 35, 3) := by decide +kernel
theorem dX11_ways_39 : decode cX11_ways 39 = .ok (.iload_n 3, 1) := by decide +kernel
theorem dX11_ways_40 : decode cX11_ways 40 = .ok (.invokevirtual 221, 3) := by decide +kernel
theorem dX11_ways_43 : decode cX11_ways 43 = .ok (.invokevirtual 224, 3) := by decide +kernel
theorem dX11_ways_46 : decode cX11_ways 46 = .ok (.aload_n 0, 1) := by decide +kernel
theorem dX11_ways_47 : decode cX11_ways 47 = .ok (.getfield 53, 3) := by decide +kernel
theorem dX11_ways_50 : decode cX11_ways 50 = .ok (.getfield 217, 3) := by decide +kernel
theorem dX11_ways_53 : decode cX11_ways 53 = .ok (.getfield 228, 3) := by decide +kernel
theorem dX11_ways_56 : decode cX11_ways 56 = .ok (.iload_n 1, 1) := by decide +kernel
theorem dX11_ways_57 : decode cX11_ways 57 = .ok (.bipush 10, 2) := by decide +kernel
theorem dX11_ways_59 : decode cX11_ways 59 = .ok (.imul, 1) := by decide +kernel
theorem dX11_ways_60 : decode cX11_ways 60 = .ok (.iload_n 2, 1) := by decide +kernel
theorem dX11_ways_61 : decode cX11_ways 61 = .ok (.iadd, 1) := by decide +kernel
theorem dX11_ways_62 : decode cX11_ways 62 = .ok (.iaload, 1) := by decide +kernel
theorem dX11_ways_63 : decode cX11_ways 63 = .ok (.ireturn, 1) := by decide +kernel
theorem dX11_shrink_0 : decode cX11_shrink 0 = .ok (.iload_n 1, 1) := by decide +kernel
theorem dX11_shrink_1 : decode cX11_shrink 1 = .ok (.invokestatic 132, 3) := by decide +kernel
theorem dX11_shrink_4 : decode cX11_shrink 4 = .ok (.ifCond .ne 10, 3) := by decide +kernel
theorem dX11_shrink_7 : decode cX11_shrink 7 = .ok (.aload_n 0, 1) := by decide +kernel
theorem dX11_shrink_8 : decode cX11_shrink 8 = .ok (.bipush (-2), 2) := by decide +kernel
theorem dX11_shrink_10 : decode cX11_shrink 10 = .ok (.invokevirtual 71, 3) := by decide +kernel
theorem dX11_shrink_13 : decode cX11_shrink 13 = .ok (.ireturn, 1) := by decide +kernel
theorem dX11_shrink_14 : decode cX11_shrink 14 = .ok (.aload_n 0, 1) := by decide +kernel
theorem dX11_shrink_15 : decode cX11_shrink 15 = .ok (.getfield 53, 3) := by decide +kernel
theorem dX11_shrink_18 : decode cX11_shrink 18 = .ok (.getfield 217, 3) := by decide +kernel
theorem dX11_shrink_21 : decode cX11_shrink 21 = .ok (.astore_n 2, 1) := by decide +kernel
theorem dX11_shrink_22 : decode cX11_shrink 22 = .ok (.aload_n 0, 1) := by decide +kernel
theorem dX11_shrink_23 : decode cX11_shrink 23 = .ok (.getfield 35, 3) := by decide +kernel
theorem dX11_shrink_26 : decode cX11_shrink 26 = .ok (.aload_n 2, 1) := by decide +kernel
theorem dX11_shrink_27 : decode cX11_shrink 27 = .ok (.iload_n 1, 1) := by decide +kernel
theorem dX11_shrink_28 : decode cX11_shrink 28 = .ok (.aload_n 0, 1) := by decide +kernel
theorem dX11_shrink_29 : decode cX11_shrink 29 = .ok (.getfield 35, 3) := by decide +kernel
theorem dX11_shrink_32 : decode cX11_shrink 32 = .ok (.iload_n 1, 1) := by decide +kernel
theorem dX11_shrink_33 : decode cX11_shrink 33 = .ok (.invokevirtual 221, 3) := by decide +kernel
theorem dX11_shrink_36 : decode cX11_shrink 36 = .ok (.invokevirtual 224, 3) := by decide +kernel
theorem dX11_shrink_39 : decode cX11_shrink 39 = .ok (.aload_n 2, 1) := by decide +kernel
theorem dX11_shrink_40 : decode cX11_shrink 40 = .ok (.invokevirtual 233, 3) := by decide +kernel
theorem dX11_shrink_43 : decode cX11_shrink 43 = .ok (.istore_n 3, 1) := by decide +kernel
theorem dX11_shrink_44 : decode cX11_shrink 44 = .ok (.iconst 0, 1) := by decide +kernel
theorem dX11_shrink_45 : decode cX11_shrink 45 = .ok (.istore 4, 2) := by decide +kernel
theorem dX11_shrink_47 : decode cX11_shrink 47 = .ok (.iload 4, 2) := by decide +kernel
theorem dX11_shrink_49 : decode cX11_shrink 49 = .ok (.iload_n 3, 1) := by decide +kernel
theorem dX11_shrink_50 : decode cX11_shrink 50 = .ok (.if_icmp .ge 27, 3) := by decide +kernel
theorem dX11_shrink_53 : decode cX11_shrink 53 = .ok (.aload_n 0, 1) := by decide +kernel
theorem dX11_shrink_54 : decode cX11_shrink 54 = .ok (.getfield 64, 3) := by decide +kernel
theorem dX11_shrink_57 : decode cX11_shrink 57 = .ok (.iload 4, 2) := by decide +kernel
theorem dX11_shrink_59 : decode cX11_shrink 59 = .ok (.aload_n 2, 1) := by decide +kernel
theorem dX11_shrink_60 : decode cX11_shrink 60 = .ok (.getfield 228, 3) := by decide +kernel
theorem dX11_shrink_63 : decode cX11_shrink 63 = .ok (.getstatic 237, 3) := by decide +kernel
