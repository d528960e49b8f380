theorem dX10_failedCommand_0 : decode cX10_failedCommand 0 = .ok (.aload_n 0, 1) := by decide +kernel
theorem dX10_failedCommand_1 : decode cX10_failedCommand 1 = .ok (.aload_n 0, 1) := by decide +kernel
theorem dX10_failedCommand_2 : decode cX10_failedCommand 2 = .ok (.getfield 13, 3) := by decide +kernel
theorem dX10_failedCommand_5 : decode cX10_failedCommand 5 = .ok (.ifCond .ge 7, 3) := by decide +kernel
theorem dX10_failedCommand_8 : decode cX10_failedCommand 8 = .ok (.iconst 1, 1) := by decide +kernel
theorem dX10_failedCommand_9 : decode cX10_failedCommand 9 = .ok (.goto 4, 3) := by decide +kernel
theorem dX10_failedCommand_12 : decode cX10_failedCommand 12 = .ok (.iconst 0, 1) := by decide +kernel
theorem dX10_failedCommand_13 : decode cX10_failedCommand 13 = .ok (.putfield 53, 3) := by decide +kernel
theorem dX10_failedCommand_16 : decode cX10_failedCommand 16 = .ok (.aload_n 0, 1) := by decide +kernel
theorem dX10_failedCommand_17 : decode cX10_failedCommand 17 = .ok (.getfield 53, 3) := by decide +kernel
theorem dX10_failedCommand_20 : decode cX10_failedCommand 20 = .ok (.ifCond .ne 10, 3) := by decide +kernel
theorem dX10_failedCommand_23 : decode cX10_failedCommand 23 = .ok (.aload_n 0, 1) := by decide +kernel
theorem dX10_failedCommand_24 : decode cX10_failedCommand 24 = .ok (.getfield 13, 3) := by decide +kernel
theorem dX10_failedCommand_27 : decode cX10_failedCommand 27 = .ok (.goto 4, 3) := by decide +kernel
theorem dX10_failedCommand_30 : decode cX10_failedCommand 30 = .ok (.iconst 0, 1) := by decide +kernel
theorem dX10_failedCommand_31 : decode cX10_failedCommand 31 = .ok (.ireturn, 1) := by decide +kernel
theorem dX10_writes_0 : decode cX10_writes 0 = .ok (.aload_n 0, 1) := by decide +kernel
theorem dX10_writes_1 : decode cX10_writes 1 = .ok (.getfield 41, 3) := by decide +kernel
theorem dX10_writes_4 : decode cX10_writes 4 = .ok (.aload_n 0, 1) := by decide +kernel
theorem dX10_writes_5 : decode cX10_writes 5 = .ok (.getfield 219, 3) := by decide +kernel
theorem dX10_writes_8 : decode cX10_writes 8 = .ok (.iload_n 1, 1) := by decide +kernel
theorem dX10_writes_9 : decode cX10_writes 9 = .ok (.iastore, 1) := by decide +kernel
theorem dX10_writes_10 : decode cX10_writes 10 = .ok (.aload_n 0, 1) := by decide +kernel
theorem dX10_writes_11 : decode cX10_writes 11 = .ok (.dup, 1) := by decide +kernel
theorem dX10_writes_12 : decode cX10_writes 12 = .ok (.getfield 219, 3) := by decide +kernel
theorem dX10_writes_15 : decode cX10_writes 15 = .ok (.iconst 1, 1) := by decide +kernel
theorem dX10_writes_16 : decode cX10_writes 16 = .ok (.iadd, 1) := by decide +kernel
theorem dX10_writes_17 : decode cX10_writes 17 = .ok (.putfield 219, 3) := by decide +kernel
theorem dX10_writes_20 : decode cX10_writes 20 = .ok (.return_, 1) := by decide +kernel
theorem dX10_writesNumber_0 : decode cX10_writesNumber 0 = .ok (.iconst 1, 1) := by decide +kernel
theorem dX10_writesNumber_1 : decode cX10_writesNumber 1 = .ok (.istore_n 2, 1) := by decide +kernel
theorem dX10_writesNumber_2 : decode cX10_writesNumber 2 = .ok (.iload_n 1, 1) := by decide +kernel
theorem dX10_writesNumber_3 : decode cX10_writesNumber 3 = .ok (.iload_n 2, 1) := by decide +kernel
theorem dX10_writesNumber_4 : decode cX10_writesNumber 4 = .ok (.idiv, 1) := by decide +kernel
theorem dX10_writesNumber_5 : decode cX10_writesNumber 5 = .ok (.bipush 10, 2) := by decide +kernel
theorem dX10_writesNumber_7 : decode cX10_writesNumber 7 = .ok (.if_icmp .lt 11, 3) := by decide +kernel
theorem dX10_writesNumber_10 : decode cX10_writesNumber 10 = .ok (.iload_n 2, 1) := by decide +kernel
theorem dX10_writesNumber_11 : decode cX10_writesNumber 11 = .ok (.bipush 10, 2) := by decide +kernel
theorem dX10_writesNumber_13 : decode cX10_writesNumber 13 = .ok (.imul, 1) := by decide +kernel
theorem dX10_writesNumber_14 : decode cX10_writesNumber 14 = .ok (.istore_n 2, 1) := by decide +kernel
theorem dX10_writesNumber_15 : decode cX10_writesNumber 15 = .ok (.goto (-13), 3) := by decide +kernel
theorem dX10_writesNumber_18 : decode cX10_writesNumber 18 = .ok (.iload_n 2, 1) := by decide +kernel
theorem dX10_writesNumber_19 : decode cX10_writesNumber 19 = .ok (.ifCond .le 24, 3) := by decide +kernel
theorem dX10_writesNumber_22 : decode cX10_writesNumber 22 = .ok (.aload_n 0, 1) := by decide +kernel
theorem dX10_writesNumber_23 : decode cX10_writesNumber 23 = .ok (.bipush 48, 2) := by decide +kernel
theorem dX10_writesNumber_25 : decode cX10_writesNumber 25 = .ok (.iload_n 1, 1) := by decide +kernel
theorem dX10_writesNumber_26 : decode cX10_writesNumber 26 = .ok (.iload_n 2, 1) := by decide +kernel
theorem dX10_writesNumber_27 : decode cX10_writesNumber 27 = .ok (.idiv, 1) := by decide +kernel
theorem dX10_writesNumber_28 : decode cX10_writesNumber 28 = .ok (.bipush 10, 2) := by decide +kernel
theorem dX10_writesNumber_30 : decode cX10_writesNumber 30 = .ok (.irem, 1) := by decide +kernel
theorem dX10_writesNumber_31 : decode cX10_writesNumber 31 = .ok (.iadd, 1) := by decide +kernel
theorem dX10_writesNumber_32 : decode cX10_writesNumber 32 = .ok (.invokevirtual 222, 3) := by decide +kernel
theorem dX10_writesNumber_35 : decode cX10_writesNumber 35 = .ok (.iload_n 2, 1) := by decide +kernel
theorem dX10_writesNumber_36 : decode cX10_writesNumber 36 = .ok (.bipush 10, 2) := by decide +kernel
theorem dX10_writesNumber_38 : decode cX10_writesNumber 38 = .ok (.idiv, 1) := by decide +kernel
theorem dX10_writesNumber_39 : decode cX10_writesNumber 39 = .ok (.istore_n 2, 1) := by decide +kernel
theorem dX10_writesNumber_40 : decode cX10_writesNumber 40 = .ok (.goto (-22), 3) := by decide +kernel
theorem dX10_writesNumber_43 : decode cX10_writesNumber 43 = .ok (.return_, 1) := by decide +kernel
theorem dX10_describeChain_0 : decode cX10_describeChain 0 = .ok (.aload_n 0, 1) := by decide +kernel
theorem dX10_describeChain_1 : decode cX10_describeChain 1 = .ok (.iconst 0, 1) := by decide +kernel
theorem dX10_describeChain_2 : decode cX10_describeChain 2 = .ok (.putfield 53, 3) := by decide +kernel
theorem dX10_describeChain_5 : decode cX10_describeChain 5 = .ok (.aload_n 0, 1) := by decide +kernel
theorem dX10_describeChain_6 : decode cX10_describeChain 6 = .ok (.iconst 0, 1) := by decide +kernel
theorem dX10_describeChain_7 : decode cX10_describeChain 7 = .ok (.putfield 219, 3) := by decide +kernel
theorem dX10_describeChain_10 : decode cX10_describeChain 10 = .ok (.iconst 0, 1) := by decide +kernel
theorem dX10_describeChain_11 : decode cX10_describeChain 11 = .ok (.istore_n 1, 1) := by decide +kernel
theorem dX10_describeChain_12 : decode cX10_describeChain 12 = .ok (.iload_n 1, 1) := by decide +kernel
theorem dX10_describeChain_13 : decode cX10_describeChain 13 = .ok (.aload_n 0, 1) := by decide +kernel
theorem dX10_describeChain_14 : decode cX10_describeChain 14 = .ok (.getfield 16, 3) := by decide +kernel
theorem dX10_describeChain_17 : decode cX10_describeChain 17 = .ok (.iconst 0, 1) := by decide +kernel
theorem dX10_describeChain_18 : decode cX10_describeChain 18 = .ok (.iaload, 1) := by decide +kernel
theorem dX10_describeChain_19 : decode cX10_describeChain 19 = .ok (.if_icmp .ge 57, 3) := by decide +kernel
theorem dX10_describeChain_22 : decode cX10_describeChain 22 = .ok (.iload_n 1, 1) := by decide +kernel
theorem dX10_describeChain_23 : decode cX10_describeChain 23 = .ok (.ifCond .le 9, 3) := by decide +kernel
theorem dX10_describeChain_26 : decode cX10_describeChain 26 = .ok (.aload_n 0, 1) := by decide +kernel
theorem dX10_describeChain_27 : decode cX10_describeChain 27 = .ok (.bipush 62, 2) := by decide +kernel
theorem dX10_describeChain_29 : decode cX10_describeChain 29 = .ok (.invokevirtual 222, 3) := by decide +kernel
theorem dX10_describeChain_32 : decode cX10_describeChain 32 = .ok (.aload_n 0, 1) := by decide +kernel
theorem dX10_describeChain_33 : decode cX10_describeChain 33 = .ok (.aload_n 0, 1) := by decide +kernel
theorem dX10_describeChain_34 : decode cX10_describeChain 34 = .ok (.getfield 16, 3) := by decide +kernel
theorem dX10_describeChain_37 : decode cX10_describeChain 37 = .ok (.iconst 5, 1) := by decide +kernel
theorem dX10_describeChain_38 : decode cX10_describeChain 38 = .ok (.iload_n 1, 1) := by decide +kernel
theorem dX10_describeChain_39 : decode cX10_describeChain 39 = .ok (.iadd, 1) := by decide +kernel
theorem dX10_describeChain_40 : decode cX10_describeChain 40 = .ok (.iaload, 1) := by decide +kernel
theorem dX10_describeChain_41 : decode cX10_describeChain 41 = .ok (.invokevirtual 222, 3) := by decide +kernel
theorem dX10_describeChain_44 : decode cX10_describeChain 44 = .ok (.aload_n 0, 1) := by decide +kernel
theorem dX10_describeChain_45 : decode cX10_describeChain 45 = .ok (.getfield 16, 3) := by decide +kernel
theorem dX10_describeChain_48 : decode cX10_describeChain 48 = .ok (.iconst 5, 1) := by decide +kernel
theorem dX10_describeChain_49 : decode cX10_describeChain 49 = .ok (.iload_n 1, 1) := by decide +kernel
theorem dX10_describeChain_50 : decode cX10_describeChain 50 = .ok (.iadd, 1) := by decide +kernel
theorem dX10_describeChain_51 : decode cX10_describeChain 51 = .ok (.iaload, 1) := by decide +kernel
theorem dX10_describeChain_52 : decode cX10_describeChain 52 = .ok (.bipush 102, 2) := by decide +kernel
theorem dX10_describeChain_54 : decode cX10_describeChain 54 = .ok (.if_icmp .eq 16, 3) := by decide +kernel
theorem dX10_describeChain_57 : decode cX10_describeChain 57 = .ok (.aload_n 0, 1) := by decide +kernel
theorem dX10_describeChain_58 : decode cX10_describeChain 58 = .ok (.aload_n 0, 1) := by decide +kernel
theorem dX10_describeChain_59 : decode cX10_describeChain 59 = .ok (.getfield 16, 3) := by decide +kernel
theorem dX10_describeChain_62 : decode cX10_describeChain 62 = .ok (.bipush 13, 2) := by decide +kernel
theorem dX10_describeChain_64 : decode cX10_describeChain 64 = .ok (.iload_n 1, 1) := by decide +kernel
theorem dX10_describeChain_65 : decode cX10_describeChain 65 = .ok (.iadd, 1) := by decide +kernel
theorem dX10_describeChain_66 : decode cX10_describeChain 66 = .ok (.iaload, 1) := by decide +kernel
theorem dX10_describeChain_67 : decode cX10_describeChain 67 = .ok (.invokevirtual 225, 3) := by decide +kernel
theorem dX10_describeChain_70 : decode cX10_describeChain 70 = .ok (.iinc 1 1, 3) := by decide +kernel
theorem dX10_describeChain_73 : decode cX10_describeChain 73 = .ok (.goto (-61), 3) := by decide +kernel
theorem dX10_describeChain_76 : decode cX10_describeChain 76 = .ok (.aload_n 0, 1) := by decide +kernel
theorem dX10_describeChain_77 : decode cX10_describeChain 77 = .ok (.getfield 219, 3) := by decide +kernel
theorem dX10_describeChain_80 : decode cX10_describeChain 80 = .ok (.ireturn, 1) := by decide +kernel
theorem dX10_describeTank_0 : decode cX10_describeTank 0 = .ok (.aload_n 0, 1) := by decide +kernel
theorem dX10_describeTank_1 : decode cX10_describeTank 1 = .ok (.aload_n 0, 1) := by decide +kernel
theorem dX10_describeTank_2 : decode cX10_describeTank 2 = .ok (.iload_n 1, 1) := by decide +kernel
theorem dX10_describeTank_3 : decode cX10_describeTank 3 = .ok (.invokevirtual 150, 3) := by decide +kernel
theorem dX10_describeTank_6 : decode cX10_describeTank 6 = .ok (.ifCond .eq 7, 3) := by decide +kernel
theorem dX10_describeTank_9 : decode cX10_describeTank 9 = .ok (.iconst 0, 1) := by decide +kernel
theorem dX10_describeTank_10 : decode cX10_describeTank 10 = .ok (.goto 4, 3) := by decide +kernel
theorem dX10_describeTank_13 : decode cX10_describeTank 13 = .ok (.iconst 1, 1) := by decide +kernel
theorem dX10_describeTank_14 : decode cX10_describeTank 14 = .ok (.putfield 53, 3) := by decide +kernel
theorem dX10_describeTank_17 : decode cX10_describeTank 17 = .ok (.aload_n 0, 1) := by decide +kernel
theorem dX10_describeTank_18 : decode cX10_describeTank 18 = .ok (.getfield 53, 3) := by decide +kernel
theorem dX10_describeTank_21 : decode cX10_describeTank 21 = .ok (.ifCond .eq 5, 3) := by decide +kernel
theorem dX10_describeTank_24 : decode cX10_describeTank 24 = .ok (.iconst 0, 1) := by decide +kernel
theorem dX10_describeTank_25 : decode cX10_describeTank 25 = .ok (.ireturn, 1) := by decide +kernel
theorem dX10_describeTank_26 : decode cX10_describeTank 26 = .ok (.aload_n 0, 1) := by decide +kernel
theorem dX10_describeTank_27 : decode cX10_describeTank 27 = .ok (.iconst 0, 1) := by decide +kernel
theorem dX10_describeTank_28 : decode cX10_describeTank 28 = .ok (.putfield 219, 3) := by decide +kernel
theorem dX10_describeTank_31 : decode cX10_describeTank 31 = .ok (.aload_n 0, 1) := by decide +kernel
theorem dX10_describeTank_32 : decode cX10_describeTank 32 = .ok (.aload_n 0, 1) := by decide +kernel
theorem dX10_describeTank_33 : decode cX10_describeTank 33 = .ok (.getfield 16, 3) := by decide +kernel
theorem dX10_describeTank_36 : decode cX10_describeTank 36 = .ok (.iload_n 1, 1) := by decide +kernel
theorem dX10_describeTank_37 : decode cX10_describeTank 37 = .ok (.iconst 2, 1) := by decide +kernel
theorem dX10_describeTank_38 : decode cX10_describeTank 38 = .ok (.invokestatic 144, 3) := by decide +kernel
theorem dX10_describeTank_41 : decode cX10_describeTank 41 = .ok (.iaload, 1) := by decide +kernel
theorem dX10_describeTank_42 : decode cX10_describeTank 42 = .ok (.invokevirtual 225, 3) := by decide +kernel
theorem dX10_describeTank_45 : decode cX10_describeTank 45 = .ok (.aload_n 0, 1) := by decide +kernel
theorem dX10_describeTank_46 : decode cX10_describeTank 46 = .ok (.bipush 47, 2) := by decide +kernel
theorem dX10_describeTank_48 : decode cX10_describeTank 48 = .ok (.invokevirtual 222, 3) := by decide +kernel
theorem dX10_describeTank_51 : decode cX10_describeTank 51 = .ok (.aload_n 0, 1) := by decide +kernel
theorem dX10_describeTank_52 : decode cX10_describeTank 52 = .ok (.aload_n 0, 1) := by decide +kernel
theorem dX10_describeTank_53 : decode cX10_describeTank 53 = .ok (.getfield 16, 3) := by decide +kernel
theorem dX10_describeTank_56 : decode cX10_describeTank 56 = .ok (.iload_n 1, 1) := by decide +kernel
theorem dX10_describeTank_57 : decode cX10_describeTank 57 = .ok (.iconst 0, 1) := by decide +kernel
theorem dX10_describeTank_58 : decode cX10_describeTank 58 = .ok (.invokestatic 144, 3) := by decide +kernel
theorem dX10_describeTank_61 : decode cX10_describeTank 61 = .ok (.iaload, 1) := by decide +kernel
theorem dX10_describeTank_62 : decode cX10_describeTank 62 = .ok (.invokevirtual 225, 3) := by decide +kernel
theorem dX10_describeTank_65 : decode cX10_describeTank 65 = .ok (.aload_n 0, 1) := by decide +kernel
theorem dX10_describeTank_66 : decode cX10_describeTank 66 = .ok (.getfield 16, 3) := by decide +kernel
theorem dX10_describeTank_69 : decode cX10_describeTank 69 = .ok (.iload_n 1, 1) := by decide +kernel
theorem dX10_describeTank_70 : decode cX10_describeTank 70 = .ok (.iconst 1, 1) := by decide +kernel
theorem dX10_describeTank_71 : decode cX10_describeTank 71 = .ok (.invokestatic 144, 3) := by decide +kernel
theorem dX10_describeTank_74 : decode cX10_describeTank 74 = .ok (.iaload, 1) := by decide +kernel
theorem dX10_describeTank_75 : decode cX10_describeTank 75 = .ok (.sipush 9999, 3) := by decide +kernel
theorem dX10_describeTank_78 : decode cX10_describeTank 78 = .ok (.if_icmp .eq 23, 3) := by decide +kernel
theorem dX10_describeTank_81 : decode cX10_describeTank 81 = .ok (.aload_n 0, 1) := by decide +kernel
theorem dX10_describeTank_82 : decode cX10_describeTank 82 = .ok (.bipush 64, 2) := by decide +kernel
theorem dX10_describeTank_84 : decode cX10_describeTank 84 = .ok (.invokevirtual 222, 3) := by decide +kernel
theorem dX10_describeTank_87 : decode cX10_describeTank 87 = .ok (.aload_n 0, 1) := by decide +kernel
theorem dX10_describeTank_88 : decode cX10_describeTank 88 = .ok (.aload_n 0, 1) := by decide +kernel
theorem dX10_describeTank_89 : decode cX10_describeTank 89 = .ok (.getfield 16, 3) := by decide +kernel
theorem dX10_describeTank_92 : decode cX10_describeTank 92 = .ok (.iload_n 1, 1) := by decide +kernel
theorem dX10_describeTank_93 : decode cX10_describeTank 93 = .ok (.iconst 1, 1) := by decide +kernel
theorem dX10_describeTank_94 : decode cX10_describeTank 94 = .ok (.invokestatic 144, 3) := by decide +kernel
theorem dX10_describeTank_97 : decode cX10_describeTank 97 = .ok (.iaload, 1) := by decide +kernel
theorem dX10_describeTank_98 : decode cX10_describeTank 98 = .ok (.invokevirtual 225, 3) := by decide +kernel
theorem dX10_describeTank_101 : decode cX10_describeTank 101 = .ok (.iconst 0, 1) := by decide +kernel
theorem dX10_describeTank_102 : decode cX10_describeTank 102 = .ok (.istore_n 2, 1) := by decide +kernel
theorem dX10_describeTank_103 : decode cX10_describeTank 103 = .ok (.iload_n 2, 1) := by decide +kernel
theorem dX10_describeTank_104 : decode cX10_describeTank 104 = .ok (.aload_n 0, 1) := by decide +kernel
theorem dX10_describeTank_105 : decode cX10_describeTank 105 = .ok (.getfield 16, 3) := by decide +kernel
theorem dX10_describeTank_108 : decode cX10_describeTank 108 = .ok (.iload_n 1, 1) := by decide +kernel
theorem dX10_describeTank_109 : decode cX10_describeTank 109 = .ok (.iconst 2, 1) := by decide +kernel
theorem dX10_describeTank_110 : decode cX10_describeTank 110 = .ok (.invokestatic 144, 3) := by decide +kernel
theorem dX10_describeTank_113 : decode cX10_describeTank 113 = .ok (.iaload, 1) := by decide +kernel
theorem dX10_describeTank_114 : decode cX10_describeTank 114 = .ok (.if_icmp .ge 31, 3) := by decide +kernel
theorem dX10_describeTank_117 : decode cX10_describeTank 117 = .ok (.aload_n 0, 1) := by decide +kernel
theorem dX10_describeTank_118 : decode cX10_describeTank 118 = .ok (.bipush 32, 2) := by decide +kernel
theorem dX10_describeTank_120 : decode cX10_describeTank 120 = .ok (.invokevirtual 222, 3) := by decide +kernel
theorem dX10_describeTank_123 : decode cX10_describeTank 123 = .ok (.aload_n 0, 1) := by decide +kernel
theorem dX10_describeTank_124 : decode cX10_describeTank 124 = .ok (.aload_n 0, 1) := by decide +kernel
theorem dX10_describeTank_125 : decode cX10_describeTank 125 = .ok (.getfield 16, 3) := by decide +kernel
theorem dX10_describeTank_128 : decode cX10_describeTank 128 = .ok (.iload_n 1, 1) := by decide +kernel
theorem dX10_describeTank_129 : decode cX10_describeTank 129 = .ok (.iconst 3, 1) := by decide +kernel
theorem dX10_describeTank_130 : decode cX10_describeTank 130 = .ok (.iload_n 2, 1) := by decide +kernel
theorem dX10_describeTank_131 : decode cX10_describeTank 131 = .ok (.iadd, 1) := by decide +kernel
theorem dX10_describeTank_132 : decode cX10_describeTank 132 = .ok (.invokestatic 144, 3) := by decide +kernel
theorem dX10_describeTank_135 : decode cX10_describeTank 135 = .ok (.iaload, 1) := by decide +kernel
theorem dX10_describeTank_136 : decode cX10_describeTank 136 = .ok (.invokevirtual 225, 3) := by decide +kernel
theorem dX10_describeTank_139 : decode cX10_describeTank 139 = .ok (.iinc 2 1, 3) := by decide +kernel
theorem dX10_describeTank_142 : decode cX10_describeTank 142 = .ok (.goto (-39), 3) := by decide +kernel
theorem dX10_describeTank_145 : decode cX10_describeTank 145 = .ok (.aload_n 0, 1) := by decide +kernel
theorem dX10_describeTank_146 : decode cX10_describeTank 146 = .ok (.getfield 219, 3) := by decide +kernel
theorem dX10_describeTank_149 : decode cX10_describeTank 149 = .ok (.ireturn, 1) := by decide +kernel
theorem dX10_lineAt_0 : decode cX10_lineAt 0 = .ok (.aload_n 0, 1) := by decide +kernel
theorem dX10_lineAt_1 : decode cX10_lineAt 1 = .ok (.iload_n 1, 1) := by decide +kernel
theorem dX10_lineAt_2 : decode cX10_lineAt 2 = .ok (.iconst 0, 1) := by decide +kernel
theorem dX10_lineAt_3 : decode cX10_lineAt 3 = .ok (.aload_n 0, 1) := by decide +kernel
theorem dX10_lineAt_4 : decode cX10_lineAt 4 = .ok (.getfield 219, 3) := by decide +kernel
theorem dX10_lineAt_7 : decode cX10_lineAt 7 = .ok (.iconst 1, 1) := by decide +kernel
theorem dX10_lineAt_8 : decode cX10_lineAt 8 = .ok (.isub, 1) := by decide +kernel
theorem dX10_lineAt_9 : decode cX10_lineAt 9 = .ok (.invokestatic 63, 3) := by decide +kernel
theorem dX10_lineAt_12 : decode cX10_lineAt 12 = .ok (.ifCond .eq 7, 3) := by decide +kernel
theorem dX10_lineAt_15 : decode cX10_lineAt 15 = .ok (.iconst 0, 1) := by decide +kernel
theorem dX10_lineAt_16 : decode cX10_lineAt 16 = .ok (.goto 4, 3) := by decide +kernel
theorem dX10_lineAt_19 : decode cX10_lineAt 19 = .ok (.iconst 1, 1) := by decide +kernel
theorem dX10_lineAt_20 : decode cX10_lineAt 20 = .ok (.putfield 53, 3) := by decide +kernel
theorem dX10_lineAt_23 : decode cX10_lineAt 23 = .ok (.aload_n 0, 1) := by decide +kernel
theorem dX10_lineAt_24 : decode cX10_lineAt 24 = .ok (.getfield 53, 3) := by decide +kernel
theorem dX10_lineAt_27 : decode cX10_lineAt 27 = .ok (.ifCond .ne 13, 3) := by decide +kernel
theorem dX10_lineAt_30 : decode cX10_lineAt 30 = .ok (.aload_n 0, 1) := by decide +kernel
theorem dX10_lineAt_31 : decode cX10_lineAt 31 = .ok (.getfield 41, 3) := by decide +kernel
theorem dX10_lineAt_34 : decode cX10_lineAt 34 = .ok (.iload_n 1, 1) := by decide +kernel
theorem dX10_lineAt_35 : decode cX10_lineAt 35 = .ok (.iaload, 1) := by decide +kernel
theorem dX10_lineAt_36 : decode cX10_lineAt 36 = .ok (.i2c, 1) := by decide +kernel
theorem dX10_lineAt_37 : decode cX10_lineAt 37 = .ok (.goto 5, 3) := by decide +kernel
theorem dX10_lineAt_40 : decode cX10_lineAt 40 = .ok (.bipush 97, 2) := by decide +kernel
theorem dX10_lineAt_42 : decode cX10_lineAt 42 = .ok (.ireturn, 1) := by decide +kernel
theorem dX10_meanLevel_0 : decode cX10_meanLevel 0 = .ok (.aload_n 0, 1) := by decide +kernel
theorem dX10_meanLevel_1 : decode cX10_meanLevel 1 = .ok (.iload_n 1, 1) := by decide +kernel
theorem dX10_meanLevel_2 : decode cX10_meanLevel 2 = .ok (.invokestatic 105, 3) := by decide +kernel
theorem dX10_meanLevel_5 : decode cX10_meanLevel 5 = .ok (.ifCond .ne 7, 3) := by decide +kernel
theorem dX10_meanLevel_8 : decode cX10_meanLevel 8 = .ok (.iconst 1, 1) := by decide +kernel
theorem dX10_meanLevel_9 : decode cX10_meanLevel 9 = .ok (.goto 20, 3) := by decide +kernel
theorem dX10_meanLevel_12 : decode cX10_meanLevel 12 = .ok (.aload_n 0, 1) := by decide +kernel
theorem dX10_meanLevel_13 : decode cX10_meanLevel 13 = .ok (.getfield 16, 3) := by decide +kernel
theorem dX10_meanLevel_16 : decode cX10_meanLevel 16 = .ok (.bipush 25, 2) := by decide +kernel
theorem dX10_meanLevel_18 : decode cX10_meanLevel 18 = .ok (.iload_n 1, 1) := by decide +kernel
theorem dX10_meanLevel_19 : decode cX10_meanLevel 19 = .ok (.iadd, 1) := by decide +kernel
theorem dX10_meanLevel_20 : decode cX10_meanLevel 20 = .ok (.iaload, 1) := by decide +kernel
theorem dX10_meanLevel_21 : decode cX10_meanLevel 21 = .ok (.ifCond .ne 7, 3) := by decide +kernel
theorem dX10_meanLevel_24 : decode cX10_meanLevel 24 = .ok (.iconst 2, 1) := by decide +kernel
theorem dX10_meanLevel_25 : decode cX10_meanLevel 25 = .ok (.goto 4, 3) := by decide +kernel
theorem dX10_meanLevel_28 : decode cX10_meanLevel 28 = .ok (.iconst 0, 1) := by decide +kernel
theorem dX10_meanLevel_29 : decode cX10_meanLevel 29 = .ok (.putfield 53, 3) := by decide +kernel
theorem dX10_meanLevel_32 : decode cX10_meanLevel 32 = .ok (.aload_n 0, 1) := by decide +kernel
theorem dX10_meanLevel_33 : decode cX10_meanLevel 33 = .ok (.getfield 53, 3) := by decide +kernel
theorem dX10_meanLevel_36 : decode cX10_meanLevel 36 = .ok (.ifCond .eq 5, 3) := by decide +kernel
theorem dX10_meanLevel_39 : decode cX10_meanLevel 39 = .ok (.dconst 0, 1) := by decide +kernel
theorem dX10_meanLevel_40 : decode cX10_meanLevel 40 = .ok (.dreturn, 1) := by decide +kernel
theorem dX10_meanLevel_41 : decode cX10_meanLevel 41 = .ok (.aload_n 0, 1) := by decide +kernel
theorem dX10_meanLevel_42 : decode cX10_meanLevel 42 = .ok (.iload_n 1, 1) := by decide +kernel
theorem dX10_meanLevel_43 : decode cX10_meanLevel 43 = .ok (.invokevirtual 130, 3) := by decide +kernel
theorem dX10_meanLevel_46 : decode cX10_meanLevel 46 = .ok (.iconst 0, 1) := by decide +kernel
theorem dX10_meanLevel_47 : decode cX10_meanLevel 47 = .ok (.istore_n 2, 1) := by decide +kernel
theorem dX10_meanLevel_48 : decode cX10_meanLevel 48 = .ok (.iconst 0, 1) := by decide +kernel
theorem dX10_meanLevel_49 : decode cX10_meanLevel 49 = .ok (.istore_n 3, 1) := by decide +kernel
theorem dX10_meanLevel_50 : decode cX10_meanLevel 50 = .ok (.iload_n 3, 1) := by decide +kernel
theorem dX10_meanLevel_51 : decode cX10_meanLevel 51 = .ok (.aload_n 0, 1) := by decide +kernel
theorem dX10_meanLevel_52 : decode cX10_meanLevel 52 = .ok (.getfield 16, 3) := by decide +kernel
theorem dX10_meanLevel_55 : decode cX10_meanLevel 55 = .ok (.bipush 25, 2) := by decide +kernel
theorem dX10_meanLevel_57 : decode cX10_meanLevel 57 = .ok (.iload_n 1, 1) := by decide +kernel
theorem dX10_meanLevel_58 : decode cX10_meanLevel 58 = .ok (.iadd, 1) := by decide +kernel
theorem dX10_meanLevel_59 : decode cX10_meanLevel 59 = .ok (.iaload, 1) := by decide +kernel
theorem dX10_meanLevel_60 : decode cX10_meanLevel 60 = .ok (.if_icmp .ge 21, 3) := by decide +kernel
theorem dX10_meanLevel_63 : decode cX10_meanLevel 63 = .ok (.iload_n 2, 1) := by decide +kernel
theorem dX10_meanLevel_64 : decode cX10_meanLevel 64 = .ok (.aload_n 0, 1) := by decide +kernel
theorem dX10_meanLevel_65 : decode cX10_meanLevel 65 = .ok (.getfield 32, 3) := by decide +kernel
theorem dX10_meanLevel_68 : decode cX10_meanLevel 68 = .ok (.iload_n 3, 1) := by decide +kernel
theorem dX10_meanLevel_69 : decode cX10_meanLevel 69 = .ok (.iaload, 1) := by decide +kernel
theorem dX10_meanLevel_70 : decode cX10_meanLevel 70 = .ok (.invokestatic 99, 3) := by decide +kernel
theorem dX10_meanLevel_73 : decode cX10_meanLevel 73 = .ok (.iadd, 1) := by decide +kernel
theorem dX10_meanLevel_74 : decode cX10_meanLevel 74 = .ok (.istore_n 2, 1) := by decide +kernel
theorem dX10_meanLevel_75 : decode cX10_meanLevel 75 = .ok (.iinc 3 1, 3) := by decide +kernel
theorem dX10_meanLevel_78 : decode cX10_meanLevel 78 = .ok (.goto (-28), 3) := by decide +kernel
theorem dX10_meanLevel_81 : decode cX10_meanLevel 81 = .ok (.iload_n 2, 1) := by decide +kernel
theorem dX10_meanLevel_82 : decode cX10_meanLevel 82 = .ok (.i2d, 1) := by decide +kernel
theorem dX10_meanLevel_83 : decode cX10_meanLevel 83 = .ok (.aload_n 0, 1) := by decide +kernel
theorem dX10_meanLevel_84 : decode cX10_meanLevel 84 = .ok (.getfield 16, 3) := by decide +kernel
theorem dX10_meanLevel_87 : decode cX10_meanLevel 87 = .ok (.bipush 25, 2) := by decide +kernel
theorem dX10_meanLevel_89 : decode cX10_meanLevel 89 = .ok (.iload_n 1, 1) := by decide +kernel
theorem dX10_meanLevel_90 : decode cX10_meanLevel 90 = .ok (.iadd, 1) := by decide +kernel
theorem dX10_meanLevel_91 : decode cX10_meanLevel 91 = .ok (.iaload, 1) := by decide +kernel
theorem dX10_meanLevel_92 : decode cX10_meanLevel 92 = .ok (.i2d, 1) := by decide +kernel
theorem dX10_meanLevel_93 : decode cX10_meanLevel 93 = .ok (.ddiv, 1) := by decide +kernel
theorem dX10_meanLevel_94 : decode cX10_meanLevel 94 = .ok (.dreturn, 1) := by decide +kernel
theorem dX10_filledShare_0 : decode cX10_filledShare 0 = .ok (.aload_n 0, 1) := by decide +kernel
theorem dX10_filledShare_1 : decode cX10_filledShare 1 = .ok (.aload_n 0, 1) := by decide +kernel
theorem dX10_filledShare_2 : decode cX10_filledShare 2 = .ok (.getfield 16, 3) := by decide +kernel
theorem dX10_filledShare_5 : decode cX10_filledShare 5 = .ok (.iconst 1, 1) := by decide +kernel
theorem dX10_filledShare_6 : decode cX10_filledShare 6 = .ok (.iaload, 1) := by decide +kernel
theorem dX10_filledShare_7 : decode cX10_filledShare 7 = .ok (.ifCond .ne 7, 3) := by decide +kernel
theorem dX10_filledShare_10 : decode cX10_filledShare 10 = .ok (.iconst 1, 1) := by decide +kernel
theorem dX10_filledShare_11 : decode cX10_filledShare 11 = .ok (.goto 4, 3) := by decide +kernel
theorem dX10_filledShare_14 : decode cX10_filledShare 14 = .ok (.iconst 0, 1) := by decide +kernel
theorem dX10_filledShare_15 : decode cX10_filledShare 15 = .ok (.putfield 53, 3) := by decide +kernel
theorem dX10_filledShare_18 : decode cX10_filledShare 18 = .ok (.iconst 0, 1) := by decide +kernel
theorem dX10_filledShare_19 : decode cX10_filledShare 19 = .ok (.istore_n 1, 1) := by decide +kernel
theorem dX10_filledShare_20 : decode cX10_filledShare 20 = .ok (.iconst 0, 1) := by decide +kernel
theorem dX10_filledShare_21 : decode cX10_filledShare 21 = .ok (.istore_n 2, 1) := by decide +kernel
theorem dX10_filledShare_22 : decode cX10_filledShare 22 = .ok (.iconst 0, 1) := by decide +kernel
theorem dX10_filledShare_23 : decode cX10_filledShare 23 = .ok (.istore_n 3, 1) := by decide +kernel
theorem dX10_filledShare_24 : decode cX10_filledShare 24 = .ok (.iload_n 3, 1) := by decide +kernel
theorem dX10_filledShare_25 : decode cX10_filledShare 25 = .ok (.aload_n 0, 1) := by decide +kernel
theorem dX10_filledShare_26 : decode cX10_filledShare 26 = .ok (.getfield 16, 3) := by decide +kernel
theorem dX10_filledShare_29 : decode cX10_filledShare 29 = .ok (.iconst 1, 1) := by decide +kernel
theorem dX10_filledShare_30 : decode cX10_filledShare 30 = .ok (.iaload, 1) := by decide +kernel
theorem dX10_filledShare_31 : decode cX10_filledShare 31 = .ok (.if_icmp .ge 35, 3) := by decide +kernel
theorem dX10_filledShare_34 : decode cX10_filledShare 34 = .ok (.iload_n 1, 1) := by decide +kernel
theorem dX10_filledShare_35 : decode cX10_filledShare 35 = .ok (.aload_n 0, 1) := by decide +kernel
theorem dX10_filledShare_36 : decode cX10_filledShare 36 = .ok (.getfield 16, 3) := by decide +kernel
theorem dX10_filledShare_39 : decode cX10_filledShare 39 = .ok (.iload_n 3, 1) := by decide +kernel
theorem dX10_filledShare_40 : decode cX10_filledShare 40 = .ok (.iconst 2, 1) := by decide +kernel
theorem dX10_filledShare_41 : decode cX10_filledShare 41 = .ok (.invokestatic 144, 3) := by decide +kernel
theorem dX10_filledShare_44 : decode cX10_filledShare 44 = .ok (.iaload, 1) := by decide +kernel
theorem dX10_filledShare_45 : decode cX10_filledShare 45 = .ok (.iadd, 1) := by decide +kernel
theorem dX10_filledShare_46 : decode cX10_filledShare 46 = .ok (.istore_n 1, 1) := by decide +kernel
theorem dX10_filledShare_47 : decode cX10_filledShare 47 = .ok (.iload_n 2, 1) := by decide +kernel
theorem dX10_filledShare_48 : decode cX10_filledShare 48 = .ok (.aload_n 0, 1) := by decide +kernel
theorem dX10_filledShare_49 : decode cX10_filledShare 49 = .ok (.getfield 16, 3) := by decide +kernel
theorem dX10_filledShare_52 : decode cX10_filledShare 52 = .ok (.iload_n 3, 1) := by decide +kernel
theorem dX10_filledShare_53 : decode cX10_filledShare 53 = .ok (.iconst 0, 1) := by decide +kernel
theorem dX10_filledShare_54 : decode cX10_filledShare 54 = .ok (.invokestatic 144, 3) := by decide +kernel
theorem dX10_filledShare_57 : decode cX10_filledShare 57 = .ok (.iaload, 1) := by decide +kernel
theorem dX10_filledShare_58 : decode cX10_filledShare 58 = .ok (.iadd, 1) := by decide +kernel
theorem dX10_filledShare_59 : decode cX10_filledShare 59 = .ok (.istore_n 2, 1) := by decide +kernel
theorem dX10_filledShare_60 : decode cX10_filledShare 60 = .ok (.iinc 3 1, 3) := by decide +kernel
theorem dX10_filledShare_63 : decode cX10_filledShare 63 = .ok (.goto (-39), 3) := by decide +kernel
theorem dX10_filledShare_66 : decode cX10_filledShare 66 = .ok (.aload_n 0, 1) := by decide +kernel
theorem dX10_filledShare_67 : decode cX10_filledShare 67 = .ok (.getfield 53, 3) := by decide +kernel
theorem dX10_filledShare_70 : decode cX10_filledShare 70 = .ok (.ifCond .ne 11, 3) := by decide +kernel
theorem dX10_filledShare_73 : decode cX10_filledShare 73 = .ok (.iload_n 1, 1) := by decide +kernel
theorem dX10_filledShare_74 : decode cX10_filledShare 74 = .ok (.i2f, 1) := by decide +kernel
theorem dX10_filledShare_75 : decode cX10_filledShare 75 = .ok (.iload_n 2, 1) := by decide +kernel
theorem dX10_filledShare_76 : decode cX10_filledShare 76 = .ok (.i2f, 1) := by decide +kernel
theorem dX10_filledShare_77 : decode cX10_filledShare 77 = .ok (.fdiv, 1) := by decide +kernel
theorem dX10_filledShare_78 : decode cX10_filledShare 78 = .ok (.goto 4, 3) := by decide +kernel
theorem dX10_filledShare_81 : decode cX10_filledShare 81 = .ok (.fconst 0, 1) := by decide +kernel
theorem dX10_filledShare_82 : decode cX10_filledShare 82 = .ok (.freturn, 1) := by decide +kernel
theorem dX10_isConsistent_0 : decode cX10_isConsistent 0 = .ok (.aload_n 0, 1) := by decide +kernel
theorem dX10_isConsistent_1 : decode cX10_isConsistent 1 = .ok (.iconst 0, 1) := by decide +kernel
theorem dX10_isConsistent_2 : decode cX10_isConsistent 2 = .ok (.putfield 53, 3) := by decide +kernel
theorem dX10_isConsistent_5 : decode cX10_isConsistent 5 = .ok (.iconst 0, 1) := by decide +kernel
theorem dX10_isConsistent_6 : decode cX10_isConsistent 6 = .ok (.istore_n 1, 1) := by decide +kernel
theorem dX10_isConsistent_7 : decode cX10_isConsistent 7 = .ok (.iconst 0, 1) := by decide +kernel
theorem dX10_isConsistent_8 : decode cX10_isConsistent 8 = .ok (.istore_n 2, 1) := by decide +kernel
theorem dX10_isConsistent_9 : decode cX10_isConsistent 9 = .ok (.iload_n 2, 1) := by decide +kernel
theorem dX10_isConsistent_10 : decode cX10_isConsistent 10 = .ok (.aload_n 0, 1) := by decide +kernel
theorem dX10_isConsistent_11 : decode cX10_isConsistent 11 = .ok (.getfield 16, 3) := by decide +kernel
theorem dX10_isConsistent_14 : decode cX10_isConsistent 14 = .ok (.iconst 1, 1) := by decide +kernel
theorem dX10_isConsistent_15 : decode cX10_isConsistent 15 = .ok (.iaload, 1) := by decide +kernel
theorem dX10_isConsistent_16 : decode cX10_isConsistent 16 = .ok (.if_icmp .ge 22, 3) := by decide +kernel
theorem dX10_isConsistent_19 : decode cX10_isConsistent 19 = .ok (.iload_n 1, 1) := by decide +kernel
theorem dX10_isConsistent_20 : decode cX10_isConsistent 20 = .ok (.aload_n 0, 1) := by decide +kernel
theorem dX10_isConsistent_21 : decode cX10_isConsistent 21 = .ok (.getfield 16, 3) := by decide +kernel
theorem dX10_isConsistent_24 : decode cX10_isConsistent 24 = .ok (.iload_n 2, 1) := by decide +kernel
theorem dX10_isConsistent_25 : decode cX10_isConsistent 25 = .ok (.iconst 2, 1) := by decide +kernel
theorem dX10_isConsistent_26 : decode cX10_isConsistent 26 = .ok (.invokestatic 144, 3) := by decide +kernel
theorem dX10_isConsistent_29 : decode cX10_isConsistent 29 = .ok (.iaload, 1) := by decide +kernel
theorem dX10_isConsistent_30 : decode cX10_isConsistent 30 = .ok (.iadd, 1) := by decide +kernel
theorem dX10_isConsistent_31 : decode cX10_isConsistent 31 = .ok (.istore_n 1, 1) := by decide +kernel
theorem dX10_isConsistent_32 : decode cX10_isConsistent 32 = .ok (.iinc 2 1, 3) := by decide +kernel
theorem dX10_isConsistent_35 : decode cX10_isConsistent 35 = .ok (.goto (-26), 3) := by decide +kernel
theorem dX10_isConsistent_38 : decode cX10_isConsistent 38 = .ok (.aload_n 0, 1) := by decide +kernel
theorem dX10_isConsistent_39 : decode cX10_isConsistent 39 = .ok (.getfield 16, 3) := by decide +kernel
theorem dX10_isConsistent_42 : decode cX10_isConsistent 42 = .ok (.iconst 2, 1) := by decide +kernel
theorem dX10_isConsistent_43 : decode cX10_isConsistent 43 = .ok (.iaload, 1) := by decide +kernel
theorem dX10_isConsistent_44 : decode cX10_isConsistent 44 = .ok (.aload_n 0, 1) := by decide +kernel
theorem dX10_isConsistent_45 : decode cX10_isConsistent 45 = .ok (.getfield 16, 3) := by decide +kernel
theorem dX10_isConsistent_48 : decode cX10_isConsistent 48 = .ok (.iconst 4, 1) := by decide +kernel
theorem dX10_isConsistent_49 : decode cX10_isConsistent 49 = .ok (.iaload, 1) := by decide +kernel
theorem dX10_isConsistent_50 : decode cX10_isConsistent 50 = .ok (.iload_n 1, 1) := by decide +kernel
theorem dX10_isConsistent_51 : decode cX10_isConsistent 51 = .ok (.iadd, 1) := by decide +kernel
theorem dX10_isConsistent_52 : decode cX10_isConsistent 52 = .ok (.if_icmp .ne 7, 3) := by decide +kernel
theorem dX10_isConsistent_55 : decode cX10_isConsistent 55 = .ok (.iconst 1, 1) := by decide +kernel
theorem dX10_isConsistent_56 : decode cX10_isConsistent 56 = .ok (.goto 4, 3) := by decide +kernel
theorem dX10_isConsistent_59 : decode cX10_isConsistent 59 = .ok (.iconst 0, 1) := by decide +kernel
theorem dX10_isConsistent_60 : decode cX10_isConsistent 60 = .ok (.ireturn, 1) := by decide +kernel
theorem dX10_undo_0 : decode cX10_undo 0 = .ok (.aload_n 0, 1) := by decide +kernel
theorem dX10_undo_1 : decode cX10_undo 1 = .ok (.aload_n 0, 1) := by decide +kernel
theorem dX10_undo_2 : decode cX10_undo 2 = .ok (.getfield 60, 3) := by decide +kernel
theorem dX10_undo_5 : decode cX10_undo 5 = .ok (.ifCond .ne 7, 3) := by decide +kernel
theorem dX10_undo_8 : decode cX10_undo 8 = .ok (.iconst 1, 1) := by decide +kernel
theorem dX10_undo_9 : decode cX10_undo 9 = .ok (.goto 4, 3) := by decide +kernel
theorem dX10_undo_12 : decode cX10_undo 12 = .ok (.iconst 0, 1) := by decide +kernel
theorem dX10_undo_13 : decode cX10_undo 13 = .ok (.putfield 53, 3) := by decide +kernel
theorem dX10_undo_16 : decode cX10_undo 16 = .ok (.aload_n 0, 1) := by decide +kernel
theorem dX10_undo_17 : decode cX10_undo 17 = .ok (.getfield 53, 3) := by decide +kernel
theorem dX10_undo_20 : decode cX10_undo 20 = .ok (.ifCond .eq 5, 3) := by decide +kernel
theorem dX10_undo_23 : decode cX10_undo 23 = .ok (.iconst 0, 1) := by decide +kernel
theorem dX10_undo_24 : decode cX10_undo 24 = .ok (.ireturn, 1) := by decide +kernel
theorem dX10_undo_25 : decode cX10_undo 25 = .ok (.aload_n 0, 1) := by decide +kernel
theorem dX10_undo_26 : decode cX10_undo 26 = .ok (.dup, 1) := by decide +kernel
theorem dX10_undo_27 : decode cX10_undo 27 = .ok (.getfield 60, 3) := by decide +kernel
theorem dX10_undo_30 : decode cX10_undo 30 = .ok (.iconst 1, 1) := by decide +kernel
theorem dX10_undo_31 : decode cX10_undo 31 = .ok (.isub, 1) := by decide +kernel
theorem dX10_undo_32 : decode cX10_undo 32 = .ok (.putfield 60, 3) := by decide +kernel
theorem dX10_undo_35 : decode cX10_undo 35 = .ok (.iconst 0, 1) := by decide +kernel
theorem dX10_undo_36 : decode cX10_undo 36 = .ok (.istore_n 1, 1) := by decide +kernel
theorem dX10_undo_37 : decode cX10_undo 37 = .ok (.iload_n 1, 1) := by decide +kernel
theorem dX10_undo_38 : decode cX10_undo 38 = .ok (.sipush 1357, 3) := by decide +kernel
theorem dX10_undo_41 : decode cX10_undo 41 = .ok (.if_icmp .ge 30, 3) := by decide +kernel
theorem dX10_undo_44 : decode cX10_undo 44 = .ok (.aload_n 0, 1) := by decide +kernel
theorem dX10_undo_45 : decode cX10_undo 45 = .ok (.getfield 16, 3) := by decide +kernel
theorem dX10_undo_48 : decode cX10_undo 48 = .ok (.iload_n 1, 1) := by decide +kernel
theorem dX10_undo_49 : decode cX10_undo 49 = .ok (.aload_n 0, 1) := by decide +kernel
theorem dX10_undo_50 : decode cX10_undo 50 = .ok (.getfield 29, 3) := by decide +kernel
theorem dX10_undo_53 : decode cX10_undo 53 = .ok (.aload_n 0, 1) := by decide +kernel
theorem dX10_undo_54 : decode cX10_undo 54 = .ok (.getfield 60, 3) := by decide +kernel
theorem dX10_undo_57 : decode cX10_undo 57 = .ok (.sipush 1357, 3) := by decide +kernel
theorem dX10_undo_60 : decode cX10_undo 60 = .ok (.imul, 1) := by decide +kernel
theorem dX10_undo_61 : decode cX10_undo 61 = .ok (.iload_n 1, 1) := by decide +kernel
theorem dX10_undo_62 : decode cX10_undo 62 = .ok (.iadd, 1) := by decide +kernel
theorem dX10_undo_63 : decode cX10_undo 63 = .ok (.iaload, 1) := by decide +kernel
theorem dX10_undo_64 : decode cX10_undo 64 = .ok (.iastore, 1) := by decide +kernel
theorem dX10_undo_65 : decode cX10_undo 65 = .ok (.iinc 1 1, 3) := by decide +kernel
theorem dX10_undo_68 : decode cX10_undo 68 = .ok (.goto (-31), 3) := by decide +kernel
theorem dX10_undo_71 : decode cX10_undo 71 = .ok (.aload_n 0, 1) := by decide +kernel
theorem dX10_undo_72 : decode cX10_undo 72 = .ok (.getfield 60, 3) := by decide +kernel
theorem dX10_undo_75 : decode cX10_undo 75 = .ok (.ireturn, 1) := by decide +kernel
theorem dX10_save_0 : decode cX10_save 0 = .ok (.aload_n 0, 1) := by decide +kernel
theorem dX10_save_1 : decode cX10_save 1 = .ok (.iconst 0, 1) := by decide +kernel
theorem dX10_save_2 : decode cX10_save 2 = .ok (.putfield 53, 3) := by decide +kernel
theorem dX10_save_5 : decode cX10_save 5 = .ok (.aload_n 0, 1) := by decide +kernel
theorem dX10_save_6 : decode cX10_save 6 = .ok (.getfield 23, 3) := by decide +kernel
theorem dX10_save_9 : decode cX10_save 9 = .ok (.aload_n 0, 1) := by decide +kernel
theorem dX10_save_10 : decode cX10_save 10 = .ok (.getfield 16, 3) := by decide +kernel
theorem dX10_save_13 : decode cX10_save 13 = .ok (.invokestatic 56, 3) := by decide +kernel
theorem dX10_save_16 : decode cX10_save 16 = .ok (.aload_n 0, 1) := by decide +kernel
theorem dX10_save_17 : decode cX10_save 17 = .ok (.iconst 1, 1) := by decide +kernel
theorem dX10_save_18 : decode cX10_save 18 = .ok (.putfield 228, 3) := by decide +kernel
theorem dX10_save_21 : decode cX10_save 21 = .ok (.aload_n 0, 1) := by decide +kernel
theorem dX10_save_22 : decode cX10_save 22 = .ok (.getfield 16, 3) := by decide +kernel
theorem dX10_save_25 : decode cX10_save 25 = .ok (.iconst 0, 1) := by decide +kernel
theorem dX10_save_26 : decode cX10_save 26 = .ok (.iaload, 1) := by decide +kernel
theorem dX10_save_27 : decode cX10_save 27 = .ok (.ireturn, 1) := by decide +kernel
theorem dX10_restore_0 : decode cX10_restore 0 = .ok (.aload_n 0, 1) := by decide +kernel
theorem dX10_restore_1 : decode cX10_restore 1 = .ok (.aload_n 0, 1) := by decide +kernel
theorem dX10_restore_2 : decode cX10_restore 2 = .ok (.getfield 228, 3) := by decide +kernel
theorem dX10_restore_5 : decode cX10_restore 5 = .ok (.ifCond .eq 7, 3) := by decide +kernel
theorem dX10_restore_8 : decode cX10_restore 8 = .ok (.iconst 0, 1) := by decide +kernel
theorem dX10_restore_9 : decode cX10_restore 9 = .ok (.goto 4, 3) := by decide +kernel
theorem dX10_restore_12 : decode cX10_restore 12 = .ok (.iconst 1, 1) := by decide +kernel
theorem dX10_restore_13 : decode cX10_restore 13 = .ok (.putfield 53, 3) := by decide +kernel
theorem dX10_restore_16 : decode cX10_restore 16 = .ok (.aload_n 0, 1) := by decide +kernel
theorem dX10_restore_17 : decode cX10_restore 17 = .ok (.getfield 53, 3) := by decide +kernel
theorem dX10_restore_20 : decode cX10_restore 20 = .ok (.ifCond .eq 5, 3) := by decide +kernel
theorem dX10_restore_23 : decode cX10_restore 23 = .ok (.iconst 0, 1) := by decide +kernel
theorem dX10_restore_24 : decode cX10_restore 24 = .ok (.ireturn, 1) := by decide +kernel
theorem dX10_restore_25 : decode cX10_restore 25 = .ok (.aload_n 0, 1) := by decide +kernel
theorem dX10_restore_26 : decode cX10_restore 26 = .ok (.getfield 16, 3) := by decide +kernel
theorem dX10_restore_29 : decode cX10_restore 29 = .ok (.aload_n 0, 1) := by decide +kernel
theorem dX10_restore_30 : decode cX10_restore 30 = .ok (.getfield 23, 3) := by decide +kernel
theorem dX10_restore_33 : decode cX10_restore 33 = .ok (.invokestatic 56, 3) := by decide +kernel
theorem dX10_restore_36 : decode cX10_restore 36 = .ok (.aload_n 0, 1) := by decide +kernel
theorem dX10_restore_37 : decode cX10_restore 37 = .ok (.iconst 0, 1) := by decide +kernel
theorem dX10_restore_38 : decode cX10_restore 38 = .ok (.putfield 60, 3) := by decide +kernel
theorem dX10_restore_41 : decode cX10_restore 41 = .ok (.aload_n 0, 1) := by decide +kernel
theorem dX10_restore_42 : decode cX10_restore 42 = .ok (.getfield 16, 3) := by decide +kernel
theorem dX10_restore_45 : decode cX10_restore 45 = .ok (.iconst 0, 1) := by decide +kernel
theorem dX10_restore_46 : decode cX10_restore 46 = .ok (.iaload, 1) := by decide +kernel
theorem dX10_restore_47 : decode cX10_restore 47 = .ok (.ireturn, 1) := by decide +kernel
theorem dJx00060_init_a7421_0 : decode cJx00060_init_a7421 0 = .ok (.aload_n 0, 1) := by decide +kernel
theorem dJx00060_init_a7421_1 : decode cJx00060_init_a7421 1 = .ok (.aload_n 1, 1) := by decide +kernel
theorem dJx00060_init_a7421_2 : decode cJx00060_init_a7421 2 = .ok (.invokespecial 7, 3) := by decide +kernel
theorem dJx00060_init_a7421_5 : decode cJx00060_init_a7421 5 = .ok (.return_, 1) := by decide +kernel
theorem dJ9_abs_0f7a4_0 : decode cJ9_abs_0f7a4 0 = .ok (.iload_n 0, 1) := by decide +kernel
theorem dJ9_abs_0f7a4_1 : decode cJ9_abs_0f7a4 1 = .ok (.ifCond .ge 8, 3) := by decide +kernel
theorem dJ9_abs_0f7a4_4 : decode cJ9_abs_0f7a4 4 = .ok (.iload_n 0, 1) := by decide +kernel
theorem dJ9_abs_0f7a4_5 : decode cJ9_abs_0f7a4 5 = .ok (.ineg, 1) := by decide +kernel
theorem dJ9_abs_0f7a4_6 : decode cJ9_abs_0f7a4 6 = .ok (.goto 4, 3) := by decide +kernel
theorem dJ9_abs_0f7a4_9 : decode cJ9_abs_0f7a4 9 = .ok (.iload_n 0, 1) := by decide +kernel
theorem dJ9_abs_0f7a4_10 : decode cJ9_abs_0f7a4 10 = .ok (.ireturn, 1) := by decide +kernel
theorem dJ9_max_7cf53_0 : decode cJ9_max_7cf53 0 = .ok (.iload_n 0, 1) := by decide +kernel
theorem dJ9_max_7cf53_1 : decode cJ9_max_7cf53 1 = .ok (.iload_n 1, 1) := by decide +kernel
theorem dJ9_max_7cf53_2 : decode cJ9_max_7cf53 2 = .ok (.if_icmp .lt 7, 3) := by decide +kernel
theorem dJ9_max_7cf53_5 : decode cJ9_max_7cf53 5 = .ok (.iload_n 0, 1) := by decide +kernel
theorem dJ9_max_7cf53_6 : decode cJ9_max_7cf53 6 = .ok (.goto 4, 3) := by decide +kernel
theorem dJ9_max_7cf53_9 : decode cJ9_max_7cf53 9 = .ok (.iload_n 1, 1) := by decide +kernel
theorem dJ9_max_7cf53_10 : decode cJ9_max_7cf53 10 = .ok (.ireturn, 1) := by decide +kernel
theorem dJ9_min_7cf53_0 : decode cJ9_min_7cf53 0 = .ok (.iload_n 0, 1) := by decide +kernel
theorem dJ9_min_7cf53_1 : decode cJ9_min_7cf53 1 = .ok (.iload_n 1, 1) := by decide +kernel
theorem dJ9_min_7cf53_2 : decode cJ9_min_7cf53 2 = .ok (.if_icmp .gt 7, 3) := by decide +kernel
theorem dJ9_min_7cf53_5 : decode cJ9_min_7cf53 5 = .ok (.iload_n 0, 1) := by decide +kernel
theorem dJ9_min_7cf53_6 : decode cJ9_min_7cf53 6 = .ok (.goto 4, 3) := by decide +kernel
theorem dJ9_min_7cf53_9 : decode cJ9_min_7cf53 9 = .ok (.iload_n 1, 1) := by decide +kernel
theorem dJ9_min_7cf53_10 : decode cJ9_min_7cf53 10 = .ok (.ireturn, 1) := by decide +kernel
theorem dJ0_length_8abf5_0 : decode cJ0_length_8abf5 0 = .ok (.aload_n 0, 1) := by decide +kernel
theorem dJ0_length_8abf5_1 : decode cJ0_length_8abf5 1 = .ok (.getfield 9, 3) := by decide +kernel
theorem dJ0_length_8abf5_4 : decode cJ0_length_8abf5 4 = .ok (.arraylength, 1) := by decide +kernel
theorem dJ0_length_8abf5_5 : decode cJ0_length_8abf5 5 = .ok (.aload_n 0, 1) := by decide +kernel
theorem dJ0_length_8abf5_6 : decode cJ0_length_8abf5 6 = .ok (.invokevirtual 335, 3) := by decide +kernel
theorem dJ0_length_8abf5_9 : decode cJ0_length_8abf5 9 = .ok (.ishr, 1) := by decide +kernel
theorem dJ0_length_8abf5_10 : decode cJ0_length_8abf5 10 = .ok (.ireturn, 1) := by decide +kernel
theorem dJ0_isEmpty_aae02_0 : decode cJ0_isEmpty_aae02 0 = .ok (.aload_n 0, 1) := by decide +kernel
theorem dJ0_isEmpty_aae02_1 : decode cJ0_isEmpty_aae02 1 = .ok (.getfield 9, 3) := by decide +kernel
theorem dJ0_isEmpty_aae02_4 : decode cJ0_isEmpty_aae02 4 = .ok (.arraylength, 1) := by decide +kernel
theorem dJ0_isEmpty_aae02_5 : decode cJ0_isEmpty_aae02 5 = .ok (.ifCond .ne 7, 3) := by decide +kernel
theorem dJ0_isEmpty_aae02_8 : decode cJ0_isEmpty_aae02 8 = .ok (.iconst 1, 1) := by decide +kernel
theorem dJ0_isEmpty_aae02_9 : decode cJ0_isEmpty_aae02 9 = .ok (.goto 4, 3) := by decide +kernel
theorem dJ0_isEmpty_aae02_12 : decode cJ0_isEmpty_aae02 12 = .ok (.iconst 0, 1) := by decide +kernel
theorem dJ0_isEmpty_aae02_13 : decode cJ0_isEmpty_aae02 13 = .ok (.ireturn, 1) := by decide +kernel
theorem dJ0_charAt_5068e_0 : decode cJ0_charAt_5068e 0 = .ok (.aload_n 0, 1) := by decide +kernel
theorem dJ0_charAt_5068e_1 : decode cJ0_charAt_5068e 1 = .ok (.invokevirtual 492, 3) := by decide +kernel
theorem dJ0_charAt_5068e_4 : decode cJ0_charAt_5068e 4 = .ok (.ifCond .eq 12, 3) := by decide +kernel
theorem dJ0_charAt_5068e_7 : decode cJ0_charAt_5068e 7 = .ok (.aload_n 0, 1) := by decide +kernel
theorem dJ0_charAt_5068e_8 : decode cJ0_charAt_5068e 8 = .ok (.getfield 9, 3) := by decide +kernel
theorem dJ0_charAt_5068e_11 : decode cJ0_charAt_5068e 11 = .ok (.iload_n 1, 1) := by decide +kernel
theorem dJ0_charAt_5068e_12 : decode cJ0_charAt_5068e 12 = .ok (.invokestatic 495, 3) := by decide +kernel
theorem dJ0_charAt_5068e_15 : decode cJ0_charAt_5068e 15 = .ok (.ireturn, 1) := by decide +kernel
theorem dJ0_charAt_5068e_16 : decode cJ0_charAt_5068e 16 = .ok (.aload_n 0, 1) := by decide +kernel
theorem dJ0_charAt_5068e_17 : decode cJ0_charAt_5068e 17 = .ok (.getfield 9, 3) := by decide +kernel
theorem dJ0_charAt_5068e_20 : decode cJ0_charAt_5068e 20 = .ok (.iload_n 1, 1) := by decide +kernel
theorem dJ0_charAt_5068e_21 : decode cJ0_charAt_5068e 21 = .ok (.invokestatic 498, 3) := by decide +kernel
theorem dJ0_charAt_5068e_24 : decode cJ0_charAt_5068e 24 = .ok (.ireturn, 1) := by decide +kernel
theorem dJ0_coder_7d493_0 : decode cJ0_coder_7d493 0 = .ok (.getstatic 38, 3) := by decide +kernel
theorem dJ0_coder_7d493_3 : decode cJ0_coder_7d493 3 = .ok (.ifCond .eq 10, 3) := by decide +kernel
theorem dJ0_coder_7d493_6 : decode cJ0_coder_7d493 6 = .ok (.aload_n 0, 1) := by decide +kernel
theorem dJ0_coder_7d493_7 : decode cJ0_coder_7d493 7 = .ok (.getfield 15, 3) := by decide +kernel
theorem dJ0_coder_7d493_10 : decode cJ0_coder_7d493 10 = .ok (.goto 4, 3) := by decide +kernel
theorem dJ0_coder_7d493_13 : decode cJ0_coder_7d493 13 = .ok (.iconst 1, 1) := by decide +kernel
theorem dJ0_coder_7d493_14 : decode cJ0_coder_7d493 14 = .ok (.ireturn, 1) := by decide +kernel
theorem dJ0_isLatin1_aae02_0 : decode cJ0_isLatin1_aae02 0 = .ok (.getstatic 38, 3) := by decide +kernel
theorem dJ0_isLatin1_aae02_3 : decode cJ0_isLatin1_aae02 3 = .ok (.ifCond .eq 14, 3) := by decide +kernel
theorem dJ0_isLatin1_aae02_6 : decode cJ0_isLatin1_aae02 6 = .ok (.aload_n 0, 1) := by decide +kernel
theorem dJ0_isLatin1_aae02_7 : decode cJ0_isLatin1_aae02 7 = .ok (.getfield 15, 3) := by decide +kernel
theorem dJ0_isLatin1_aae02_10 : decode cJ0_isLatin1_aae02 10 = .ok (.ifCond .ne 7, 3) := by decide +kernel
theorem dJ0_isLatin1_aae02_13 : decode cJ0_isLatin1_aae02 13 = .ok (.iconst 1, 1) := by decide +kernel
theorem dJ0_isLatin1_aae02_14 : decode cJ0_isLatin1_aae02 14 = .ok (.goto 4, 3) := by decide +kernel
theorem dJ0_isLatin1_aae02_17 : decode cJ0_isLatin1_aae02 17 = .ok (.iconst 0, 1) := by decide +kernel
theorem dJ0_isLatin1_aae02_18 : decode cJ0_isLatin1_aae02 18 = .ok (.ireturn, 1) := by decide +kernel
theorem dJ0_checkIndex_df160_0 : decode cJ0_checkIndex_df160 0 = .ok (.iload_n 0, 1) := by decide +kernel
theorem dJ0_checkIndex_df160_1 : decode cJ0_checkIndex_df160 1 = .ok (.iload_n 1, 1) := by decide +kernel
theorem dJ0_checkIndex_df160_2 : decode cJ0_checkIndex_df160 2 = .ok (.getstatic 1053, 3) := by decide +kernel
theorem dJ0_checkIndex_df160_5 : decode cJ0_checkIndex_df160 5 = .ok (.invokestatic 1059, 3) := by decide +kernel
theorem dJ0_checkIndex_df160_8 : decode cJ0_checkIndex_df160 8 = .ok (.pop, 1) := by decide +kernel
theorem dJ0_checkIndex_df160_9 : decode cJ0_checkIndex_df160 9 = .ok (.return_, 1) := by decide +kernel
theorem dJ1_charAt_3b067_0 : decode cJ1_charAt_3b067 0 = .ok (.iload_n 1, 1) := by decide +kernel
theorem dJ1_charAt_3b067_1 : decode cJ1_charAt_3b067 1 = .ok (.aload_n 0, 1) := by decide +kernel
theorem dJ1_charAt_3b067_2 : decode cJ1_charAt_3b067 2 = .ok (.arraylength, 1) := by decide +kernel
theorem dJ1_charAt_3b067_3 : decode cJ1_charAt_3b067 3 = .ok (.invokestatic 9, 3) := by decide +kernel
theorem dJ1_charAt_3b067_6 : decode cJ1_charAt_3b067 6 = .ok (.aload_n 0, 1) := by decide +kernel
theorem dJ1_charAt_3b067_7 : decode cJ1_charAt_3b067 7 = .ok (.iload_n 1, 1) := by decide +kernel
theorem dJ1_charAt_3b067_8 : decode cJ1_charAt_3b067 8 = .ok (.baload, 1) := by decide +kernel
theorem dJ1_charAt_3b067_9 : decode cJ1_charAt_3b067 9 = .ok (.sipush 255, 3) := by decide +kernel
theorem dJ1_charAt_3b067_12 : decode cJ1_charAt_3b067 12 = .ok (.iand, 1) := by decide +kernel
theorem dJ1_charAt_3b067_13 : decode cJ1_charAt_3b067 13 = .ok (.i2c, 1) := by decide +kernel
theorem dJ1_charAt_3b067_14 : decode cJ1_charAt_3b067 14 = .ok (.ireturn, 1) := by decide +kernel
theorem dJ2_getChar_3b067_0 : decode cJ2_getChar_3b067 0 = .ok (.getstatic 44, 3) := by decide +kernel
theorem dJ2_getChar_3b067_3 : decode cJ2_getChar_3b067 3 = .ok (.ifCond .ne 25, 3) := by decide +kernel
theorem dJ2_getChar_3b067_6 : decode cJ2_getChar_3b067 6 = .ok (.iload_n 1, 1) := by decide +kernel
theorem dJ2_getChar_3b067_7 : decode cJ2_getChar_3b067 7 = .ok (.ifCond .lt 11, 3) := by decide +kernel
theorem dJ2_getChar_3b067_10 : decode cJ2_getChar_3b067 10 = .ok (.iload_n 1, 1) := by decide +kernel
theorem dJ2_getChar_3b067_11 : decode cJ2_getChar_3b067 11 = .ok (.aload_n 0, 1) := by decide +kernel
theorem dJ2_getChar_3b067_12 : decode cJ2_getChar_3b067 12 = .ok (.invokestatic 48, 3) := by decide +kernel
theorem dJ2_getChar_3b067_15 : decode cJ2_getChar_3b067 15 = .ok (.if_icmp .lt 13, 3) := by decide +kernel
theorem dJ2_getChar_3b067_18 : decode cJ2_getChar_3b067 18 = .ok (.new 52, 3) := by decide +kernel
theorem dJ2_getChar_3b067_21 : decode cJ2_getChar_3b067 21 = .ok (.dup, 1) := by decide +kernel
theorem dJ2_getChar_3b067_22 : decode cJ2_getChar_3b067 22 = .ok (.ldc 54, 2) := by decide +kernel
theorem dJ2_getChar_3b067_24 : decode cJ2_getChar_3b067 24 = .ok (.invokespecial 56, 3) := by decide +kernel
theorem dJ2_getChar_3b067_27 : decode cJ2_getChar_3b067 27 = .ok (.athrow, 1) := by decide +kernel
theorem dJ2_getChar_3b067_28 : decode cJ2_getChar_3b067 28 = .ok (.iload_n 1, 1) := by decide +kernel
theorem dJ2_getChar_3b067_29 : decode cJ2_getChar_3b067 29 = .ok (.iconst 1, 1) := by decide +kernel
theorem dJ2_getChar_3b067_30 : decode cJ2_getChar_3b067 30 = .ok (.ishl, 1) := by decide +kernel
theorem dJ2_getChar_3b067_31 : decode cJ2_getChar_3b067 31 = .ok (.istore_n 1, 1) := by decide +kernel
theorem dJ2_getChar_3b067_32 : decode cJ2_getChar_3b067 32 = .ok (.aload_n 0, 1) := by decide +kernel
theorem dJ2_getChar_3b067_33 : decode cJ2_getChar_3b067 33 = .ok (.iload_n 1, 1) := by decide +kernel
theorem dJ2_getChar_3b067_34 : decode cJ2_getChar_3b067 34 = .ok (.iinc 1 1, 3) := by decide +kernel
theorem dJ2_getChar_3b067_37 : decode cJ2_getChar_3b067 37 = .ok (.baload, 1) := by decide +kernel
theorem dJ2_getChar_3b067_38 : decode cJ2_getChar_3b067 38 = .ok (.sipush 255, 3) := by decide +kernel
theorem dJ2_getChar_3b067_41 : decode cJ2_getChar_3b067 41 = .ok (.iand, 1) := by decide +kernel
theorem dJ2_getChar_3b067_42 : decode cJ2_getChar_3b067 42 = .ok (.getstatic 59, 3) := by decide +kernel
theorem dJ2_getChar_3b067_45 : decode cJ2_getChar_3b067 45 = .ok (.ishl, 1) := by decide +kernel
theorem dJ2_getChar_3b067_46 : decode cJ2_getChar_3b067 46 = .ok (.aload_n 0, 1) := by decide +kernel
theorem dJ2_getChar_3b067_47 : decode cJ2_getChar_3b067 47 = .ok (.iload_n 1, 1) := by decide +kernel
theorem dJ2_getChar_3b067_48 : decode cJ2_getChar_3b067 48 = .ok (.baload, 1) := by decide +kernel
theorem dJ2_getChar_3b067_49 : decode cJ2_getChar_3b067 49 = .ok (.sipush 255, 3) := by decide +kernel
theorem dJ2_getChar_3b067_52 : decode cJ2_getChar_3b067 52 = .ok (.iand, 1) := by decide +kernel
theorem dJ2_getChar_3b067_53 : decode cJ2_getChar_3b067 53 = .ok (.getstatic 63, 3) := by decide +kernel
theorem dJ2_getChar_3b067_56 : decode cJ2_getChar_3b067 56 = .ok (.ishl, 1) := by decide +kernel
theorem dJ2_getChar_3b067_57 : decode cJ2_getChar_3b067 57 = .ok (.ior, 1) := by decide +kernel
theorem dJ2_getChar_3b067_58 : decode cJ2_getChar_3b067 58 = .ok (.i2c, 1) := by decide +kernel
theorem dJ2_getChar_3b067_59 : decode cJ2_getChar_3b067 59 = .ok (.ireturn, 1) := by decide +kernel
theorem dJ2_length_9d52b_0 : decode cJ2_length_9d52b 0 = .ok (.aload_n 0, 1) := by decide +kernel
theorem dJ2_length_9d52b_1 : decode cJ2_length_9d52b 1 = .ok (.arraylength, 1) := by decide +kernel
theorem dJ2_length_9d52b_2 : decode cJ2_length_9d52b 2 = .ok (.iconst 1, 1) := by decide +kernel
theorem dJ2_length_9d52b_3 : decode cJ2_length_9d52b 3 = .ok (.ishr, 1) := by decide +kernel
theorem dJ2_length_9d52b_4 : decode cJ2_length_9d52b 4 = .ok (.ireturn, 1) := by decide +kernel
theorem dJ2_charAt_3b067_0 : decode cJ2_charAt_3b067 0 = .ok (.iload_n 1, 1) := by decide +kernel
theorem dJ2_charAt_3b067_1 : decode cJ2_charAt_3b067 1 = .ok (.aload_n 0, 1) := by decide +kernel
theorem dJ2_charAt_3b067_2 : decode cJ2_charAt_3b067 2 = .ok (.invokestatic 67, 3) := by decide +kernel
theorem dJ2_charAt_3b067_5 : decode cJ2_charAt_3b067 5 = .ok (.aload_n 0, 1) := by decide +kernel
theorem dJ2_charAt_3b067_6 : decode cJ2_charAt_3b067 6 = .ok (.iload_n 1, 1) := by decide +kernel
theorem dJ2_charAt_3b067_7 : decode cJ2_charAt_3b067 7 = .ok (.invokestatic 71, 3) := by decide +kernel
theorem dJ2_charAt_3b067_10 : decode cJ2_charAt_3b067 10 = .ok (.ireturn, 1) := by decide +kernel
theorem dJ2_checkIndex_2214a_0 : decode cJ2_checkIndex_2214a 0 = .ok (.iload_n 0, 1) := by decide +kernel
theorem dJ2_checkIndex_2214a_1 : decode cJ2_checkIndex_2214a 1 = .ok (.aload_n 1, 1) := by decide +kernel
theorem dJ2_checkIndex_2214a_2 : decode cJ2_checkIndex_2214a 2 = .ok (.invokestatic 48, 3) := by decide +kernel
theorem dJ2_checkIndex_2214a_5 : decode cJ2_checkIndex_2214a 5 = .ok (.invokestatic 414, 3) := by decide +kernel
theorem dJ2_checkIndex_2214a_8 : decode cJ2_checkIndex_2214a 8 = .ok (.return_, 1) := by decide +kernel
theorem dJ7_fill_53178_0 : decode cJ7_fill_53178 0 = .ok (.iconst 0, 1) := by decide +kernel
theorem dJ7_fill_53178_1 : decode cJ7_fill_53178 1 = .ok (.istore_n 2, 1) := by decide +kernel
theorem dJ7_fill_53178_2 : decode cJ7_fill_53178 2 = .ok (.aload_n 0, 1) := by decide +kernel
theorem dJ7_fill_53178_3 : decode cJ7_fill_53178 3 = .ok (.arraylength, 1) := by decide +kernel
theorem dJ7_fill_53178_4 : decode cJ7_fill_53178 4 = .ok (.istore_n 3, 1) := by decide +kernel
theorem dJ7_fill_53178_5 : decode cJ7_fill_53178 5 = .ok (.iload_n 2, 1) := by decide +kernel
theorem dJ7_fill_53178_6 : decode cJ7_fill_53178 6 = .ok (.iload_n 3, 1) := by decide +kernel
theorem dJ7_fill_53178_7 : decode cJ7_fill_53178 7 = .ok (.if_icmp .ge 13, 3) := by decide +kernel
theorem dJ7_fill_53178_10 : decode cJ7_fill_53178 10 = .ok (.aload_n 0, 1) := by decide +kernel
theorem dJ7_fill_53178_11 : decode cJ7_fill_53178 11 = .ok (.iload_n 2, 1) := by decide +kernel
theorem dJ7_fill_53178_12 : decode cJ7_fill_53178 12 = .ok (.iload_n 1, 1) := by decide +kernel
theorem dJ7_fill_53178_13 : decode cJ7_fill_53178 13 = .ok (.iastore, 1) := by decide +kernel
theorem dJ7_fill_53178_14 : decode cJ7_fill_53178 14 = .ok (.iinc 2 1, 3) := by decide +kernel
theorem dJ7_fill_53178_17 : decode cJ7_fill_53178 17 = .ok (.goto (-12), 3) := by decide +kernel
theorem dJ7_fill_53178_20 : decode cJ7_fill_53178 20 = .ok (.return_, 1) := by decide +kernel
theorem dJ3_checkIndex_8e157_0 : decode cJ3_checkIndex_8e157 0 = .ok (.iload_n 0, 1) := by decide +kernel
theorem dJ3_checkIndex_8e157_1 : decode cJ3_checkIndex_8e157 1 = .ok (.ifCond .lt 8, 3) := by decide +kernel
theorem dJ3_checkIndex_8e157_4 : decode cJ3_checkIndex_8e157 4 = .ok (.iload_n 0, 1) := by decide +kernel
theorem dJ3_checkIndex_8e157_5 : decode cJ3_checkIndex_8e157 5 = .ok (.iload_n 1, 1) := by decide +kernel
theorem dJ3_checkIndex_8e157_6 : decode cJ3_checkIndex_8e157 6 = .ok (.if_icmp .lt 10, 3) := by decide +kernel
theorem dJ3_checkIndex_8e157_9 : decode cJ3_checkIndex_8e157 9 = .ok (.aload_n 2, 1) := by decide +kernel
theorem dJ3_checkIndex_8e157_10 : decode cJ3_checkIndex_8e157 10 = .ok (.iload_n 0, 1) := by decide +kernel
theorem dJ3_checkIndex_8e157_11 : decode cJ3_checkIndex_8e157 11 = .ok (.iload_n 1, 1) := by decide +kernel
theorem dJ3_checkIndex_8e157_12 : decode cJ3_checkIndex_8e157 12 = .ok (.invokestatic 95, 3) := by decide +kernel
theorem dJ3_checkIndex_8e157_15 : decode cJ3_checkIndex_8e157 15 = .ok (.athrow, 1) := by decide +kernel
theorem dJ3_checkIndex_8e157_16 : decode cJ3_checkIndex_8e157 16 = .ok (.iload_n 0, 1) := by decide +kernel
theorem dJ3_checkIndex_8e157_17 : decode cJ3_checkIndex_8e157 17 = .ok (.ireturn, 1) := by decide +kernel
theorem dL_addFilter_0 : decode cL_addFilter 0 = .ok (.aload_n 3, 1) := by decide +kernel
theorem dL_addFilter_1 : decode cL_addFilter 1 = .ok (.iconst 0, 1) := by decide +kernel
theorem dL_addFilter_2 : decode cL_addFilter 2 = .ok (.aload_n 0, 1) := by decide +kernel
theorem dL_addFilter_3 : decode cL_addFilter 3 = .ok (.iload_n 1, 1) := by decide +kernel
theorem dL_addFilter_4 : decode cL_addFilter 4 = .ok (.iload_n 2, 1) := by decide +kernel
theorem dL_addFilter_5 : decode cL_addFilter 5 = .ok (.invokevirtual 7, 3) := by decide +kernel
theorem dL_addFilter_8 : decode cL_addFilter 8 = .ok (.i2l, 1) := by decide +kernel
theorem dL_addFilter_9 : decode cL_addFilter 9 = .ok (.lastore, 1) := by decide +kernel
theorem dL_addFilter_10 : decode cL_addFilter 10 = .ok (.goto 11, 3) := by decide +kernel
theorem dL_addFilter_13 : decode cL_addFilter 13 = .ok (.astore 4, 2) := by decide +kernel
theorem dL_addFilter_15 : decode cL_addFilter 15 = .ok (.iconst 1, 1) := by decide +kernel
theorem dL_addFilter_16 : decode cL_addFilter 16 = .ok (.ireturn, 1) := by decide +kernel
theorem dL_addFilter_17 : decode cL_addFilter 17 = .ok (.astore 4, 2) := by decide +kernel
theorem dL_addFilter_19 : decode cL_addFilter 19 = .ok (.iconst 2, 1) := by decide +kernel
theorem dL_addFilter_20 : decode cL_addFilter 20 = .ok (.ireturn, 1) := by decide +kernel
theorem dL_addFilter_21 : decode cL_addFilter 21 = .ok (.iconst 0, 1) := by decide +kernel
theorem dL_addFilter_22 : decode cL_addFilter 22 = .ok (.ireturn, 1) := by decide +kernel
theorem dL_insertFilter_0 : decode cL_insertFilter 0 = .ok (.aload 4, 2) := by decide +kernel
theorem dL_insertFilter_2 : decode cL_insertFilter 2 = .ok (.iconst 0, 1) := by decide +kernel
theorem dL_insertFilter_3 : decode cL_insertFilter 3 = .ok (.aload_n 0, 1) := by decide +kernel
theorem dL_insertFilter_4 : decode cL_insertFilter 4 = .ok (.iload_n 1, 1) := by decide +kernel
theorem dL_insertFilter_5 : decode cL_insertFilter 5 = .ok (.iload_n 2, 1) := by decide +kernel
theorem dL_insertFilter_6 : decode cL_insertFilter 6 = .ok (.iload_n 3, 1) := by decide +kernel
theorem dL_insertFilter_7 : decode cL_insertFilter 7 = .ok (.invokevirtual 17, 3) := by decide +kernel
theorem dL_insertFilter_10 : decode cL_insertFilter 10 = .ok (.i2l, 1) := by decide +kernel
theorem dL_insertFilter_11 : decode cL_insertFilter 11 = .ok (.lastore, 1) := by decide +kernel
theorem dL_insertFilter_12 : decode cL_insertFilter 12 = .ok (.goto 15, 3) := by decide +kernel
theorem dL_insertFilter_15 : decode cL_insertFilter 15 = .ok (.astore 5, 2) := by decide +kernel
theorem dL_insertFilter_17 : decode cL_insertFilter 17 = .ok (.iconst 1, 1) := by decide +kernel
theorem dL_insertFilter_18 : decode cL_insertFilter 18 = .ok (.ireturn, 1) := by decide +kernel
theorem dL_insertFilter_19 : decode cL_insertFilter 19 = .ok (.astore 5, 2) := by decide +kernel
theorem dL_insertFilter_21 : decode cL_insertFilter 21 = .ok (.iconst 2, 1) := by decide +kernel
theorem dL_insertFilter_22 : decode cL_insertFilter 22 = .ok (.ireturn, 1) := by decide +kernel
theorem dL_insertFilter_23 : decode cL_insertFilter 23 = .ok (.astore 5, 2) := by decide +kernel
theorem dL_insertFilter_25 : decode cL_insertFilter 25 = .ok (.iconst 3, 1) := by decide +kernel
theorem dL_insertFilter_26 : decode cL_insertFilter 26 = .ok (.ireturn, 1) := by decide +kernel
theorem dL_insertFilter_27 : decode cL_insertFilter 27 = .ok (.iconst 0, 1) := by decide +kernel
theorem dL_insertFilter_28 : decode cL_insertFilter 28 = .ok (.ireturn, 1) := by decide +kernel
theorem dL_removeFilter_0 : decode cL_removeFilter 0 = .ok (.aload_n 2, 1) := by decide +kernel
theorem dL_removeFilter_1 : decode cL_removeFilter 1 = .ok (.iconst 0, 1) := by decide +kernel
theorem dL_removeFilter_2 : decode cL_removeFilter 2 = .ok (.aload_n 0, 1) := by decide +kernel
theorem dL_removeFilter_3 : decode cL_removeFilter 3 = .ok (.iload_n 1, 1) := by decide +kernel
theorem dL_removeFilter_4 : decode cL_removeFilter 4 = .ok (.invokevirtual 23, 3) := by decide +kernel
theorem dL_removeFilter_7 : decode cL_removeFilter 7 = .ok (.i2l, 1) := by decide +kernel
theorem dL_removeFilter_8 : decode cL_removeFilter 8 = .ok (.lastore, 1) := by decide +kernel
theorem dL_removeFilter_9 : decode cL_removeFilter 9 = .ok (.goto 6, 3) := by decide +kernel
theorem dL_removeFilter_12 : decode cL_removeFilter 12 = .ok (.astore_n 3, 1) := by decide +kernel
theorem dL_removeFilter_13 : decode cL_removeFilter 13 = .ok (.iconst 1, 1) := by decide +kernel
theorem dL_removeFilter_14 : decode cL_removeFilter 14 = .ok (.ireturn, 1) := by decide +kernel
theorem dL_removeFilter_15 : decode cL_removeFilter 15 = .ok (.iconst 0, 1) := by decide +kernel
theorem dL_removeFilter_16 : decode cL_removeFilter 16 = .ok (.ireturn, 1) := by decide +kernel
theorem dL_swapFilters_0 : decode cL_swapFilters 0 = .ok (.aload_n 3, 1) := by decide +kernel
theorem dL_swapFilters_1 : decode cL_swapFilters 1 = .ok (.iconst 0, 1) := by decide +kernel
theorem dL_swapFilters_2 : decode cL_swapFilters 2 = .ok (.aload_n 0, 1) := by decide +kernel
theorem dL_swapFilters_3 : decode cL_swapFilters 3 = .ok (.iload_n 1, 1) := by decide +kernel
theorem dL_swapFilters_4 : decode cL_swapFilters 4 = .ok (.iload_n 2, 1) := by decide +kernel
theorem dL_swapFilters_5 : decode cL_swapFilters 5 = .ok (.invokevirtual 27, 3) := by decide +kernel
theorem dL_swapFilters_8 : decode cL_swapFilters 8 = .ok (.i2l, 1) := by decide +kernel
theorem dL_swapFilters_9 : decode cL_swapFilters 9 = .ok (.lastore, 1) := by decide +kernel
theorem dL_swapFilters_10 : decode cL_swapFilters 10 = .ok (.goto 7, 3) := by decide +kernel
theorem dL_swapFilters_13 : decode cL_swapFilters 13 = .ok (.astore 4, 2) := by decide +kernel
theorem dL_swapFilters_15 : decode cL_swapFilters 15 = .ok (.iconst 1, 1) := by decide +kernel
theorem dL_swapFilters_16 : decode cL_swapFilters 16 = .ok (.ireturn, 1) := by decide +kernel
theorem dL_swapFilters_17 : decode cL_swapFilters 17 = .ok (.iconst 0, 1) := by decide +kernel
theorem dL_swapFilters_18 : decode cL_swapFilters 18 = .ok (.ireturn, 1) := by decide +kernel
theorem dL_filterKind_0 : decode cL_filterKind 0 = .ok (.aload_n 2, 1) := by decide +kernel
theorem dL_filterKind_1 : decode cL_filterKind 1 = .ok (.iconst 0, 1) := by decide +kernel
theorem dL_filterKind_2 : decode cL_filterKind 2 = .ok (.aload_n 0, 1) := by decide +kernel
theorem dL_filterKind_3 : decode cL_filterKind 3 = .ok (.iload_n 1, 1) := by decide +kernel
theorem dL_filterKind_4 : decode cL_filterKind 4 = .ok (.invokevirtual 31, 3) := by decide +kernel
theorem dL_filterKind_7 : decode cL_filterKind 7 = .ok (.i2l, 1) := by decide +kernel
theorem dL_filterKind_8 : decode cL_filterKind 8 = .ok (.lastore, 1) := by decide +kernel
theorem dL_filterKind_9 : decode cL_filterKind 9 = .ok (.goto 6, 3) := by decide +kernel
theorem dL_filterKind_12 : decode cL_filterKind 12 = .ok (.astore_n 3, 1) := by decide +kernel
theorem dL_filterKind_13 : decode cL_filterKind 13 = .ok (.iconst 1, 1) := by decide +kernel
theorem dL_filterKind_14 : decode cL_filterKind 14 = .ok (.ireturn, 1) := by decide +kernel
theorem dL_filterKind_15 : decode cL_filterKind 15 = .ok (.iconst 0, 1) := by decide +kernel
theorem dL_filterKind_16 : decode cL_filterKind 16 = .ok (.ireturn, 1) := by decide +kernel
theorem dL_filterParameter_0 : decode cL_filterParameter 0 = .ok (.aload_n 2, 1) := by decide +kernel
theorem dL_filterParameter_1 : decode cL_filterParameter 1 = .ok (.iconst 0, 1) := by decide +kernel
theorem dL_filterParameter_2 : decode cL_filterParameter 2 = .ok (.aload_n 0, 1) := by decide +kernel
theorem dL_filterParameter_3 : decode cL_filterParameter 3 = .ok (.iload_n 1, 1) := by decide +kernel
theorem dL_filterParameter_4 : decode cL_filterParameter 4 = .ok (.invokevirtual 35, 3) := by decide +kernel
theorem dL_filterParameter_7 : decode cL_filterParameter 7 = .ok (.i2l, 1) := by decide +kernel
theorem dL_filterParameter_8 : decode cL_filterParameter 8 = .ok (.lastore, 1) := by decide +kernel
theorem dL_filterParameter_9 : decode cL_filterParameter 9 = .ok (.goto 6, 3) := by decide +kernel
theorem dL_filterParameter_12 : decode cL_filterParameter 12 = .ok (.astore_n 3, 1) := by decide +kernel
theorem dL_filterParameter_13 : decode cL_filterParameter 13 = .ok (.iconst 1, 1) := by decide +kernel
theorem dL_filterParameter_14 : decode cL_filterParameter 14 = .ok (.ireturn, 1) := by decide +kernel
theorem dL_filterParameter_15 : decode cL_filterParameter 15 = .ok (.iconst 0, 1) := by decide +kernel
theorem dL_filterParameter_16 : decode cL_filterParameter 16 = .ok (.ireturn, 1) := by decide +kernel
theorem dL_addNote_0 : decode cL_addNote 0 = .ok (.aload 5, 2) := by decide +kernel
theorem dL_addNote_2 : decode cL_addNote 2 = .ok (.iconst 0, 1) := by decide +kernel
theorem dL_addNote_3 : decode cL_addNote 3 = .ok (.aload_n 0, 1) := by decide +kernel
theorem dL_addNote_4 : decode cL_addNote 4 = .ok (.iload_n 1, 1) := by decide +kernel
theorem dL_addNote_5 : decode cL_addNote 5 = .ok (.iload_n 2, 1) := by decide +kernel
theorem dL_addNote_6 : decode cL_addNote 6 = .ok (.iload_n 3, 1) := by decide +kernel
theorem dL_addNote_7 : decode cL_addNote 7 = .ok (.iload 4, 2) := by decide +kernel
theorem dL_addNote_9 : decode cL_addNote 9 = .ok (.invokevirtual 38, 3) := by decide +kernel
theorem dL_addNote_12 : decode cL_addNote 12 = .ok (.i2l, 1) := by decide +kernel
theorem dL_addNote_13 : decode cL_addNote 13 = .ok (.lastore, 1) := by decide +kernel
theorem dL_addNote_14 : decode cL_addNote 14 = .ok (.goto 15, 3) := by decide +kernel
theorem dL_addNote_17 : decode cL_addNote 17 = .ok (.astore 6, 2) := by decide +kernel
theorem dL_addNote_19 : decode cL_addNote 19 = .ok (.iconst 1, 1) := by decide +kernel
theorem dL_addNote_20 : decode cL_addNote 20 = .ok (.ireturn, 1) := by decide +kernel
theorem dL_addNote_21 : decode cL_addNote 21 = .ok (.astore 6, 2) := by decide +kernel
theorem dL_addNote_23 : decode cL_addNote 23 = .ok (.iconst 2, 1) := by decide +kernel
theorem dL_addNote_24 : decode cL_addNote 24 = .ok (.ireturn, 1) := by decide +kernel
theorem dL_addNote_25 : decode cL_addNote 25 = .ok (.astore 6, 2) := by decide +kernel
theorem dL_addNote_27 : decode cL_addNote 27 = .ok (.iconst 3, 1) := by decide +kernel
theorem dL_addNote_28 : decode cL_addNote 28 = .ok (.ireturn, 1) := by decide +kernel
theorem dL_addNote_29 : decode cL_addNote 29 = .ok (.iconst 0, 1) := by decide +kernel
theorem dL_addNote_30 : decode cL_addNote 30 = .ok (.ireturn, 1) := by decide +kernel
theorem dL_removeNote_0 : decode cL_removeNote 0 = .ok (.aload_n 2, 1) := by decide +kernel
theorem dL_removeNote_1 : decode cL_removeNote 1 = .ok (.iconst 0, 1) := by decide +kernel
theorem dL_removeNote_2 : decode cL_removeNote 2 = .ok (.aload_n 0, 1) := by decide +kernel
theorem dL_removeNote_3 : decode cL_removeNote 3 = .ok (.iload_n 1, 1) := by decide +kernel
theorem dL_removeNote_4 : decode cL_removeNote 4 = .ok (.invokevirtual 42, 3) := by decide +kernel
theorem dL_removeNote_7 : decode cL_removeNote 7 = .ok (.i2l, 1) := by decide +kernel
theorem dL_removeNote_8 : decode cL_removeNote 8 = .ok (.lastore, 1) := by decide +kernel
theorem dL_removeNote_9 : decode cL_removeNote 9 = .ok (.goto 9, 3) := by decide +kernel
theorem dL_removeNote_12 : decode cL_removeNote 12 = .ok (.astore_n 3, 1) := by decide +kernel
theorem dL_removeNote_13 : decode cL_removeNote 13 = .ok (.iconst 1, 1) := by decide +kernel
theorem dL_removeNote_14 : decode cL_removeNote 14 = .ok (.ireturn, 1) := by decide +kernel
theorem dL_removeNote_15 : decode cL_removeNote 15 = .ok (.astore_n 3, 1) := by decide +kernel
theorem dL_removeNote_16 : decode cL_removeNote 16 = .ok (.iconst 2, 1) := by decide +kernel
theorem dL_removeNote_17 : decode cL_removeNote 17 = .ok (.ireturn, 1) := by decide +kernel
theorem dL_removeNote_18 : decode cL_removeNote 18 = .ok (.iconst 0, 1) := by decide +kernel
theorem dL_removeNote_19 : decode cL_removeNote 19 = .ok (.ireturn, 1) := by decide +kernel
theorem dL_noteCount_0 : decode cL_noteCount 0 = .ok (.aload_n 2, 1) := by decide +kernel
theorem dL_noteCount_1 : decode cL_noteCount 1 = .ok (.iconst 0, 1) := by decide +kernel
theorem dL_noteCount_2 : decode cL_noteCount 2 = .ok (.aload_n 0, 1) := by decide +kernel
theorem dL_noteCount_3 : decode cL_noteCount 3 = .ok (.iload_n 1, 1) := by decide +kernel
theorem dL_noteCount_4 : decode cL_noteCount 4 = .ok (.invokevirtual 47, 3) := by decide +kernel
theorem dL_noteCount_7 : decode cL_noteCount 7 = .ok (.i2l, 1) := by decide +kernel
theorem dL_noteCount_8 : decode cL_noteCount 8 = .ok (.lastore, 1) := by decide +kernel
theorem dL_noteCount_9 : decode cL_noteCount 9 = .ok (.goto 6, 3) := by decide +kernel
theorem dL_noteCount_12 : decode cL_noteCount 12 = .ok (.astore_n 3, 1) := by decide +kernel
theorem dL_noteCount_13 : decode cL_noteCount 13 = .ok (.iconst 1, 1) := by decide +kernel
theorem dL_noteCount_14 : decode cL_noteCount 14 = .ok (.ireturn, 1) := by decide +kernel
theorem dL_noteCount_15 : decode cL_noteCount 15 = .ok (.iconst 0, 1) := by decide +kernel
theorem dL_noteCount_16 : decode cL_noteCount 16 = .ok (.ireturn, 1) := by decide +kernel
theorem dL_songLength_0 : decode cL_songLength 0 = .ok (.aload_n 2, 1) := by decide +kernel
theorem dL_songLength_1 : decode cL_songLength 1 = .ok (.iconst 0, 1) := by decide +kernel
theorem dL_songLength_2 : decode cL_songLength 2 = .ok (.aload_n 0, 1) := by decide +kernel
theorem dL_songLength_3 : decode cL_songLength 3 = .ok (.iload_n 1, 1) := by decide +kernel
theorem dL_songLength_4 : decode cL_songLength 4 = .ok (.invokevirtual 50, 3) := by decide +kernel
theorem dL_songLength_7 : decode cL_songLength 7 = .ok (.i2l, 1) := by decide +kernel
theorem dL_songLength_8 : decode cL_songLength 8 = .ok (.lastore, 1) := by decide +kernel
theorem dL_songLength_9 : decode cL_songLength 9 = .ok (.goto 6, 3) := by decide +kernel
theorem dL_songLength_12 : decode cL_songLength 12 = .ok (.astore_n 3, 1) := by decide +kernel
theorem dL_songLength_13 : decode cL_songLength 13 = .ok (.iconst 1, 1) := by decide +kernel
theorem dL_songLength_14 : decode cL_songLength 14 = .ok (.ireturn, 1) := by decide +kernel
theorem dL_songLength_15 : decode cL_songLength 15 = .ok (.iconst 0, 1) := by decide +kernel
theorem dL_songLength_16 : decode cL_songLength 16 = .ok (.ireturn, 1) := by decide +kernel
theorem dL_rawSample_0 : decode cL_rawSample 0 = .ok (.aload_n 3, 1) := by decide +kernel
theorem dL_rawSample_1 : decode cL_rawSample 1 = .ok (.iconst 0, 1) := by decide +kernel
theorem dL_rawSample_2 : decode cL_rawSample 2 = .ok (.aload_n 0, 1) := by decide +kernel
theorem dL_rawSample_3 : decode cL_rawSample 3 = .ok (.iload_n 1, 1) := by decide +kernel
theorem dL_rawSample_4 : decode cL_rawSample 4 = .ok (.iload_n 2, 1) := by decide +kernel
theorem dL_rawSample_5 : decode cL_rawSample 5 = .ok (.invokevirtual 53, 3) := by decide +kernel
theorem dL_rawSample_8 : decode cL_rawSample 8 = .ok (.i2l, 1) := by decide +kernel
theorem dL_rawSample_9 : decode cL_rawSample 9 = .ok (.lastore, 1) := by decide +kernel
theorem dL_rawSample_10 : decode cL_rawSample 10 = .ok (.goto 11, 3) := by decide +kernel
theorem dL_rawSample_13 : decode cL_rawSample 13 = .ok (.astore 4, 2) := by decide +kernel
theorem dL_rawSample_15 : decode cL_rawSample 15 = .ok (.iconst 1, 1) := by decide +kernel
theorem dL_rawSample_16 : decode cL_rawSample 16 = .ok (.ireturn, 1) := by decide +kernel
theorem dL_rawSample_17 : decode cL_rawSample 17 = .ok (.astore 4, 2) := by decide +kernel
theorem dL_rawSample_19 : decode cL_rawSample 19 = .ok (.iconst 2, 1) := by decide +kernel
theorem dL_rawSample_20 : decode cL_rawSample 20 = .ok (.ireturn, 1) := by decide +kernel
theorem dL_rawSample_21 : decode cL_rawSample 21 = .ok (.iconst 0, 1) := by decide +kernel
theorem dL_rawSample_22 : decode cL_rawSample 22 = .ok (.ireturn, 1) := by decide +kernel
theorem dL_sample_0 : decode cL_sample 0 = .ok (.aload_n 3, 1) := by decide +kernel
theorem dL_sample_1 : decode cL_sample 1 = .ok (.iconst 0, 1) := by decide +kernel
theorem dL_sample_2 : decode cL_sample 2 = .ok (.aload_n 0, 1) := by decide +kernel
theorem dL_sample_3 : decode cL_sample 3 = .ok (.iload_n 1, 1) := by decide +kernel
theorem dL_sample_4 : decode cL_sample 4 = .ok (.iload_n 2, 1) := by decide +kernel
theorem dL_sample_5 : decode cL_sample 5 = .ok (.invokevirtual 56, 3) := by decide +kernel
theorem dL_sample_8 : decode cL_sample 8 = .ok (.i2l, 1) := by decide +kernel
theorem dL_sample_9 : decode cL_sample 9 = .ok (.lastore, 1) := by decide +kernel
theorem dL_sample_10 : decode cL_sample 10 = .ok (.goto 11, 3) := by decide +kernel
theorem dL_sample_13 : decode cL_sample 13 = .ok (.astore 4, 2) := by decide +kernel
theorem dL_sample_15 : decode cL_sample 15 = .ok (.iconst 1, 1) := by decide +kernel
theorem dL_sample_16 : decode cL_sample 16 = .ok (.ireturn, 1) := by decide +kernel
theorem dL_sample_17 : decode cL_sample 17 = .ok (.astore 4, 2) := by decide +kernel
theorem dL_sample_19 : decode cL_sample 19 = .ok (.iconst 2, 1) := by decide +kernel
theorem dL_sample_20 : decode cL_sample 20 = .ok (.ireturn, 1) := by decide +kernel
theorem dL_sample_21 : decode cL_sample 21 = .ok (.iconst 0, 1) := by decide +kernel
theorem dL_sample_22 : decode cL_sample 22 = .ok (.ireturn, 1) := by decide +kernel
theorem dL_sampleByFilter_0 : decode cL_sampleByFilter 0 = .ok (.aload_n 3, 1) := by decide +kernel
theorem dL_sampleByFilter_1 : decode cL_sampleByFilter 1 = .ok (.iconst 0, 1) := by decide +kernel
theorem dL_sampleByFilter_2 : decode cL_sampleByFilter 2 = .ok (.aload_n 0, 1) := by decide +kernel
theorem dL_sampleByFilter_3 : decode cL_sampleByFilter 3 = .ok (.iload_n 1, 1) := by decide +kernel
theorem dL_sampleByFilter_4 : decode cL_sampleByFilter 4 = .ok (.iload_n 2, 1) := by decide +kernel
theorem dL_sampleByFilter_5 : decode cL_sampleByFilter 5 = .ok (.invokevirtual 59, 3) := by decide +kernel
theorem dL_sampleByFilter_8 : decode cL_sampleByFilter 8 = .ok (.i2l, 1) := by decide +kernel
theorem dL_sampleByFilter_9 : decode cL_sampleByFilter 9 = .ok (.lastore, 1) := by decide +kernel
theorem dL_sampleByFilter_10 : decode cL_sampleByFilter 10 = .ok (.goto 11, 3) := by decide +kernel
theorem dL_sampleByFilter_13 : decode cL_sampleByFilter 13 = .ok (.astore 4, 2) := by decide +kernel
theorem dL_sampleByFilter_15 : decode cL_sampleByFilter 15 = .ok (.iconst 1, 1) := by decide +kernel
theorem dL_sampleByFilter_16 : decode cL_sampleByFilter 16 = .ok (.ireturn, 1) := by decide +kernel
theorem dL_sampleByFilter_17 : decode cL_sampleByFilter 17 = .ok (.astore 4, 2) := by decide +kernel
theorem dL_sampleByFilter_19 : decode cL_sampleByFilter 19 = .ok (.iconst 2, 1) := by decide +kernel
theorem dL_sampleByFilter_20 : decode cL_sampleByFilter 20 = .ok (.ireturn, 1) := by decide +kernel
theorem dL_sampleByFilter_21 : decode cL_sampleByFilter 21 = .ok (.iconst 0, 1) := by decide +kernel
theorem dL_sampleByFilter_22 : decode cL_sampleByFilter 22 = .ok (.ireturn, 1) := by decide +kernel
theorem dL_mixedSample_0 : decode cL_mixedSample 0 = .ok (.aload 4, 2) := by decide +kernel
theorem dL_mixedSample_2 : decode cL_mixedSample 2 = .ok (.iconst 0, 1) := by decide +kernel
theorem dL_mixedSample_3 : decode cL_mixedSample 3 = .ok (.aload_n 0, 1) := by decide +kernel
theorem dL_mixedSample_4 : decode cL_mixedSample 4 = .ok (.iload_n 1, 1) := by decide +kernel
theorem dL_mixedSample_5 : decode cL_mixedSample 5 = .ok (.iload_n 2, 1) := by decide +kernel
theorem dL_mixedSample_6 : decode cL_mixedSample 6 = .ok (.iload_n 3, 1) := by decide +kernel
theorem dL_mixedSample_7 : decode cL_mixedSample 7 = .ok (.invokevirtual 62, 3) := by decide +kernel
theorem dL_mixedSample_10 : decode cL_mixedSample 10 = .ok (.i2l, 1) := by decide +kernel
theorem dL_mixedSample_11 : decode cL_mixedSample 11 = .ok (.lastore, 1) := by decide +kernel
theorem dL_mixedSample_12 : decode cL_mixedSample 12 = .ok (.goto 11, 3) := by decide +kernel
theorem dL_mixedSample_15 : decode cL_mixedSample 15 = .ok (.astore 5, 2) := by decide +kernel
theorem dL_mixedSample_17 : decode cL_mixedSample 17 = .ok (.iconst 1, 1) := by decide +kernel
theorem dL_mixedSample_18 : decode cL_mixedSample 18 = .ok (.ireturn, 1) := by decide +kernel
theorem dL_mixedSample_19 : decode cL_mixedSample 19 = .ok (.astore 5, 2) := by decide +kernel
theorem dL_mixedSample_21 : decode cL_mixedSample 21 = .ok (.iconst 2, 1) := by decide +kernel
theorem dL_mixedSample_22 : decode cL_mixedSample 22 = .ok (.ireturn, 1) := by decide +kernel
theorem dL_mixedSample_23 : decode cL_mixedSample 23 = .ok (.iconst 0, 1) := by decide +kernel
theorem dL_mixedSample_24 : decode cL_mixedSample 24 = .ok (.ireturn, 1) := by decide +kernel
theorem dL_peak_0 : decode cL_peak 0 = .ok (.aload_n 2, 1) := by decide +kernel
theorem dL_peak_1 : decode cL_peak 1 = .ok (.iconst 0, 1) := by decide +kernel
theorem dL_peak_2 : decode cL_peak 2 = .ok (.aload_n 0, 1) := by decide +kernel
theorem dL_peak_3 : decode cL_peak 3 = .ok (.iload_n 1, 1) := by decide +kernel
theorem dL_peak_4 : decode cL_peak 4 = .ok (.invokevirtual 66, 3) := by decide +kernel
theorem dL_peak_7 : decode cL_peak 7 = .ok (.i2l, 1) := by decide +kernel
theorem dL_peak_8 : decode cL_peak 8 = .ok (.lastore, 1) := by decide +kernel
theorem dL_peak_9 : decode cL_peak 9 = .ok (.goto 9, 3) := by decide +kernel
theorem dL_peak_12 : decode cL_peak 12 = .ok (.astore_n 3, 1) := by decide +kernel
theorem dL_peak_13 : decode cL_peak 13 = .ok (.iconst 1, 1) := by decide +kernel
theorem dL_peak_14 : decode cL_peak 14 = .ok (.ireturn, 1) := by decide +kernel
theorem dL_peak_15 : decode cL_peak 15 = .ok (.astore_n 3, 1) := by decide +kernel
theorem dL_peak_16 : decode cL_peak 16 = .ok (.iconst 2, 1) := by decide +kernel
theorem dL_peak_17 : decode cL_peak 17 = .ok (.ireturn, 1) := by decide +kernel
theorem dL_peak_18 : decode cL_peak 18 = .ok (.iconst 0, 1) := by decide +kernel
theorem dL_peak_19 : decode cL_peak 19 = .ok (.ireturn, 1) := by decide +kernel
theorem dL_energy_0 : decode cL_energy 0 = .ok (.aload_n 2, 1) := by decide +kernel
theorem dL_energy_1 : decode cL_energy 1 = .ok (.iconst 0, 1) := by decide +kernel
theorem dL_energy_2 : decode cL_energy 2 = .ok (.aload_n 0, 1) := by decide +kernel
theorem dL_energy_3 : decode cL_energy 3 = .ok (.iload_n 1, 1) := by decide +kernel
theorem dL_energy_4 : decode cL_energy 4 = .ok (.invokevirtual 69, 3) := by decide +kernel
theorem dL_energy_7 : decode cL_energy 7 = .ok (.lastore, 1) := by decide +kernel
theorem dL_energy_8 : decode cL_energy 8 = .ok (.goto 6, 3) := by decide +kernel
theorem dL_energy_11 : decode cL_energy 11 = .ok (.astore_n 3, 1) := by decide +kernel
theorem dL_energy_12 : decode cL_energy 12 = .ok (.iconst 1, 1) := by decide +kernel
theorem dL_energy_13 : decode cL_energy 13 = .ok (.ireturn, 1) := by decide +kernel
theorem dL_energy_14 : decode cL_energy 14 = .ok (.iconst 0, 1) := by decide +kernel
theorem dL_energy_15 : decode cL_energy 15 = .ok (.ireturn, 1) := by decide +kernel
theorem dL_signChanges_0 : decode cL_signChanges 0 = .ok (.aload_n 2, 1) := by decide +kernel
theorem dL_signChanges_1 : decode cL_signChanges 1 = .ok (.iconst 0, 1) := by decide +kernel
theorem dL_signChanges_2 : decode cL_signChanges 2 = .ok (.aload_n 0, 1) := by decide +kernel
theorem dL_signChanges_3 : decode cL_signChanges 3 = .ok (.iload_n 1, 1) := by decide +kernel
theorem dL_signChanges_4 : decode cL_signChanges 4 = .ok (.invokevirtual 73, 3) := by decide +kernel
theorem dL_signChanges_7 : decode cL_signChanges 7 = .ok (.i2l, 1) := by decide +kernel
theorem dL_signChanges_8 : decode cL_signChanges 8 = .ok (.lastore, 1) := by decide +kernel
theorem dL_signChanges_9 : decode cL_signChanges 9 = .ok (.goto 6, 3) := by decide +kernel
theorem dL_signChanges_12 : decode cL_signChanges 12 = .ok (.astore_n 3, 1) := by decide +kernel
theorem dL_signChanges_13 : decode cL_signChanges 13 = .ok (.iconst 1, 1) := by decide +kernel
theorem dL_signChanges_14 : decode cL_signChanges 14 = .ok (.ireturn, 1) := by decide +kernel
theorem dL_signChanges_15 : decode cL_signChanges 15 = .ok (.iconst 0, 1) := by decide +kernel
theorem dL_signChanges_16 : decode cL_signChanges 16 = .ok (.ireturn, 1) := by decide +kernel
theorem dL_addTank_0 : decode cL_addTank 0 = .ok (.aload_n 2, 1) := by decide +kernel
theorem dL_addTank_1 : decode cL_addTank 1 = .ok (.iconst 0, 1) := by decide +kernel
theorem dL_addTank_2 : decode cL_addTank 2 = .ok (.aload_n 0, 1) := by decide +kernel
theorem dL_addTank_3 : decode cL_addTank 3 = .ok (.iload_n 1, 1) := by decide +kernel
theorem dL_addTank_4 : decode cL_addTank 4 = .ok (.invokevirtual 76, 3) := by decide +kernel
theorem dL_addTank_7 : decode cL_addTank 7 = .ok (.i2l, 1) := by decide +kernel
theorem dL_addTank_8 : decode cL_addTank 8 = .ok (.lastore, 1) := by decide +kernel
theorem dL_addTank_9 : decode cL_addTank 9 = .ok (.goto 9, 3) := by decide +kernel
theorem dL_addTank_12 : decode cL_addTank 12 = .ok (.astore_n 3, 1) := by decide +kernel
theorem dL_addTank_13 : decode cL_addTank 13 = .ok (.iconst 1, 1) := by decide +kernel
theorem dL_addTank_14 : decode cL_addTank 14 = .ok (.ireturn, 1) := by decide +kernel
theorem dL_addTank_15 : decode cL_addTank 15 = .ok (.astore_n 3, 1) := by decide +kernel
theorem dL_addTank_16 : decode cL_addTank 16 = .ok (.iconst 2, 1) := by decide +kernel
theorem dL_addTank_17 : decode cL_addTank 17 = .ok (.ireturn, 1) := by decide +kernel
theorem dL_addTank_18 : decode cL_addTank 18 = .ok (.iconst 0, 1) := by decide +kernel
theorem dL_addTank_19 : decode cL_addTank 19 = .ok (.ireturn, 1) := by decide +kernel
theorem dL_setTuning_0 : decode cL_setTuning 0 = .ok (.aload_n 3, 1) := by decide +kernel
theorem dL_setTuning_1 : decode cL_setTuning 1 = .ok (.iconst 0, 1) := by decide +kernel
theorem dL_setTuning_2 : decode cL_setTuning 2 = .ok (.aload_n 0, 1) := by decide +kernel
theorem dL_setTuning_3 : decode cL_setTuning 3 = .ok (.iload_n 1, 1) := by decide +kernel
theorem dL_setTuning_4 : decode cL_setTuning 4 = .ok (.iload_n 2, 1) := by decide +kernel
theorem dL_setTuning_5 : decode cL_setTuning 5 = .ok (.invokevirtual 79, 3) := by decide +kernel
theorem dL_setTuning_8 : decode cL_setTuning 8 = .ok (.i2l, 1) := by decide +kernel
theorem dL_setTuning_9 : decode cL_setTuning 9 = .ok (.lastore, 1) := by decide +kernel
theorem dL_setTuning_10 : decode cL_setTuning 10 = .ok (.goto 11, 3) := by decide +kernel
theorem dL_setTuning_13 : decode cL_setTuning 13 = .ok (.astore 4, 2) := by decide +kernel
theorem dL_setTuning_15 : decode cL_setTuning 15 = .ok (.iconst 1, 1) := by decide +kernel
theorem dL_setTuning_16 : decode cL_setTuning 16 = .ok (.ireturn, 1) := by decide +kernel
theorem dL_setTuning_17 : decode cL_setTuning 17 = .ok (.astore 4, 2) := by decide +kernel
theorem dL_setTuning_19 : decode cL_setTuning 19 = .ok (.iconst 2, 1) := by decide +kernel
theorem dL_setTuning_20 : decode cL_setTuning 20 = .ok (.ireturn, 1) := by decide +kernel
theorem dL_setTuning_21 : decode cL_setTuning 21 = .ok (.iconst 0, 1) := by decide +kernel
theorem dL_setTuning_22 : decode cL_setTuning 22 = .ok (.ireturn, 1) := by decide +kernel
theorem dL_pour_0 : decode cL_pour 0 = .ok (.aload_n 2, 1) := by decide +kernel
theorem dL_pour_1 : decode cL_pour 1 = .ok (.iconst 0, 1) := by decide +kernel
theorem dL_pour_2 : decode cL_pour 2 = .ok (.aload_n 0, 1) := by decide +kernel
theorem dL_pour_3 : decode cL_pour 3 = .ok (.iload_n 1, 1) := by decide +kernel
theorem dL_pour_4 : decode cL_pour 4 = .ok (.invokevirtual 82, 3) := by decide +kernel
theorem dL_pour_7 : decode cL_pour 7 = .ok (.i2l, 1) := by decide +kernel
theorem dL_pour_8 : decode cL_pour 8 = .ok (.lastore, 1) := by decide +kernel
theorem dL_pour_9 : decode cL_pour 9 = .ok (.goto 9, 3) := by decide +kernel
theorem dL_pour_12 : decode cL_pour 12 = .ok (.astore_n 3, 1) := by decide +kernel
theorem dL_pour_13 : decode cL_pour 13 = .ok (.iconst 1, 1) := by decide +kernel
theorem dL_pour_14 : decode cL_pour 14 = .ok (.ireturn, 1) := by decide +kernel
theorem dL_pour_15 : decode cL_pour 15 = .ok (.astore_n 3, 1) := by decide +kernel
theorem dL_pour_16 : decode cL_pour 16 = .ok (.iconst 2, 1) := by decide +kernel
theorem dL_pour_17 : decode cL_pour 17 = .ok (.ireturn, 1) := by decide +kernel
theorem dL_pour_18 : decode cL_pour 18 = .ok (.iconst 0, 1) := by decide +kernel
theorem dL_pour_19 : decode cL_pour 19 = .ok (.ireturn, 1) := by decide +kernel
theorem dL_drain_0 : decode cL_drain 0 = .ok (.aload_n 3, 1) := by decide +kernel
theorem dL_drain_1 : decode cL_drain 1 = .ok (.iconst 0, 1) := by decide +kernel
theorem dL_drain_2 : decode cL_drain 2 = .ok (.aload_n 0, 1) := by decide +kernel
theorem dL_drain_3 : decode cL_drain 3 = .ok (.iload_n 1, 1) := by decide +kernel
theorem dL_drain_4 : decode cL_drain 4 = .ok (.iload_n 2, 1) := by decide +kernel
theorem dL_drain_5 : decode cL_drain 5 = .ok (.invokevirtual 85, 3) := by decide +kernel
theorem dL_drain_8 : decode cL_drain 8 = .ok (.i2l, 1) := by decide +kernel
theorem dL_drain_9 : decode cL_drain 9 = .ok (.lastore, 1) := by decide +kernel
theorem dL_drain_10 : decode cL_drain 10 = .ok (.goto 15, 3) := by decide +kernel
theorem dL_drain_13 : decode cL_drain 13 = .ok (.astore 4, 2) := by decide +kernel
theorem dL_drain_15 : decode cL_drain 15 = .ok (.iconst 1, 1) := by decide +kernel
theorem dL_drain_16 : decode cL_drain 16 = .ok (.ireturn, 1) := by decide +kernel
theorem dL_drain_17 : decode cL_drain 17 = .ok (.astore 4, 2) := by decide +kernel
theorem dL_drain_19 : decode cL_drain 19 = .ok (.iconst 2, 1) := by decide +kernel
theorem dL_drain_20 : decode cL_drain 20 = .ok (.ireturn, 1) := by decide +kernel
theorem dL_drain_21 : decode cL_drain 21 = .ok (.astore 4, 2) := by decide +kernel
theorem dL_drain_23 : decode cL_drain 23 = .ok (.iconst 3, 1) := by decide +kernel
theorem dL_drain_24 : decode cL_drain 24 = .ok (.ireturn, 1) := by decide +kernel
theorem dL_drain_25 : decode cL_drain 25 = .ok (.iconst 0, 1) := by decide +kernel
theorem dL_drain_26 : decode cL_drain 26 = .ok (.ireturn, 1) := by decide +kernel
theorem dL_capacity_0 : decode cL_capacity 0 = .ok (.aload_n 2, 1) := by decide +kernel
theorem dL_capacity_1 : decode cL_capacity 1 = .ok (.iconst 0, 1) := by decide +kernel
theorem dL_capacity_2 : decode cL_capacity 2 = .ok (.aload_n 0, 1) := by decide +kernel
theorem dL_capacity_3 : decode cL_capacity 3 = .ok (.iload_n 1, 1) := by decide +kernel
theorem dL_capacity_4 : decode cL_capacity 4 = .ok (.invokevirtual 88, 3) := by decide +kernel
theorem dL_capacity_7 : decode cL_capacity 7 = .ok (.i2l, 1) := by decide +kernel
theorem dL_capacity_8 : decode cL_capacity 8 = .ok (.lastore, 1) := by decide +kernel
theorem dL_capacity_9 : decode cL_capacity 9 = .ok (.goto 6, 3) := by decide +kernel
theorem dL_capacity_12 : decode cL_capacity 12 = .ok (.astore_n 3, 1) := by decide +kernel
theorem dL_capacity_13 : decode cL_capacity 13 = .ok (.iconst 1, 1) := by decide +kernel
theorem dL_capacity_14 : decode cL_capacity 14 = .ok (.ireturn, 1) := by decide +kernel
theorem dL_capacity_15 : decode cL_capacity 15 = .ok (.iconst 0, 1) := by decide +kernel
theorem dL_capacity_16 : decode cL_capacity 16 = .ok (.ireturn, 1) := by decide +kernel
theorem dL_tuning_0 : decode cL_tuning 0 = .ok (.aload_n 2, 1) := by decide +kernel
theorem dL_tuning_1 : decode cL_tuning 1 = .ok (.iconst 0, 1) := by decide +kernel
theorem dL_tuning_2 : decode cL_tuning 2 = .ok (.aload_n 0, 1) := by decide +kernel
theorem dL_tuning_3 : decode cL_tuning 3 = .ok (.iload_n 1, 1) := by decide +kernel
theorem dL_tuning_4 : decode cL_tuning 4 = .ok (.invokevirtual 91, 3) := by decide +kernel
theorem dL_tuning_7 : decode cL_tuning 7 = .ok (.i2l, 1) := by decide +kernel
theorem dL_tuning_8 : decode cL_tuning 8 = .ok (.lastore, 1) := by decide +kernel
theorem dL_tuning_9 : decode cL_tuning 9 = .ok (.goto 6, 3) := by decide +kernel
theorem dL_tuning_12 : decode cL_tuning 12 = .ok (.astore_n 3, 1) := by decide +kernel
theorem dL_tuning_13 : decode cL_tuning 13 = .ok (.iconst 1, 1) := by decide +kernel
theorem dL_tuning_14 : decode cL_tuning 14 = .ok (.ireturn, 1) := by decide +kernel
theorem dL_tuning_15 : decode cL_tuning 15 = .ok (.iconst 0, 1) := by decide +kernel
theorem dL_tuning_16 : decode cL_tuning 16 = .ok (.ireturn, 1) := by decide +kernel
theorem dL_level_0 : decode cL_level 0 = .ok (.aload_n 2, 1) := by decide +kernel
theorem dL_level_1 : decode cL_level 1 = .ok (.iconst 0, 1) := by decide +kernel
theorem dL_level_2 : decode cL_level 2 = .ok (.aload_n 0, 1) := by decide +kernel
theorem dL_level_3 : decode cL_level 3 = .ok (.iload_n 1, 1) := by decide +kernel
theorem dL_level_4 : decode cL_level 4 = .ok (.invokevirtual 94, 3) := by decide +kernel
theorem dL_level_7 : decode cL_level 7 = .ok (.i2l, 1) := by decide +kernel
theorem dL_level_8 : decode cL_level 8 = .ok (.lastore, 1) := by decide +kernel
theorem dL_level_9 : decode cL_level 9 = .ok (.goto 6, 3) := by decide +kernel
theorem dL_level_12 : decode cL_level 12 = .ok (.astore_n 3, 1) := by decide +kernel
theorem dL_level_13 : decode cL_level 13 = .ok (.iconst 1, 1) := by decide +kernel
theorem dL_level_14 : decode cL_level 14 = .ok (.ireturn, 1) := by decide +kernel
theorem dL_level_15 : decode cL_level 15 = .ok (.iconst 0, 1) := by decide +kernel
theorem dL_level_16 : decode cL_level 16 = .ok (.ireturn, 1) := by decide +kernel
theorem dL_frameLoudness_0 : decode cL_frameLoudness 0 = .ok (.aload_n 3, 1) := by decide +kernel
theorem dL_frameLoudness_1 : decode cL_frameLoudness 1 = .ok (.iconst 0, 1) := by decide +kernel
theorem dL_frameLoudness_2 : decode cL_frameLoudness 2 = .ok (.aload_n 0, 1) := by decide +kernel
theorem dL_frameLoudness_3 : decode cL_frameLoudness 3 = .ok (.iload_n 1, 1) := by decide +kernel
theorem dL_frameLoudness_4 : decode cL_frameLoudness 4 = .ok (.iload_n 2, 1) := by decide +kernel
theorem dL_frameLoudness_5 : decode cL_frameLoudness 5 = .ok (.invokevirtual 97, 3) := by decide +kernel
theorem dL_frameLoudness_8 : decode cL_frameLoudness 8 = .ok (.i2l, 1) := by decide +kernel
theorem dL_frameLoudness_9 : decode cL_frameLoudness 9 = .ok (.lastore, 1) := by decide +kernel
theorem dL_frameLoudness_10 : decode cL_frameLoudness 10 = .ok (.goto 11, 3) := by decide +kernel
theorem dL_frameLoudness_13 : decode cL_frameLoudness 13 = .ok (.astore 4, 2) := by decide +kernel
theorem dL_frameLoudness_15 : decode cL_frameLoudness 15 = .ok (.iconst 1, 1) := by decide +kernel
theorem dL_frameLoudness_16 : decode cL_frameLoudness 16 = .ok (.ireturn, 1) := by decide +kernel
theorem dL_frameLoudness_17 : decode cL_frameLoudness 17 = .ok (.astore 4, 2) := by decide +kernel
theorem dL_frameLoudness_19 : decode cL_frameLoudness 19 = .ok (.iconst 2, 1) := by decide +kernel
theorem dL_frameLoudness_20 : decode cL_frameLoudness 20 = .ok (.ireturn, 1) := by decide +kernel
theorem dL_frameLoudness_21 : decode cL_frameLoudness 21 = .ok (.iconst 0, 1) := by decide +kernel
theorem dL_frameLoudness_22 : decode cL_frameLoudness 22 = .ok (.ireturn, 1) := by decide +kernel
theorem dL_frameCount_0 : decode cL_frameCount 0 = .ok (.aload_n 2, 1) := by decide +kernel
theorem dL_frameCount_1 : decode cL_frameCount 1 = .ok (.iconst 0, 1) := by decide +kernel
theorem dL_frameCount_2 : decode cL_frameCount 2 = .ok (.aload_n 0, 1) := by decide +kernel
theorem dL_frameCount_3 : decode cL_frameCount 3 = .ok (.iload_n 1, 1) := by decide +kernel
theorem dL_frameCount_4 : decode cL_frameCount 4 = .ok (.invokevirtual 100, 3) := by decide +kernel
theorem dL_frameCount_7 : decode cL_frameCount 7 = .ok (.i2l, 1) := by decide +kernel
theorem dL_frameCount_8 : decode cL_frameCount 8 = .ok (.lastore, 1) := by decide +kernel
theorem dL_frameCount_9 : decode cL_frameCount 9 = .ok (.goto 6, 3) := by decide +kernel
theorem dL_frameCount_12 : decode cL_frameCount 12 = .ok (.astore_n 3, 1) := by decide +kernel
theorem dL_frameCount_13 : decode cL_frameCount 13 = .ok (.iconst 1, 1) := by decide +kernel
theorem dL_frameCount_14 : decode cL_frameCount 14 = .ok (.ireturn, 1) := by decide +kernel
theorem dL_frameCount_15 : decode cL_frameCount 15 = .ok (.iconst 0, 1) := by decide +kernel
theorem dL_frameCount_16 : decode cL_frameCount 16 = .ok (.ireturn, 1) := by decide +kernel
theorem dL_dropsFor_0 : decode cL_dropsFor 0 = .ok (.aload_n 2, 1) := by decide +kernel
theorem dL_dropsFor_1 : decode cL_dropsFor 1 = .ok (.iconst 0, 1) := by decide +kernel
theorem dL_dropsFor_2 : decode cL_dropsFor 2 = .ok (.aload_n 0, 1) := by decide +kernel
theorem dL_dropsFor_3 : decode cL_dropsFor 3 = .ok (.iload_n 1, 1) := by decide +kernel
theorem dL_dropsFor_4 : decode cL_dropsFor 4 = .ok (.invokevirtual 103, 3) := by decide +kernel
theorem dL_dropsFor_7 : decode cL_dropsFor 7 = .ok (.i2l, 1) := by decide +kernel
theorem dL_dropsFor_8 : decode cL_dropsFor 8 = .ok (.lastore, 1) := by decide +kernel
theorem dL_dropsFor_9 : decode cL_dropsFor 9 = .ok (.goto 6, 3) := by decide +kernel
theorem dL_dropsFor_12 : decode cL_dropsFor 12 = .ok (.astore_n 3, 1) := by decide +kernel
theorem dL_dropsFor_13 : decode cL_dropsFor 13 = .ok (.iconst 1, 1) := by decide +kernel
theorem dL_dropsFor_14 : decode cL_dropsFor 14 = .ok (.ireturn, 1) := by decide +kernel
theorem dL_dropsFor_15 : decode cL_dropsFor 15 = .ok (.iconst 0, 1) := by decide +kernel
theorem dL_dropsFor_16 : decode cL_dropsFor 16 = .ok (.ireturn, 1) := by decide +kernel
theorem dL_dropsByLevels_0 : decode cL_dropsByLevels 0 = .ok (.aload_n 2, 1) := by decide +kernel
theorem dL_dropsByLevels_1 : decode cL_dropsByLevels 1 = .ok (.iconst 0, 1) := by decide +kernel
theorem dL_dropsByLevels_2 : decode cL_dropsByLevels 2 = .ok (.aload_n 0, 1) := by decide +kernel
theorem dL_dropsByLevels_3 : decode cL_dropsByLevels 3 = .ok (.iload_n 1, 1) := by decide +kernel
theorem dL_dropsByLevels_4 : decode cL_dropsByLevels 4 = .ok (.invokevirtual 106, 3) := by decide +kernel
theorem dL_dropsByLevels_7 : decode cL_dropsByLevels 7 = .ok (.i2l, 1) := by decide +kernel
theorem dL_dropsByLevels_8 : decode cL_dropsByLevels 8 = .ok (.lastore, 1) := by decide +kernel
theorem dL_dropsByLevels_9 : decode cL_dropsByLevels 9 = .ok (.goto 6, 3) := by decide +kernel
theorem dL_dropsByLevels_12 : decode cL_dropsByLevels 12 = .ok (.astore_n 3, 1) := by decide +kernel
theorem dL_dropsByLevels_13 : decode cL_dropsByLevels 13 = .ok (.iconst 1, 1) := by decide +kernel
theorem dL_dropsByLevels_14 : decode cL_dropsByLevels 14 = .ok (.ireturn, 1) := by decide +kernel
theorem dL_dropsByLevels_15 : decode cL_dropsByLevels 15 = .ok (.iconst 0, 1) := by decide +kernel
theorem dL_dropsByLevels_16 : decode cL_dropsByLevels 16 = .ok (.ireturn, 1) := by decide +kernel
theorem dL_tankAtRank_0 : decode cL_tankAtRank 0 = .ok (.aload_n 2, 1) := by decide +kernel
theorem dL_tankAtRank_1 : decode cL_tankAtRank 1 = .ok (.iconst 0, 1) := by decide +kernel
theorem dL_tankAtRank_2 : decode cL_tankAtRank 2 = .ok (.aload_n 0, 1) := by decide +kernel
theorem dL_tankAtRank_3 : decode cL_tankAtRank 3 = .ok (.iload_n 1, 1) := by decide +kernel
theorem dL_tankAtRank_4 : decode cL_tankAtRank 4 = .ok (.invokevirtual 109, 3) := by decide +kernel
theorem dL_tankAtRank_7 : decode cL_tankAtRank 7 = .ok (.i2l, 1) := by decide +kernel
theorem dL_tankAtRank_8 : decode cL_tankAtRank 8 = .ok (.lastore, 1) := by decide +kernel
theorem dL_tankAtRank_9 : decode cL_tankAtRank 9 = .ok (.goto 6, 3) := by decide +kernel
theorem dL_tankAtRank_12 : decode cL_tankAtRank 12 = .ok (.astore_n 3, 1) := by decide +kernel
theorem dL_tankAtRank_13 : decode cL_tankAtRank 13 = .ok (.iconst 1, 1) := by decide +kernel
theorem dL_tankAtRank_14 : decode cL_tankAtRank 14 = .ok (.ireturn, 1) := by decide +kernel
theorem dL_tankAtRank_15 : decode cL_tankAtRank 15 = .ok (.iconst 0, 1) := by decide +kernel
theorem dL_tankAtRank_16 : decode cL_tankAtRank 16 = .ok (.ireturn, 1) := by decide +kernel
theorem dL_append_0 : decode cL_append 0 = .ok (.aload_n 2, 1) := by decide +kernel
theorem dL_append_1 : decode cL_append 1 = .ok (.iconst 0, 1) := by decide +kernel
theorem dL_append_2 : decode cL_append 2 = .ok (.aload_n 0, 1) := by decide +kernel
theorem dL_append_3 : decode cL_append 3 = .ok (.iload_n 1, 1) := by decide +kernel
theorem dL_append_4 : decode cL_append 4 = .ok (.invokevirtual 112, 3) := by decide +kernel
theorem dL_append_7 : decode cL_append 7 = .ok (.i2l, 1) := by decide +kernel
theorem dL_append_8 : decode cL_append 8 = .ok (.lastore, 1) := by decide +kernel
theorem dL_append_9 : decode cL_append 9 = .ok (.goto 9, 3) := by decide +kernel
theorem dL_append_12 : decode cL_append 12 = .ok (.astore_n 3, 1) := by decide +kernel
theorem dL_append_13 : decode cL_append 13 = .ok (.iconst 1, 1) := by decide +kernel
theorem dL_append_14 : decode cL_append 14 = .ok (.ireturn, 1) := by decide +kernel
theorem dL_append_15 : decode cL_append 15 = .ok (.astore_n 3, 1) := by decide +kernel
theorem dL_append_16 : decode cL_append 16 = .ok (.iconst 2, 1) := by decide +kernel
theorem dL_append_17 : decode cL_append 17 = .ok (.ireturn, 1) := by decide +kernel
theorem dL_append_18 : decode cL_append 18 = .ok (.iconst 0, 1) := by decide +kernel
theorem dL_append_19 : decode cL_append 19 = .ok (.ireturn, 1) := by decide +kernel
theorem dL_run_0 : decode cL_run 0 = .ok (.aload_n 1, 1) := by decide +kernel
theorem dL_run_1 : decode cL_run 1 = .ok (.iconst 0, 1) := by decide +kernel
theorem dL_run_2 : decode cL_run 2 = .ok (.aload_n 0, 1) := by decide +kernel
theorem dL_run_3 : decode cL_run 3 = .ok (.invokevirtual 116, 3) := by decide +kernel
theorem dL_run_6 : decode cL_run 6 = .ok (.i2l, 1) := by decide +kernel
theorem dL_run_7 : decode cL_run 7 = .ok (.lastore, 1) := by decide +kernel
theorem dL_run_8 : decode cL_run 8 = .ok (.goto 9, 3) := by decide +kernel
theorem dL_run_11 : decode cL_run 11 = .ok (.astore_n 2, 1) := by decide +kernel
theorem dL_run_12 : decode cL_run 12 = .ok (.iconst 1, 1) := by decide +kernel
theorem dL_run_13 : decode cL_run 13 = .ok (.ireturn, 1) := by decide +kernel
theorem dL_run_14 : decode cL_run 14 = .ok (.astore_n 2, 1) := by decide +kernel
theorem dL_run_15 : decode cL_run 15 = .ok (.iconst 2, 1) := by decide +kernel
theorem dL_run_16 : decode cL_run 16 = .ok (.ireturn, 1) := by decide +kernel
theorem dL_run_17 : decode cL_run 17 = .ok (.iconst 0, 1) := by decide +kernel
theorem dL_run_18 : decode cL_run 18 = .ok (.ireturn, 1) := by decide +kernel
theorem dL_errorPosition_0 : decode cL_errorPosition 0 = .ok (.aload_n 1, 1) := by decide +kernel
theorem dL_errorPosition_1 : decode cL_errorPosition 1 = .ok (.iconst 0, 1) := by decide +kernel
theorem dL_errorPosition_2 : decode cL_errorPosition 2 = .ok (.aload_n 0, 1) := by decide +kernel
theorem dL_errorPosition_3 : decode cL_errorPosition 3 = .ok (.invokevirtual 120, 3) := by decide +kernel
theorem dL_errorPosition_6 : decode cL_errorPosition 6 = .ok (.i2l, 1) := by decide +kernel
theorem dL_errorPosition_7 : decode cL_errorPosition 7 = .ok (.lastore, 1) := by decide +kernel
theorem dL_errorPosition_8 : decode cL_errorPosition 8 = .ok (.goto 6, 3) := by decide +kernel
theorem dL_errorPosition_11 : decode cL_errorPosition 11 = .ok (.astore_n 2, 1) := by decide +kernel
theorem dL_errorPosition_12 : decode cL_errorPosition 12 = .ok (.iconst 1, 1) := by decide +kernel
theorem dL_errorPosition_13 : decode cL_errorPosition 13 = .ok (.ireturn, 1) := by decide +kernel
theorem dL_errorPosition_14 : decode cL_errorPosition 14 = .ok (.iconst 0, 1) := by decide +kernel
theorem dL_errorPosition_15 : decode cL_errorPosition 15 = .ok (.ireturn, 1) := by decide +kernel
theorem dL_failedCommand_0 : decode cL_failedCommand 0 = .ok (.aload_n 1, 1) := by decide +kernel
theorem dL_failedCommand_1 : decode cL_failedCommand 1 = .ok (.iconst 0, 1) := by decide +kernel
theorem dL_failedCommand_2 : decode cL_failedCommand 2 = .ok (.aload_n 0, 1) := by decide +kernel
theorem dL_failedCommand_3 : decode cL_failedCommand 3 = .ok (.invokevirtual 123, 3) := by decide +kernel
theorem dL_failedCommand_6 : decode cL_failedCommand 6 = .ok (.i2l, 1) := by decide +kernel
theorem dL_failedCommand_7 : decode cL_failedCommand 7 = .ok (.lastore, 1) := by decide +kernel
theorem dL_failedCommand_8 : decode cL_failedCommand 8 = .ok (.goto 6, 3) := by decide +kernel
theorem dL_failedCommand_11 : decode cL_failedCommand 11 = .ok (.astore_n 2, 1) := by decide +kernel
theorem dL_failedCommand_12 : decode cL_failedCommand 12 = .ok (.iconst 1, 1) := by decide +kernel
theorem dL_failedCommand_13 : decode cL_failedCommand 13 = .ok (.ireturn, 1) := by decide +kernel
theorem dL_failedCommand_14 : decode cL_failedCommand 14 = .ok (.iconst 0, 1) := by decide +kernel
theorem dL_failedCommand_15 : decode cL_failedCommand 15 = .ok (.ireturn, 1) := by decide +kernel
theorem dL_describeTank_0 : decode cL_describeTank 0 = .ok (.aload_n 2, 1) := by decide +kernel
theorem dL_describeTank_1 : decode cL_describeTank 1 = .ok (.iconst 0, 1) := by decide +kernel
theorem dL_describeTank_2 : decode cL_describeTank 2 = .ok (.aload_n 0, 1) := by decide +kernel
theorem dL_describeTank_3 : decode cL_describeTank 3 = .ok (.iload_n 1, 1) := by decide +kernel
theorem dL_describeTank_4 : decode cL_describeTank 4 = .ok (.invokevirtual 126, 3) := by decide +kernel
theorem dL_describeTank_7 : decode cL_describeTank 7 = .ok (.i2l, 1) := by decide +kernel
theorem dL_describeTank_8 : decode cL_describeTank 8 = .ok (.lastore, 1) := by decide +kernel
theorem dL_describeTank_9 : decode cL_describeTank 9 = .ok (.goto 6, 3) := by decide +kernel
theorem dL_describeTank_12 : decode cL_describeTank 12 = .ok (.astore_n 3, 1) := by decide +kernel
theorem dL_describeTank_13 : decode cL_describeTank 13 = .ok (.iconst 1, 1) := by decide +kernel
theorem dL_describeTank_14 : decode cL_describeTank 14 = .ok (.ireturn, 1) := by decide +kernel
theorem dL_describeTank_15 : decode cL_describeTank 15 = .ok (.iconst 0, 1) := by decide +kernel
theorem dL_describeTank_16 : decode cL_describeTank 16 = .ok (.ireturn, 1) := by decide +kernel
theorem dL_lineAt_0 : decode cL_lineAt 0 = .ok (.aload_n 2, 1) := by decide +kernel
theorem dL_lineAt_1 : decode cL_lineAt 1 = .ok (.iconst 0, 1) := by decide +kernel
theorem dL_lineAt_2 : decode cL_lineAt 2 = .ok (.aload_n 0, 1) := by decide +kernel
theorem dL_lineAt_3 : decode cL_lineAt 3 = .ok (.iload_n 1, 1) := by decide +kernel
theorem dL_lineAt_4 : decode cL_lineAt 4 = .ok (.invokevirtual 129, 3) := by decide +kernel
theorem dL_lineAt_7 : decode cL_lineAt 7 = .ok (.i2l, 1) := by decide +kernel
theorem dL_lineAt_8 : decode cL_lineAt 8 = .ok (.lastore, 1) := by decide +kernel
theorem dL_lineAt_9 : decode cL_lineAt 9 = .ok (.goto 6, 3) := by decide +kernel
theorem dL_lineAt_12 : decode cL_lineAt 12 = .ok (.astore_n 3, 1) := by decide +kernel
theorem dL_lineAt_13 : decode cL_lineAt 13 = .ok (.iconst 1, 1) := by decide +kernel
theorem dL_lineAt_14 : decode cL_lineAt 14 = .ok (.ireturn, 1) := by decide +kernel
theorem dL_lineAt_15 : decode cL_lineAt 15 = .ok (.iconst 0, 1) := by decide +kernel
theorem dL_lineAt_16 : decode cL_lineAt 16 = .ok (.ireturn, 1) := by decide +kernel
theorem dL_meanLevel_0 : decode cL_meanLevel 0 = .ok (.aload_n 2, 1) := by decide +kernel
theorem dL_meanLevel_1 : decode cL_meanLevel 1 = .ok (.iconst 0, 1) := by decide +kernel
theorem dL_meanLevel_2 : decode cL_meanLevel 2 = .ok (.aload_n 0, 1) := by decide +kernel
theorem dL_meanLevel_3 : decode cL_meanLevel 3 = .ok (.iload_n 1, 1) := by decide +kernel
theorem dL_meanLevel_4 : decode cL_meanLevel 4 = .ok (.invokevirtual 132, 3) := by decide +kernel
theorem dL_meanLevel_7 : decode cL_meanLevel 7 = .ok (.dastore, 1) := by decide +kernel
theorem dL_meanLevel_8 : decode cL_meanLevel 8 = .ok (.goto 9, 3) := by decide +kernel
theorem dL_meanLevel_11 : decode cL_meanLevel 11 = .ok (.astore_n 3, 1) := by decide +kernel
theorem dL_meanLevel_12 : decode cL_meanLevel 12 = .ok (.iconst 1, 1) := by decide +kernel
theorem dL_meanLevel_13 : decode cL_meanLevel 13 = .ok (.ireturn, 1) := by decide +kernel
theorem dL_meanLevel_14 : decode cL_meanLevel 14 = .ok (.astore_n 3, 1) := by decide +kernel
theorem dL_meanLevel_15 : decode cL_meanLevel 15 = .ok (.iconst 2, 1) := by decide +kernel
theorem dL_meanLevel_16 : decode cL_meanLevel 16 = .ok (.ireturn, 1) := by decide +kernel
theorem dL_meanLevel_17 : decode cL_meanLevel 17 = .ok (.iconst 0, 1) := by decide +kernel
theorem dL_meanLevel_18 : decode cL_meanLevel 18 = .ok (.ireturn, 1) := by decide +kernel
theorem dL_filledShare_0 : decode cL_filledShare 0 = .ok (.aload_n 1, 1) := by decide +kernel
theorem dL_filledShare_1 : decode cL_filledShare 1 = .ok (.iconst 0, 1) := by decide +kernel
theorem dL_filledShare_2 : decode cL_filledShare 2 = .ok (.aload_n 0, 1) := by decide +kernel
theorem dL_filledShare_3 : decode cL_filledShare 3 = .ok (.invokevirtual 138, 3) := by decide +kernel
theorem dL_filledShare_6 : decode cL_filledShare 6 = .ok (.f2d, 1) := by decide +kernel
theorem dL_filledShare_7 : decode cL_filledShare 7 = .ok (.dastore, 1) := by decide +kernel
theorem dL_filledShare_8 : decode cL_filledShare 8 = .ok (.goto 6, 3) := by decide +kernel
theorem dL_filledShare_11 : decode cL_filledShare 11 = .ok (.astore_n 2, 1) := by decide +kernel
theorem dL_filledShare_12 : decode cL_filledShare 12 = .ok (.iconst 1, 1) := by decide +kernel
theorem dL_filledShare_13 : decode cL_filledShare 13 = .ok (.ireturn, 1) := by decide +kernel
theorem dL_filledShare_14 : decode cL_filledShare 14 = .ok (.iconst 0, 1) := by decide +kernel
theorem dL_filledShare_15 : decode cL_filledShare 15 = .ok (.ireturn, 1) := by decide +kernel
theorem dL_undo_0 : decode cL_undo 0 = .ok (.aload_n 1, 1) := by decide +kernel
theorem dL_undo_1 : decode cL_undo 1 = .ok (.iconst 0, 1) := by decide +kernel
theorem dL_undo_2 : decode cL_undo 2 = .ok (.aload_n 0, 1) := by decide +kernel
theorem dL_undo_3 : decode cL_undo 3 = .ok (.invokevirtual 142, 3) := by decide +kernel
theorem dL_undo_6 : decode cL_undo 6 = .ok (.i2l, 1) := by decide +kernel
theorem dL_undo_7 : decode cL_undo 7 = .ok (.lastore, 1) := by decide +kernel
theorem dL_undo_8 : decode cL_undo 8 = .ok (.goto 6, 3) := by decide +kernel
theorem dL_undo_11 : decode cL_undo 11 = .ok (.astore_n 2, 1) := by decide +kernel
theorem dL_undo_12 : decode cL_undo 12 = .ok (.iconst 1, 1) := by decide +kernel
theorem dL_undo_13 : decode cL_undo 13 = .ok (.ireturn, 1) := by decide +kernel
theorem dL_undo_14 : decode cL_undo 14 = .ok (.iconst 0, 1) := by decide +kernel
theorem dL_undo_15 : decode cL_undo 15 = .ok (.ireturn, 1) := by decide +kernel
theorem dL_restore_0 : decode cL_restore 0 = .ok (.aload_n 1, 1) := by decide +kernel
theorem dL_restore_1 : decode cL_restore 1 = .ok (.iconst 0, 1) := by decide +kernel
theorem dL_restore_2 : decode cL_restore 2 = .ok (.aload_n 0, 1) := by decide +kernel
theorem dL_restore_3 : decode cL_restore 3 = .ok (.invokevirtual 145, 3) := by decide +kernel
theorem dL_restore_6 : decode cL_restore 6 = .ok (.i2l, 1) := by decide +kernel
theorem dL_restore_7 : decode cL_restore 7 = .ok (.lastore, 1) := by decide +kernel
theorem dL_restore_8 : decode cL_restore 8 = .ok (.goto 6, 3) := by decide +kernel
theorem dL_restore_11 : decode cL_restore 11 = .ok (.astore_n 2, 1) := by decide +kernel
theorem dL_restore_12 : decode cL_restore 12 = .ok (.iconst 1, 1) := by decide +kernel
theorem dL_restore_13 : decode cL_restore 13 = .ok (.ireturn, 1) := by decide +kernel
theorem dL_restore_14 : decode cL_restore 14 = .ok (.iconst 0, 1) := by decide +kernel
theorem dL_restore_15 : decode cL_restore 15 = .ok (.ireturn, 1) := by decide +kernel
theorem dL_law_0 : decode cL_law 0 = .ok (.new 8, 3) := by decide +kernel
theorem dL_law_3 : decode cL_law 3 = .ok (.dup, 1) := by decide +kernel
theorem dL_law_4 : decode cL_law 4 = .ok (.invokespecial 148, 3) := by decide +kernel
theorem dL_law_7 : decode cL_law 7 = .ok (.astore_n 1, 1) := by decide +kernel
theorem dL_law_8 : decode cL_law 8 = .ok (.new 149, 3) := by decide +kernel
theorem dL_law_11 : decode cL_law 11 = .ok (.dup, 1) := by decide +kernel
theorem dL_law_12 : decode cL_law 12 = .ok (.invokespecial 151, 3) := by decide +kernel
theorem dL_law_15 : decode cL_law 15 = .ok (.astore_n 2, 1) := by decide +kernel
theorem dL_law_16 : decode cL_law 16 = .ok (.iconst 1, 1) := by decide +kernel
theorem dL_law_17 : decode cL_law 17 = .ok (.newarray .long, 2) := by decide +kernel
theorem dL_law_19 : decode cL_law 19 = .ok (.astore_n 3, 1) := by decide +kernel
theorem dL_law_20 : decode cL_law 20 = .ok (.iconst 1, 1) := by decide +kernel
theorem dL_law_21 : decode cL_law 21 = .ok (.newarray .double, 2) := by decide +kernel
theorem dL_law_23 : decode cL_law 23 = .ok (.astore 4, 2) := by decide +kernel
theorem dL_law_25 : decode cL_law 25 = .ok (.iconst 0, 1) := by decide +kernel
theorem dL_law_26 : decode cL_law 26 = .ok (.istore 5, 2) := by decide +kernel
theorem dL_law_28 : decode cL_law 28 = .ok (.iload 5, 2) := by decide +kernel
theorem dL_law_30 : decode cL_law 30 = .ok (.aload_n 0, 1) := by decide +kernel
theorem dL_law_31 : decode cL_law 31 = .ok (.arraylength, 1) := by decide +kernel
theorem dL_law_32 : decode cL_law 32 = .ok (.iconst 5, 1) := by decide +kernel
theorem dL_law_33 : decode cL_law 33 = .ok (.isub, 1) := by decide +kernel
theorem dL_law_34 : decode cL_law 34 = .ok (.if_icmp .gt 2681, 3) := by decide +kernel
theorem dL_law_37 : decode cL_law 37 = .ok (.aload_n 0, 1) := by decide +kernel
theorem dL_law_38 : decode cL_law 38 = .ok (.iload 5, 2) := by decide +kernel
theorem dL_law_40 : decode cL_law 40 = .ok (.iaload, 1) := by decide +kernel
theorem dL_law_41 : decode cL_law 41 = .ok (.bipush 63, 2) := by decide +kernel
theorem dL_law_43 : decode cL_law 43 = .ok (.iand, 1) := by decide +kernel
theorem dL_law_44 : decode cL_law 44 = .ok (.tableswitch 2665 0 47 #[208, 278, 360, 416, 484, 497, 553, 609, 701, 757, 813, 869, 937, 1005, 1073, 1153, 1209, 1264, 1320, 1333, 1389, 1457, 1513, 1581, 1594, 1650, 1706, 1762, 1830, 1886, 1942, 1998, 2054, 2067, 2080, 2093, 2151, 2195, 2239, 2283, 2296, 2352, 2408, 2485, 2551, 2564, 2608, 2621], 208) := by decide +kernel
theorem dL_law_252 : decode cL_law 252 = .ok (.aload_n 1, 1) := by decide +kernel
theorem dL_law_253 : decode cL_law 253 = .ok (.aload_n 0, 1) := by decide +kernel
theorem dL_law_254 : decode cL_law 254 = .ok (.iload 5, 2) := by decide +kernel
theorem dL_law_256 : decode cL_law 256 = .ok (.iconst 1, 1) := by decide +kernel
theorem dL_law_257 : decode cL_law 257 = .ok (.iadd, 1) := by decide +kernel
theorem dL_law_258 : decode cL_law 258 = .ok (.iaload, 1) := by decide +kernel
theorem dL_law_259 : decode cL_law 259 = .ok (.i2c, 1) := by decide +kernel
theorem dL_law_260 : decode cL_law 260 = .ok (.aload_n 0, 1) := by decide +kernel
theorem dL_law_261 : decode cL_law 261 = .ok (.iload 5, 2) := by decide +kernel
theorem dL_law_263 : decode cL_law 263 = .ok (.iconst 2, 1) := by decide +kernel
theorem dL_law_264 : decode cL_law 264 = .ok (.iadd, 1) := by decide +kernel
theorem dL_law_265 : decode cL_law 265 = .ok (.iaload, 1) := by decide +kernel
theorem dL_law_266 : decode cL_law 266 = .ok (.aload_n 3, 1) := by decide +kernel
theorem dL_law_267 : decode cL_law 267 = .ok (.invokestatic 152, 3) := by decide +kernel
theorem dL_law_270 : decode cL_law 270 = .ok (.istore 6, 2) := by decide +kernel
theorem dL_law_272 : decode cL_law 272 = .ok (.aload_n 2, 1) := by decide +kernel
theorem dL_law_273 : decode cL_law 273 = .ok (.aload_n 0, 1) := by decide +kernel
theorem dL_law_274 : decode cL_law 274 = .ok (.iload 5, 2) := by decide +kernel
theorem dL_law_276 : decode cL_law 276 = .ok (.iconst 1, 1) := by decide +kernel
theorem dL_law_277 : decode cL_law 277 = .ok (.iadd, 1) := by decide +kernel
theorem dL_law_278 : decode cL_law 278 = .ok (.iaload, 1) := by decide +kernel
theorem dL_law_279 : decode cL_law 279 = .ok (.i2c, 1) := by decide +kernel
theorem dL_law_280 : decode cL_law 280 = .ok (.aload_n 0, 1) := by decide +kernel
theorem dL_law_281 : decode cL_law 281 = .ok (.iload 5, 2) := by decide +kernel
theorem dL_law_283 : decode cL_law 283 = .ok (.iconst 2, 1) := by decide +kernel
theorem dL_law_284 : decode cL_law 284 = .ok (.iadd, 1) := by decide +kernel
theorem dL_law_285 : decode cL_law 285 = .ok (.iaload, 1) := by decide +kernel
theorem dL_law_286 : decode cL_law 286 = .ok (.invokevirtual 157, 3) := by decide +kernel
theorem dL_law_289 : decode cL_law 289 = .ok (.istore 7, 2) := by decide +kernel
theorem dL_law_291 : decode cL_law 291 = .ok (.aload_n 2, 1) := by decide +kernel
theorem dL_law_292 : decode cL_law 292 = .ok (.invokevirtual 158, 3) := by decide +kernel
theorem dL_law_295 : decode cL_law 295 = .ok (.iload 6, 2) := by decide +kernel
theorem dL_law_297 : decode cL_law 297 = .ok (.if_icmp .eq 5, 3) := by decide +kernel
theorem dL_law_300 : decode cL_law 300 = .ok (.iconst 0, 1) := by decide +kernel
theorem dL_law_301 : decode cL_law 301 = .ok (.ireturn, 1) := by decide +kernel
theorem dL_law_302 : decode cL_law 302 = .ok (.iload 6, 2) := by decide +kernel
theorem dL_law_304 : decode cL_law 304 = .ok (.ifCond .ne 15, 3) := by decide +kernel
theorem dL_law_307 : decode cL_law 307 = .ok (.aload_n 3, 1) := by decide +kernel
theorem dL_law_308 : decode cL_law 308 = .ok (.iconst 0, 1) := by decide +kernel
theorem dL_law_309 : decode cL_law 309 = .ok (.laload, 1) := by decide +kernel
theorem dL_law_310 : decode cL_law 310 = .ok (.iload 7, 2) := by decide +kernel
theorem dL_law_312 : decode cL_law 312 = .ok (.i2l, 1) := by decide +kernel
theorem dL_law_313 : decode cL_law 313 = .ok (.lcmp, 1) := by decide +kernel
theorem dL_law_314 : decode cL_law 314 = .ok (.ifCond .eq 5, 3) := by decide +kernel
theorem dL_law_317 : decode cL_law 317 = .ok (.iconst 0, 1) := by decide +kernel
theorem dL_law_318 : decode cL_law 318 = .ok (.ireturn, 1) := by decide +kernel
theorem dL_law_319 : decode cL_law 319 = .ok (.goto 2390, 3) := by decide +kernel
theorem dL_law_322 : decode cL_law 322 = .ok (.aload_n 1, 1) := by decide +kernel
theorem dL_law_323 : decode cL_law 323 = .ok (.aload_n 0, 1) := by decide +kernel
theorem dL_law_324 : decode cL_law 324 = .ok (.iload 5, 2) := by decide +kernel
theorem dL_law_326 : decode cL_law 326 = .ok (.iconst 1, 1) := by decide +kernel
theorem dL_law_327 : decode cL_law 327 = .ok (.iadd, 1) := by decide +kernel
theorem dL_law_328 : decode cL_law 328 = .ok (.iaload, 1) := by decide +kernel
theorem dL_law_329 : decode cL_law 329 = .ok (.aload_n 0, 1) := by decide +kernel
theorem dL_law_330 : decode cL_law 330 = .ok (.iload 5, 2) := by decide +kernel
theorem dL_law_332 : decode cL_law 332 = .ok (.iconst 2, 1) := by decide +kernel
theorem dL_law_333 : decode cL_law 333 = .ok (.iadd, 1) := by decide +kernel
theorem dL_law_334 : decode cL_law 334 = .ok (.iaload, 1) := by decide +kernel
theorem dL_law_335 : decode cL_law 335 = .ok (.i2c, 1) := by decide +kernel
theorem dL_law_336 : decode cL_law 336 = .ok (.aload_n 0, 1) := by decide +kernel
theorem dL_law_337 : decode cL_law 337 = .ok (.iload 5, 2) := by decide +kernel
theorem dL_law_339 : decode cL_law 339 = .ok (.iconst 3, 1) := by decide +kernel
theorem dL_law_340 : decode cL_law 340 = .ok (.iadd, 1) := by decide +kernel
theorem dL_law_341 : decode cL_law 341 = .ok (.iaload, 1) := by decide +kernel
theorem dL_law_342 : decode cL_law 342 = .ok (.aload_n 3, 1) := by decide +kernel
theorem dL_law_343 : decode cL_law 343 = .ok (.invokestatic 161, 3) := by decide +kernel
theorem dL_law_346 : decode cL_law 346 = .ok (.istore 6, 2) := by decide +kernel
theorem dL_law_348 : decode cL_law 348 = .ok (.aload_n 2, 1) := by decide +kernel
theorem dL_law_349 : decode cL_law 349 = .ok (.aload_n 0, 1) := by decide +kernel
theorem dL_law_350 : decode cL_law 350 = .ok (.iload 5, 2) := by decide +kernel
theorem dL_law_352 : decode cL_law 352 = .ok (.iconst 1, 1) := by decide +kernel
theorem dL_law_353 : decode cL_law 353 = .ok (.iadd, 1) := by decide +kernel
theorem dL_law_354 : decode cL_law 354 = .ok (.iaload, 1) := by decide +kernel
theorem dL_law_355 : decode cL_law 355 = .ok (.aload_n 0, 1) := by decide +kernel
theorem dL_law_356 : decode cL_law 356 = .ok (.iload 5, 2) := by decide +kernel
theorem dL_law_358 : decode cL_law 358 = .ok (.iconst 2, 1) := by decide +kernel
theorem dL_law_359 : decode cL_law 359 = .ok (.iadd, 1) := by decide +kernel
theorem dL_law_360 : decode cL_law 360 = .ok (.iaload, 1) := by decide +kernel
theorem dL_law_361 : decode cL_law 361 = .ok (.i2c, 1) := by decide +kernel
theorem dL_law_362 : decode cL_law 362 = .ok (.aload_n 0, 1) := by decide +kernel
theorem dL_law_363 : decode cL_law 363 = .ok (.iload 5, 2) := by decide +kernel
theorem dL_law_365 : decode cL_law 365 = .ok (.iconst 3, 1) := by decide +kernel
theorem dL_law_366 : decode cL_law 366 = .ok (.iadd, 1) := by decide +kernel
theorem dL_law_367 : decode cL_law 367 = .ok (.iaload, 1) := by decide +kernel
theorem dL_law_368 : decode cL_law 368 = .ok (.invokevirtual 164, 3) := by decide +kernel
theorem dL_law_371 : decode cL_law 371 = .ok (.istore 7, 2) := by decide +kernel
theorem dL_law_373 : decode cL_law 373 = .ok (.aload_n 2, 1) := by decide +kernel
theorem dL_law_374 : decode cL_law 374 = .ok (.invokevirtual 158, 3) := by decide +kernel
theorem dL_law_377 : decode cL_law 377 = .ok (.iload 6, 2) := by decide +kernel
theorem dL_law_379 : decode cL_law 379 = .ok (.if_icmp .eq 5, 3) := by decide +kernel
theorem dL_law_382 : decode cL_law 382 = .ok (.iconst 0, 1) := by decide +kernel
theorem dL_law_383 : decode cL_law 383 = .ok (.ireturn, 1) := by decide +kernel
theorem dL_law_384 : decode cL_law 384 = .ok (.iload 6, 2) := by decide +kernel
theorem dL_law_386 : decode cL_law 386 = .ok (.ifCond .ne 15, 3) := by decide +kernel
theorem dL_law_389 : decode cL_law 389 = .ok (.aload_n 3, 1) := by decide +kernel
theorem dL_law_390 : decode cL_law 390 = .ok (.iconst 0, 1) := by decide +kernel
theorem dL_law_391 : decode cL_law 391 = .ok (.laload, 1) := by decide +kernel
theorem dL_law_392 : decode cL_law 392 = .ok (.iload 7, 2) := by decide +kernel
theorem dL_law_394 : decode cL_law 394 = .ok (.i2l, 1) := by decide +kernel
theorem dL_law_395 : decode cL_law 395 = .ok (.lcmp, 1) := by decide +kernel
theorem dL_law_396 : decode cL_law 396 = .ok (.ifCond .eq 5, 3) := by decide +kernel
theorem dL_law_399 : decode cL_law 399 = .ok (.iconst 0, 1) := by decide +kernel
theorem dL_law_400 : decode cL_law 400 = .ok (.ireturn, 1) := by decide +kernel
theorem dL_law_401 : decode cL_law 401 = .ok (.goto 2308, 3) := by decide +kernel
theorem dL_law_404 : decode cL_law 404 = .ok (.aload_n 1, 1) := by decide +kernel
theorem dL_law_405 : decode cL_law 405 = .ok (.aload_n 0, 1) := by decide +kernel
theorem dL_law_406 : decode cL_law 406 = .ok (.iload 5, 2) := by decide +kernel
theorem dL_law_408 : decode cL_law 408 = .ok (.iconst 1, 1) := by decide +kernel
theorem dL_law_409 : decode cL_law 409 = .ok (.iadd, 1) := by decide +kernel
theorem dL_law_410 : decode cL_law 410 = .ok (.iaload, 1) := by decide +kernel
theorem dL_law_411 : decode cL_law 411 = .ok (.aload_n 3, 1) := by decide +kernel
theorem dL_law_412 : decode cL_law 412 = .ok (.invokestatic 165, 3) := by decide +kernel
theorem dL_law_415 : decode cL_law 415 = .ok (.istore 6, 2) := by decide +kernel
theorem dL_law_417 : decode cL_law 417 = .ok (.aload_n 2, 1) := by decide +kernel
theorem dL_law_418 : decode cL_law 418 = .ok (.aload_n 0, 1) := by decide +kernel
theorem dL_law_419 : decode cL_law 419 = .ok (.iload 5, 2) := by decide +kernel
theorem dL_law_421 : decode cL_law 421 = .ok (.iconst 1, 1) := by decide +kernel
theorem dL_law_422 : decode cL_law 422 = .ok (.iadd, 1) := by decide +kernel
theorem dL_law_423 : decode cL_law 423 = .ok (.iaload, 1) := by decide +kernel
theorem dL_law_424 : decode cL_law 424 = .ok (.invokevirtual 168, 3) := by decide +kernel
theorem dL_law_427 : decode cL_law 427 = .ok (.istore 7, 2) := by decide +kernel
theorem dL_law_429 : decode cL_law 429 = .ok (.aload_n 2, 1) := by decide +kernel
theorem dL_law_430 : decode cL_law 430 = .ok (.invokevirtual 158, 3) := by decide +kernel
theorem dL_law_433 : decode cL_law 433 = .ok (.iload 6, 2) := by decide +kernel
theorem dL_law_435 : decode cL_law 435 = .ok (.if_icmp .eq 5, 3) := by decide +kernel
theorem dL_law_438 : decode cL_law 438 = .ok (.iconst 0, 1) := by decide +kernel
theorem dL_law_439 : decode cL_law 439 = .ok (.ireturn, 1) := by decide +kernel
theorem dL_law_440 : decode cL_law 440 = .ok (.iload 6, 2) := by decide +kernel
theorem dL_law_442 : decode cL_law 442 = .ok (.ifCond .ne 15, 3) := by decide +kernel
theorem dL_law_445 : decode cL_law 445 = .ok (.aload_n 3, 1) := by decide +kernel
theorem dL_law_446 : decode cL_law 446 = .ok (.iconst 0, 1) := by decide +kernel
theorem dL_law_447 : decode cL_law 447 = .ok (.laload, 1) := by decide +kernel
theorem dL_law_448 : decode cL_law 448 = .ok (.iload 7, 2) := by decide +kernel
theorem dL_law_450 : decode cL_law 450 = .ok (.i2l, 1) := by decide +kernel
theorem dL_law_451 : decode cL_law 451 = .ok (.lcmp, 1) := by decide +kernel
theorem dL_law_452 : decode cL_law 452 = .ok (.ifCond .eq 5, 3) := by decide +kernel
theorem dL_law_455 : decode cL_law 455 = .ok (.iconst 0, 1) := by decide +kernel
theorem dL_law_456 : decode cL_law 456 = .ok (.ireturn, 1) := by decide +kernel
theorem dL_law_457 : decode cL_law 457 = .ok (.goto 2252, 3) := by decide +kernel
theorem dL_law_460 : decode cL_law 460 = .ok (.aload_n 1, 1) := by decide +kernel
theorem dL_law_461 : decode cL_law 461 = .ok (.aload_n 0, 1) := by decide +kernel
theorem dL_law_462 : decode cL_law 462 = .ok (.iload 5, 2) := by decide +kernel
theorem dL_law_464 : decode cL_law 464 = .ok (.iconst 1, 1) := by decide +kernel
theorem dL_law_465 : decode cL_law 465 = .ok (.iadd, 1) := by decide +kernel
theorem dL_law_466 : decode cL_law 466 = .ok (.iaload, 1) := by decide +kernel
theorem dL_law_467 : decode cL_law 467 = .ok (.aload_n 0, 1) := by decide +kernel
theorem dL_law_468 : decode cL_law 468 = .ok (.iload 5, 2) := by decide +kernel
theorem dL_law_470 : decode cL_law 470 = .ok (.iconst 2, 1) := by decide +kernel
theorem dL_law_471 : decode cL_law 471 = .ok (.iadd, 1) := by decide +kernel
theorem dL_law_472 : decode cL_law 472 = .ok (.iaload, 1) := by decide +kernel
theorem dL_law_473 : decode cL_law 473 = .ok (.aload_n 3, 1) := by decide +kernel
theorem dL_law_474 : decode cL_law 474 = .ok (.invokestatic 169, 3) := by decide +kernel
theorem dL_law_477 : decode cL_law 477 = .ok (.istore 6, 2) := by decide +kernel
theorem dL_law_479 : decode cL_law 479 = .ok (.aload_n 2, 1) := by decide +kernel
theorem dL_law_480 : decode cL_law 480 = .ok (.aload_n 0, 1) := by decide +kernel
theorem dL_law_481 : decode cL_law 481 = .ok (.iload 5, 2) := by decide +kernel
theorem dL_law_483 : decode cL_law 483 = .ok (.iconst 1, 1) := by decide +kernel
theorem dL_law_484 : decode cL_law 484 = .ok (.iadd, 1) := by decide +kernel
theorem dL_law_485 : decode cL_law 485 = .ok (.iaload, 1) := by decide +kernel
theorem dL_law_486 : decode cL_law 486 = .ok (.aload_n 0, 1) := by decide +kernel
theorem dL_law_487 : decode cL_law 487 = .ok (.iload 5, 2) := by decide +kernel
theorem dL_law_489 : decode cL_law 489 = .ok (.iconst 2, 1) := by decide +kernel
theorem dL_law_490 : decode cL_law 490 = .ok (.iadd, 1) := by decide +kernel
theorem dL_law_491 : decode cL_law 491 = .ok (.iaload, 1) := by decide +kernel
theorem dL_law_492 : decode cL_law 492 = .ok (.invokevirtual 172, 3) := by decide +kernel
theorem dL_law_495 : decode cL_law 495 = .ok (.istore 7, 2) := by decide +kernel
theorem dL_law_497 : decode cL_law 497 = .ok (.aload_n 2, 1) := by decide +kernel
theorem dL_law_498 : decode cL_law 498 = .ok (.invokevirtual 158, 3) := by decide +kernel
theorem dL_law_501 : decode cL_law 501 = .ok (.iload 6, 2) := by decide +kernel
theorem dL_law_503 : decode cL_law 503 = .ok (.if_icmp .eq 5, 3) := by decide +kernel
theorem dL_law_506 : decode cL_law 506 = .ok (.iconst 0, 1) := by decide +kernel
theorem dL_law_507 : decode cL_law 507 = .ok (.ireturn, 1) := by decide +kernel
theorem dL_law_508 : decode cL_law 508 = .ok (.iload 6, 2) := by decide +kernel
theorem dL_law_510 : decode cL_law 510 = .ok (.ifCond .ne 15, 3) := by decide +kernel
theorem dL_law_513 : decode cL_law 513 = .ok (.aload_n 3, 1) := by decide +kernel
theorem dL_law_514 : decode cL_law 514 = .ok (.iconst 0, 1) := by decide +kernel
theorem dL_law_515 : decode cL_law 515 = .ok (.laload, 1) := by decide +kernel
theorem dL_law_516 : decode cL_law 516 = .ok (.iload 7, 2) := by decide +kernel
theorem dL_law_518 : decode cL_law 518 = .ok (.i2l, 1) := by decide +kernel
theorem dL_law_519 : decode cL_law 519 = .ok (.lcmp, 1) := by decide +kernel
theorem dL_law_520 : decode cL_law 520 = .ok (.ifCond .eq 5, 3) := by decide +kernel
theorem dL_law_523 : decode cL_law 523 = .ok (.iconst 0, 1) := by decide +kernel
theorem dL_law_524 : decode cL_law 524 = .ok (.ireturn, 1) := by decide +kernel
theorem dL_law_525 : decode cL_law 525 = .ok (.goto 2184, 3) := by decide +kernel
theorem dL_law_528 : decode cL_law 528 = .ok (.aload_n 1, 1) := by decide +kernel
theorem dL_law_529 : decode cL_law 529 = .ok (.invokevirtual 173, 3) := by decide +kernel
theorem dL_law_532 : decode cL_law 532 = .ok (.aload_n 2, 1) := by decide +kernel
theorem dL_law_533 : decode cL_law 533 = .ok (.invokevirtual 176, 3) := by decide +kernel
theorem dL_law_536 : decode cL_law 536 = .ok (.if_icmp .eq 2173, 3) := by decide +kernel
theorem dL_law_539 : decode cL_law 539 = .ok (.iconst 0, 1) := by decide +kernel
theorem dL_law_540 : decode cL_law 540 = .ok (.ireturn, 1) := by decide +kernel
theorem dL_law_541 : decode cL_law 541 = .ok (.aload_n 1, 1) := by decide +kernel
theorem dL_law_542 : decode cL_law 542 = .ok (.aload_n 0, 1) := by decide +kernel
theorem dL_law_543 : decode cL_law 543 = .ok (.iload 5, 2) := by decide +kernel
theorem dL_law_545 : decode cL_law 545 = .ok (.iconst 1, 1) := by decide +kernel
theorem dL_law_546 : decode cL_law 546 = .ok (.iadd, 1) := by decide +kernel
theorem dL_law_547 : decode cL_law 547 = .ok (.iaload, 1) := by decide +kernel
theorem dL_law_548 : decode cL_law 548 = .ok (.aload_n 3, 1) := by decide +kernel
theorem dL_law_549 : decode cL_law 549 = .ok (.invokestatic 177, 3) := by decide +kernel
theorem dL_law_552 : decode cL_law 552 = .ok (.istore 6, 2) := by decide +kernel
theorem dL_law_554 : decode cL_law 554 = .ok (.aload_n 2, 1) := by decide +kernel
theorem dL_law_555 : decode cL_law 555 = .ok (.aload_n 0, 1) := by decide +kernel
theorem dL_law_556 : decode cL_law 556 = .ok (.iload 5, 2) := by decide +kernel
theorem dL_law_558 : decode cL_law 558 = .ok (.iconst 1, 1) := by decide +kernel
theorem dL_law_559 : decode cL_law 559 = .ok (.iadd, 1) := by decide +kernel
theorem dL_law_560 : decode cL_law 560 = .ok (.iaload, 1) := by decide +kernel
theorem dL_law_561 : decode cL_law 561 = .ok (.invokevirtual 179, 3) := by decide +kernel
theorem dL_law_564 : decode cL_law 564 = .ok (.istore 7, 2) := by decide +kernel
theorem dL_law_566 : decode cL_law 566 = .ok (.aload_n 2, 1) := by decide +kernel
theorem dL_law_567 : decode cL_law 567 = .ok (.invokevirtual 158, 3) := by decide +kernel
theorem dL_law_570 : decode cL_law 570 = .ok (.iload 6, 2) := by decide +kernel
theorem dL_law_572 : decode cL_law 572 = .ok (.if_icmp .eq 5, 3) := by decide +kernel
theorem dL_law_575 : decode cL_law 575 = .ok (.iconst 0, 1) := by decide +kernel
theorem dL_law_576 : decode cL_law 576 = .ok (.ireturn, 1) := by decide +kernel
theorem dL_law_577 : decode cL_law 577 = .ok (.iload 6, 2) := by decide +kernel
theorem dL_law_579 : decode cL_law 579 = .ok (.ifCond .ne 15, 3) := by decide +kernel
theorem dL_law_582 : decode cL_law 582 = .ok (.aload_n 3, 1) := by decide +kernel
theorem dL_law_583 : decode cL_law 583 = .ok (.iconst 0, 1) := by decide +kernel
theorem dL_law_584 : decode cL_law 584 = .ok (.laload, 1) := by decide +kernel
theorem dL_law_585 : decode cL_law 585 = .ok (.iload 7, 2) := by decide +kernel
theorem dL_law_587 : decode cL_law 587 = .ok (.i2l, 1) := by decide +kernel
theorem dL_law_588 : decode cL_law 588 = .ok (.lcmp, 1) := by decide +kernel
theorem dL_law_589 : decode cL_law 589 = .ok (.ifCond .eq 5, 3) := by decide +kernel
theorem dL_law_592 : decode cL_law 592 = .ok (.iconst 0, 1) := by decide +kernel
theorem dL_law_593 : decode cL_law 593 = .ok (.ireturn, 1) := by decide +kernel
theorem dL_law_594 : decode cL_law 594 = .ok (.goto 2115, 3) := by decide +kernel
theorem dL_law_597 : decode cL_law 597 = .ok (.aload_n 1, 1) := by decide +kernel
theorem dL_law_598 : decode cL_law 598 = .ok (.aload_n 0, 1) := by decide +kernel
theorem dL_law_599 : decode cL_law 599 = .ok (.iload 5, 2) := by decide +kernel
theorem dL_law_601 : decode cL_law 601 = .ok (.iconst 1, 1) := by decide +kernel
theorem dL_law_602 : decode cL_law 602 = .ok (.iadd, 1) := by decide +kernel
theorem dL_law_603 : decode cL_law 603 = .ok (.iaload, 1) := by decide +kernel
theorem dL_law_604 : decode cL_law 604 = .ok (.aload_n 3, 1) := by decide +kernel
theorem dL_law_605 : decode cL_law 605 = .ok (.invokestatic 180, 3) := by decide +kernel
theorem dL_law_608 : decode cL_law 608 = .ok (.istore 6, 2) := by decide +kernel
theorem dL_law_610 : decode cL_law 610 = .ok (.aload_n 2, 1) := by decide +kernel
theorem dL_law_611 : decode cL_law 611 = .ok (.aload_n 0, 1) := by decide +kernel
theorem dL_law_612 : decode cL_law 612 = .ok (.iload 5, 2) := by decide +kernel
theorem dL_law_614 : decode cL_law 614 = .ok (.iconst 1, 1) := by decide +kernel
theorem dL_law_615 : decode cL_law 615 = .ok (.iadd, 1) := by decide +kernel
theorem dL_law_616 : decode cL_law 616 = .ok (.iaload, 1) := by decide +kernel
theorem dL_law_617 : decode cL_law 617 = .ok (.invokevirtual 182, 3) := by decide +kernel
theorem dL_law_620 : decode cL_law 620 = .ok (.istore 7, 2) := by decide +kernel
theorem dL_law_622 : decode cL_law 622 = .ok (.aload_n 2, 1) := by decide +kernel
theorem dL_law_623 : decode cL_law 623 = .ok (.invokevirtual 158, 3) := by decide +kernel
theorem dL_law_626 : decode cL_law 626 = .ok (.iload 6, 2) := by decide +kernel
theorem dL_law_628 : decode cL_law 628 = .ok (.if_icmp .eq 5, 3) := by decide +kernel
theorem dL_law_631 : decode cL_law 631 = .ok (.iconst 0, 1) := by decide +kernel
theorem dL_law_632 : decode cL_law 632 = .ok (.ireturn, 1) := by decide +kernel
theorem dL_law_633 : decode cL_law 633 = .ok (.iload 6, 2) := by decide +kernel
theorem dL_law_635 : decode cL_law 635 = .ok (.ifCond .ne 15, 3) := by decide +kernel
theorem dL_law_638 : decode cL_law 638 = .ok (.aload_n 3, 1) := by decide +kernel
theorem dL_law_639 : decode cL_law 639 = .ok (.iconst 0, 1) := by decide +kernel
theorem dL_law_640 : decode cL_law 640 = .ok (.laload, 1) := by decide +kernel
theorem dL_law_641 : decode cL_law 641 = .ok (.iload 7, 2) := by decide +kernel
theorem dL_law_643 : decode cL_law 643 = .ok (.i2l, 1) := by decide +kernel
theorem dL_law_644 : decode cL_law 644 = .ok (.lcmp, 1) := by decide +kernel
theorem dL_law_645 : decode cL_law 645 = .ok (.ifCond .eq 5, 3) := by decide +kernel
theorem dL_law_648 : decode cL_law 648 = .ok (.iconst 0, 1) := by decide +kernel
theorem dL_law_649 : decode cL_law 649 = .ok (.ireturn, 1) := by decide +kernel
theorem dL_law_650 : decode cL_law 650 = .ok (.goto 2059, 3) := by decide +kernel
theorem dL_law_653 : decode cL_law 653 = .ok (.aload_n 1, 1) := by decide +kernel
theorem dL_law_654 : decode cL_law 654 = .ok (.aload_n 0, 1) := by decide +kernel
theorem dL_law_655 : decode cL_law 655 = .ok (.iload 5, 2) := by decide +kernel
theorem dL_law_657 : decode cL_law 657 = .ok (.iconst 1, 1) := by decide +kernel
theorem dL_law_658 : decode cL_law 658 = .ok (.iadd, 1) := by decide +kernel
theorem dL_law_659 : decode cL_law 659 = .ok (.iaload, 1) := by decide +kernel
theorem dL_law_660 : decode cL_law 660 = .ok (.aload_n 0, 1) := by decide +kernel
theorem dL_law_661 : decode cL_law 661 = .ok (.iload 5, 2) := by decide +kernel
theorem dL_law_663 : decode cL_law 663 = .ok (.iconst 2, 1) := by decide +kernel
theorem dL_law_664 : decode cL_law 664 = .ok (.iadd, 1) := by decide +kernel
theorem dL_law_665 : decode cL_law 665 = .ok (.iaload, 1) := by decide +kernel
theorem dL_law_666 : decode cL_law 666 = .ok (.aload_n 0, 1) := by decide +kernel
theorem dL_law_667 : decode cL_law 667 = .ok (.iload 5, 2) := by decide +kernel
theorem dL_law_669 : decode cL_law 669 = .ok (.iconst 3, 1) := by decide +kernel
theorem dL_law_670 : decode cL_law 670 = .ok (.iadd, 1) := by decide +kernel
theorem dL_law_671 : decode cL_law 671 = .ok (.iaload, 1) := by decide +kernel
theorem dL_law_672 : decode cL_law 672 = .ok (.aload_n 0, 1) := by decide +kernel
theorem dL_law_673 : decode cL_law 673 = .ok (.iload 5, 2) := by decide +kernel
theorem dL_law_675 : decode cL_law 675 = .ok (.iconst 4, 1) := by decide +kernel
theorem dL_law_676 : decode cL_law 676 = .ok (.iadd, 1) := by decide +kernel
theorem dL_law_677 : decode cL_law 677 = .ok (.iaload, 1) := by decide +kernel
theorem dL_law_678 : decode cL_law 678 = .ok (.aload_n 3, 1) := by decide +kernel
theorem dL_law_679 : decode cL_law 679 = .ok (.invokestatic 183, 3) := by decide +kernel
theorem dL_law_682 : decode cL_law 682 = .ok (.istore 6, 2) := by decide +kernel
theorem dL_law_684 : decode cL_law 684 = .ok (.aload_n 2, 1) := by decide +kernel
