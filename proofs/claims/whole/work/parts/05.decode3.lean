theorem dX10_passes_115 : decode cX10_passes 115 = .ok (.if_icmp .ge 8, 3) := by decide +kernel
theorem dX10_passes_118 : decode cX10_passes 118 = .ok (.iload_n 2, 1) := by decide +kernel
theorem dX10_passes_119 : decode cX10_passes 119 = .ok (.ineg, 1) := by decide +kernel
theorem dX10_passes_120 : decode cX10_passes 120 = .ok (.goto 5, 3) := by decide +kernel
theorem dX10_passes_123 : decode cX10_passes 123 = .ok (.iload 4, 2) := by decide +kernel
theorem dX10_passes_125 : decode cX10_passes 125 = .ok (.ireturn, 1) := by decide +kernel
theorem dX10_passes_126 : decode cX10_passes 126 = .ok (.iload 4, 2) := by decide +kernel
theorem dX10_passes_128 : decode cX10_passes 128 = .ok (.ineg, 1) := by decide +kernel
theorem dX10_passes_129 : decode cX10_passes 129 = .ok (.ireturn, 1) := by decide +kernel
theorem dX10_passes_130 : decode cX10_passes 130 = .ok (.iload 4, 2) := by decide +kernel
theorem dX10_passes_132 : decode cX10_passes 132 = .ok (.iload_n 2, 1) := by decide +kernel
theorem dX10_passes_133 : decode cX10_passes 133 = .ok (.idiv, 1) := by decide +kernel
theorem dX10_passes_134 : decode cX10_passes 134 = .ok (.iload_n 2, 1) := by decide +kernel
theorem dX10_passes_135 : decode cX10_passes 135 = .ok (.imul, 1) := by decide +kernel
theorem dX10_passes_136 : decode cX10_passes 136 = .ok (.ireturn, 1) := by decide +kernel
theorem dX10_filters_0 : decode cX10_filters 0 = .ok (.iconst 0, 1) := by decide +kernel
theorem dX10_filters_1 : decode cX10_filters 1 = .ok (.istore_n 2, 1) := by decide +kernel
theorem dX10_filters_2 : decode cX10_filters 2 = .ok (.iload_n 2, 1) := by decide +kernel
theorem dX10_filters_3 : decode cX10_filters 3 = .ok (.aload_n 0, 1) := by decide +kernel
theorem dX10_filters_4 : decode cX10_filters 4 = .ok (.getfield 16, 3) := by decide +kernel
theorem dX10_filters_7 : decode cX10_filters 7 = .ok (.bipush 25, 2) := by decide +kernel
theorem dX10_filters_9 : decode cX10_filters 9 = .ok (.iload_n 1, 1) := by decide +kernel
theorem dX10_filters_10 : decode cX10_filters 10 = .ok (.iadd, 1) := by decide +kernel
theorem dX10_filters_11 : decode cX10_filters 11 = .ok (.iaload, 1) := by decide +kernel
theorem dX10_filters_12 : decode cX10_filters 12 = .ok (.if_icmp .ge 30, 3) := by decide +kernel
theorem dX10_filters_15 : decode cX10_filters 15 = .ok (.aload_n 0, 1) := by decide +kernel
theorem dX10_filters_16 : decode cX10_filters 16 = .ok (.getfield 32, 3) := by decide +kernel
theorem dX10_filters_19 : decode cX10_filters 19 = .ok (.iload_n 2, 1) := by decide +kernel
theorem dX10_filters_20 : decode cX10_filters 20 = .ok (.aload_n 0, 1) := by decide +kernel
theorem dX10_filters_21 : decode cX10_filters 21 = .ok (.getfield 16, 3) := by decide +kernel
theorem dX10_filters_24 : decode cX10_filters 24 = .ok (.bipush 77, 2) := by decide +kernel
theorem dX10_filters_26 : decode cX10_filters 26 = .ok (.sipush 160, 3) := by decide +kernel
theorem dX10_filters_29 : decode cX10_filters 29 = .ok (.iload_n 1, 1) := by decide +kernel
theorem dX10_filters_30 : decode cX10_filters 30 = .ok (.imul, 1) := by decide +kernel
theorem dX10_filters_31 : decode cX10_filters 31 = .ok (.iadd, 1) := by decide +kernel
theorem dX10_filters_32 : decode cX10_filters 32 = .ok (.iload_n 2, 1) := by decide +kernel
theorem dX10_filters_33 : decode cX10_filters 33 = .ok (.iadd, 1) := by decide +kernel
theorem dX10_filters_34 : decode cX10_filters 34 = .ok (.iaload, 1) := by decide +kernel
theorem dX10_filters_35 : decode cX10_filters 35 = .ok (.iastore, 1) := by decide +kernel
theorem dX10_filters_36 : decode cX10_filters 36 = .ok (.iinc 2 1, 3) := by decide +kernel
theorem dX10_filters_39 : decode cX10_filters 39 = .ok (.goto (-37), 3) := by decide +kernel
theorem dX10_filters_42 : decode cX10_filters 42 = .ok (.iconst 0, 1) := by decide +kernel
theorem dX10_filters_43 : decode cX10_filters 43 = .ok (.istore_n 2, 1) := by decide +kernel
theorem dX10_filters_44 : decode cX10_filters 44 = .ok (.iload_n 2, 1) := by decide +kernel
theorem dX10_filters_45 : decode cX10_filters 45 = .ok (.aload_n 0, 1) := by decide +kernel
theorem dX10_filters_46 : decode cX10_filters 46 = .ok (.getfield 16, 3) := by decide +kernel
theorem dX10_filters_49 : decode cX10_filters 49 = .ok (.iconst 0, 1) := by decide +kernel
theorem dX10_filters_50 : decode cX10_filters 50 = .ok (.iaload, 1) := by decide +kernel
theorem dX10_filters_51 : decode cX10_filters 51 = .ok (.if_icmp .ge 91, 3) := by decide +kernel
theorem dX10_filters_54 : decode cX10_filters 54 = .ok (.iconst 0, 1) := by decide +kernel
theorem dX10_filters_55 : decode cX10_filters 55 = .ok (.istore_n 3, 1) := by decide +kernel
theorem dX10_filters_56 : decode cX10_filters 56 = .ok (.iload_n 3, 1) := by decide +kernel
theorem dX10_filters_57 : decode cX10_filters 57 = .ok (.aload_n 0, 1) := by decide +kernel
theorem dX10_filters_58 : decode cX10_filters 58 = .ok (.getfield 16, 3) := by decide +kernel
theorem dX10_filters_61 : decode cX10_filters 61 = .ok (.bipush 25, 2) := by decide +kernel
theorem dX10_filters_63 : decode cX10_filters 63 = .ok (.iload_n 1, 1) := by decide +kernel
theorem dX10_filters_64 : decode cX10_filters 64 = .ok (.iadd, 1) := by decide +kernel
theorem dX10_filters_65 : decode cX10_filters 65 = .ok (.iaload, 1) := by decide +kernel
theorem dX10_filters_66 : decode cX10_filters 66 = .ok (.if_icmp .ge 21, 3) := by decide +kernel
theorem dX10_filters_69 : decode cX10_filters 69 = .ok (.aload_n 0, 1) := by decide +kernel
theorem dX10_filters_70 : decode cX10_filters 70 = .ok (.getfield 35, 3) := by decide +kernel
theorem dX10_filters_73 : decode cX10_filters 73 = .ok (.iload_n 3, 1) := by decide +kernel
theorem dX10_filters_74 : decode cX10_filters 74 = .ok (.aload_n 0, 1) := by decide +kernel
theorem dX10_filters_75 : decode cX10_filters 75 = .ok (.getfield 32, 3) := by decide +kernel
theorem dX10_filters_78 : decode cX10_filters 78 = .ok (.iload_n 3, 1) := by decide +kernel
theorem dX10_filters_79 : decode cX10_filters 79 = .ok (.iaload, 1) := by decide +kernel
theorem dX10_filters_80 : decode cX10_filters 80 = .ok (.iastore, 1) := by decide +kernel
theorem dX10_filters_81 : decode cX10_filters 81 = .ok (.iinc 3 1, 3) := by decide +kernel
theorem dX10_filters_84 : decode cX10_filters 84 = .ok (.goto (-28), 3) := by decide +kernel
theorem dX10_filters_87 : decode cX10_filters 87 = .ok (.iconst 0, 1) := by decide +kernel
theorem dX10_filters_88 : decode cX10_filters 88 = .ok (.istore_n 3, 1) := by decide +kernel
theorem dX10_filters_89 : decode cX10_filters 89 = .ok (.iload_n 3, 1) := by decide +kernel
theorem dX10_filters_90 : decode cX10_filters 90 = .ok (.aload_n 0, 1) := by decide +kernel
theorem dX10_filters_91 : decode cX10_filters 91 = .ok (.getfield 16, 3) := by decide +kernel
theorem dX10_filters_94 : decode cX10_filters 94 = .ok (.bipush 25, 2) := by decide +kernel
theorem dX10_filters_96 : decode cX10_filters 96 = .ok (.iload_n 1, 1) := by decide +kernel
theorem dX10_filters_97 : decode cX10_filters 97 = .ok (.iadd, 1) := by decide +kernel
theorem dX10_filters_98 : decode cX10_filters 98 = .ok (.iaload, 1) := by decide +kernel
theorem dX10_filters_99 : decode cX10_filters 99 = .ok (.if_icmp .ge 37, 3) := by decide +kernel
theorem dX10_filters_102 : decode cX10_filters 102 = .ok (.aload_n 0, 1) := by decide +kernel
theorem dX10_filters_103 : decode cX10_filters 103 = .ok (.getfield 32, 3) := by decide +kernel
theorem dX10_filters_106 : decode cX10_filters 106 = .ok (.iload_n 3, 1) := by decide +kernel
theorem dX10_filters_107 : decode cX10_filters 107 = .ok (.aload_n 0, 1) := by decide +kernel
theorem dX10_filters_108 : decode cX10_filters 108 = .ok (.aload_n 0, 1) := by decide +kernel
theorem dX10_filters_109 : decode cX10_filters 109 = .ok (.getfield 16, 3) := by decide +kernel
theorem dX10_filters_112 : decode cX10_filters 112 = .ok (.iconst 5, 1) := by decide +kernel
theorem dX10_filters_113 : decode cX10_filters 113 = .ok (.iload_n 2, 1) := by decide +kernel
theorem dX10_filters_114 : decode cX10_filters 114 = .ok (.iadd, 1) := by decide +kernel
theorem dX10_filters_115 : decode cX10_filters 115 = .ok (.iaload, 1) := by decide +kernel
theorem dX10_filters_116 : decode cX10_filters 116 = .ok (.aload_n 0, 1) := by decide +kernel
theorem dX10_filters_117 : decode cX10_filters 117 = .ok (.getfield 16, 3) := by decide +kernel
theorem dX10_filters_120 : decode cX10_filters 120 = .ok (.bipush 13, 2) := by decide +kernel
theorem dX10_filters_122 : decode cX10_filters 122 = .ok (.iload_n 2, 1) := by decide +kernel
theorem dX10_filters_123 : decode cX10_filters 123 = .ok (.iadd, 1) := by decide +kernel
theorem dX10_filters_124 : decode cX10_filters 124 = .ok (.iaload, 1) := by decide +kernel
theorem dX10_filters_125 : decode cX10_filters 125 = .ok (.iload_n 3, 1) := by decide +kernel
theorem dX10_filters_126 : decode cX10_filters 126 = .ok (.invokevirtual 127, 3) := by decide +kernel
theorem dX10_filters_129 : decode cX10_filters 129 = .ok (.iastore, 1) := by decide +kernel
theorem dX10_filters_130 : decode cX10_filters 130 = .ok (.iinc 3 1, 3) := by decide +kernel
theorem dX10_filters_133 : decode cX10_filters 133 = .ok (.goto (-44), 3) := by decide +kernel
theorem dX10_filters_136 : decode cX10_filters 136 = .ok (.iinc 2 1, 3) := by decide +kernel
theorem dX10_filters_139 : decode cX10_filters 139 = .ok (.goto (-95), 3) := by decide +kernel
theorem dX10_filters_142 : decode cX10_filters 142 = .ok (.return_, 1) := by decide +kernel
theorem dX10_sample_0 : decode cX10_sample 0 = .ok (.aload_n 0, 1) := by decide +kernel
theorem dX10_sample_1 : decode cX10_sample 1 = .ok (.iload_n 1, 1) := by decide +kernel
theorem dX10_sample_2 : decode cX10_sample 2 = .ok (.iload_n 2, 1) := by decide +kernel
theorem dX10_sample_3 : decode cX10_sample 3 = .ok (.invokevirtual 121, 3) := by decide +kernel
theorem dX10_sample_6 : decode cX10_sample 6 = .ok (.ifCond .eq 5, 3) := by decide +kernel
theorem dX10_sample_9 : decode cX10_sample 9 = .ok (.iconst 0, 1) := by decide +kernel
theorem dX10_sample_10 : decode cX10_sample 10 = .ok (.ireturn, 1) := by decide +kernel
theorem dX10_sample_11 : decode cX10_sample 11 = .ok (.aload_n 0, 1) := by decide +kernel
theorem dX10_sample_12 : decode cX10_sample 12 = .ok (.iload_n 1, 1) := by decide +kernel
theorem dX10_sample_13 : decode cX10_sample 13 = .ok (.invokevirtual 130, 3) := by decide +kernel
theorem dX10_sample_16 : decode cX10_sample 16 = .ok (.aload_n 0, 1) := by decide +kernel
theorem dX10_sample_17 : decode cX10_sample 17 = .ok (.getfield 32, 3) := by decide +kernel
theorem dX10_sample_20 : decode cX10_sample 20 = .ok (.iload_n 2, 1) := by decide +kernel
theorem dX10_sample_21 : decode cX10_sample 21 = .ok (.iaload, 1) := by decide +kernel
theorem dX10_sample_22 : decode cX10_sample 22 = .ok (.ireturn, 1) := by decide +kernel
theorem dX10_sampleByFilter_0 : decode cX10_sampleByFilter 0 = .ok (.aload_n 0, 1) := by decide +kernel
theorem dX10_sampleByFilter_1 : decode cX10_sampleByFilter 1 = .ok (.iload_n 1, 1) := by decide +kernel
theorem dX10_sampleByFilter_2 : decode cX10_sampleByFilter 2 = .ok (.iload_n 2, 1) := by decide +kernel
theorem dX10_sampleByFilter_3 : decode cX10_sampleByFilter 3 = .ok (.invokevirtual 134, 3) := by decide +kernel
theorem dX10_sampleByFilter_6 : decode cX10_sampleByFilter 6 = .ok (.ireturn, 1) := by decide +kernel
theorem dX10_mixedSample_0 : decode cX10_mixedSample 0 = .ok (.iload_n 1, 1) := by decide +kernel
theorem dX10_mixedSample_1 : decode cX10_mixedSample 1 = .ok (.invokestatic 105, 3) := by decide +kernel
theorem dX10_mixedSample_4 : decode cX10_mixedSample 4 = .ok (.ifCond .eq 10, 3) := by decide +kernel
theorem dX10_mixedSample_7 : decode cX10_mixedSample 7 = .ok (.iload_n 2, 1) := by decide +kernel
theorem dX10_mixedSample_8 : decode cX10_mixedSample 8 = .ok (.invokestatic 105, 3) := by decide +kernel
theorem dX10_mixedSample_11 : decode cX10_mixedSample 11 = .ok (.ifCond .ne 9, 3) := by decide +kernel
theorem dX10_mixedSample_14 : decode cX10_mixedSample 14 = .ok (.aload_n 0, 1) := by decide +kernel
theorem dX10_mixedSample_15 : decode cX10_mixedSample 15 = .ok (.iconst 1, 1) := by decide +kernel
theorem dX10_mixedSample_16 : decode cX10_mixedSample 16 = .ok (.invokevirtual 71, 3) := by decide +kernel
theorem dX10_mixedSample_19 : decode cX10_mixedSample 19 = .ok (.ireturn, 1) := by decide +kernel
theorem dX10_mixedSample_20 : decode cX10_mixedSample 20 = .ok (.aload_n 0, 1) := by decide +kernel
theorem dX10_mixedSample_21 : decode cX10_mixedSample 21 = .ok (.aload_n 0, 1) := by decide +kernel
theorem dX10_mixedSample_22 : decode cX10_mixedSample 22 = .ok (.iload_n 1, 1) := by decide +kernel
theorem dX10_mixedSample_23 : decode cX10_mixedSample 23 = .ok (.iload_n 3, 1) := by decide +kernel
theorem dX10_mixedSample_24 : decode cX10_mixedSample 24 = .ok (.invokevirtual 118, 3) := by decide +kernel
theorem dX10_mixedSample_27 : decode cX10_mixedSample 27 = .ok (.ifCond .ne 12, 3) := by decide +kernel
theorem dX10_mixedSample_30 : decode cX10_mixedSample 30 = .ok (.aload_n 0, 1) := by decide +kernel
theorem dX10_mixedSample_31 : decode cX10_mixedSample 31 = .ok (.iload_n 2, 1) := by decide +kernel
theorem dX10_mixedSample_32 : decode cX10_mixedSample 32 = .ok (.iload_n 3, 1) := by decide +kernel
theorem dX10_mixedSample_33 : decode cX10_mixedSample 33 = .ok (.invokevirtual 118, 3) := by decide +kernel
theorem dX10_mixedSample_36 : decode cX10_mixedSample 36 = .ok (.ifCond .eq 7, 3) := by decide +kernel
theorem dX10_mixedSample_39 : decode cX10_mixedSample 39 = .ok (.iconst 0, 1) := by decide +kernel
theorem dX10_mixedSample_40 : decode cX10_mixedSample 40 = .ok (.goto 4, 3) := by decide +kernel
theorem dX10_mixedSample_43 : decode cX10_mixedSample 43 = .ok (.iconst 2, 1) := by decide +kernel
theorem dX10_mixedSample_44 : decode cX10_mixedSample 44 = .ok (.putfield 53, 3) := by decide +kernel
theorem dX10_mixedSample_47 : decode cX10_mixedSample 47 = .ok (.aload_n 0, 1) := by decide +kernel
theorem dX10_mixedSample_48 : decode cX10_mixedSample 48 = .ok (.getfield 53, 3) := by decide +kernel
theorem dX10_mixedSample_51 : decode cX10_mixedSample 51 = .ok (.ifCond .eq 5, 3) := by decide +kernel
theorem dX10_mixedSample_54 : decode cX10_mixedSample 54 = .ok (.iconst 0, 1) := by decide +kernel
theorem dX10_mixedSample_55 : decode cX10_mixedSample 55 = .ok (.ireturn, 1) := by decide +kernel
theorem dX10_mixedSample_56 : decode cX10_mixedSample 56 = .ok (.iconst 0, 1) := by decide +kernel
theorem dX10_mixedSample_57 : decode cX10_mixedSample 57 = .ok (.istore 4, 2) := by decide +kernel
theorem dX10_mixedSample_59 : decode cX10_mixedSample 59 = .ok (.aload_n 0, 1) := by decide +kernel
theorem dX10_mixedSample_60 : decode cX10_mixedSample 60 = .ok (.iload_n 1, 1) := by decide +kernel
theorem dX10_mixedSample_61 : decode cX10_mixedSample 61 = .ok (.iload_n 3, 1) := by decide +kernel
theorem dX10_mixedSample_62 : decode cX10_mixedSample 62 = .ok (.invokevirtual 118, 3) := by decide +kernel
theorem dX10_mixedSample_65 : decode cX10_mixedSample 65 = .ok (.ifCond .eq 19, 3) := by decide +kernel
theorem dX10_mixedSample_68 : decode cX10_mixedSample 68 = .ok (.aload_n 0, 1) := by decide +kernel
theorem dX10_mixedSample_69 : decode cX10_mixedSample 69 = .ok (.iload_n 1, 1) := by decide +kernel
theorem dX10_mixedSample_70 : decode cX10_mixedSample 70 = .ok (.invokevirtual 130, 3) := by decide +kernel
theorem dX10_mixedSample_73 : decode cX10_mixedSample 73 = .ok (.iload 4, 2) := by decide +kernel
theorem dX10_mixedSample_75 : decode cX10_mixedSample 75 = .ok (.aload_n 0, 1) := by decide +kernel
theorem dX10_mixedSample_76 : decode cX10_mixedSample 76 = .ok (.getfield 32, 3) := by decide +kernel
theorem dX10_mixedSample_79 : decode cX10_mixedSample 79 = .ok (.iload_n 3, 1) := by decide +kernel
theorem dX10_mixedSample_80 : decode cX10_mixedSample 80 = .ok (.iaload, 1) := by decide +kernel
theorem dX10_mixedSample_81 : decode cX10_mixedSample 81 = .ok (.iadd, 1) := by decide +kernel
theorem dX10_mixedSample_82 : decode cX10_mixedSample 82 = .ok (.istore 4, 2) := by decide +kernel
theorem dX10_mixedSample_84 : decode cX10_mixedSample 84 = .ok (.aload_n 0, 1) := by decide +kernel
theorem dX10_mixedSample_85 : decode cX10_mixedSample 85 = .ok (.iload_n 2, 1) := by decide +kernel
theorem dX10_mixedSample_86 : decode cX10_mixedSample 86 = .ok (.iload_n 3, 1) := by decide +kernel
theorem dX10_mixedSample_87 : decode cX10_mixedSample 87 = .ok (.invokevirtual 118, 3) := by decide +kernel
theorem dX10_mixedSample_90 : decode cX10_mixedSample 90 = .ok (.ifCond .eq 19, 3) := by decide +kernel
theorem dX10_mixedSample_93 : decode cX10_mixedSample 93 = .ok (.aload_n 0, 1) := by decide +kernel
theorem dX10_mixedSample_94 : decode cX10_mixedSample 94 = .ok (.iload_n 2, 1) := by decide +kernel
theorem dX10_mixedSample_95 : decode cX10_mixedSample 95 = .ok (.invokevirtual 130, 3) := by decide +kernel
theorem dX10_mixedSample_98 : decode cX10_mixedSample 98 = .ok (.iload 4, 2) := by decide +kernel
theorem dX10_mixedSample_100 : decode cX10_mixedSample 100 = .ok (.aload_n 0, 1) := by decide +kernel
theorem dX10_mixedSample_101 : decode cX10_mixedSample 101 = .ok (.getfield 32, 3) := by decide +kernel
theorem dX10_mixedSample_104 : decode cX10_mixedSample 104 = .ok (.iload_n 3, 1) := by decide +kernel
theorem dX10_mixedSample_105 : decode cX10_mixedSample 105 = .ok (.iaload, 1) := by decide +kernel
theorem dX10_mixedSample_106 : decode cX10_mixedSample 106 = .ok (.iadd, 1) := by decide +kernel
theorem dX10_mixedSample_107 : decode cX10_mixedSample 107 = .ok (.istore 4, 2) := by decide +kernel
theorem dX10_mixedSample_109 : decode cX10_mixedSample 109 = .ok (.iload 4, 2) := by decide +kernel
theorem dX10_mixedSample_111 : decode cX10_mixedSample 111 = .ok (.iconst 2, 1) := by decide +kernel
theorem dX10_mixedSample_112 : decode cX10_mixedSample 112 = .ok (.idiv, 1) := by decide +kernel
theorem dX10_mixedSample_113 : decode cX10_mixedSample 113 = .ok (.ireturn, 1) := by decide +kernel
theorem dX10_loud_0 : decode cX10_loud 0 = .ok (.iconst 0, 1) := by decide +kernel
theorem dX10_loud_1 : decode cX10_loud 1 = .ok (.istore_n 3, 1) := by decide +kernel
theorem dX10_loud_2 : decode cX10_loud 2 = .ok (.iload_n 1, 1) := by decide +kernel
theorem dX10_loud_3 : decode cX10_loud 3 = .ok (.istore 4, 2) := by decide +kernel
theorem dX10_loud_5 : decode cX10_loud 5 = .ok (.iload 4, 2) := by decide +kernel
theorem dX10_loud_7 : decode cX10_loud 7 = .ok (.iload_n 2, 1) := by decide +kernel
theorem dX10_loud_8 : decode cX10_loud 8 = .ok (.if_icmp .ge 38, 3) := by decide +kernel
theorem dX10_loud_11 : decode cX10_loud 11 = .ok (.aload_n 0, 1) := by decide +kernel
theorem dX10_loud_12 : decode cX10_loud 12 = .ok (.getfield 32, 3) := by decide +kernel
theorem dX10_loud_15 : decode cX10_loud 15 = .ok (.iload 4, 2) := by decide +kernel
theorem dX10_loud_17 : decode cX10_loud 17 = .ok (.iaload, 1) := by decide +kernel
theorem dX10_loud_18 : decode cX10_loud 18 = .ok (.invokestatic 99, 3) := by decide +kernel
theorem dX10_loud_21 : decode cX10_loud 21 = .ok (.iload_n 3, 1) := by decide +kernel
theorem dX10_loud_22 : decode cX10_loud 22 = .ok (.if_icmp .le 16, 3) := by decide +kernel
theorem dX10_loud_25 : decode cX10_loud 25 = .ok (.aload_n 0, 1) := by decide +kernel
theorem dX10_loud_26 : decode cX10_loud 26 = .ok (.getfield 32, 3) := by decide +kernel
theorem dX10_loud_29 : decode cX10_loud 29 = .ok (.iload 4, 2) := by decide +kernel
theorem dX10_loud_31 : decode cX10_loud 31 = .ok (.iaload, 1) := by decide +kernel
theorem dX10_loud_32 : decode cX10_loud 32 = .ok (.invokestatic 99, 3) := by decide +kernel
theorem dX10_loud_35 : decode cX10_loud 35 = .ok (.goto 4, 3) := by decide +kernel
theorem dX10_loud_38 : decode cX10_loud 38 = .ok (.iload_n 3, 1) := by decide +kernel
theorem dX10_loud_39 : decode cX10_loud 39 = .ok (.istore_n 3, 1) := by decide +kernel
theorem dX10_loud_40 : decode cX10_loud 40 = .ok (.iinc 4 1, 3) := by decide +kernel
theorem dX10_loud_43 : decode cX10_loud 43 = .ok (.goto (-38), 3) := by decide +kernel
theorem dX10_loud_46 : decode cX10_loud 46 = .ok (.iload_n 3, 1) := by decide +kernel
theorem dX10_loud_47 : decode cX10_loud 47 = .ok (.ireturn, 1) := by decide +kernel
theorem dX10_peak_0 : decode cX10_peak 0 = .ok (.aload_n 0, 1) := by decide +kernel
theorem dX10_peak_1 : decode cX10_peak 1 = .ok (.iload_n 1, 1) := by decide +kernel
theorem dX10_peak_2 : decode cX10_peak 2 = .ok (.invokestatic 105, 3) := by decide +kernel
theorem dX10_peak_5 : decode cX10_peak 5 = .ok (.ifCond .ne 7, 3) := by decide +kernel
theorem dX10_peak_8 : decode cX10_peak 8 = .ok (.iconst 1, 1) := by decide +kernel
theorem dX10_peak_9 : decode cX10_peak 9 = .ok (.goto 20, 3) := by decide +kernel
theorem dX10_peak_12 : decode cX10_peak 12 = .ok (.aload_n 0, 1) := by decide +kernel
theorem dX10_peak_13 : decode cX10_peak 13 = .ok (.getfield 16, 3) := by decide +kernel
theorem dX10_peak_16 : decode cX10_peak 16 = .ok (.bipush 25, 2) := by decide +kernel
theorem dX10_peak_18 : decode cX10_peak 18 = .ok (.iload_n 1, 1) := by decide +kernel
theorem dX10_peak_19 : decode cX10_peak 19 = .ok (.iadd, 1) := by decide +kernel
theorem dX10_peak_20 : decode cX10_peak 20 = .ok (.iaload, 1) := by decide +kernel
theorem dX10_peak_21 : decode cX10_peak 21 = .ok (.ifCond .ne 7, 3) := by decide +kernel
theorem dX10_peak_24 : decode cX10_peak 24 = .ok (.iconst 2, 1) := by decide +kernel
theorem dX10_peak_25 : decode cX10_peak 25 = .ok (.goto 4, 3) := by decide +kernel
theorem dX10_peak_28 : decode cX10_peak 28 = .ok (.iconst 0, 1) := by decide +kernel
theorem dX10_peak_29 : decode cX10_peak 29 = .ok (.putfield 53, 3) := by decide +kernel
theorem dX10_peak_32 : decode cX10_peak 32 = .ok (.aload_n 0, 1) := by decide +kernel
theorem dX10_peak_33 : decode cX10_peak 33 = .ok (.getfield 53, 3) := by decide +kernel
theorem dX10_peak_36 : decode cX10_peak 36 = .ok (.ifCond .eq 5, 3) := by decide +kernel
theorem dX10_peak_39 : decode cX10_peak 39 = .ok (.iconst 0, 1) := by decide +kernel
theorem dX10_peak_40 : decode cX10_peak 40 = .ok (.ireturn, 1) := by decide +kernel
theorem dX10_peak_41 : decode cX10_peak 41 = .ok (.aload_n 0, 1) := by decide +kernel
theorem dX10_peak_42 : decode cX10_peak 42 = .ok (.iload_n 1, 1) := by decide +kernel
theorem dX10_peak_43 : decode cX10_peak 43 = .ok (.invokevirtual 130, 3) := by decide +kernel
theorem dX10_peak_46 : decode cX10_peak 46 = .ok (.aload_n 0, 1) := by decide +kernel
theorem dX10_peak_47 : decode cX10_peak 47 = .ok (.iconst 0, 1) := by decide +kernel
theorem dX10_peak_48 : decode cX10_peak 48 = .ok (.aload_n 0, 1) := by decide +kernel
theorem dX10_peak_49 : decode cX10_peak 49 = .ok (.getfield 16, 3) := by decide +kernel
theorem dX10_peak_52 : decode cX10_peak 52 = .ok (.bipush 25, 2) := by decide +kernel
theorem dX10_peak_54 : decode cX10_peak 54 = .ok (.iload_n 1, 1) := by decide +kernel
theorem dX10_peak_55 : decode cX10_peak 55 = .ok (.iadd, 1) := by decide +kernel
theorem dX10_peak_56 : decode cX10_peak 56 = .ok (.iaload, 1) := by decide +kernel
theorem dX10_peak_57 : decode cX10_peak 57 = .ok (.invokevirtual 137, 3) := by decide +kernel
theorem dX10_peak_60 : decode cX10_peak 60 = .ok (.ireturn, 1) := by decide +kernel
theorem dX10_power_0 : decode cX10_power 0 = .ok (.aload_n 0, 1) := by decide +kernel
theorem dX10_power_1 : decode cX10_power 1 = .ok (.iload_n 1, 1) := by decide +kernel
theorem dX10_power_2 : decode cX10_power 2 = .ok (.invokevirtual 130, 3) := by decide +kernel
theorem dX10_power_5 : decode cX10_power 5 = .ok (.lconst 0, 1) := by decide +kernel
theorem dX10_power_6 : decode cX10_power 6 = .ok (.lstore_n 2, 1) := by decide +kernel
theorem dX10_power_7 : decode cX10_power 7 = .ok (.iconst 0, 1) := by decide +kernel
theorem dX10_power_8 : decode cX10_power 8 = .ok (.istore 4, 2) := by decide +kernel
theorem dX10_power_10 : decode cX10_power 10 = .ok (.iload 4, 2) := by decide +kernel
theorem dX10_power_12 : decode cX10_power 12 = .ok (.aload_n 0, 1) := by decide +kernel
theorem dX10_power_13 : decode cX10_power 13 = .ok (.getfield 16, 3) := by decide +kernel
theorem dX10_power_16 : decode cX10_power 16 = .ok (.bipush 25, 2) := by decide +kernel
theorem dX10_power_18 : decode cX10_power 18 = .ok (.iload_n 1, 1) := by decide +kernel
theorem dX10_power_19 : decode cX10_power 19 = .ok (.iadd, 1) := by decide +kernel
theorem dX10_power_20 : decode cX10_power 20 = .ok (.iaload, 1) := by decide +kernel
theorem dX10_power_21 : decode cX10_power 21 = .ok (.if_icmp .ge 29, 3) := by decide +kernel
theorem dX10_power_24 : decode cX10_power 24 = .ok (.lload_n 2, 1) := by decide +kernel
theorem dX10_power_25 : decode cX10_power 25 = .ok (.aload_n 0, 1) := by decide +kernel
theorem dX10_power_26 : decode cX10_power 26 = .ok (.getfield 32, 3) := by decide +kernel
theorem dX10_power_29 : decode cX10_power 29 = .ok (.iload 4, 2) := by decide +kernel
theorem dX10_power_31 : decode cX10_power 31 = .ok (.iaload, 1) := by decide +kernel
theorem dX10_power_32 : decode cX10_power 32 = .ok (.i2l, 1) := by decide +kernel
theorem dX10_power_33 : decode cX10_power 33 = .ok (.aload_n 0, 1) := by decide +kernel
theorem dX10_power_34 : decode cX10_power 34 = .ok (.getfield 32, 3) := by decide +kernel
theorem dX10_power_37 : decode cX10_power 37 = .ok (.iload 4, 2) := by decide +kernel
theorem dX10_power_39 : decode cX10_power 39 = .ok (.iaload, 1) := by decide +kernel
theorem dX10_power_40 : decode cX10_power 40 = .ok (.i2l, 1) := by decide +kernel
theorem dX10_power_41 : decode cX10_power 41 = .ok (.lmul, 1) := by decide +kernel
theorem dX10_power_42 : decode cX10_power 42 = .ok (.ladd, 1) := by decide +kernel
theorem dX10_power_43 : decode cX10_power 43 = .ok (.lstore_n 2, 1) := by decide +kernel
theorem dX10_power_44 : decode cX10_power 44 = .ok (.iinc 4 1, 3) := by decide +kernel
theorem dX10_power_47 : decode cX10_power 47 = .ok (.goto (-37), 3) := by decide +kernel
theorem dX10_power_50 : decode cX10_power 50 = .ok (.lload_n 2, 1) := by decide +kernel
theorem dX10_power_51 : decode cX10_power 51 = .ok (.lreturn, 1) := by decide +kernel
theorem dX10_energy_0 : decode cX10_energy 0 = .ok (.aload_n 0, 1) := by decide +kernel
theorem dX10_energy_1 : decode cX10_energy 1 = .ok (.iload_n 1, 1) := by decide +kernel
theorem dX10_energy_2 : decode cX10_energy 2 = .ok (.invokestatic 105, 3) := by decide +kernel
theorem dX10_energy_5 : decode cX10_energy 5 = .ok (.ifCond .eq 7, 3) := by decide +kernel
theorem dX10_energy_8 : decode cX10_energy 8 = .ok (.iconst 0, 1) := by decide +kernel
theorem dX10_energy_9 : decode cX10_energy 9 = .ok (.goto 4, 3) := by decide +kernel
theorem dX10_energy_12 : decode cX10_energy 12 = .ok (.iconst 1, 1) := by decide +kernel
theorem dX10_energy_13 : decode cX10_energy 13 = .ok (.putfield 53, 3) := by decide +kernel
theorem dX10_energy_16 : decode cX10_energy 16 = .ok (.aload_n 0, 1) := by decide +kernel
theorem dX10_energy_17 : decode cX10_energy 17 = .ok (.getfield 53, 3) := by decide +kernel
theorem dX10_energy_20 : decode cX10_energy 20 = .ok (.ifCond .ne 11, 3) := by decide +kernel
theorem dX10_energy_23 : decode cX10_energy 23 = .ok (.aload_n 0, 1) := by decide +kernel
theorem dX10_energy_24 : decode cX10_energy 24 = .ok (.iload_n 1, 1) := by decide +kernel
theorem dX10_energy_25 : decode cX10_energy 25 = .ok (.invokevirtual 140, 3) := by decide +kernel
theorem dX10_energy_28 : decode cX10_energy 28 = .ok (.goto 4, 3) := by decide +kernel
theorem dX10_energy_31 : decode cX10_energy 31 = .ok (.lconst 0, 1) := by decide +kernel
theorem dX10_energy_32 : decode cX10_energy 32 = .ok (.lreturn, 1) := by decide +kernel
theorem dX10_signChanges_0 : decode cX10_signChanges 0 = .ok (.aload_n 0, 1) := by decide +kernel
theorem dX10_signChanges_1 : decode cX10_signChanges 1 = .ok (.iload_n 1, 1) := by decide +kernel
theorem dX10_signChanges_2 : decode cX10_signChanges 2 = .ok (.invokestatic 105, 3) := by decide +kernel
theorem dX10_signChanges_5 : decode cX10_signChanges 5 = .ok (.ifCond .eq 7, 3) := by decide +kernel
theorem dX10_signChanges_8 : decode cX10_signChanges 8 = .ok (.iconst 0, 1) := by decide +kernel
theorem dX10_signChanges_9 : decode cX10_signChanges 9 = .ok (.goto 4, 3) := by decide +kernel
theorem dX10_signChanges_12 : decode cX10_signChanges 12 = .ok (.iconst 1, 1) := by decide +kernel
theorem dX10_signChanges_13 : decode cX10_signChanges 13 = .ok (.putfield 53, 3) := by decide +kernel
theorem dX10_signChanges_16 : decode cX10_signChanges 16 = .ok (.aload_n 0, 1) := by decide +kernel
theorem dX10_signChanges_17 : decode cX10_signChanges 17 = .ok (.getfield 53, 3) := by decide +kernel
theorem dX10_signChanges_20 : decode cX10_signChanges 20 = .ok (.ifCond .eq 5, 3) := by decide +kernel
theorem dX10_signChanges_23 : decode cX10_signChanges 23 = .ok (.iconst 0, 1) := by decide +kernel
theorem dX10_signChanges_24 : decode cX10_signChanges 24 = .ok (.ireturn, 1) := by decide +kernel
theorem dX10_signChanges_25 : decode cX10_signChanges 25 = .ok (.aload_n 0, 1) := by decide +kernel
theorem dX10_signChanges_26 : decode cX10_signChanges 26 = .ok (.iload_n 1, 1) := by decide +kernel
theorem dX10_signChanges_27 : decode cX10_signChanges 27 = .ok (.invokevirtual 130, 3) := by decide +kernel
theorem dX10_signChanges_30 : decode cX10_signChanges 30 = .ok (.iconst 0, 1) := by decide +kernel
theorem dX10_signChanges_31 : decode cX10_signChanges 31 = .ok (.istore_n 2, 1) := by decide +kernel
theorem dX10_signChanges_32 : decode cX10_signChanges 32 = .ok (.iconst 0, 1) := by decide +kernel
theorem dX10_signChanges_33 : decode cX10_signChanges 33 = .ok (.istore_n 3, 1) := by decide +kernel
theorem dX10_signChanges_34 : decode cX10_signChanges 34 = .ok (.iconst 0, 1) := by decide +kernel
theorem dX10_signChanges_35 : decode cX10_signChanges 35 = .ok (.istore 4, 2) := by decide +kernel
theorem dX10_signChanges_37 : decode cX10_signChanges 37 = .ok (.iload 4, 2) := by decide +kernel
theorem dX10_signChanges_39 : decode cX10_signChanges 39 = .ok (.aload_n 0, 1) := by decide +kernel
theorem dX10_signChanges_40 : decode cX10_signChanges 40 = .ok (.getfield 16, 3) := by decide +kernel
theorem dX10_signChanges_43 : decode cX10_signChanges 43 = .ok (.bipush 25, 2) := by decide +kernel
theorem dX10_signChanges_45 : decode cX10_signChanges 45 = .ok (.iload_n 1, 1) := by decide +kernel
theorem dX10_signChanges_46 : decode cX10_signChanges 46 = .ok (.iadd, 1) := by decide +kernel
theorem dX10_signChanges_47 : decode cX10_signChanges 47 = .ok (.iaload, 1) := by decide +kernel
theorem dX10_signChanges_48 : decode cX10_signChanges 48 = .ok (.if_icmp .ge 69, 3) := by decide +kernel
theorem dX10_signChanges_51 : decode cX10_signChanges 51 = .ok (.aload_n 0, 1) := by decide +kernel
theorem dX10_signChanges_52 : decode cX10_signChanges 52 = .ok (.getfield 32, 3) := by decide +kernel
theorem dX10_signChanges_55 : decode cX10_signChanges 55 = .ok (.iload 4, 2) := by decide +kernel
theorem dX10_signChanges_57 : decode cX10_signChanges 57 = .ok (.iaload, 1) := by decide +kernel
theorem dX10_signChanges_58 : decode cX10_signChanges 58 = .ok (.ifCond .ne 6, 3) := by decide +kernel
theorem dX10_signChanges_61 : decode cX10_signChanges 61 = .ok (.goto 50, 3) := by decide +kernel
theorem dX10_signChanges_64 : decode cX10_signChanges 64 = .ok (.iload_n 2, 1) := by decide +kernel
theorem dX10_signChanges_65 : decode cX10_signChanges 65 = .ok (.iload_n 3, 1) := by decide +kernel
theorem dX10_signChanges_66 : decode cX10_signChanges 66 = .ok (.ifCond .eq 34, 3) := by decide +kernel
theorem dX10_signChanges_69 : decode cX10_signChanges 69 = .ok (.iload_n 3, 1) := by decide +kernel
theorem dX10_signChanges_70 : decode cX10_signChanges 70 = .ok (.ifCond .ge 7, 3) := by decide +kernel
theorem dX10_signChanges_73 : decode cX10_signChanges 73 = .ok (.iconst 1, 1) := by decide +kernel
theorem dX10_signChanges_74 : decode cX10_signChanges 74 = .ok (.goto 4, 3) := by decide +kernel
theorem dX10_signChanges_77 : decode cX10_signChanges 77 = .ok (.iconst 0, 1) := by decide +kernel
theorem dX10_signChanges_78 : decode cX10_signChanges 78 = .ok (.aload_n 0, 1) := by decide +kernel
theorem dX10_signChanges_79 : decode cX10_signChanges 79 = .ok (.getfield 32, 3) := by decide +kernel
theorem dX10_signChanges_82 : decode cX10_signChanges 82 = .ok (.iload 4, 2) := by decide +kernel
theorem dX10_signChanges_84 : decode cX10_signChanges 84 = .ok (.iaload, 1) := by decide +kernel
theorem dX10_signChanges_85 : decode cX10_signChanges 85 = .ok (.ifCond .ge 7, 3) := by decide +kernel
theorem dX10_signChanges_88 : decode cX10_signChanges 88 = .ok (.iconst 1, 1) := by decide +kernel
theorem dX10_signChanges_89 : decode cX10_signChanges 89 = .ok (.goto 4, 3) := by decide +kernel
theorem dX10_signChanges_92 : decode cX10_signChanges 92 = .ok (.iconst 0, 1) := by decide +kernel
theorem dX10_signChanges_93 : decode cX10_signChanges 93 = .ok (.if_icmp .eq 7, 3) := by decide +kernel
theorem dX10_signChanges_96 : decode cX10_signChanges 96 = .ok (.iconst 1, 1) := by decide +kernel
theorem dX10_signChanges_97 : decode cX10_signChanges 97 = .ok (.goto 4, 3) := by decide +kernel
theorem dX10_signChanges_100 : decode cX10_signChanges 100 = .ok (.iconst 0, 1) := by decide +kernel
theorem dX10_signChanges_101 : decode cX10_signChanges 101 = .ok (.iadd, 1) := by decide +kernel
theorem dX10_signChanges_102 : decode cX10_signChanges 102 = .ok (.istore_n 2, 1) := by decide +kernel
theorem dX10_signChanges_103 : decode cX10_signChanges 103 = .ok (.aload_n 0, 1) := by decide +kernel
theorem dX10_signChanges_104 : decode cX10_signChanges 104 = .ok (.getfield 32, 3) := by decide +kernel
theorem dX10_signChanges_107 : decode cX10_signChanges 107 = .ok (.iload 4, 2) := by decide +kernel
theorem dX10_signChanges_109 : decode cX10_signChanges 109 = .ok (.iaload, 1) := by decide +kernel
theorem dX10_signChanges_110 : decode cX10_signChanges 110 = .ok (.istore_n 3, 1) := by decide +kernel
theorem dX10_signChanges_111 : decode cX10_signChanges 111 = .ok (.iinc 4 1, 3) := by decide +kernel
theorem dX10_signChanges_114 : decode cX10_signChanges 114 = .ok (.goto (-77), 3) := by decide +kernel
theorem dX10_signChanges_117 : decode cX10_signChanges 117 = .ok (.iload_n 2, 1) := by decide +kernel
theorem dX10_signChanges_118 : decode cX10_signChanges 118 = .ok (.ireturn, 1) := by decide +kernel
theorem dX10_strongestSong_0 : decode cX10_strongestSong 0 = .ok (.aload_n 0, 1) := by decide +kernel
theorem dX10_strongestSong_1 : decode cX10_strongestSong 1 = .ok (.iconst 0, 1) := by decide +kernel
theorem dX10_strongestSong_2 : decode cX10_strongestSong 2 = .ok (.putfield 53, 3) := by decide +kernel
theorem dX10_strongestSong_5 : decode cX10_strongestSong 5 = .ok (.iconst 0, 1) := by decide +kernel
theorem dX10_strongestSong_6 : decode cX10_strongestSong 6 = .ok (.istore_n 1, 1) := by decide +kernel
theorem dX10_strongestSong_7 : decode cX10_strongestSong 7 = .ok (.iconst 1, 1) := by decide +kernel
theorem dX10_strongestSong_8 : decode cX10_strongestSong 8 = .ok (.istore_n 2, 1) := by decide +kernel
theorem dX10_strongestSong_9 : decode cX10_strongestSong 9 = .ok (.iload_n 2, 1) := by decide +kernel
theorem dX10_strongestSong_10 : decode cX10_strongestSong 10 = .ok (.iconst 4, 1) := by decide +kernel
theorem dX10_strongestSong_11 : decode cX10_strongestSong 11 = .ok (.if_icmp .ge 25, 3) := by decide +kernel
theorem dX10_strongestSong_14 : decode cX10_strongestSong 14 = .ok (.aload_n 0, 1) := by decide +kernel
theorem dX10_strongestSong_15 : decode cX10_strongestSong 15 = .ok (.iload_n 2, 1) := by decide +kernel
theorem dX10_strongestSong_16 : decode cX10_strongestSong 16 = .ok (.invokevirtual 140, 3) := by decide +kernel
theorem dX10_strongestSong_19 : decode cX10_strongestSong 19 = .ok (.aload_n 0, 1) := by decide +kernel
theorem dX10_strongestSong_20 : decode cX10_strongestSong 20 = .ok (.iload_n 1, 1) := by decide +kernel
theorem dX10_strongestSong_21 : decode cX10_strongestSong 21 = .ok (.invokevirtual 140, 3) := by decide +kernel
theorem dX10_strongestSong_24 : decode cX10_strongestSong 24 = .ok (.lcmp, 1) := by decide +kernel
theorem dX10_strongestSong_25 : decode cX10_strongestSong 25 = .ok (.ifCond .le 5, 3) := by decide +kernel
theorem dX10_strongestSong_28 : decode cX10_strongestSong 28 = .ok (.iload_n 2, 1) := by decide +kernel
theorem dX10_strongestSong_29 : decode cX10_strongestSong 29 = .ok (.istore_n 1, 1) := by decide +kernel
theorem dX10_strongestSong_30 : decode cX10_strongestSong 30 = .ok (.iinc 2 1, 3) := by decide +kernel
theorem dX10_strongestSong_33 : decode cX10_strongestSong 33 = .ok (.goto (-24), 3) := by decide +kernel
theorem dX10_strongestSong_36 : decode cX10_strongestSong 36 = .ok (.iload_n 1, 1) := by decide +kernel
theorem dX10_strongestSong_37 : decode cX10_strongestSong 37 = .ok (.ireturn, 1) := by decide +kernel
theorem dX10_addsTank_0 : decode cX10_addsTank 0 = .ok (.iload_n 1, 1) := by decide +kernel
theorem dX10_addsTank_1 : decode cX10_addsTank 1 = .ok (.iconst 1, 1) := by decide +kernel
theorem dX10_addsTank_2 : decode cX10_addsTank 2 = .ok (.bipush 9, 2) := by decide +kernel
theorem dX10_addsTank_4 : decode cX10_addsTank 4 = .ok (.invokestatic 63, 3) := by decide +kernel
theorem dX10_addsTank_7 : decode cX10_addsTank 7 = .ok (.ifCond .ne 9, 3) := by decide +kernel
theorem dX10_addsTank_10 : decode cX10_addsTank 10 = .ok (.aload_n 0, 1) := by decide +kernel
theorem dX10_addsTank_11 : decode cX10_addsTank 11 = .ok (.iconst 1, 1) := by decide +kernel
theorem dX10_addsTank_12 : decode cX10_addsTank 12 = .ok (.invokevirtual 71, 3) := by decide +kernel
theorem dX10_addsTank_15 : decode cX10_addsTank 15 = .ok (.ireturn, 1) := by decide +kernel
theorem dX10_addsTank_16 : decode cX10_addsTank 16 = .ok (.aload_n 0, 1) := by decide +kernel
theorem dX10_addsTank_17 : decode cX10_addsTank 17 = .ok (.getfield 16, 3) := by decide +kernel
theorem dX10_addsTank_20 : decode cX10_addsTank 20 = .ok (.iconst 1, 1) := by decide +kernel
theorem dX10_addsTank_21 : decode cX10_addsTank 21 = .ok (.iaload, 1) := by decide +kernel
theorem dX10_addsTank_22 : decode cX10_addsTank 22 = .ok (.istore_n 2, 1) := by decide +kernel
theorem dX10_addsTank_23 : decode cX10_addsTank 23 = .ok (.iload_n 2, 1) := by decide +kernel
theorem dX10_addsTank_24 : decode cX10_addsTank 24 = .ok (.iconst 4, 1) := by decide +kernel
theorem dX10_addsTank_25 : decode cX10_addsTank 25 = .ok (.if_icmp .ne 9, 3) := by decide +kernel
theorem dX10_addsTank_28 : decode cX10_addsTank 28 = .ok (.aload_n 0, 1) := by decide +kernel
theorem dX10_addsTank_29 : decode cX10_addsTank 29 = .ok (.iconst 2, 1) := by decide +kernel
theorem dX10_addsTank_30 : decode cX10_addsTank 30 = .ok (.invokevirtual 71, 3) := by decide +kernel
theorem dX10_addsTank_33 : decode cX10_addsTank 33 = .ok (.ireturn, 1) := by decide +kernel
theorem dX10_addsTank_34 : decode cX10_addsTank 34 = .ok (.aload_n 0, 1) := by decide +kernel
theorem dX10_addsTank_35 : decode cX10_addsTank 35 = .ok (.getfield 16, 3) := by decide +kernel
theorem dX10_addsTank_38 : decode cX10_addsTank 38 = .ok (.iload_n 2, 1) := by decide +kernel
theorem dX10_addsTank_39 : decode cX10_addsTank 39 = .ok (.iconst 0, 1) := by decide +kernel
theorem dX10_addsTank_40 : decode cX10_addsTank 40 = .ok (.invokestatic 144, 3) := by decide +kernel
theorem dX10_addsTank_43 : decode cX10_addsTank 43 = .ok (.iload_n 1, 1) := by decide +kernel
theorem dX10_addsTank_44 : decode cX10_addsTank 44 = .ok (.iastore, 1) := by decide +kernel
theorem dX10_addsTank_45 : decode cX10_addsTank 45 = .ok (.aload_n 0, 1) := by decide +kernel
theorem dX10_addsTank_46 : decode cX10_addsTank 46 = .ok (.getfield 16, 3) := by decide +kernel
theorem dX10_addsTank_49 : decode cX10_addsTank 49 = .ok (.iload_n 2, 1) := by decide +kernel
theorem dX10_addsTank_50 : decode cX10_addsTank 50 = .ok (.iconst 1, 1) := by decide +kernel
theorem dX10_addsTank_51 : decode cX10_addsTank 51 = .ok (.invokestatic 144, 3) := by decide +kernel
theorem dX10_addsTank_54 : decode cX10_addsTank 54 = .ok (.sipush 9999, 3) := by decide +kernel
theorem dX10_addsTank_57 : decode cX10_addsTank 57 = .ok (.iastore, 1) := by decide +kernel
theorem dX10_addsTank_58 : decode cX10_addsTank 58 = .ok (.aload_n 0, 1) := by decide +kernel
theorem dX10_addsTank_59 : decode cX10_addsTank 59 = .ok (.getfield 16, 3) := by decide +kernel
theorem dX10_addsTank_62 : decode cX10_addsTank 62 = .ok (.iconst 1, 1) := by decide +kernel
theorem dX10_addsTank_63 : decode cX10_addsTank 63 = .ok (.dup2, 1) := by decide +kernel
theorem dX10_addsTank_64 : decode cX10_addsTank 64 = .ok (.iaload, 1) := by decide +kernel
theorem dX10_addsTank_65 : decode cX10_addsTank 65 = .ok (.iconst 1, 1) := by decide +kernel
theorem dX10_addsTank_66 : decode cX10_addsTank 66 = .ok (.iadd, 1) := by decide +kernel
theorem dX10_addsTank_67 : decode cX10_addsTank 67 = .ok (.iastore, 1) := by decide +kernel
theorem dX10_addsTank_68 : decode cX10_addsTank 68 = .ok (.iload_n 2, 1) := by decide +kernel
theorem dX10_addsTank_69 : decode cX10_addsTank 69 = .ok (.ireturn, 1) := by decide +kernel
theorem dX10_addTank_0 : decode cX10_addTank 0 = .ok (.aload_n 0, 1) := by decide +kernel
theorem dX10_addTank_1 : decode cX10_addTank 1 = .ok (.invokevirtual 79, 3) := by decide +kernel
theorem dX10_addTank_4 : decode cX10_addTank 4 = .ok (.aload_n 0, 1) := by decide +kernel
theorem dX10_addTank_5 : decode cX10_addTank 5 = .ok (.aload_n 0, 1) := by decide +kernel
theorem dX10_addTank_6 : decode cX10_addTank 6 = .ok (.iload_n 1, 1) := by decide +kernel
theorem dX10_addTank_7 : decode cX10_addTank 7 = .ok (.invokevirtual 147, 3) := by decide +kernel
theorem dX10_addTank_10 : decode cX10_addTank 10 = .ok (.invokevirtual 86, 3) := by decide +kernel
theorem dX10_addTank_13 : decode cX10_addTank 13 = .ok (.ireturn, 1) := by decide +kernel
theorem dX10_tunes_0 : decode cX10_tunes 0 = .ok (.aload_n 0, 1) := by decide +kernel
theorem dX10_tunes_1 : decode cX10_tunes 1 = .ok (.iload_n 1, 1) := by decide +kernel
theorem dX10_tunes_2 : decode cX10_tunes 2 = .ok (.invokevirtual 150, 3) := by decide +kernel
theorem dX10_tunes_5 : decode cX10_tunes 5 = .ok (.ifCond .ne 9, 3) := by decide +kernel
theorem dX10_tunes_8 : decode cX10_tunes 8 = .ok (.aload_n 0, 1) := by decide +kernel
theorem dX10_tunes_9 : decode cX10_tunes 9 = .ok (.iconst 1, 1) := by decide +kernel
theorem dX10_tunes_10 : decode cX10_tunes 10 = .ok (.invokevirtual 71, 3) := by decide +kernel
theorem dX10_tunes_13 : decode cX10_tunes 13 = .ok (.ireturn, 1) := by decide +kernel
theorem dX10_tunes_14 : decode cX10_tunes 14 = .ok (.iload_n 2, 1) := by decide +kernel
theorem dX10_tunes_15 : decode cX10_tunes 15 = .ok (.iconst 0, 1) := by decide +kernel
theorem dX10_tunes_16 : decode cX10_tunes 16 = .ok (.sipush 9999, 3) := by decide +kernel
theorem dX10_tunes_19 : decode cX10_tunes 19 = .ok (.invokestatic 63, 3) := by decide +kernel
theorem dX10_tunes_22 : decode cX10_tunes 22 = .ok (.ifCond .ne 9, 3) := by decide +kernel
theorem dX10_tunes_25 : decode cX10_tunes 25 = .ok (.aload_n 0, 1) := by decide +kernel
theorem dX10_tunes_26 : decode cX10_tunes 26 = .ok (.iconst 2, 1) := by decide +kernel
theorem dX10_tunes_27 : decode cX10_tunes 27 = .ok (.invokevirtual 71, 3) := by decide +kernel
theorem dX10_tunes_30 : decode cX10_tunes 30 = .ok (.ireturn, 1) := by decide +kernel
theorem dX10_tunes_31 : decode cX10_tunes 31 = .ok (.aload_n 0, 1) := by decide +kernel
theorem dX10_tunes_32 : decode cX10_tunes 32 = .ok (.getfield 16, 3) := by decide +kernel
theorem dX10_tunes_35 : decode cX10_tunes 35 = .ok (.iload_n 1, 1) := by decide +kernel
theorem dX10_tunes_36 : decode cX10_tunes 36 = .ok (.iconst 1, 1) := by decide +kernel
theorem dX10_tunes_37 : decode cX10_tunes 37 = .ok (.invokestatic 144, 3) := by decide +kernel
theorem dX10_tunes_40 : decode cX10_tunes 40 = .ok (.iaload, 1) := by decide +kernel
theorem dX10_tunes_41 : decode cX10_tunes 41 = .ok (.istore_n 3, 1) := by decide +kernel
theorem dX10_tunes_42 : decode cX10_tunes 42 = .ok (.aload_n 0, 1) := by decide +kernel
theorem dX10_tunes_43 : decode cX10_tunes 43 = .ok (.getfield 16, 3) := by decide +kernel
theorem dX10_tunes_46 : decode cX10_tunes 46 = .ok (.iload_n 1, 1) := by decide +kernel
theorem dX10_tunes_47 : decode cX10_tunes 47 = .ok (.iconst 1, 1) := by decide +kernel
theorem dX10_tunes_48 : decode cX10_tunes 48 = .ok (.invokestatic 144, 3) := by decide +kernel
theorem dX10_tunes_51 : decode cX10_tunes 51 = .ok (.iload_n 2, 1) := by decide +kernel
theorem dX10_tunes_52 : decode cX10_tunes 52 = .ok (.iastore, 1) := by decide +kernel
theorem dX10_tunes_53 : decode cX10_tunes 53 = .ok (.iload_n 3, 1) := by decide +kernel
theorem dX10_tunes_54 : decode cX10_tunes 54 = .ok (.ireturn, 1) := by decide +kernel
theorem dX10_setTuning_0 : decode cX10_setTuning 0 = .ok (.aload_n 0, 1) := by decide +kernel
theorem dX10_setTuning_1 : decode cX10_setTuning 1 = .ok (.invokevirtual 79, 3) := by decide +kernel
theorem dX10_setTuning_4 : decode cX10_setTuning 4 = .ok (.aload_n 0, 1) := by decide +kernel
theorem dX10_setTuning_5 : decode cX10_setTuning 5 = .ok (.aload_n 0, 1) := by decide +kernel
theorem dX10_setTuning_6 : decode cX10_setTuning 6 = .ok (.iload_n 1, 1) := by decide +kernel
theorem dX10_setTuning_7 : decode cX10_setTuning 7 = .ok (.iload_n 2, 1) := by decide +kernel
theorem dX10_setTuning_8 : decode cX10_setTuning 8 = .ok (.invokevirtual 153, 3) := by decide +kernel
theorem dX10_setTuning_11 : decode cX10_setTuning 11 = .ok (.invokevirtual 86, 3) := by decide +kernel
theorem dX10_setTuning_14 : decode cX10_setTuning 14 = .ok (.ireturn, 1) := by decide +kernel
theorem dX10_room_0 : decode cX10_room 0 = .ok (.aload_n 0, 1) := by decide +kernel
theorem dX10_room_1 : decode cX10_room 1 = .ok (.getfield 16, 3) := by decide +kernel
theorem dX10_room_4 : decode cX10_room 4 = .ok (.iload_n 1, 1) := by decide +kernel
theorem dX10_room_5 : decode cX10_room 5 = .ok (.iconst 0, 1) := by decide +kernel
theorem dX10_room_6 : decode cX10_room 6 = .ok (.invokestatic 144, 3) := by decide +kernel
theorem dX10_room_9 : decode cX10_room 9 = .ok (.iaload, 1) := by decide +kernel
theorem dX10_room_10 : decode cX10_room 10 = .ok (.aload_n 0, 1) := by decide +kernel
theorem dX10_room_11 : decode cX10_room 11 = .ok (.getfield 16, 3) := by decide +kernel
theorem dX10_room_14 : decode cX10_room 14 = .ok (.iload_n 1, 1) := by decide +kernel
theorem dX10_room_15 : decode cX10_room 15 = .ok (.iconst 2, 1) := by decide +kernel
theorem dX10_room_16 : decode cX10_room 16 = .ok (.invokestatic 144, 3) := by decide +kernel
theorem dX10_room_19 : decode cX10_room 19 = .ok (.iaload, 1) := by decide +kernel
theorem dX10_room_20 : decode cX10_room 20 = .ok (.isub, 1) := by decide +kernel
theorem dX10_room_21 : decode cX10_room 21 = .ok (.ireturn, 1) := by decide +kernel
theorem dX10_tankFor_0 : decode cX10_tankFor 0 = .ok (.iconst (-1), 1) := by decide +kernel
theorem dX10_tankFor_1 : decode cX10_tankFor 1 = .ok (.istore_n 2, 1) := by decide +kernel
theorem dX10_tankFor_2 : decode cX10_tankFor 2 = .ok (.iconst 0, 1) := by decide +kernel
theorem dX10_tankFor_3 : decode cX10_tankFor 3 = .ok (.istore_n 3, 1) := by decide +kernel
theorem dX10_tankFor_4 : decode cX10_tankFor 4 = .ok (.iload_n 3, 1) := by decide +kernel
theorem dX10_tankFor_5 : decode cX10_tankFor 5 = .ok (.aload_n 0, 1) := by decide +kernel
theorem dX10_tankFor_6 : decode cX10_tankFor 6 = .ok (.getfield 16, 3) := by decide +kernel
theorem dX10_tankFor_9 : decode cX10_tankFor 9 = .ok (.iconst 1, 1) := by decide +kernel
theorem dX10_tankFor_10 : decode cX10_tankFor 10 = .ok (.iaload, 1) := by decide +kernel
theorem dX10_tankFor_11 : decode cX10_tankFor 11 = .ok (.if_icmp .ge 66, 3) := by decide +kernel
theorem dX10_tankFor_14 : decode cX10_tankFor 14 = .ok (.aload_n 0, 1) := by decide +kernel
theorem dX10_tankFor_15 : decode cX10_tankFor 15 = .ok (.iload_n 3, 1) := by decide +kernel
theorem dX10_tankFor_16 : decode cX10_tankFor 16 = .ok (.invokevirtual 156, 3) := by decide +kernel
theorem dX10_tankFor_19 : decode cX10_tankFor 19 = .ok (.ifCond .le 21, 3) := by decide +kernel
theorem dX10_tankFor_22 : decode cX10_tankFor 22 = .ok (.iload_n 1, 1) := by decide +kernel
theorem dX10_tankFor_23 : decode cX10_tankFor 23 = .ok (.aload_n 0, 1) := by decide +kernel
theorem dX10_tankFor_24 : decode cX10_tankFor 24 = .ok (.getfield 16, 3) := by decide +kernel
theorem dX10_tankFor_27 : decode cX10_tankFor 27 = .ok (.iload_n 3, 1) := by decide +kernel
theorem dX10_tankFor_28 : decode cX10_tankFor 28 = .ok (.iconst 1, 1) := by decide +kernel
theorem dX10_tankFor_29 : decode cX10_tankFor 29 = .ok (.invokestatic 144, 3) := by decide +kernel
theorem dX10_tankFor_32 : decode cX10_tankFor 32 = .ok (.iaload, 1) := by decide +kernel
theorem dX10_tankFor_33 : decode cX10_tankFor 33 = .ok (.if_icmp .gt 7, 3) := by decide +kernel
theorem dX10_tankFor_36 : decode cX10_tankFor 36 = .ok (.iconst 1, 1) := by decide +kernel
theorem dX10_tankFor_37 : decode cX10_tankFor 37 = .ok (.goto 4, 3) := by decide +kernel
theorem dX10_tankFor_40 : decode cX10_tankFor 40 = .ok (.iconst 0, 1) := by decide +kernel
theorem dX10_tankFor_41 : decode cX10_tankFor 41 = .ok (.istore 4, 2) := by decide +kernel
theorem dX10_tankFor_43 : decode cX10_tankFor 43 = .ok (.iload 4, 2) := by decide +kernel
theorem dX10_tankFor_45 : decode cX10_tankFor 45 = .ok (.ifCond .eq 24, 3) := by decide +kernel
theorem dX10_tankFor_48 : decode cX10_tankFor 48 = .ok (.iload_n 2, 1) := by decide +kernel
theorem dX10_tankFor_49 : decode cX10_tankFor 49 = .ok (.ifCond .lt 16, 3) := by decide +kernel
theorem dX10_tankFor_52 : decode cX10_tankFor 52 = .ok (.aload_n 0, 1) := by decide +kernel
theorem dX10_tankFor_53 : decode cX10_tankFor 53 = .ok (.iload_n 3, 1) := by decide +kernel
theorem dX10_tankFor_54 : decode cX10_tankFor 54 = .ok (.invokevirtual 156, 3) := by decide +kernel
theorem dX10_tankFor_57 : decode cX10_tankFor 57 = .ok (.aload_n 0, 1) := by decide +kernel
theorem dX10_tankFor_58 : decode cX10_tankFor 58 = .ok (.iload_n 2, 1) := by decide +kernel
theorem dX10_tankFor_59 : decode cX10_tankFor 59 = .ok (.invokevirtual 156, 3) := by decide +kernel
theorem dX10_tankFor_62 : decode cX10_tankFor 62 = .ok (.if_icmp .le 7, 3) := by decide +kernel
theorem dX10_tankFor_65 : decode cX10_tankFor 65 = .ok (.iload_n 3, 1) := by decide +kernel
theorem dX10_tankFor_66 : decode cX10_tankFor 66 = .ok (.goto 4, 3) := by decide +kernel
theorem dX10_tankFor_69 : decode cX10_tankFor 69 = .ok (.iload_n 2, 1) := by decide +kernel
theorem dX10_tankFor_70 : decode cX10_tankFor 70 = .ok (.istore_n 2, 1) := by decide +kernel
theorem dX10_tankFor_71 : decode cX10_tankFor 71 = .ok (.iinc 3 1, 3) := by decide +kernel
theorem dX10_tankFor_74 : decode cX10_tankFor 74 = .ok (.goto (-70), 3) := by decide +kernel
theorem dX10_tankFor_77 : decode cX10_tankFor 77 = .ok (.iload_n 2, 1) := by decide +kernel
theorem dX10_tankFor_78 : decode cX10_tankFor 78 = .ok (.ireturn, 1) := by decide +kernel
theorem dX10_pours_0 : decode cX10_pours 0 = .ok (.aload_n 0, 1) := by decide +kernel
theorem dX10_pours_1 : decode cX10_pours 1 = .ok (.iload_n 1, 1) := by decide +kernel
theorem dX10_pours_2 : decode cX10_pours 2 = .ok (.invokevirtual 130, 3) := by decide +kernel
theorem dX10_pours_5 : decode cX10_pours 5 = .ok (.iconst 0, 1) := by decide +kernel
theorem dX10_pours_6 : decode cX10_pours 6 = .ok (.istore_n 2, 1) := by decide +kernel
theorem dX10_pours_7 : decode cX10_pours 7 = .ok (.aload_n 0, 1) := by decide +kernel
theorem dX10_pours_8 : decode cX10_pours 8 = .ok (.getfield 16, 3) := by decide +kernel
theorem dX10_pours_11 : decode cX10_pours 11 = .ok (.bipush 25, 2) := by decide +kernel
theorem dX10_pours_13 : decode cX10_pours 13 = .ok (.iload_n 1, 1) := by decide +kernel
theorem dX10_pours_14 : decode cX10_pours 14 = .ok (.iadd, 1) := by decide +kernel
theorem dX10_pours_15 : decode cX10_pours 15 = .ok (.iaload, 1) := by decide +kernel
theorem dX10_pours_16 : decode cX10_pours 16 = .ok (.istore_n 3, 1) := by decide +kernel
theorem dX10_pours_17 : decode cX10_pours 17 = .ok (.iconst 0, 1) := by decide +kernel
theorem dX10_pours_18 : decode cX10_pours 18 = .ok (.istore 4, 2) := by decide +kernel
theorem dX10_pours_20 : decode cX10_pours 20 = .ok (.iload 4, 2) := by decide +kernel
theorem dX10_pours_22 : decode cX10_pours 22 = .ok (.iload_n 3, 1) := by decide +kernel
theorem dX10_pours_23 : decode cX10_pours 23 = .ok (.if_icmp .ge 113, 3) := by decide +kernel
theorem dX10_pours_26 : decode cX10_pours 26 = .ok (.aload_n 0, 1) := by decide +kernel
theorem dX10_pours_27 : decode cX10_pours 27 = .ok (.iload 4, 2) := by decide +kernel
theorem dX10_pours_29 : decode cX10_pours 29 = .ok (.iload 4, 2) := by decide +kernel
theorem dX10_pours_31 : decode cX10_pours 31 = .ok (.bipush 8, 2) := by decide +kernel
theorem dX10_pours_33 : decode cX10_pours 33 = .ok (.iadd, 1) := by decide +kernel
theorem dX10_pours_34 : decode cX10_pours 34 = .ok (.iload_n 3, 1) := by decide +kernel
theorem dX10_pours_35 : decode cX10_pours 35 = .ok (.if_icmp .ge 11, 3) := by decide +kernel
theorem dX10_pours_38 : decode cX10_pours 38 = .ok (.iload 4, 2) := by decide +kernel
theorem dX10_pours_40 : decode cX10_pours 40 = .ok (.bipush 8, 2) := by decide +kernel
theorem dX10_pours_42 : decode cX10_pours 42 = .ok (.iadd, 1) := by decide +kernel
theorem dX10_pours_43 : decode cX10_pours 43 = .ok (.goto 4, 3) := by decide +kernel
theorem dX10_pours_46 : decode cX10_pours 46 = .ok (.iload_n 3, 1) := by decide +kernel
theorem dX10_pours_47 : decode cX10_pours 47 = .ok (.invokevirtual 137, 3) := by decide +kernel
theorem dX10_pours_50 : decode cX10_pours 50 = .ok (.istore 5, 2) := by decide +kernel
theorem dX10_pours_52 : decode cX10_pours 52 = .ok (.aload_n 0, 1) := by decide +kernel
theorem dX10_pours_53 : decode cX10_pours 53 = .ok (.iload 5, 2) := by decide +kernel
theorem dX10_pours_55 : decode cX10_pours 55 = .ok (.invokevirtual 159, 3) := by decide +kernel
theorem dX10_pours_58 : decode cX10_pours 58 = .ok (.istore 6, 2) := by decide +kernel
theorem dX10_pours_60 : decode cX10_pours 60 = .ok (.aload_n 0, 1) := by decide +kernel
theorem dX10_pours_61 : decode cX10_pours 61 = .ok (.getfield 16, 3) := by decide +kernel
theorem dX10_pours_64 : decode cX10_pours 64 = .ok (.iload 6, 2) := by decide +kernel
theorem dX10_pours_66 : decode cX10_pours 66 = .ok (.ifCond .ge 7, 3) := by decide +kernel
theorem dX10_pours_69 : decode cX10_pours 69 = .ok (.iconst 3, 1) := by decide +kernel
theorem dX10_pours_70 : decode cX10_pours 70 = .ok (.goto 4, 3) := by decide +kernel
theorem dX10_pours_73 : decode cX10_pours 73 = .ok (.iconst 2, 1) := by decide +kernel
theorem dX10_pours_74 : decode cX10_pours 74 = .ok (.dup2, 1) := by decide +kernel
theorem dX10_pours_75 : decode cX10_pours 75 = .ok (.iaload, 1) := by decide +kernel
theorem dX10_pours_76 : decode cX10_pours 76 = .ok (.iconst 1, 1) := by decide +kernel
theorem dX10_pours_77 : decode cX10_pours 77 = .ok (.iadd, 1) := by decide +kernel
theorem dX10_pours_78 : decode cX10_pours 78 = .ok (.iastore, 1) := by decide +kernel
theorem dX10_pours_79 : decode cX10_pours 79 = .ok (.iload 6, 2) := by decide +kernel
theorem dX10_pours_81 : decode cX10_pours 81 = .ok (.ifCond .ge 6, 3) := by decide +kernel
theorem dX10_pours_84 : decode cX10_pours 84 = .ok (.goto 46, 3) := by decide +kernel
theorem dX10_pours_87 : decode cX10_pours 87 = .ok (.aload_n 0, 1) := by decide +kernel
theorem dX10_pours_88 : decode cX10_pours 88 = .ok (.getfield 16, 3) := by decide +kernel
theorem dX10_pours_91 : decode cX10_pours 91 = .ok (.iload 6, 2) := by decide +kernel
theorem dX10_pours_93 : decode cX10_pours 93 = .ok (.iconst 3, 1) := by decide +kernel
theorem dX10_pours_94 : decode cX10_pours 94 = .ok (.aload_n 0, 1) := by decide +kernel
theorem dX10_pours_95 : decode cX10_pours 95 = .ok (.getfield 16, 3) := by decide +kernel
theorem dX10_pours_98 : decode cX10_pours 98 = .ok (.iload 6, 2) := by decide +kernel
theorem dX10_pours_100 : decode cX10_pours 100 = .ok (.iconst 2, 1) := by decide +kernel
theorem dX10_pours_101 : decode cX10_pours 101 = .ok (.invokestatic 144, 3) := by decide +kernel
theorem dX10_pours_104 : decode cX10_pours 104 = .ok (.iaload, 1) := by decide +kernel
theorem dX10_pours_105 : decode cX10_pours 105 = .ok (.iadd, 1) := by decide +kernel
theorem dX10_pours_106 : decode cX10_pours 106 = .ok (.invokestatic 144, 3) := by decide +kernel
theorem dX10_pours_109 : decode cX10_pours 109 = .ok (.iload 5, 2) := by decide +kernel
theorem dX10_pours_111 : decode cX10_pours 111 = .ok (.iastore, 1) := by decide +kernel
theorem dX10_pours_112 : decode cX10_pours 112 = .ok (.aload_n 0, 1) := by decide +kernel
theorem dX10_pours_113 : decode cX10_pours 113 = .ok (.getfield 16, 3) := by decide +kernel
theorem dX10_pours_116 : decode cX10_pours 116 = .ok (.iload 6, 2) := by decide +kernel
theorem dX10_pours_118 : decode cX10_pours 118 = .ok (.iconst 2, 1) := by decide +kernel
theorem dX10_pours_119 : decode cX10_pours 119 = .ok (.invokestatic 144, 3) := by decide +kernel
theorem dX10_pours_122 : decode cX10_pours 122 = .ok (.dup2, 1) := by decide +kernel
theorem dX10_pours_123 : decode cX10_pours 123 = .ok (.iaload, 1) := by decide +kernel
theorem dX10_pours_124 : decode cX10_pours 124 = .ok (.iconst 1, 1) := by decide +kernel
theorem dX10_pours_125 : decode cX10_pours 125 = .ok (.iadd, 1) := by decide +kernel
theorem dX10_pours_126 : decode cX10_pours 126 = .ok (.iastore, 1) := by decide +kernel
theorem dX10_pours_127 : decode cX10_pours 127 = .ok (.iinc 2 1, 3) := by decide +kernel
theorem dX10_pours_130 : decode cX10_pours 130 = .ok (.iinc 4 8, 3) := by decide +kernel
theorem dX10_pours_133 : decode cX10_pours 133 = .ok (.goto (-113), 3) := by decide +kernel
theorem dX10_pours_136 : decode cX10_pours 136 = .ok (.iload_n 2, 1) := by decide +kernel
theorem dX10_pours_137 : decode cX10_pours 137 = .ok (.ireturn, 1) := by decide +kernel
theorem dX10_poursAll_0 : decode cX10_poursAll 0 = .ok (.iload_n 1, 1) := by decide +kernel
theorem dX10_poursAll_1 : decode cX10_poursAll 1 = .ok (.invokestatic 105, 3) := by decide +kernel
theorem dX10_poursAll_4 : decode cX10_poursAll 4 = .ok (.ifCond .ne 9, 3) := by decide +kernel
theorem dX10_poursAll_7 : decode cX10_poursAll 7 = .ok (.aload_n 0, 1) := by decide +kernel
theorem dX10_poursAll_8 : decode cX10_poursAll 8 = .ok (.iconst 1, 1) := by decide +kernel
theorem dX10_poursAll_9 : decode cX10_poursAll 9 = .ok (.invokevirtual 71, 3) := by decide +kernel
theorem dX10_poursAll_12 : decode cX10_poursAll 12 = .ok (.ireturn, 1) := by decide +kernel
theorem dX10_poursAll_13 : decode cX10_poursAll 13 = .ok (.aload_n 0, 1) := by decide +kernel
theorem dX10_poursAll_14 : decode cX10_poursAll 14 = .ok (.getfield 16, 3) := by decide +kernel
theorem dX10_poursAll_17 : decode cX10_poursAll 17 = .ok (.bipush 21, 2) := by decide +kernel
theorem dX10_poursAll_19 : decode cX10_poursAll 19 = .ok (.iload_n 1, 1) := by decide +kernel
theorem dX10_poursAll_20 : decode cX10_poursAll 20 = .ok (.iadd, 1) := by decide +kernel
theorem dX10_poursAll_21 : decode cX10_poursAll 21 = .ok (.iaload, 1) := by decide +kernel
theorem dX10_poursAll_22 : decode cX10_poursAll 22 = .ok (.ifCond .ne 11, 3) := by decide +kernel
theorem dX10_poursAll_25 : decode cX10_poursAll 25 = .ok (.aload_n 0, 1) := by decide +kernel
theorem dX10_poursAll_26 : decode cX10_poursAll 26 = .ok (.iconst 2, 1) := by decide +kernel
theorem dX10_poursAll_27 : decode cX10_poursAll 27 = .ok (.invokevirtual 71, 3) := by decide +kernel
theorem dX10_poursAll_30 : decode cX10_poursAll 30 = .ok (.goto 8, 3) := by decide +kernel
theorem dX10_poursAll_33 : decode cX10_poursAll 33 = .ok (.aload_n 0, 1) := by decide +kernel
theorem dX10_poursAll_34 : decode cX10_poursAll 34 = .ok (.iload_n 1, 1) := by decide +kernel
theorem dX10_poursAll_35 : decode cX10_poursAll 35 = .ok (.invokevirtual 162, 3) := by decide +kernel
theorem dX10_poursAll_38 : decode cX10_poursAll 38 = .ok (.ireturn, 1) := by decide +kernel
theorem dX10_pour_0 : decode cX10_pour 0 = .ok (.aload_n 0, 1) := by decide +kernel
theorem dX10_pour_1 : decode cX10_pour 1 = .ok (.invokevirtual 79, 3) := by decide +kernel
theorem dX10_pour_4 : decode cX10_pour 4 = .ok (.aload_n 0, 1) := by decide +kernel
theorem dX10_pour_5 : decode cX10_pour 5 = .ok (.aload_n 0, 1) := by decide +kernel
theorem dX10_pour_6 : decode cX10_pour 6 = .ok (.iload_n 1, 1) := by decide +kernel
theorem dX10_pour_7 : decode cX10_pour 7 = .ok (.invokevirtual 165, 3) := by decide +kernel
theorem dX10_pour_10 : decode cX10_pour 10 = .ok (.invokevirtual 86, 3) := by decide +kernel
theorem dX10_pour_13 : decode cX10_pour 13 = .ok (.ireturn, 1) := by decide +kernel
theorem dX10_drains_0 : decode cX10_drains 0 = .ok (.aload_n 0, 1) := by decide +kernel
theorem dX10_drains_1 : decode cX10_drains 1 = .ok (.iload_n 1, 1) := by decide +kernel
theorem dX10_drains_2 : decode cX10_drains 2 = .ok (.invokevirtual 150, 3) := by decide +kernel
theorem dX10_drains_5 : decode cX10_drains 5 = .ok (.ifCond .ne 9, 3) := by decide +kernel
theorem dX10_drains_8 : decode cX10_drains 8 = .ok (.aload_n 0, 1) := by decide +kernel
theorem dX10_drains_9 : decode cX10_drains 9 = .ok (.iconst 1, 1) := by decide +kernel
theorem dX10_drains_10 : decode cX10_drains 10 = .ok (.invokevirtual 71, 3) := by decide +kernel
theorem dX10_drains_13 : decode cX10_drains 13 = .ok (.ireturn, 1) := by decide +kernel
theorem dX10_drains_14 : decode cX10_drains 14 = .ok (.iload_n 2, 1) := by decide +kernel
theorem dX10_drains_15 : decode cX10_drains 15 = .ok (.iconst 1, 1) := by decide +kernel
theorem dX10_drains_16 : decode cX10_drains 16 = .ok (.bipush 9, 2) := by decide +kernel
theorem dX10_drains_18 : decode cX10_drains 18 = .ok (.invokestatic 63, 3) := by decide +kernel
theorem dX10_drains_21 : decode cX10_drains 21 = .ok (.ifCond .ne 9, 3) := by decide +kernel
theorem dX10_drains_24 : decode cX10_drains 24 = .ok (.aload_n 0, 1) := by decide +kernel
theorem dX10_drains_25 : decode cX10_drains 25 = .ok (.iconst 2, 1) := by decide +kernel
theorem dX10_drains_26 : decode cX10_drains 26 = .ok (.invokevirtual 71, 3) := by decide +kernel
theorem dX10_drains_29 : decode cX10_drains 29 = .ok (.ireturn, 1) := by decide +kernel
theorem dX10_drains_30 : decode cX10_drains 30 = .ok (.aload_n 0, 1) := by decide +kernel
theorem dX10_drains_31 : decode cX10_drains 31 = .ok (.getfield 16, 3) := by decide +kernel
theorem dX10_drains_34 : decode cX10_drains 34 = .ok (.iload_n 1, 1) := by decide +kernel
theorem dX10_drains_35 : decode cX10_drains 35 = .ok (.iconst 2, 1) := by decide +kernel
theorem dX10_drains_36 : decode cX10_drains 36 = .ok (.invokestatic 144, 3) := by decide +kernel
theorem dX10_drains_39 : decode cX10_drains 39 = .ok (.iaload, 1) := by decide +kernel
theorem dX10_drains_40 : decode cX10_drains 40 = .ok (.iload_n 2, 1) := by decide +kernel
theorem dX10_drains_41 : decode cX10_drains 41 = .ok (.if_icmp .ge 9, 3) := by decide +kernel
theorem dX10_drains_44 : decode cX10_drains 44 = .ok (.aload_n 0, 1) := by decide +kernel
theorem dX10_drains_45 : decode cX10_drains 45 = .ok (.iconst 3, 1) := by decide +kernel
theorem dX10_drains_46 : decode cX10_drains 46 = .ok (.invokevirtual 71, 3) := by decide +kernel
theorem dX10_drains_49 : decode cX10_drains 49 = .ok (.ireturn, 1) := by decide +kernel
theorem dX10_drains_50 : decode cX10_drains 50 = .ok (.iconst 0, 1) := by decide +kernel
theorem dX10_drains_51 : decode cX10_drains 51 = .ok (.istore_n 3, 1) := by decide +kernel
theorem dX10_drains_52 : decode cX10_drains 52 = .ok (.iconst 0, 1) := by decide +kernel
theorem dX10_drains_53 : decode cX10_drains 53 = .ok (.istore 4, 2) := by decide +kernel
theorem dX10_drains_55 : decode cX10_drains 55 = .ok (.iload 4, 2) := by decide +kernel
theorem dX10_drains_57 : decode cX10_drains 57 = .ok (.iload_n 2, 1) := by decide +kernel
theorem dX10_drains_58 : decode cX10_drains 58 = .ok (.if_icmp .ge 44, 3) := by decide +kernel
theorem dX10_drains_61 : decode cX10_drains 61 = .ok (.aload_n 0, 1) := by decide +kernel
theorem dX10_drains_62 : decode cX10_drains 62 = .ok (.getfield 16, 3) := by decide +kernel
theorem dX10_drains_65 : decode cX10_drains 65 = .ok (.iload_n 1, 1) := by decide +kernel
theorem dX10_drains_66 : decode cX10_drains 66 = .ok (.iconst 3, 1) := by decide +kernel
theorem dX10_drains_67 : decode cX10_drains 67 = .ok (.iload 4, 2) := by decide +kernel
theorem dX10_drains_69 : decode cX10_drains 69 = .ok (.iadd, 1) := by decide +kernel
theorem dX10_drains_70 : decode cX10_drains 70 = .ok (.invokestatic 144, 3) := by decide +kernel
theorem dX10_drains_73 : decode cX10_drains 73 = .ok (.iaload, 1) := by decide +kernel
theorem dX10_drains_74 : decode cX10_drains 74 = .ok (.iload_n 3, 1) := by decide +kernel
theorem dX10_drains_75 : decode cX10_drains 75 = .ok (.if_icmp .le 19, 3) := by decide +kernel
theorem dX10_drains_78 : decode cX10_drains 78 = .ok (.aload_n 0, 1) := by decide +kernel
theorem dX10_drains_79 : decode cX10_drains 79 = .ok (.getfield 16, 3) := by decide +kernel
theorem dX10_drains_82 : decode cX10_drains 82 = .ok (.iload_n 1, 1) := by decide +kernel
theorem dX10_drains_83 : decode cX10_drains 83 = .ok (.iconst 3, 1) := by decide +kernel
theorem dX10_drains_84 : decode cX10_drains 84 = .ok (.iload 4, 2) := by decide +kernel
theorem dX10_drains_86 : decode cX10_drains 86 = .ok (.iadd, 1) := by decide +kernel
theorem dX10_drains_87 : decode cX10_drains 87 = .ok (.invokestatic 144, 3) := by decide +kernel
theorem dX10_drains_90 : decode cX10_drains 90 = .ok (.iaload, 1) := by decide +kernel
theorem dX10_drains_91 : decode cX10_drains 91 = .ok (.goto 4, 3) := by decide +kernel
theorem dX10_drains_94 : decode cX10_drains 94 = .ok (.iload_n 3, 1) := by decide +kernel
theorem dX10_drains_95 : decode cX10_drains 95 = .ok (.istore_n 3, 1) := by decide +kernel
theorem dX10_drains_96 : decode cX10_drains 96 = .ok (.iinc 4 1, 3) := by decide +kernel
theorem dX10_drains_99 : decode cX10_drains 99 = .ok (.goto (-44), 3) := by decide +kernel
theorem dX10_drains_102 : decode cX10_drains 102 = .ok (.iconst 0, 1) := by decide +kernel
theorem dX10_drains_103 : decode cX10_drains 103 = .ok (.istore 4, 2) := by decide +kernel
theorem dX10_drains_105 : decode cX10_drains 105 = .ok (.iload 4, 2) := by decide +kernel
theorem dX10_drains_107 : decode cX10_drains 107 = .ok (.bipush 9, 2) := by decide +kernel
theorem dX10_drains_109 : decode cX10_drains 109 = .ok (.if_icmp .ge 50, 3) := by decide +kernel
theorem dX10_drains_112 : decode cX10_drains 112 = .ok (.aload_n 0, 1) := by decide +kernel
theorem dX10_drains_113 : decode cX10_drains 113 = .ok (.getfield 16, 3) := by decide +kernel
theorem dX10_drains_116 : decode cX10_drains 116 = .ok (.iload_n 1, 1) := by decide +kernel
theorem dX10_drains_117 : decode cX10_drains 117 = .ok (.iconst 3, 1) := by decide +kernel
theorem dX10_drains_118 : decode cX10_drains 118 = .ok (.iload 4, 2) := by decide +kernel
theorem dX10_drains_120 : decode cX10_drains 120 = .ok (.iadd, 1) := by decide +kernel
theorem dX10_drains_121 : decode cX10_drains 121 = .ok (.invokestatic 144, 3) := by decide +kernel
theorem dX10_drains_124 : decode cX10_drains 124 = .ok (.iload 4, 2) := by decide +kernel
theorem dX10_drains_126 : decode cX10_drains 126 = .ok (.iload_n 2, 1) := by decide +kernel
theorem dX10_drains_127 : decode cX10_drains 127 = .ok (.iadd, 1) := by decide +kernel
theorem dX10_drains_128 : decode cX10_drains 128 = .ok (.bipush 9, 2) := by decide +kernel
theorem dX10_drains_130 : decode cX10_drains 130 = .ok (.if_icmp .ge 21, 3) := by decide +kernel
theorem dX10_drains_133 : decode cX10_drains 133 = .ok (.aload_n 0, 1) := by decide +kernel
theorem dX10_drains_134 : decode cX10_drains 134 = .ok (.getfield 16, 3) := by decide +kernel
theorem dX10_drains_137 : decode cX10_drains 137 = .ok (.iload_n 1, 1) := by decide +kernel
theorem dX10_drains_138 : decode cX10_drains 138 = .ok (.iconst 3, 1) := by decide +kernel
theorem dX10_drains_139 : decode cX10_drains 139 = .ok (.iload 4, 2) := by decide +kernel
theorem dX10_drains_141 : decode cX10_drains 141 = .ok (.iadd, 1) := by decide +kernel
theorem dX10_drains_142 : decode cX10_drains 142 = .ok (.iload_n 2, 1) := by decide +kernel
theorem dX10_drains_143 : decode cX10_drains 143 = .ok (.iadd, 1) := by decide +kernel
theorem dX10_drains_144 : decode cX10_drains 144 = .ok (.invokestatic 144, 3) := by decide +kernel
theorem dX10_drains_147 : decode cX10_drains 147 = .ok (.iaload, 1) := by decide +kernel
theorem dX10_drains_148 : decode cX10_drains 148 = .ok (.goto 4, 3) := by decide +kernel
theorem dX10_drains_151 : decode cX10_drains 151 = .ok (.iconst 0, 1) := by decide +kernel
theorem dX10_drains_152 : decode cX10_drains 152 = .ok (.iastore, 1) := by decide +kernel
theorem dX10_drains_153 : decode cX10_drains 153 = .ok (.iinc 4 1, 3) := by decide +kernel
theorem dX10_drains_156 : decode cX10_drains 156 = .ok (.goto (-51), 3) := by decide +kernel
theorem dX10_drains_159 : decode cX10_drains 159 = .ok (.aload_n 0, 1) := by decide +kernel
theorem dX10_drains_160 : decode cX10_drains 160 = .ok (.getfield 16, 3) := by decide +kernel
theorem dX10_drains_163 : decode cX10_drains 163 = .ok (.iload_n 1, 1) := by decide +kernel
theorem dX10_drains_164 : decode cX10_drains 164 = .ok (.iconst 2, 1) := by decide +kernel
theorem dX10_drains_165 : decode cX10_drains 165 = .ok (.invokestatic 144, 3) := by decide +kernel
theorem dX10_drains_168 : decode cX10_drains 168 = .ok (.dup2, 1) := by decide +kernel
theorem dX10_drains_169 : decode cX10_drains 169 = .ok (.iaload, 1) := by decide +kernel
theorem dX10_drains_170 : decode cX10_drains 170 = .ok (.iload_n 2, 1) := by decide +kernel
theorem dX10_drains_171 : decode cX10_drains 171 = .ok (.isub, 1) := by decide +kernel
theorem dX10_drains_172 : decode cX10_drains 172 = .ok (.iastore, 1) := by decide +kernel
theorem dX10_drains_173 : decode cX10_drains 173 = .ok (.aload_n 0, 1) := by decide +kernel
theorem dX10_drains_174 : decode cX10_drains 174 = .ok (.getfield 16, 3) := by decide +kernel
theorem dX10_drains_177 : decode cX10_drains 177 = .ok (.iconst 4, 1) := by decide +kernel
theorem dX10_drains_178 : decode cX10_drains 178 = .ok (.dup2, 1) := by decide +kernel
theorem dX10_drains_179 : decode cX10_drains 179 = .ok (.iaload, 1) := by decide +kernel
theorem dX10_drains_180 : decode cX10_drains 180 = .ok (.iload_n 2, 1) := by decide +kernel
theorem dX10_drains_181 : decode cX10_drains 181 = .ok (.iadd, 1) := by decide +kernel
theorem dX10_drains_182 : decode cX10_drains 182 = .ok (.iastore, 1) := by decide +kernel
theorem dX10_drains_183 : decode cX10_drains 183 = .ok (.iload_n 3, 1) := by decide +kernel
theorem dX10_drains_184 : decode cX10_drains 184 = .ok (.ireturn, 1) := by decide +kernel
theorem dX10_drain_0 : decode cX10_drain 0 = .ok (.aload_n 0, 1) := by decide +kernel
theorem dX10_drain_1 : decode cX10_drain 1 = .ok (.invokevirtual 79, 3) := by decide +kernel
theorem dX10_drain_4 : decode cX10_drain 4 = .ok (.aload_n 0, 1) := by decide +kernel
theorem dX10_drain_5 : decode cX10_drain 5 = .ok (.aload_n 0, 1) := by decide +kernel
theorem dX10_drain_6 : decode cX10_drain 6 = .ok (.iload_n 1, 1) := by decide +kernel
theorem dX10_drain_7 : decode cX10_drain 7 = .ok (.iload_n 2, 1) := by decide +kernel
theorem dX10_drain_8 : decode cX10_drain 8 = .ok (.invokevirtual 168, 3) := by decide +kernel
theorem dX10_drain_11 : decode cX10_drain 11 = .ok (.invokevirtual 86, 3) := by decide +kernel
theorem dX10_drain_14 : decode cX10_drain 14 = .ok (.ireturn, 1) := by decide +kernel
theorem dX10_tankCount_0 : decode cX10_tankCount 0 = .ok (.aload_n 0, 1) := by decide +kernel
theorem dX10_tankCount_1 : decode cX10_tankCount 1 = .ok (.iconst 0, 1) := by decide +kernel
theorem dX10_tankCount_2 : decode cX10_tankCount 2 = .ok (.putfield 53, 3) := by decide +kernel
theorem dX10_tankCount_5 : decode cX10_tankCount 5 = .ok (.aload_n 0, 1) := by decide +kernel
theorem dX10_tankCount_6 : decode cX10_tankCount 6 = .ok (.getfield 16, 3) := by decide +kernel
theorem dX10_tankCount_9 : decode cX10_tankCount 9 = .ok (.iconst 1, 1) := by decide +kernel
theorem dX10_tankCount_10 : decode cX10_tankCount 10 = .ok (.iaload, 1) := by decide +kernel
theorem dX10_tankCount_11 : decode cX10_tankCount 11 = .ok (.ireturn, 1) := by decide +kernel
theorem dX10_tellsTank_0 : decode cX10_tellsTank 0 = .ok (.aload_n 0, 1) := by decide +kernel
theorem dX10_tellsTank_1 : decode cX10_tellsTank 1 = .ok (.aload_n 0, 1) := by decide +kernel
theorem dX10_tellsTank_2 : decode cX10_tellsTank 2 = .ok (.iload_n 1, 1) := by decide +kernel
theorem dX10_tellsTank_3 : decode cX10_tellsTank 3 = .ok (.invokevirtual 150, 3) := by decide +kernel
theorem dX10_tellsTank_6 : decode cX10_tellsTank 6 = .ok (.ifCond .eq 7, 3) := by decide +kernel
theorem dX10_tellsTank_9 : decode cX10_tellsTank 9 = .ok (.iconst 0, 1) := by decide +kernel
theorem dX10_tellsTank_10 : decode cX10_tellsTank 10 = .ok (.goto 4, 3) := by decide +kernel
theorem dX10_tellsTank_13 : decode cX10_tellsTank 13 = .ok (.iconst 1, 1) := by decide +kernel
theorem dX10_tellsTank_14 : decode cX10_tellsTank 14 = .ok (.putfield 53, 3) := by decide +kernel
theorem dX10_tellsTank_17 : decode cX10_tellsTank 17 = .ok (.aload_n 0, 1) := by decide +kernel
theorem dX10_tellsTank_18 : decode cX10_tellsTank 18 = .ok (.getfield 53, 3) := by decide +kernel
theorem dX10_tellsTank_21 : decode cX10_tellsTank 21 = .ok (.ifCond .ne 16, 3) := by decide +kernel
theorem dX10_tellsTank_24 : decode cX10_tellsTank 24 = .ok (.aload_n 0, 1) := by decide +kernel
theorem dX10_tellsTank_25 : decode cX10_tellsTank 25 = .ok (.getfield 16, 3) := by decide +kernel
theorem dX10_tellsTank_28 : decode cX10_tellsTank 28 = .ok (.iload_n 1, 1) := by decide +kernel
theorem dX10_tellsTank_29 : decode cX10_tellsTank 29 = .ok (.iload_n 2, 1) := by decide +kernel
theorem dX10_tellsTank_30 : decode cX10_tellsTank 30 = .ok (.invokestatic 144, 3) := by decide +kernel
theorem dX10_tellsTank_33 : decode cX10_tellsTank 33 = .ok (.iaload, 1) := by decide +kernel
theorem dX10_tellsTank_34 : decode cX10_tellsTank 34 = .ok (.goto 4, 3) := by decide +kernel
theorem dX10_tellsTank_37 : decode cX10_tellsTank 37 = .ok (.iconst 0, 1) := by decide +kernel
theorem dX10_tellsTank_38 : decode cX10_tellsTank 38 = .ok (.ireturn, 1) := by decide +kernel
theorem dX10_capacity_0 : decode cX10_capacity 0 = .ok (.aload_n 0, 1) := by decide +kernel
theorem dX10_capacity_1 : decode cX10_capacity 1 = .ok (.iload_n 1, 1) := by decide +kernel
theorem dX10_capacity_2 : decode cX10_capacity 2 = .ok (.iconst 0, 1) := by decide +kernel
theorem dX10_capacity_3 : decode cX10_capacity 3 = .ok (.invokevirtual 171, 3) := by decide +kernel
theorem dX10_capacity_6 : decode cX10_capacity 6 = .ok (.ireturn, 1) := by decide +kernel
theorem dX10_tuning_0 : decode cX10_tuning 0 = .ok (.aload_n 0, 1) := by decide +kernel
theorem dX10_tuning_1 : decode cX10_tuning 1 = .ok (.iload_n 1, 1) := by decide +kernel
theorem dX10_tuning_2 : decode cX10_tuning 2 = .ok (.iconst 1, 1) := by decide +kernel
theorem dX10_tuning_3 : decode cX10_tuning 3 = .ok (.invokevirtual 171, 3) := by decide +kernel
theorem dX10_tuning_6 : decode cX10_tuning 6 = .ok (.ireturn, 1) := by decide +kernel
theorem dX10_level_0 : decode cX10_level 0 = .ok (.aload_n 0, 1) := by decide +kernel
theorem dX10_level_1 : decode cX10_level 1 = .ok (.iload_n 1, 1) := by decide +kernel
theorem dX10_level_2 : decode cX10_level 2 = .ok (.iconst 2, 1) := by decide +kernel
theorem dX10_level_3 : decode cX10_level 3 = .ok (.invokevirtual 171, 3) := by decide +kernel
theorem dX10_level_6 : decode cX10_level 6 = .ok (.ireturn, 1) := by decide +kernel
theorem dX10_frameLoudness_0 : decode cX10_frameLoudness 0 = .ok (.aload_n 0, 1) := by decide +kernel
theorem dX10_frameLoudness_1 : decode cX10_frameLoudness 1 = .ok (.aload_n 0, 1) := by decide +kernel
theorem dX10_frameLoudness_2 : decode cX10_frameLoudness 2 = .ok (.iload_n 1, 1) := by decide +kernel
theorem dX10_frameLoudness_3 : decode cX10_frameLoudness 3 = .ok (.invokevirtual 150, 3) := by decide +kernel
theorem dX10_frameLoudness_6 : decode cX10_frameLoudness 6 = .ok (.ifCond .ne 7, 3) := by decide +kernel
theorem dX10_frameLoudness_9 : decode cX10_frameLoudness 9 = .ok (.iconst 1, 1) := by decide +kernel
theorem dX10_frameLoudness_10 : decode cX10_frameLoudness 10 = .ok (.goto 28, 3) := by decide +kernel
theorem dX10_frameLoudness_13 : decode cX10_frameLoudness 13 = .ok (.iload_n 2, 1) := by decide +kernel
theorem dX10_frameLoudness_14 : decode cX10_frameLoudness 14 = .ok (.iconst 0, 1) := by decide +kernel
theorem dX10_frameLoudness_15 : decode cX10_frameLoudness 15 = .ok (.aload_n 0, 1) := by decide +kernel
theorem dX10_frameLoudness_16 : decode cX10_frameLoudness 16 = .ok (.getfield 16, 3) := by decide +kernel
theorem dX10_frameLoudness_19 : decode cX10_frameLoudness 19 = .ok (.iload_n 1, 1) := by decide +kernel
theorem dX10_frameLoudness_20 : decode cX10_frameLoudness 20 = .ok (.iconst 2, 1) := by decide +kernel
theorem dX10_frameLoudness_21 : decode cX10_frameLoudness 21 = .ok (.invokestatic 144, 3) := by decide +kernel
theorem dX10_frameLoudness_24 : decode cX10_frameLoudness 24 = .ok (.iaload, 1) := by decide +kernel
theorem dX10_frameLoudness_25 : decode cX10_frameLoudness 25 = .ok (.iconst 1, 1) := by decide +kernel
theorem dX10_frameLoudness_26 : decode cX10_frameLoudness 26 = .ok (.isub, 1) := by decide +kernel
theorem dX10_frameLoudness_27 : decode cX10_frameLoudness 27 = .ok (.invokestatic 63, 3) := by decide +kernel
theorem dX10_frameLoudness_30 : decode cX10_frameLoudness 30 = .ok (.ifCond .eq 7, 3) := by decide +kernel
theorem dX10_frameLoudness_33 : decode cX10_frameLoudness 33 = .ok (.iconst 0, 1) := by decide +kernel
theorem dX10_frameLoudness_34 : decode cX10_frameLoudness 34 = .ok (.goto 4, 3) := by decide +kernel
theorem dX10_frameLoudness_37 : decode cX10_frameLoudness 37 = .ok (.iconst 2, 1) := by decide +kernel
theorem dX10_frameLoudness_38 : decode cX10_frameLoudness 38 = .ok (.putfield 53, 3) := by decide +kernel
theorem dX10_frameLoudness_41 : decode cX10_frameLoudness 41 = .ok (.aload_n 0, 1) := by decide +kernel
theorem dX10_frameLoudness_42 : decode cX10_frameLoudness 42 = .ok (.getfield 53, 3) := by decide +kernel
theorem dX10_frameLoudness_45 : decode cX10_frameLoudness 45 = .ok (.ifCond .ne 18, 3) := by decide +kernel
theorem dX10_frameLoudness_48 : decode cX10_frameLoudness 48 = .ok (.aload_n 0, 1) := by decide +kernel
theorem dX10_frameLoudness_49 : decode cX10_frameLoudness 49 = .ok (.getfield 16, 3) := by decide +kernel
theorem dX10_frameLoudness_52 : decode cX10_frameLoudness 52 = .ok (.iload_n 1, 1) := by decide +kernel
theorem dX10_frameLoudness_53 : decode cX10_frameLoudness 53 = .ok (.iconst 3, 1) := by decide +kernel
theorem dX10_frameLoudness_54 : decode cX10_frameLoudness 54 = .ok (.iload_n 2, 1) := by decide +kernel
theorem dX10_frameLoudness_55 : decode cX10_frameLoudness 55 = .ok (.iadd, 1) := by decide +kernel
theorem dX10_frameLoudness_56 : decode cX10_frameLoudness 56 = .ok (.invokestatic 144, 3) := by decide +kernel
theorem dX10_frameLoudness_59 : decode cX10_frameLoudness 59 = .ok (.iaload, 1) := by decide +kernel
theorem dX10_frameLoudness_60 : decode cX10_frameLoudness 60 = .ok (.goto 4, 3) := by decide +kernel
theorem dX10_frameLoudness_63 : decode cX10_frameLoudness 63 = .ok (.iconst 0, 1) := by decide +kernel
theorem dX10_frameLoudness_64 : decode cX10_frameLoudness 64 = .ok (.ireturn, 1) := by decide +kernel
theorem dX10_frameCount_0 : decode cX10_frameCount 0 = .ok (.aload_n 0, 1) := by decide +kernel
theorem dX10_frameCount_1 : decode cX10_frameCount 1 = .ok (.iload_n 1, 1) := by decide +kernel
theorem dX10_frameCount_2 : decode cX10_frameCount 2 = .ok (.bipush 25, 2) := by decide +kernel
theorem dX10_frameCount_4 : decode cX10_frameCount 4 = .ok (.invokevirtual 115, 3) := by decide +kernel
theorem dX10_frameCount_7 : decode cX10_frameCount 7 = .ok (.bipush 8, 2) := by decide +kernel
theorem dX10_frameCount_9 : decode cX10_frameCount 9 = .ok (.iadd, 1) := by decide +kernel
theorem dX10_frameCount_10 : decode cX10_frameCount 10 = .ok (.iconst 1, 1) := by decide +kernel
theorem dX10_frameCount_11 : decode cX10_frameCount 11 = .ok (.isub, 1) := by decide +kernel
theorem dX10_frameCount_12 : decode cX10_frameCount 12 = .ok (.bipush 8, 2) := by decide +kernel
theorem dX10_frameCount_14 : decode cX10_frameCount 14 = .ok (.idiv, 1) := by decide +kernel
theorem dX10_frameCount_15 : decode cX10_frameCount 15 = .ok (.ireturn, 1) := by decide +kernel
theorem dX10_dropsFor_0 : decode cX10_dropsFor 0 = .ok (.aload_n 0, 1) := by decide +kernel
theorem dX10_dropsFor_1 : decode cX10_dropsFor 1 = .ok (.iload_n 1, 1) := by decide +kernel
theorem dX10_dropsFor_2 : decode cX10_dropsFor 2 = .ok (.invokestatic 105, 3) := by decide +kernel
theorem dX10_dropsFor_5 : decode cX10_dropsFor 5 = .ok (.ifCond .eq 7, 3) := by decide +kernel
theorem dX10_dropsFor_8 : decode cX10_dropsFor 8 = .ok (.iconst 0, 1) := by decide +kernel
theorem dX10_dropsFor_9 : decode cX10_dropsFor 9 = .ok (.goto 4, 3) := by decide +kernel
theorem dX10_dropsFor_12 : decode cX10_dropsFor 12 = .ok (.iconst 1, 1) := by decide +kernel
theorem dX10_dropsFor_13 : decode cX10_dropsFor 13 = .ok (.putfield 53, 3) := by decide +kernel
theorem dX10_dropsFor_16 : decode cX10_dropsFor 16 = .ok (.aload_n 0, 1) := by decide +kernel
theorem dX10_dropsFor_17 : decode cX10_dropsFor 17 = .ok (.getfield 53, 3) := by decide +kernel
theorem dX10_dropsFor_20 : decode cX10_dropsFor 20 = .ok (.ifCond .eq 5, 3) := by decide +kernel
theorem dX10_dropsFor_23 : decode cX10_dropsFor 23 = .ok (.iconst 0, 1) := by decide +kernel
theorem dX10_dropsFor_24 : decode cX10_dropsFor 24 = .ok (.ireturn, 1) := by decide +kernel
theorem dX10_dropsFor_25 : decode cX10_dropsFor 25 = .ok (.aload_n 0, 1) := by decide +kernel
theorem dX10_dropsFor_26 : decode cX10_dropsFor 26 = .ok (.getfield 26, 3) := by decide +kernel
theorem dX10_dropsFor_29 : decode cX10_dropsFor 29 = .ok (.aload_n 0, 1) := by decide +kernel
theorem dX10_dropsFor_30 : decode cX10_dropsFor 30 = .ok (.getfield 16, 3) := by decide +kernel
theorem dX10_dropsFor_33 : decode cX10_dropsFor 33 = .ok (.invokestatic 56, 3) := by decide +kernel
theorem dX10_dropsFor_36 : decode cX10_dropsFor 36 = .ok (.aload_n 0, 1) := by decide +kernel
theorem dX10_dropsFor_37 : decode cX10_dropsFor 37 = .ok (.iload_n 1, 1) := by decide +kernel
theorem dX10_dropsFor_38 : decode cX10_dropsFor 38 = .ok (.invokevirtual 162, 3) := by decide +kernel
theorem dX10_dropsFor_41 : decode cX10_dropsFor 41 = .ok (.istore_n 2, 1) := by decide +kernel
theorem dX10_dropsFor_42 : decode cX10_dropsFor 42 = .ok (.aload_n 0, 1) := by decide +kernel
theorem dX10_dropsFor_43 : decode cX10_dropsFor 43 = .ok (.getfield 16, 3) := by decide +kernel
theorem dX10_dropsFor_46 : decode cX10_dropsFor 46 = .ok (.bipush 25, 2) := by decide +kernel
theorem dX10_dropsFor_48 : decode cX10_dropsFor 48 = .ok (.iload_n 1, 1) := by decide +kernel
theorem dX10_dropsFor_49 : decode cX10_dropsFor 49 = .ok (.iadd, 1) := by decide +kernel
theorem dX10_dropsFor_50 : decode cX10_dropsFor 50 = .ok (.iaload, 1) := by decide +kernel
theorem dX10_dropsFor_51 : decode cX10_dropsFor 51 = .ok (.bipush 8, 2) := by decide +kernel
theorem dX10_dropsFor_53 : decode cX10_dropsFor 53 = .ok (.iadd, 1) := by decide +kernel
theorem dX10_dropsFor_54 : decode cX10_dropsFor 54 = .ok (.iconst 1, 1) := by decide +kernel
theorem dX10_dropsFor_55 : decode cX10_dropsFor 55 = .ok (.isub, 1) := by decide +kernel
theorem dX10_dropsFor_56 : decode cX10_dropsFor 56 = .ok (.bipush 8, 2) := by decide +kernel
theorem dX10_dropsFor_58 : decode cX10_dropsFor 58 = .ok (.idiv, 1) := by decide +kernel
theorem dX10_dropsFor_59 : decode cX10_dropsFor 59 = .ok (.istore_n 3, 1) := by decide +kernel
theorem dX10_dropsFor_60 : decode cX10_dropsFor 60 = .ok (.aload_n 0, 1) := by decide +kernel
theorem dX10_dropsFor_61 : decode cX10_dropsFor 61 = .ok (.getfield 16, 3) := by decide +kernel
theorem dX10_dropsFor_64 : decode cX10_dropsFor 64 = .ok (.aload_n 0, 1) := by decide +kernel
theorem dX10_dropsFor_65 : decode cX10_dropsFor 65 = .ok (.getfield 26, 3) := by decide +kernel
theorem dX10_dropsFor_68 : decode cX10_dropsFor 68 = .ok (.invokestatic 56, 3) := by decide +kernel
theorem dX10_dropsFor_71 : decode cX10_dropsFor 71 = .ok (.iload_n 3, 1) := by decide +kernel
theorem dX10_dropsFor_72 : decode cX10_dropsFor 72 = .ok (.iload_n 2, 1) := by decide +kernel
theorem dX10_dropsFor_73 : decode cX10_dropsFor 73 = .ok (.isub, 1) := by decide +kernel
theorem dX10_dropsFor_74 : decode cX10_dropsFor 74 = .ok (.ireturn, 1) := by decide +kernel
theorem dX10_dropsByLevels_0 : decode cX10_dropsByLevels 0 = .ok (.aload_n 0, 1) := by decide +kernel
theorem dX10_dropsByLevels_1 : decode cX10_dropsByLevels 1 = .ok (.iload_n 1, 1) := by decide +kernel
theorem dX10_dropsByLevels_2 : decode cX10_dropsByLevels 2 = .ok (.invokevirtual 174, 3) := by decide +kernel
theorem dX10_dropsByLevels_5 : decode cX10_dropsByLevels 5 = .ok (.ireturn, 1) := by decide +kernel
theorem dX10_tankAtRank_0 : decode cX10_tankAtRank 0 = .ok (.aload_n 0, 1) := by decide +kernel
theorem dX10_tankAtRank_1 : decode cX10_tankAtRank 1 = .ok (.iconst 0, 1) := by decide +kernel
theorem dX10_tankAtRank_2 : decode cX10_tankAtRank 2 = .ok (.putfield 53, 3) := by decide +kernel
theorem dX10_tankAtRank_5 : decode cX10_tankAtRank 5 = .ok (.iconst 0, 1) := by decide +kernel
theorem dX10_tankAtRank_6 : decode cX10_tankAtRank 6 = .ok (.istore_n 2, 1) := by decide +kernel
theorem dX10_tankAtRank_7 : decode cX10_tankAtRank 7 = .ok (.iload_n 2, 1) := by decide +kernel
theorem dX10_tankAtRank_8 : decode cX10_tankAtRank 8 = .ok (.aload_n 0, 1) := by decide +kernel
theorem dX10_tankAtRank_9 : decode cX10_tankAtRank 9 = .ok (.getfield 16, 3) := by decide +kernel
theorem dX10_tankAtRank_12 : decode cX10_tankAtRank 12 = .ok (.iconst 1, 1) := by decide +kernel
theorem dX10_tankAtRank_13 : decode cX10_tankAtRank 13 = .ok (.iaload, 1) := by decide +kernel
theorem dX10_tankAtRank_14 : decode cX10_tankAtRank 14 = .ok (.if_icmp .ge 120, 3) := by decide +kernel
theorem dX10_tankAtRank_17 : decode cX10_tankAtRank 17 = .ok (.iconst 0, 1) := by decide +kernel
theorem dX10_tankAtRank_18 : decode cX10_tankAtRank 18 = .ok (.istore_n 3, 1) := by decide +kernel
theorem dX10_tankAtRank_19 : decode cX10_tankAtRank 19 = .ok (.iconst 0, 1) := by decide +kernel
theorem dX10_tankAtRank_20 : decode cX10_tankAtRank 20 = .ok (.istore 4, 2) := by decide +kernel
theorem dX10_tankAtRank_22 : decode cX10_tankAtRank 22 = .ok (.iload 4, 2) := by decide +kernel
theorem dX10_tankAtRank_24 : decode cX10_tankAtRank 24 = .ok (.aload_n 0, 1) := by decide +kernel
theorem dX10_tankAtRank_25 : decode cX10_tankAtRank 25 = .ok (.getfield 16, 3) := by decide +kernel
theorem dX10_tankAtRank_28 : decode cX10_tankAtRank 28 = .ok (.iconst 1, 1) := by decide +kernel
theorem dX10_tankAtRank_29 : decode cX10_tankAtRank 29 = .ok (.iaload, 1) := by decide +kernel
theorem dX10_tankAtRank_30 : decode cX10_tankAtRank 30 = .ok (.if_icmp .ge 91, 3) := by decide +kernel
theorem dX10_tankAtRank_33 : decode cX10_tankAtRank 33 = .ok (.aload_n 0, 1) := by decide +kernel
theorem dX10_tankAtRank_34 : decode cX10_tankAtRank 34 = .ok (.getfield 16, 3) := by decide +kernel
theorem dX10_tankAtRank_37 : decode cX10_tankAtRank 37 = .ok (.iload 4, 2) := by decide +kernel
theorem dX10_tankAtRank_39 : decode cX10_tankAtRank 39 = .ok (.iconst 2, 1) := by decide +kernel
theorem dX10_tankAtRank_40 : decode cX10_tankAtRank 40 = .ok (.invokestatic 144, 3) := by decide +kernel
theorem dX10_tankAtRank_43 : decode cX10_tankAtRank 43 = .ok (.iaload, 1) := by decide +kernel
theorem dX10_tankAtRank_44 : decode cX10_tankAtRank 44 = .ok (.aload_n 0, 1) := by decide +kernel
theorem dX10_tankAtRank_45 : decode cX10_tankAtRank 45 = .ok (.getfield 16, 3) := by decide +kernel
theorem dX10_tankAtRank_48 : decode cX10_tankAtRank 48 = .ok (.iload_n 2, 1) := by decide +kernel
theorem dX10_tankAtRank_49 : decode cX10_tankAtRank 49 = .ok (.iconst 2, 1) := by decide +kernel
theorem dX10_tankAtRank_50 : decode cX10_tankAtRank 50 = .ok (.invokestatic 144, 3) := by decide +kernel
theorem dX10_tankAtRank_53 : decode cX10_tankAtRank 53 = .ok (.iaload, 1) := by decide +kernel
theorem dX10_tankAtRank_54 : decode cX10_tankAtRank 54 = .ok (.isub, 1) := by decide +kernel
theorem dX10_tankAtRank_55 : decode cX10_tankAtRank 55 = .ok (.istore 5, 2) := by decide +kernel
theorem dX10_tankAtRank_57 : decode cX10_tankAtRank 57 = .ok (.iload 5, 2) := by decide +kernel
theorem dX10_tankAtRank_59 : decode cX10_tankAtRank 59 = .ok (.ifCond .eq 8, 3) := by decide +kernel
theorem dX10_tankAtRank_62 : decode cX10_tankAtRank 62 = .ok (.iload 5, 2) := by decide +kernel
theorem dX10_tankAtRank_64 : decode cX10_tankAtRank 64 = .ok (.goto 25, 3) := by decide +kernel
theorem dX10_tankAtRank_67 : decode cX10_tankAtRank 67 = .ok (.aload_n 0, 1) := by decide +kernel
theorem dX10_tankAtRank_68 : decode cX10_tankAtRank 68 = .ok (.getfield 16, 3) := by decide +kernel
theorem dX10_tankAtRank_71 : decode cX10_tankAtRank 71 = .ok (.iload_n 2, 1) := by decide +kernel
theorem dX10_tankAtRank_72 : decode cX10_tankAtRank 72 = .ok (.iconst 0, 1) := by decide +kernel
theorem dX10_tankAtRank_73 : decode cX10_tankAtRank 73 = .ok (.invokestatic 144, 3) := by decide +kernel
theorem dX10_tankAtRank_76 : decode cX10_tankAtRank 76 = .ok (.iaload, 1) := by decide +kernel
theorem dX10_tankAtRank_77 : decode cX10_tankAtRank 77 = .ok (.aload_n 0, 1) := by decide +kernel
theorem dX10_tankAtRank_78 : decode cX10_tankAtRank 78 = .ok (.getfield 16, 3) := by decide +kernel
theorem dX10_tankAtRank_81 : decode cX10_tankAtRank 81 = .ok (.iload 4, 2) := by decide +kernel
theorem dX10_tankAtRank_83 : decode cX10_tankAtRank 83 = .ok (.iconst 0, 1) := by decide +kernel
theorem dX10_tankAtRank_84 : decode cX10_tankAtRank 84 = .ok (.invokestatic 144, 3) := by decide +kernel
theorem dX10_tankAtRank_87 : decode cX10_tankAtRank 87 = .ok (.iaload, 1) := by decide +kernel
theorem dX10_tankAtRank_88 : decode cX10_tankAtRank 88 = .ok (.isub, 1) := by decide +kernel
theorem dX10_tankAtRank_89 : decode cX10_tankAtRank 89 = .ok (.istore 5, 2) := by decide +kernel
theorem dX10_tankAtRank_91 : decode cX10_tankAtRank 91 = .ok (.iload_n 3, 1) := by decide +kernel
theorem dX10_tankAtRank_92 : decode cX10_tankAtRank 92 = .ok (.iload 5, 2) := by decide +kernel
theorem dX10_tankAtRank_94 : decode cX10_tankAtRank 94 = .ok (.ifCond .gt 14, 3) := by decide +kernel
theorem dX10_tankAtRank_97 : decode cX10_tankAtRank 97 = .ok (.iload 5, 2) := by decide +kernel
theorem dX10_tankAtRank_99 : decode cX10_tankAtRank 99 = .ok (.ifCond .ne 13, 3) := by decide +kernel
theorem dX10_tankAtRank_102 : decode cX10_tankAtRank 102 = .ok (.iload 4, 2) := by decide +kernel
theorem dX10_tankAtRank_104 : decode cX10_tankAtRank 104 = .ok (.iload_n 2, 1) := by decide +kernel
theorem dX10_tankAtRank_105 : decode cX10_tankAtRank 105 = .ok (.if_icmp .ge 7, 3) := by decide +kernel
theorem dX10_tankAtRank_108 : decode cX10_tankAtRank 108 = .ok (.iconst 1, 1) := by decide +kernel
theorem dX10_tankAtRank_109 : decode cX10_tankAtRank 109 = .ok (.goto 4, 3) := by decide +kernel
theorem dX10_tankAtRank_112 : decode cX10_tankAtRank 112 = .ok (.iconst 0, 1) := by decide +kernel
theorem dX10_tankAtRank_113 : decode cX10_tankAtRank 113 = .ok (.iadd, 1) := by decide +kernel
theorem dX10_tankAtRank_114 : decode cX10_tankAtRank 114 = .ok (.istore_n 3, 1) := by decide +kernel
theorem dX10_tankAtRank_115 : decode cX10_tankAtRank 115 = .ok (.iinc 4 1, 3) := by decide +kernel
theorem dX10_tankAtRank_118 : decode cX10_tankAtRank 118 = .ok (.goto (-96), 3) := by decide +kernel
theorem dX10_tankAtRank_121 : decode cX10_tankAtRank 121 = .ok (.iload_n 3, 1) := by decide +kernel
theorem dX10_tankAtRank_122 : decode cX10_tankAtRank 122 = .ok (.iload_n 1, 1) := by decide +kernel
theorem dX10_tankAtRank_123 : decode cX10_tankAtRank 123 = .ok (.if_icmp .ne 5, 3) := by decide +kernel
theorem dX10_tankAtRank_126 : decode cX10_tankAtRank 126 = .ok (.iload_n 2, 1) := by decide +kernel
theorem dX10_tankAtRank_127 : decode cX10_tankAtRank 127 = .ok (.ireturn, 1) := by decide +kernel
theorem dX10_tankAtRank_128 : decode cX10_tankAtRank 128 = .ok (.iinc 2 1, 3) := by decide +kernel
theorem dX10_tankAtRank_131 : decode cX10_tankAtRank 131 = .ok (.goto (-124), 3) := by decide +kernel
theorem dX10_tankAtRank_134 : decode cX10_tankAtRank 134 = .ok (.aload_n 0, 1) := by decide +kernel
theorem dX10_tankAtRank_135 : decode cX10_tankAtRank 135 = .ok (.iconst 1, 1) := by decide +kernel
theorem dX10_tankAtRank_136 : decode cX10_tankAtRank 136 = .ok (.invokevirtual 71, 3) := by decide +kernel
theorem dX10_tankAtRank_139 : decode cX10_tankAtRank 139 = .ok (.ireturn, 1) := by decide +kernel
theorem dX10_storedTotal_0 : decode cX10_storedTotal 0 = .ok (.aload_n 0, 1) := by decide +kernel
theorem dX10_storedTotal_1 : decode cX10_storedTotal 1 = .ok (.iconst 0, 1) := by decide +kernel
theorem dX10_storedTotal_2 : decode cX10_storedTotal 2 = .ok (.putfield 53, 3) := by decide +kernel
theorem dX10_storedTotal_5 : decode cX10_storedTotal 5 = .ok (.aload_n 0, 1) := by decide +kernel
theorem dX10_storedTotal_6 : decode cX10_storedTotal 6 = .ok (.getfield 16, 3) := by decide +kernel
theorem dX10_storedTotal_9 : decode cX10_storedTotal 9 = .ok (.iconst 2, 1) := by decide +kernel
theorem dX10_storedTotal_10 : decode cX10_storedTotal 10 = .ok (.iaload, 1) := by decide +kernel
theorem dX10_storedTotal_11 : decode cX10_storedTotal 11 = .ok (.ireturn, 1) := by decide +kernel
theorem dX10_droppedTotal_0 : decode cX10_droppedTotal 0 = .ok (.aload_n 0, 1) := by decide +kernel
theorem dX10_droppedTotal_1 : decode cX10_droppedTotal 1 = .ok (.iconst 0, 1) := by decide +kernel
theorem dX10_droppedTotal_2 : decode cX10_droppedTotal 2 = .ok (.putfield 53, 3) := by decide +kernel
theorem dX10_droppedTotal_5 : decode cX10_droppedTotal 5 = .ok (.aload_n 0, 1) := by decide +kernel
theorem dX10_droppedTotal_6 : decode cX10_droppedTotal 6 = .ok (.getfield 16, 3) := by decide +kernel
theorem dX10_droppedTotal_9 : decode cX10_droppedTotal 9 = .ok (.iconst 3, 1) := by decide +kernel
theorem dX10_droppedTotal_10 : decode cX10_droppedTotal 10 = .ok (.iaload, 1) := by decide +kernel
theorem dX10_droppedTotal_11 : decode cX10_droppedTotal 11 = .ok (.ireturn, 1) := by decide +kernel
theorem dX10_drainedTotal_0 : decode cX10_drainedTotal 0 = .ok (.aload_n 0, 1) := by decide +kernel
theorem dX10_drainedTotal_1 : decode cX10_drainedTotal 1 = .ok (.iconst 0, 1) := by decide +kernel
theorem dX10_drainedTotal_2 : decode cX10_drainedTotal 2 = .ok (.putfield 53, 3) := by decide +kernel
theorem dX10_drainedTotal_5 : decode cX10_drainedTotal 5 = .ok (.aload_n 0, 1) := by decide +kernel
theorem dX10_drainedTotal_6 : decode cX10_drainedTotal 6 = .ok (.getfield 16, 3) := by decide +kernel
theorem dX10_drainedTotal_9 : decode cX10_drainedTotal 9 = .ok (.iconst 4, 1) := by decide +kernel
theorem dX10_drainedTotal_10 : decode cX10_drainedTotal 10 = .ok (.iaload, 1) := by decide +kernel
theorem dX10_drainedTotal_11 : decode cX10_drainedTotal 11 = .ok (.ireturn, 1) := by decide +kernel
theorem dX10_append_0 : decode cX10_append 0 = .ok (.aload_n 0, 1) := by decide +kernel
theorem dX10_append_1 : decode cX10_append 1 = .ok (.iload_n 1, 1) := by decide +kernel
theorem dX10_append_2 : decode cX10_append 2 = .ok (.bipush 32, 2) := by decide +kernel
theorem dX10_append_4 : decode cX10_append 4 = .ok (.bipush 126, 2) := by decide +kernel
theorem dX10_append_6 : decode cX10_append 6 = .ok (.invokestatic 63, 3) := by decide +kernel
theorem dX10_append_9 : decode cX10_append 9 = .ok (.ifCond .ne 7, 3) := by decide +kernel
theorem dX10_append_12 : decode cX10_append 12 = .ok (.iconst 1, 1) := by decide +kernel
theorem dX10_append_13 : decode cX10_append 13 = .ok (.goto 17, 3) := by decide +kernel
theorem dX10_append_16 : decode cX10_append 16 = .ok (.aload_n 0, 1) := by decide +kernel
theorem dX10_append_17 : decode cX10_append 17 = .ok (.getfield 177, 3) := by decide +kernel
theorem dX10_append_20 : decode cX10_append 20 = .ok (.bipush 60, 2) := by decide +kernel
theorem dX10_append_22 : decode cX10_append 22 = .ok (.if_icmp .ne 7, 3) := by decide +kernel
theorem dX10_append_25 : decode cX10_append 25 = .ok (.iconst 2, 1) := by decide +kernel
theorem dX10_append_26 : decode cX10_append 26 = .ok (.goto 4, 3) := by decide +kernel
theorem dX10_append_29 : decode cX10_append 29 = .ok (.iconst 0, 1) := by decide +kernel
theorem dX10_append_30 : decode cX10_append 30 = .ok (.putfield 53, 3) := by decide +kernel
theorem dX10_append_33 : decode cX10_append 33 = .ok (.aload_n 0, 1) := by decide +kernel
theorem dX10_append_34 : decode cX10_append 34 = .ok (.getfield 53, 3) := by decide +kernel
theorem dX10_append_37 : decode cX10_append 37 = .ok (.ifCond .eq 5, 3) := by decide +kernel
theorem dX10_append_40 : decode cX10_append 40 = .ok (.iconst 0, 1) := by decide +kernel
theorem dX10_append_41 : decode cX10_append 41 = .ok (.ireturn, 1) := by decide +kernel
theorem dX10_append_42 : decode cX10_append 42 = .ok (.aload_n 0, 1) := by decide +kernel
theorem dX10_append_43 : decode cX10_append 43 = .ok (.getfield 38, 3) := by decide +kernel
theorem dX10_append_46 : decode cX10_append 46 = .ok (.aload_n 0, 1) := by decide +kernel
theorem dX10_append_47 : decode cX10_append 47 = .ok (.getfield 177, 3) := by decide +kernel
theorem dX10_append_50 : decode cX10_append 50 = .ok (.iload_n 1, 1) := by decide +kernel
theorem dX10_append_51 : decode cX10_append 51 = .ok (.iastore, 1) := by decide +kernel
theorem dX10_append_52 : decode cX10_append 52 = .ok (.aload_n 0, 1) := by decide +kernel
theorem dX10_append_53 : decode cX10_append 53 = .ok (.dup, 1) := by decide +kernel
theorem dX10_append_54 : decode cX10_append 54 = .ok (.getfield 177, 3) := by decide +kernel
theorem dX10_append_57 : decode cX10_append 57 = .ok (.iconst 1, 1) := by decide +kernel
theorem dX10_append_58 : decode cX10_append 58 = .ok (.iadd, 1) := by decide +kernel
theorem dX10_append_59 : decode cX10_append 59 = .ok (.putfield 177, 3) := by decide +kernel
theorem dX10_append_62 : decode cX10_append 62 = .ok (.aload_n 0, 1) := by decide +kernel
theorem dX10_append_63 : decode cX10_append 63 = .ok (.getfield 177, 3) := by decide +kernel
theorem dX10_append_66 : decode cX10_append 66 = .ok (.ireturn, 1) := by decide +kernel
theorem dX10_sign_0 : decode cX10_sign 0 = .ok (.aload_n 0, 1) := by decide +kernel
theorem dX10_sign_1 : decode cX10_sign 1 = .ok (.getfield 180, 3) := by decide +kernel
theorem dX10_sign_4 : decode cX10_sign 4 = .ok (.aload_n 0, 1) := by decide +kernel
theorem dX10_sign_5 : decode cX10_sign 5 = .ok (.getfield 183, 3) := by decide +kernel
theorem dX10_sign_8 : decode cX10_sign 8 = .ok (.if_icmp .ge 15, 3) := by decide +kernel
theorem dX10_sign_11 : decode cX10_sign 11 = .ok (.aload_n 0, 1) := by decide +kernel
theorem dX10_sign_12 : decode cX10_sign 12 = .ok (.getfield 38, 3) := by decide +kernel
theorem dX10_sign_15 : decode cX10_sign 15 = .ok (.aload_n 0, 1) := by decide +kernel
theorem dX10_sign_16 : decode cX10_sign 16 = .ok (.getfield 180, 3) := by decide +kernel
theorem dX10_sign_19 : decode cX10_sign 19 = .ok (.iaload, 1) := by decide +kernel
theorem dX10_sign_20 : decode cX10_sign 20 = .ok (.goto 4, 3) := by decide +kernel
theorem dX10_sign_23 : decode cX10_sign 23 = .ok (.iconst (-1), 1) := by decide +kernel
theorem dX10_sign_24 : decode cX10_sign 24 = .ok (.ireturn, 1) := by decide +kernel
theorem dX10_mark_0 : decode cX10_mark 0 = .ok (.aload_n 0, 1) := by decide +kernel
theorem dX10_mark_1 : decode cX10_mark 1 = .ok (.getfield 186, 3) := by decide +kernel
theorem dX10_mark_4 : decode cX10_mark 4 = .ok (.ifCond .eq 4, 3) := by decide +kernel
theorem dX10_mark_7 : decode cX10_mark 7 = .ok (.return_, 1) := by decide +kernel
theorem dX10_mark_8 : decode cX10_mark 8 = .ok (.aload_n 0, 1) := by decide +kernel
theorem dX10_mark_9 : decode cX10_mark 9 = .ok (.aload_n 0, 1) := by decide +kernel
theorem dX10_mark_10 : decode cX10_mark 10 = .ok (.invokevirtual 190, 3) := by decide +kernel
theorem dX10_mark_13 : decode cX10_mark 13 = .ok (.iload_n 1, 1) := by decide +kernel
theorem dX10_mark_14 : decode cX10_mark 14 = .ok (.if_icmp .eq 7, 3) := by decide +kernel
theorem dX10_mark_17 : decode cX10_mark 17 = .ok (.iconst 1, 1) := by decide +kernel
theorem dX10_mark_18 : decode cX10_mark 18 = .ok (.goto 4, 3) := by decide +kernel
theorem dX10_mark_21 : decode cX10_mark 21 = .ok (.iconst 0, 1) := by decide +kernel
theorem dX10_mark_22 : decode cX10_mark 22 = .ok (.putfield 186, 3) := by decide +kernel
theorem dX10_mark_25 : decode cX10_mark 25 = .ok (.aload_n 0, 1) := by decide +kernel
theorem dX10_mark_26 : decode cX10_mark 26 = .ok (.dup, 1) := by decide +kernel
theorem dX10_mark_27 : decode cX10_mark 27 = .ok (.getfield 180, 3) := by decide +kernel
theorem dX10_mark_30 : decode cX10_mark 30 = .ok (.aload_n 0, 1) := by decide +kernel
theorem dX10_mark_31 : decode cX10_mark 31 = .ok (.getfield 186, 3) := by decide +kernel
theorem dX10_mark_34 : decode cX10_mark 34 = .ok (.ifCond .eq 7, 3) := by decide +kernel
theorem dX10_mark_37 : decode cX10_mark 37 = .ok (.iconst 0, 1) := by decide +kernel
theorem dX10_mark_38 : decode cX10_mark 38 = .ok (.goto 4, 3) := by decide +kernel
theorem dX10_mark_41 : decode cX10_mark 41 = .ok (.iconst 1, 1) := by decide +kernel
theorem dX10_mark_42 : decode cX10_mark 42 = .ok (.iadd, 1) := by decide +kernel
theorem dX10_mark_43 : decode cX10_mark 43 = .ok (.putfield 180, 3) := by decide +kernel
theorem dX10_mark_46 : decode cX10_mark 46 = .ok (.return_, 1) := by decide +kernel
theorem dX10_digits_0 : decode cX10_digits 0 = .ok (.iconst 0, 1) := by decide +kernel
theorem dX10_digits_1 : decode cX10_digits 1 = .ok (.istore_n 2, 1) := by decide +kernel
theorem dX10_digits_2 : decode cX10_digits 2 = .ok (.iconst 0, 1) := by decide +kernel
theorem dX10_digits_3 : decode cX10_digits 3 = .ok (.istore_n 3, 1) := by decide +kernel
theorem dX10_digits_4 : decode cX10_digits 4 = .ok (.aload_n 0, 1) := by decide +kernel
theorem dX10_digits_5 : decode cX10_digits 5 = .ok (.getfield 186, 3) := by decide +kernel
theorem dX10_digits_8 : decode cX10_digits 8 = .ok (.ifCond .ne 51, 3) := by decide +kernel
theorem dX10_digits_11 : decode cX10_digits 11 = .ok (.iload_n 3, 1) := by decide +kernel
theorem dX10_digits_12 : decode cX10_digits 12 = .ok (.iload_n 1, 1) := by decide +kernel
theorem dX10_digits_13 : decode cX10_digits 13 = .ok (.if_icmp .ge 46, 3) := by decide +kernel
theorem dX10_digits_16 : decode cX10_digits 16 = .ok (.aload_n 0, 1) := by decide +kernel
theorem dX10_digits_17 : decode cX10_digits 17 = .ok (.invokevirtual 190, 3) := by decide +kernel
theorem dX10_digits_20 : decode cX10_digits 20 = .ok (.bipush 48, 2) := by decide +kernel
theorem dX10_digits_22 : decode cX10_digits 22 = .ok (.bipush 57, 2) := by decide +kernel
theorem dX10_digits_24 : decode cX10_digits 24 = .ok (.invokestatic 63, 3) := by decide +kernel
theorem dX10_digits_27 : decode cX10_digits 27 = .ok (.ifCond .eq 32, 3) := by decide +kernel
theorem dX10_digits_30 : decode cX10_digits 30 = .ok (.bipush 10, 2) := by decide +kernel
theorem dX10_digits_32 : decode cX10_digits 32 = .ok (.iload_n 2, 1) := by decide +kernel
theorem dX10_digits_33 : decode cX10_digits 33 = .ok (.imul, 1) := by decide +kernel
theorem dX10_digits_34 : decode cX10_digits 34 = .ok (.aload_n 0, 1) := by decide +kernel
theorem dX10_digits_35 : decode cX10_digits 35 = .ok (.invokevirtual 190, 3) := by decide +kernel
theorem dX10_digits_38 : decode cX10_digits 38 = .ok (.iadd, 1) := by decide +kernel
theorem dX10_digits_39 : decode cX10_digits 39 = .ok (.bipush 48, 2) := by decide +kernel
theorem dX10_digits_41 : decode cX10_digits 41 = .ok (.isub, 1) := by decide +kernel
theorem dX10_digits_42 : decode cX10_digits 42 = .ok (.istore_n 2, 1) := by decide +kernel
theorem dX10_digits_43 : decode cX10_digits 43 = .ok (.aload_n 0, 1) := by decide +kernel
theorem dX10_digits_44 : decode cX10_digits 44 = .ok (.dup, 1) := by decide +kernel
theorem dX10_digits_45 : decode cX10_digits 45 = .ok (.getfield 180, 3) := by decide +kernel
theorem dX10_digits_48 : decode cX10_digits 48 = .ok (.iconst 1, 1) := by decide +kernel
theorem dX10_digits_49 : decode cX10_digits 49 = .ok (.iadd, 1) := by decide +kernel
theorem dX10_digits_50 : decode cX10_digits 50 = .ok (.putfield 180, 3) := by decide +kernel
theorem dX10_digits_53 : decode cX10_digits 53 = .ok (.iinc 3 1, 3) := by decide +kernel
theorem dX10_digits_56 : decode cX10_digits 56 = .ok (.goto (-52), 3) := by decide +kernel
theorem dX10_digits_59 : decode cX10_digits 59 = .ok (.aload_n 0, 1) := by decide +kernel
theorem dX10_digits_60 : decode cX10_digits 60 = .ok (.dup, 1) := by decide +kernel
theorem dX10_digits_61 : decode cX10_digits 61 = .ok (.getfield 186, 3) := by decide +kernel
theorem dX10_digits_64 : decode cX10_digits 64 = .ok (.iload_n 3, 1) := by decide +kernel
theorem dX10_digits_65 : decode cX10_digits 65 = .ok (.ifCond .ne 7, 3) := by decide +kernel
theorem dX10_digits_68 : decode cX10_digits 68 = .ok (.iconst 1, 1) := by decide +kernel
theorem dX10_digits_69 : decode cX10_digits 69 = .ok (.goto 4, 3) := by decide +kernel
theorem dX10_digits_72 : decode cX10_digits 72 = .ok (.iconst 0, 1) := by decide +kernel
theorem dX10_digits_73 : decode cX10_digits 73 = .ok (.ior, 1) := by decide +kernel
theorem dX10_digits_74 : decode cX10_digits 74 = .ok (.putfield 186, 3) := by decide +kernel
theorem dX10_digits_77 : decode cX10_digits 77 = .ok (.iload_n 2, 1) := by decide +kernel
theorem dX10_digits_78 : decode cX10_digits 78 = .ok (.ireturn, 1) := by decide +kernel
theorem dX10_behind_0 : decode cX10_behind 0 = .ok (.aload_n 0, 1) := by decide +kernel
theorem dX10_behind_1 : decode cX10_behind 1 = .ok (.bipush 32, 2) := by decide +kernel
theorem dX10_behind_3 : decode cX10_behind 3 = .ok (.invokevirtual 194, 3) := by decide +kernel
theorem dX10_behind_6 : decode cX10_behind 6 = .ok (.aload_n 0, 1) := by decide +kernel
theorem dX10_behind_7 : decode cX10_behind 7 = .ok (.getfield 186, 3) := by decide +kernel
theorem dX10_behind_10 : decode cX10_behind 10 = .ok (.ifCond .eq 7, 3) := by decide +kernel
theorem dX10_behind_13 : decode cX10_behind 13 = .ok (.iconst 0, 1) := by decide +kernel
theorem dX10_behind_14 : decode cX10_behind 14 = .ok (.goto 8, 3) := by decide +kernel
theorem dX10_behind_17 : decode cX10_behind 17 = .ok (.aload_n 0, 1) := by decide +kernel
theorem dX10_behind_18 : decode cX10_behind 18 = .ok (.iload_n 1, 1) := by decide +kernel
theorem dX10_behind_19 : decode cX10_behind 19 = .ok (.invokevirtual 197, 3) := by decide +kernel
theorem dX10_behind_22 : decode cX10_behind 22 = .ok (.ireturn, 1) := by decide +kernel
theorem dX10_word_0 : decode cX10_word 0 = .ok (.iconst 0, 1) := by decide +kernel
theorem dX10_word_1 : decode cX10_word 1 = .ok (.istore_n 1, 1) := by decide +kernel
theorem dX10_word_2 : decode cX10_word 2 = .ok (.iload_n 1, 1) := by decide +kernel
theorem dX10_word_3 : decode cX10_word 3 = .ok (.bipush 12, 2) := by decide +kernel
theorem dX10_word_5 : decode cX10_word 5 = .ok (.if_icmp .ge 16, 3) := by decide +kernel
theorem dX10_word_8 : decode cX10_word 8 = .ok (.aload_n 0, 1) := by decide +kernel
theorem dX10_word_9 : decode cX10_word 9 = .ok (.getfield 44, 3) := by decide +kernel
theorem dX10_word_12 : decode cX10_word 12 = .ok (.iload_n 1, 1) := by decide +kernel
theorem dX10_word_13 : decode cX10_word 13 = .ok (.iconst 1, 1) := by decide +kernel
theorem dX10_word_14 : decode cX10_word 14 = .ok (.iastore, 1) := by decide +kernel
theorem dX10_word_15 : decode cX10_word 15 = .ok (.iinc 1 1, 3) := by decide +kernel
theorem dX10_word_18 : decode cX10_word 18 = .ok (.goto (-16), 3) := by decide +kernel
theorem dX10_word_21 : decode cX10_word 21 = .ok (.iconst 0, 1) := by decide +kernel
theorem dX10_word_22 : decode cX10_word 22 = .ok (.istore_n 1, 1) := by decide +kernel
theorem dX10_word_23 : decode cX10_word 23 = .ok (.iconst (-1), 1) := by decide +kernel
theorem dX10_word_24 : decode cX10_word 24 = .ok (.istore_n 2, 1) := by decide +kernel
theorem dX10_word_25 : decode cX10_word 25 = .ok (.iload_n 2, 1) := by decide +kernel
theorem dX10_word_26 : decode cX10_word 26 = .ok (.ifCond .ge 196, 3) := by decide +kernel
theorem dX10_word_29 : decode cX10_word 29 = .ok (.aload_n 0, 1) := by decide +kernel
theorem dX10_word_30 : decode cX10_word 30 = .ok (.getfield 186, 3) := by decide +kernel
theorem dX10_word_33 : decode cX10_word 33 = .ok (.ifCond .ne 189, 3) := by decide +kernel
theorem dX10_word_36 : decode cX10_word 36 = .ok (.iconst 0, 1) := by decide +kernel
theorem dX10_word_37 : decode cX10_word 37 = .ok (.istore_n 3, 1) := by decide +kernel
theorem dX10_word_38 : decode cX10_word 38 = .ok (.iconst 0, 1) := by decide +kernel
theorem dX10_word_39 : decode cX10_word 39 = .ok (.istore 4, 2) := by decide +kernel
theorem dX10_word_41 : decode cX10_word 41 = .ok (.iload 4, 2) := by decide +kernel
theorem dX10_word_43 : decode cX10_word 43 = .ok (.bipush 12, 2) := by decide +kernel
theorem dX10_word_45 : decode cX10_word 45 = .ok (.if_icmp .ge 85, 3) := by decide +kernel
theorem dX10_word_48 : decode cX10_word 48 = .ok (.aload_n 0, 1) := by decide +kernel
theorem dX10_word_49 : decode cX10_word 49 = .ok (.getfield 44, 3) := by decide +kernel
theorem dX10_word_52 : decode cX10_word 52 = .ok (.iload 4, 2) := by decide +kernel
theorem dX10_word_54 : decode cX10_word 54 = .ok (.dup2, 1) := by decide +kernel
theorem dX10_word_55 : decode cX10_word 55 = .ok (.iaload, 1) := by decide +kernel
theorem dX10_word_56 : decode cX10_word 56 = .ok (.aload_n 0, 1) := by decide +kernel
theorem dX10_word_57 : decode cX10_word 57 = .ok (.getfield 50, 3) := by decide +kernel
theorem dX10_word_60 : decode cX10_word 60 = .ok (.iload 4, 2) := by decide +kernel
theorem dX10_word_62 : decode cX10_word 62 = .ok (.iaload, 1) := by decide +kernel
theorem dX10_word_63 : decode cX10_word 63 = .ok (.iload_n 1, 1) := by decide +kernel
theorem dX10_word_64 : decode cX10_word 64 = .ok (.iadd, 1) := by decide +kernel
theorem dX10_word_65 : decode cX10_word 65 = .ok (.aload_n 0, 1) := by decide +kernel
theorem dX10_word_66 : decode cX10_word 66 = .ok (.getfield 50, 3) := by decide +kernel
theorem dX10_word_69 : decode cX10_word 69 = .ok (.iload 4, 2) := by decide +kernel
theorem dX10_word_71 : decode cX10_word 71 = .ok (.iconst 1, 1) := by decide +kernel
theorem dX10_word_72 : decode cX10_word 72 = .ok (.iadd, 1) := by decide +kernel
theorem dX10_word_73 : decode cX10_word 73 = .ok (.iaload, 1) := by decide +kernel
theorem dX10_word_74 : decode cX10_word 74 = .ok (.if_icmp .ge 28, 3) := by decide +kernel
theorem dX10_word_77 : decode cX10_word 77 = .ok (.aload_n 0, 1) := by decide +kernel
theorem dX10_word_78 : decode cX10_word 78 = .ok (.getfield 47, 3) := by decide +kernel
theorem dX10_word_81 : decode cX10_word 81 = .ok (.aload_n 0, 1) := by decide +kernel
theorem dX10_word_82 : decode cX10_word 82 = .ok (.getfield 50, 3) := by decide +kernel
theorem dX10_word_85 : decode cX10_word 85 = .ok (.iload 4, 2) := by decide +kernel
theorem dX10_word_87 : decode cX10_word 87 = .ok (.iaload, 1) := by decide +kernel
theorem dX10_word_88 : decode cX10_word 88 = .ok (.iload_n 1, 1) := by decide +kernel
theorem dX10_word_89 : decode cX10_word 89 = .ok (.iadd, 1) := by decide +kernel
theorem dX10_word_90 : decode cX10_word 90 = .ok (.iaload, 1) := by decide +kernel
theorem dX10_word_91 : decode cX10_word 91 = .ok (.aload_n 0, 1) := by decide +kernel
theorem dX10_word_92 : decode cX10_word 92 = .ok (.invokevirtual 190, 3) := by decide +kernel
theorem dX10_word_95 : decode cX10_word 95 = .ok (.if_icmp .ne 7, 3) := by decide +kernel
theorem dX10_word_98 : decode cX10_word 98 = .ok (.iconst 1, 1) := by decide +kernel
theorem dX10_word_99 : decode cX10_word 99 = .ok (.goto 4, 3) := by decide +kernel
theorem dX10_word_102 : decode cX10_word 102 = .ok (.iconst 0, 1) := by decide +kernel
theorem dX10_word_103 : decode cX10_word 103 = .ok (.iand, 1) := by decide +kernel
theorem dX10_word_104 : decode cX10_word 104 = .ok (.iastore, 1) := by decide +kernel
theorem dX10_word_105 : decode cX10_word 105 = .ok (.iload_n 3, 1) := by decide +kernel
theorem dX10_word_106 : decode cX10_word 106 = .ok (.aload_n 0, 1) := by decide +kernel
theorem dX10_word_107 : decode cX10_word 107 = .ok (.getfield 44, 3) := by decide +kernel
theorem dX10_word_110 : decode cX10_word 110 = .ok (.iload 4, 2) := by decide +kernel
theorem dX10_word_112 : decode cX10_word 112 = .ok (.iaload, 1) := by decide +kernel
theorem dX10_word_113 : decode cX10_word 113 = .ok (.iconst 1, 1) := by decide +kernel
theorem dX10_word_114 : decode cX10_word 114 = .ok (.if_icmp .ne 7, 3) := by decide +kernel
theorem dX10_word_117 : decode cX10_word 117 = .ok (.iconst 1, 1) := by decide +kernel
theorem dX10_word_118 : decode cX10_word 118 = .ok (.goto 4, 3) := by decide +kernel
theorem dX10_word_121 : decode cX10_word 121 = .ok (.iconst 0, 1) := by decide +kernel
theorem dX10_word_122 : decode cX10_word 122 = .ok (.ior, 1) := by decide +kernel
theorem dX10_word_123 : decode cX10_word 123 = .ok (.istore_n 3, 1) := by decide +kernel
theorem dX10_word_124 : decode cX10_word 124 = .ok (.iinc 4 1, 3) := by decide +kernel
theorem dX10_word_127 : decode cX10_word 127 = .ok (.goto (-86), 3) := by decide +kernel
theorem dX10_word_130 : decode cX10_word 130 = .ok (.aload_n 0, 1) := by decide +kernel
theorem dX10_word_131 : decode cX10_word 131 = .ok (.iload_n 3, 1) := by decide +kernel
theorem dX10_word_132 : decode cX10_word 132 = .ok (.ifCond .ne 7, 3) := by decide +kernel
theorem dX10_word_135 : decode cX10_word 135 = .ok (.iconst 1, 1) := by decide +kernel
theorem dX10_word_136 : decode cX10_word 136 = .ok (.goto 4, 3) := by decide +kernel
theorem dX10_word_139 : decode cX10_word 139 = .ok (.iconst 0, 1) := by decide +kernel
theorem dX10_word_140 : decode cX10_word 140 = .ok (.putfield 186, 3) := by decide +kernel
theorem dX10_word_143 : decode cX10_word 143 = .ok (.aload_n 0, 1) := by decide +kernel
theorem dX10_word_144 : decode cX10_word 144 = .ok (.dup, 1) := by decide +kernel
theorem dX10_word_145 : decode cX10_word 145 = .ok (.getfield 180, 3) := by decide +kernel
theorem dX10_word_148 : decode cX10_word 148 = .ok (.iload_n 3, 1) := by decide +kernel
theorem dX10_word_149 : decode cX10_word 149 = .ok (.ifCond .eq 7, 3) := by decide +kernel
theorem dX10_word_152 : decode cX10_word 152 = .ok (.iconst 1, 1) := by decide +kernel
theorem dX10_word_153 : decode cX10_word 153 = .ok (.goto 4, 3) := by decide +kernel
theorem dX10_word_156 : decode cX10_word 156 = .ok (.iconst 0, 1) := by decide +kernel
theorem dX10_word_157 : decode cX10_word 157 = .ok (.iadd, 1) := by decide +kernel
theorem dX10_word_158 : decode cX10_word 158 = .ok (.putfield 180, 3) := by decide +kernel
theorem dX10_word_161 : decode cX10_word 161 = .ok (.iinc 1 1, 3) := by decide +kernel
theorem dX10_word_164 : decode cX10_word 164 = .ok (.iconst 0, 1) := by decide +kernel
theorem dX10_word_165 : decode cX10_word 165 = .ok (.istore 4, 2) := by decide +kernel
theorem dX10_word_167 : decode cX10_word 167 = .ok (.iload 4, 2) := by decide +kernel
theorem dX10_word_169 : decode cX10_word 169 = .ok (.bipush 12, 2) := by decide +kernel
theorem dX10_word_171 : decode cX10_word 171 = .ok (.if_icmp .ge 48, 3) := by decide +kernel
theorem dX10_word_174 : decode cX10_word 174 = .ok (.aload_n 0, 1) := by decide +kernel
theorem dX10_word_175 : decode cX10_word 175 = .ok (.getfield 44, 3) := by decide +kernel
theorem dX10_word_178 : decode cX10_word 178 = .ok (.iload 4, 2) := by decide +kernel
theorem dX10_word_180 : decode cX10_word 180 = .ok (.iaload, 1) := by decide +kernel
theorem dX10_word_181 : decode cX10_word 181 = .ok (.iconst 1, 1) := by decide +kernel
theorem dX10_word_182 : decode cX10_word 182 = .ok (.if_icmp .ne 29, 3) := by decide +kernel
theorem dX10_word_185 : decode cX10_word 185 = .ok (.aload_n 0, 1) := by decide +kernel
theorem dX10_word_186 : decode cX10_word 186 = .ok (.getfield 50, 3) := by decide +kernel
theorem dX10_word_189 : decode cX10_word 189 = .ok (.iload 4, 2) := by decide +kernel
theorem dX10_word_191 : decode cX10_word 191 = .ok (.iaload, 1) := by decide +kernel
theorem dX10_word_192 : decode cX10_word 192 = .ok (.iload_n 1, 1) := by decide +kernel
theorem dX10_word_193 : decode cX10_word 193 = .ok (.iadd, 1) := by decide +kernel
theorem dX10_word_194 : decode cX10_word 194 = .ok (.aload_n 0, 1) := by decide +kernel
theorem dX10_word_195 : decode cX10_word 195 = .ok (.getfield 50, 3) := by decide +kernel
theorem dX10_word_198 : decode cX10_word 198 = .ok (.iload 4, 2) := by decide +kernel
theorem dX10_word_200 : decode cX10_word 200 = .ok (.iconst 1, 1) := by decide +kernel
theorem dX10_word_201 : decode cX10_word 201 = .ok (.iadd, 1) := by decide +kernel
theorem dX10_word_202 : decode cX10_word 202 = .ok (.iaload, 1) := by decide +kernel
theorem dX10_word_203 : decode cX10_word 203 = .ok (.if_icmp .ne 8, 3) := by decide +kernel
theorem dX10_word_206 : decode cX10_word 206 = .ok (.iload 4, 2) := by decide +kernel
theorem dX10_word_208 : decode cX10_word 208 = .ok (.goto 4, 3) := by decide +kernel
theorem dX10_word_211 : decode cX10_word 211 = .ok (.iload_n 2, 1) := by decide +kernel
theorem dX10_word_212 : decode cX10_word 212 = .ok (.istore_n 2, 1) := by decide +kernel
theorem dX10_word_213 : decode cX10_word 213 = .ok (.iinc 4 1, 3) := by decide +kernel
theorem dX10_word_216 : decode cX10_word 216 = .ok (.goto (-49), 3) := by decide +kernel
theorem dX10_word_219 : decode cX10_word 219 = .ok (.goto (-194), 3) := by decide +kernel
theorem dX10_word_222 : decode cX10_word 222 = .ok (.iload_n 2, 1) := by decide +kernel
theorem dX10_word_223 : decode cX10_word 223 = .ok (.ireturn, 1) := by decide +kernel
theorem dX10_does_0 : decode cX10_does 0 = .ok (.iload_n 1, 1) := by decide +kernel
theorem dX10_does_1 : decode cX10_does 1 = .ok (.tableswitch 112 0 10 #[59, 59, 59, 59, 59, 59, 76, 82, 93, 99, 106], 59) := by decide +kernel
theorem dX10_does_60 : decode cX10_does 60 = .ok (.aload_n 0, 1) := by decide +kernel
theorem dX10_does_61 : decode cX10_does 61 = .ok (.aload_n 0, 1) := by decide +kernel
theorem dX10_does_62 : decode cX10_does 62 = .ok (.getfield 47, 3) := by decide +kernel
theorem dX10_does_65 : decode cX10_does 65 = .ok (.aload_n 0, 1) := by decide +kernel
theorem dX10_does_66 : decode cX10_does 66 = .ok (.getfield 50, 3) := by decide +kernel
theorem dX10_does_69 : decode cX10_does 69 = .ok (.iload_n 1, 1) := by decide +kernel
theorem dX10_does_70 : decode cX10_does 70 = .ok (.iaload, 1) := by decide +kernel
theorem dX10_does_71 : decode cX10_does 71 = .ok (.iaload, 1) := by decide +kernel
theorem dX10_does_72 : decode cX10_does 72 = .ok (.iload_n 2, 1) := by decide +kernel
theorem dX10_does_73 : decode cX10_does 73 = .ok (.invokevirtual 82, 3) := by decide +kernel
theorem dX10_does_76 : decode cX10_does 76 = .ok (.ireturn, 1) := by decide +kernel
theorem dX10_does_77 : decode cX10_does 77 = .ok (.aload_n 0, 1) := by decide +kernel
theorem dX10_does_78 : decode cX10_does 78 = .ok (.iload_n 2, 1) := by decide +kernel
theorem dX10_does_79 : decode cX10_does 79 = .ok (.invokevirtual 96, 3) := by decide +kernel
theorem dX10_does_82 : decode cX10_does 82 = .ok (.ireturn, 1) := by decide +kernel
theorem dX10_does_83 : decode cX10_does 83 = .ok (.aload_n 0, 1) := by decide +kernel
theorem dX10_does_84 : decode cX10_does 84 = .ok (.iload_n 2, 1) := by decide +kernel
theorem dX10_does_85 : decode cX10_does 85 = .ok (.iload_n 3, 1) := by decide +kernel
theorem dX10_does_86 : decode cX10_does 86 = .ok (.iload 4, 2) := by decide +kernel
theorem dX10_does_88 : decode cX10_does 88 = .ok (.iload 5, 2) := by decide +kernel
theorem dX10_does_90 : decode cX10_does 90 = .ok (.invokevirtual 108, 3) := by decide +kernel
theorem dX10_does_93 : decode cX10_does 93 = .ok (.ireturn, 1) := by decide +kernel
theorem dX10_does_94 : decode cX10_does 94 = .ok (.aload_n 0, 1) := by decide +kernel
theorem dX10_does_95 : decode cX10_does 95 = .ok (.iload_n 2, 1) := by decide +kernel
theorem dX10_does_96 : decode cX10_does 96 = .ok (.invokevirtual 147, 3) := by decide +kernel
theorem dX10_does_99 : decode cX10_does 99 = .ok (.ireturn, 1) := by decide +kernel
theorem dX10_does_100 : decode cX10_does 100 = .ok (.aload_n 0, 1) := by decide +kernel
theorem dX10_does_101 : decode cX10_does 101 = .ok (.iload_n 2, 1) := by decide +kernel
theorem dX10_does_102 : decode cX10_does 102 = .ok (.iload_n 3, 1) := by decide +kernel
theorem dX10_does_103 : decode cX10_does 103 = .ok (.invokevirtual 153, 3) := by decide +kernel
theorem dX10_does_106 : decode cX10_does 106 = .ok (.ireturn, 1) := by decide +kernel
theorem dX10_does_107 : decode cX10_does 107 = .ok (.aload_n 0, 1) := by decide +kernel
theorem dX10_does_108 : decode cX10_does 108 = .ok (.iload_n 2, 1) := by decide +kernel
theorem dX10_does_109 : decode cX10_does 109 = .ok (.invokevirtual 165, 3) := by decide +kernel
theorem dX10_does_112 : decode cX10_does 112 = .ok (.ireturn, 1) := by decide +kernel
theorem dX10_does_113 : decode cX10_does 113 = .ok (.aload_n 0, 1) := by decide +kernel
theorem dX10_does_114 : decode cX10_does 114 = .ok (.iload_n 2, 1) := by decide +kernel
theorem dX10_does_115 : decode cX10_does 115 = .ok (.iload_n 3, 1) := by decide +kernel
theorem dX10_does_116 : decode cX10_does 116 = .ok (.invokevirtual 168, 3) := by decide +kernel
theorem dX10_does_119 : decode cX10_does 119 = .ok (.ireturn, 1) := by decide +kernel
theorem dX10_command_0 : decode cX10_command 0 = .ok (.aload_n 0, 1) := by decide +kernel
theorem dX10_command_1 : decode cX10_command 1 = .ok (.invokevirtual 200, 3) := by decide +kernel
theorem dX10_command_4 : decode cX10_command 4 = .ok (.istore_n 1, 1) := by decide +kernel
theorem dX10_command_5 : decode cX10_command 5 = .ok (.iconst 0, 1) := by decide +kernel
theorem dX10_command_6 : decode cX10_command 6 = .ok (.istore_n 2, 1) := by decide +kernel
theorem dX10_command_7 : decode cX10_command 7 = .ok (.iconst 0, 1) := by decide +kernel
theorem dX10_command_8 : decode cX10_command 8 = .ok (.istore_n 3, 1) := by decide +kernel
theorem dX10_command_9 : decode cX10_command 9 = .ok (.iconst 0, 1) := by decide +kernel
theorem dX10_command_10 : decode cX10_command 10 = .ok (.istore 4, 2) := by decide +kernel
theorem dX10_command_12 : decode cX10_command 12 = .ok (.iconst 0, 1) := by decide +kernel
theorem dX10_command_13 : decode cX10_command 13 = .ok (.istore 5, 2) := by decide +kernel
theorem dX10_command_15 : decode cX10_command 15 = .ok (.aload_n 0, 1) := by decide +kernel
theorem dX10_command_16 : decode cX10_command 16 = .ok (.getfield 186, 3) := by decide +kernel
theorem dX10_command_19 : decode cX10_command 19 = .ok (.ifCond .eq 4, 3) := by decide +kernel
theorem dX10_command_22 : decode cX10_command 22 = .ok (.return_, 1) := by decide +kernel
theorem dX10_command_23 : decode cX10_command 23 = .ok (.iload_n 1, 1) := by decide +kernel
theorem dX10_command_24 : decode cX10_command 24 = .ok (.iconst 4, 1) := by decide +kernel
theorem dX10_command_25 : decode cX10_command 25 = .ok (.if_icmp .eq 19, 3) := by decide +kernel
theorem dX10_command_28 : decode cX10_command 28 = .ok (.aload_n 0, 1) := by decide +kernel
theorem dX10_command_29 : decode cX10_command 29 = .ok (.iload_n 1, 1) := by decide +kernel
theorem dX10_command_30 : decode cX10_command 30 = .ok (.bipush 6, 2) := by decide +kernel
theorem dX10_command_32 : decode cX10_command 32 = .ok (.if_icmp .ge 7, 3) := by decide +kernel
theorem dX10_command_35 : decode cX10_command 35 = .ok (.iconst 3, 1) := by decide +kernel
theorem dX10_command_36 : decode cX10_command 36 = .ok (.goto 4, 3) := by decide +kernel
theorem dX10_command_39 : decode cX10_command 39 = .ok (.iconst 1, 1) := by decide +kernel
theorem dX10_command_40 : decode cX10_command 40 = .ok (.invokevirtual 197, 3) := by decide +kernel
theorem dX10_command_43 : decode cX10_command 43 = .ok (.istore_n 2, 1) := by decide +kernel
theorem dX10_command_44 : decode cX10_command 44 = .ok (.iload_n 1, 1) := by decide +kernel
theorem dX10_command_45 : decode cX10_command 45 = .ok (.bipush 7, 2) := by decide +kernel
theorem dX10_command_47 : decode cX10_command 47 = .ok (.if_icmp .eq 9, 3) := by decide +kernel
theorem dX10_command_50 : decode cX10_command 50 = .ok (.iload_n 1, 1) := by decide +kernel
theorem dX10_command_51 : decode cX10_command 51 = .ok (.bipush 9, 2) := by decide +kernel
theorem dX10_command_53 : decode cX10_command 53 = .ok (.if_icmp .ne 16, 3) := by decide +kernel
theorem dX10_command_56 : decode cX10_command 56 = .ok (.aload_n 0, 1) := by decide +kernel
theorem dX10_command_57 : decode cX10_command 57 = .ok (.getfield 186, 3) := by decide +kernel
theorem dX10_command_60 : decode cX10_command 60 = .ok (.ifCond .ne 9, 3) := by decide +kernel
theorem dX10_command_63 : decode cX10_command 63 = .ok (.aload_n 0, 1) := by decide +kernel
theorem dX10_command_64 : decode cX10_command 64 = .ok (.iconst 3, 1) := by decide +kernel
theorem dX10_command_65 : decode cX10_command 65 = .ok (.invokevirtual 203, 3) := by decide +kernel
theorem dX10_command_68 : decode cX10_command 68 = .ok (.istore_n 3, 1) := by decide +kernel
theorem dX10_command_69 : decode cX10_command 69 = .ok (.iload_n 1, 1) := by decide +kernel
theorem dX10_command_70 : decode cX10_command 70 = .ok (.bipush 11, 2) := by decide +kernel
theorem dX10_command_72 : decode cX10_command 72 = .ok (.if_icmp .ne 16, 3) := by decide +kernel
theorem dX10_command_75 : decode cX10_command 75 = .ok (.aload_n 0, 1) := by decide +kernel
theorem dX10_command_76 : decode cX10_command 76 = .ok (.getfield 186, 3) := by decide +kernel
theorem dX10_command_79 : decode cX10_command 79 = .ok (.ifCond .ne 9, 3) := by decide +kernel
theorem dX10_command_82 : decode cX10_command 82 = .ok (.aload_n 0, 1) := by decide +kernel
theorem dX10_command_83 : decode cX10_command 83 = .ok (.iconst 1, 1) := by decide +kernel
theorem dX10_command_84 : decode cX10_command 84 = .ok (.invokevirtual 203, 3) := by decide +kernel
theorem dX10_command_87 : decode cX10_command 87 = .ok (.istore_n 3, 1) := by decide +kernel
theorem dX10_command_88 : decode cX10_command 88 = .ok (.iload_n 1, 1) := by decide +kernel
theorem dX10_command_89 : decode cX10_command 89 = .ok (.bipush 7, 2) := by decide +kernel
theorem dX10_command_91 : decode cX10_command 91 = .ok (.if_icmp .ne 17, 3) := by decide +kernel
theorem dX10_command_94 : decode cX10_command 94 = .ok (.aload_n 0, 1) := by decide +kernel
theorem dX10_command_95 : decode cX10_command 95 = .ok (.getfield 186, 3) := by decide +kernel
theorem dX10_command_98 : decode cX10_command 98 = .ok (.ifCond .ne 10, 3) := by decide +kernel
theorem dX10_command_101 : decode cX10_command 101 = .ok (.aload_n 0, 1) := by decide +kernel
theorem dX10_command_102 : decode cX10_command 102 = .ok (.iconst 3, 1) := by decide +kernel
theorem dX10_command_103 : decode cX10_command 103 = .ok (.invokevirtual 203, 3) := by decide +kernel
theorem dX10_command_106 : decode cX10_command 106 = .ok (.istore 4, 2) := by decide +kernel
theorem dX10_command_108 : decode cX10_command 108 = .ok (.iload_n 1, 1) := by decide +kernel
theorem dX10_command_109 : decode cX10_command 109 = .ok (.bipush 7, 2) := by decide +kernel
theorem dX10_command_111 : decode cX10_command 111 = .ok (.if_icmp .ne 17, 3) := by decide +kernel
theorem dX10_command_114 : decode cX10_command 114 = .ok (.aload_n 0, 1) := by decide +kernel
theorem dX10_command_115 : decode cX10_command 115 = .ok (.getfield 186, 3) := by decide +kernel
theorem dX10_command_118 : decode cX10_command 118 = .ok (.ifCond .ne 10, 3) := by decide +kernel
theorem dX10_command_121 : decode cX10_command 121 = .ok (.aload_n 0, 1) := by decide +kernel
theorem dX10_command_122 : decode cX10_command 122 = .ok (.iconst 3, 1) := by decide +kernel
theorem dX10_command_123 : decode cX10_command 123 = .ok (.invokevirtual 203, 3) := by decide +kernel
theorem dX10_command_126 : decode cX10_command 126 = .ok (.istore 5, 2) := by decide +kernel
theorem dX10_command_128 : decode cX10_command 128 = .ok (.aload_n 0, 1) := by decide +kernel
theorem dX10_command_129 : decode cX10_command 129 = .ok (.getfield 186, 3) := by decide +kernel
theorem dX10_command_132 : decode cX10_command 132 = .ok (.ifCond .ne 10, 3) := by decide +kernel
theorem dX10_command_135 : decode cX10_command 135 = .ok (.aload_n 0, 1) := by decide +kernel
theorem dX10_command_136 : decode cX10_command 136 = .ok (.getfield 206, 3) := by decide +kernel
theorem dX10_command_139 : decode cX10_command 139 = .ok (.ifCond .ne 4, 3) := by decide +kernel
theorem dX10_command_142 : decode cX10_command 142 = .ok (.return_, 1) := by decide +kernel
theorem dX10_command_143 : decode cX10_command 143 = .ok (.aload_n 0, 1) := by decide +kernel
theorem dX10_command_144 : decode cX10_command 144 = .ok (.iload_n 1, 1) := by decide +kernel
theorem dX10_command_145 : decode cX10_command 145 = .ok (.iload_n 2, 1) := by decide +kernel
theorem dX10_command_146 : decode cX10_command 146 = .ok (.iload_n 3, 1) := by decide +kernel
theorem dX10_command_147 : decode cX10_command 147 = .ok (.iload 4, 2) := by decide +kernel
theorem dX10_command_149 : decode cX10_command 149 = .ok (.iload 5, 2) := by decide +kernel
theorem dX10_command_151 : decode cX10_command 151 = .ok (.invokevirtual 209, 3) := by decide +kernel
theorem dX10_command_154 : decode cX10_command 154 = .ok (.istore 6, 2) := by decide +kernel
theorem dX10_command_156 : decode cX10_command 156 = .ok (.return_, 1) := by decide +kernel
theorem dX10_commands_0 : decode cX10_commands 0 = .ok (.aload_n 0, 1) := by decide +kernel
theorem dX10_commands_1 : decode cX10_commands 1 = .ok (.iconst 0, 1) := by decide +kernel
theorem dX10_commands_2 : decode cX10_commands 2 = .ok (.putfield 180, 3) := by decide +kernel
theorem dX10_commands_5 : decode cX10_commands 5 = .ok (.aload_n 0, 1) := by decide +kernel
theorem dX10_commands_6 : decode cX10_commands 6 = .ok (.iconst 0, 1) := by decide +kernel
theorem dX10_commands_7 : decode cX10_commands 7 = .ok (.putfield 186, 3) := by decide +kernel
theorem dX10_commands_10 : decode cX10_commands 10 = .ok (.iconst 1, 1) := by decide +kernel
theorem dX10_commands_11 : decode cX10_commands 11 = .ok (.istore_n 1, 1) := by decide +kernel
theorem dX10_commands_12 : decode cX10_commands 12 = .ok (.aload_n 0, 1) := by decide +kernel
theorem dX10_commands_13 : decode cX10_commands 13 = .ok (.invokevirtual 213, 3) := by decide +kernel
theorem dX10_commands_16 : decode cX10_commands 16 = .ok (.aload_n 0, 1) := by decide +kernel
theorem dX10_commands_17 : decode cX10_commands 17 = .ok (.getfield 186, 3) := by decide +kernel
theorem dX10_commands_20 : decode cX10_commands 20 = .ok (.ifCond .ne 44, 3) := by decide +kernel
theorem dX10_commands_23 : decode cX10_commands 23 = .ok (.aload_n 0, 1) := by decide +kernel
theorem dX10_commands_24 : decode cX10_commands 24 = .ok (.getfield 53, 3) := by decide +kernel
theorem dX10_commands_27 : decode cX10_commands 27 = .ok (.ifCond .ne 37, 3) := by decide +kernel
theorem dX10_commands_30 : decode cX10_commands 30 = .ok (.aload_n 0, 1) := by decide +kernel
theorem dX10_commands_31 : decode cX10_commands 31 = .ok (.getfield 180, 3) := by decide +kernel
theorem dX10_commands_34 : decode cX10_commands 34 = .ok (.aload_n 0, 1) := by decide +kernel
theorem dX10_commands_35 : decode cX10_commands 35 = .ok (.getfield 183, 3) := by decide +kernel
theorem dX10_commands_38 : decode cX10_commands 38 = .ok (.if_icmp .ge 26, 3) := by decide +kernel
theorem dX10_commands_41 : decode cX10_commands 41 = .ok (.aload_n 0, 1) := by decide +kernel
theorem dX10_commands_42 : decode cX10_commands 42 = .ok (.bipush 59, 2) := by decide +kernel
theorem dX10_commands_44 : decode cX10_commands 44 = .ok (.invokevirtual 194, 3) := by decide +kernel
theorem dX10_commands_47 : decode cX10_commands 47 = .ok (.aload_n 0, 1) := by decide +kernel
theorem dX10_commands_48 : decode cX10_commands 48 = .ok (.getfield 186, 3) := by decide +kernel
theorem dX10_commands_51 : decode cX10_commands 51 = .ok (.ifCond .ne 7, 3) := by decide +kernel
theorem dX10_commands_54 : decode cX10_commands 54 = .ok (.aload_n 0, 1) := by decide +kernel
theorem dX10_commands_55 : decode cX10_commands 55 = .ok (.invokevirtual 213, 3) := by decide +kernel
theorem dX10_commands_58 : decode cX10_commands 58 = .ok (.iinc 1 1, 3) := by decide +kernel
theorem dX10_commands_61 : decode cX10_commands 61 = .ok (.goto (-45), 3) := by decide +kernel
theorem dX10_commands_64 : decode cX10_commands 64 = .ok (.iload_n 1, 1) := by decide +kernel
theorem dX10_commands_65 : decode cX10_commands 65 = .ok (.ireturn, 1) := by decide +kernel
theorem dX10_run_0 : decode cX10_run 0 = .ok (.aload_n 0, 1) := by decide +kernel
theorem dX10_run_1 : decode cX10_run 1 = .ok (.invokevirtual 79, 3) := by decide +kernel
theorem dX10_run_4 : decode cX10_run 4 = .ok (.aload_n 0, 1) := by decide +kernel
theorem dX10_run_5 : decode cX10_run 5 = .ok (.aload_n 0, 1) := by decide +kernel
theorem dX10_run_6 : decode cX10_run 6 = .ok (.getfield 177, 3) := by decide +kernel
theorem dX10_run_9 : decode cX10_run 9 = .ok (.putfield 183, 3) := by decide +kernel
theorem dX10_run_12 : decode cX10_run 12 = .ok (.aload_n 0, 1) := by decide +kernel
theorem dX10_run_13 : decode cX10_run 13 = .ok (.iconst 0, 1) := by decide +kernel
theorem dX10_run_14 : decode cX10_run 14 = .ok (.putfield 177, 3) := by decide +kernel
theorem dX10_run_17 : decode cX10_run 17 = .ok (.aload_n 0, 1) := by decide +kernel
theorem dX10_run_18 : decode cX10_run 18 = .ok (.iconst 0, 1) := by decide +kernel
theorem dX10_run_19 : decode cX10_run 19 = .ok (.putfield 206, 3) := by decide +kernel
theorem dX10_run_22 : decode cX10_run 22 = .ok (.aload_n 0, 1) := by decide +kernel
theorem dX10_run_23 : decode cX10_run 23 = .ok (.invokevirtual 216, 3) := by decide +kernel
theorem dX10_run_26 : decode cX10_run 26 = .ok (.istore_n 1, 1) := by decide +kernel
theorem dX10_run_27 : decode cX10_run 27 = .ok (.aload_n 0, 1) := by decide +kernel
theorem dX10_run_28 : decode cX10_run 28 = .ok (.getfield 186, 3) := by decide +kernel
theorem dX10_run_31 : decode cX10_run 31 = .ok (.ifCond .eq 17, 3) := by decide +kernel
theorem dX10_run_34 : decode cX10_run 34 = .ok (.aload_n 0, 1) := by decide +kernel
theorem dX10_run_35 : decode cX10_run 35 = .ok (.aload_n 0, 1) := by decide +kernel
theorem dX10_run_36 : decode cX10_run 36 = .ok (.getfield 180, 3) := by decide +kernel
theorem dX10_run_39 : decode cX10_run 39 = .ok (.putfield 7, 3) := by decide +kernel
theorem dX10_run_42 : decode cX10_run 42 = .ok (.aload_n 0, 1) := by decide +kernel
theorem dX10_run_43 : decode cX10_run 43 = .ok (.iconst 1, 1) := by decide +kernel
theorem dX10_run_44 : decode cX10_run 44 = .ok (.invokevirtual 71, 3) := by decide +kernel
theorem dX10_run_47 : decode cX10_run 47 = .ok (.ireturn, 1) := by decide +kernel
theorem dX10_run_48 : decode cX10_run 48 = .ok (.aload_n 0, 1) := by decide +kernel
theorem dX10_run_49 : decode cX10_run 49 = .ok (.iconst 1, 1) := by decide +kernel
theorem dX10_run_50 : decode cX10_run 50 = .ok (.putfield 206, 3) := by decide +kernel
theorem dX10_run_53 : decode cX10_run 53 = .ok (.aload_n 0, 1) := by decide +kernel
theorem dX10_run_54 : decode cX10_run 54 = .ok (.invokevirtual 216, 3) := by decide +kernel
theorem dX10_run_57 : decode cX10_run 57 = .ok (.istore_n 1, 1) := by decide +kernel
theorem dX10_run_58 : decode cX10_run 58 = .ok (.aload_n 0, 1) := by decide +kernel
theorem dX10_run_59 : decode cX10_run 59 = .ok (.getfield 53, 3) := by decide +kernel
theorem dX10_run_62 : decode cX10_run 62 = .ok (.ifCond .eq 15, 3) := by decide +kernel
theorem dX10_run_65 : decode cX10_run 65 = .ok (.aload_n 0, 1) := by decide +kernel
theorem dX10_run_66 : decode cX10_run 66 = .ok (.iload_n 1, 1) := by decide +kernel
theorem dX10_run_67 : decode cX10_run 67 = .ok (.iconst 1, 1) := by decide +kernel
theorem dX10_run_68 : decode cX10_run 68 = .ok (.isub, 1) := by decide +kernel
theorem dX10_run_69 : decode cX10_run 69 = .ok (.putfield 13, 3) := by decide +kernel
theorem dX10_run_72 : decode cX10_run 72 = .ok (.aload_n 0, 1) := by decide +kernel
theorem dX10_run_73 : decode cX10_run 73 = .ok (.iconst 2, 1) := by decide +kernel
theorem dX10_run_74 : decode cX10_run 74 = .ok (.putfield 53, 3) := by decide +kernel
theorem dX10_run_77 : decode cX10_run 77 = .ok (.aload_n 0, 1) := by decide +kernel
theorem dX10_run_78 : decode cX10_run 78 = .ok (.iload_n 1, 1) := by decide +kernel
theorem dX10_run_79 : decode cX10_run 79 = .ok (.invokevirtual 86, 3) := by decide +kernel
theorem dX10_run_82 : decode cX10_run 82 = .ok (.ireturn, 1) := by decide +kernel
theorem dX10_errorPosition_0 : decode cX10_errorPosition 0 = .ok (.aload_n 0, 1) := by decide +kernel
theorem dX10_errorPosition_1 : decode cX10_errorPosition 1 = .ok (.aload_n 0, 1) := by decide +kernel
theorem dX10_errorPosition_2 : decode cX10_errorPosition 2 = .ok (.getfield 7, 3) := by decide +kernel
theorem dX10_errorPosition_5 : decode cX10_errorPosition 5 = .ok (.ifCond .ge 7, 3) := by decide +kernel
theorem dX10_errorPosition_8 : decode cX10_errorPosition 8 = .ok (.iconst 1, 1) := by decide +kernel
theorem dX10_errorPosition_9 : decode cX10_errorPosition 9 = .ok (.goto 4, 3) := by decide +kernel
theorem dX10_errorPosition_12 : decode cX10_errorPosition 12 = .ok (.iconst 0, 1) := by decide +kernel
theorem dX10_errorPosition_13 : decode cX10_errorPosition 13 = .ok (.putfield 53, 3) := by decide +kernel
theorem dX10_errorPosition_16 : decode cX10_errorPosition 16 = .ok (.aload_n 0, 1) := by decide +kernel
theorem dX10_errorPosition_17 : decode cX10_errorPosition 17 = .ok (.getfield 53, 3) := by decide +kernel
theorem dX10_errorPosition_20 : decode cX10_errorPosition 20 = .ok (.ifCond .ne 10, 3) := by decide +kernel
theorem dX10_errorPosition_23 : decode cX10_errorPosition 23 = .ok (.aload_n 0, 1) := by decide +kernel
theorem dX10_errorPosition_24 : decode cX10_errorPosition 24 = .ok (.getfield 7, 3) := by decide +kernel
theorem dX10_errorPosition_27 : decode cX10_errorPosition 27 = .ok (.goto 4, 3) := by decide +kernel
theorem dX10_errorPosition_30 : decode cX10_errorPosition 30 = .ok (.iconst 0, 1) := by decide +kernel
theorem dX10_errorPosition_31 : decode cX10_errorPosition 31 = .ok (.ireturn, 1) := by decide +kernel
