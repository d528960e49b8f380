theorem dX0_init_0 : decode cX0_init 0 = .ok (.aload_n 0, 1) := by decide +kernel
theorem dX0_init_1 : decode cX0_init 1 = .ok (.invokespecial 3, 3) := by decide +kernel
theorem dX0_init_4 : decode cX0_init 4 = .ok (.aload_n 0, 1) := by decide +kernel
theorem dX0_init_5 : decode cX0_init 5 = .ok (.bipush 8, 2) := by decide +kernel
theorem dX0_init_7 : decode cX0_init 7 = .ok (.newarray .int, 2) := by decide +kernel
theorem dX0_init_9 : decode cX0_init 9 = .ok (.putfield 9, 3) := by decide +kernel
theorem dX0_init_12 : decode cX0_init 12 = .ok (.aload_n 0, 1) := by decide +kernel
theorem dX0_init_13 : decode cX0_init 13 = .ok (.bipush 8, 2) := by decide +kernel
theorem dX0_init_15 : decode cX0_init 15 = .ok (.newarray .int, 2) := by decide +kernel
theorem dX0_init_17 : decode cX0_init 17 = .ok (.putfield 15, 3) := by decide +kernel
theorem dX0_init_20 : decode cX0_init 20 = .ok (.aload_n 0, 1) := by decide +kernel
theorem dX0_init_21 : decode cX0_init 21 = .ok (.iconst 0, 1) := by decide +kernel
theorem dX0_init_22 : decode cX0_init 22 = .ok (.putfield 18, 3) := by decide +kernel
theorem dX0_init_25 : decode cX0_init 25 = .ok (.return_, 1) := by decide +kernel
theorem dX0_copyFrom_0 : decode cX0_copyFrom 0 = .ok (.aload_n 1, 1) := by decide +kernel
theorem dX0_copyFrom_1 : decode cX0_copyFrom 1 = .ok (.getfield 9, 3) := by decide +kernel
theorem dX0_copyFrom_4 : decode cX0_copyFrom 4 = .ok (.aload_n 0, 1) := by decide +kernel
theorem dX0_copyFrom_5 : decode cX0_copyFrom 5 = .ok (.getfield 9, 3) := by decide +kernel
theorem dX0_copyFrom_8 : decode cX0_copyFrom 8 = .ok (.invokestatic 22, 3) := by decide +kernel
theorem dX0_copyFrom_11 : decode cX0_copyFrom 11 = .ok (.aload_n 1, 1) := by decide +kernel
theorem dX0_copyFrom_12 : decode cX0_copyFrom 12 = .ok (.getfield 15, 3) := by decide +kernel
theorem dX0_copyFrom_15 : decode cX0_copyFrom 15 = .ok (.aload_n 0, 1) := by decide +kernel
theorem dX0_copyFrom_16 : decode cX0_copyFrom 16 = .ok (.getfield 15, 3) := by decide +kernel
theorem dX0_copyFrom_19 : decode cX0_copyFrom 19 = .ok (.invokestatic 22, 3) := by decide +kernel
theorem dX0_copyFrom_22 : decode cX0_copyFrom 22 = .ok (.aload_n 0, 1) := by decide +kernel
theorem dX0_copyFrom_23 : decode cX0_copyFrom 23 = .ok (.aload_n 1, 1) := by decide +kernel
theorem dX0_copyFrom_24 : decode cX0_copyFrom 24 = .ok (.getfield 18, 3) := by decide +kernel
theorem dX0_copyFrom_27 : decode cX0_copyFrom 27 = .ok (.putfield 18, 3) := by decide +kernel
theorem dX0_copyFrom_30 : decode cX0_copyFrom 30 = .ok (.return_, 1) := by decide +kernel
theorem dX0_kindAt_0 : decode cX0_kindAt 0 = .ok (.aload_n 0, 1) := by decide +kernel
theorem dX0_kindAt_1 : decode cX0_kindAt 1 = .ok (.getfield 9, 3) := by decide +kernel
theorem dX0_kindAt_4 : decode cX0_kindAt 4 = .ok (.iload_n 1, 1) := by decide +kernel
theorem dX0_kindAt_5 : decode cX0_kindAt 5 = .ok (.invokestatic 26, 3) := by decide +kernel
theorem dX0_kindAt_8 : decode cX0_kindAt 8 = .ok (.ireturn, 1) := by decide +kernel
theorem dX0_parameterAt_0 : decode cX0_parameterAt 0 = .ok (.aload_n 0, 1) := by decide +kernel
theorem dX0_parameterAt_1 : decode cX0_parameterAt 1 = .ok (.getfield 15, 3) := by decide +kernel
theorem dX0_parameterAt_4 : decode cX0_parameterAt 4 = .ok (.iload_n 1, 1) := by decide +kernel
theorem dX0_parameterAt_5 : decode cX0_parameterAt 5 = .ok (.invokestatic 26, 3) := by decide +kernel
theorem dX0_parameterAt_8 : decode cX0_parameterAt 8 = .ok (.ireturn, 1) := by decide +kernel
theorem dX0_faultOfPosition_0 : decode cX0_faultOfPosition 0 = .ok (.iload_n 1, 1) := by decide +kernel
theorem dX0_faultOfPosition_1 : decode cX0_faultOfPosition 1 = .ok (.iconst 0, 1) := by decide +kernel
theorem dX0_faultOfPosition_2 : decode cX0_faultOfPosition 2 = .ok (.aload_n 0, 1) := by decide +kernel
theorem dX0_faultOfPosition_3 : decode cX0_faultOfPosition 3 = .ok (.getfield 18, 3) := by decide +kernel
theorem dX0_faultOfPosition_6 : decode cX0_faultOfPosition 6 = .ok (.iconst 1, 1) := by decide +kernel
theorem dX0_faultOfPosition_7 : decode cX0_faultOfPosition 7 = .ok (.isub, 1) := by decide +kernel
theorem dX0_faultOfPosition_8 : decode cX0_faultOfPosition 8 = .ok (.invokestatic 30, 3) := by decide +kernel
theorem dX0_faultOfPosition_11 : decode cX0_faultOfPosition 11 = .ok (.ifCond .eq 7, 3) := by decide +kernel
theorem dX0_faultOfPosition_14 : decode cX0_faultOfPosition 14 = .ok (.iconst 0, 1) := by decide +kernel
theorem dX0_faultOfPosition_15 : decode cX0_faultOfPosition 15 = .ok (.goto 4, 3) := by decide +kernel
theorem dX0_faultOfPosition_18 : decode cX0_faultOfPosition 18 = .ok (.iconst 1, 1) := by decide +kernel
theorem dX0_faultOfPosition_19 : decode cX0_faultOfPosition 19 = .ok (.ireturn, 1) := by decide +kernel
theorem dX0_faultOfNewPosition_0 : decode cX0_faultOfNewPosition 0 = .ok (.iload_n 1, 1) := by decide +kernel
theorem dX0_faultOfNewPosition_1 : decode cX0_faultOfNewPosition 1 = .ok (.iconst 0, 1) := by decide +kernel
theorem dX0_faultOfNewPosition_2 : decode cX0_faultOfNewPosition 2 = .ok (.aload_n 0, 1) := by decide +kernel
theorem dX0_faultOfNewPosition_3 : decode cX0_faultOfNewPosition 3 = .ok (.getfield 18, 3) := by decide +kernel
theorem dX0_faultOfNewPosition_6 : decode cX0_faultOfNewPosition 6 = .ok (.invokestatic 30, 3) := by decide +kernel
theorem dX0_faultOfNewPosition_9 : decode cX0_faultOfNewPosition 9 = .ok (.ifCond .eq 7, 3) := by decide +kernel
theorem dX0_faultOfNewPosition_12 : decode cX0_faultOfNewPosition 12 = .ok (.iconst 0, 1) := by decide +kernel
theorem dX0_faultOfNewPosition_13 : decode cX0_faultOfNewPosition 13 = .ok (.goto 4, 3) := by decide +kernel
theorem dX0_faultOfNewPosition_16 : decode cX0_faultOfNewPosition 16 = .ok (.iconst 1, 1) := by decide +kernel
theorem dX0_faultOfNewPosition_17 : decode cX0_faultOfNewPosition 17 = .ok (.ireturn, 1) := by decide +kernel
theorem dX0_faultOfNewFilter_0 : decode cX0_faultOfNewFilter 0 = .ok (.iload_n 1, 1) := by decide +kernel
theorem dX0_faultOfNewFilter_1 : decode cX0_faultOfNewFilter 1 = .ok (.iload_n 2, 1) := by decide +kernel
theorem dX0_faultOfNewFilter_2 : decode cX0_faultOfNewFilter 2 = .ok (.invokestatic 34, 3) := by decide +kernel
theorem dX0_faultOfNewFilter_5 : decode cX0_faultOfNewFilter 5 = .ok (.ifCond .ne 5, 3) := by decide +kernel
theorem dX0_faultOfNewFilter_8 : decode cX0_faultOfNewFilter 8 = .ok (.iconst 2, 1) := by decide +kernel
theorem dX0_faultOfNewFilter_9 : decode cX0_faultOfNewFilter 9 = .ok (.ireturn, 1) := by decide +kernel
theorem dX0_faultOfNewFilter_10 : decode cX0_faultOfNewFilter 10 = .ok (.aload_n 0, 1) := by decide +kernel
theorem dX0_faultOfNewFilter_11 : decode cX0_faultOfNewFilter 11 = .ok (.getfield 18, 3) := by decide +kernel
theorem dX0_faultOfNewFilter_14 : decode cX0_faultOfNewFilter 14 = .ok (.bipush 8, 2) := by decide +kernel
theorem dX0_faultOfNewFilter_16 : decode cX0_faultOfNewFilter 16 = .ok (.if_icmp .ge 7, 3) := by decide +kernel
theorem dX0_faultOfNewFilter_19 : decode cX0_faultOfNewFilter 19 = .ok (.iconst 0, 1) := by decide +kernel
theorem dX0_faultOfNewFilter_20 : decode cX0_faultOfNewFilter 20 = .ok (.goto 4, 3) := by decide +kernel
theorem dX0_faultOfNewFilter_23 : decode cX0_faultOfNewFilter 23 = .ok (.iconst 3, 1) := by decide +kernel
theorem dX0_faultOfNewFilter_24 : decode cX0_faultOfNewFilter 24 = .ok (.ireturn, 1) := by decide +kernel
theorem dX0_isKindWith_0 : decode cX0_isKindWith 0 = .ok (.iload_n 0, 1) := by decide +kernel
theorem dX0_isKindWith_1 : decode cX0_isKindWith 1 = .ok (.tableswitch 135 99 115 #[108, 92, 135, 117, 83, 135, 135, 135, 135, 135, 100, 135, 135, 135, 135, 135, 127], 83) := by decide +kernel
theorem dX0_isKindWith_84 : decode cX0_isKindWith 84 = .ok (.iload_n 1, 1) := by decide +kernel
theorem dX0_isKindWith_85 : decode cX0_isKindWith 85 = .ok (.iconst 0, 1) := by decide +kernel
theorem dX0_isKindWith_86 : decode cX0_isKindWith 86 = .ok (.sipush 200, 3) := by decide +kernel
theorem dX0_isKindWith_89 : decode cX0_isKindWith 89 = .ok (.invokestatic 30, 3) := by decide +kernel
theorem dX0_isKindWith_92 : decode cX0_isKindWith 92 = .ok (.ireturn, 1) := by decide +kernel
theorem dX0_isKindWith_93 : decode cX0_isKindWith 93 = .ok (.iload_n 1, 1) := by decide +kernel
theorem dX0_isKindWith_94 : decode cX0_isKindWith 94 = .ok (.iconst 1, 1) := by decide +kernel
theorem dX0_isKindWith_95 : decode cX0_isKindWith 95 = .ok (.bipush 8, 2) := by decide +kernel
theorem dX0_isKindWith_97 : decode cX0_isKindWith 97 = .ok (.invokestatic 30, 3) := by decide +kernel
theorem dX0_isKindWith_100 : decode cX0_isKindWith 100 = .ok (.ireturn, 1) := by decide +kernel
theorem dX0_isKindWith_101 : decode cX0_isKindWith 101 = .ok (.iload_n 1, 1) := by decide +kernel
theorem dX0_isKindWith_102 : decode cX0_isKindWith 102 = .ok (.iconst 2, 1) := by decide +kernel
theorem dX0_isKindWith_103 : decode cX0_isKindWith 103 = .ok (.bipush 8, 2) := by decide +kernel
theorem dX0_isKindWith_105 : decode cX0_isKindWith 105 = .ok (.invokestatic 30, 3) := by decide +kernel
theorem dX0_isKindWith_108 : decode cX0_isKindWith 108 = .ok (.ireturn, 1) := by decide +kernel
theorem dX0_isKindWith_109 : decode cX0_isKindWith 109 = .ok (.iload_n 1, 1) := by decide +kernel
theorem dX0_isKindWith_110 : decode cX0_isKindWith 110 = .ok (.iconst 1, 1) := by decide +kernel
theorem dX0_isKindWith_111 : decode cX0_isKindWith 111 = .ok (.sipush 999, 3) := by decide +kernel
theorem dX0_isKindWith_114 : decode cX0_isKindWith 114 = .ok (.invokestatic 30, 3) := by decide +kernel
theorem dX0_isKindWith_117 : decode cX0_isKindWith 117 = .ok (.ireturn, 1) := by decide +kernel
theorem dX0_isKindWith_118 : decode cX0_isKindWith 118 = .ok (.iload_n 1, 1) := by decide +kernel
theorem dX0_isKindWith_119 : decode cX0_isKindWith 119 = .ok (.ifCond .ne 7, 3) := by decide +kernel
theorem dX0_isKindWith_122 : decode cX0_isKindWith 122 = .ok (.iconst 1, 1) := by decide +kernel
theorem dX0_isKindWith_123 : decode cX0_isKindWith 123 = .ok (.goto 4, 3) := by decide +kernel
theorem dX0_isKindWith_126 : decode cX0_isKindWith 126 = .ok (.iconst 0, 1) := by decide +kernel
theorem dX0_isKindWith_127 : decode cX0_isKindWith 127 = .ok (.ireturn, 1) := by decide +kernel
theorem dX0_isKindWith_128 : decode cX0_isKindWith 128 = .ok (.iload_n 1, 1) := by decide +kernel
theorem dX0_isKindWith_129 : decode cX0_isKindWith 129 = .ok (.iconst 2, 1) := by decide +kernel
theorem dX0_isKindWith_130 : decode cX0_isKindWith 130 = .ok (.bipush 99, 2) := by decide +kernel
theorem dX0_isKindWith_132 : decode cX0_isKindWith 132 = .ok (.invokestatic 30, 3) := by decide +kernel
theorem dX0_isKindWith_135 : decode cX0_isKindWith 135 = .ok (.ireturn, 1) := by decide +kernel
theorem dX0_isKindWith_136 : decode cX0_isKindWith 136 = .ok (.iconst 0, 1) := by decide +kernel
theorem dX0_isKindWith_137 : decode cX0_isKindWith 137 = .ok (.ireturn, 1) := by decide +kernel
theorem dX0_setFilter_0 : decode cX0_setFilter 0 = .ok (.aload_n 0, 1) := by decide +kernel
theorem dX0_setFilter_1 : decode cX0_setFilter 1 = .ok (.getfield 9, 3) := by decide +kernel
theorem dX0_setFilter_4 : decode cX0_setFilter 4 = .ok (.iload_n 1, 1) := by decide +kernel
theorem dX0_setFilter_5 : decode cX0_setFilter 5 = .ok (.iload_n 2, 1) := by decide +kernel
theorem dX0_setFilter_6 : decode cX0_setFilter 6 = .ok (.invokestatic 38, 3) := by decide +kernel
theorem dX0_setFilter_9 : decode cX0_setFilter 9 = .ok (.aload_n 0, 1) := by decide +kernel
theorem dX0_setFilter_10 : decode cX0_setFilter 10 = .ok (.getfield 15, 3) := by decide +kernel
theorem dX0_setFilter_13 : decode cX0_setFilter 13 = .ok (.iload_n 1, 1) := by decide +kernel
theorem dX0_setFilter_14 : decode cX0_setFilter 14 = .ok (.iload_n 3, 1) := by decide +kernel
theorem dX0_setFilter_15 : decode cX0_setFilter 15 = .ok (.invokestatic 38, 3) := by decide +kernel
theorem dX0_setFilter_18 : decode cX0_setFilter 18 = .ok (.return_, 1) := by decide +kernel
theorem dX0_putFilter_0 : decode cX0_putFilter 0 = .ok (.aload_n 0, 1) := by decide +kernel
theorem dX0_putFilter_1 : decode cX0_putFilter 1 = .ok (.getfield 18, 3) := by decide +kernel
theorem dX0_putFilter_4 : decode cX0_putFilter 4 = .ok (.istore 4, 2) := by decide +kernel
theorem dX0_putFilter_6 : decode cX0_putFilter 6 = .ok (.iload 4, 2) := by decide +kernel
theorem dX0_putFilter_8 : decode cX0_putFilter 8 = .ok (.iload_n 1, 1) := by decide +kernel
theorem dX0_putFilter_9 : decode cX0_putFilter 9 = .ok (.if_icmp .le 31, 3) := by decide +kernel
theorem dX0_putFilter_12 : decode cX0_putFilter 12 = .ok (.aload_n 0, 1) := by decide +kernel
theorem dX0_putFilter_13 : decode cX0_putFilter 13 = .ok (.iload 4, 2) := by decide +kernel
theorem dX0_putFilter_15 : decode cX0_putFilter 15 = .ok (.aload_n 0, 1) := by decide +kernel
theorem dX0_putFilter_16 : decode cX0_putFilter 16 = .ok (.iload 4, 2) := by decide +kernel
theorem dX0_putFilter_18 : decode cX0_putFilter 18 = .ok (.iconst 1, 1) := by decide +kernel
theorem dX0_putFilter_19 : decode cX0_putFilter 19 = .ok (.isub, 1) := by decide +kernel
theorem dX0_putFilter_20 : decode cX0_putFilter 20 = .ok (.invokevirtual 42, 3) := by decide +kernel
theorem dX0_putFilter_23 : decode cX0_putFilter 23 = .ok (.aload_n 0, 1) := by decide +kernel
theorem dX0_putFilter_24 : decode cX0_putFilter 24 = .ok (.iload 4, 2) := by decide +kernel
theorem dX0_putFilter_26 : decode cX0_putFilter 26 = .ok (.iconst 1, 1) := by decide +kernel
theorem dX0_putFilter_27 : decode cX0_putFilter 27 = .ok (.isub, 1) := by decide +kernel
theorem dX0_putFilter_28 : decode cX0_putFilter 28 = .ok (.invokevirtual 46, 3) := by decide +kernel
theorem dX0_putFilter_31 : decode cX0_putFilter 31 = .ok (.invokevirtual 49, 3) := by decide +kernel
theorem dX0_putFilter_34 : decode cX0_putFilter 34 = .ok (.iinc 4 (-1), 3) := by decide +kernel
theorem dX0_putFilter_37 : decode cX0_putFilter 37 = .ok (.goto (-31), 3) := by decide +kernel
theorem dX0_putFilter_40 : decode cX0_putFilter 40 = .ok (.aload_n 0, 1) := by decide +kernel
theorem dX0_putFilter_41 : decode cX0_putFilter 41 = .ok (.iload_n 1, 1) := by decide +kernel
theorem dX0_putFilter_42 : decode cX0_putFilter 42 = .ok (.iload_n 2, 1) := by decide +kernel
theorem dX0_putFilter_43 : decode cX0_putFilter 43 = .ok (.iload_n 3, 1) := by decide +kernel
theorem dX0_putFilter_44 : decode cX0_putFilter 44 = .ok (.invokevirtual 49, 3) := by decide +kernel
theorem dX0_putFilter_47 : decode cX0_putFilter 47 = .ok (.aload_n 0, 1) := by decide +kernel
theorem dX0_putFilter_48 : decode cX0_putFilter 48 = .ok (.dup, 1) := by decide +kernel
theorem dX0_putFilter_49 : decode cX0_putFilter 49 = .ok (.getfield 18, 3) := by decide +kernel
theorem dX0_putFilter_52 : decode cX0_putFilter 52 = .ok (.iconst 1, 1) := by decide +kernel
theorem dX0_putFilter_53 : decode cX0_putFilter 53 = .ok (.iadd, 1) := by decide +kernel
theorem dX0_putFilter_54 : decode cX0_putFilter 54 = .ok (.putfield 18, 3) := by decide +kernel
theorem dX0_putFilter_57 : decode cX0_putFilter 57 = .ok (.aload_n 0, 1) := by decide +kernel
theorem dX0_putFilter_58 : decode cX0_putFilter 58 = .ok (.getfield 18, 3) := by decide +kernel
theorem dX0_putFilter_61 : decode cX0_putFilter 61 = .ok (.ireturn, 1) := by decide +kernel
theorem dX0_takeFilter_0 : decode cX0_takeFilter 0 = .ok (.aload_n 0, 1) := by decide +kernel
theorem dX0_takeFilter_1 : decode cX0_takeFilter 1 = .ok (.iload_n 1, 1) := by decide +kernel
theorem dX0_takeFilter_2 : decode cX0_takeFilter 2 = .ok (.invokevirtual 46, 3) := by decide +kernel
theorem dX0_takeFilter_5 : decode cX0_takeFilter 5 = .ok (.istore_n 2, 1) := by decide +kernel
theorem dX0_takeFilter_6 : decode cX0_takeFilter 6 = .ok (.aload_n 0, 1) := by decide +kernel
theorem dX0_takeFilter_7 : decode cX0_takeFilter 7 = .ok (.dup, 1) := by decide +kernel
theorem dX0_takeFilter_8 : decode cX0_takeFilter 8 = .ok (.getfield 18, 3) := by decide +kernel
theorem dX0_takeFilter_11 : decode cX0_takeFilter 11 = .ok (.iconst 1, 1) := by decide +kernel
theorem dX0_takeFilter_12 : decode cX0_takeFilter 12 = .ok (.isub, 1) := by decide +kernel
theorem dX0_takeFilter_13 : decode cX0_takeFilter 13 = .ok (.putfield 18, 3) := by decide +kernel
theorem dX0_takeFilter_16 : decode cX0_takeFilter 16 = .ok (.iload_n 1, 1) := by decide +kernel
theorem dX0_takeFilter_17 : decode cX0_takeFilter 17 = .ok (.istore_n 3, 1) := by decide +kernel
theorem dX0_takeFilter_18 : decode cX0_takeFilter 18 = .ok (.iload_n 3, 1) := by decide +kernel
theorem dX0_takeFilter_19 : decode cX0_takeFilter 19 = .ok (.aload_n 0, 1) := by decide +kernel
theorem dX0_takeFilter_20 : decode cX0_takeFilter 20 = .ok (.getfield 18, 3) := by decide +kernel
theorem dX0_takeFilter_23 : decode cX0_takeFilter 23 = .ok (.if_icmp .ge 28, 3) := by decide +kernel
theorem dX0_takeFilter_26 : decode cX0_takeFilter 26 = .ok (.aload_n 0, 1) := by decide +kernel
theorem dX0_takeFilter_27 : decode cX0_takeFilter 27 = .ok (.iload_n 3, 1) := by decide +kernel
theorem dX0_takeFilter_28 : decode cX0_takeFilter 28 = .ok (.aload_n 0, 1) := by decide +kernel
theorem dX0_takeFilter_29 : decode cX0_takeFilter 29 = .ok (.iload_n 3, 1) := by decide +kernel
theorem dX0_takeFilter_30 : decode cX0_takeFilter 30 = .ok (.iconst 1, 1) := by decide +kernel
theorem dX0_takeFilter_31 : decode cX0_takeFilter 31 = .ok (.iadd, 1) := by decide +kernel
theorem dX0_takeFilter_32 : decode cX0_takeFilter 32 = .ok (.invokevirtual 42, 3) := by decide +kernel
theorem dX0_takeFilter_35 : decode cX0_takeFilter 35 = .ok (.aload_n 0, 1) := by decide +kernel
theorem dX0_takeFilter_36 : decode cX0_takeFilter 36 = .ok (.iload_n 3, 1) := by decide +kernel
theorem dX0_takeFilter_37 : decode cX0_takeFilter 37 = .ok (.iconst 1, 1) := by decide +kernel
theorem dX0_takeFilter_38 : decode cX0_takeFilter 38 = .ok (.iadd, 1) := by decide +kernel
theorem dX0_takeFilter_39 : decode cX0_takeFilter 39 = .ok (.invokevirtual 46, 3) := by decide +kernel
theorem dX0_takeFilter_42 : decode cX0_takeFilter 42 = .ok (.invokevirtual 49, 3) := by decide +kernel
theorem dX0_takeFilter_45 : decode cX0_takeFilter 45 = .ok (.iinc 3 1, 3) := by decide +kernel
theorem dX0_takeFilter_48 : decode cX0_takeFilter 48 = .ok (.goto (-30), 3) := by decide +kernel
theorem dX0_takeFilter_51 : decode cX0_takeFilter 51 = .ok (.iload_n 2, 1) := by decide +kernel
theorem dX0_takeFilter_52 : decode cX0_takeFilter 52 = .ok (.ireturn, 1) := by decide +kernel
theorem dX0_exchange_0 : decode cX0_exchange 0 = .ok (.aload_n 0, 1) := by decide +kernel
theorem dX0_exchange_1 : decode cX0_exchange 1 = .ok (.iload_n 1, 1) := by decide +kernel
theorem dX0_exchange_2 : decode cX0_exchange 2 = .ok (.invokevirtual 42, 3) := by decide +kernel
theorem dX0_exchange_5 : decode cX0_exchange 5 = .ok (.istore_n 3, 1) := by decide +kernel
theorem dX0_exchange_6 : decode cX0_exchange 6 = .ok (.aload_n 0, 1) := by decide +kernel
theorem dX0_exchange_7 : decode cX0_exchange 7 = .ok (.iload_n 1, 1) := by decide +kernel
theorem dX0_exchange_8 : decode cX0_exchange 8 = .ok (.invokevirtual 46, 3) := by decide +kernel
theorem dX0_exchange_11 : decode cX0_exchange 11 = .ok (.istore 4, 2) := by decide +kernel
theorem dX0_exchange_13 : decode cX0_exchange 13 = .ok (.aload_n 0, 1) := by decide +kernel
theorem dX0_exchange_14 : decode cX0_exchange 14 = .ok (.iload_n 1, 1) := by decide +kernel
theorem dX0_exchange_15 : decode cX0_exchange 15 = .ok (.aload_n 0, 1) := by decide +kernel
theorem dX0_exchange_16 : decode cX0_exchange 16 = .ok (.iload_n 2, 1) := by decide +kernel
theorem dX0_exchange_17 : decode cX0_exchange 17 = .ok (.invokevirtual 42, 3) := by decide +kernel
theorem dX0_exchange_20 : decode cX0_exchange 20 = .ok (.aload_n 0, 1) := by decide +kernel
theorem dX0_exchange_21 : decode cX0_exchange 21 = .ok (.iload_n 2, 1) := by decide +kernel
theorem dX0_exchange_22 : decode cX0_exchange 22 = .ok (.invokevirtual 46, 3) := by decide +kernel
theorem dX0_exchange_25 : decode cX0_exchange 25 = .ok (.invokevirtual 49, 3) := by decide +kernel
theorem dX0_exchange_28 : decode cX0_exchange 28 = .ok (.aload_n 0, 1) := by decide +kernel
theorem dX0_exchange_29 : decode cX0_exchange 29 = .ok (.iload_n 2, 1) := by decide +kernel
theorem dX0_exchange_30 : decode cX0_exchange 30 = .ok (.iload_n 3, 1) := by decide +kernel
theorem dX0_exchange_31 : decode cX0_exchange 31 = .ok (.iload 4, 2) := by decide +kernel
theorem dX0_exchange_33 : decode cX0_exchange 33 = .ok (.invokevirtual 49, 3) := by decide +kernel
theorem dX0_exchange_36 : decode cX0_exchange 36 = .ok (.return_, 1) := by decide +kernel
theorem dX1_init_0 : decode cX1_init 0 = .ok (.aload_n 0, 1) := by decide +kernel
theorem dX1_init_1 : decode cX1_init 1 = .ok (.invokespecial 3, 3) := by decide +kernel
theorem dX1_init_4 : decode cX1_init 4 = .ok (.aload_n 0, 1) := by decide +kernel
theorem dX1_init_5 : decode cX1_init 5 = .ok (.bipush 60, 2) := by decide +kernel
theorem dX1_init_7 : decode cX1_init 7 = .ok (.newarray .int, 2) := by decide +kernel
theorem dX1_init_9 : decode cX1_init 9 = .ok (.putfield 9, 3) := by decide +kernel
theorem dX1_init_12 : decode cX1_init 12 = .ok (.aload_n 0, 1) := by decide +kernel
theorem dX1_init_13 : decode cX1_init 13 = .ok (.iconst 0, 1) := by decide +kernel
theorem dX1_init_14 : decode cX1_init 14 = .ok (.putfield 15, 3) := by decide +kernel
theorem dX1_init_17 : decode cX1_init 17 = .ok (.aload_n 0, 1) := by decide +kernel
theorem dX1_init_18 : decode cX1_init 18 = .ok (.bipush 12, 2) := by decide +kernel
theorem dX1_init_20 : decode cX1_init 20 = .ok (.newarray .int, 2) := by decide +kernel
theorem dX1_init_22 : decode cX1_init 22 = .ok (.putfield 19, 3) := by decide +kernel
theorem dX1_init_25 : decode cX1_init 25 = .ok (.aload_n 0, 1) := by decide +kernel
theorem dX1_init_26 : decode cX1_init 26 = .ok (.bipush 48, 2) := by decide +kernel
theorem dX1_init_28 : decode cX1_init 28 = .ok (.newarray .int, 2) := by decide +kernel
theorem dX1_init_30 : decode cX1_init 30 = .ok (.putfield 22, 3) := by decide +kernel
theorem dX1_init_33 : decode cX1_init 33 = .ok (.aload_n 0, 1) := by decide +kernel
theorem dX1_init_34 : decode cX1_init 34 = .ok (.iconst 0, 1) := by decide +kernel
theorem dX1_init_35 : decode cX1_init 35 = .ok (.putfield 25, 3) := by decide +kernel
theorem dX1_init_38 : decode cX1_init 38 = .ok (.aload_n 0, 1) := by decide +kernel
theorem dX1_init_39 : decode cX1_init 39 = .ok (.iconst 0, 1) := by decide +kernel
theorem dX1_init_40 : decode cX1_init 40 = .ok (.putfield 28, 3) := by decide +kernel
theorem dX1_init_43 : decode cX1_init 43 = .ok (.return_, 1) := by decide +kernel
theorem dX1_faultOfCharacter_0 : decode cX1_faultOfCharacter 0 = .ok (.iload_n 1, 1) := by decide +kernel
theorem dX1_faultOfCharacter_1 : decode cX1_faultOfCharacter 1 = .ok (.bipush 32, 2) := by decide +kernel
theorem dX1_faultOfCharacter_3 : decode cX1_faultOfCharacter 3 = .ok (.bipush 126, 2) := by decide +kernel
theorem dX1_faultOfCharacter_5 : decode cX1_faultOfCharacter 5 = .ok (.invokestatic 31, 3) := by decide +kernel
theorem dX1_faultOfCharacter_8 : decode cX1_faultOfCharacter 8 = .ok (.ifCond .ne 5, 3) := by decide +kernel
theorem dX1_faultOfCharacter_11 : decode cX1_faultOfCharacter 11 = .ok (.iconst 2, 1) := by decide +kernel
theorem dX1_faultOfCharacter_12 : decode cX1_faultOfCharacter 12 = .ok (.ireturn, 1) := by decide +kernel
theorem dX1_faultOfCharacter_13 : decode cX1_faultOfCharacter 13 = .ok (.aload_n 0, 1) := by decide +kernel
theorem dX1_faultOfCharacter_14 : decode cX1_faultOfCharacter 14 = .ok (.getfield 15, 3) := by decide +kernel
theorem dX1_faultOfCharacter_17 : decode cX1_faultOfCharacter 17 = .ok (.bipush 60, 2) := by decide +kernel
theorem dX1_faultOfCharacter_19 : decode cX1_faultOfCharacter 19 = .ok (.if_icmp .ge 7, 3) := by decide +kernel
theorem dX1_faultOfCharacter_22 : decode cX1_faultOfCharacter 22 = .ok (.iconst 0, 1) := by decide +kernel
theorem dX1_faultOfCharacter_23 : decode cX1_faultOfCharacter 23 = .ok (.goto 4, 3) := by decide +kernel
theorem dX1_faultOfCharacter_26 : decode cX1_faultOfCharacter 26 = .ok (.iconst 3, 1) := by decide +kernel
theorem dX1_faultOfCharacter_27 : decode cX1_faultOfCharacter 27 = .ok (.ireturn, 1) := by decide +kernel
theorem dX1_putCharacter_0 : decode cX1_putCharacter 0 = .ok (.aload_n 0, 1) := by decide +kernel
theorem dX1_putCharacter_1 : decode cX1_putCharacter 1 = .ok (.getfield 9, 3) := by decide +kernel
theorem dX1_putCharacter_4 : decode cX1_putCharacter 4 = .ok (.aload_n 0, 1) := by decide +kernel
theorem dX1_putCharacter_5 : decode cX1_putCharacter 5 = .ok (.getfield 15, 3) := by decide +kernel
theorem dX1_putCharacter_8 : decode cX1_putCharacter 8 = .ok (.iload_n 1, 1) := by decide +kernel
theorem dX1_putCharacter_9 : decode cX1_putCharacter 9 = .ok (.invokestatic 35, 3) := by decide +kernel
theorem dX1_putCharacter_12 : decode cX1_putCharacter 12 = .ok (.aload_n 0, 1) := by decide +kernel
theorem dX1_putCharacter_13 : decode cX1_putCharacter 13 = .ok (.dup, 1) := by decide +kernel
theorem dX1_putCharacter_14 : decode cX1_putCharacter 14 = .ok (.getfield 15, 3) := by decide +kernel
theorem dX1_putCharacter_17 : decode cX1_putCharacter 17 = .ok (.iconst 1, 1) := by decide +kernel
theorem dX1_putCharacter_18 : decode cX1_putCharacter 18 = .ok (.iadd, 1) := by decide +kernel
theorem dX1_putCharacter_19 : decode cX1_putCharacter 19 = .ok (.putfield 15, 3) := by decide +kernel
theorem dX1_putCharacter_22 : decode cX1_putCharacter 22 = .ok (.aload_n 0, 1) := by decide +kernel
theorem dX1_putCharacter_23 : decode cX1_putCharacter 23 = .ok (.getfield 15, 3) := by decide +kernel
theorem dX1_putCharacter_26 : decode cX1_putCharacter 26 = .ok (.ireturn, 1) := by decide +kernel
theorem dX1_clear_0 : decode cX1_clear 0 = .ok (.aload_n 0, 1) := by decide +kernel
theorem dX1_clear_1 : decode cX1_clear 1 = .ok (.iconst 0, 1) := by decide +kernel
theorem dX1_clear_2 : decode cX1_clear 2 = .ok (.putfield 15, 3) := by decide +kernel
theorem dX1_clear_5 : decode cX1_clear 5 = .ok (.return_, 1) := by decide +kernel
theorem dX1_signAt_0 : decode cX1_signAt 0 = .ok (.aload_n 0, 1) := by decide +kernel
theorem dX1_signAt_1 : decode cX1_signAt 1 = .ok (.getfield 19, 3) := by decide +kernel
theorem dX1_signAt_4 : decode cX1_signAt 4 = .ok (.iload_n 1, 1) := by decide +kernel
theorem dX1_signAt_5 : decode cX1_signAt 5 = .ok (.invokestatic 39, 3) := by decide +kernel
theorem dX1_signAt_8 : decode cX1_signAt 8 = .ok (.ireturn, 1) := by decide +kernel
theorem dX1_numberAt_0 : decode cX1_numberAt 0 = .ok (.aload_n 0, 1) := by decide +kernel
theorem dX1_numberAt_1 : decode cX1_numberAt 1 = .ok (.getfield 22, 3) := by decide +kernel
theorem dX1_numberAt_4 : decode cX1_numberAt 4 = .ok (.iload_n 1, 1) := by decide +kernel
theorem dX1_numberAt_5 : decode cX1_numberAt 5 = .ok (.iconst 4, 1) := by decide +kernel
theorem dX1_numberAt_6 : decode cX1_numberAt 6 = .ok (.imul, 1) := by decide +kernel
theorem dX1_numberAt_7 : decode cX1_numberAt 7 = .ok (.iload_n 2, 1) := by decide +kernel
theorem dX1_numberAt_8 : decode cX1_numberAt 8 = .ok (.iadd, 1) := by decide +kernel
theorem dX1_numberAt_9 : decode cX1_numberAt 9 = .ok (.invokestatic 39, 3) := by decide +kernel
theorem dX1_numberAt_12 : decode cX1_numberAt 12 = .ok (.ireturn, 1) := by decide +kernel
theorem dX1_parse_0 : decode cX1_parse 0 = .ok (.aload_n 0, 1) := by decide +kernel
theorem dX1_parse_1 : decode cX1_parse 1 = .ok (.iconst 0, 1) := by decide +kernel
theorem dX1_parse_2 : decode cX1_parse 2 = .ok (.putfield 25, 3) := by decide +kernel
theorem dX1_parse_5 : decode cX1_parse 5 = .ok (.aload_n 0, 1) := by decide +kernel
theorem dX1_parse_6 : decode cX1_parse 6 = .ok (.iconst 0, 1) := by decide +kernel
theorem dX1_parse_7 : decode cX1_parse 7 = .ok (.putfield 28, 3) := by decide +kernel
theorem dX1_parse_10 : decode cX1_parse 10 = .ok (.iconst 0, 1) := by decide +kernel
theorem dX1_parse_11 : decode cX1_parse 11 = .ok (.istore_n 1, 1) := by decide +kernel
theorem dX1_parse_12 : decode cX1_parse 12 = .ok (.iload_n 1, 1) := by decide +kernel
theorem dX1_parse_13 : decode cX1_parse 13 = .ok (.bipush 60, 2) := by decide +kernel
theorem dX1_parse_15 : decode cX1_parse 15 = .ok (.if_icmp .ge 42, 3) := by decide +kernel
theorem dX1_parse_18 : decode cX1_parse 18 = .ok (.aload_n 0, 1) := by decide +kernel
theorem dX1_parse_19 : decode cX1_parse 19 = .ok (.invokevirtual 43, 3) := by decide +kernel
theorem dX1_parse_22 : decode cX1_parse 22 = .ok (.ifCond .ne 5, 3) := by decide +kernel
theorem dX1_parse_25 : decode cX1_parse 25 = .ok (.iconst 0, 1) := by decide +kernel
theorem dX1_parse_26 : decode cX1_parse 26 = .ok (.ireturn, 1) := by decide +kernel
theorem dX1_parse_27 : decode cX1_parse 27 = .ok (.aload_n 0, 1) := by decide +kernel
theorem dX1_parse_28 : decode cX1_parse 28 = .ok (.getfield 28, 3) := by decide +kernel
theorem dX1_parse_31 : decode cX1_parse 31 = .ok (.aload_n 0, 1) := by decide +kernel
theorem dX1_parse_32 : decode cX1_parse 32 = .ok (.getfield 15, 3) := by decide +kernel
theorem dX1_parse_35 : decode cX1_parse 35 = .ok (.if_icmp .ne 5, 3) := by decide +kernel
theorem dX1_parse_38 : decode cX1_parse 38 = .ok (.iconst 1, 1) := by decide +kernel
theorem dX1_parse_39 : decode cX1_parse 39 = .ok (.ireturn, 1) := by decide +kernel
theorem dX1_parse_40 : decode cX1_parse 40 = .ok (.aload_n 0, 1) := by decide +kernel
theorem dX1_parse_41 : decode cX1_parse 41 = .ok (.bipush 59, 2) := by decide +kernel
theorem dX1_parse_43 : decode cX1_parse 43 = .ok (.invokevirtual 47, 3) := by decide +kernel
theorem dX1_parse_46 : decode cX1_parse 46 = .ok (.ifCond .ne 5, 3) := by decide +kernel
theorem dX1_parse_49 : decode cX1_parse 49 = .ok (.iconst 0, 1) := by decide +kernel
theorem dX1_parse_50 : decode cX1_parse 50 = .ok (.ireturn, 1) := by decide +kernel
theorem dX1_parse_51 : decode cX1_parse 51 = .ok (.iinc 1 1, 3) := by decide +kernel
theorem dX1_parse_54 : decode cX1_parse 54 = .ok (.goto (-42), 3) := by decide +kernel
theorem dX1_parse_57 : decode cX1_parse 57 = .ok (.iconst 0, 1) := by decide +kernel
theorem dX1_parse_58 : decode cX1_parse 58 = .ok (.ireturn, 1) := by decide +kernel
theorem dX1_characterAt_0 : decode cX1_characterAt 0 = .ok (.iload_n 1, 1) := by decide +kernel
theorem dX1_characterAt_1 : decode cX1_characterAt 1 = .ok (.aload_n 0, 1) := by decide +kernel
theorem dX1_characterAt_2 : decode cX1_characterAt 2 = .ok (.getfield 15, 3) := by decide +kernel
theorem dX1_characterAt_5 : decode cX1_characterAt 5 = .ok (.if_icmp .ge 14, 3) := by decide +kernel
theorem dX1_characterAt_8 : decode cX1_characterAt 8 = .ok (.aload_n 0, 1) := by decide +kernel
theorem dX1_characterAt_9 : decode cX1_characterAt 9 = .ok (.getfield 9, 3) := by decide +kernel
theorem dX1_characterAt_12 : decode cX1_characterAt 12 = .ok (.iload_n 1, 1) := by decide +kernel
theorem dX1_characterAt_13 : decode cX1_characterAt 13 = .ok (.invokestatic 39, 3) := by decide +kernel
theorem dX1_characterAt_16 : decode cX1_characterAt 16 = .ok (.goto 4, 3) := by decide +kernel
theorem dX1_characterAt_19 : decode cX1_characterAt 19 = .ok (.iconst (-1), 1) := by decide +kernel
theorem dX1_characterAt_20 : decode cX1_characterAt 20 = .ok (.ireturn, 1) := by decide +kernel
theorem dX1_takeSign_0 : decode cX1_takeSign 0 = .ok (.aload_n 0, 1) := by decide +kernel
theorem dX1_takeSign_1 : decode cX1_takeSign 1 = .ok (.aload_n 0, 1) := by decide +kernel
theorem dX1_takeSign_2 : decode cX1_takeSign 2 = .ok (.getfield 28, 3) := by decide +kernel
theorem dX1_takeSign_5 : decode cX1_takeSign 5 = .ok (.invokevirtual 51, 3) := by decide +kernel
theorem dX1_takeSign_8 : decode cX1_takeSign 8 = .ok (.iload_n 1, 1) := by decide +kernel
theorem dX1_takeSign_9 : decode cX1_takeSign 9 = .ok (.if_icmp .eq 5, 3) := by decide +kernel
theorem dX1_takeSign_12 : decode cX1_takeSign 12 = .ok (.iconst 0, 1) := by decide +kernel
theorem dX1_takeSign_13 : decode cX1_takeSign 13 = .ok (.ireturn, 1) := by decide +kernel
theorem dX1_takeSign_14 : decode cX1_takeSign 14 = .ok (.aload_n 0, 1) := by decide +kernel
theorem dX1_takeSign_15 : decode cX1_takeSign 15 = .ok (.dup, 1) := by decide +kernel
theorem dX1_takeSign_16 : decode cX1_takeSign 16 = .ok (.getfield 28, 3) := by decide +kernel
theorem dX1_takeSign_19 : decode cX1_takeSign 19 = .ok (.iconst 1, 1) := by decide +kernel
theorem dX1_takeSign_20 : decode cX1_takeSign 20 = .ok (.iadd, 1) := by decide +kernel
theorem dX1_takeSign_21 : decode cX1_takeSign 21 = .ok (.putfield 28, 3) := by decide +kernel
theorem dX1_takeSign_24 : decode cX1_takeSign 24 = .ok (.iconst 1, 1) := by decide +kernel
theorem dX1_takeSign_25 : decode cX1_takeSign 25 = .ok (.ireturn, 1) := by decide +kernel
theorem dX1_takeCommand_0 : decode cX1_takeCommand 0 = .ok (.iconst 0, 1) := by decide +kernel
theorem dX1_takeCommand_1 : decode cX1_takeCommand 1 = .ok (.istore_n 1, 1) := by decide +kernel
theorem dX1_takeCommand_2 : decode cX1_takeCommand 2 = .ok (.getstatic 55, 3) := by decide +kernel
theorem dX1_takeCommand_5 : decode cX1_takeCommand 5 = .ok (.astore_n 2, 1) := by decide +kernel
theorem dX1_takeCommand_6 : decode cX1_takeCommand 6 = .ok (.aload_n 2, 1) := by decide +kernel
theorem dX1_takeCommand_7 : decode cX1_takeCommand 7 = .ok (.arraylength, 1) := by decide +kernel
theorem dX1_takeCommand_8 : decode cX1_takeCommand 8 = .ok (.istore_n 3, 1) := by decide +kernel
theorem dX1_takeCommand_9 : decode cX1_takeCommand 9 = .ok (.iconst 0, 1) := by decide +kernel
theorem dX1_takeCommand_10 : decode cX1_takeCommand 10 = .ok (.istore 4, 2) := by decide +kernel
theorem dX1_takeCommand_12 : decode cX1_takeCommand 12 = .ok (.iload 4, 2) := by decide +kernel
theorem dX1_takeCommand_14 : decode cX1_takeCommand 14 = .ok (.iload_n 3, 1) := by decide +kernel
theorem dX1_takeCommand_15 : decode cX1_takeCommand 15 = .ok (.if_icmp .ge 64, 3) := by decide +kernel
theorem dX1_takeCommand_18 : decode cX1_takeCommand 18 = .ok (.aload_n 2, 1) := by decide +kernel
theorem dX1_takeCommand_19 : decode cX1_takeCommand 19 = .ok (.iload 4, 2) := by decide +kernel
theorem dX1_takeCommand_21 : decode cX1_takeCommand 21 = .ok (.aaload, 1) := by decide +kernel
theorem dX1_takeCommand_22 : decode cX1_takeCommand 22 = .ok (.astore 5, 2) := by decide +kernel
theorem dX1_takeCommand_24 : decode cX1_takeCommand 24 = .ok (.aload_n 0, 1) := by decide +kernel
theorem dX1_takeCommand_25 : decode cX1_takeCommand 25 = .ok (.aload 5, 2) := by decide +kernel
theorem dX1_takeCommand_27 : decode cX1_takeCommand 27 = .ok (.getfield 59, 3) := by decide +kernel
theorem dX1_takeCommand_30 : decode cX1_takeCommand 30 = .ok (.invokevirtual 65, 3) := by decide +kernel
theorem dX1_takeCommand_33 : decode cX1_takeCommand 33 = .ok (.istore 6, 2) := by decide +kernel
theorem dX1_takeCommand_35 : decode cX1_takeCommand 35 = .ok (.iload 6, 2) := by decide +kernel
theorem dX1_takeCommand_37 : decode cX1_takeCommand 37 = .ok (.aload 5, 2) := by decide +kernel
theorem dX1_takeCommand_39 : decode cX1_takeCommand 39 = .ok (.getfield 59, 3) := by decide +kernel
theorem dX1_takeCommand_42 : decode cX1_takeCommand 42 = .ok (.invokevirtual 69, 3) := by decide +kernel
theorem dX1_takeCommand_45 : decode cX1_takeCommand 45 = .ok (.if_icmp .ne 21, 3) := by decide +kernel
theorem dX1_takeCommand_48 : decode cX1_takeCommand 48 = .ok (.aload_n 0, 1) := by decide +kernel
theorem dX1_takeCommand_49 : decode cX1_takeCommand 49 = .ok (.dup, 1) := by decide +kernel
theorem dX1_takeCommand_50 : decode cX1_takeCommand 50 = .ok (.getfield 28, 3) := by decide +kernel
theorem dX1_takeCommand_53 : decode cX1_takeCommand 53 = .ok (.iload 6, 2) := by decide +kernel
theorem dX1_takeCommand_55 : decode cX1_takeCommand 55 = .ok (.iadd, 1) := by decide +kernel
theorem dX1_takeCommand_56 : decode cX1_takeCommand 56 = .ok (.putfield 28, 3) := by decide +kernel
theorem dX1_takeCommand_59 : decode cX1_takeCommand 59 = .ok (.aload_n 0, 1) := by decide +kernel
theorem dX1_takeCommand_60 : decode cX1_takeCommand 60 = .ok (.aload 5, 2) := by decide +kernel
theorem dX1_takeCommand_62 : decode cX1_takeCommand 62 = .ok (.invokevirtual 74, 3) := by decide +kernel
theorem dX1_takeCommand_65 : decode cX1_takeCommand 65 = .ok (.ireturn, 1) := by decide +kernel
theorem dX1_takeCommand_66 : decode cX1_takeCommand 66 = .ok (.iload_n 1, 1) := by decide +kernel
theorem dX1_takeCommand_67 : decode cX1_takeCommand 67 = .ok (.iload 6, 2) := by decide +kernel
theorem dX1_takeCommand_69 : decode cX1_takeCommand 69 = .ok (.invokestatic 78, 3) := by decide +kernel
theorem dX1_takeCommand_72 : decode cX1_takeCommand 72 = .ok (.istore_n 1, 1) := by decide +kernel
theorem dX1_takeCommand_73 : decode cX1_takeCommand 73 = .ok (.iinc 4 1, 3) := by decide +kernel
theorem dX1_takeCommand_76 : decode cX1_takeCommand 76 = .ok (.goto (-64), 3) := by decide +kernel
theorem dX1_takeCommand_79 : decode cX1_takeCommand 79 = .ok (.aload_n 0, 1) := by decide +kernel
theorem dX1_takeCommand_80 : decode cX1_takeCommand 80 = .ok (.dup, 1) := by decide +kernel
theorem dX1_takeCommand_81 : decode cX1_takeCommand 81 = .ok (.getfield 28, 3) := by decide +kernel
theorem dX1_takeCommand_84 : decode cX1_takeCommand 84 = .ok (.iload_n 1, 1) := by decide +kernel
theorem dX1_takeCommand_85 : decode cX1_takeCommand 85 = .ok (.iadd, 1) := by decide +kernel
theorem dX1_takeCommand_86 : decode cX1_takeCommand 86 = .ok (.putfield 28, 3) := by decide +kernel
theorem dX1_takeCommand_89 : decode cX1_takeCommand 89 = .ok (.iconst 0, 1) := by decide +kernel
theorem dX1_takeCommand_90 : decode cX1_takeCommand 90 = .ok (.ireturn, 1) := by decide +kernel
theorem dX1_sameCharacters_0 : decode cX1_sameCharacters 0 = .ok (.iconst 0, 1) := by decide +kernel
theorem dX1_sameCharacters_1 : decode cX1_sameCharacters 1 = .ok (.istore_n 2, 1) := by decide +kernel
theorem dX1_sameCharacters_2 : decode cX1_sameCharacters 2 = .ok (.iload_n 2, 1) := by decide +kernel
theorem dX1_sameCharacters_3 : decode cX1_sameCharacters 3 = .ok (.aload_n 1, 1) := by decide +kernel
theorem dX1_sameCharacters_4 : decode cX1_sameCharacters 4 = .ok (.invokevirtual 69, 3) := by decide +kernel
theorem dX1_sameCharacters_7 : decode cX1_sameCharacters 7 = .ok (.if_icmp .ge 27, 3) := by decide +kernel
theorem dX1_sameCharacters_10 : decode cX1_sameCharacters 10 = .ok (.aload_n 0, 1) := by decide +kernel
theorem dX1_sameCharacters_11 : decode cX1_sameCharacters 11 = .ok (.aload_n 0, 1) := by decide +kernel
theorem dX1_sameCharacters_12 : decode cX1_sameCharacters 12 = .ok (.getfield 28, 3) := by decide +kernel
theorem dX1_sameCharacters_15 : decode cX1_sameCharacters 15 = .ok (.iload_n 2, 1) := by decide +kernel
theorem dX1_sameCharacters_16 : decode cX1_sameCharacters 16 = .ok (.iadd, 1) := by decide +kernel
theorem dX1_sameCharacters_17 : decode cX1_sameCharacters 17 = .ok (.invokevirtual 51, 3) := by decide +kernel
theorem dX1_sameCharacters_20 : decode cX1_sameCharacters 20 = .ok (.aload_n 1, 1) := by decide +kernel
theorem dX1_sameCharacters_21 : decode cX1_sameCharacters 21 = .ok (.iload_n 2, 1) := by decide +kernel
theorem dX1_sameCharacters_22 : decode cX1_sameCharacters 22 = .ok (.invokevirtual 84, 3) := by decide +kernel
theorem dX1_sameCharacters_25 : decode cX1_sameCharacters 25 = .ok (.if_icmp .ne 9, 3) := by decide +kernel
theorem dX1_sameCharacters_28 : decode cX1_sameCharacters 28 = .ok (.iinc 2 1, 3) := by decide +kernel
theorem dX1_sameCharacters_31 : decode cX1_sameCharacters 31 = .ok (.goto (-29), 3) := by decide +kernel
theorem dX1_sameCharacters_34 : decode cX1_sameCharacters 34 = .ok (.iload_n 2, 1) := by decide +kernel
theorem dX1_sameCharacters_35 : decode cX1_sameCharacters 35 = .ok (.ireturn, 1) := by decide +kernel
theorem dX1_takeNumbers_0 : decode cX1_takeNumbers 0 = .ok (.iconst 0, 1) := by decide +kernel
theorem dX1_takeNumbers_1 : decode cX1_takeNumbers 1 = .ok (.istore_n 2, 1) := by decide +kernel
theorem dX1_takeNumbers_2 : decode cX1_takeNumbers 2 = .ok (.iload_n 2, 1) := by decide +kernel
theorem dX1_takeNumbers_3 : decode cX1_takeNumbers 3 = .ok (.aload_n 1, 1) := by decide +kernel
theorem dX1_takeNumbers_4 : decode cX1_takeNumbers 4 = .ok (.getfield 88, 3) := by decide +kernel
theorem dX1_takeNumbers_7 : decode cX1_takeNumbers 7 = .ok (.invokevirtual 69, 3) := by decide +kernel
theorem dX1_takeNumbers_10 : decode cX1_takeNumbers 10 = .ok (.if_icmp .ge 70, 3) := by decide +kernel
theorem dX1_takeNumbers_13 : decode cX1_takeNumbers 13 = .ok (.iload_n 2, 1) := by decide +kernel
theorem dX1_takeNumbers_14 : decode cX1_takeNumbers 14 = .ok (.ifCond .le 14, 3) := by decide +kernel
theorem dX1_takeNumbers_17 : decode cX1_takeNumbers 17 = .ok (.aload_n 0, 1) := by decide +kernel
theorem dX1_takeNumbers_18 : decode cX1_takeNumbers 18 = .ok (.bipush 32, 2) := by decide +kernel
theorem dX1_takeNumbers_20 : decode cX1_takeNumbers 20 = .ok (.invokevirtual 47, 3) := by decide +kernel
theorem dX1_takeNumbers_23 : decode cX1_takeNumbers 23 = .ok (.ifCond .ne 5, 3) := by decide +kernel
theorem dX1_takeNumbers_26 : decode cX1_takeNumbers 26 = .ok (.iconst 0, 1) := by decide +kernel
theorem dX1_takeNumbers_27 : decode cX1_takeNumbers 27 = .ok (.ireturn, 1) := by decide +kernel
theorem dX1_takeNumbers_28 : decode cX1_takeNumbers 28 = .ok (.aload_n 0, 1) := by decide +kernel
theorem dX1_takeNumbers_29 : decode cX1_takeNumbers 29 = .ok (.aload_n 1, 1) := by decide +kernel
theorem dX1_takeNumbers_30 : decode cX1_takeNumbers 30 = .ok (.getfield 88, 3) := by decide +kernel
theorem dX1_takeNumbers_33 : decode cX1_takeNumbers 33 = .ok (.iload_n 2, 1) := by decide +kernel
theorem dX1_takeNumbers_34 : decode cX1_takeNumbers 34 = .ok (.invokevirtual 84, 3) := by decide +kernel
theorem dX1_takeNumbers_37 : decode cX1_takeNumbers 37 = .ok (.bipush 100, 2) := by decide +kernel
theorem dX1_takeNumbers_39 : decode cX1_takeNumbers 39 = .ok (.if_icmp .ne 7, 3) := by decide +kernel
theorem dX1_takeNumbers_42 : decode cX1_takeNumbers 42 = .ok (.iconst 1, 1) := by decide +kernel
theorem dX1_takeNumbers_43 : decode cX1_takeNumbers 43 = .ok (.goto 4, 3) := by decide +kernel
theorem dX1_takeNumbers_46 : decode cX1_takeNumbers 46 = .ok (.iconst 3, 1) := by decide +kernel
theorem dX1_takeNumbers_47 : decode cX1_takeNumbers 47 = .ok (.invokevirtual 91, 3) := by decide +kernel
theorem dX1_takeNumbers_50 : decode cX1_takeNumbers 50 = .ok (.istore_n 3, 1) := by decide +kernel
theorem dX1_takeNumbers_51 : decode cX1_takeNumbers 51 = .ok (.iload_n 3, 1) := by decide +kernel
theorem dX1_takeNumbers_52 : decode cX1_takeNumbers 52 = .ok (.iconst (-1), 1) := by decide +kernel
theorem dX1_takeNumbers_53 : decode cX1_takeNumbers 53 = .ok (.if_icmp .ne 5, 3) := by decide +kernel
theorem dX1_takeNumbers_56 : decode cX1_takeNumbers 56 = .ok (.iconst 0, 1) := by decide +kernel
theorem dX1_takeNumbers_57 : decode cX1_takeNumbers 57 = .ok (.ireturn, 1) := by decide +kernel
theorem dX1_takeNumbers_58 : decode cX1_takeNumbers 58 = .ok (.aload_n 0, 1) := by decide +kernel
theorem dX1_takeNumbers_59 : decode cX1_takeNumbers 59 = .ok (.getfield 22, 3) := by decide +kernel
theorem dX1_takeNumbers_62 : decode cX1_takeNumbers 62 = .ok (.aload_n 0, 1) := by decide +kernel
theorem dX1_takeNumbers_63 : decode cX1_takeNumbers 63 = .ok (.getfield 25, 3) := by decide +kernel
theorem dX1_takeNumbers_66 : decode cX1_takeNumbers 66 = .ok (.iconst 4, 1) := by decide +kernel
theorem dX1_takeNumbers_67 : decode cX1_takeNumbers 67 = .ok (.imul, 1) := by decide +kernel
theorem dX1_takeNumbers_68 : decode cX1_takeNumbers 68 = .ok (.iload_n 2, 1) := by decide +kernel
theorem dX1_takeNumbers_69 : decode cX1_takeNumbers 69 = .ok (.iadd, 1) := by decide +kernel
theorem dX1_takeNumbers_70 : decode cX1_takeNumbers 70 = .ok (.iload_n 3, 1) := by decide +kernel
theorem dX1_takeNumbers_71 : decode cX1_takeNumbers 71 = .ok (.invokestatic 35, 3) := by decide +kernel
theorem dX1_takeNumbers_74 : decode cX1_takeNumbers 74 = .ok (.iinc 2 1, 3) := by decide +kernel
theorem dX1_takeNumbers_77 : decode cX1_takeNumbers 77 = .ok (.goto (-75), 3) := by decide +kernel
theorem dX1_takeNumbers_80 : decode cX1_takeNumbers 80 = .ok (.aload_n 1, 1) := by decide +kernel
theorem dX1_takeNumbers_81 : decode cX1_takeNumbers 81 = .ok (.getfield 88, 3) := by decide +kernel
theorem dX1_takeNumbers_84 : decode cX1_takeNumbers 84 = .ok (.invokevirtual 94, 3) := by decide +kernel
theorem dX1_takeNumbers_87 : decode cX1_takeNumbers 87 = .ok (.ifCond .eq 17, 3) := by decide +kernel
theorem dX1_takeNumbers_90 : decode cX1_takeNumbers 90 = .ok (.aload_n 0, 1) := by decide +kernel
theorem dX1_takeNumbers_91 : decode cX1_takeNumbers 91 = .ok (.getfield 22, 3) := by decide +kernel
theorem dX1_takeNumbers_94 : decode cX1_takeNumbers 94 = .ok (.aload_n 0, 1) := by decide +kernel
theorem dX1_takeNumbers_95 : decode cX1_takeNumbers 95 = .ok (.getfield 25, 3) := by decide +kernel
theorem dX1_takeNumbers_98 : decode cX1_takeNumbers 98 = .ok (.iconst 4, 1) := by decide +kernel
theorem dX1_takeNumbers_99 : decode cX1_takeNumbers 99 = .ok (.imul, 1) := by decide +kernel
theorem dX1_takeNumbers_100 : decode cX1_takeNumbers 100 = .ok (.iconst 0, 1) := by decide +kernel
theorem dX1_takeNumbers_101 : decode cX1_takeNumbers 101 = .ok (.invokestatic 35, 3) := by decide +kernel
theorem dX1_takeNumbers_104 : decode cX1_takeNumbers 104 = .ok (.aload_n 0, 1) := by decide +kernel
theorem dX1_takeNumbers_105 : decode cX1_takeNumbers 105 = .ok (.getfield 19, 3) := by decide +kernel
theorem dX1_takeNumbers_108 : decode cX1_takeNumbers 108 = .ok (.aload_n 0, 1) := by decide +kernel
theorem dX1_takeNumbers_109 : decode cX1_takeNumbers 109 = .ok (.getfield 25, 3) := by decide +kernel
theorem dX1_takeNumbers_112 : decode cX1_takeNumbers 112 = .ok (.aload_n 1, 1) := by decide +kernel
theorem dX1_takeNumbers_113 : decode cX1_takeNumbers 113 = .ok (.getfield 97, 3) := by decide +kernel
theorem dX1_takeNumbers_116 : decode cX1_takeNumbers 116 = .ok (.invokestatic 35, 3) := by decide +kernel
theorem dX1_takeNumbers_119 : decode cX1_takeNumbers 119 = .ok (.aload_n 0, 1) := by decide +kernel
theorem dX1_takeNumbers_120 : decode cX1_takeNumbers 120 = .ok (.dup, 1) := by decide +kernel
theorem dX1_takeNumbers_121 : decode cX1_takeNumbers 121 = .ok (.getfield 25, 3) := by decide +kernel
theorem dX1_takeNumbers_124 : decode cX1_takeNumbers 124 = .ok (.iconst 1, 1) := by decide +kernel
theorem dX1_takeNumbers_125 : decode cX1_takeNumbers 125 = .ok (.iadd, 1) := by decide +kernel
theorem dX1_takeNumbers_126 : decode cX1_takeNumbers 126 = .ok (.putfield 25, 3) := by decide +kernel
theorem dX1_takeNumbers_129 : decode cX1_takeNumbers 129 = .ok (.iconst 1, 1) := by decide +kernel
theorem dX1_takeNumbers_130 : decode cX1_takeNumbers 130 = .ok (.ireturn, 1) := by decide +kernel
theorem dX1_takeNumber_0 : decode cX1_takeNumber 0 = .ok (.iconst 0, 1) := by decide +kernel
theorem dX1_takeNumber_1 : decode cX1_takeNumber 1 = .ok (.istore_n 2, 1) := by decide +kernel
theorem dX1_takeNumber_2 : decode cX1_takeNumber 2 = .ok (.iconst 0, 1) := by decide +kernel
theorem dX1_takeNumber_3 : decode cX1_takeNumber 3 = .ok (.istore_n 3, 1) := by decide +kernel
theorem dX1_takeNumber_4 : decode cX1_takeNumber 4 = .ok (.iload_n 3, 1) := by decide +kernel
theorem dX1_takeNumber_5 : decode cX1_takeNumber 5 = .ok (.iload_n 1, 1) := by decide +kernel
theorem dX1_takeNumber_6 : decode cX1_takeNumber 6 = .ok (.if_icmp .ge 54, 3) := by decide +kernel
theorem dX1_takeNumber_9 : decode cX1_takeNumber 9 = .ok (.aload_n 0, 1) := by decide +kernel
theorem dX1_takeNumber_10 : decode cX1_takeNumber 10 = .ok (.aload_n 0, 1) := by decide +kernel
theorem dX1_takeNumber_11 : decode cX1_takeNumber 11 = .ok (.getfield 28, 3) := by decide +kernel
theorem dX1_takeNumber_14 : decode cX1_takeNumber 14 = .ok (.invokevirtual 51, 3) := by decide +kernel
theorem dX1_takeNumber_17 : decode cX1_takeNumber 17 = .ok (.bipush 48, 2) := by decide +kernel
theorem dX1_takeNumber_19 : decode cX1_takeNumber 19 = .ok (.bipush 57, 2) := by decide +kernel
theorem dX1_takeNumber_21 : decode cX1_takeNumber 21 = .ok (.invokestatic 31, 3) := by decide +kernel
theorem dX1_takeNumber_24 : decode cX1_takeNumber 24 = .ok (.ifCond .eq 36, 3) := by decide +kernel
theorem dX1_takeNumber_27 : decode cX1_takeNumber 27 = .ok (.iload_n 2, 1) := by decide +kernel
theorem dX1_takeNumber_28 : decode cX1_takeNumber 28 = .ok (.bipush 10, 2) := by decide +kernel
theorem dX1_takeNumber_30 : decode cX1_takeNumber 30 = .ok (.imul, 1) := by decide +kernel
theorem dX1_takeNumber_31 : decode cX1_takeNumber 31 = .ok (.aload_n 0, 1) := by decide +kernel
theorem dX1_takeNumber_32 : decode cX1_takeNumber 32 = .ok (.aload_n 0, 1) := by decide +kernel
theorem dX1_takeNumber_33 : decode cX1_takeNumber 33 = .ok (.getfield 28, 3) := by decide +kernel
theorem dX1_takeNumber_36 : decode cX1_takeNumber 36 = .ok (.invokevirtual 51, 3) := by decide +kernel
theorem dX1_takeNumber_39 : decode cX1_takeNumber 39 = .ok (.iadd, 1) := by decide +kernel
theorem dX1_takeNumber_40 : decode cX1_takeNumber 40 = .ok (.bipush 48, 2) := by decide +kernel
theorem dX1_takeNumber_42 : decode cX1_takeNumber 42 = .ok (.isub, 1) := by decide +kernel
theorem dX1_takeNumber_43 : decode cX1_takeNumber 43 = .ok (.istore_n 2, 1) := by decide +kernel
theorem dX1_takeNumber_44 : decode cX1_takeNumber 44 = .ok (.iinc 3 1, 3) := by decide +kernel
theorem dX1_takeNumber_47 : decode cX1_takeNumber 47 = .ok (.aload_n 0, 1) := by decide +kernel
theorem dX1_takeNumber_48 : decode cX1_takeNumber 48 = .ok (.dup, 1) := by decide +kernel
theorem dX1_takeNumber_49 : decode cX1_takeNumber 49 = .ok (.getfield 28, 3) := by decide +kernel
theorem dX1_takeNumber_52 : decode cX1_takeNumber 52 = .ok (.iconst 1, 1) := by decide +kernel
theorem dX1_takeNumber_53 : decode cX1_takeNumber 53 = .ok (.iadd, 1) := by decide +kernel
theorem dX1_takeNumber_54 : decode cX1_takeNumber 54 = .ok (.putfield 28, 3) := by decide +kernel
theorem dX1_takeNumber_57 : decode cX1_takeNumber 57 = .ok (.goto (-53), 3) := by decide +kernel
theorem dX1_takeNumber_60 : decode cX1_takeNumber 60 = .ok (.iload_n 3, 1) := by decide +kernel
theorem dX1_takeNumber_61 : decode cX1_takeNumber 61 = .ok (.ifCond .le 7, 3) := by decide +kernel
theorem dX1_takeNumber_64 : decode cX1_takeNumber 64 = .ok (.iload_n 2, 1) := by decide +kernel
theorem dX1_takeNumber_65 : decode cX1_takeNumber 65 = .ok (.goto 4, 3) := by decide +kernel
theorem dX1_takeNumber_68 : decode cX1_takeNumber 68 = .ok (.iconst (-1), 1) := by decide +kernel
theorem dX1_takeNumber_69 : decode cX1_takeNumber 69 = .ok (.ireturn, 1) := by decide +kernel
theorem dX2_init_0 : decode cX2_init 0 = .ok (.aload_n 0, 1) := by decide +kernel
theorem dX2_init_1 : decode cX2_init 1 = .ok (.invokespecial 3, 3) := by decide +kernel
theorem dX2_init_4 : decode cX2_init 4 = .ok (.aload_n 0, 1) := by decide +kernel
theorem dX2_init_5 : decode cX2_init 5 = .ok (.bipush 8, 2) := by decide +kernel
theorem dX2_init_7 : decode cX2_init 7 = .ok (.anewarray 9, 3) := by decide +kernel
theorem dX2_init_10 : decode cX2_init 10 = .ok (.putfield 11, 3) := by decide +kernel
theorem dX2_init_13 : decode cX2_init 13 = .ok (.aload_n 0, 1) := by decide +kernel
theorem dX2_init_14 : decode cX2_init 14 = .ok (.iconst 0, 1) := by decide +kernel
theorem dX2_init_15 : decode cX2_init 15 = .ok (.putfield 17, 3) := by decide +kernel
theorem dX2_init_18 : decode cX2_init 18 = .ok (.aload_n 0, 1) := by decide +kernel
theorem dX2_init_19 : decode cX2_init 19 = .ok (.iconst 0, 1) := by decide +kernel
theorem dX2_init_20 : decode cX2_init 20 = .ok (.putfield 21, 3) := by decide +kernel
theorem dX2_init_23 : decode cX2_init 23 = .ok (.return_, 1) := by decide +kernel
theorem dX2_stateAt_0 : decode cX2_stateAt 0 = .ok (.iload_n 1, 1) := by decide +kernel
theorem dX2_stateAt_1 : decode cX2_stateAt 1 = .ok (.bipush 7, 2) := by decide +kernel
theorem dX2_stateAt_3 : decode cX2_stateAt 3 = .ok (.iand, 1) := by decide +kernel
theorem dX2_stateAt_4 : decode cX2_stateAt 4 = .ok (.istore_n 2, 1) := by decide +kernel
theorem dX2_stateAt_5 : decode cX2_stateAt 5 = .ok (.aload_n 0, 1) := by decide +kernel
theorem dX2_stateAt_6 : decode cX2_stateAt 6 = .ok (.getfield 11, 3) := by decide +kernel
theorem dX2_stateAt_9 : decode cX2_stateAt 9 = .ok (.iload_n 2, 1) := by decide +kernel
theorem dX2_stateAt_10 : decode cX2_stateAt 10 = .ok (.aaload, 1) := by decide +kernel
theorem dX2_stateAt_11 : decode cX2_stateAt 11 = .ok (.astore_n 3, 1) := by decide +kernel
theorem dX2_stateAt_12 : decode cX2_stateAt 12 = .ok (.aload_n 3, 1) := by decide +kernel
theorem dX2_stateAt_13 : decode cX2_stateAt 13 = .ok (.ifnonnull 18, 3) := by decide +kernel
theorem dX2_stateAt_16 : decode cX2_stateAt 16 = .ok (.new 9, 3) := by decide +kernel
theorem dX2_stateAt_19 : decode cX2_stateAt 19 = .ok (.dup, 1) := by decide +kernel
theorem dX2_stateAt_20 : decode cX2_stateAt 20 = .ok (.invokespecial 24, 3) := by decide +kernel
theorem dX2_stateAt_23 : decode cX2_stateAt 23 = .ok (.astore_n 3, 1) := by decide +kernel
theorem dX2_stateAt_24 : decode cX2_stateAt 24 = .ok (.aload_n 0, 1) := by decide +kernel
theorem dX2_stateAt_25 : decode cX2_stateAt 25 = .ok (.getfield 11, 3) := by decide +kernel
theorem dX2_stateAt_28 : decode cX2_stateAt 28 = .ok (.iload_n 2, 1) := by decide +kernel
theorem dX2_stateAt_29 : decode cX2_stateAt 29 = .ok (.aload_n 3, 1) := by decide +kernel
theorem dX2_stateAt_30 : decode cX2_stateAt 30 = .ok (.aastore, 1) := by decide +kernel
theorem dX2_stateAt_31 : decode cX2_stateAt 31 = .ok (.aload_n 3, 1) := by decide +kernel
theorem dX2_stateAt_32 : decode cX2_stateAt 32 = .ok (.areturn, 1) := by decide +kernel
theorem dX2_push_0 : decode cX2_push 0 = .ok (.aload_n 0, 1) := by decide +kernel
theorem dX2_push_1 : decode cX2_push 1 = .ok (.aload_n 0, 1) := by decide +kernel
theorem dX2_push_2 : decode cX2_push 2 = .ok (.getfield 17, 3) := by decide +kernel
theorem dX2_push_5 : decode cX2_push 5 = .ok (.invokevirtual 25, 3) := by decide +kernel
theorem dX2_push_8 : decode cX2_push 8 = .ok (.aload_n 1, 1) := by decide +kernel
theorem dX2_push_9 : decode cX2_push 9 = .ok (.invokevirtual 29, 3) := by decide +kernel
theorem dX2_push_12 : decode cX2_push 12 = .ok (.aload_n 0, 1) := by decide +kernel
theorem dX2_push_13 : decode cX2_push 13 = .ok (.aload_n 0, 1) := by decide +kernel
theorem dX2_push_14 : decode cX2_push 14 = .ok (.getfield 17, 3) := by decide +kernel
theorem dX2_push_17 : decode cX2_push 17 = .ok (.iconst 1, 1) := by decide +kernel
theorem dX2_push_18 : decode cX2_push 18 = .ok (.iadd, 1) := by decide +kernel
theorem dX2_push_19 : decode cX2_push 19 = .ok (.bipush 7, 2) := by decide +kernel
theorem dX2_push_21 : decode cX2_push 21 = .ok (.iand, 1) := by decide +kernel
theorem dX2_push_22 : decode cX2_push 22 = .ok (.putfield 17, 3) := by decide +kernel
theorem dX2_push_25 : decode cX2_push 25 = .ok (.aload_n 0, 1) := by decide +kernel
theorem dX2_push_26 : decode cX2_push 26 = .ok (.aload_n 0, 1) := by decide +kernel
theorem dX2_push_27 : decode cX2_push 27 = .ok (.getfield 21, 3) := by decide +kernel
theorem dX2_push_30 : decode cX2_push 30 = .ok (.iconst 1, 1) := by decide +kernel
theorem dX2_push_31 : decode cX2_push 31 = .ok (.iadd, 1) := by decide +kernel
theorem dX2_push_32 : decode cX2_push 32 = .ok (.bipush 8, 2) := by decide +kernel
theorem dX2_push_34 : decode cX2_push 34 = .ok (.invokestatic 33, 3) := by decide +kernel
theorem dX2_push_37 : decode cX2_push 37 = .ok (.putfield 21, 3) := by decide +kernel
theorem dX2_push_40 : decode cX2_push 40 = .ok (.return_, 1) := by decide +kernel
theorem dX2_popInto_0 : decode cX2_popInto 0 = .ok (.aload_n 0, 1) := by decide +kernel
theorem dX2_popInto_1 : decode cX2_popInto 1 = .ok (.aload_n 0, 1) := by decide +kernel
theorem dX2_popInto_2 : decode cX2_popInto 2 = .ok (.getfield 17, 3) := by decide +kernel
theorem dX2_popInto_5 : decode cX2_popInto 5 = .ok (.iconst 1, 1) := by decide +kernel
theorem dX2_popInto_6 : decode cX2_popInto 6 = .ok (.isub, 1) := by decide +kernel
theorem dX2_popInto_7 : decode cX2_popInto 7 = .ok (.bipush 7, 2) := by decide +kernel
theorem dX2_popInto_9 : decode cX2_popInto 9 = .ok (.iand, 1) := by decide +kernel
theorem dX2_popInto_10 : decode cX2_popInto 10 = .ok (.putfield 17, 3) := by decide +kernel
theorem dX2_popInto_13 : decode cX2_popInto 13 = .ok (.aload_n 1, 1) := by decide +kernel
theorem dX2_popInto_14 : decode cX2_popInto 14 = .ok (.aload_n 0, 1) := by decide +kernel
theorem dX2_popInto_15 : decode cX2_popInto 15 = .ok (.aload_n 0, 1) := by decide +kernel
theorem dX2_popInto_16 : decode cX2_popInto 16 = .ok (.getfield 17, 3) := by decide +kernel
theorem dX2_popInto_19 : decode cX2_popInto 19 = .ok (.invokevirtual 25, 3) := by decide +kernel
theorem dX2_popInto_22 : decode cX2_popInto 22 = .ok (.invokevirtual 29, 3) := by decide +kernel
theorem dX2_popInto_25 : decode cX2_popInto 25 = .ok (.aload_n 0, 1) := by decide +kernel
theorem dX2_popInto_26 : decode cX2_popInto 26 = .ok (.dup, 1) := by decide +kernel
theorem dX2_popInto_27 : decode cX2_popInto 27 = .ok (.getfield 21, 3) := by decide +kernel
theorem dX2_popInto_30 : decode cX2_popInto 30 = .ok (.iconst 1, 1) := by decide +kernel
theorem dX2_popInto_31 : decode cX2_popInto 31 = .ok (.isub, 1) := by decide +kernel
theorem dX2_popInto_32 : decode cX2_popInto 32 = .ok (.putfield 21, 3) := by decide +kernel
theorem dX2_popInto_35 : decode cX2_popInto 35 = .ok (.return_, 1) := by decide +kernel
theorem dX2_clear_0 : decode cX2_clear 0 = .ok (.aload_n 0, 1) := by decide +kernel
theorem dX2_clear_1 : decode cX2_clear 1 = .ok (.iconst 0, 1) := by decide +kernel
theorem dX2_clear_2 : decode cX2_clear 2 = .ok (.putfield 21, 3) := by decide +kernel
theorem dX2_clear_5 : decode cX2_clear 5 = .ok (.return_, 1) := by decide +kernel
theorem dX3_init_0 : decode cX3_init 0 = .ok (.aload_n 0, 1) := by decide +kernel
theorem dX3_init_1 : decode cX3_init 1 = .ok (.invokespecial 3, 3) := by decide +kernel
theorem dX3_init_4 : decode cX3_init 4 = .ok (.aload_n 0, 1) := by decide +kernel
theorem dX3_init_5 : decode cX3_init 5 = .ok (.bipush 80, 2) := by decide +kernel
theorem dX3_init_7 : decode cX3_init 7 = .ok (.newarray .int, 2) := by decide +kernel
theorem dX3_init_9 : decode cX3_init 9 = .ok (.putfield 9, 3) := by decide +kernel
theorem dX3_init_12 : decode cX3_init 12 = .ok (.aload_n 0, 1) := by decide +kernel
theorem dX3_init_13 : decode cX3_init 13 = .ok (.iconst 0, 1) := by decide +kernel
theorem dX3_init_14 : decode cX3_init 14 = .ok (.putfield 15, 3) := by decide +kernel
theorem dX3_init_17 : decode cX3_init 17 = .ok (.return_, 1) := by decide +kernel
theorem dX3_clear_0 : decode cX3_clear 0 = .ok (.aload_n 0, 1) := by decide +kernel
theorem dX3_clear_1 : decode cX3_clear 1 = .ok (.iconst 0, 1) := by decide +kernel
theorem dX3_clear_2 : decode cX3_clear 2 = .ok (.putfield 15, 3) := by decide +kernel
theorem dX3_clear_5 : decode cX3_clear 5 = .ok (.return_, 1) := by decide +kernel
theorem dX3_signAt_0 : decode cX3_signAt 0 = .ok (.aload_n 0, 1) := by decide +kernel
theorem dX3_signAt_1 : decode cX3_signAt 1 = .ok (.getfield 9, 3) := by decide +kernel
theorem dX3_signAt_4 : decode cX3_signAt 4 = .ok (.iload_n 1, 1) := by decide +kernel
theorem dX3_signAt_5 : decode cX3_signAt 5 = .ok (.invokestatic 19, 3) := by decide +kernel
theorem dX3_signAt_8 : decode cX3_signAt 8 = .ok (.ireturn, 1) := by decide +kernel
theorem dX3_putSign_0 : decode cX3_putSign 0 = .ok (.aload_n 0, 1) := by decide +kernel
theorem dX3_putSign_1 : decode cX3_putSign 1 = .ok (.getfield 9, 3) := by decide +kernel
theorem dX3_putSign_4 : decode cX3_putSign 4 = .ok (.aload_n 0, 1) := by decide +kernel
theorem dX3_putSign_5 : decode cX3_putSign 5 = .ok (.getfield 15, 3) := by decide +kernel
theorem dX3_putSign_8 : decode cX3_putSign 8 = .ok (.iload_n 1, 1) := by decide +kernel
theorem dX3_putSign_9 : decode cX3_putSign 9 = .ok (.invokestatic 23, 3) := by decide +kernel
theorem dX3_putSign_12 : decode cX3_putSign 12 = .ok (.aload_n 0, 1) := by decide +kernel
theorem dX3_putSign_13 : decode cX3_putSign 13 = .ok (.dup, 1) := by decide +kernel
theorem dX3_putSign_14 : decode cX3_putSign 14 = .ok (.getfield 15, 3) := by decide +kernel
theorem dX3_putSign_17 : decode cX3_putSign 17 = .ok (.iconst 1, 1) := by decide +kernel
theorem dX3_putSign_18 : decode cX3_putSign 18 = .ok (.iadd, 1) := by decide +kernel
theorem dX3_putSign_19 : decode cX3_putSign 19 = .ok (.putfield 15, 3) := by decide +kernel
theorem dX3_putSign_22 : decode cX3_putSign 22 = .ok (.return_, 1) := by decide +kernel
theorem dX3_putNumber_0 : decode cX3_putNumber 0 = .ok (.ldc 27, 2) := by decide +kernel
theorem dX3_putNumber_2 : decode cX3_putNumber 2 = .ok (.istore_n 2, 1) := by decide +kernel
theorem dX3_putNumber_3 : decode cX3_putNumber 3 = .ok (.iload_n 2, 1) := by decide +kernel
theorem dX3_putNumber_4 : decode cX3_putNumber 4 = .ok (.ifCond .le 34, 3) := by decide +kernel
theorem dX3_putNumber_7 : decode cX3_putNumber 7 = .ok (.iload_n 1, 1) := by decide +kernel
theorem dX3_putNumber_8 : decode cX3_putNumber 8 = .ok (.iload_n 2, 1) := by decide +kernel
theorem dX3_putNumber_9 : decode cX3_putNumber 9 = .ok (.if_icmp .ge 8, 3) := by decide +kernel
theorem dX3_putNumber_12 : decode cX3_putNumber 12 = .ok (.iload_n 2, 1) := by decide +kernel
theorem dX3_putNumber_13 : decode cX3_putNumber 13 = .ok (.iconst 1, 1) := by decide +kernel
theorem dX3_putNumber_14 : decode cX3_putNumber 14 = .ok (.if_icmp .ne 16, 3) := by decide +kernel
theorem dX3_putNumber_17 : decode cX3_putNumber 17 = .ok (.aload_n 0, 1) := by decide +kernel
theorem dX3_putNumber_18 : decode cX3_putNumber 18 = .ok (.bipush 48, 2) := by decide +kernel
theorem dX3_putNumber_20 : decode cX3_putNumber 20 = .ok (.iload_n 1, 1) := by decide +kernel
theorem dX3_putNumber_21 : decode cX3_putNumber 21 = .ok (.iload_n 2, 1) := by decide +kernel
theorem dX3_putNumber_22 : decode cX3_putNumber 22 = .ok (.idiv, 1) := by decide +kernel
theorem dX3_putNumber_23 : decode cX3_putNumber 23 = .ok (.bipush 10, 2) := by decide +kernel
theorem dX3_putNumber_25 : decode cX3_putNumber 25 = .ok (.irem, 1) := by decide +kernel
theorem dX3_putNumber_26 : decode cX3_putNumber 26 = .ok (.iadd, 1) := by decide +kernel
theorem dX3_putNumber_27 : decode cX3_putNumber 27 = .ok (.invokevirtual 28, 3) := by decide +kernel
theorem dX3_putNumber_30 : decode cX3_putNumber 30 = .ok (.iload_n 2, 1) := by decide +kernel
theorem dX3_putNumber_31 : decode cX3_putNumber 31 = .ok (.bipush 10, 2) := by decide +kernel
theorem dX3_putNumber_33 : decode cX3_putNumber 33 = .ok (.idiv, 1) := by decide +kernel
theorem dX3_putNumber_34 : decode cX3_putNumber 34 = .ok (.istore_n 2, 1) := by decide +kernel
theorem dX3_putNumber_35 : decode cX3_putNumber 35 = .ok (.goto (-32), 3) := by decide +kernel
theorem dX3_putNumber_38 : decode cX3_putNumber 38 = .ok (.return_, 1) := by decide +kernel
theorem dX4_init_0 : decode cX4_init 0 = .ok (.aload_n 0, 1) := by decide +kernel
theorem dX4_init_1 : decode cX4_init 1 = .ok (.invokespecial 3, 3) := by decide +kernel
theorem dX4_init_4 : decode cX4_init 4 = .ok (.aload_n 0, 1) := by decide +kernel
theorem dX4_init_5 : decode cX4_init 5 = .ok (.bipush 64, 2) := by decide +kernel
theorem dX4_init_7 : decode cX4_init 7 = .ok (.newarray .int, 2) := by decide +kernel
theorem dX4_init_9 : decode cX4_init 9 = .ok (.putfield 9, 3) := by decide +kernel
theorem dX4_init_12 : decode cX4_init 12 = .ok (.aload_n 0, 1) := by decide +kernel
theorem dX4_init_13 : decode cX4_init 13 = .ok (.sipush 160, 3) := by decide +kernel
theorem dX4_init_16 : decode cX4_init 16 = .ok (.newarray .int, 2) := by decide +kernel
theorem dX4_init_18 : decode cX4_init 18 = .ok (.putfield 15, 3) := by decide +kernel
theorem dX4_init_21 : decode cX4_init 21 = .ok (.aload_n 0, 1) := by decide +kernel
theorem dX4_init_22 : decode cX4_init 22 = .ok (.sipush 160, 3) := by decide +kernel
theorem dX4_init_25 : decode cX4_init 25 = .ok (.newarray .int, 2) := by decide +kernel
theorem dX4_init_27 : decode cX4_init 27 = .ok (.putfield 18, 3) := by decide +kernel
theorem dX4_init_30 : decode cX4_init 30 = .ok (.return_, 1) := by decide +kernel
theorem dX4_given_0 : decode cX4_given 0 = .ok (.aload_n 0, 1) := by decide +kernel
theorem dX4_given_1 : decode cX4_given 1 = .ok (.getfield 15, 3) := by decide +kernel
theorem dX4_given_4 : decode cX4_given 4 = .ok (.iload_n 1, 1) := by decide +kernel
theorem dX4_given_5 : decode cX4_given 5 = .ok (.invokestatic 21, 3) := by decide +kernel
theorem dX4_given_8 : decode cX4_given 8 = .ok (.ireturn, 1) := by decide +kernel
theorem dX4_givenByFilter_0 : decode cX4_givenByFilter 0 = .ok (.aload_n 0, 1) := by decide +kernel
theorem dX4_givenByFilter_1 : decode cX4_givenByFilter 1 = .ok (.getfield 18, 3) := by decide +kernel
theorem dX4_givenByFilter_4 : decode cX4_givenByFilter 4 = .ok (.iload_n 1, 1) := by decide +kernel
theorem dX4_givenByFilter_5 : decode cX4_givenByFilter 5 = .ok (.invokestatic 21, 3) := by decide +kernel
theorem dX4_givenByFilter_8 : decode cX4_givenByFilter 8 = .ok (.ireturn, 1) := by decide +kernel
theorem dX4_send_0 : decode cX4_send 0 = .ok (.aload_n 0, 1) := by decide +kernel
theorem dX4_send_1 : decode cX4_send 1 = .ok (.getfield 9, 3) := by decide +kernel
theorem dX4_send_4 : decode cX4_send 4 = .ok (.iconst 0, 1) := by decide +kernel
theorem dX4_send_5 : decode cX4_send 5 = .ok (.invokestatic 25, 3) := by decide +kernel
theorem dX4_send_8 : decode cX4_send 8 = .ok (.iconst 0, 1) := by decide +kernel
theorem dX4_send_9 : decode cX4_send 9 = .ok (.istore 4, 2) := by decide +kernel
theorem dX4_send_11 : decode cX4_send 11 = .ok (.iload 4, 2) := by decide +kernel
theorem dX4_send_13 : decode cX4_send 13 = .ok (.iload_n 3, 1) := by decide +kernel
theorem dX4_send_14 : decode cX4_send 14 = .ok (.if_icmp .ge 69, 3) := by decide +kernel
theorem dX4_send_17 : decode cX4_send 17 = .ok (.aload_n 1, 1) := by decide +kernel
theorem dX4_send_18 : decode cX4_send 18 = .ok (.getfield 31, 3) := by decide +kernel
theorem dX4_send_21 : decode cX4_send 21 = .ok (.iload_n 2, 1) := by decide +kernel
theorem dX4_send_22 : decode cX4_send 22 = .ok (.iload 4, 2) := by decide +kernel
theorem dX4_send_24 : decode cX4_send 24 = .ok (.invokevirtual 37, 3) := by decide +kernel
theorem dX4_send_27 : decode cX4_send 27 = .ok (.istore 5, 2) := by decide +kernel
theorem dX4_send_29 : decode cX4_send 29 = .ok (.iconst 0, 1) := by decide +kernel
theorem dX4_send_30 : decode cX4_send 30 = .ok (.istore 6, 2) := by decide +kernel
theorem dX4_send_32 : decode cX4_send 32 = .ok (.iload 6, 2) := by decide +kernel
theorem dX4_send_34 : decode cX4_send 34 = .ok (.aload_n 1, 1) := by decide +kernel
theorem dX4_send_35 : decode cX4_send 35 = .ok (.getfield 43, 3) := by decide +kernel
theorem dX4_send_38 : decode cX4_send 38 = .ok (.getfield 47, 3) := by decide +kernel
theorem dX4_send_41 : decode cX4_send 41 = .ok (.if_icmp .ge 25, 3) := by decide +kernel
theorem dX4_send_44 : decode cX4_send 44 = .ok (.aload_n 0, 1) := by decide +kernel
theorem dX4_send_45 : decode cX4_send 45 = .ok (.aload_n 1, 1) := by decide +kernel
theorem dX4_send_46 : decode cX4_send 46 = .ok (.getfield 43, 3) := by decide +kernel
theorem dX4_send_49 : decode cX4_send 49 = .ok (.iload 6, 2) := by decide +kernel
theorem dX4_send_51 : decode cX4_send 51 = .ok (.iload 4, 2) := by decide +kernel
theorem dX4_send_53 : decode cX4_send 53 = .ok (.iload 5, 2) := by decide +kernel
theorem dX4_send_55 : decode cX4_send 55 = .ok (.invokevirtual 53, 3) := by decide +kernel
theorem dX4_send_58 : decode cX4_send 58 = .ok (.istore 5, 2) := by decide +kernel
theorem dX4_send_60 : decode cX4_send 60 = .ok (.iinc 6 1, 3) := by decide +kernel
theorem dX4_send_63 : decode cX4_send 63 = .ok (.goto (-31), 3) := by decide +kernel
theorem dX4_send_66 : decode cX4_send 66 = .ok (.aload_n 0, 1) := by decide +kernel
theorem dX4_send_67 : decode cX4_send 67 = .ok (.getfield 15, 3) := by decide +kernel
theorem dX4_send_70 : decode cX4_send 70 = .ok (.iload 4, 2) := by decide +kernel
theorem dX4_send_72 : decode cX4_send 72 = .ok (.iload 5, 2) := by decide +kernel
theorem dX4_send_74 : decode cX4_send 74 = .ok (.invokestatic 57, 3) := by decide +kernel
theorem dX4_send_77 : decode cX4_send 77 = .ok (.iinc 4 1, 3) := by decide +kernel
theorem dX4_send_80 : decode cX4_send 80 = .ok (.goto (-69), 3) := by decide +kernel
theorem dX4_send_83 : decode cX4_send 83 = .ok (.return_, 1) := by decide +kernel
theorem dX4_pass_0 : decode cX4_pass 0 = .ok (.aload_n 1, 1) := by decide +kernel
theorem dX4_pass_1 : decode cX4_pass 1 = .ok (.iload_n 2, 1) := by decide +kernel
theorem dX4_pass_2 : decode cX4_pass 2 = .ok (.invokevirtual 61, 3) := by decide +kernel
theorem dX4_pass_5 : decode cX4_pass 5 = .ok (.istore 5, 2) := by decide +kernel
theorem dX4_pass_7 : decode cX4_pass 7 = .ok (.aload_n 1, 1) := by decide +kernel
theorem dX4_pass_8 : decode cX4_pass 8 = .ok (.iload_n 2, 1) := by decide +kernel
theorem dX4_pass_9 : decode cX4_pass 9 = .ok (.invokevirtual 65, 3) := by decide +kernel
theorem dX4_pass_12 : decode cX4_pass 12 = .ok (.istore 6, 2) := by decide +kernel
theorem dX4_pass_14 : decode cX4_pass 14 = .ok (.iload 5, 2) := by decide +kernel
theorem dX4_pass_16 : decode cX4_pass 16 = .ok (.bipush 100, 2) := by decide +kernel
theorem dX4_pass_18 : decode cX4_pass 18 = .ok (.if_icmp .ne 17, 3) := by decide +kernel
theorem dX4_pass_21 : decode cX4_pass 21 = .ok (.aload_n 0, 1) := by decide +kernel
theorem dX4_pass_22 : decode cX4_pass 22 = .ok (.iload_n 2, 1) := by decide +kernel
theorem dX4_pass_23 : decode cX4_pass 23 = .ok (.iload_n 3, 1) := by decide +kernel
theorem dX4_pass_24 : decode cX4_pass 24 = .ok (.iload 6, 2) := by decide +kernel
theorem dX4_pass_26 : decode cX4_pass 26 = .ok (.isub, 1) := by decide +kernel
theorem dX4_pass_27 : decode cX4_pass 27 = .ok (.invokevirtual 68, 3) := by decide +kernel
theorem dX4_pass_30 : decode cX4_pass 30 = .ok (.istore 7, 2) := by decide +kernel
theorem dX4_pass_32 : decode cX4_pass 32 = .ok (.goto 74, 3) := by decide +kernel
theorem dX4_pass_35 : decode cX4_pass 35 = .ok (.iload 5, 2) := by decide +kernel
theorem dX4_pass_37 : decode cX4_pass 37 = .ok (.bipush 109, 2) := by decide +kernel
theorem dX4_pass_39 : decode cX4_pass 39 = .ok (.if_icmp .ne 56, 3) := by decide +kernel
theorem dX4_pass_42 : decode cX4_pass 42 = .ok (.iload 4, 2) := by decide +kernel
theorem dX4_pass_44 : decode cX4_pass 44 = .ok (.istore 8, 2) := by decide +kernel
theorem dX4_pass_46 : decode cX4_pass 46 = .ok (.iconst 1, 1) := by decide +kernel
theorem dX4_pass_47 : decode cX4_pass 47 = .ok (.istore 9, 2) := by decide +kernel
theorem dX4_pass_49 : decode cX4_pass 49 = .ok (.iload 9, 2) := by decide +kernel
theorem dX4_pass_51 : decode cX4_pass 51 = .ok (.iload 6, 2) := by decide +kernel
theorem dX4_pass_53 : decode cX4_pass 53 = .ok (.if_icmp .ge 23, 3) := by decide +kernel
theorem dX4_pass_56 : decode cX4_pass 56 = .ok (.iload 8, 2) := by decide +kernel
theorem dX4_pass_58 : decode cX4_pass 58 = .ok (.aload_n 0, 1) := by decide +kernel
theorem dX4_pass_59 : decode cX4_pass 59 = .ok (.iload_n 2, 1) := by decide +kernel
theorem dX4_pass_60 : decode cX4_pass 60 = .ok (.iload_n 3, 1) := by decide +kernel
theorem dX4_pass_61 : decode cX4_pass 61 = .ok (.iload 9, 2) := by decide +kernel
theorem dX4_pass_63 : decode cX4_pass 63 = .ok (.isub, 1) := by decide +kernel
theorem dX4_pass_64 : decode cX4_pass 64 = .ok (.invokevirtual 68, 3) := by decide +kernel
theorem dX4_pass_67 : decode cX4_pass 67 = .ok (.iadd, 1) := by decide +kernel
theorem dX4_pass_68 : decode cX4_pass 68 = .ok (.istore 8, 2) := by decide +kernel
theorem dX4_pass_70 : decode cX4_pass 70 = .ok (.iinc 9 1, 3) := by decide +kernel
theorem dX4_pass_73 : decode cX4_pass 73 = .ok (.goto (-24), 3) := by decide +kernel
theorem dX4_pass_76 : decode cX4_pass 76 = .ok (.iload 6, 2) := by decide +kernel
theorem dX4_pass_78 : decode cX4_pass 78 = .ok (.ifCond .le 11, 3) := by decide +kernel
theorem dX4_pass_81 : decode cX4_pass 81 = .ok (.iload 8, 2) := by decide +kernel
theorem dX4_pass_83 : decode cX4_pass 83 = .ok (.iload 6, 2) := by decide +kernel
theorem dX4_pass_85 : decode cX4_pass 85 = .ok (.idiv, 1) := by decide +kernel
theorem dX4_pass_86 : decode cX4_pass 86 = .ok (.goto 4, 3) := by decide +kernel
theorem dX4_pass_89 : decode cX4_pass 89 = .ok (.iconst 0, 1) := by decide +kernel
theorem dX4_pass_90 : decode cX4_pass 90 = .ok (.istore 7, 2) := by decide +kernel
theorem dX4_pass_92 : decode cX4_pass 92 = .ok (.goto 14, 3) := by decide +kernel
theorem dX4_pass_95 : decode cX4_pass 95 = .ok (.iload 5, 2) := by decide +kernel
theorem dX4_pass_97 : decode cX4_pass 97 = .ok (.iload 6, 2) := by decide +kernel
theorem dX4_pass_99 : decode cX4_pass 99 = .ok (.iload 4, 2) := by decide +kernel
theorem dX4_pass_101 : decode cX4_pass 101 = .ok (.invokestatic 71, 3) := by decide +kernel
theorem dX4_pass_104 : decode cX4_pass 104 = .ok (.istore 7, 2) := by decide +kernel
theorem dX4_pass_106 : decode cX4_pass 106 = .ok (.aload_n 0, 1) := by decide +kernel
theorem dX4_pass_107 : decode cX4_pass 107 = .ok (.getfield 9, 3) := by decide +kernel
theorem dX4_pass_110 : decode cX4_pass 110 = .ok (.iload_n 2, 1) := by decide +kernel
theorem dX4_pass_111 : decode cX4_pass 111 = .ok (.bipush 8, 2) := by decide +kernel
theorem dX4_pass_113 : decode cX4_pass 113 = .ok (.imul, 1) := by decide +kernel
theorem dX4_pass_114 : decode cX4_pass 114 = .ok (.iload_n 3, 1) := by decide +kernel
theorem dX4_pass_115 : decode cX4_pass 115 = .ok (.bipush 7, 2) := by decide +kernel
theorem dX4_pass_117 : decode cX4_pass 117 = .ok (.iand, 1) := by decide +kernel
theorem dX4_pass_118 : decode cX4_pass 118 = .ok (.iadd, 1) := by decide +kernel
theorem dX4_pass_119 : decode cX4_pass 119 = .ok (.iload 4, 2) := by decide +kernel
theorem dX4_pass_121 : decode cX4_pass 121 = .ok (.invokestatic 57, 3) := by decide +kernel
theorem dX4_pass_124 : decode cX4_pass 124 = .ok (.iload 7, 2) := by decide +kernel
theorem dX4_pass_126 : decode cX4_pass 126 = .ok (.ireturn, 1) := by decide +kernel
theorem dX4_recall_0 : decode cX4_recall 0 = .ok (.aload_n 0, 1) := by decide +kernel
theorem dX4_recall_1 : decode cX4_recall 1 = .ok (.getfield 9, 3) := by decide +kernel
theorem dX4_recall_4 : decode cX4_recall 4 = .ok (.iload_n 1, 1) := by decide +kernel
theorem dX4_recall_5 : decode cX4_recall 5 = .ok (.bipush 8, 2) := by decide +kernel
theorem dX4_recall_7 : decode cX4_recall 7 = .ok (.imul, 1) := by decide +kernel
theorem dX4_recall_8 : decode cX4_recall 8 = .ok (.iload_n 2, 1) := by decide +kernel
theorem dX4_recall_9 : decode cX4_recall 9 = .ok (.bipush 7, 2) := by decide +kernel
theorem dX4_recall_11 : decode cX4_recall 11 = .ok (.iand, 1) := by decide +kernel
theorem dX4_recall_12 : decode cX4_recall 12 = .ok (.iadd, 1) := by decide +kernel
theorem dX4_recall_13 : decode cX4_recall 13 = .ok (.invokestatic 21, 3) := by decide +kernel
theorem dX4_recall_16 : decode cX4_recall 16 = .ok (.ireturn, 1) := by decide +kernel
theorem dX4_changed_0 : decode cX4_changed 0 = .ok (.iload_n 0, 1) := by decide +kernel
theorem dX4_changed_1 : decode cX4_changed 1 = .ok (.lookupswitch 78 #[(99, 50), (102, 61), (103, 43), (115, 64)], 43) := by decide +kernel
theorem dX4_changed_44 : decode cX4_changed 44 = .ok (.iload_n 2, 1) := by decide +kernel
theorem dX4_changed_45 : decode cX4_changed 45 = .ok (.iload_n 1, 1) := by decide +kernel
theorem dX4_changed_46 : decode cX4_changed 46 = .ok (.imul, 1) := by decide +kernel
theorem dX4_changed_47 : decode cX4_changed 47 = .ok (.bipush 100, 2) := by decide +kernel
theorem dX4_changed_49 : decode cX4_changed 49 = .ok (.idiv, 1) := by decide +kernel
theorem dX4_changed_50 : decode cX4_changed 50 = .ok (.ireturn, 1) := by decide +kernel
theorem dX4_changed_51 : decode cX4_changed 51 = .ok (.iload_n 1, 1) := by decide +kernel
theorem dX4_changed_52 : decode cX4_changed 52 = .ok (.ineg, 1) := by decide +kernel
theorem dX4_changed_53 : decode cX4_changed 53 = .ok (.iload_n 1, 1) := by decide +kernel
theorem dX4_changed_54 : decode cX4_changed 54 = .ok (.iload_n 2, 1) := by decide +kernel
theorem dX4_changed_55 : decode cX4_changed 55 = .ok (.invokestatic 75, 3) := by decide +kernel
theorem dX4_changed_58 : decode cX4_changed 58 = .ok (.invokestatic 80, 3) := by decide +kernel
theorem dX4_changed_61 : decode cX4_changed 61 = .ok (.ireturn, 1) := by decide +kernel
theorem dX4_changed_62 : decode cX4_changed 62 = .ok (.iload_n 2, 1) := by decide +kernel
theorem dX4_changed_63 : decode cX4_changed 63 = .ok (.ineg, 1) := by decide +kernel
theorem dX4_changed_64 : decode cX4_changed 64 = .ok (.ireturn, 1) := by decide +kernel
theorem dX4_changed_65 : decode cX4_changed 65 = .ok (.iload_n 1, 1) := by decide +kernel
theorem dX4_changed_66 : decode cX4_changed 66 = .ok (.ifCond .le 11, 3) := by decide +kernel
theorem dX4_changed_69 : decode cX4_changed 69 = .ok (.iload_n 2, 1) := by decide +kernel
theorem dX4_changed_70 : decode cX4_changed 70 = .ok (.iload_n 1, 1) := by decide +kernel
theorem dX4_changed_71 : decode cX4_changed 71 = .ok (.idiv, 1) := by decide +kernel
theorem dX4_changed_72 : decode cX4_changed 72 = .ok (.iload_n 1, 1) := by decide +kernel
theorem dX4_changed_73 : decode cX4_changed 73 = .ok (.imul, 1) := by decide +kernel
theorem dX4_changed_74 : decode cX4_changed 74 = .ok (.goto 4, 3) := by decide +kernel
theorem dX4_changed_77 : decode cX4_changed 77 = .ok (.iconst 0, 1) := by decide +kernel
theorem dX4_changed_78 : decode cX4_changed 78 = .ok (.ireturn, 1) := by decide +kernel
theorem dX4_changed_79 : decode cX4_changed 79 = .ok (.iload_n 2, 1) := by decide +kernel
theorem dX4_changed_80 : decode cX4_changed 80 = .ok (.ireturn, 1) := by decide +kernel
theorem dX4_sendByFilter_0 : decode cX4_sendByFilter 0 = .ok (.aload_n 1, 1) := by decide +kernel
theorem dX4_sendByFilter_1 : decode cX4_sendByFilter 1 = .ok (.getfield 31, 3) := by decide +kernel
theorem dX4_sendByFilter_4 : decode cX4_sendByFilter 4 = .ok (.iload_n 2, 1) := by decide +kernel
theorem dX4_sendByFilter_5 : decode cX4_sendByFilter 5 = .ok (.invokevirtual 83, 3) := by decide +kernel
theorem dX4_sendByFilter_8 : decode cX4_sendByFilter 8 = .ok (.istore_n 3, 1) := by decide +kernel
theorem dX4_sendByFilter_9 : decode cX4_sendByFilter 9 = .ok (.iconst 0, 1) := by decide +kernel
theorem dX4_sendByFilter_10 : decode cX4_sendByFilter 10 = .ok (.istore 4, 2) := by decide +kernel
theorem dX4_sendByFilter_12 : decode cX4_sendByFilter 12 = .ok (.iload 4, 2) := by decide +kernel
theorem dX4_sendByFilter_14 : decode cX4_sendByFilter 14 = .ok (.iload_n 3, 1) := by decide +kernel
theorem dX4_sendByFilter_15 : decode cX4_sendByFilter 15 = .ok (.if_icmp .ge 28, 3) := by decide +kernel
theorem dX4_sendByFilter_18 : decode cX4_sendByFilter 18 = .ok (.aload_n 0, 1) := by decide +kernel
theorem dX4_sendByFilter_19 : decode cX4_sendByFilter 19 = .ok (.getfield 18, 3) := by decide +kernel
theorem dX4_sendByFilter_22 : decode cX4_sendByFilter 22 = .ok (.iload 4, 2) := by decide +kernel
theorem dX4_sendByFilter_24 : decode cX4_sendByFilter 24 = .ok (.aload_n 1, 1) := by decide +kernel
theorem dX4_sendByFilter_25 : decode cX4_sendByFilter 25 = .ok (.getfield 31, 3) := by decide +kernel
theorem dX4_sendByFilter_28 : decode cX4_sendByFilter 28 = .ok (.iload_n 2, 1) := by decide +kernel
theorem dX4_sendByFilter_29 : decode cX4_sendByFilter 29 = .ok (.iload 4, 2) := by decide +kernel
theorem dX4_sendByFilter_31 : decode cX4_sendByFilter 31 = .ok (.invokevirtual 37, 3) := by decide +kernel
theorem dX4_sendByFilter_34 : decode cX4_sendByFilter 34 = .ok (.invokestatic 57, 3) := by decide +kernel
theorem dX4_sendByFilter_37 : decode cX4_sendByFilter 37 = .ok (.iinc 4 1, 3) := by decide +kernel
theorem dX4_sendByFilter_40 : decode cX4_sendByFilter 40 = .ok (.goto (-28), 3) := by decide +kernel
theorem dX4_sendByFilter_43 : decode cX4_sendByFilter 43 = .ok (.iconst 0, 1) := by decide +kernel
theorem dX4_sendByFilter_44 : decode cX4_sendByFilter 44 = .ok (.istore 4, 2) := by decide +kernel
theorem dX4_sendByFilter_46 : decode cX4_sendByFilter 46 = .ok (.iload 4, 2) := by decide +kernel
theorem dX4_sendByFilter_48 : decode cX4_sendByFilter 48 = .ok (.aload_n 1, 1) := by decide +kernel
theorem dX4_sendByFilter_49 : decode cX4_sendByFilter 49 = .ok (.getfield 43, 3) := by decide +kernel
theorem dX4_sendByFilter_52 : decode cX4_sendByFilter 52 = .ok (.getfield 47, 3) := by decide +kernel
theorem dX4_sendByFilter_55 : decode cX4_sendByFilter 55 = .ok (.if_icmp .ge 32, 3) := by decide +kernel
theorem dX4_sendByFilter_58 : decode cX4_sendByFilter 58 = .ok (.aload_n 0, 1) := by decide +kernel
theorem dX4_sendByFilter_59 : decode cX4_sendByFilter 59 = .ok (.aload_n 1, 1) := by decide +kernel
theorem dX4_sendByFilter_60 : decode cX4_sendByFilter 60 = .ok (.getfield 43, 3) := by decide +kernel
theorem dX4_sendByFilter_63 : decode cX4_sendByFilter 63 = .ok (.iload 4, 2) := by decide +kernel
theorem dX4_sendByFilter_65 : decode cX4_sendByFilter 65 = .ok (.invokevirtual 61, 3) := by decide +kernel
theorem dX4_sendByFilter_68 : decode cX4_sendByFilter 68 = .ok (.aload_n 1, 1) := by decide +kernel
theorem dX4_sendByFilter_69 : decode cX4_sendByFilter 69 = .ok (.getfield 43, 3) := by decide +kernel
theorem dX4_sendByFilter_72 : decode cX4_sendByFilter 72 = .ok (.iload 4, 2) := by decide +kernel
theorem dX4_sendByFilter_74 : decode cX4_sendByFilter 74 = .ok (.invokevirtual 65, 3) := by decide +kernel
theorem dX4_sendByFilter_77 : decode cX4_sendByFilter 77 = .ok (.iload_n 3, 1) := by decide +kernel
theorem dX4_sendByFilter_78 : decode cX4_sendByFilter 78 = .ok (.invokevirtual 86, 3) := by decide +kernel
theorem dX4_sendByFilter_81 : decode cX4_sendByFilter 81 = .ok (.iinc 4 1, 3) := by decide +kernel
theorem dX4_sendByFilter_84 : decode cX4_sendByFilter 84 = .ok (.goto (-38), 3) := by decide +kernel
theorem dX4_sendByFilter_87 : decode cX4_sendByFilter 87 = .ok (.return_, 1) := by decide +kernel
theorem dX4_passAll_0 : decode cX4_passAll 0 = .ok (.iload_n 3, 1) := by decide +kernel
theorem dX4_passAll_1 : decode cX4_passAll 1 = .ok (.iconst 1, 1) := by decide +kernel
theorem dX4_passAll_2 : decode cX4_passAll 2 = .ok (.isub, 1) := by decide +kernel
theorem dX4_passAll_3 : decode cX4_passAll 3 = .ok (.istore 4, 2) := by decide +kernel
theorem dX4_passAll_5 : decode cX4_passAll 5 = .ok (.iload 4, 2) := by decide +kernel
theorem dX4_passAll_7 : decode cX4_passAll 7 = .ok (.ifCond .lt 26, 3) := by decide +kernel
theorem dX4_passAll_10 : decode cX4_passAll 10 = .ok (.aload_n 0, 1) := by decide +kernel
theorem dX4_passAll_11 : decode cX4_passAll 11 = .ok (.getfield 18, 3) := by decide +kernel
theorem dX4_passAll_14 : decode cX4_passAll 14 = .ok (.iload 4, 2) := by decide +kernel
theorem dX4_passAll_16 : decode cX4_passAll 16 = .ok (.aload_n 0, 1) := by decide +kernel
theorem dX4_passAll_17 : decode cX4_passAll 17 = .ok (.iload_n 1, 1) := by decide +kernel
theorem dX4_passAll_18 : decode cX4_passAll 18 = .ok (.iload_n 2, 1) := by decide +kernel
theorem dX4_passAll_19 : decode cX4_passAll 19 = .ok (.iload 4, 2) := by decide +kernel
theorem dX4_passAll_21 : decode cX4_passAll 21 = .ok (.invokevirtual 90, 3) := by decide +kernel
theorem dX4_passAll_24 : decode cX4_passAll 24 = .ok (.invokestatic 57, 3) := by decide +kernel
theorem dX4_passAll_27 : decode cX4_passAll 27 = .ok (.iinc 4 (-1), 3) := by decide +kernel
theorem dX4_passAll_30 : decode cX4_passAll 30 = .ok (.goto (-25), 3) := by decide +kernel
theorem dX4_passAll_33 : decode cX4_passAll 33 = .ok (.return_, 1) := by decide +kernel
theorem dX4_givenAt_0 : decode cX4_givenAt 0 = .ok (.iload_n 1, 1) := by decide +kernel
theorem dX4_givenAt_1 : decode cX4_givenAt 1 = .ok (.bipush 100, 2) := by decide +kernel
theorem dX4_givenAt_3 : decode cX4_givenAt 3 = .ok (.if_icmp .ne 14, 3) := by decide +kernel
theorem dX4_givenAt_6 : decode cX4_givenAt 6 = .ok (.aload_n 0, 1) := by decide +kernel
theorem dX4_givenAt_7 : decode cX4_givenAt 7 = .ok (.getfield 18, 3) := by decide +kernel
theorem dX4_givenAt_10 : decode cX4_givenAt 10 = .ok (.iload_n 3, 1) := by decide +kernel
theorem dX4_givenAt_11 : decode cX4_givenAt 11 = .ok (.iload_n 2, 1) := by decide +kernel
theorem dX4_givenAt_12 : decode cX4_givenAt 12 = .ok (.isub, 1) := by decide +kernel
theorem dX4_givenAt_13 : decode cX4_givenAt 13 = .ok (.invokestatic 21, 3) := by decide +kernel
theorem dX4_givenAt_16 : decode cX4_givenAt 16 = .ok (.ireturn, 1) := by decide +kernel
theorem dX4_givenAt_17 : decode cX4_givenAt 17 = .ok (.iload_n 1, 1) := by decide +kernel
theorem dX4_givenAt_18 : decode cX4_givenAt 18 = .ok (.bipush 109, 2) := by decide +kernel
theorem dX4_givenAt_20 : decode cX4_givenAt 20 = .ok (.if_icmp .ne 50, 3) := by decide +kernel
theorem dX4_givenAt_23 : decode cX4_givenAt 23 = .ok (.iconst 0, 1) := by decide +kernel
theorem dX4_givenAt_24 : decode cX4_givenAt 24 = .ok (.istore 4, 2) := by decide +kernel
theorem dX4_givenAt_26 : decode cX4_givenAt 26 = .ok (.iconst 0, 1) := by decide +kernel
theorem dX4_givenAt_27 : decode cX4_givenAt 27 = .ok (.istore 5, 2) := by decide +kernel
theorem dX4_givenAt_29 : decode cX4_givenAt 29 = .ok (.iload 5, 2) := by decide +kernel
theorem dX4_givenAt_31 : decode cX4_givenAt 31 = .ok (.iload_n 2, 1) := by decide +kernel
theorem dX4_givenAt_32 : decode cX4_givenAt 32 = .ok (.if_icmp .ge 25, 3) := by decide +kernel
theorem dX4_givenAt_35 : decode cX4_givenAt 35 = .ok (.iload 4, 2) := by decide +kernel
theorem dX4_givenAt_37 : decode cX4_givenAt 37 = .ok (.aload_n 0, 1) := by decide +kernel
theorem dX4_givenAt_38 : decode cX4_givenAt 38 = .ok (.getfield 18, 3) := by decide +kernel
theorem dX4_givenAt_41 : decode cX4_givenAt 41 = .ok (.iload_n 3, 1) := by decide +kernel
theorem dX4_givenAt_42 : decode cX4_givenAt 42 = .ok (.iload 5, 2) := by decide +kernel
theorem dX4_givenAt_44 : decode cX4_givenAt 44 = .ok (.isub, 1) := by decide +kernel
theorem dX4_givenAt_45 : decode cX4_givenAt 45 = .ok (.invokestatic 21, 3) := by decide +kernel
theorem dX4_givenAt_48 : decode cX4_givenAt 48 = .ok (.iadd, 1) := by decide +kernel
theorem dX4_givenAt_49 : decode cX4_givenAt 49 = .ok (.istore 4, 2) := by decide +kernel
theorem dX4_givenAt_51 : decode cX4_givenAt 51 = .ok (.iinc 5 1, 3) := by decide +kernel
theorem dX4_givenAt_54 : decode cX4_givenAt 54 = .ok (.goto (-25), 3) := by decide +kernel
theorem dX4_givenAt_57 : decode cX4_givenAt 57 = .ok (.iload_n 2, 1) := by decide +kernel
theorem dX4_givenAt_58 : decode cX4_givenAt 58 = .ok (.ifCond .le 10, 3) := by decide +kernel
theorem dX4_givenAt_61 : decode cX4_givenAt 61 = .ok (.iload 4, 2) := by decide +kernel
theorem dX4_givenAt_63 : decode cX4_givenAt 63 = .ok (.iload_n 2, 1) := by decide +kernel
theorem dX4_givenAt_64 : decode cX4_givenAt 64 = .ok (.idiv, 1) := by decide +kernel
theorem dX4_givenAt_65 : decode cX4_givenAt 65 = .ok (.goto 4, 3) := by decide +kernel
theorem dX4_givenAt_68 : decode cX4_givenAt 68 = .ok (.iconst 0, 1) := by decide +kernel
theorem dX4_givenAt_69 : decode cX4_givenAt 69 = .ok (.ireturn, 1) := by decide +kernel
theorem dX4_givenAt_70 : decode cX4_givenAt 70 = .ok (.iload_n 1, 1) := by decide +kernel
theorem dX4_givenAt_71 : decode cX4_givenAt 71 = .ok (.iload_n 2, 1) := by decide +kernel
theorem dX4_givenAt_72 : decode cX4_givenAt 72 = .ok (.aload_n 0, 1) := by decide +kernel
theorem dX4_givenAt_73 : decode cX4_givenAt 73 = .ok (.getfield 18, 3) := by decide +kernel
theorem dX4_givenAt_76 : decode cX4_givenAt 76 = .ok (.iload_n 3, 1) := by decide +kernel
theorem dX4_givenAt_77 : decode cX4_givenAt 77 = .ok (.invokestatic 21, 3) := by decide +kernel
theorem dX4_givenAt_80 : decode cX4_givenAt 80 = .ok (.invokestatic 71, 3) := by decide +kernel
theorem dX4_givenAt_83 : decode cX4_givenAt 83 = .ok (.ireturn, 1) := by decide +kernel
theorem dX4_loudnessOf_0 : decode cX4_loudnessOf 0 = .ok (.iload_n 1, 1) := by decide +kernel
theorem dX4_loudnessOf_1 : decode cX4_loudnessOf 1 = .ok (.bipush 8, 2) := by decide +kernel
theorem dX4_loudnessOf_3 : decode cX4_loudnessOf 3 = .ok (.imul, 1) := by decide +kernel
theorem dX4_loudnessOf_4 : decode cX4_loudnessOf 4 = .ok (.istore_n 3, 1) := by decide +kernel
theorem dX4_loudnessOf_5 : decode cX4_loudnessOf 5 = .ok (.iload_n 3, 1) := by decide +kernel
theorem dX4_loudnessOf_6 : decode cX4_loudnessOf 6 = .ok (.bipush 8, 2) := by decide +kernel
theorem dX4_loudnessOf_8 : decode cX4_loudnessOf 8 = .ok (.iadd, 1) := by decide +kernel
theorem dX4_loudnessOf_9 : decode cX4_loudnessOf 9 = .ok (.iload_n 2, 1) := by decide +kernel
theorem dX4_loudnessOf_10 : decode cX4_loudnessOf 10 = .ok (.invokestatic 75, 3) := by decide +kernel
theorem dX4_loudnessOf_13 : decode cX4_loudnessOf 13 = .ok (.istore 4, 2) := by decide +kernel
theorem dX4_loudnessOf_15 : decode cX4_loudnessOf 15 = .ok (.iconst 0, 1) := by decide +kernel
theorem dX4_loudnessOf_16 : decode cX4_loudnessOf 16 = .ok (.istore 5, 2) := by decide +kernel
theorem dX4_loudnessOf_18 : decode cX4_loudnessOf 18 = .ok (.iload_n 3, 1) := by decide +kernel
theorem dX4_loudnessOf_19 : decode cX4_loudnessOf 19 = .ok (.istore 6, 2) := by decide +kernel
theorem dX4_loudnessOf_21 : decode cX4_loudnessOf 21 = .ok (.iload 6, 2) := by decide +kernel
theorem dX4_loudnessOf_23 : decode cX4_loudnessOf 23 = .ok (.iload 4, 2) := by decide +kernel
theorem dX4_loudnessOf_25 : decode cX4_loudnessOf 25 = .ok (.if_icmp .ge 28, 3) := by decide +kernel
theorem dX4_loudnessOf_28 : decode cX4_loudnessOf 28 = .ok (.iload 5, 2) := by decide +kernel
theorem dX4_loudnessOf_30 : decode cX4_loudnessOf 30 = .ok (.aload_n 0, 1) := by decide +kernel
theorem dX4_loudnessOf_31 : decode cX4_loudnessOf 31 = .ok (.getfield 15, 3) := by decide +kernel
theorem dX4_loudnessOf_34 : decode cX4_loudnessOf 34 = .ok (.iload 6, 2) := by decide +kernel
theorem dX4_loudnessOf_36 : decode cX4_loudnessOf 36 = .ok (.invokestatic 21, 3) := by decide +kernel
theorem dX4_loudnessOf_39 : decode cX4_loudnessOf 39 = .ok (.invokestatic 93, 3) := by decide +kernel
theorem dX4_loudnessOf_42 : decode cX4_loudnessOf 42 = .ok (.invokestatic 80, 3) := by decide +kernel
theorem dX4_loudnessOf_45 : decode cX4_loudnessOf 45 = .ok (.istore 5, 2) := by decide +kernel
theorem dX4_loudnessOf_47 : decode cX4_loudnessOf 47 = .ok (.iinc 6 1, 3) := by decide +kernel
theorem dX4_loudnessOf_50 : decode cX4_loudnessOf 50 = .ok (.goto (-29), 3) := by decide +kernel
theorem dX4_loudnessOf_53 : decode cX4_loudnessOf 53 = .ok (.iload 5, 2) := by decide +kernel
theorem dX4_loudnessOf_55 : decode cX4_loudnessOf 55 = .ok (.ireturn, 1) := by decide +kernel
theorem dX5_init_0 : decode cX5_init 0 = .ok (.aload_n 0, 1) := by decide +kernel
theorem dX5_init_1 : decode cX5_init 1 = .ok (.invokespecial 3, 3) := by decide +kernel
theorem dX5_init_4 : decode cX5_init 4 = .ok (.aload_n 0, 1) := by decide +kernel
theorem dX5_init_5 : decode cX5_init 5 = .ok (.sipush 640, 3) := by decide +kernel
theorem dX5_init_8 : decode cX5_init 8 = .ok (.newarray .int, 2) := by decide +kernel
theorem dX5_init_10 : decode cX5_init 10 = .ok (.putfield 9, 3) := by decide +kernel
theorem dX5_init_13 : decode cX5_init 13 = .ok (.aload_n 0, 1) := by decide +kernel
theorem dX5_init_14 : decode cX5_init 14 = .ok (.sipush 640, 3) := by decide +kernel
theorem dX5_init_17 : decode cX5_init 17 = .ok (.newarray .int, 2) := by decide +kernel
theorem dX5_init_19 : decode cX5_init 19 = .ok (.putfield 15, 3) := by decide +kernel
theorem dX5_init_22 : decode cX5_init 22 = .ok (.aload_n 0, 1) := by decide +kernel
theorem dX5_init_23 : decode cX5_init 23 = .ok (.iconst 4, 1) := by decide +kernel
theorem dX5_init_24 : decode cX5_init 24 = .ok (.newarray .int, 2) := by decide +kernel
theorem dX5_init_26 : decode cX5_init 26 = .ok (.putfield 18, 3) := by decide +kernel
theorem dX5_init_29 : decode cX5_init 29 = .ok (.aload_n 0, 1) := by decide +kernel
theorem dX5_init_30 : decode cX5_init 30 = .ok (.iconst 4, 1) := by decide +kernel
theorem dX5_init_31 : decode cX5_init 31 = .ok (.newarray .int, 2) := by decide +kernel
theorem dX5_init_33 : decode cX5_init 33 = .ok (.putfield 21, 3) := by decide +kernel
theorem dX5_init_36 : decode cX5_init 36 = .ok (.return_, 1) := by decide +kernel
theorem dX5_copyFrom_0 : decode cX5_copyFrom 0 = .ok (.aload_n 1, 1) := by decide +kernel
theorem dX5_copyFrom_1 : decode cX5_copyFrom 1 = .ok (.getfield 9, 3) := by decide +kernel
theorem dX5_copyFrom_4 : decode cX5_copyFrom 4 = .ok (.aload_n 0, 1) := by decide +kernel
theorem dX5_copyFrom_5 : decode cX5_copyFrom 5 = .ok (.getfield 9, 3) := by decide +kernel
theorem dX5_copyFrom_8 : decode cX5_copyFrom 8 = .ok (.invokestatic 24, 3) := by decide +kernel
theorem dX5_copyFrom_11 : decode cX5_copyFrom 11 = .ok (.aload_n 1, 1) := by decide +kernel
theorem dX5_copyFrom_12 : decode cX5_copyFrom 12 = .ok (.getfield 15, 3) := by decide +kernel
theorem dX5_copyFrom_15 : decode cX5_copyFrom 15 = .ok (.aload_n 0, 1) := by decide +kernel
theorem dX5_copyFrom_16 : decode cX5_copyFrom 16 = .ok (.getfield 15, 3) := by decide +kernel
theorem dX5_copyFrom_19 : decode cX5_copyFrom 19 = .ok (.invokestatic 24, 3) := by decide +kernel
theorem dX5_copyFrom_22 : decode cX5_copyFrom 22 = .ok (.aload_n 1, 1) := by decide +kernel
theorem dX5_copyFrom_23 : decode cX5_copyFrom 23 = .ok (.getfield 18, 3) := by decide +kernel
theorem dX5_copyFrom_26 : decode cX5_copyFrom 26 = .ok (.aload_n 0, 1) := by decide +kernel
theorem dX5_copyFrom_27 : decode cX5_copyFrom 27 = .ok (.getfield 18, 3) := by decide +kernel
theorem dX5_copyFrom_30 : decode cX5_copyFrom 30 = .ok (.invokestatic 24, 3) := by decide +kernel
theorem dX5_copyFrom_33 : decode cX5_copyFrom 33 = .ok (.aload_n 1, 1) := by decide +kernel
theorem dX5_copyFrom_34 : decode cX5_copyFrom 34 = .ok (.getfield 21, 3) := by decide +kernel
theorem dX5_copyFrom_37 : decode cX5_copyFrom 37 = .ok (.aload_n 0, 1) := by decide +kernel
theorem dX5_copyFrom_38 : decode cX5_copyFrom 38 = .ok (.getfield 21, 3) := by decide +kernel
theorem dX5_copyFrom_41 : decode cX5_copyFrom 41 = .ok (.invokestatic 24, 3) := by decide +kernel
theorem dX5_copyFrom_44 : decode cX5_copyFrom 44 = .ok (.return_, 1) := by decide +kernel
theorem dX5_samplesOf_0 : decode cX5_samplesOf 0 = .ok (.aload_n 0, 1) := by decide +kernel
theorem dX5_samplesOf_1 : decode cX5_samplesOf 1 = .ok (.getfield 18, 3) := by decide +kernel
theorem dX5_samplesOf_4 : decode cX5_samplesOf 4 = .ok (.iload_n 1, 1) := by decide +kernel
theorem dX5_samplesOf_5 : decode cX5_samplesOf 5 = .ok (.invokestatic 28, 3) := by decide +kernel
theorem dX5_samplesOf_8 : decode cX5_samplesOf 8 = .ok (.ireturn, 1) := by decide +kernel
theorem dX5_notesOf_0 : decode cX5_notesOf 0 = .ok (.aload_n 0, 1) := by decide +kernel
theorem dX5_notesOf_1 : decode cX5_notesOf 1 = .ok (.getfield 21, 3) := by decide +kernel
theorem dX5_notesOf_4 : decode cX5_notesOf 4 = .ok (.iload_n 1, 1) := by decide +kernel
theorem dX5_notesOf_5 : decode cX5_notesOf 5 = .ok (.invokestatic 28, 3) := by decide +kernel
theorem dX5_notesOf_8 : decode cX5_notesOf 8 = .ok (.ireturn, 1) := by decide +kernel
theorem dX5_framesOf_0 : decode cX5_framesOf 0 = .ok (.aload_n 0, 1) := by decide +kernel
theorem dX5_framesOf_1 : decode cX5_framesOf 1 = .ok (.iload_n 1, 1) := by decide +kernel
theorem dX5_framesOf_2 : decode cX5_framesOf 2 = .ok (.invokevirtual 32, 3) := by decide +kernel
theorem dX5_framesOf_5 : decode cX5_framesOf 5 = .ok (.bipush 8, 2) := by decide +kernel
theorem dX5_framesOf_7 : decode cX5_framesOf 7 = .ok (.iadd, 1) := by decide +kernel
theorem dX5_framesOf_8 : decode cX5_framesOf 8 = .ok (.iconst 1, 1) := by decide +kernel
theorem dX5_framesOf_9 : decode cX5_framesOf 9 = .ok (.isub, 1) := by decide +kernel
theorem dX5_framesOf_10 : decode cX5_framesOf 10 = .ok (.bipush 8, 2) := by decide +kernel
theorem dX5_framesOf_12 : decode cX5_framesOf 12 = .ok (.idiv, 1) := by decide +kernel
theorem dX5_framesOf_13 : decode cX5_framesOf 13 = .ok (.ireturn, 1) := by decide +kernel
theorem dX5_hasSample_0 : decode cX5_hasSample 0 = .ok (.iload_n 2, 1) := by decide +kernel
theorem dX5_hasSample_1 : decode cX5_hasSample 1 = .ok (.iconst 0, 1) := by decide +kernel
theorem dX5_hasSample_2 : decode cX5_hasSample 2 = .ok (.aload_n 0, 1) := by decide +kernel
theorem dX5_hasSample_3 : decode cX5_hasSample 3 = .ok (.iload_n 1, 1) := by decide +kernel
theorem dX5_hasSample_4 : decode cX5_hasSample 4 = .ok (.invokevirtual 32, 3) := by decide +kernel
theorem dX5_hasSample_7 : decode cX5_hasSample 7 = .ok (.iconst 1, 1) := by decide +kernel
theorem dX5_hasSample_8 : decode cX5_hasSample 8 = .ok (.isub, 1) := by decide +kernel
theorem dX5_hasSample_9 : decode cX5_hasSample 9 = .ok (.invokestatic 36, 3) := by decide +kernel
theorem dX5_hasSample_12 : decode cX5_hasSample 12 = .ok (.ireturn, 1) := by decide +kernel
theorem dX5_rawAt_0 : decode cX5_rawAt 0 = .ok (.aload_n 0, 1) := by decide +kernel
theorem dX5_rawAt_1 : decode cX5_rawAt 1 = .ok (.getfield 9, 3) := by decide +kernel
theorem dX5_rawAt_4 : decode cX5_rawAt 4 = .ok (.iload_n 1, 1) := by decide +kernel
theorem dX5_rawAt_5 : decode cX5_rawAt 5 = .ok (.sipush 160, 3) := by decide +kernel
theorem dX5_rawAt_8 : decode cX5_rawAt 8 = .ok (.imul, 1) := by decide +kernel
theorem dX5_rawAt_9 : decode cX5_rawAt 9 = .ok (.iload_n 2, 1) := by decide +kernel
theorem dX5_rawAt_10 : decode cX5_rawAt 10 = .ok (.iadd, 1) := by decide +kernel
theorem dX5_rawAt_11 : decode cX5_rawAt 11 = .ok (.invokestatic 28, 3) := by decide +kernel
theorem dX5_rawAt_14 : decode cX5_rawAt 14 = .ok (.ireturn, 1) := by decide +kernel
theorem dX5_faultOfSong_0 : decode cX5_faultOfSong 0 = .ok (.iload_n 0, 1) := by decide +kernel
theorem dX5_faultOfSong_1 : decode cX5_faultOfSong 1 = .ok (.iconst 0, 1) := by decide +kernel
theorem dX5_faultOfSong_2 : decode cX5_faultOfSong 2 = .ok (.iconst 3, 1) := by decide +kernel
theorem dX5_faultOfSong_3 : decode cX5_faultOfSong 3 = .ok (.invokestatic 36, 3) := by decide +kernel
theorem dX5_faultOfSong_6 : decode cX5_faultOfSong 6 = .ok (.ifCond .eq 7, 3) := by decide +kernel
theorem dX5_faultOfSong_9 : decode cX5_faultOfSong 9 = .ok (.iconst 0, 1) := by decide +kernel
theorem dX5_faultOfSong_10 : decode cX5_faultOfSong 10 = .ok (.goto 4, 3) := by decide +kernel
theorem dX5_faultOfSong_13 : decode cX5_faultOfSong 13 = .ok (.iconst 1, 1) := by decide +kernel
theorem dX5_faultOfSong_14 : decode cX5_faultOfSong 14 = .ok (.ireturn, 1) := by decide +kernel
theorem dX5_faultOfPlaying_0 : decode cX5_faultOfPlaying 0 = .ok (.iload_n 1, 1) := by decide +kernel
theorem dX5_faultOfPlaying_1 : decode cX5_faultOfPlaying 1 = .ok (.invokestatic 40, 3) := by decide +kernel
theorem dX5_faultOfPlaying_4 : decode cX5_faultOfPlaying 4 = .ok (.ifCond .eq 5, 3) := by decide +kernel
theorem dX5_faultOfPlaying_7 : decode cX5_faultOfPlaying 7 = .ok (.iconst 1, 1) := by decide +kernel
theorem dX5_faultOfPlaying_8 : decode cX5_faultOfPlaying 8 = .ok (.ireturn, 1) := by decide +kernel
theorem dX5_faultOfPlaying_9 : decode cX5_faultOfPlaying 9 = .ok (.aload_n 0, 1) := by decide +kernel
theorem dX5_faultOfPlaying_10 : decode cX5_faultOfPlaying 10 = .ok (.iload_n 1, 1) := by decide +kernel
theorem dX5_faultOfPlaying_11 : decode cX5_faultOfPlaying 11 = .ok (.invokevirtual 43, 3) := by decide +kernel
theorem dX5_faultOfPlaying_14 : decode cX5_faultOfPlaying 14 = .ok (.ifCond .le 7, 3) := by decide +kernel
theorem dX5_faultOfPlaying_17 : decode cX5_faultOfPlaying 17 = .ok (.iconst 0, 1) := by decide +kernel
theorem dX5_faultOfPlaying_18 : decode cX5_faultOfPlaying 18 = .ok (.goto 4, 3) := by decide +kernel
theorem dX5_faultOfPlaying_21 : decode cX5_faultOfPlaying 21 = .ok (.iconst 4, 1) := by decide +kernel
theorem dX5_faultOfPlaying_22 : decode cX5_faultOfPlaying 22 = .ok (.ireturn, 1) := by decide +kernel
theorem dX5_faultOfSample_0 : decode cX5_faultOfSample 0 = .ok (.iload_n 1, 1) := by decide +kernel
theorem dX5_faultOfSample_1 : decode cX5_faultOfSample 1 = .ok (.invokestatic 40, 3) := by decide +kernel
theorem dX5_faultOfSample_4 : decode cX5_faultOfSample 4 = .ok (.ifCond .eq 5, 3) := by decide +kernel
theorem dX5_faultOfSample_7 : decode cX5_faultOfSample 7 = .ok (.iconst 1, 1) := by decide +kernel
theorem dX5_faultOfSample_8 : decode cX5_faultOfSample 8 = .ok (.ireturn, 1) := by decide +kernel
theorem dX5_faultOfSample_9 : decode cX5_faultOfSample 9 = .ok (.aload_n 0, 1) := by decide +kernel
theorem dX5_faultOfSample_10 : decode cX5_faultOfSample 10 = .ok (.iload_n 1, 1) := by decide +kernel
theorem dX5_faultOfSample_11 : decode cX5_faultOfSample 11 = .ok (.iload_n 2, 1) := by decide +kernel
theorem dX5_faultOfSample_12 : decode cX5_faultOfSample 12 = .ok (.invokevirtual 46, 3) := by decide +kernel
theorem dX5_faultOfSample_15 : decode cX5_faultOfSample 15 = .ok (.ifCond .eq 7, 3) := by decide +kernel
theorem dX5_faultOfSample_18 : decode cX5_faultOfSample 18 = .ok (.iconst 0, 1) := by decide +kernel
theorem dX5_faultOfSample_19 : decode cX5_faultOfSample 19 = .ok (.goto 4, 3) := by decide +kernel
theorem dX5_faultOfSample_22 : decode cX5_faultOfSample 22 = .ok (.iconst 4, 1) := by decide +kernel
theorem dX5_faultOfSample_23 : decode cX5_faultOfSample 23 = .ok (.ireturn, 1) := by decide +kernel
theorem dX5_faultOfNewNote_0 : decode cX5_faultOfNewNote 0 = .ok (.iload_n 1, 1) := by decide +kernel
theorem dX5_faultOfNewNote_1 : decode cX5_faultOfNewNote 1 = .ok (.invokestatic 40, 3) := by decide +kernel
theorem dX5_faultOfNewNote_4 : decode cX5_faultOfNewNote 4 = .ok (.ifCond .eq 5, 3) := by decide +kernel
theorem dX5_faultOfNewNote_7 : decode cX5_faultOfNewNote 7 = .ok (.iconst 1, 1) := by decide +kernel
theorem dX5_faultOfNewNote_8 : decode cX5_faultOfNewNote 8 = .ok (.ireturn, 1) := by decide +kernel
theorem dX5_faultOfNewNote_9 : decode cX5_faultOfNewNote 9 = .ok (.iload_n 2, 1) := by decide +kernel
theorem dX5_faultOfNewNote_10 : decode cX5_faultOfNewNote 10 = .ok (.iconst 2, 1) := by decide +kernel
theorem dX5_faultOfNewNote_11 : decode cX5_faultOfNewNote 11 = .ok (.bipush 20, 2) := by decide +kernel
theorem dX5_faultOfNewNote_13 : decode cX5_faultOfNewNote 13 = .ok (.invokestatic 36, 3) := by decide +kernel
theorem dX5_faultOfNewNote_16 : decode cX5_faultOfNewNote 16 = .ok (.ifCond .eq 25, 3) := by decide +kernel
theorem dX5_faultOfNewNote_19 : decode cX5_faultOfNewNote 19 = .ok (.iload_n 3, 1) := by decide +kernel
theorem dX5_faultOfNewNote_20 : decode cX5_faultOfNewNote 20 = .ok (.iconst 1, 1) := by decide +kernel
theorem dX5_faultOfNewNote_21 : decode cX5_faultOfNewNote 21 = .ok (.sipush 999, 3) := by decide +kernel
theorem dX5_faultOfNewNote_24 : decode cX5_faultOfNewNote 24 = .ok (.invokestatic 36, 3) := by decide +kernel
theorem dX5_faultOfNewNote_27 : decode cX5_faultOfNewNote 27 = .ok (.ifCond .eq 14, 3) := by decide +kernel
theorem dX5_faultOfNewNote_30 : decode cX5_faultOfNewNote 30 = .ok (.iload 4, 2) := by decide +kernel
theorem dX5_faultOfNewNote_32 : decode cX5_faultOfNewNote 32 = .ok (.iconst 1, 1) := by decide +kernel
theorem dX5_faultOfNewNote_33 : decode cX5_faultOfNewNote 33 = .ok (.bipush 40, 2) := by decide +kernel
theorem dX5_faultOfNewNote_35 : decode cX5_faultOfNewNote 35 = .ok (.invokestatic 36, 3) := by decide +kernel
theorem dX5_faultOfNewNote_38 : decode cX5_faultOfNewNote 38 = .ok (.ifCond .ne 5, 3) := by decide +kernel
theorem dX5_faultOfNewNote_41 : decode cX5_faultOfNewNote 41 = .ok (.iconst 2, 1) := by decide +kernel
theorem dX5_faultOfNewNote_42 : decode cX5_faultOfNewNote 42 = .ok (.ireturn, 1) := by decide +kernel
theorem dX5_faultOfNewNote_43 : decode cX5_faultOfNewNote 43 = .ok (.aload_n 0, 1) := by decide +kernel
theorem dX5_faultOfNewNote_44 : decode cX5_faultOfNewNote 44 = .ok (.iload_n 1, 1) := by decide +kernel
theorem dX5_faultOfNewNote_45 : decode cX5_faultOfNewNote 45 = .ok (.invokevirtual 32, 3) := by decide +kernel
theorem dX5_faultOfNewNote_48 : decode cX5_faultOfNewNote 48 = .ok (.iload 4, 2) := by decide +kernel
theorem dX5_faultOfNewNote_50 : decode cX5_faultOfNewNote 50 = .ok (.iadd, 1) := by decide +kernel
theorem dX5_faultOfNewNote_51 : decode cX5_faultOfNewNote 51 = .ok (.sipush 160, 3) := by decide +kernel
theorem dX5_faultOfNewNote_54 : decode cX5_faultOfNewNote 54 = .ok (.if_icmp .gt 7, 3) := by decide +kernel
theorem dX5_faultOfNewNote_57 : decode cX5_faultOfNewNote 57 = .ok (.iconst 0, 1) := by decide +kernel
theorem dX5_faultOfNewNote_58 : decode cX5_faultOfNewNote 58 = .ok (.goto 4, 3) := by decide +kernel
theorem dX5_faultOfNewNote_61 : decode cX5_faultOfNewNote 61 = .ok (.iconst 3, 1) := by decide +kernel
theorem dX5_faultOfNewNote_62 : decode cX5_faultOfNewNote 62 = .ok (.ireturn, 1) := by decide +kernel
theorem dX5_putNote_0 : decode cX5_putNote 0 = .ok (.iload_n 1, 1) := by decide +kernel
theorem dX5_putNote_1 : decode cX5_putNote 1 = .ok (.sipush 160, 3) := by decide +kernel
theorem dX5_putNote_4 : decode cX5_putNote 4 = .ok (.imul, 1) := by decide +kernel
theorem dX5_putNote_5 : decode cX5_putNote 5 = .ok (.aload_n 0, 1) := by decide +kernel
theorem dX5_putNote_6 : decode cX5_putNote 6 = .ok (.iload_n 1, 1) := by decide +kernel
theorem dX5_putNote_7 : decode cX5_putNote 7 = .ok (.invokevirtual 32, 3) := by decide +kernel
theorem dX5_putNote_10 : decode cX5_putNote 10 = .ok (.iadd, 1) := by decide +kernel
theorem dX5_putNote_11 : decode cX5_putNote 11 = .ok (.istore 5, 2) := by decide +kernel
theorem dX5_putNote_13 : decode cX5_putNote 13 = .ok (.iload_n 2, 1) := by decide +kernel
theorem dX5_putNote_14 : decode cX5_putNote 14 = .ok (.iconst 2, 1) := by decide +kernel
theorem dX5_putNote_15 : decode cX5_putNote 15 = .ok (.idiv, 1) := by decide +kernel
theorem dX5_putNote_16 : decode cX5_putNote 16 = .ok (.istore 6, 2) := by decide +kernel
theorem dX5_putNote_18 : decode cX5_putNote 18 = .ok (.iconst 0, 1) := by decide +kernel
theorem dX5_putNote_19 : decode cX5_putNote 19 = .ok (.istore 7, 2) := by decide +kernel
theorem dX5_putNote_21 : decode cX5_putNote 21 = .ok (.iconst 0, 1) := by decide +kernel
theorem dX5_putNote_22 : decode cX5_putNote 22 = .ok (.istore 8, 2) := by decide +kernel
theorem dX5_putNote_24 : decode cX5_putNote 24 = .ok (.iload 8, 2) := by decide +kernel
theorem dX5_putNote_26 : decode cX5_putNote 26 = .ok (.iload 4, 2) := by decide +kernel
theorem dX5_putNote_28 : decode cX5_putNote 28 = .ok (.if_icmp .ge 52, 3) := by decide +kernel
theorem dX5_putNote_31 : decode cX5_putNote 31 = .ok (.aload_n 0, 1) := by decide +kernel
theorem dX5_putNote_32 : decode cX5_putNote 32 = .ok (.getfield 9, 3) := by decide +kernel
theorem dX5_putNote_35 : decode cX5_putNote 35 = .ok (.iload 5, 2) := by decide +kernel
theorem dX5_putNote_37 : decode cX5_putNote 37 = .ok (.iload 8, 2) := by decide +kernel
theorem dX5_putNote_39 : decode cX5_putNote 39 = .ok (.iadd, 1) := by decide +kernel
theorem dX5_putNote_40 : decode cX5_putNote 40 = .ok (.iload 7, 2) := by decide +kernel
theorem dX5_putNote_42 : decode cX5_putNote 42 = .ok (.iload 6, 2) := by decide +kernel
theorem dX5_putNote_44 : decode cX5_putNote 44 = .ok (.if_icmp .ge 7, 3) := by decide +kernel
theorem dX5_putNote_47 : decode cX5_putNote 47 = .ok (.iload_n 3, 1) := by decide +kernel
theorem dX5_putNote_48 : decode cX5_putNote 48 = .ok (.goto 5, 3) := by decide +kernel
theorem dX5_putNote_51 : decode cX5_putNote 51 = .ok (.iload_n 3, 1) := by decide +kernel
theorem dX5_putNote_52 : decode cX5_putNote 52 = .ok (.ineg, 1) := by decide +kernel
theorem dX5_putNote_53 : decode cX5_putNote 53 = .ok (.invokestatic 50, 3) := by decide +kernel
theorem dX5_putNote_56 : decode cX5_putNote 56 = .ok (.iload 7, 2) := by decide +kernel
theorem dX5_putNote_58 : decode cX5_putNote 58 = .ok (.iconst 1, 1) := by decide +kernel
theorem dX5_putNote_59 : decode cX5_putNote 59 = .ok (.iadd, 1) := by decide +kernel
theorem dX5_putNote_60 : decode cX5_putNote 60 = .ok (.iload_n 2, 1) := by decide +kernel
theorem dX5_putNote_61 : decode cX5_putNote 61 = .ok (.if_icmp .ge 10, 3) := by decide +kernel
theorem dX5_putNote_64 : decode cX5_putNote 64 = .ok (.iload 7, 2) := by decide +kernel
theorem dX5_putNote_66 : decode cX5_putNote 66 = .ok (.iconst 1, 1) := by decide +kernel
theorem dX5_putNote_67 : decode cX5_putNote 67 = .ok (.iadd, 1) := by decide +kernel
theorem dX5_putNote_68 : decode cX5_putNote 68 = .ok (.goto 4, 3) := by decide +kernel
theorem dX5_putNote_71 : decode cX5_putNote 71 = .ok (.iconst 0, 1) := by decide +kernel
theorem dX5_putNote_72 : decode cX5_putNote 72 = .ok (.istore 7, 2) := by decide +kernel
theorem dX5_putNote_74 : decode cX5_putNote 74 = .ok (.iinc 8 1, 3) := by decide +kernel
theorem dX5_putNote_77 : decode cX5_putNote 77 = .ok (.goto (-53), 3) := by decide +kernel
theorem dX5_putNote_80 : decode cX5_putNote 80 = .ok (.aload_n 0, 1) := by decide +kernel
theorem dX5_putNote_81 : decode cX5_putNote 81 = .ok (.getfield 15, 3) := by decide +kernel
theorem dX5_putNote_84 : decode cX5_putNote 84 = .ok (.iload_n 1, 1) := by decide +kernel
theorem dX5_putNote_85 : decode cX5_putNote 85 = .ok (.sipush 160, 3) := by decide +kernel
theorem dX5_putNote_88 : decode cX5_putNote 88 = .ok (.imul, 1) := by decide +kernel
theorem dX5_putNote_89 : decode cX5_putNote 89 = .ok (.aload_n 0, 1) := by decide +kernel
theorem dX5_putNote_90 : decode cX5_putNote 90 = .ok (.iload_n 1, 1) := by decide +kernel
theorem dX5_putNote_91 : decode cX5_putNote 91 = .ok (.invokevirtual 43, 3) := by decide +kernel
theorem dX5_putNote_94 : decode cX5_putNote 94 = .ok (.iadd, 1) := by decide +kernel
theorem dX5_putNote_95 : decode cX5_putNote 95 = .ok (.iload 4, 2) := by decide +kernel
theorem dX5_putNote_97 : decode cX5_putNote 97 = .ok (.invokestatic 50, 3) := by decide +kernel
theorem dX5_putNote_100 : decode cX5_putNote 100 = .ok (.aload_n 0, 1) := by decide +kernel
theorem dX5_putNote_101 : decode cX5_putNote 101 = .ok (.getfield 21, 3) := by decide +kernel
theorem dX5_putNote_104 : decode cX5_putNote 104 = .ok (.iload_n 1, 1) := by decide +kernel
theorem dX5_putNote_105 : decode cX5_putNote 105 = .ok (.aload_n 0, 1) := by decide +kernel
theorem dX5_putNote_106 : decode cX5_putNote 106 = .ok (.iload_n 1, 1) := by decide +kernel
theorem dX5_putNote_107 : decode cX5_putNote 107 = .ok (.invokevirtual 43, 3) := by decide +kernel
theorem dX5_putNote_110 : decode cX5_putNote 110 = .ok (.iconst 1, 1) := by decide +kernel
theorem dX5_putNote_111 : decode cX5_putNote 111 = .ok (.iadd, 1) := by decide +kernel
theorem dX5_putNote_112 : decode cX5_putNote 112 = .ok (.invokestatic 50, 3) := by decide +kernel
theorem dX5_putNote_115 : decode cX5_putNote 115 = .ok (.aload_n 0, 1) := by decide +kernel
theorem dX5_putNote_116 : decode cX5_putNote 116 = .ok (.getfield 18, 3) := by decide +kernel
theorem dX5_putNote_119 : decode cX5_putNote 119 = .ok (.iload_n 1, 1) := by decide +kernel
theorem dX5_putNote_120 : decode cX5_putNote 120 = .ok (.aload_n 0, 1) := by decide +kernel
theorem dX5_putNote_121 : decode cX5_putNote 121 = .ok (.iload_n 1, 1) := by decide +kernel
theorem dX5_putNote_122 : decode cX5_putNote 122 = .ok (.invokevirtual 32, 3) := by decide +kernel
theorem dX5_putNote_125 : decode cX5_putNote 125 = .ok (.iload 4, 2) := by decide +kernel
theorem dX5_putNote_127 : decode cX5_putNote 127 = .ok (.iadd, 1) := by decide +kernel
theorem dX5_putNote_128 : decode cX5_putNote 128 = .ok (.invokestatic 50, 3) := by decide +kernel
theorem dX5_putNote_131 : decode cX5_putNote 131 = .ok (.aload_n 0, 1) := by decide +kernel
theorem dX5_putNote_132 : decode cX5_putNote 132 = .ok (.iload_n 1, 1) := by decide +kernel
theorem dX5_putNote_133 : decode cX5_putNote 133 = .ok (.invokevirtual 32, 3) := by decide +kernel
theorem dX5_putNote_136 : decode cX5_putNote 136 = .ok (.ireturn, 1) := by decide +kernel
theorem dX5_takeNote_0 : decode cX5_takeNote 0 = .ok (.aload_n 0, 1) := by decide +kernel
theorem dX5_takeNote_1 : decode cX5_takeNote 1 = .ok (.iload_n 1, 1) := by decide +kernel
theorem dX5_takeNote_2 : decode cX5_takeNote 2 = .ok (.invokevirtual 43, 3) := by decide +kernel
theorem dX5_takeNote_5 : decode cX5_takeNote 5 = .ok (.iconst 1, 1) := by decide +kernel
theorem dX5_takeNote_6 : decode cX5_takeNote 6 = .ok (.isub, 1) := by decide +kernel
theorem dX5_takeNote_7 : decode cX5_takeNote 7 = .ok (.istore_n 2, 1) := by decide +kernel
theorem dX5_takeNote_8 : decode cX5_takeNote 8 = .ok (.aload_n 0, 1) := by decide +kernel
theorem dX5_takeNote_9 : decode cX5_takeNote 9 = .ok (.getfield 15, 3) := by decide +kernel
theorem dX5_takeNote_12 : decode cX5_takeNote 12 = .ok (.iload_n 1, 1) := by decide +kernel
theorem dX5_takeNote_13 : decode cX5_takeNote 13 = .ok (.sipush 160, 3) := by decide +kernel
theorem dX5_takeNote_16 : decode cX5_takeNote 16 = .ok (.imul, 1) := by decide +kernel
theorem dX5_takeNote_17 : decode cX5_takeNote 17 = .ok (.iload_n 2, 1) := by decide +kernel
theorem dX5_takeNote_18 : decode cX5_takeNote 18 = .ok (.iadd, 1) := by decide +kernel
theorem dX5_takeNote_19 : decode cX5_takeNote 19 = .ok (.invokestatic 28, 3) := by decide +kernel
theorem dX5_takeNote_22 : decode cX5_takeNote 22 = .ok (.istore_n 3, 1) := by decide +kernel
theorem dX5_takeNote_23 : decode cX5_takeNote 23 = .ok (.aload_n 0, 1) := by decide +kernel
theorem dX5_takeNote_24 : decode cX5_takeNote 24 = .ok (.getfield 21, 3) := by decide +kernel
theorem dX5_takeNote_27 : decode cX5_takeNote 27 = .ok (.iload_n 1, 1) := by decide +kernel
theorem dX5_takeNote_28 : decode cX5_takeNote 28 = .ok (.iload_n 2, 1) := by decide +kernel
theorem dX5_takeNote_29 : decode cX5_takeNote 29 = .ok (.invokestatic 50, 3) := by decide +kernel
theorem dX5_takeNote_32 : decode cX5_takeNote 32 = .ok (.aload_n 0, 1) := by decide +kernel
theorem dX5_takeNote_33 : decode cX5_takeNote 33 = .ok (.getfield 18, 3) := by decide +kernel
theorem dX5_takeNote_36 : decode cX5_takeNote 36 = .ok (.iload_n 1, 1) := by decide +kernel
theorem dX5_takeNote_37 : decode cX5_takeNote 37 = .ok (.aload_n 0, 1) := by decide +kernel
theorem dX5_takeNote_38 : decode cX5_takeNote 38 = .ok (.iload_n 1, 1) := by decide +kernel
theorem dX5_takeNote_39 : decode cX5_takeNote 39 = .ok (.invokevirtual 32, 3) := by decide +kernel
theorem dX5_takeNote_42 : decode cX5_takeNote 42 = .ok (.iload_n 3, 1) := by decide +kernel
theorem dX5_takeNote_43 : decode cX5_takeNote 43 = .ok (.isub, 1) := by decide +kernel
theorem dX5_takeNote_44 : decode cX5_takeNote 44 = .ok (.invokestatic 50, 3) := by decide +kernel
theorem dX5_takeNote_47 : decode cX5_takeNote 47 = .ok (.aload_n 0, 1) := by decide +kernel
theorem dX5_takeNote_48 : decode cX5_takeNote 48 = .ok (.iload_n 1, 1) := by decide +kernel
theorem dX5_takeNote_49 : decode cX5_takeNote 49 = .ok (.invokevirtual 32, 3) := by decide +kernel
theorem dX5_takeNote_52 : decode cX5_takeNote 52 = .ok (.ireturn, 1) := by decide +kernel
theorem dX6_init_0 : decode cX6_init 0 = .ok (.aload_n 0, 1) := by decide +kernel
theorem dX6_init_1 : decode cX6_init 1 = .ok (.invokespecial 1, 3) := by decide +kernel
theorem dX6_init_4 : decode cX6_init 4 = .ok (.aload_n 0, 1) := by decide +kernel
theorem dX6_init_5 : decode cX6_init 5 = .ok (.new 7, 3) := by decide +kernel
theorem dX6_init_8 : decode cX6_init 8 = .ok (.dup, 1) := by decide +kernel
theorem dX6_init_9 : decode cX6_init 9 = .ok (.invokespecial 9, 3) := by decide +kernel
theorem dX6_init_12 : decode cX6_init 12 = .ok (.putfield 10, 3) := by decide +kernel
theorem dX6_init_15 : decode cX6_init 15 = .ok (.aload_n 0, 1) := by decide +kernel
theorem dX6_init_16 : decode cX6_init 16 = .ok (.new 16, 3) := by decide +kernel
theorem dX6_init_19 : decode cX6_init 19 = .ok (.dup, 1) := by decide +kernel
theorem dX6_init_20 : decode cX6_init 20 = .ok (.invokespecial 18, 3) := by decide +kernel
theorem dX6_init_23 : decode cX6_init 23 = .ok (.putfield 19, 3) := by decide +kernel
theorem dX6_init_26 : decode cX6_init 26 = .ok (.aload_n 0, 1) := by decide +kernel
theorem dX6_init_27 : decode cX6_init 27 = .ok (.new 23, 3) := by decide +kernel
theorem dX6_init_30 : decode cX6_init 30 = .ok (.dup, 1) := by decide +kernel
theorem dX6_init_31 : decode cX6_init 31 = .ok (.invokespecial 25, 3) := by decide +kernel
theorem dX6_init_34 : decode cX6_init 34 = .ok (.putfield 26, 3) := by decide +kernel
theorem dX6_init_37 : decode cX6_init 37 = .ok (.return_, 1) := by decide +kernel
theorem dX6_copyFrom_0 : decode cX6_copyFrom 0 = .ok (.aload_n 0, 1) := by decide +kernel
theorem dX6_copyFrom_1 : decode cX6_copyFrom 1 = .ok (.getfield 10, 3) := by decide +kernel
theorem dX6_copyFrom_4 : decode cX6_copyFrom 4 = .ok (.aload_n 1, 1) := by decide +kernel
theorem dX6_copyFrom_5 : decode cX6_copyFrom 5 = .ok (.getfield 10, 3) := by decide +kernel
theorem dX6_copyFrom_8 : decode cX6_copyFrom 8 = .ok (.invokevirtual 30, 3) := by decide +kernel
theorem dX6_copyFrom_11 : decode cX6_copyFrom 11 = .ok (.aload_n 0, 1) := by decide +kernel
theorem dX6_copyFrom_12 : decode cX6_copyFrom 12 = .ok (.getfield 19, 3) := by decide +kernel
theorem dX6_copyFrom_15 : decode cX6_copyFrom 15 = .ok (.aload_n 1, 1) := by decide +kernel
theorem dX6_copyFrom_16 : decode cX6_copyFrom 16 = .ok (.getfield 19, 3) := by decide +kernel
theorem dX6_copyFrom_19 : decode cX6_copyFrom 19 = .ok (.invokevirtual 34, 3) := by decide +kernel
theorem dX6_copyFrom_22 : decode cX6_copyFrom 22 = .ok (.aload_n 0, 1) := by decide +kernel
theorem dX6_copyFrom_23 : decode cX6_copyFrom 23 = .ok (.getfield 26, 3) := by decide +kernel
theorem dX6_copyFrom_26 : decode cX6_copyFrom 26 = .ok (.aload_n 1, 1) := by decide +kernel
theorem dX6_copyFrom_27 : decode cX6_copyFrom 27 = .ok (.getfield 26, 3) := by decide +kernel
theorem dX6_copyFrom_30 : decode cX6_copyFrom 30 = .ok (.invokevirtual 37, 3) := by decide +kernel
theorem dX6_copyFrom_33 : decode cX6_copyFrom 33 = .ok (.return_, 1) := by decide +kernel
theorem dX7_init_0 : decode cX7_init 0 = .ok (.aload_n 0, 1) := by decide +kernel
theorem dX7_init_1 : decode cX7_init 1 = .ok (.invokespecial 3, 3) := by decide +kernel
theorem dX7_init_4 : decode cX7_init 4 = .ok (.aload_n 0, 1) := by decide +kernel
theorem dX7_init_5 : decode cX7_init 5 = .ok (.iconst 4, 1) := by decide +kernel
theorem dX7_init_6 : decode cX7_init 6 = .ok (.newarray .int, 2) := by decide +kernel
theorem dX7_init_8 : decode cX7_init 8 = .ok (.putfield 9, 3) := by decide +kernel
theorem dX7_init_11 : decode cX7_init 11 = .ok (.aload_n 0, 1) := by decide +kernel
theorem dX7_init_12 : decode cX7_init 12 = .ok (.iconst 4, 1) := by decide +kernel
theorem dX7_init_13 : decode cX7_init 13 = .ok (.newarray .int, 2) := by decide +kernel
theorem dX7_init_15 : decode cX7_init 15 = .ok (.putfield 15, 3) := by decide +kernel
theorem dX7_init_18 : decode cX7_init 18 = .ok (.aload_n 0, 1) := by decide +kernel
theorem dX7_init_19 : decode cX7_init 19 = .ok (.iconst 4, 1) := by decide +kernel
theorem dX7_init_20 : decode cX7_init 20 = .ok (.newarray .int, 2) := by decide +kernel
theorem dX7_init_22 : decode cX7_init 22 = .ok (.putfield 18, 3) := by decide +kernel
theorem dX7_init_25 : decode cX7_init 25 = .ok (.aload_n 0, 1) := by decide +kernel
theorem dX7_init_26 : decode cX7_init 26 = .ok (.bipush 36, 2) := by decide +kernel
theorem dX7_init_28 : decode cX7_init 28 = .ok (.newarray .int, 2) := by decide +kernel
theorem dX7_init_30 : decode cX7_init 30 = .ok (.putfield 21, 3) := by decide +kernel
theorem dX7_init_33 : decode cX7_init 33 = .ok (.aload_n 0, 1) := by decide +kernel
theorem dX7_init_34 : decode cX7_init 34 = .ok (.iconst 0, 1) := by decide +kernel
theorem dX7_init_35 : decode cX7_init 35 = .ok (.putfield 24, 3) := by decide +kernel
theorem dX7_init_38 : decode cX7_init 38 = .ok (.aload_n 0, 1) := by decide +kernel
theorem dX7_init_39 : decode cX7_init 39 = .ok (.iconst 0, 1) := by decide +kernel
theorem dX7_init_40 : decode cX7_init 40 = .ok (.putfield 28, 3) := by decide +kernel
theorem dX7_init_43 : decode cX7_init 43 = .ok (.aload_n 0, 1) := by decide +kernel
theorem dX7_init_44 : decode cX7_init 44 = .ok (.iconst 0, 1) := by decide +kernel
theorem dX7_init_45 : decode cX7_init 45 = .ok (.putfield 31, 3) := by decide +kernel
theorem dX7_init_48 : decode cX7_init 48 = .ok (.aload_n 0, 1) := by decide +kernel
theorem dX7_init_49 : decode cX7_init 49 = .ok (.iconst 0, 1) := by decide +kernel
theorem dX7_init_50 : decode cX7_init 50 = .ok (.putfield 34, 3) := by decide +kernel
theorem dX7_init_53 : decode cX7_init 53 = .ok (.return_, 1) := by decide +kernel
theorem dX7_copyFrom_0 : decode cX7_copyFrom 0 = .ok (.aload_n 1, 1) := by decide +kernel
theorem dX7_copyFrom_1 : decode cX7_copyFrom 1 = .ok (.getfield 9, 3) := by decide +kernel
theorem dX7_copyFrom_4 : decode cX7_copyFrom 4 = .ok (.aload_n 0, 1) := by decide +kernel
theorem dX7_copyFrom_5 : decode cX7_copyFrom 5 = .ok (.getfield 9, 3) := by decide +kernel
theorem dX7_copyFrom_8 : decode cX7_copyFrom 8 = .ok (.invokestatic 37, 3) := by decide +kernel
theorem dX7_copyFrom_11 : decode cX7_copyFrom 11 = .ok (.aload_n 1, 1) := by decide +kernel
theorem dX7_copyFrom_12 : decode cX7_copyFrom 12 = .ok (.getfield 15, 3) := by decide +kernel
theorem dX7_copyFrom_15 : decode cX7_copyFrom 15 = .ok (.aload_n 0, 1) := by decide +kernel
theorem dX7_copyFrom_16 : decode cX7_copyFrom 16 = .ok (.getfield 15, 3) := by decide +kernel
theorem dX7_copyFrom_19 : decode cX7_copyFrom 19 = .ok (.invokestatic 37, 3) := by decide +kernel
theorem dX7_copyFrom_22 : decode cX7_copyFrom 22 = .ok (.aload_n 1, 1) := by decide +kernel
theorem dX7_copyFrom_23 : decode cX7_copyFrom 23 = .ok (.getfield 18, 3) := by decide +kernel
theorem dX7_copyFrom_26 : decode cX7_copyFrom 26 = .ok (.aload_n 0, 1) := by decide +kernel
theorem dX7_copyFrom_27 : decode cX7_copyFrom 27 = .ok (.getfield 18, 3) := by decide +kernel
theorem dX7_copyFrom_30 : decode cX7_copyFrom 30 = .ok (.invokestatic 37, 3) := by decide +kernel
theorem dX7_copyFrom_33 : decode cX7_copyFrom 33 = .ok (.aload_n 1, 1) := by decide +kernel
theorem dX7_copyFrom_34 : decode cX7_copyFrom 34 = .ok (.getfield 21, 3) := by decide +kernel
theorem dX7_copyFrom_37 : decode cX7_copyFrom 37 = .ok (.aload_n 0, 1) := by decide +kernel
theorem dX7_copyFrom_38 : decode cX7_copyFrom 38 = .ok (.getfield 21, 3) := by decide +kernel
theorem dX7_copyFrom_41 : decode cX7_copyFrom 41 = .ok (.invokestatic 37, 3) := by decide +kernel
theorem dX7_copyFrom_44 : decode cX7_copyFrom 44 = .ok (.aload_n 0, 1) := by decide +kernel
theorem dX7_copyFrom_45 : decode cX7_copyFrom 45 = .ok (.aload_n 1, 1) := by decide +kernel
theorem dX7_copyFrom_46 : decode cX7_copyFrom 46 = .ok (.getfield 24, 3) := by decide +kernel
theorem dX7_copyFrom_49 : decode cX7_copyFrom 49 = .ok (.putfield 24, 3) := by decide +kernel
theorem dX7_copyFrom_52 : decode cX7_copyFrom 52 = .ok (.aload_n 0, 1) := by decide +kernel
theorem dX7_copyFrom_53 : decode cX7_copyFrom 53 = .ok (.aload_n 1, 1) := by decide +kernel
theorem dX7_copyFrom_54 : decode cX7_copyFrom 54 = .ok (.getfield 28, 3) := by decide +kernel
theorem dX7_copyFrom_57 : decode cX7_copyFrom 57 = .ok (.putfield 28, 3) := by decide +kernel
theorem dX7_copyFrom_60 : decode cX7_copyFrom 60 = .ok (.aload_n 0, 1) := by decide +kernel
theorem dX7_copyFrom_61 : decode cX7_copyFrom 61 = .ok (.aload_n 1, 1) := by decide +kernel
theorem dX7_copyFrom_62 : decode cX7_copyFrom 62 = .ok (.getfield 31, 3) := by decide +kernel
theorem dX7_copyFrom_65 : decode cX7_copyFrom 65 = .ok (.putfield 31, 3) := by decide +kernel
theorem dX7_copyFrom_68 : decode cX7_copyFrom 68 = .ok (.aload_n 0, 1) := by decide +kernel
theorem dX7_copyFrom_69 : decode cX7_copyFrom 69 = .ok (.aload_n 1, 1) := by decide +kernel
theorem dX7_copyFrom_70 : decode cX7_copyFrom 70 = .ok (.getfield 34, 3) := by decide +kernel
theorem dX7_copyFrom_73 : decode cX7_copyFrom 73 = .ok (.putfield 34, 3) := by decide +kernel
theorem dX7_copyFrom_76 : decode cX7_copyFrom 76 = .ok (.return_, 1) := by decide +kernel
theorem dX7_capacityOf_0 : decode cX7_capacityOf 0 = .ok (.aload_n 0, 1) := by decide +kernel
theorem dX7_capacityOf_1 : decode cX7_capacityOf 1 = .ok (.getfield 9, 3) := by decide +kernel
theorem dX7_capacityOf_4 : decode cX7_capacityOf 4 = .ok (.iload_n 1, 1) := by decide +kernel
theorem dX7_capacityOf_5 : decode cX7_capacityOf 5 = .ok (.invokestatic 41, 3) := by decide +kernel
theorem dX7_capacityOf_8 : decode cX7_capacityOf 8 = .ok (.ireturn, 1) := by decide +kernel
theorem dX7_tuningOf_0 : decode cX7_tuningOf 0 = .ok (.aload_n 0, 1) := by decide +kernel
theorem dX7_tuningOf_1 : decode cX7_tuningOf 1 = .ok (.getfield 15, 3) := by decide +kernel
theorem dX7_tuningOf_4 : decode cX7_tuningOf 4 = .ok (.iload_n 1, 1) := by decide +kernel
theorem dX7_tuningOf_5 : decode cX7_tuningOf 5 = .ok (.invokestatic 41, 3) := by decide +kernel
theorem dX7_tuningOf_8 : decode cX7_tuningOf 8 = .ok (.ireturn, 1) := by decide +kernel
theorem dX7_levelOf_0 : decode cX7_levelOf 0 = .ok (.aload_n 0, 1) := by decide +kernel
theorem dX7_levelOf_1 : decode cX7_levelOf 1 = .ok (.getfield 18, 3) := by decide +kernel
theorem dX7_levelOf_4 : decode cX7_levelOf 4 = .ok (.iload_n 1, 1) := by decide +kernel
theorem dX7_levelOf_5 : decode cX7_levelOf 5 = .ok (.invokestatic 41, 3) := by decide +kernel
theorem dX7_levelOf_8 : decode cX7_levelOf 8 = .ok (.ireturn, 1) := by decide +kernel
theorem dX7_frameAt_0 : decode cX7_frameAt 0 = .ok (.aload_n 0, 1) := by decide +kernel
theorem dX7_frameAt_1 : decode cX7_frameAt 1 = .ok (.getfield 21, 3) := by decide +kernel
theorem dX7_frameAt_4 : decode cX7_frameAt 4 = .ok (.iload_n 1, 1) := by decide +kernel
theorem dX7_frameAt_5 : decode cX7_frameAt 5 = .ok (.bipush 9, 2) := by decide +kernel
theorem dX7_frameAt_7 : decode cX7_frameAt 7 = .ok (.imul, 1) := by decide +kernel
theorem dX7_frameAt_8 : decode cX7_frameAt 8 = .ok (.iload_n 2, 1) := by decide +kernel
theorem dX7_frameAt_9 : decode cX7_frameAt 9 = .ok (.iadd, 1) := by decide +kernel
theorem dX7_frameAt_10 : decode cX7_frameAt 10 = .ok (.invokestatic 41, 3) := by decide +kernel
theorem dX7_frameAt_13 : decode cX7_frameAt 13 = .ok (.ireturn, 1) := by decide +kernel
theorem dX7_setFrame_0 : decode cX7_setFrame 0 = .ok (.aload_n 0, 1) := by decide +kernel
theorem dX7_setFrame_1 : decode cX7_setFrame 1 = .ok (.getfield 21, 3) := by decide +kernel
theorem dX7_setFrame_4 : decode cX7_setFrame 4 = .ok (.iload_n 1, 1) := by decide +kernel
theorem dX7_setFrame_5 : decode cX7_setFrame 5 = .ok (.bipush 9, 2) := by decide +kernel
theorem dX7_setFrame_7 : decode cX7_setFrame 7 = .ok (.imul, 1) := by decide +kernel
theorem dX7_setFrame_8 : decode cX7_setFrame 8 = .ok (.iload_n 2, 1) := by decide +kernel
theorem dX7_setFrame_9 : decode cX7_setFrame 9 = .ok (.iadd, 1) := by decide +kernel
theorem dX7_setFrame_10 : decode cX7_setFrame 10 = .ok (.iload_n 3, 1) := by decide +kernel
theorem dX7_setFrame_11 : decode cX7_setFrame 11 = .ok (.invokestatic 45, 3) := by decide +kernel
theorem dX7_setFrame_14 : decode cX7_setFrame 14 = .ok (.return_, 1) := by decide +kernel
theorem dX7_faultOfTank_0 : decode cX7_faultOfTank 0 = .ok (.iload_n 1, 1) := by decide +kernel
theorem dX7_faultOfTank_1 : decode cX7_faultOfTank 1 = .ok (.iconst 0, 1) := by decide +kernel
theorem dX7_faultOfTank_2 : decode cX7_faultOfTank 2 = .ok (.aload_n 0, 1) := by decide +kernel
theorem dX7_faultOfTank_3 : decode cX7_faultOfTank 3 = .ok (.getfield 24, 3) := by decide +kernel
theorem dX7_faultOfTank_6 : decode cX7_faultOfTank 6 = .ok (.iconst 1, 1) := by decide +kernel
theorem dX7_faultOfTank_7 : decode cX7_faultOfTank 7 = .ok (.isub, 1) := by decide +kernel
theorem dX7_faultOfTank_8 : decode cX7_faultOfTank 8 = .ok (.invokestatic 49, 3) := by decide +kernel
theorem dX7_faultOfTank_11 : decode cX7_faultOfTank 11 = .ok (.ifCond .eq 7, 3) := by decide +kernel
theorem dX7_faultOfTank_14 : decode cX7_faultOfTank 14 = .ok (.iconst 0, 1) := by decide +kernel
theorem dX7_faultOfTank_15 : decode cX7_faultOfTank 15 = .ok (.goto 4, 3) := by decide +kernel
theorem dX7_faultOfTank_18 : decode cX7_faultOfTank 18 = .ok (.iconst 1, 1) := by decide +kernel
theorem dX7_faultOfTank_19 : decode cX7_faultOfTank 19 = .ok (.ireturn, 1) := by decide +kernel
theorem dX7_faultOfNewTank_0 : decode cX7_faultOfNewTank 0 = .ok (.iload_n 1, 1) := by decide +kernel
theorem dX7_faultOfNewTank_1 : decode cX7_faultOfNewTank 1 = .ok (.iconst 1, 1) := by decide +kernel
theorem dX7_faultOfNewTank_2 : decode cX7_faultOfNewTank 2 = .ok (.bipush 9, 2) := by decide +kernel
theorem dX7_faultOfNewTank_4 : decode cX7_faultOfNewTank 4 = .ok (.invokestatic 49, 3) := by decide +kernel
theorem dX7_faultOfNewTank_7 : decode cX7_faultOfNewTank 7 = .ok (.ifCond .ne 5, 3) := by decide +kernel
theorem dX7_faultOfNewTank_10 : decode cX7_faultOfNewTank 10 = .ok (.iconst 2, 1) := by decide +kernel
theorem dX7_faultOfNewTank_11 : decode cX7_faultOfNewTank 11 = .ok (.ireturn, 1) := by decide +kernel
theorem dX7_faultOfNewTank_12 : decode cX7_faultOfNewTank 12 = .ok (.aload_n 0, 1) := by decide +kernel
theorem dX7_faultOfNewTank_13 : decode cX7_faultOfNewTank 13 = .ok (.getfield 24, 3) := by decide +kernel
theorem dX7_faultOfNewTank_16 : decode cX7_faultOfNewTank 16 = .ok (.iconst 4, 1) := by decide +kernel
theorem dX7_faultOfNewTank_17 : decode cX7_faultOfNewTank 17 = .ok (.if_icmp .ge 7, 3) := by decide +kernel
theorem dX7_faultOfNewTank_20 : decode cX7_faultOfNewTank 20 = .ok (.iconst 0, 1) := by decide +kernel
theorem dX7_faultOfNewTank_21 : decode cX7_faultOfNewTank 21 = .ok (.goto 4, 3) := by decide +kernel
theorem dX7_faultOfNewTank_24 : decode cX7_faultOfNewTank 24 = .ok (.iconst 3, 1) := by decide +kernel
theorem dX7_faultOfNewTank_25 : decode cX7_faultOfNewTank 25 = .ok (.ireturn, 1) := by decide +kernel
theorem dX7_faultOfNewTuning_0 : decode cX7_faultOfNewTuning 0 = .ok (.aload_n 0, 1) := by decide +kernel
theorem dX7_faultOfNewTuning_1 : decode cX7_faultOfNewTuning 1 = .ok (.iload_n 1, 1) := by decide +kernel
theorem dX7_faultOfNewTuning_2 : decode cX7_faultOfNewTuning 2 = .ok (.invokevirtual 53, 3) := by decide +kernel
theorem dX7_faultOfNewTuning_5 : decode cX7_faultOfNewTuning 5 = .ok (.ifCond .eq 5, 3) := by decide +kernel
theorem dX7_faultOfNewTuning_8 : decode cX7_faultOfNewTuning 8 = .ok (.iconst 1, 1) := by decide +kernel
theorem dX7_faultOfNewTuning_9 : decode cX7_faultOfNewTuning 9 = .ok (.ireturn, 1) := by decide +kernel
theorem dX7_faultOfNewTuning_10 : decode cX7_faultOfNewTuning 10 = .ok (.iload_n 2, 1) := by decide +kernel
theorem dX7_faultOfNewTuning_11 : decode cX7_faultOfNewTuning 11 = .ok (.iconst 0, 1) := by decide +kernel
theorem dX7_faultOfNewTuning_12 : decode cX7_faultOfNewTuning 12 = .ok (.sipush 9999, 3) := by decide +kernel
theorem dX7_faultOfNewTuning_15 : decode cX7_faultOfNewTuning 15 = .ok (.invokestatic 49, 3) := by decide +kernel
theorem dX7_faultOfNewTuning_18 : decode cX7_faultOfNewTuning 18 = .ok (.ifCond .eq 7, 3) := by decide +kernel
theorem dX7_faultOfNewTuning_21 : decode cX7_faultOfNewTuning 21 = .ok (.iconst 0, 1) := by decide +kernel
theorem dX7_faultOfNewTuning_22 : decode cX7_faultOfNewTuning 22 = .ok (.goto 4, 3) := by decide +kernel
theorem dX7_faultOfNewTuning_25 : decode cX7_faultOfNewTuning 25 = .ok (.iconst 2, 1) := by decide +kernel
theorem dX7_faultOfNewTuning_26 : decode cX7_faultOfNewTuning 26 = .ok (.ireturn, 1) := by decide +kernel
theorem dX7_faultOfDraining_0 : decode cX7_faultOfDraining 0 = .ok (.aload_n 0, 1) := by decide +kernel
theorem dX7_faultOfDraining_1 : decode cX7_faultOfDraining 1 = .ok (.iload_n 1, 1) := by decide +kernel
theorem dX7_faultOfDraining_2 : decode cX7_faultOfDraining 2 = .ok (.invokevirtual 53, 3) := by decide +kernel
theorem dX7_faultOfDraining_5 : decode cX7_faultOfDraining 5 = .ok (.ifCond .eq 5, 3) := by decide +kernel
theorem dX7_faultOfDraining_8 : decode cX7_faultOfDraining 8 = .ok (.iconst 1, 1) := by decide +kernel
theorem dX7_faultOfDraining_9 : decode cX7_faultOfDraining 9 = .ok (.ireturn, 1) := by decide +kernel
theorem dX7_faultOfDraining_10 : decode cX7_faultOfDraining 10 = .ok (.iload_n 2, 1) := by decide +kernel
theorem dX7_faultOfDraining_11 : decode cX7_faultOfDraining 11 = .ok (.iconst 1, 1) := by decide +kernel
theorem dX7_faultOfDraining_12 : decode cX7_faultOfDraining 12 = .ok (.bipush 9, 2) := by decide +kernel
theorem dX7_faultOfDraining_14 : decode cX7_faultOfDraining 14 = .ok (.invokestatic 49, 3) := by decide +kernel
theorem dX7_faultOfDraining_17 : decode cX7_faultOfDraining 17 = .ok (.ifCond .ne 5, 3) := by decide +kernel
theorem dX7_faultOfDraining_20 : decode cX7_faultOfDraining 20 = .ok (.iconst 2, 1) := by decide +kernel
theorem dX7_faultOfDraining_21 : decode cX7_faultOfDraining 21 = .ok (.ireturn, 1) := by decide +kernel
theorem dX7_faultOfDraining_22 : decode cX7_faultOfDraining 22 = .ok (.iload_n 2, 1) := by decide +kernel
theorem dX7_faultOfDraining_23 : decode cX7_faultOfDraining 23 = .ok (.aload_n 0, 1) := by decide +kernel
theorem dX7_faultOfDraining_24 : decode cX7_faultOfDraining 24 = .ok (.iload_n 1, 1) := by decide +kernel
theorem dX7_faultOfDraining_25 : decode cX7_faultOfDraining 25 = .ok (.invokevirtual 57, 3) := by decide +kernel
theorem dX7_faultOfDraining_28 : decode cX7_faultOfDraining 28 = .ok (.if_icmp .gt 7, 3) := by decide +kernel
theorem dX7_faultOfDraining_31 : decode cX7_faultOfDraining 31 = .ok (.iconst 0, 1) := by decide +kernel
theorem dX7_faultOfDraining_32 : decode cX7_faultOfDraining 32 = .ok (.goto 4, 3) := by decide +kernel
theorem dX7_faultOfDraining_35 : decode cX7_faultOfDraining 35 = .ok (.iconst 4, 1) := by decide +kernel
theorem dX7_faultOfDraining_36 : decode cX7_faultOfDraining 36 = .ok (.ireturn, 1) := by decide +kernel
theorem dX7_faultOfFrame_0 : decode cX7_faultOfFrame 0 = .ok (.aload_n 0, 1) := by decide +kernel
theorem dX7_faultOfFrame_1 : decode cX7_faultOfFrame 1 = .ok (.iload_n 1, 1) := by decide +kernel
theorem dX7_faultOfFrame_2 : decode cX7_faultOfFrame 2 = .ok (.invokevirtual 53, 3) := by decide +kernel
theorem dX7_faultOfFrame_5 : decode cX7_faultOfFrame 5 = .ok (.ifCond .eq 5, 3) := by decide +kernel
theorem dX7_faultOfFrame_8 : decode cX7_faultOfFrame 8 = .ok (.iconst 1, 1) := by decide +kernel
theorem dX7_faultOfFrame_9 : decode cX7_faultOfFrame 9 = .ok (.ireturn, 1) := by decide +kernel
theorem dX7_faultOfFrame_10 : decode cX7_faultOfFrame 10 = .ok (.iload_n 2, 1) := by decide +kernel
theorem dX7_faultOfFrame_11 : decode cX7_faultOfFrame 11 = .ok (.iconst 0, 1) := by decide +kernel
theorem dX7_faultOfFrame_12 : decode cX7_faultOfFrame 12 = .ok (.aload_n 0, 1) := by decide +kernel
theorem dX7_faultOfFrame_13 : decode cX7_faultOfFrame 13 = .ok (.iload_n 1, 1) := by decide +kernel
theorem dX7_faultOfFrame_14 : decode cX7_faultOfFrame 14 = .ok (.invokevirtual 57, 3) := by decide +kernel
theorem dX7_faultOfFrame_17 : decode cX7_faultOfFrame 17 = .ok (.iconst 1, 1) := by decide +kernel
theorem dX7_faultOfFrame_18 : decode cX7_faultOfFrame 18 = .ok (.isub, 1) := by decide +kernel
theorem dX7_faultOfFrame_19 : decode cX7_faultOfFrame 19 = .ok (.invokestatic 49, 3) := by decide +kernel
theorem dX7_faultOfFrame_22 : decode cX7_faultOfFrame 22 = .ok (.ifCond .eq 7, 3) := by decide +kernel
theorem dX7_faultOfFrame_25 : decode cX7_faultOfFrame 25 = .ok (.iconst 0, 1) := by decide +kernel
theorem dX7_faultOfFrame_26 : decode cX7_faultOfFrame 26 = .ok (.goto 4, 3) := by decide +kernel
theorem dX7_faultOfFrame_29 : decode cX7_faultOfFrame 29 = .ok (.iconst 4, 1) := by decide +kernel
theorem dX7_faultOfFrame_30 : decode cX7_faultOfFrame 30 = .ok (.ireturn, 1) := by decide +kernel
theorem dX7_putTank_0 : decode cX7_putTank 0 = .ok (.aload_n 0, 1) := by decide +kernel
theorem dX7_putTank_1 : decode cX7_putTank 1 = .ok (.getfield 24, 3) := by decide +kernel
theorem dX7_putTank_4 : decode cX7_putTank 4 = .ok (.istore_n 2, 1) := by decide +kernel
theorem dX7_putTank_5 : decode cX7_putTank 5 = .ok (.aload_n 0, 1) := by decide +kernel
theorem dX7_putTank_6 : decode cX7_putTank 6 = .ok (.getfield 9, 3) := by decide +kernel
theorem dX7_putTank_9 : decode cX7_putTank 9 = .ok (.iload_n 2, 1) := by decide +kernel
theorem dX7_putTank_10 : decode cX7_putTank 10 = .ok (.iload_n 1, 1) := by decide +kernel
theorem dX7_putTank_11 : decode cX7_putTank 11 = .ok (.invokestatic 45, 3) := by decide +kernel
theorem dX7_putTank_14 : decode cX7_putTank 14 = .ok (.aload_n 0, 1) := by decide +kernel
theorem dX7_putTank_15 : decode cX7_putTank 15 = .ok (.getfield 15, 3) := by decide +kernel
theorem dX7_putTank_18 : decode cX7_putTank 18 = .ok (.iload_n 2, 1) := by decide +kernel
theorem dX7_putTank_19 : decode cX7_putTank 19 = .ok (.sipush 9999, 3) := by decide +kernel
theorem dX7_putTank_22 : decode cX7_putTank 22 = .ok (.invokestatic 45, 3) := by decide +kernel
theorem dX7_putTank_25 : decode cX7_putTank 25 = .ok (.aload_n 0, 1) := by decide +kernel
theorem dX7_putTank_26 : decode cX7_putTank 26 = .ok (.getfield 18, 3) := by decide +kernel
theorem dX7_putTank_29 : decode cX7_putTank 29 = .ok (.iload_n 2, 1) := by decide +kernel
theorem dX7_putTank_30 : decode cX7_putTank 30 = .ok (.iconst 0, 1) := by decide +kernel
theorem dX7_putTank_31 : decode cX7_putTank 31 = .ok (.invokestatic 45, 3) := by decide +kernel
theorem dX7_putTank_34 : decode cX7_putTank 34 = .ok (.aload_n 0, 1) := by decide +kernel
theorem dX7_putTank_35 : decode cX7_putTank 35 = .ok (.dup, 1) := by decide +kernel
theorem dX7_putTank_36 : decode cX7_putTank 36 = .ok (.getfield 24, 3) := by decide +kernel
theorem dX7_putTank_39 : decode cX7_putTank 39 = .ok (.iconst 1, 1) := by decide +kernel
theorem dX7_putTank_40 : decode cX7_putTank 40 = .ok (.iadd, 1) := by decide +kernel
theorem dX7_putTank_41 : decode cX7_putTank 41 = .ok (.putfield 24, 3) := by decide +kernel
theorem dX7_putTank_44 : decode cX7_putTank 44 = .ok (.iload_n 2, 1) := by decide +kernel
theorem dX7_putTank_45 : decode cX7_putTank 45 = .ok (.ireturn, 1) := by decide +kernel
theorem dX7_tune_0 : decode cX7_tune 0 = .ok (.aload_n 0, 1) := by decide +kernel
theorem dX7_tune_1 : decode cX7_tune 1 = .ok (.iload_n 1, 1) := by decide +kernel
theorem dX7_tune_2 : decode cX7_tune 2 = .ok (.invokevirtual 60, 3) := by decide +kernel
theorem dX7_tune_5 : decode cX7_tune 5 = .ok (.istore_n 3, 1) := by decide +kernel
theorem dX7_tune_6 : decode cX7_tune 6 = .ok (.aload_n 0, 1) := by decide +kernel
theorem dX7_tune_7 : decode cX7_tune 7 = .ok (.getfield 15, 3) := by decide +kernel
theorem dX7_tune_10 : decode cX7_tune 10 = .ok (.iload_n 1, 1) := by decide +kernel
theorem dX7_tune_11 : decode cX7_tune 11 = .ok (.iload_n 2, 1) := by decide +kernel
theorem dX7_tune_12 : decode cX7_tune 12 = .ok (.invokestatic 45, 3) := by decide +kernel
theorem dX7_tune_15 : decode cX7_tune 15 = .ok (.iload_n 3, 1) := by decide +kernel
theorem dX7_tune_16 : decode cX7_tune 16 = .ok (.ireturn, 1) := by decide +kernel
theorem dX7_store_0 : decode cX7_store 0 = .ok (.iconst (-1), 1) := by decide +kernel
theorem dX7_store_1 : decode cX7_store 1 = .ok (.istore_n 2, 1) := by decide +kernel
theorem dX7_store_2 : decode cX7_store 2 = .ok (.iconst 0, 1) := by decide +kernel
theorem dX7_store_3 : decode cX7_store 3 = .ok (.istore_n 3, 1) := by decide +kernel
theorem dX7_store_4 : decode cX7_store 4 = .ok (.iload_n 3, 1) := by decide +kernel
theorem dX7_store_5 : decode cX7_store 5 = .ok (.aload_n 0, 1) := by decide +kernel
theorem dX7_store_6 : decode cX7_store 6 = .ok (.getfield 24, 3) := by decide +kernel
theorem dX7_store_9 : decode cX7_store 9 = .ok (.if_icmp .ge 38, 3) := by decide +kernel
theorem dX7_store_12 : decode cX7_store 12 = .ok (.aload_n 0, 1) := by decide +kernel
theorem dX7_store_13 : decode cX7_store 13 = .ok (.iload_n 3, 1) := by decide +kernel
theorem dX7_store_14 : decode cX7_store 14 = .ok (.iload_n 1, 1) := by decide +kernel
theorem dX7_store_15 : decode cX7_store 15 = .ok (.invokevirtual 63, 3) := by decide +kernel
