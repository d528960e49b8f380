theorem dX7_store_18 : decode cX7_store 18 = .ok (.ifCond .eq 23, 3) := by decide +kernel
theorem dX7_store_21 : decode cX7_store 21 = .ok (.iload_n 2, 1) := by decide +kernel
theorem dX7_store_22 : decode cX7_store 22 = .ok (.iconst (-1), 1) := by decide +kernel
theorem dX7_store_23 : decode cX7_store 23 = .ok (.if_icmp .eq 16, 3) := by decide +kernel
theorem dX7_store_26 : decode cX7_store 26 = .ok (.aload_n 0, 1) := by decide +kernel
theorem dX7_store_27 : decode cX7_store 27 = .ok (.iload_n 3, 1) := by decide +kernel
theorem dX7_store_28 : decode cX7_store 28 = .ok (.invokevirtual 67, 3) := by decide +kernel
theorem dX7_store_31 : decode cX7_store 31 = .ok (.aload_n 0, 1) := by decide +kernel
theorem dX7_store_32 : decode cX7_store 32 = .ok (.iload_n 2, 1) := by decide +kernel
theorem dX7_store_33 : decode cX7_store 33 = .ok (.invokevirtual 67, 3) := by decide +kernel
theorem dX7_store_36 : decode cX7_store 36 = .ok (.if_icmp .le 5, 3) := by decide +kernel
theorem dX7_store_39 : decode cX7_store 39 = .ok (.iload_n 3, 1) := by decide +kernel
theorem dX7_store_40 : decode cX7_store 40 = .ok (.istore_n 2, 1) := by decide +kernel
theorem dX7_store_41 : decode cX7_store 41 = .ok (.iinc 3 1, 3) := by decide +kernel
theorem dX7_store_44 : decode cX7_store 44 = .ok (.goto (-40), 3) := by decide +kernel
theorem dX7_store_47 : decode cX7_store 47 = .ok (.iload_n 2, 1) := by decide +kernel
theorem dX7_store_48 : decode cX7_store 48 = .ok (.iconst (-1), 1) := by decide +kernel
theorem dX7_store_49 : decode cX7_store 49 = .ok (.if_icmp .ne 15, 3) := by decide +kernel
theorem dX7_store_52 : decode cX7_store 52 = .ok (.aload_n 0, 1) := by decide +kernel
theorem dX7_store_53 : decode cX7_store 53 = .ok (.dup, 1) := by decide +kernel
theorem dX7_store_54 : decode cX7_store 54 = .ok (.getfield 31, 3) := by decide +kernel
theorem dX7_store_57 : decode cX7_store 57 = .ok (.iconst 1, 1) := by decide +kernel
theorem dX7_store_58 : decode cX7_store 58 = .ok (.iadd, 1) := by decide +kernel
theorem dX7_store_59 : decode cX7_store 59 = .ok (.putfield 31, 3) := by decide +kernel
theorem dX7_store_62 : decode cX7_store 62 = .ok (.iconst 0, 1) := by decide +kernel
theorem dX7_store_63 : decode cX7_store 63 = .ok (.ireturn, 1) := by decide +kernel
theorem dX7_store_64 : decode cX7_store 64 = .ok (.aload_n 0, 1) := by decide +kernel
theorem dX7_store_65 : decode cX7_store 65 = .ok (.iload_n 2, 1) := by decide +kernel
theorem dX7_store_66 : decode cX7_store 66 = .ok (.aload_n 0, 1) := by decide +kernel
theorem dX7_store_67 : decode cX7_store 67 = .ok (.iload_n 2, 1) := by decide +kernel
theorem dX7_store_68 : decode cX7_store 68 = .ok (.invokevirtual 57, 3) := by decide +kernel
theorem dX7_store_71 : decode cX7_store 71 = .ok (.iload_n 1, 1) := by decide +kernel
theorem dX7_store_72 : decode cX7_store 72 = .ok (.invokevirtual 70, 3) := by decide +kernel
theorem dX7_store_75 : decode cX7_store 75 = .ok (.aload_n 0, 1) := by decide +kernel
theorem dX7_store_76 : decode cX7_store 76 = .ok (.getfield 18, 3) := by decide +kernel
theorem dX7_store_79 : decode cX7_store 79 = .ok (.iload_n 2, 1) := by decide +kernel
theorem dX7_store_80 : decode cX7_store 80 = .ok (.aload_n 0, 1) := by decide +kernel
theorem dX7_store_81 : decode cX7_store 81 = .ok (.iload_n 2, 1) := by decide +kernel
theorem dX7_store_82 : decode cX7_store 82 = .ok (.invokevirtual 57, 3) := by decide +kernel
theorem dX7_store_85 : decode cX7_store 85 = .ok (.iconst 1, 1) := by decide +kernel
theorem dX7_store_86 : decode cX7_store 86 = .ok (.iadd, 1) := by decide +kernel
theorem dX7_store_87 : decode cX7_store 87 = .ok (.invokestatic 45, 3) := by decide +kernel
theorem dX7_store_90 : decode cX7_store 90 = .ok (.aload_n 0, 1) := by decide +kernel
theorem dX7_store_91 : decode cX7_store 91 = .ok (.dup, 1) := by decide +kernel
theorem dX7_store_92 : decode cX7_store 92 = .ok (.getfield 28, 3) := by decide +kernel
theorem dX7_store_95 : decode cX7_store 95 = .ok (.iconst 1, 1) := by decide +kernel
theorem dX7_store_96 : decode cX7_store 96 = .ok (.iadd, 1) := by decide +kernel
theorem dX7_store_97 : decode cX7_store 97 = .ok (.putfield 28, 3) := by decide +kernel
theorem dX7_store_100 : decode cX7_store 100 = .ok (.iconst 1, 1) := by decide +kernel
theorem dX7_store_101 : decode cX7_store 101 = .ok (.ireturn, 1) := by decide +kernel
theorem dX7_accepts_0 : decode cX7_accepts 0 = .ok (.aload_n 0, 1) := by decide +kernel
theorem dX7_accepts_1 : decode cX7_accepts 1 = .ok (.iload_n 1, 1) := by decide +kernel
theorem dX7_accepts_2 : decode cX7_accepts 2 = .ok (.invokevirtual 57, 3) := by decide +kernel
theorem dX7_accepts_5 : decode cX7_accepts 5 = .ok (.aload_n 0, 1) := by decide +kernel
theorem dX7_accepts_6 : decode cX7_accepts 6 = .ok (.iload_n 1, 1) := by decide +kernel
theorem dX7_accepts_7 : decode cX7_accepts 7 = .ok (.invokevirtual 74, 3) := by decide +kernel
theorem dX7_accepts_10 : decode cX7_accepts 10 = .ok (.if_icmp .ge 16, 3) := by decide +kernel
theorem dX7_accepts_13 : decode cX7_accepts 13 = .ok (.iload_n 2, 1) := by decide +kernel
theorem dX7_accepts_14 : decode cX7_accepts 14 = .ok (.aload_n 0, 1) := by decide +kernel
theorem dX7_accepts_15 : decode cX7_accepts 15 = .ok (.iload_n 1, 1) := by decide +kernel
theorem dX7_accepts_16 : decode cX7_accepts 16 = .ok (.invokevirtual 60, 3) := by decide +kernel
theorem dX7_accepts_19 : decode cX7_accepts 19 = .ok (.if_icmp .gt 7, 3) := by decide +kernel
theorem dX7_accepts_22 : decode cX7_accepts 22 = .ok (.iconst 1, 1) := by decide +kernel
theorem dX7_accepts_23 : decode cX7_accepts 23 = .ok (.goto 4, 3) := by decide +kernel
theorem dX7_accepts_26 : decode cX7_accepts 26 = .ok (.iconst 0, 1) := by decide +kernel
theorem dX7_accepts_27 : decode cX7_accepts 27 = .ok (.ireturn, 1) := by decide +kernel
theorem dX7_roomOf_0 : decode cX7_roomOf 0 = .ok (.aload_n 0, 1) := by decide +kernel
theorem dX7_roomOf_1 : decode cX7_roomOf 1 = .ok (.iload_n 1, 1) := by decide +kernel
theorem dX7_roomOf_2 : decode cX7_roomOf 2 = .ok (.invokevirtual 74, 3) := by decide +kernel
theorem dX7_roomOf_5 : decode cX7_roomOf 5 = .ok (.aload_n 0, 1) := by decide +kernel
theorem dX7_roomOf_6 : decode cX7_roomOf 6 = .ok (.iload_n 1, 1) := by decide +kernel
theorem dX7_roomOf_7 : decode cX7_roomOf 7 = .ok (.invokevirtual 57, 3) := by decide +kernel
theorem dX7_roomOf_10 : decode cX7_roomOf 10 = .ok (.isub, 1) := by decide +kernel
theorem dX7_roomOf_11 : decode cX7_roomOf 11 = .ok (.ireturn, 1) := by decide +kernel
theorem dX7_takeFrames_0 : decode cX7_takeFrames 0 = .ok (.iconst 0, 1) := by decide +kernel
theorem dX7_takeFrames_1 : decode cX7_takeFrames 1 = .ok (.istore_n 3, 1) := by decide +kernel
theorem dX7_takeFrames_2 : decode cX7_takeFrames 2 = .ok (.iconst 0, 1) := by decide +kernel
theorem dX7_takeFrames_3 : decode cX7_takeFrames 3 = .ok (.istore 4, 2) := by decide +kernel
theorem dX7_takeFrames_5 : decode cX7_takeFrames 5 = .ok (.iload 4, 2) := by decide +kernel
theorem dX7_takeFrames_7 : decode cX7_takeFrames 7 = .ok (.iload_n 2, 1) := by decide +kernel
theorem dX7_takeFrames_8 : decode cX7_takeFrames 8 = .ok (.if_icmp .ge 21, 3) := by decide +kernel
theorem dX7_takeFrames_11 : decode cX7_takeFrames 11 = .ok (.iload_n 3, 1) := by decide +kernel
theorem dX7_takeFrames_12 : decode cX7_takeFrames 12 = .ok (.aload_n 0, 1) := by decide +kernel
theorem dX7_takeFrames_13 : decode cX7_takeFrames 13 = .ok (.iload_n 1, 1) := by decide +kernel
theorem dX7_takeFrames_14 : decode cX7_takeFrames 14 = .ok (.iload 4, 2) := by decide +kernel
theorem dX7_takeFrames_16 : decode cX7_takeFrames 16 = .ok (.invokevirtual 77, 3) := by decide +kernel
theorem dX7_takeFrames_19 : decode cX7_takeFrames 19 = .ok (.invokestatic 81, 3) := by decide +kernel
theorem dX7_takeFrames_22 : decode cX7_takeFrames 22 = .ok (.istore_n 3, 1) := by decide +kernel
theorem dX7_takeFrames_23 : decode cX7_takeFrames 23 = .ok (.iinc 4 1, 3) := by decide +kernel
theorem dX7_takeFrames_26 : decode cX7_takeFrames 26 = .ok (.goto (-21), 3) := by decide +kernel
theorem dX7_takeFrames_29 : decode cX7_takeFrames 29 = .ok (.aload_n 0, 1) := by decide +kernel
theorem dX7_takeFrames_30 : decode cX7_takeFrames 30 = .ok (.iload_n 1, 1) := by decide +kernel
theorem dX7_takeFrames_31 : decode cX7_takeFrames 31 = .ok (.invokevirtual 57, 3) := by decide +kernel
theorem dX7_takeFrames_34 : decode cX7_takeFrames 34 = .ok (.iload_n 2, 1) := by decide +kernel
theorem dX7_takeFrames_35 : decode cX7_takeFrames 35 = .ok (.isub, 1) := by decide +kernel
theorem dX7_takeFrames_36 : decode cX7_takeFrames 36 = .ok (.istore 4, 2) := by decide +kernel
theorem dX7_takeFrames_38 : decode cX7_takeFrames 38 = .ok (.iconst 0, 1) := by decide +kernel
theorem dX7_takeFrames_39 : decode cX7_takeFrames 39 = .ok (.istore 5, 2) := by decide +kernel
theorem dX7_takeFrames_41 : decode cX7_takeFrames 41 = .ok (.iload 5, 2) := by decide +kernel
theorem dX7_takeFrames_43 : decode cX7_takeFrames 43 = .ok (.iload 4, 2) := by decide +kernel
theorem dX7_takeFrames_45 : decode cX7_takeFrames 45 = .ok (.if_icmp .ge 25, 3) := by decide +kernel
theorem dX7_takeFrames_48 : decode cX7_takeFrames 48 = .ok (.aload_n 0, 1) := by decide +kernel
theorem dX7_takeFrames_49 : decode cX7_takeFrames 49 = .ok (.iload_n 1, 1) := by decide +kernel
theorem dX7_takeFrames_50 : decode cX7_takeFrames 50 = .ok (.iload 5, 2) := by decide +kernel
theorem dX7_takeFrames_52 : decode cX7_takeFrames 52 = .ok (.aload_n 0, 1) := by decide +kernel
theorem dX7_takeFrames_53 : decode cX7_takeFrames 53 = .ok (.iload_n 1, 1) := by decide +kernel
theorem dX7_takeFrames_54 : decode cX7_takeFrames 54 = .ok (.iload 5, 2) := by decide +kernel
theorem dX7_takeFrames_56 : decode cX7_takeFrames 56 = .ok (.iload_n 2, 1) := by decide +kernel
theorem dX7_takeFrames_57 : decode cX7_takeFrames 57 = .ok (.iadd, 1) := by decide +kernel
theorem dX7_takeFrames_58 : decode cX7_takeFrames 58 = .ok (.invokevirtual 77, 3) := by decide +kernel
theorem dX7_takeFrames_61 : decode cX7_takeFrames 61 = .ok (.invokevirtual 70, 3) := by decide +kernel
theorem dX7_takeFrames_64 : decode cX7_takeFrames 64 = .ok (.iinc 5 1, 3) := by decide +kernel
theorem dX7_takeFrames_67 : decode cX7_takeFrames 67 = .ok (.goto (-26), 3) := by decide +kernel
theorem dX7_takeFrames_70 : decode cX7_takeFrames 70 = .ok (.aload_n 0, 1) := by decide +kernel
theorem dX7_takeFrames_71 : decode cX7_takeFrames 71 = .ok (.getfield 18, 3) := by decide +kernel
theorem dX7_takeFrames_74 : decode cX7_takeFrames 74 = .ok (.iload_n 1, 1) := by decide +kernel
theorem dX7_takeFrames_75 : decode cX7_takeFrames 75 = .ok (.iload 4, 2) := by decide +kernel
theorem dX7_takeFrames_77 : decode cX7_takeFrames 77 = .ok (.invokestatic 45, 3) := by decide +kernel
theorem dX7_takeFrames_80 : decode cX7_takeFrames 80 = .ok (.aload_n 0, 1) := by decide +kernel
theorem dX7_takeFrames_81 : decode cX7_takeFrames 81 = .ok (.dup, 1) := by decide +kernel
theorem dX7_takeFrames_82 : decode cX7_takeFrames 82 = .ok (.getfield 34, 3) := by decide +kernel
theorem dX7_takeFrames_85 : decode cX7_takeFrames 85 = .ok (.iload_n 2, 1) := by decide +kernel
theorem dX7_takeFrames_86 : decode cX7_takeFrames 86 = .ok (.iadd, 1) := by decide +kernel
theorem dX7_takeFrames_87 : decode cX7_takeFrames 87 = .ok (.putfield 34, 3) := by decide +kernel
theorem dX7_takeFrames_90 : decode cX7_takeFrames 90 = .ok (.iload_n 3, 1) := by decide +kernel
theorem dX7_takeFrames_91 : decode cX7_takeFrames 91 = .ok (.ireturn, 1) := by decide +kernel
theorem dX7_tankBehind_0 : decode cX7_tankBehind 0 = .ok (.iconst 0, 1) := by decide +kernel
theorem dX7_tankBehind_1 : decode cX7_tankBehind 1 = .ok (.istore_n 2, 1) := by decide +kernel
theorem dX7_tankBehind_2 : decode cX7_tankBehind 2 = .ok (.iload_n 2, 1) := by decide +kernel
theorem dX7_tankBehind_3 : decode cX7_tankBehind 3 = .ok (.aload_n 0, 1) := by decide +kernel
theorem dX7_tankBehind_4 : decode cX7_tankBehind 4 = .ok (.getfield 24, 3) := by decide +kernel
theorem dX7_tankBehind_7 : decode cX7_tankBehind 7 = .ok (.if_icmp .ge 20, 3) := by decide +kernel
theorem dX7_tankBehind_10 : decode cX7_tankBehind 10 = .ok (.aload_n 0, 1) := by decide +kernel
theorem dX7_tankBehind_11 : decode cX7_tankBehind 11 = .ok (.iload_n 2, 1) := by decide +kernel
theorem dX7_tankBehind_12 : decode cX7_tankBehind 12 = .ok (.invokevirtual 86, 3) := by decide +kernel
theorem dX7_tankBehind_15 : decode cX7_tankBehind 15 = .ok (.iload_n 1, 1) := by decide +kernel
theorem dX7_tankBehind_16 : decode cX7_tankBehind 16 = .ok (.if_icmp .ne 5, 3) := by decide +kernel
theorem dX7_tankBehind_19 : decode cX7_tankBehind 19 = .ok (.iload_n 2, 1) := by decide +kernel
theorem dX7_tankBehind_20 : decode cX7_tankBehind 20 = .ok (.ireturn, 1) := by decide +kernel
theorem dX7_tankBehind_21 : decode cX7_tankBehind 21 = .ok (.iinc 2 1, 3) := by decide +kernel
theorem dX7_tankBehind_24 : decode cX7_tankBehind 24 = .ok (.goto (-22), 3) := by decide +kernel
theorem dX7_tankBehind_27 : decode cX7_tankBehind 27 = .ok (.iconst (-1), 1) := by decide +kernel
theorem dX7_tankBehind_28 : decode cX7_tankBehind 28 = .ok (.ireturn, 1) := by decide +kernel
theorem dX7_tanksAheadOf_0 : decode cX7_tanksAheadOf 0 = .ok (.iconst 0, 1) := by decide +kernel
theorem dX7_tanksAheadOf_1 : decode cX7_tanksAheadOf 1 = .ok (.istore_n 2, 1) := by decide +kernel
theorem dX7_tanksAheadOf_2 : decode cX7_tanksAheadOf 2 = .ok (.iconst 0, 1) := by decide +kernel
theorem dX7_tanksAheadOf_3 : decode cX7_tanksAheadOf 3 = .ok (.istore_n 3, 1) := by decide +kernel
theorem dX7_tanksAheadOf_4 : decode cX7_tanksAheadOf 4 = .ok (.iload_n 3, 1) := by decide +kernel
theorem dX7_tanksAheadOf_5 : decode cX7_tanksAheadOf 5 = .ok (.aload_n 0, 1) := by decide +kernel
theorem dX7_tanksAheadOf_6 : decode cX7_tanksAheadOf 6 = .ok (.getfield 24, 3) := by decide +kernel
theorem dX7_tanksAheadOf_9 : decode cX7_tanksAheadOf 9 = .ok (.if_icmp .ge 21, 3) := by decide +kernel
theorem dX7_tanksAheadOf_12 : decode cX7_tanksAheadOf 12 = .ok (.aload_n 0, 1) := by decide +kernel
theorem dX7_tanksAheadOf_13 : decode cX7_tanksAheadOf 13 = .ok (.iload_n 3, 1) := by decide +kernel
theorem dX7_tanksAheadOf_14 : decode cX7_tanksAheadOf 14 = .ok (.iload_n 1, 1) := by decide +kernel
theorem dX7_tanksAheadOf_15 : decode cX7_tanksAheadOf 15 = .ok (.invokevirtual 89, 3) := by decide +kernel
theorem dX7_tanksAheadOf_18 : decode cX7_tanksAheadOf 18 = .ok (.ifCond .eq 6, 3) := by decide +kernel
theorem dX7_tanksAheadOf_21 : decode cX7_tanksAheadOf 21 = .ok (.iinc 2 1, 3) := by decide +kernel
theorem dX7_tanksAheadOf_24 : decode cX7_tanksAheadOf 24 = .ok (.iinc 3 1, 3) := by decide +kernel
theorem dX7_tanksAheadOf_27 : decode cX7_tanksAheadOf 27 = .ok (.goto (-23), 3) := by decide +kernel
theorem dX7_tanksAheadOf_30 : decode cX7_tanksAheadOf 30 = .ok (.iload_n 2, 1) := by decide +kernel
theorem dX7_tanksAheadOf_31 : decode cX7_tanksAheadOf 31 = .ok (.ireturn, 1) := by decide +kernel
theorem dX7_isAhead_0 : decode cX7_isAhead 0 = .ok (.aload_n 0, 1) := by decide +kernel
theorem dX7_isAhead_1 : decode cX7_isAhead 1 = .ok (.iload_n 1, 1) := by decide +kernel
theorem dX7_isAhead_2 : decode cX7_isAhead 2 = .ok (.invokevirtual 57, 3) := by decide +kernel
theorem dX7_isAhead_5 : decode cX7_isAhead 5 = .ok (.aload_n 0, 1) := by decide +kernel
theorem dX7_isAhead_6 : decode cX7_isAhead 6 = .ok (.iload_n 2, 1) := by decide +kernel
theorem dX7_isAhead_7 : decode cX7_isAhead 7 = .ok (.invokevirtual 57, 3) := by decide +kernel
theorem dX7_isAhead_10 : decode cX7_isAhead 10 = .ok (.if_icmp .eq 22, 3) := by decide +kernel
theorem dX7_isAhead_13 : decode cX7_isAhead 13 = .ok (.aload_n 0, 1) := by decide +kernel
theorem dX7_isAhead_14 : decode cX7_isAhead 14 = .ok (.iload_n 1, 1) := by decide +kernel
theorem dX7_isAhead_15 : decode cX7_isAhead 15 = .ok (.invokevirtual 57, 3) := by decide +kernel
theorem dX7_isAhead_18 : decode cX7_isAhead 18 = .ok (.aload_n 0, 1) := by decide +kernel
theorem dX7_isAhead_19 : decode cX7_isAhead 19 = .ok (.iload_n 2, 1) := by decide +kernel
theorem dX7_isAhead_20 : decode cX7_isAhead 20 = .ok (.invokevirtual 57, 3) := by decide +kernel
theorem dX7_isAhead_23 : decode cX7_isAhead 23 = .ok (.if_icmp .le 7, 3) := by decide +kernel
theorem dX7_isAhead_26 : decode cX7_isAhead 26 = .ok (.iconst 1, 1) := by decide +kernel
theorem dX7_isAhead_27 : decode cX7_isAhead 27 = .ok (.goto 4, 3) := by decide +kernel
theorem dX7_isAhead_30 : decode cX7_isAhead 30 = .ok (.iconst 0, 1) := by decide +kernel
theorem dX7_isAhead_31 : decode cX7_isAhead 31 = .ok (.ireturn, 1) := by decide +kernel
theorem dX7_isAhead_32 : decode cX7_isAhead 32 = .ok (.aload_n 0, 1) := by decide +kernel
theorem dX7_isAhead_33 : decode cX7_isAhead 33 = .ok (.iload_n 1, 1) := by decide +kernel
theorem dX7_isAhead_34 : decode cX7_isAhead 34 = .ok (.invokevirtual 74, 3) := by decide +kernel
theorem dX7_isAhead_37 : decode cX7_isAhead 37 = .ok (.aload_n 0, 1) := by decide +kernel
theorem dX7_isAhead_38 : decode cX7_isAhead 38 = .ok (.iload_n 2, 1) := by decide +kernel
theorem dX7_isAhead_39 : decode cX7_isAhead 39 = .ok (.invokevirtual 74, 3) := by decide +kernel
theorem dX7_isAhead_42 : decode cX7_isAhead 42 = .ok (.if_icmp .eq 22, 3) := by decide +kernel
theorem dX7_isAhead_45 : decode cX7_isAhead 45 = .ok (.aload_n 0, 1) := by decide +kernel
theorem dX7_isAhead_46 : decode cX7_isAhead 46 = .ok (.iload_n 1, 1) := by decide +kernel
theorem dX7_isAhead_47 : decode cX7_isAhead 47 = .ok (.invokevirtual 74, 3) := by decide +kernel
theorem dX7_isAhead_50 : decode cX7_isAhead 50 = .ok (.aload_n 0, 1) := by decide +kernel
theorem dX7_isAhead_51 : decode cX7_isAhead 51 = .ok (.iload_n 2, 1) := by decide +kernel
theorem dX7_isAhead_52 : decode cX7_isAhead 52 = .ok (.invokevirtual 74, 3) := by decide +kernel
theorem dX7_isAhead_55 : decode cX7_isAhead 55 = .ok (.if_icmp .ge 7, 3) := by decide +kernel
theorem dX7_isAhead_58 : decode cX7_isAhead 58 = .ok (.iconst 1, 1) := by decide +kernel
theorem dX7_isAhead_59 : decode cX7_isAhead 59 = .ok (.goto 4, 3) := by decide +kernel
theorem dX7_isAhead_62 : decode cX7_isAhead 62 = .ok (.iconst 0, 1) := by decide +kernel
theorem dX7_isAhead_63 : decode cX7_isAhead 63 = .ok (.ireturn, 1) := by decide +kernel
theorem dX7_isAhead_64 : decode cX7_isAhead 64 = .ok (.iload_n 1, 1) := by decide +kernel
theorem dX7_isAhead_65 : decode cX7_isAhead 65 = .ok (.iload_n 2, 1) := by decide +kernel
theorem dX7_isAhead_66 : decode cX7_isAhead 66 = .ok (.if_icmp .ge 7, 3) := by decide +kernel
theorem dX7_isAhead_69 : decode cX7_isAhead 69 = .ok (.iconst 1, 1) := by decide +kernel
theorem dX7_isAhead_70 : decode cX7_isAhead 70 = .ok (.goto 4, 3) := by decide +kernel
theorem dX7_isAhead_73 : decode cX7_isAhead 73 = .ok (.iconst 0, 1) := by decide +kernel
theorem dX7_isAhead_74 : decode cX7_isAhead 74 = .ok (.ireturn, 1) := by decide +kernel
theorem dX7_sumOfLevels_0 : decode cX7_sumOfLevels 0 = .ok (.iconst 0, 1) := by decide +kernel
theorem dX7_sumOfLevels_1 : decode cX7_sumOfLevels 1 = .ok (.istore_n 1, 1) := by decide +kernel
theorem dX7_sumOfLevels_2 : decode cX7_sumOfLevels 2 = .ok (.iconst 0, 1) := by decide +kernel
theorem dX7_sumOfLevels_3 : decode cX7_sumOfLevels 3 = .ok (.istore_n 2, 1) := by decide +kernel
theorem dX7_sumOfLevels_4 : decode cX7_sumOfLevels 4 = .ok (.iload_n 2, 1) := by decide +kernel
theorem dX7_sumOfLevels_5 : decode cX7_sumOfLevels 5 = .ok (.aload_n 0, 1) := by decide +kernel
theorem dX7_sumOfLevels_6 : decode cX7_sumOfLevels 6 = .ok (.getfield 24, 3) := by decide +kernel
theorem dX7_sumOfLevels_9 : decode cX7_sumOfLevels 9 = .ok (.if_icmp .ge 17, 3) := by decide +kernel
theorem dX7_sumOfLevels_12 : decode cX7_sumOfLevels 12 = .ok (.iload_n 1, 1) := by decide +kernel
theorem dX7_sumOfLevels_13 : decode cX7_sumOfLevels 13 = .ok (.aload_n 0, 1) := by decide +kernel
theorem dX7_sumOfLevels_14 : decode cX7_sumOfLevels 14 = .ok (.iload_n 2, 1) := by decide +kernel
theorem dX7_sumOfLevels_15 : decode cX7_sumOfLevels 15 = .ok (.invokevirtual 57, 3) := by decide +kernel
theorem dX7_sumOfLevels_18 : decode cX7_sumOfLevels 18 = .ok (.iadd, 1) := by decide +kernel
theorem dX7_sumOfLevels_19 : decode cX7_sumOfLevels 19 = .ok (.istore_n 1, 1) := by decide +kernel
theorem dX7_sumOfLevels_20 : decode cX7_sumOfLevels 20 = .ok (.iinc 2 1, 3) := by decide +kernel
theorem dX7_sumOfLevels_23 : decode cX7_sumOfLevels 23 = .ok (.goto (-19), 3) := by decide +kernel
theorem dX7_sumOfLevels_26 : decode cX7_sumOfLevels 26 = .ok (.iload_n 1, 1) := by decide +kernel
theorem dX7_sumOfLevels_27 : decode cX7_sumOfLevels 27 = .ok (.ireturn, 1) := by decide +kernel
theorem dX7_sumOfCapacities_0 : decode cX7_sumOfCapacities 0 = .ok (.iconst 0, 1) := by decide +kernel
theorem dX7_sumOfCapacities_1 : decode cX7_sumOfCapacities 1 = .ok (.istore_n 1, 1) := by decide +kernel
theorem dX7_sumOfCapacities_2 : decode cX7_sumOfCapacities 2 = .ok (.iconst 0, 1) := by decide +kernel
theorem dX7_sumOfCapacities_3 : decode cX7_sumOfCapacities 3 = .ok (.istore_n 2, 1) := by decide +kernel
theorem dX7_sumOfCapacities_4 : decode cX7_sumOfCapacities 4 = .ok (.iload_n 2, 1) := by decide +kernel
theorem dX7_sumOfCapacities_5 : decode cX7_sumOfCapacities 5 = .ok (.aload_n 0, 1) := by decide +kernel
theorem dX7_sumOfCapacities_6 : decode cX7_sumOfCapacities 6 = .ok (.getfield 24, 3) := by decide +kernel
theorem dX7_sumOfCapacities_9 : decode cX7_sumOfCapacities 9 = .ok (.if_icmp .ge 17, 3) := by decide +kernel
theorem dX7_sumOfCapacities_12 : decode cX7_sumOfCapacities 12 = .ok (.iload_n 1, 1) := by decide +kernel
theorem dX7_sumOfCapacities_13 : decode cX7_sumOfCapacities 13 = .ok (.aload_n 0, 1) := by decide +kernel
theorem dX7_sumOfCapacities_14 : decode cX7_sumOfCapacities 14 = .ok (.iload_n 2, 1) := by decide +kernel
theorem dX7_sumOfCapacities_15 : decode cX7_sumOfCapacities 15 = .ok (.invokevirtual 74, 3) := by decide +kernel
theorem dX7_sumOfCapacities_18 : decode cX7_sumOfCapacities 18 = .ok (.iadd, 1) := by decide +kernel
theorem dX7_sumOfCapacities_19 : decode cX7_sumOfCapacities 19 = .ok (.istore_n 1, 1) := by decide +kernel
theorem dX7_sumOfCapacities_20 : decode cX7_sumOfCapacities 20 = .ok (.iinc 2 1, 3) := by decide +kernel
theorem dX7_sumOfCapacities_23 : decode cX7_sumOfCapacities 23 = .ok (.goto (-19), 3) := by decide +kernel
theorem dX7_sumOfCapacities_26 : decode cX7_sumOfCapacities 26 = .ok (.iload_n 1, 1) := by decide +kernel
theorem dX7_sumOfCapacities_27 : decode cX7_sumOfCapacities 27 = .ok (.ireturn, 1) := by decide +kernel
theorem dX9_init_0 : decode cX9_init 0 = .ok (.aload_n 0, 1) := by decide +kernel
theorem dX9_init_1 : decode cX9_init 1 = .ok (.invokespecial 1, 3) := by decide +kernel
theorem dX9_init_4 : decode cX9_init 4 = .ok (.aload_n 0, 1) := by decide +kernel
theorem dX9_init_5 : decode cX9_init 5 = .ok (.new 7, 3) := by decide +kernel
theorem dX9_init_8 : decode cX9_init 8 = .ok (.dup, 1) := by decide +kernel
theorem dX9_init_9 : decode cX9_init 9 = .ok (.invokespecial 9, 3) := by decide +kernel
theorem dX9_init_12 : decode cX9_init 12 = .ok (.putfield 10, 3) := by decide +kernel
theorem dX9_init_15 : decode cX9_init 15 = .ok (.aload_n 0, 1) := by decide +kernel
theorem dX9_init_16 : decode cX9_init 16 = .ok (.new 7, 3) := by decide +kernel
theorem dX9_init_19 : decode cX9_init 19 = .ok (.dup, 1) := by decide +kernel
theorem dX9_init_20 : decode cX9_init 20 = .ok (.invokespecial 9, 3) := by decide +kernel
theorem dX9_init_23 : decode cX9_init 23 = .ok (.putfield 16, 3) := by decide +kernel
theorem dX9_init_26 : decode cX9_init 26 = .ok (.aload_n 0, 1) := by decide +kernel
theorem dX9_init_27 : decode cX9_init 27 = .ok (.new 7, 3) := by decide +kernel
theorem dX9_init_30 : decode cX9_init 30 = .ok (.dup, 1) := by decide +kernel
theorem dX9_init_31 : decode cX9_init 31 = .ok (.invokespecial 9, 3) := by decide +kernel
theorem dX9_init_34 : decode cX9_init 34 = .ok (.putfield 19, 3) := by decide +kernel
theorem dX9_init_37 : decode cX9_init 37 = .ok (.aload_n 0, 1) := by decide +kernel
theorem dX9_init_38 : decode cX9_init 38 = .ok (.new 22, 3) := by decide +kernel
theorem dX9_init_41 : decode cX9_init 41 = .ok (.dup, 1) := by decide +kernel
theorem dX9_init_42 : decode cX9_init 42 = .ok (.invokespecial 24, 3) := by decide +kernel
theorem dX9_init_45 : decode cX9_init 45 = .ok (.putfield 25, 3) := by decide +kernel
theorem dX9_init_48 : decode cX9_init 48 = .ok (.aload_n 0, 1) := by decide +kernel
theorem dX9_init_49 : decode cX9_init 49 = .ok (.new 29, 3) := by decide +kernel
theorem dX9_init_52 : decode cX9_init 52 = .ok (.dup, 1) := by decide +kernel
theorem dX9_init_53 : decode cX9_init 53 = .ok (.invokespecial 31, 3) := by decide +kernel
theorem dX9_init_56 : decode cX9_init 56 = .ok (.putfield 32, 3) := by decide +kernel
theorem dX9_init_59 : decode cX9_init 59 = .ok (.aload_n 0, 1) := by decide +kernel
theorem dX9_init_60 : decode cX9_init 60 = .ok (.new 36, 3) := by decide +kernel
theorem dX9_init_63 : decode cX9_init 63 = .ok (.dup, 1) := by decide +kernel
theorem dX9_init_64 : decode cX9_init 64 = .ok (.invokespecial 38, 3) := by decide +kernel
theorem dX9_init_67 : decode cX9_init 67 = .ok (.putfield 39, 3) := by decide +kernel
theorem dX9_init_70 : decode cX9_init 70 = .ok (.aload_n 0, 1) := by decide +kernel
theorem dX9_init_71 : decode cX9_init 71 = .ok (.iconst 4, 1) := by decide +kernel
theorem dX9_init_72 : decode cX9_init 72 = .ok (.newarray .int, 2) := by decide +kernel
theorem dX9_init_74 : decode cX9_init 74 = .ok (.putfield 43, 3) := by decide +kernel
theorem dX9_init_77 : decode cX9_init 77 = .ok (.aload_n 0, 1) := by decide +kernel
theorem dX9_init_78 : decode cX9_init 78 = .ok (.new 47, 3) := by decide +kernel
theorem dX9_init_81 : decode cX9_init 81 = .ok (.dup, 1) := by decide +kernel
theorem dX9_init_82 : decode cX9_init 82 = .ok (.invokespecial 49, 3) := by decide +kernel
theorem dX9_init_85 : decode cX9_init 85 = .ok (.putfield 50, 3) := by decide +kernel
theorem dX9_init_88 : decode cX9_init 88 = .ok (.aload_n 0, 1) := by decide +kernel
theorem dX9_init_89 : decode cX9_init 89 = .ok (.new 54, 3) := by decide +kernel
theorem dX9_init_92 : decode cX9_init 92 = .ok (.dup, 1) := by decide +kernel
theorem dX9_init_93 : decode cX9_init 93 = .ok (.invokespecial 56, 3) := by decide +kernel
theorem dX9_init_96 : decode cX9_init 96 = .ok (.putfield 57, 3) := by decide +kernel
theorem dX9_init_99 : decode cX9_init 99 = .ok (.aload_n 0, 1) := by decide +kernel
theorem dX9_init_100 : decode cX9_init 100 = .ok (.iconst 0, 1) := by decide +kernel
theorem dX9_init_101 : decode cX9_init 101 = .ok (.putfield 61, 3) := by decide +kernel
theorem dX9_init_104 : decode cX9_init 104 = .ok (.aload_n 0, 1) := by decide +kernel
theorem dX9_init_105 : decode cX9_init 105 = .ok (.iconst (-1), 1) := by decide +kernel
theorem dX9_init_106 : decode cX9_init 106 = .ok (.putfield 65, 3) := by decide +kernel
theorem dX9_init_109 : decode cX9_init 109 = .ok (.aload_n 0, 1) := by decide +kernel
theorem dX9_init_110 : decode cX9_init 110 = .ok (.iconst (-1), 1) := by decide +kernel
theorem dX9_init_111 : decode cX9_init 111 = .ok (.putfield 69, 3) := by decide +kernel
theorem dX9_init_114 : decode cX9_init 114 = .ok (.return_, 1) := by decide +kernel
theorem dX9_addFilter_0 : decode cX9_addFilter 0 = .ok (.aload_n 0, 1) := by decide +kernel
theorem dX9_addFilter_1 : decode cX9_addFilter 1 = .ok (.getfield 10, 3) := by decide +kernel
theorem dX9_addFilter_4 : decode cX9_addFilter 4 = .ok (.getfield 72, 3) := by decide +kernel
theorem dX9_addFilter_7 : decode cX9_addFilter 7 = .ok (.iload_n 1, 1) := by decide +kernel
theorem dX9_addFilter_8 : decode cX9_addFilter 8 = .ok (.iload_n 2, 1) := by decide +kernel
theorem dX9_addFilter_9 : decode cX9_addFilter 9 = .ok (.invokevirtual 76, 3) := by decide +kernel
theorem dX9_addFilter_12 : decode cX9_addFilter 12 = .ok (.invokestatic 82, 3) := by decide +kernel
theorem dX9_addFilter_15 : decode cX9_addFilter 15 = .ok (.aload_n 0, 1) := by decide +kernel
theorem dX9_addFilter_16 : decode cX9_addFilter 16 = .ok (.getfield 25, 3) := by decide +kernel
theorem dX9_addFilter_19 : decode cX9_addFilter 19 = .ok (.aload_n 0, 1) := by decide +kernel
theorem dX9_addFilter_20 : decode cX9_addFilter 20 = .ok (.getfield 10, 3) := by decide +kernel
theorem dX9_addFilter_23 : decode cX9_addFilter 23 = .ok (.invokevirtual 86, 3) := by decide +kernel
theorem dX9_addFilter_26 : decode cX9_addFilter 26 = .ok (.aload_n 0, 1) := by decide +kernel
theorem dX9_addFilter_27 : decode cX9_addFilter 27 = .ok (.getfield 10, 3) := by decide +kernel
theorem dX9_addFilter_30 : decode cX9_addFilter 30 = .ok (.getfield 72, 3) := by decide +kernel
theorem dX9_addFilter_33 : decode cX9_addFilter 33 = .ok (.aload_n 0, 1) := by decide +kernel
theorem dX9_addFilter_34 : decode cX9_addFilter 34 = .ok (.getfield 10, 3) := by decide +kernel
theorem dX9_addFilter_37 : decode cX9_addFilter 37 = .ok (.getfield 72, 3) := by decide +kernel
theorem dX9_addFilter_40 : decode cX9_addFilter 40 = .ok (.getfield 90, 3) := by decide +kernel
theorem dX9_addFilter_43 : decode cX9_addFilter 43 = .ok (.iload_n 1, 1) := by decide +kernel
theorem dX9_addFilter_44 : decode cX9_addFilter 44 = .ok (.iload_n 2, 1) := by decide +kernel
theorem dX9_addFilter_45 : decode cX9_addFilter 45 = .ok (.invokevirtual 93, 3) := by decide +kernel
theorem dX9_addFilter_48 : decode cX9_addFilter 48 = .ok (.ireturn, 1) := by decide +kernel
theorem dX9_insertFilter_0 : decode cX9_insertFilter 0 = .ok (.aload_n 0, 1) := by decide +kernel
theorem dX9_insertFilter_1 : decode cX9_insertFilter 1 = .ok (.getfield 10, 3) := by decide +kernel
theorem dX9_insertFilter_4 : decode cX9_insertFilter 4 = .ok (.getfield 72, 3) := by decide +kernel
theorem dX9_insertFilter_7 : decode cX9_insertFilter 7 = .ok (.iload_n 1, 1) := by decide +kernel
theorem dX9_insertFilter_8 : decode cX9_insertFilter 8 = .ok (.invokevirtual 97, 3) := by decide +kernel
theorem dX9_insertFilter_11 : decode cX9_insertFilter 11 = .ok (.invokestatic 82, 3) := by decide +kernel
theorem dX9_insertFilter_14 : decode cX9_insertFilter 14 = .ok (.aload_n 0, 1) := by decide +kernel
theorem dX9_insertFilter_15 : decode cX9_insertFilter 15 = .ok (.getfield 10, 3) := by decide +kernel
theorem dX9_insertFilter_18 : decode cX9_insertFilter 18 = .ok (.getfield 72, 3) := by decide +kernel
theorem dX9_insertFilter_21 : decode cX9_insertFilter 21 = .ok (.iload_n 2, 1) := by decide +kernel
theorem dX9_insertFilter_22 : decode cX9_insertFilter 22 = .ok (.iload_n 3, 1) := by decide +kernel
theorem dX9_insertFilter_23 : decode cX9_insertFilter 23 = .ok (.invokevirtual 76, 3) := by decide +kernel
theorem dX9_insertFilter_26 : decode cX9_insertFilter 26 = .ok (.invokestatic 82, 3) := by decide +kernel
theorem dX9_insertFilter_29 : decode cX9_insertFilter 29 = .ok (.aload_n 0, 1) := by decide +kernel
theorem dX9_insertFilter_30 : decode cX9_insertFilter 30 = .ok (.getfield 25, 3) := by decide +kernel
theorem dX9_insertFilter_33 : decode cX9_insertFilter 33 = .ok (.aload_n 0, 1) := by decide +kernel
theorem dX9_insertFilter_34 : decode cX9_insertFilter 34 = .ok (.getfield 10, 3) := by decide +kernel
theorem dX9_insertFilter_37 : decode cX9_insertFilter 37 = .ok (.invokevirtual 86, 3) := by decide +kernel
theorem dX9_insertFilter_40 : decode cX9_insertFilter 40 = .ok (.aload_n 0, 1) := by decide +kernel
theorem dX9_insertFilter_41 : decode cX9_insertFilter 41 = .ok (.getfield 10, 3) := by decide +kernel
theorem dX9_insertFilter_44 : decode cX9_insertFilter 44 = .ok (.getfield 72, 3) := by decide +kernel
theorem dX9_insertFilter_47 : decode cX9_insertFilter 47 = .ok (.iload_n 1, 1) := by decide +kernel
theorem dX9_insertFilter_48 : decode cX9_insertFilter 48 = .ok (.iload_n 2, 1) := by decide +kernel
theorem dX9_insertFilter_49 : decode cX9_insertFilter 49 = .ok (.iload_n 3, 1) := by decide +kernel
theorem dX9_insertFilter_50 : decode cX9_insertFilter 50 = .ok (.invokevirtual 93, 3) := by decide +kernel
theorem dX9_insertFilter_53 : decode cX9_insertFilter 53 = .ok (.ireturn, 1) := by decide +kernel
theorem dX9_removeFilter_0 : decode cX9_removeFilter 0 = .ok (.aload_n 0, 1) := by decide +kernel
theorem dX9_removeFilter_1 : decode cX9_removeFilter 1 = .ok (.getfield 10, 3) := by decide +kernel
theorem dX9_removeFilter_4 : decode cX9_removeFilter 4 = .ok (.getfield 72, 3) := by decide +kernel
theorem dX9_removeFilter_7 : decode cX9_removeFilter 7 = .ok (.iload_n 1, 1) := by decide +kernel
theorem dX9_removeFilter_8 : decode cX9_removeFilter 8 = .ok (.invokevirtual 101, 3) := by decide +kernel
theorem dX9_removeFilter_11 : decode cX9_removeFilter 11 = .ok (.invokestatic 82, 3) := by decide +kernel
theorem dX9_removeFilter_14 : decode cX9_removeFilter 14 = .ok (.aload_n 0, 1) := by decide +kernel
theorem dX9_removeFilter_15 : decode cX9_removeFilter 15 = .ok (.getfield 25, 3) := by decide +kernel
theorem dX9_removeFilter_18 : decode cX9_removeFilter 18 = .ok (.aload_n 0, 1) := by decide +kernel
theorem dX9_removeFilter_19 : decode cX9_removeFilter 19 = .ok (.getfield 10, 3) := by decide +kernel
theorem dX9_removeFilter_22 : decode cX9_removeFilter 22 = .ok (.invokevirtual 86, 3) := by decide +kernel
theorem dX9_removeFilter_25 : decode cX9_removeFilter 25 = .ok (.aload_n 0, 1) := by decide +kernel
theorem dX9_removeFilter_26 : decode cX9_removeFilter 26 = .ok (.getfield 10, 3) := by decide +kernel
theorem dX9_removeFilter_29 : decode cX9_removeFilter 29 = .ok (.getfield 72, 3) := by decide +kernel
theorem dX9_removeFilter_32 : decode cX9_removeFilter 32 = .ok (.iload_n 1, 1) := by decide +kernel
theorem dX9_removeFilter_33 : decode cX9_removeFilter 33 = .ok (.invokevirtual 104, 3) := by decide +kernel
theorem dX9_removeFilter_36 : decode cX9_removeFilter 36 = .ok (.ireturn, 1) := by decide +kernel
theorem dX9_swapFilters_0 : decode cX9_swapFilters 0 = .ok (.aload_n 0, 1) := by decide +kernel
theorem dX9_swapFilters_1 : decode cX9_swapFilters 1 = .ok (.getfield 10, 3) := by decide +kernel
theorem dX9_swapFilters_4 : decode cX9_swapFilters 4 = .ok (.getfield 72, 3) := by decide +kernel
theorem dX9_swapFilters_7 : decode cX9_swapFilters 7 = .ok (.iload_n 1, 1) := by decide +kernel
theorem dX9_swapFilters_8 : decode cX9_swapFilters 8 = .ok (.invokevirtual 101, 3) := by decide +kernel
theorem dX9_swapFilters_11 : decode cX9_swapFilters 11 = .ok (.invokestatic 82, 3) := by decide +kernel
theorem dX9_swapFilters_14 : decode cX9_swapFilters 14 = .ok (.aload_n 0, 1) := by decide +kernel
theorem dX9_swapFilters_15 : decode cX9_swapFilters 15 = .ok (.getfield 10, 3) := by decide +kernel
theorem dX9_swapFilters_18 : decode cX9_swapFilters 18 = .ok (.getfield 72, 3) := by decide +kernel
theorem dX9_swapFilters_21 : decode cX9_swapFilters 21 = .ok (.iload_n 2, 1) := by decide +kernel
theorem dX9_swapFilters_22 : decode cX9_swapFilters 22 = .ok (.invokevirtual 101, 3) := by decide +kernel
theorem dX9_swapFilters_25 : decode cX9_swapFilters 25 = .ok (.invokestatic 82, 3) := by decide +kernel
theorem dX9_swapFilters_28 : decode cX9_swapFilters 28 = .ok (.aload_n 0, 1) := by decide +kernel
theorem dX9_swapFilters_29 : decode cX9_swapFilters 29 = .ok (.getfield 25, 3) := by decide +kernel
theorem dX9_swapFilters_32 : decode cX9_swapFilters 32 = .ok (.aload_n 0, 1) := by decide +kernel
theorem dX9_swapFilters_33 : decode cX9_swapFilters 33 = .ok (.getfield 10, 3) := by decide +kernel
theorem dX9_swapFilters_36 : decode cX9_swapFilters 36 = .ok (.invokevirtual 86, 3) := by decide +kernel
theorem dX9_swapFilters_39 : decode cX9_swapFilters 39 = .ok (.aload_n 0, 1) := by decide +kernel
theorem dX9_swapFilters_40 : decode cX9_swapFilters 40 = .ok (.getfield 10, 3) := by decide +kernel
theorem dX9_swapFilters_43 : decode cX9_swapFilters 43 = .ok (.getfield 72, 3) := by decide +kernel
theorem dX9_swapFilters_46 : decode cX9_swapFilters 46 = .ok (.iload_n 1, 1) := by decide +kernel
theorem dX9_swapFilters_47 : decode cX9_swapFilters 47 = .ok (.iload_n 2, 1) := by decide +kernel
theorem dX9_swapFilters_48 : decode cX9_swapFilters 48 = .ok (.invokevirtual 107, 3) := by decide +kernel
theorem dX9_swapFilters_51 : decode cX9_swapFilters 51 = .ok (.iload_n 1, 1) := by decide +kernel
theorem dX9_swapFilters_52 : decode cX9_swapFilters 52 = .ok (.iload_n 2, 1) := by decide +kernel
theorem dX9_swapFilters_53 : decode cX9_swapFilters 53 = .ok (.if_icmp .ne 7, 3) := by decide +kernel
theorem dX9_swapFilters_56 : decode cX9_swapFilters 56 = .ok (.iconst 0, 1) := by decide +kernel
theorem dX9_swapFilters_57 : decode cX9_swapFilters 57 = .ok (.goto 11, 3) := by decide +kernel
theorem dX9_swapFilters_60 : decode cX9_swapFilters 60 = .ok (.iload_n 1, 1) := by decide +kernel
theorem dX9_swapFilters_61 : decode cX9_swapFilters 61 = .ok (.iload_n 2, 1) := by decide +kernel
theorem dX9_swapFilters_62 : decode cX9_swapFilters 62 = .ok (.isub, 1) := by decide +kernel
theorem dX9_swapFilters_63 : decode cX9_swapFilters 63 = .ok (.invokestatic 111, 3) := by decide +kernel
theorem dX9_swapFilters_66 : decode cX9_swapFilters 66 = .ok (.iconst 1, 1) := by decide +kernel
theorem dX9_swapFilters_67 : decode cX9_swapFilters 67 = .ok (.isub, 1) := by decide +kernel
theorem dX9_swapFilters_68 : decode cX9_swapFilters 68 = .ok (.ireturn, 1) := by decide +kernel
theorem dX9_filterCount_0 : decode cX9_filterCount 0 = .ok (.aload_n 0, 1) := by decide +kernel
theorem dX9_filterCount_1 : decode cX9_filterCount 1 = .ok (.getfield 10, 3) := by decide +kernel
theorem dX9_filterCount_4 : decode cX9_filterCount 4 = .ok (.getfield 72, 3) := by decide +kernel
theorem dX9_filterCount_7 : decode cX9_filterCount 7 = .ok (.getfield 90, 3) := by decide +kernel
theorem dX9_filterCount_10 : decode cX9_filterCount 10 = .ok (.ireturn, 1) := by decide +kernel
theorem dX9_filterKind_0 : decode cX9_filterKind 0 = .ok (.aload_n 0, 1) := by decide +kernel
theorem dX9_filterKind_1 : decode cX9_filterKind 1 = .ok (.getfield 10, 3) := by decide +kernel
theorem dX9_filterKind_4 : decode cX9_filterKind 4 = .ok (.getfield 72, 3) := by decide +kernel
theorem dX9_filterKind_7 : decode cX9_filterKind 7 = .ok (.iload_n 1, 1) := by decide +kernel
theorem dX9_filterKind_8 : decode cX9_filterKind 8 = .ok (.invokevirtual 101, 3) := by decide +kernel
theorem dX9_filterKind_11 : decode cX9_filterKind 11 = .ok (.invokestatic 82, 3) := by decide +kernel
theorem dX9_filterKind_14 : decode cX9_filterKind 14 = .ok (.aload_n 0, 1) := by decide +kernel
theorem dX9_filterKind_15 : decode cX9_filterKind 15 = .ok (.getfield 10, 3) := by decide +kernel
theorem dX9_filterKind_18 : decode cX9_filterKind 18 = .ok (.getfield 72, 3) := by decide +kernel
theorem dX9_filterKind_21 : decode cX9_filterKind 21 = .ok (.iload_n 1, 1) := by decide +kernel
theorem dX9_filterKind_22 : decode cX9_filterKind 22 = .ok (.invokevirtual 116, 3) := by decide +kernel
theorem dX9_filterKind_25 : decode cX9_filterKind 25 = .ok (.i2c, 1) := by decide +kernel
theorem dX9_filterKind_26 : decode cX9_filterKind 26 = .ok (.ireturn, 1) := by decide +kernel
theorem dX9_filterParameter_0 : decode cX9_filterParameter 0 = .ok (.aload_n 0, 1) := by decide +kernel
theorem dX9_filterParameter_1 : decode cX9_filterParameter 1 = .ok (.getfield 10, 3) := by decide +kernel
theorem dX9_filterParameter_4 : decode cX9_filterParameter 4 = .ok (.getfield 72, 3) := by decide +kernel
theorem dX9_filterParameter_7 : decode cX9_filterParameter 7 = .ok (.iload_n 1, 1) := by decide +kernel
theorem dX9_filterParameter_8 : decode cX9_filterParameter 8 = .ok (.invokevirtual 101, 3) := by decide +kernel
theorem dX9_filterParameter_11 : decode cX9_filterParameter 11 = .ok (.invokestatic 82, 3) := by decide +kernel
theorem dX9_filterParameter_14 : decode cX9_filterParameter 14 = .ok (.aload_n 0, 1) := by decide +kernel
theorem dX9_filterParameter_15 : decode cX9_filterParameter 15 = .ok (.getfield 10, 3) := by decide +kernel
theorem dX9_filterParameter_18 : decode cX9_filterParameter 18 = .ok (.getfield 72, 3) := by decide +kernel
theorem dX9_filterParameter_21 : decode cX9_filterParameter 21 = .ok (.iload_n 1, 1) := by decide +kernel
theorem dX9_filterParameter_22 : decode cX9_filterParameter 22 = .ok (.invokevirtual 119, 3) := by decide +kernel
theorem dX9_filterParameter_25 : decode cX9_filterParameter 25 = .ok (.ireturn, 1) := by decide +kernel
theorem dX9_addNote_0 : decode cX9_addNote 0 = .ok (.aload_n 0, 1) := by decide +kernel
theorem dX9_addNote_1 : decode cX9_addNote 1 = .ok (.getfield 10, 3) := by decide +kernel
theorem dX9_addNote_4 : decode cX9_addNote 4 = .ok (.getfield 122, 3) := by decide +kernel
theorem dX9_addNote_7 : decode cX9_addNote 7 = .ok (.iload_n 1, 1) := by decide +kernel
theorem dX9_addNote_8 : decode cX9_addNote 8 = .ok (.iload_n 2, 1) := by decide +kernel
theorem dX9_addNote_9 : decode cX9_addNote 9 = .ok (.iload_n 3, 1) := by decide +kernel
theorem dX9_addNote_10 : decode cX9_addNote 10 = .ok (.iload 4, 2) := by decide +kernel
theorem dX9_addNote_12 : decode cX9_addNote 12 = .ok (.invokevirtual 126, 3) := by decide +kernel
theorem dX9_addNote_15 : decode cX9_addNote 15 = .ok (.invokestatic 82, 3) := by decide +kernel
theorem dX9_addNote_18 : decode cX9_addNote 18 = .ok (.aload_n 0, 1) := by decide +kernel
theorem dX9_addNote_19 : decode cX9_addNote 19 = .ok (.getfield 25, 3) := by decide +kernel
theorem dX9_addNote_22 : decode cX9_addNote 22 = .ok (.aload_n 0, 1) := by decide +kernel
theorem dX9_addNote_23 : decode cX9_addNote 23 = .ok (.getfield 10, 3) := by decide +kernel
theorem dX9_addNote_26 : decode cX9_addNote 26 = .ok (.invokevirtual 86, 3) := by decide +kernel
theorem dX9_addNote_29 : decode cX9_addNote 29 = .ok (.aload_n 0, 1) := by decide +kernel
theorem dX9_addNote_30 : decode cX9_addNote 30 = .ok (.getfield 10, 3) := by decide +kernel
theorem dX9_addNote_33 : decode cX9_addNote 33 = .ok (.getfield 122, 3) := by decide +kernel
theorem dX9_addNote_36 : decode cX9_addNote 36 = .ok (.iload_n 1, 1) := by decide +kernel
theorem dX9_addNote_37 : decode cX9_addNote 37 = .ok (.iload_n 2, 1) := by decide +kernel
theorem dX9_addNote_38 : decode cX9_addNote 38 = .ok (.iload_n 3, 1) := by decide +kernel
theorem dX9_addNote_39 : decode cX9_addNote 39 = .ok (.iload 4, 2) := by decide +kernel
theorem dX9_addNote_41 : decode cX9_addNote 41 = .ok (.invokevirtual 132, 3) := by decide +kernel
theorem dX9_addNote_44 : decode cX9_addNote 44 = .ok (.ireturn, 1) := by decide +kernel
theorem dX9_removeNote_0 : decode cX9_removeNote 0 = .ok (.aload_n 0, 1) := by decide +kernel
theorem dX9_removeNote_1 : decode cX9_removeNote 1 = .ok (.getfield 10, 3) := by decide +kernel
theorem dX9_removeNote_4 : decode cX9_removeNote 4 = .ok (.getfield 122, 3) := by decide +kernel
theorem dX9_removeNote_7 : decode cX9_removeNote 7 = .ok (.iload_n 1, 1) := by decide +kernel
theorem dX9_removeNote_8 : decode cX9_removeNote 8 = .ok (.invokevirtual 135, 3) := by decide +kernel
theorem dX9_removeNote_11 : decode cX9_removeNote 11 = .ok (.invokestatic 82, 3) := by decide +kernel
theorem dX9_removeNote_14 : decode cX9_removeNote 14 = .ok (.aload_n 0, 1) := by decide +kernel
theorem dX9_removeNote_15 : decode cX9_removeNote 15 = .ok (.getfield 25, 3) := by decide +kernel
theorem dX9_removeNote_18 : decode cX9_removeNote 18 = .ok (.aload_n 0, 1) := by decide +kernel
theorem dX9_removeNote_19 : decode cX9_removeNote 19 = .ok (.getfield 10, 3) := by decide +kernel
theorem dX9_removeNote_22 : decode cX9_removeNote 22 = .ok (.invokevirtual 86, 3) := by decide +kernel
theorem dX9_removeNote_25 : decode cX9_removeNote 25 = .ok (.aload_n 0, 1) := by decide +kernel
theorem dX9_removeNote_26 : decode cX9_removeNote 26 = .ok (.getfield 10, 3) := by decide +kernel
theorem dX9_removeNote_29 : decode cX9_removeNote 29 = .ok (.getfield 122, 3) := by decide +kernel
theorem dX9_removeNote_32 : decode cX9_removeNote 32 = .ok (.iload_n 1, 1) := by decide +kernel
theorem dX9_removeNote_33 : decode cX9_removeNote 33 = .ok (.invokevirtual 138, 3) := by decide +kernel
theorem dX9_removeNote_36 : decode cX9_removeNote 36 = .ok (.ireturn, 1) := by decide +kernel
theorem dX9_noteCount_0 : decode cX9_noteCount 0 = .ok (.iload_n 1, 1) := by decide +kernel
theorem dX9_noteCount_1 : decode cX9_noteCount 1 = .ok (.invokestatic 141, 3) := by decide +kernel
theorem dX9_noteCount_4 : decode cX9_noteCount 4 = .ok (.invokestatic 82, 3) := by decide +kernel
theorem dX9_noteCount_7 : decode cX9_noteCount 7 = .ok (.aload_n 0, 1) := by decide +kernel
theorem dX9_noteCount_8 : decode cX9_noteCount 8 = .ok (.getfield 10, 3) := by decide +kernel
theorem dX9_noteCount_11 : decode cX9_noteCount 11 = .ok (.getfield 122, 3) := by decide +kernel
theorem dX9_noteCount_14 : decode cX9_noteCount 14 = .ok (.iload_n 1, 1) := by decide +kernel
theorem dX9_noteCount_15 : decode cX9_noteCount 15 = .ok (.invokevirtual 144, 3) := by decide +kernel
theorem dX9_noteCount_18 : decode cX9_noteCount 18 = .ok (.ireturn, 1) := by decide +kernel
theorem dX9_songLength_0 : decode cX9_songLength 0 = .ok (.iload_n 1, 1) := by decide +kernel
theorem dX9_songLength_1 : decode cX9_songLength 1 = .ok (.invokestatic 141, 3) := by decide +kernel
theorem dX9_songLength_4 : decode cX9_songLength 4 = .ok (.invokestatic 82, 3) := by decide +kernel
theorem dX9_songLength_7 : decode cX9_songLength 7 = .ok (.aload_n 0, 1) := by decide +kernel
theorem dX9_songLength_8 : decode cX9_songLength 8 = .ok (.getfield 10, 3) := by decide +kernel
theorem dX9_songLength_11 : decode cX9_songLength 11 = .ok (.getfield 122, 3) := by decide +kernel
theorem dX9_songLength_14 : decode cX9_songLength 14 = .ok (.iload_n 1, 1) := by decide +kernel
theorem dX9_songLength_15 : decode cX9_songLength 15 = .ok (.invokevirtual 147, 3) := by decide +kernel
theorem dX9_songLength_18 : decode cX9_songLength 18 = .ok (.ireturn, 1) := by decide +kernel
theorem dX9_rawSample_0 : decode cX9_rawSample 0 = .ok (.aload_n 0, 1) := by decide +kernel
theorem dX9_rawSample_1 : decode cX9_rawSample 1 = .ok (.getfield 10, 3) := by decide +kernel
theorem dX9_rawSample_4 : decode cX9_rawSample 4 = .ok (.getfield 122, 3) := by decide +kernel
theorem dX9_rawSample_7 : decode cX9_rawSample 7 = .ok (.iload_n 1, 1) := by decide +kernel
theorem dX9_rawSample_8 : decode cX9_rawSample 8 = .ok (.iload_n 2, 1) := by decide +kernel
theorem dX9_rawSample_9 : decode cX9_rawSample 9 = .ok (.invokevirtual 150, 3) := by decide +kernel
theorem dX9_rawSample_12 : decode cX9_rawSample 12 = .ok (.invokestatic 82, 3) := by decide +kernel
theorem dX9_rawSample_15 : decode cX9_rawSample 15 = .ok (.aload_n 0, 1) := by decide +kernel
theorem dX9_rawSample_16 : decode cX9_rawSample 16 = .ok (.getfield 10, 3) := by decide +kernel
theorem dX9_rawSample_19 : decode cX9_rawSample 19 = .ok (.getfield 122, 3) := by decide +kernel
theorem dX9_rawSample_22 : decode cX9_rawSample 22 = .ok (.iload_n 1, 1) := by decide +kernel
theorem dX9_rawSample_23 : decode cX9_rawSample 23 = .ok (.iload_n 2, 1) := by decide +kernel
theorem dX9_rawSample_24 : decode cX9_rawSample 24 = .ok (.invokevirtual 153, 3) := by decide +kernel
theorem dX9_rawSample_27 : decode cX9_rawSample 27 = .ok (.ireturn, 1) := by decide +kernel
theorem dX9_sample_0 : decode cX9_sample 0 = .ok (.aload_n 0, 1) := by decide +kernel
theorem dX9_sample_1 : decode cX9_sample 1 = .ok (.getfield 10, 3) := by decide +kernel
theorem dX9_sample_4 : decode cX9_sample 4 = .ok (.getfield 122, 3) := by decide +kernel
theorem dX9_sample_7 : decode cX9_sample 7 = .ok (.iload_n 1, 1) := by decide +kernel
theorem dX9_sample_8 : decode cX9_sample 8 = .ok (.iload_n 2, 1) := by decide +kernel
theorem dX9_sample_9 : decode cX9_sample 9 = .ok (.invokevirtual 150, 3) := by decide +kernel
theorem dX9_sample_12 : decode cX9_sample 12 = .ok (.invokestatic 82, 3) := by decide +kernel
theorem dX9_sample_15 : decode cX9_sample 15 = .ok (.aload_n 0, 1) := by decide +kernel
theorem dX9_sample_16 : decode cX9_sample 16 = .ok (.iload_n 1, 1) := by decide +kernel
theorem dX9_sample_17 : decode cX9_sample 17 = .ok (.iload_n 2, 1) := by decide +kernel
theorem dX9_sample_18 : decode cX9_sample 18 = .ok (.invokevirtual 156, 3) := by decide +kernel
theorem dX9_sample_21 : decode cX9_sample 21 = .ok (.ireturn, 1) := by decide +kernel
theorem dX9_sampleByFilter_0 : decode cX9_sampleByFilter 0 = .ok (.aload_n 0, 1) := by decide +kernel
theorem dX9_sampleByFilter_1 : decode cX9_sampleByFilter 1 = .ok (.getfield 10, 3) := by decide +kernel
theorem dX9_sampleByFilter_4 : decode cX9_sampleByFilter 4 = .ok (.getfield 122, 3) := by decide +kernel
theorem dX9_sampleByFilter_7 : decode cX9_sampleByFilter 7 = .ok (.iload_n 1, 1) := by decide +kernel
theorem dX9_sampleByFilter_8 : decode cX9_sampleByFilter 8 = .ok (.iload_n 2, 1) := by decide +kernel
theorem dX9_sampleByFilter_9 : decode cX9_sampleByFilter 9 = .ok (.invokevirtual 150, 3) := by decide +kernel
theorem dX9_sampleByFilter_12 : decode cX9_sampleByFilter 12 = .ok (.invokestatic 82, 3) := by decide +kernel
theorem dX9_sampleByFilter_15 : decode cX9_sampleByFilter 15 = .ok (.aload_n 0, 1) := by decide +kernel
theorem dX9_sampleByFilter_16 : decode cX9_sampleByFilter 16 = .ok (.getfield 32, 3) := by decide +kernel
theorem dX9_sampleByFilter_19 : decode cX9_sampleByFilter 19 = .ok (.aload_n 0, 1) := by decide +kernel
theorem dX9_sampleByFilter_20 : decode cX9_sampleByFilter 20 = .ok (.getfield 10, 3) := by decide +kernel
theorem dX9_sampleByFilter_23 : decode cX9_sampleByFilter 23 = .ok (.iload_n 1, 1) := by decide +kernel
theorem dX9_sampleByFilter_24 : decode cX9_sampleByFilter 24 = .ok (.invokevirtual 159, 3) := by decide +kernel
theorem dX9_sampleByFilter_27 : decode cX9_sampleByFilter 27 = .ok (.aload_n 0, 1) := by decide +kernel
theorem dX9_sampleByFilter_28 : decode cX9_sampleByFilter 28 = .ok (.getfield 32, 3) := by decide +kernel
theorem dX9_sampleByFilter_31 : decode cX9_sampleByFilter 31 = .ok (.iload_n 2, 1) := by decide +kernel
theorem dX9_sampleByFilter_32 : decode cX9_sampleByFilter 32 = .ok (.invokevirtual 163, 3) := by decide +kernel
theorem dX9_sampleByFilter_35 : decode cX9_sampleByFilter 35 = .ok (.ireturn, 1) := by decide +kernel
theorem dX9_mixedSample_0 : decode cX9_mixedSample 0 = .ok (.iload_n 1, 1) := by decide +kernel
theorem dX9_mixedSample_1 : decode cX9_mixedSample 1 = .ok (.invokestatic 141, 3) := by decide +kernel
theorem dX9_mixedSample_4 : decode cX9_mixedSample 4 = .ok (.invokestatic 82, 3) := by decide +kernel
theorem dX9_mixedSample_7 : decode cX9_mixedSample 7 = .ok (.iload_n 2, 1) := by decide +kernel
theorem dX9_mixedSample_8 : decode cX9_mixedSample 8 = .ok (.invokestatic 141, 3) := by decide +kernel
theorem dX9_mixedSample_11 : decode cX9_mixedSample 11 = .ok (.invokestatic 82, 3) := by decide +kernel
theorem dX9_mixedSample_14 : decode cX9_mixedSample 14 = .ok (.aload_n 0, 1) := by decide +kernel
theorem dX9_mixedSample_15 : decode cX9_mixedSample 15 = .ok (.getfield 10, 3) := by decide +kernel
theorem dX9_mixedSample_18 : decode cX9_mixedSample 18 = .ok (.getfield 122, 3) := by decide +kernel
theorem dX9_mixedSample_21 : decode cX9_mixedSample 21 = .ok (.iload_n 1, 1) := by decide +kernel
theorem dX9_mixedSample_22 : decode cX9_mixedSample 22 = .ok (.iload_n 3, 1) := by decide +kernel
theorem dX9_mixedSample_23 : decode cX9_mixedSample 23 = .ok (.invokevirtual 166, 3) := by decide +kernel
theorem dX9_mixedSample_26 : decode cX9_mixedSample 26 = .ok (.ifCond .ne 28, 3) := by decide +kernel
theorem dX9_mixedSample_29 : decode cX9_mixedSample 29 = .ok (.aload_n 0, 1) := by decide +kernel
theorem dX9_mixedSample_30 : decode cX9_mixedSample 30 = .ok (.getfield 10, 3) := by decide +kernel
theorem dX9_mixedSample_33 : decode cX9_mixedSample 33 = .ok (.getfield 122, 3) := by decide +kernel
theorem dX9_mixedSample_36 : decode cX9_mixedSample 36 = .ok (.iload_n 2, 1) := by decide +kernel
theorem dX9_mixedSample_37 : decode cX9_mixedSample 37 = .ok (.iload_n 3, 1) := by decide +kernel
theorem dX9_mixedSample_38 : decode cX9_mixedSample 38 = .ok (.invokevirtual 166, 3) := by decide +kernel
theorem dX9_mixedSample_41 : decode cX9_mixedSample 41 = .ok (.ifCond .ne 13, 3) := by decide +kernel
theorem dX9_mixedSample_44 : decode cX9_mixedSample 44 = .ok (.new 170, 3) := by decide +kernel
theorem dX9_mixedSample_47 : decode cX9_mixedSample 47 = .ok (.dup, 1) := by decide +kernel
theorem dX9_mixedSample_48 : decode cX9_mixedSample 48 = .ok (.ldc 172, 2) := by decide +kernel
theorem dX9_mixedSample_50 : decode cX9_mixedSample 50 = .ok (.invokespecial 174, 3) := by decide +kernel
theorem dX9_mixedSample_53 : decode cX9_mixedSample 53 = .ok (.athrow, 1) := by decide +kernel
theorem dX9_mixedSample_54 : decode cX9_mixedSample 54 = .ok (.aload_n 0, 1) := by decide +kernel
theorem dX9_mixedSample_55 : decode cX9_mixedSample 55 = .ok (.iload_n 1, 1) := by decide +kernel
theorem dX9_mixedSample_56 : decode cX9_mixedSample 56 = .ok (.iload_n 3, 1) := by decide +kernel
theorem dX9_mixedSample_57 : decode cX9_mixedSample 57 = .ok (.invokevirtual 156, 3) := by decide +kernel
theorem dX9_mixedSample_60 : decode cX9_mixedSample 60 = .ok (.aload_n 0, 1) := by decide +kernel
theorem dX9_mixedSample_61 : decode cX9_mixedSample 61 = .ok (.iload_n 2, 1) := by decide +kernel
theorem dX9_mixedSample_62 : decode cX9_mixedSample 62 = .ok (.iload_n 3, 1) := by decide +kernel
theorem dX9_mixedSample_63 : decode cX9_mixedSample 63 = .ok (.invokevirtual 156, 3) := by decide +kernel
theorem dX9_mixedSample_66 : decode cX9_mixedSample 66 = .ok (.iadd, 1) := by decide +kernel
theorem dX9_mixedSample_67 : decode cX9_mixedSample 67 = .ok (.iconst 2, 1) := by decide +kernel
theorem dX9_mixedSample_68 : decode cX9_mixedSample 68 = .ok (.idiv, 1) := by decide +kernel
theorem dX9_mixedSample_69 : decode cX9_mixedSample 69 = .ok (.ireturn, 1) := by decide +kernel
theorem dX9_peak_0 : decode cX9_peak 0 = .ok (.aload_n 0, 1) := by decide +kernel
theorem dX9_peak_1 : decode cX9_peak 1 = .ok (.getfield 10, 3) := by decide +kernel
theorem dX9_peak_4 : decode cX9_peak 4 = .ok (.getfield 122, 3) := by decide +kernel
theorem dX9_peak_7 : decode cX9_peak 7 = .ok (.iload_n 1, 1) := by decide +kernel
theorem dX9_peak_8 : decode cX9_peak 8 = .ok (.invokevirtual 135, 3) := by decide +kernel
theorem dX9_peak_11 : decode cX9_peak 11 = .ok (.invokestatic 82, 3) := by decide +kernel
theorem dX9_peak_14 : decode cX9_peak 14 = .ok (.aload_n 0, 1) := by decide +kernel
theorem dX9_peak_15 : decode cX9_peak 15 = .ok (.iload_n 1, 1) := by decide +kernel
theorem dX9_peak_16 : decode cX9_peak 16 = .ok (.invokevirtual 177, 3) := by decide +kernel
theorem dX9_peak_19 : decode cX9_peak 19 = .ok (.istore_n 2, 1) := by decide +kernel
theorem dX9_peak_20 : decode cX9_peak 20 = .ok (.iconst 0, 1) := by decide +kernel
theorem dX9_peak_21 : decode cX9_peak 21 = .ok (.istore_n 3, 1) := by decide +kernel
theorem dX9_peak_22 : decode cX9_peak 22 = .ok (.iconst 0, 1) := by decide +kernel
theorem dX9_peak_23 : decode cX9_peak 23 = .ok (.istore 4, 2) := by decide +kernel
theorem dX9_peak_25 : decode cX9_peak 25 = .ok (.iload 4, 2) := by decide +kernel
theorem dX9_peak_27 : decode cX9_peak 27 = .ok (.iload_n 2, 1) := by decide +kernel
theorem dX9_peak_28 : decode cX9_peak 28 = .ok (.if_icmp .ge 26, 3) := by decide +kernel
theorem dX9_peak_31 : decode cX9_peak 31 = .ok (.iload_n 3, 1) := by decide +kernel
theorem dX9_peak_32 : decode cX9_peak 32 = .ok (.aload_n 0, 1) := by decide +kernel
theorem dX9_peak_33 : decode cX9_peak 33 = .ok (.getfield 32, 3) := by decide +kernel
theorem dX9_peak_36 : decode cX9_peak 36 = .ok (.iload 4, 2) := by decide +kernel
theorem dX9_peak_38 : decode cX9_peak 38 = .ok (.invokevirtual 180, 3) := by decide +kernel
theorem dX9_peak_41 : decode cX9_peak 41 = .ok (.invokestatic 111, 3) := by decide +kernel
theorem dX9_peak_44 : decode cX9_peak 44 = .ok (.invokestatic 183, 3) := by decide +kernel
theorem dX9_peak_47 : decode cX9_peak 47 = .ok (.istore_n 3, 1) := by decide +kernel
theorem dX9_peak_48 : decode cX9_peak 48 = .ok (.iinc 4 1, 3) := by decide +kernel
theorem dX9_peak_51 : decode cX9_peak 51 = .ok (.goto (-26), 3) := by decide +kernel
theorem dX9_peak_54 : decode cX9_peak 54 = .ok (.iload_n 3, 1) := by decide +kernel
theorem dX9_peak_55 : decode cX9_peak 55 = .ok (.ireturn, 1) := by decide +kernel
theorem dX9_energy_0 : decode cX9_energy 0 = .ok (.iload_n 1, 1) := by decide +kernel
theorem dX9_energy_1 : decode cX9_energy 1 = .ok (.invokestatic 141, 3) := by decide +kernel
theorem dX9_energy_4 : decode cX9_energy 4 = .ok (.invokestatic 82, 3) := by decide +kernel
theorem dX9_energy_7 : decode cX9_energy 7 = .ok (.aload_n 0, 1) := by decide +kernel
theorem dX9_energy_8 : decode cX9_energy 8 = .ok (.iload_n 1, 1) := by decide +kernel
theorem dX9_energy_9 : decode cX9_energy 9 = .ok (.invokevirtual 186, 3) := by decide +kernel
theorem dX9_energy_12 : decode cX9_energy 12 = .ok (.lreturn, 1) := by decide +kernel
theorem dX9_signChanges_0 : decode cX9_signChanges 0 = .ok (.iload_n 1, 1) := by decide +kernel
theorem dX9_signChanges_1 : decode cX9_signChanges 1 = .ok (.invokestatic 141, 3) := by decide +kernel
theorem dX9_signChanges_4 : decode cX9_signChanges 4 = .ok (.invokestatic 82, 3) := by decide +kernel
theorem dX9_signChanges_7 : decode cX9_signChanges 7 = .ok (.aload_n 0, 1) := by decide +kernel
theorem dX9_signChanges_8 : decode cX9_signChanges 8 = .ok (.iload_n 1, 1) := by decide +kernel
theorem dX9_signChanges_9 : decode cX9_signChanges 9 = .ok (.invokevirtual 177, 3) := by decide +kernel
theorem dX9_signChanges_12 : decode cX9_signChanges 12 = .ok (.istore_n 2, 1) := by decide +kernel
theorem dX9_signChanges_13 : decode cX9_signChanges 13 = .ok (.iconst 0, 1) := by decide +kernel
theorem dX9_signChanges_14 : decode cX9_signChanges 14 = .ok (.istore_n 3, 1) := by decide +kernel
theorem dX9_signChanges_15 : decode cX9_signChanges 15 = .ok (.iconst 0, 1) := by decide +kernel
theorem dX9_signChanges_16 : decode cX9_signChanges 16 = .ok (.istore 4, 2) := by decide +kernel
theorem dX9_signChanges_18 : decode cX9_signChanges 18 = .ok (.iconst 0, 1) := by decide +kernel
theorem dX9_signChanges_19 : decode cX9_signChanges 19 = .ok (.istore 5, 2) := by decide +kernel
theorem dX9_signChanges_21 : decode cX9_signChanges 21 = .ok (.iload 5, 2) := by decide +kernel
theorem dX9_signChanges_23 : decode cX9_signChanges 23 = .ok (.iload_n 2, 1) := by decide +kernel
theorem dX9_signChanges_24 : decode cX9_signChanges 24 = .ok (.if_icmp .ge 43, 3) := by decide +kernel
theorem dX9_signChanges_27 : decode cX9_signChanges 27 = .ok (.aload_n 0, 1) := by decide +kernel
theorem dX9_signChanges_28 : decode cX9_signChanges 28 = .ok (.getfield 32, 3) := by decide +kernel
theorem dX9_signChanges_31 : decode cX9_signChanges 31 = .ok (.iload 5, 2) := by decide +kernel
theorem dX9_signChanges_33 : decode cX9_signChanges 33 = .ok (.invokevirtual 180, 3) := by decide +kernel
theorem dX9_signChanges_36 : decode cX9_signChanges 36 = .ok (.invokestatic 190, 3) := by decide +kernel
theorem dX9_signChanges_39 : decode cX9_signChanges 39 = .ok (.istore 6, 2) := by decide +kernel
theorem dX9_signChanges_41 : decode cX9_signChanges 41 = .ok (.iload 6, 2) := by decide +kernel
theorem dX9_signChanges_43 : decode cX9_signChanges 43 = .ok (.ifCond .eq 18, 3) := by decide +kernel
theorem dX9_signChanges_46 : decode cX9_signChanges 46 = .ok (.iload 6, 2) := by decide +kernel
theorem dX9_signChanges_48 : decode cX9_signChanges 48 = .ok (.iload 4, 2) := by decide +kernel
theorem dX9_signChanges_50 : decode cX9_signChanges 50 = .ok (.ineg, 1) := by decide +kernel
theorem dX9_signChanges_51 : decode cX9_signChanges 51 = .ok (.if_icmp .ne 6, 3) := by decide +kernel
theorem dX9_signChanges_54 : decode cX9_signChanges 54 = .ok (.iinc 3 1, 3) := by decide +kernel
theorem dX9_signChanges_57 : decode cX9_signChanges 57 = .ok (.iload 6, 2) := by decide +kernel
theorem dX9_signChanges_59 : decode cX9_signChanges 59 = .ok (.istore 4, 2) := by decide +kernel
theorem dX9_signChanges_61 : decode cX9_signChanges 61 = .ok (.iinc 5 1, 3) := by decide +kernel
theorem dX9_signChanges_64 : decode cX9_signChanges 64 = .ok (.goto (-43), 3) := by decide +kernel
theorem dX9_signChanges_67 : decode cX9_signChanges 67 = .ok (.iload_n 3, 1) := by decide +kernel
theorem dX9_signChanges_68 : decode cX9_signChanges 68 = .ok (.ireturn, 1) := by decide +kernel
theorem dX9_strongestSong_0 : decode cX9_strongestSong 0 = .ok (.iconst 0, 1) := by decide +kernel
theorem dX9_strongestSong_1 : decode cX9_strongestSong 1 = .ok (.istore_n 1, 1) := by decide +kernel
theorem dX9_strongestSong_2 : decode cX9_strongestSong 2 = .ok (.aload_n 0, 1) := by decide +kernel
theorem dX9_strongestSong_3 : decode cX9_strongestSong 3 = .ok (.iconst 0, 1) := by decide +kernel
theorem dX9_strongestSong_4 : decode cX9_strongestSong 4 = .ok (.invokevirtual 186, 3) := by decide +kernel
theorem dX9_strongestSong_7 : decode cX9_strongestSong 7 = .ok (.lstore_n 2, 1) := by decide +kernel
theorem dX9_strongestSong_8 : decode cX9_strongestSong 8 = .ok (.iconst 1, 1) := by decide +kernel
theorem dX9_strongestSong_9 : decode cX9_strongestSong 9 = .ok (.istore 4, 2) := by decide +kernel
theorem dX9_strongestSong_11 : decode cX9_strongestSong 11 = .ok (.iload 4, 2) := by decide +kernel
theorem dX9_strongestSong_13 : decode cX9_strongestSong 13 = .ok (.iconst 4, 1) := by decide +kernel
theorem dX9_strongestSong_14 : decode cX9_strongestSong 14 = .ok (.if_icmp .ge 30, 3) := by decide +kernel
theorem dX9_strongestSong_17 : decode cX9_strongestSong 17 = .ok (.aload_n 0, 1) := by decide +kernel
theorem dX9_strongestSong_18 : decode cX9_strongestSong 18 = .ok (.iload 4, 2) := by decide +kernel
theorem dX9_strongestSong_20 : decode cX9_strongestSong 20 = .ok (.invokevirtual 186, 3) := by decide +kernel
theorem dX9_strongestSong_23 : decode cX9_strongestSong 23 = .ok (.lstore 5, 2) := by decide +kernel
theorem dX9_strongestSong_25 : decode cX9_strongestSong 25 = .ok (.lload 5, 2) := by decide +kernel
theorem dX9_strongestSong_27 : decode cX9_strongestSong 27 = .ok (.lload_n 2, 1) := by decide +kernel
theorem dX9_strongestSong_28 : decode cX9_strongestSong 28 = .ok (.lcmp, 1) := by decide +kernel
theorem dX9_strongestSong_29 : decode cX9_strongestSong 29 = .ok (.ifCond .le 9, 3) := by decide +kernel
theorem dX9_strongestSong_32 : decode cX9_strongestSong 32 = .ok (.iload 4, 2) := by decide +kernel
theorem dX9_strongestSong_34 : decode cX9_strongestSong 34 = .ok (.istore_n 1, 1) := by decide +kernel
theorem dX9_strongestSong_35 : decode cX9_strongestSong 35 = .ok (.lload 5, 2) := by decide +kernel
theorem dX9_strongestSong_37 : decode cX9_strongestSong 37 = .ok (.lstore_n 2, 1) := by decide +kernel
theorem dX9_strongestSong_38 : decode cX9_strongestSong 38 = .ok (.iinc 4 1, 3) := by decide +kernel
theorem dX9_strongestSong_41 : decode cX9_strongestSong 41 = .ok (.goto (-30), 3) := by decide +kernel
theorem dX9_strongestSong_44 : decode cX9_strongestSong 44 = .ok (.iload_n 1, 1) := by decide +kernel
theorem dX9_strongestSong_45 : decode cX9_strongestSong 45 = .ok (.ireturn, 1) := by decide +kernel
theorem dX9_addTank_0 : decode cX9_addTank 0 = .ok (.aload_n 0, 1) := by decide +kernel
theorem dX9_addTank_1 : decode cX9_addTank 1 = .ok (.getfield 10, 3) := by decide +kernel
theorem dX9_addTank_4 : decode cX9_addTank 4 = .ok (.getfield 193, 3) := by decide +kernel
theorem dX9_addTank_7 : decode cX9_addTank 7 = .ok (.iload_n 1, 1) := by decide +kernel
theorem dX9_addTank_8 : decode cX9_addTank 8 = .ok (.invokevirtual 196, 3) := by decide +kernel
theorem dX9_addTank_11 : decode cX9_addTank 11 = .ok (.invokestatic 82, 3) := by decide +kernel
theorem dX9_addTank_14 : decode cX9_addTank 14 = .ok (.aload_n 0, 1) := by decide +kernel
theorem dX9_addTank_15 : decode cX9_addTank 15 = .ok (.getfield 25, 3) := by decide +kernel
theorem dX9_addTank_18 : decode cX9_addTank 18 = .ok (.aload_n 0, 1) := by decide +kernel
theorem dX9_addTank_19 : decode cX9_addTank 19 = .ok (.getfield 10, 3) := by decide +kernel
theorem dX9_addTank_22 : decode cX9_addTank 22 = .ok (.invokevirtual 86, 3) := by decide +kernel
theorem dX9_addTank_25 : decode cX9_addTank 25 = .ok (.aload_n 0, 1) := by decide +kernel
theorem dX9_addTank_26 : decode cX9_addTank 26 = .ok (.getfield 10, 3) := by decide +kernel
theorem dX9_addTank_29 : decode cX9_addTank 29 = .ok (.getfield 193, 3) := by decide +kernel
theorem dX9_addTank_32 : decode cX9_addTank 32 = .ok (.iload_n 1, 1) := by decide +kernel
theorem dX9_addTank_33 : decode cX9_addTank 33 = .ok (.invokevirtual 199, 3) := by decide +kernel
theorem dX9_addTank_36 : decode cX9_addTank 36 = .ok (.ireturn, 1) := by decide +kernel
theorem dX9_setTuning_0 : decode cX9_setTuning 0 = .ok (.aload_n 0, 1) := by decide +kernel
theorem dX9_setTuning_1 : decode cX9_setTuning 1 = .ok (.getfield 10, 3) := by decide +kernel
theorem dX9_setTuning_4 : decode cX9_setTuning 4 = .ok (.getfield 193, 3) := by decide +kernel
theorem dX9_setTuning_7 : decode cX9_setTuning 7 = .ok (.iload_n 1, 1) := by decide +kernel
theorem dX9_setTuning_8 : decode cX9_setTuning 8 = .ok (.iload_n 2, 1) := by decide +kernel
theorem dX9_setTuning_9 : decode cX9_setTuning 9 = .ok (.invokevirtual 202, 3) := by decide +kernel
theorem dX9_setTuning_12 : decode cX9_setTuning 12 = .ok (.invokestatic 82, 3) := by decide +kernel
theorem dX9_setTuning_15 : decode cX9_setTuning 15 = .ok (.aload_n 0, 1) := by decide +kernel
theorem dX9_setTuning_16 : decode cX9_setTuning 16 = .ok (.getfield 25, 3) := by decide +kernel
theorem dX9_setTuning_19 : decode cX9_setTuning 19 = .ok (.aload_n 0, 1) := by decide +kernel
theorem dX9_setTuning_20 : decode cX9_setTuning 20 = .ok (.getfield 10, 3) := by decide +kernel
theorem dX9_setTuning_23 : decode cX9_setTuning 23 = .ok (.invokevirtual 86, 3) := by decide +kernel
theorem dX9_setTuning_26 : decode cX9_setTuning 26 = .ok (.aload_n 0, 1) := by decide +kernel
theorem dX9_setTuning_27 : decode cX9_setTuning 27 = .ok (.getfield 10, 3) := by decide +kernel
theorem dX9_setTuning_30 : decode cX9_setTuning 30 = .ok (.getfield 193, 3) := by decide +kernel
theorem dX9_setTuning_33 : decode cX9_setTuning 33 = .ok (.iload_n 1, 1) := by decide +kernel
theorem dX9_setTuning_34 : decode cX9_setTuning 34 = .ok (.iload_n 2, 1) := by decide +kernel
theorem dX9_setTuning_35 : decode cX9_setTuning 35 = .ok (.invokevirtual 205, 3) := by decide +kernel
theorem dX9_setTuning_38 : decode cX9_setTuning 38 = .ok (.ireturn, 1) := by decide +kernel
theorem dX9_pour_0 : decode cX9_pour 0 = .ok (.aload_n 0, 1) := by decide +kernel
theorem dX9_pour_1 : decode cX9_pour 1 = .ok (.getfield 10, 3) := by decide +kernel
theorem dX9_pour_4 : decode cX9_pour 4 = .ok (.getfield 122, 3) := by decide +kernel
theorem dX9_pour_7 : decode cX9_pour 7 = .ok (.iload_n 1, 1) := by decide +kernel
theorem dX9_pour_8 : decode cX9_pour 8 = .ok (.invokevirtual 135, 3) := by decide +kernel
theorem dX9_pour_11 : decode cX9_pour 11 = .ok (.invokestatic 82, 3) := by decide +kernel
theorem dX9_pour_14 : decode cX9_pour 14 = .ok (.aload_n 0, 1) := by decide +kernel
theorem dX9_pour_15 : decode cX9_pour 15 = .ok (.getfield 25, 3) := by decide +kernel
theorem dX9_pour_18 : decode cX9_pour 18 = .ok (.aload_n 0, 1) := by decide +kernel
theorem dX9_pour_19 : decode cX9_pour 19 = .ok (.getfield 10, 3) := by decide +kernel
theorem dX9_pour_22 : decode cX9_pour 22 = .ok (.invokevirtual 86, 3) := by decide +kernel
theorem dX9_pour_25 : decode cX9_pour 25 = .ok (.aload_n 0, 1) := by decide +kernel
theorem dX9_pour_26 : decode cX9_pour 26 = .ok (.aload_n 0, 1) := by decide +kernel
theorem dX9_pour_27 : decode cX9_pour 27 = .ok (.getfield 10, 3) := by decide +kernel
theorem dX9_pour_30 : decode cX9_pour 30 = .ok (.aload_n 0, 1) := by decide +kernel
theorem dX9_pour_31 : decode cX9_pour 31 = .ok (.getfield 10, 3) := by decide +kernel
theorem dX9_pour_34 : decode cX9_pour 34 = .ok (.getfield 193, 3) := by decide +kernel
theorem dX9_pour_37 : decode cX9_pour 37 = .ok (.iload_n 1, 1) := by decide +kernel
theorem dX9_pour_38 : decode cX9_pour 38 = .ok (.invokevirtual 208, 3) := by decide +kernel
theorem dX9_pour_41 : decode cX9_pour 41 = .ok (.ireturn, 1) := by decide +kernel
theorem dX9_drain_0 : decode cX9_drain 0 = .ok (.aload_n 0, 1) := by decide +kernel
theorem dX9_drain_1 : decode cX9_drain 1 = .ok (.getfield 10, 3) := by decide +kernel
theorem dX9_drain_4 : decode cX9_drain 4 = .ok (.getfield 193, 3) := by decide +kernel
theorem dX9_drain_7 : decode cX9_drain 7 = .ok (.iload_n 1, 1) := by decide +kernel
theorem dX9_drain_8 : decode cX9_drain 8 = .ok (.iload_n 2, 1) := by decide +kernel
theorem dX9_drain_9 : decode cX9_drain 9 = .ok (.invokevirtual 212, 3) := by decide +kernel
theorem dX9_drain_12 : decode cX9_drain 12 = .ok (.invokestatic 82, 3) := by decide +kernel
theorem dX9_drain_15 : decode cX9_drain 15 = .ok (.aload_n 0, 1) := by decide +kernel
theorem dX9_drain_16 : decode cX9_drain 16 = .ok (.getfield 25, 3) := by decide +kernel
theorem dX9_drain_19 : decode cX9_drain 19 = .ok (.aload_n 0, 1) := by decide +kernel
theorem dX9_drain_20 : decode cX9_drain 20 = .ok (.getfield 10, 3) := by decide +kernel
theorem dX9_drain_23 : decode cX9_drain 23 = .ok (.invokevirtual 86, 3) := by decide +kernel
theorem dX9_drain_26 : decode cX9_drain 26 = .ok (.aload_n 0, 1) := by decide +kernel
theorem dX9_drain_27 : decode cX9_drain 27 = .ok (.getfield 10, 3) := by decide +kernel
theorem dX9_drain_30 : decode cX9_drain 30 = .ok (.getfield 193, 3) := by decide +kernel
theorem dX9_drain_33 : decode cX9_drain 33 = .ok (.iload_n 1, 1) := by decide +kernel
theorem dX9_drain_34 : decode cX9_drain 34 = .ok (.iload_n 2, 1) := by decide +kernel
theorem dX9_drain_35 : decode cX9_drain 35 = .ok (.invokevirtual 215, 3) := by decide +kernel
theorem dX9_drain_38 : decode cX9_drain 38 = .ok (.ireturn, 1) := by decide +kernel
theorem dX9_tankCount_0 : decode cX9_tankCount 0 = .ok (.aload_n 0, 1) := by decide +kernel
theorem dX9_tankCount_1 : decode cX9_tankCount 1 = .ok (.getfield 10, 3) := by decide +kernel
theorem dX9_tankCount_4 : decode cX9_tankCount 4 = .ok (.getfield 193, 3) := by decide +kernel
theorem dX9_tankCount_7 : decode cX9_tankCount 7 = .ok (.getfield 218, 3) := by decide +kernel
theorem dX9_tankCount_10 : decode cX9_tankCount 10 = .ok (.ireturn, 1) := by decide +kernel
theorem dX9_capacity_0 : decode cX9_capacity 0 = .ok (.aload_n 0, 1) := by decide +kernel
theorem dX9_capacity_1 : decode cX9_capacity 1 = .ok (.getfield 10, 3) := by decide +kernel
theorem dX9_capacity_4 : decode cX9_capacity 4 = .ok (.getfield 193, 3) := by decide +kernel
theorem dX9_capacity_7 : decode cX9_capacity 7 = .ok (.iload_n 1, 1) := by decide +kernel
theorem dX9_capacity_8 : decode cX9_capacity 8 = .ok (.invokevirtual 219, 3) := by decide +kernel
theorem dX9_capacity_11 : decode cX9_capacity 11 = .ok (.invokestatic 82, 3) := by decide +kernel
theorem dX9_capacity_14 : decode cX9_capacity 14 = .ok (.aload_n 0, 1) := by decide +kernel
theorem dX9_capacity_15 : decode cX9_capacity 15 = .ok (.getfield 10, 3) := by decide +kernel
theorem dX9_capacity_18 : decode cX9_capacity 18 = .ok (.getfield 193, 3) := by decide +kernel
theorem dX9_capacity_21 : decode cX9_capacity 21 = .ok (.iload_n 1, 1) := by decide +kernel
theorem dX9_capacity_22 : decode cX9_capacity 22 = .ok (.invokevirtual 222, 3) := by decide +kernel
theorem dX9_capacity_25 : decode cX9_capacity 25 = .ok (.ireturn, 1) := by decide +kernel
theorem dX9_tuning_0 : decode cX9_tuning 0 = .ok (.aload_n 0, 1) := by decide +kernel
theorem dX9_tuning_1 : decode cX9_tuning 1 = .ok (.getfield 10, 3) := by decide +kernel
theorem dX9_tuning_4 : decode cX9_tuning 4 = .ok (.getfield 193, 3) := by decide +kernel
theorem dX9_tuning_7 : decode cX9_tuning 7 = .ok (.iload_n 1, 1) := by decide +kernel
theorem dX9_tuning_8 : decode cX9_tuning 8 = .ok (.invokevirtual 219, 3) := by decide +kernel
theorem dX9_tuning_11 : decode cX9_tuning 11 = .ok (.invokestatic 82, 3) := by decide +kernel
theorem dX9_tuning_14 : decode cX9_tuning 14 = .ok (.aload_n 0, 1) := by decide +kernel
theorem dX9_tuning_15 : decode cX9_tuning 15 = .ok (.getfield 10, 3) := by decide +kernel
theorem dX9_tuning_18 : decode cX9_tuning 18 = .ok (.getfield 193, 3) := by decide +kernel
theorem dX9_tuning_21 : decode cX9_tuning 21 = .ok (.iload_n 1, 1) := by decide +kernel
theorem dX9_tuning_22 : decode cX9_tuning 22 = .ok (.invokevirtual 225, 3) := by decide +kernel
theorem dX9_tuning_25 : decode cX9_tuning 25 = .ok (.ireturn, 1) := by decide +kernel
theorem dX9_level_0 : decode cX9_level 0 = .ok (.aload_n 0, 1) := by decide +kernel
theorem dX9_level_1 : decode cX9_level 1 = .ok (.getfield 10, 3) := by decide +kernel
theorem dX9_level_4 : decode cX9_level 4 = .ok (.getfield 193, 3) := by decide +kernel
theorem dX9_level_7 : decode cX9_level 7 = .ok (.iload_n 1, 1) := by decide +kernel
theorem dX9_level_8 : decode cX9_level 8 = .ok (.invokevirtual 219, 3) := by decide +kernel
theorem dX9_level_11 : decode cX9_level 11 = .ok (.invokestatic 82, 3) := by decide +kernel
theorem dX9_level_14 : decode cX9_level 14 = .ok (.aload_n 0, 1) := by decide +kernel
theorem dX9_level_15 : decode cX9_level 15 = .ok (.getfield 10, 3) := by decide +kernel
theorem dX9_level_18 : decode cX9_level 18 = .ok (.getfield 193, 3) := by decide +kernel
theorem dX9_level_21 : decode cX9_level 21 = .ok (.iload_n 1, 1) := by decide +kernel
theorem dX9_level_22 : decode cX9_level 22 = .ok (.invokevirtual 228, 3) := by decide +kernel
theorem dX9_level_25 : decode cX9_level 25 = .ok (.ireturn, 1) := by decide +kernel
theorem dX9_frameLoudness_0 : decode cX9_frameLoudness 0 = .ok (.aload_n 0, 1) := by decide +kernel
theorem dX9_frameLoudness_1 : decode cX9_frameLoudness 1 = .ok (.getfield 10, 3) := by decide +kernel
theorem dX9_frameLoudness_4 : decode cX9_frameLoudness 4 = .ok (.getfield 193, 3) := by decide +kernel
theorem dX9_frameLoudness_7 : decode cX9_frameLoudness 7 = .ok (.iload_n 1, 1) := by decide +kernel
theorem dX9_frameLoudness_8 : decode cX9_frameLoudness 8 = .ok (.iload_n 2, 1) := by decide +kernel
theorem dX9_frameLoudness_9 : decode cX9_frameLoudness 9 = .ok (.invokevirtual 231, 3) := by decide +kernel
theorem dX9_frameLoudness_12 : decode cX9_frameLoudness 12 = .ok (.invokestatic 82, 3) := by decide +kernel
theorem dX9_frameLoudness_15 : decode cX9_frameLoudness 15 = .ok (.aload_n 0, 1) := by decide +kernel
theorem dX9_frameLoudness_16 : decode cX9_frameLoudness 16 = .ok (.getfield 10, 3) := by decide +kernel
theorem dX9_frameLoudness_19 : decode cX9_frameLoudness 19 = .ok (.getfield 193, 3) := by decide +kernel
theorem dX9_frameLoudness_22 : decode cX9_frameLoudness 22 = .ok (.iload_n 1, 1) := by decide +kernel
theorem dX9_frameLoudness_23 : decode cX9_frameLoudness 23 = .ok (.iload_n 2, 1) := by decide +kernel
theorem dX9_frameLoudness_24 : decode cX9_frameLoudness 24 = .ok (.invokevirtual 234, 3) := by decide +kernel
theorem dX9_frameLoudness_27 : decode cX9_frameLoudness 27 = .ok (.ireturn, 1) := by decide +kernel
theorem dX9_frameCount_0 : decode cX9_frameCount 0 = .ok (.iload_n 1, 1) := by decide +kernel
theorem dX9_frameCount_1 : decode cX9_frameCount 1 = .ok (.invokestatic 141, 3) := by decide +kernel
theorem dX9_frameCount_4 : decode cX9_frameCount 4 = .ok (.invokestatic 82, 3) := by decide +kernel
theorem dX9_frameCount_7 : decode cX9_frameCount 7 = .ok (.aload_n 0, 1) := by decide +kernel
theorem dX9_frameCount_8 : decode cX9_frameCount 8 = .ok (.getfield 10, 3) := by decide +kernel
theorem dX9_frameCount_11 : decode cX9_frameCount 11 = .ok (.getfield 122, 3) := by decide +kernel
theorem dX9_frameCount_14 : decode cX9_frameCount 14 = .ok (.iload_n 1, 1) := by decide +kernel
theorem dX9_frameCount_15 : decode cX9_frameCount 15 = .ok (.invokevirtual 237, 3) := by decide +kernel
theorem dX9_frameCount_18 : decode cX9_frameCount 18 = .ok (.ireturn, 1) := by decide +kernel
theorem dX9_dropsFor_0 : decode cX9_dropsFor 0 = .ok (.iload_n 1, 1) := by decide +kernel
theorem dX9_dropsFor_1 : decode cX9_dropsFor 1 = .ok (.invokestatic 141, 3) := by decide +kernel
theorem dX9_dropsFor_4 : decode cX9_dropsFor 4 = .ok (.invokestatic 82, 3) := by decide +kernel
theorem dX9_dropsFor_7 : decode cX9_dropsFor 7 = .ok (.aload_n 0, 1) := by decide +kernel
theorem dX9_dropsFor_8 : decode cX9_dropsFor 8 = .ok (.iload_n 1, 1) := by decide +kernel
theorem dX9_dropsFor_9 : decode cX9_dropsFor 9 = .ok (.invokevirtual 240, 3) := by decide +kernel
theorem dX9_dropsFor_12 : decode cX9_dropsFor 12 = .ok (.ireturn, 1) := by decide +kernel
theorem dX9_dropsByLevels_0 : decode cX9_dropsByLevels 0 = .ok (.iload_n 1, 1) := by decide +kernel
theorem dX9_dropsByLevels_1 : decode cX9_dropsByLevels 1 = .ok (.invokestatic 141, 3) := by decide +kernel
theorem dX9_dropsByLevels_4 : decode cX9_dropsByLevels 4 = .ok (.invokestatic 82, 3) := by decide +kernel
theorem dX9_dropsByLevels_7 : decode cX9_dropsByLevels 7 = .ok (.aload_n 0, 1) := by decide +kernel
theorem dX9_dropsByLevels_8 : decode cX9_dropsByLevels 8 = .ok (.iload_n 1, 1) := by decide +kernel
theorem dX9_dropsByLevels_9 : decode cX9_dropsByLevels 9 = .ok (.invokevirtual 243, 3) := by decide +kernel
theorem dX9_dropsByLevels_12 : decode cX9_dropsByLevels 12 = .ok (.ireturn, 1) := by decide +kernel
theorem dX9_tankAtRank_0 : decode cX9_tankAtRank 0 = .ok (.aload_n 0, 1) := by decide +kernel
theorem dX9_tankAtRank_1 : decode cX9_tankAtRank 1 = .ok (.getfield 10, 3) := by decide +kernel
theorem dX9_tankAtRank_4 : decode cX9_tankAtRank 4 = .ok (.getfield 193, 3) := by decide +kernel
theorem dX9_tankAtRank_7 : decode cX9_tankAtRank 7 = .ok (.iload_n 1, 1) := by decide +kernel
theorem dX9_tankAtRank_8 : decode cX9_tankAtRank 8 = .ok (.invokevirtual 246, 3) := by decide +kernel
theorem dX9_tankAtRank_11 : decode cX9_tankAtRank 11 = .ok (.istore_n 2, 1) := by decide +kernel
theorem dX9_tankAtRank_12 : decode cX9_tankAtRank 12 = .ok (.iload_n 2, 1) := by decide +kernel
theorem dX9_tankAtRank_13 : decode cX9_tankAtRank 13 = .ok (.iconst (-1), 1) := by decide +kernel
theorem dX9_tankAtRank_14 : decode cX9_tankAtRank 14 = .ok (.if_icmp .ne 13, 3) := by decide +kernel
theorem dX9_tankAtRank_17 : decode cX9_tankAtRank 17 = .ok (.new 170, 3) := by decide +kernel
theorem dX9_tankAtRank_20 : decode cX9_tankAtRank 20 = .ok (.dup, 1) := by decide +kernel
theorem dX9_tankAtRank_21 : decode cX9_tankAtRank 21 = .ok (.ldc 249, 2) := by decide +kernel
theorem dX9_tankAtRank_23 : decode cX9_tankAtRank 23 = .ok (.invokespecial 174, 3) := by decide +kernel
theorem dX9_tankAtRank_26 : decode cX9_tankAtRank 26 = .ok (.athrow, 1) := by decide +kernel
theorem dX9_tankAtRank_27 : decode cX9_tankAtRank 27 = .ok (.iload_n 2, 1) := by decide +kernel
theorem dX9_tankAtRank_28 : decode cX9_tankAtRank 28 = .ok (.ireturn, 1) := by decide +kernel
theorem dX9_storedTotal_0 : decode cX9_storedTotal 0 = .ok (.aload_n 0, 1) := by decide +kernel
theorem dX9_storedTotal_1 : decode cX9_storedTotal 1 = .ok (.getfield 10, 3) := by decide +kernel
theorem dX9_storedTotal_4 : decode cX9_storedTotal 4 = .ok (.getfield 193, 3) := by decide +kernel
theorem dX9_storedTotal_7 : decode cX9_storedTotal 7 = .ok (.getfield 251, 3) := by decide +kernel
theorem dX9_storedTotal_10 : decode cX9_storedTotal 10 = .ok (.ireturn, 1) := by decide +kernel
theorem dX9_droppedTotal_0 : decode cX9_droppedTotal 0 = .ok (.aload_n 0, 1) := by decide +kernel
theorem dX9_droppedTotal_1 : decode cX9_droppedTotal 1 = .ok (.getfield 10, 3) := by decide +kernel
theorem dX9_droppedTotal_4 : decode cX9_droppedTotal 4 = .ok (.getfield 193, 3) := by decide +kernel
theorem dX9_droppedTotal_7 : decode cX9_droppedTotal 7 = .ok (.getfield 254, 3) := by decide +kernel
theorem dX9_droppedTotal_10 : decode cX9_droppedTotal 10 = .ok (.ireturn, 1) := by decide +kernel
theorem dX9_drainedTotal_0 : decode cX9_drainedTotal 0 = .ok (.aload_n 0, 1) := by decide +kernel
theorem dX9_drainedTotal_1 : decode cX9_drainedTotal 1 = .ok (.getfield 10, 3) := by decide +kernel
theorem dX9_drainedTotal_4 : decode cX9_drainedTotal 4 = .ok (.getfield 193, 3) := by decide +kernel
theorem dX9_drainedTotal_7 : decode cX9_drainedTotal 7 = .ok (.getfield 257, 3) := by decide +kernel
theorem dX9_drainedTotal_10 : decode cX9_drainedTotal 10 = .ok (.ireturn, 1) := by decide +kernel
theorem dX9_append_0 : decode cX9_append 0 = .ok (.aload_n 0, 1) := by decide +kernel
theorem dX9_append_1 : decode cX9_append 1 = .ok (.getfield 50, 3) := by decide +kernel
theorem dX9_append_4 : decode cX9_append 4 = .ok (.iload_n 1, 1) := by decide +kernel
theorem dX9_append_5 : decode cX9_append 5 = .ok (.invokevirtual 260, 3) := by decide +kernel
theorem dX9_append_8 : decode cX9_append 8 = .ok (.invokestatic 82, 3) := by decide +kernel
theorem dX9_append_11 : decode cX9_append 11 = .ok (.aload_n 0, 1) := by decide +kernel
theorem dX9_append_12 : decode cX9_append 12 = .ok (.getfield 50, 3) := by decide +kernel
theorem dX9_append_15 : decode cX9_append 15 = .ok (.iload_n 1, 1) := by decide +kernel
theorem dX9_append_16 : decode cX9_append 16 = .ok (.invokevirtual 264, 3) := by decide +kernel
theorem dX9_append_19 : decode cX9_append 19 = .ok (.ireturn, 1) := by decide +kernel
theorem dX9_run_0 : decode cX9_run 0 = .ok (.aload_n 0, 1) := by decide +kernel
theorem dX9_run_1 : decode cX9_run 1 = .ok (.getfield 50, 3) := by decide +kernel
theorem dX9_run_4 : decode cX9_run 4 = .ok (.invokevirtual 267, 3) := by decide +kernel
theorem dX9_run_7 : decode cX9_run 7 = .ok (.istore_n 1, 1) := by decide +kernel
theorem dX9_run_8 : decode cX9_run 8 = .ok (.aload_n 0, 1) := by decide +kernel
theorem dX9_run_9 : decode cX9_run 9 = .ok (.getfield 50, 3) := by decide +kernel
theorem dX9_run_12 : decode cX9_run 12 = .ok (.invokevirtual 271, 3) := by decide +kernel
theorem dX9_run_15 : decode cX9_run 15 = .ok (.iload_n 1, 1) := by decide +kernel
theorem dX9_run_16 : decode cX9_run 16 = .ok (.ifCond .ne 25, 3) := by decide +kernel
theorem dX9_run_19 : decode cX9_run 19 = .ok (.aload_n 0, 1) := by decide +kernel
theorem dX9_run_20 : decode cX9_run 20 = .ok (.aload_n 0, 1) := by decide +kernel
theorem dX9_run_21 : decode cX9_run 21 = .ok (.getfield 50, 3) := by decide +kernel
theorem dX9_run_24 : decode cX9_run 24 = .ok (.getfield 274, 3) := by decide +kernel
theorem dX9_run_27 : decode cX9_run 27 = .ok (.putfield 65, 3) := by decide +kernel
theorem dX9_run_30 : decode cX9_run 30 = .ok (.new 277, 3) := by decide +kernel
theorem dX9_run_33 : decode cX9_run 33 = .ok (.dup, 1) := by decide +kernel
theorem dX9_run_34 : decode cX9_run 34 = .ok (.ldc_w 279, 3) := by decide +kernel
theorem dX9_run_37 : decode cX9_run 37 = .ok (.invokespecial 281, 3) := by decide +kernel
theorem dX9_run_40 : decode cX9_run 40 = .ok (.athrow, 1) := by decide +kernel
theorem dX9_run_41 : decode cX9_run 41 = .ok (.aload_n 0, 1) := by decide +kernel
theorem dX9_run_42 : decode cX9_run 42 = .ok (.getfield 16, 3) := by decide +kernel
theorem dX9_run_45 : decode cX9_run 45 = .ok (.aload_n 0, 1) := by decide +kernel
theorem dX9_run_46 : decode cX9_run 46 = .ok (.getfield 10, 3) := by decide +kernel
theorem dX9_run_49 : decode cX9_run 49 = .ok (.invokevirtual 282, 3) := by decide +kernel
theorem dX9_run_52 : decode cX9_run 52 = .ok (.iconst 0, 1) := by decide +kernel
theorem dX9_run_53 : decode cX9_run 53 = .ok (.istore_n 2, 1) := by decide +kernel
theorem dX9_run_54 : decode cX9_run 54 = .ok (.iload_n 2, 1) := by decide +kernel
theorem dX9_run_55 : decode cX9_run 55 = .ok (.aload_n 0, 1) := by decide +kernel
theorem dX9_run_56 : decode cX9_run 56 = .ok (.getfield 50, 3) := by decide +kernel
theorem dX9_run_59 : decode cX9_run 59 = .ok (.getfield 285, 3) := by decide +kernel
theorem dX9_run_62 : decode cX9_run 62 = .ok (.if_icmp .ge 46, 3) := by decide +kernel
theorem dX9_run_65 : decode cX9_run 65 = .ok (.aload_n 0, 1) := by decide +kernel
theorem dX9_run_66 : decode cX9_run 66 = .ok (.aload_n 0, 1) := by decide +kernel
theorem dX9_run_67 : decode cX9_run 67 = .ok (.getfield 16, 3) := by decide +kernel
theorem dX9_run_70 : decode cX9_run 70 = .ok (.iload_n 2, 1) := by decide +kernel
theorem dX9_run_71 : decode cX9_run 71 = .ok (.invokevirtual 288, 3) := by decide +kernel
theorem dX9_run_74 : decode cX9_run 74 = .ok (.ifCond .eq 19, 3) := by decide +kernel
theorem dX9_run_77 : decode cX9_run 77 = .ok (.aload_n 0, 1) := by decide +kernel
theorem dX9_run_78 : decode cX9_run 78 = .ok (.iload_n 2, 1) := by decide +kernel
theorem dX9_run_79 : decode cX9_run 79 = .ok (.putfield 69, 3) := by decide +kernel
theorem dX9_run_82 : decode cX9_run 82 = .ok (.new 292, 3) := by decide +kernel
theorem dX9_run_85 : decode cX9_run 85 = .ok (.dup, 1) := by decide +kernel
theorem dX9_run_86 : decode cX9_run 86 = .ok (.ldc_w 294, 3) := by decide +kernel
theorem dX9_run_89 : decode cX9_run 89 = .ok (.invokespecial 296, 3) := by decide +kernel
theorem dX9_run_92 : decode cX9_run 92 = .ok (.athrow, 1) := by decide +kernel
theorem dX9_run_93 : decode cX9_run 93 = .ok (.aload_n 0, 1) := by decide +kernel
theorem dX9_run_94 : decode cX9_run 94 = .ok (.aload_n 0, 1) := by decide +kernel
theorem dX9_run_95 : decode cX9_run 95 = .ok (.getfield 16, 3) := by decide +kernel
theorem dX9_run_98 : decode cX9_run 98 = .ok (.iload_n 2, 1) := by decide +kernel
theorem dX9_run_99 : decode cX9_run 99 = .ok (.invokevirtual 297, 3) := by decide +kernel
theorem dX9_run_102 : decode cX9_run 102 = .ok (.iinc 2 1, 3) := by decide +kernel
theorem dX9_run_105 : decode cX9_run 105 = .ok (.goto (-51), 3) := by decide +kernel
theorem dX9_run_108 : decode cX9_run 108 = .ok (.aload_n 0, 1) := by decide +kernel
theorem dX9_run_109 : decode cX9_run 109 = .ok (.getfield 25, 3) := by decide +kernel
theorem dX9_run_112 : decode cX9_run 112 = .ok (.aload_n 0, 1) := by decide +kernel
theorem dX9_run_113 : decode cX9_run 113 = .ok (.getfield 10, 3) := by decide +kernel
theorem dX9_run_116 : decode cX9_run 116 = .ok (.invokevirtual 86, 3) := by decide +kernel
theorem dX9_run_119 : decode cX9_run 119 = .ok (.aload_n 0, 1) := by decide +kernel
theorem dX9_run_120 : decode cX9_run 120 = .ok (.getfield 10, 3) := by decide +kernel
theorem dX9_run_123 : decode cX9_run 123 = .ok (.aload_n 0, 1) := by decide +kernel
theorem dX9_run_124 : decode cX9_run 124 = .ok (.getfield 16, 3) := by decide +kernel
theorem dX9_run_127 : decode cX9_run 127 = .ok (.invokevirtual 282, 3) := by decide +kernel
theorem dX9_run_130 : decode cX9_run 130 = .ok (.aload_n 0, 1) := by decide +kernel
theorem dX9_run_131 : decode cX9_run 131 = .ok (.getfield 50, 3) := by decide +kernel
theorem dX9_run_134 : decode cX9_run 134 = .ok (.getfield 285, 3) := by decide +kernel
theorem dX9_run_137 : decode cX9_run 137 = .ok (.ireturn, 1) := by decide +kernel
theorem dX9_errorPosition_0 : decode cX9_errorPosition 0 = .ok (.aload_n 0, 1) := by decide +kernel
theorem dX9_errorPosition_1 : decode cX9_errorPosition 1 = .ok (.getfield 65, 3) := by decide +kernel
theorem dX9_errorPosition_4 : decode cX9_errorPosition 4 = .ok (.iconst (-1), 1) := by decide +kernel
theorem dX9_errorPosition_5 : decode cX9_errorPosition 5 = .ok (.if_icmp .ne 14, 3) := by decide +kernel
theorem dX9_errorPosition_8 : decode cX9_errorPosition 8 = .ok (.new 170, 3) := by decide +kernel
theorem dX9_errorPosition_11 : decode cX9_errorPosition 11 = .ok (.dup, 1) := by decide +kernel
theorem dX9_errorPosition_12 : decode cX9_errorPosition 12 = .ok (.ldc_w 300, 3) := by decide +kernel
theorem dX9_errorPosition_15 : decode cX9_errorPosition 15 = .ok (.invokespecial 174, 3) := by decide +kernel
theorem dX9_errorPosition_18 : decode cX9_errorPosition 18 = .ok (.athrow, 1) := by decide +kernel
theorem dX9_errorPosition_19 : decode cX9_errorPosition 19 = .ok (.aload_n 0, 1) := by decide +kernel
theorem dX9_errorPosition_20 : decode cX9_errorPosition 20 = .ok (.getfield 65, 3) := by decide +kernel
theorem dX9_errorPosition_23 : decode cX9_errorPosition 23 = .ok (.ireturn, 1) := by decide +kernel
theorem dX9_failedCommand_0 : decode cX9_failedCommand 0 = .ok (.aload_n 0, 1) := by decide +kernel
theorem dX9_failedCommand_1 : decode cX9_failedCommand 1 = .ok (.getfield 69, 3) := by decide +kernel
theorem dX9_failedCommand_4 : decode cX9_failedCommand 4 = .ok (.iconst (-1), 1) := by decide +kernel
theorem dX9_failedCommand_5 : decode cX9_failedCommand 5 = .ok (.if_icmp .ne 14, 3) := by decide +kernel
theorem dX9_failedCommand_8 : decode cX9_failedCommand 8 = .ok (.new 170, 3) := by decide +kernel
theorem dX9_failedCommand_11 : decode cX9_failedCommand 11 = .ok (.dup, 1) := by decide +kernel
theorem dX9_failedCommand_12 : decode cX9_failedCommand 12 = .ok (.ldc_w 302, 3) := by decide +kernel
theorem dX9_failedCommand_15 : decode cX9_failedCommand 15 = .ok (.invokespecial 174, 3) := by decide +kernel
theorem dX9_failedCommand_18 : decode cX9_failedCommand 18 = .ok (.athrow, 1) := by decide +kernel
theorem dX9_failedCommand_19 : decode cX9_failedCommand 19 = .ok (.aload_n 0, 1) := by decide +kernel
theorem dX9_failedCommand_20 : decode cX9_failedCommand 20 = .ok (.getfield 69, 3) := by decide +kernel
theorem dX9_failedCommand_23 : decode cX9_failedCommand 23 = .ok (.ireturn, 1) := by decide +kernel
theorem dX9_describeChain_0 : decode cX9_describeChain 0 = .ok (.aload_n 0, 1) := by decide +kernel
theorem dX9_describeChain_1 : decode cX9_describeChain 1 = .ok (.getfield 57, 3) := by decide +kernel
theorem dX9_describeChain_4 : decode cX9_describeChain 4 = .ok (.invokevirtual 304, 3) := by decide +kernel
theorem dX9_describeChain_7 : decode cX9_describeChain 7 = .ok (.iconst 0, 1) := by decide +kernel
theorem dX9_describeChain_8 : decode cX9_describeChain 8 = .ok (.istore_n 1, 1) := by decide +kernel
theorem dX9_describeChain_9 : decode cX9_describeChain 9 = .ok (.iload_n 1, 1) := by decide +kernel
theorem dX9_describeChain_10 : decode cX9_describeChain 10 = .ok (.aload_n 0, 1) := by decide +kernel
theorem dX9_describeChain_11 : decode cX9_describeChain 11 = .ok (.getfield 10, 3) := by decide +kernel
theorem dX9_describeChain_14 : decode cX9_describeChain 14 = .ok (.getfield 72, 3) := by decide +kernel
theorem dX9_describeChain_17 : decode cX9_describeChain 17 = .ok (.getfield 90, 3) := by decide +kernel
theorem dX9_describeChain_20 : decode cX9_describeChain 20 = .ok (.if_icmp .ge 66, 3) := by decide +kernel
theorem dX9_describeChain_23 : decode cX9_describeChain 23 = .ok (.iload_n 1, 1) := by decide +kernel
theorem dX9_describeChain_24 : decode cX9_describeChain 24 = .ok (.ifCond .le 12, 3) := by decide +kernel
theorem dX9_describeChain_27 : decode cX9_describeChain 27 = .ok (.aload_n 0, 1) := by decide +kernel
theorem dX9_describeChain_28 : decode cX9_describeChain 28 = .ok (.getfield 57, 3) := by decide +kernel
theorem dX9_describeChain_31 : decode cX9_describeChain 31 = .ok (.bipush 62, 2) := by decide +kernel
theorem dX9_describeChain_33 : decode cX9_describeChain 33 = .ok (.invokevirtual 305, 3) := by decide +kernel
theorem dX9_describeChain_36 : decode cX9_describeChain 36 = .ok (.aload_n 0, 1) := by decide +kernel
theorem dX9_describeChain_37 : decode cX9_describeChain 37 = .ok (.getfield 10, 3) := by decide +kernel
theorem dX9_describeChain_40 : decode cX9_describeChain 40 = .ok (.getfield 72, 3) := by decide +kernel
theorem dX9_describeChain_43 : decode cX9_describeChain 43 = .ok (.iload_n 1, 1) := by decide +kernel
theorem dX9_describeChain_44 : decode cX9_describeChain 44 = .ok (.invokevirtual 116, 3) := by decide +kernel
theorem dX9_describeChain_47 : decode cX9_describeChain 47 = .ok (.istore_n 2, 1) := by decide +kernel
theorem dX9_describeChain_48 : decode cX9_describeChain 48 = .ok (.aload_n 0, 1) := by decide +kernel
theorem dX9_describeChain_49 : decode cX9_describeChain 49 = .ok (.getfield 57, 3) := by decide +kernel
theorem dX9_describeChain_52 : decode cX9_describeChain 52 = .ok (.iload_n 2, 1) := by decide +kernel
theorem dX9_describeChain_53 : decode cX9_describeChain 53 = .ok (.invokevirtual 305, 3) := by decide +kernel
theorem dX9_describeChain_56 : decode cX9_describeChain 56 = .ok (.iload_n 2, 1) := by decide +kernel
theorem dX9_describeChain_57 : decode cX9_describeChain 57 = .ok (.bipush 102, 2) := by decide +kernel
theorem dX9_describeChain_59 : decode cX9_describeChain 59 = .ok (.if_icmp .eq 21, 3) := by decide +kernel
theorem dX9_describeChain_62 : decode cX9_describeChain 62 = .ok (.aload_n 0, 1) := by decide +kernel
theorem dX9_describeChain_63 : decode cX9_describeChain 63 = .ok (.getfield 57, 3) := by decide +kernel
theorem dX9_describeChain_66 : decode cX9_describeChain 66 = .ok (.aload_n 0, 1) := by decide +kernel
theorem dX9_describeChain_67 : decode cX9_describeChain 67 = .ok (.getfield 10, 3) := by decide +kernel
theorem dX9_describeChain_70 : decode cX9_describeChain 70 = .ok (.getfield 72, 3) := by decide +kernel
theorem dX9_describeChain_73 : decode cX9_describeChain 73 = .ok (.iload_n 1, 1) := by decide +kernel
theorem dX9_describeChain_74 : decode cX9_describeChain 74 = .ok (.invokevirtual 119, 3) := by decide +kernel
theorem dX9_describeChain_77 : decode cX9_describeChain 77 = .ok (.invokevirtual 308, 3) := by decide +kernel
theorem dX9_describeChain_80 : decode cX9_describeChain 80 = .ok (.iinc 1 1, 3) := by decide +kernel
theorem dX9_describeChain_83 : decode cX9_describeChain 83 = .ok (.goto (-74), 3) := by decide +kernel
theorem dX9_describeChain_86 : decode cX9_describeChain 86 = .ok (.aload_n 0, 1) := by decide +kernel
theorem dX9_describeChain_87 : decode cX9_describeChain 87 = .ok (.getfield 57, 3) := by decide +kernel
theorem dX9_describeChain_90 : decode cX9_describeChain 90 = .ok (.getfield 311, 3) := by decide +kernel
theorem dX9_describeChain_93 : decode cX9_describeChain 93 = .ok (.ireturn, 1) := by decide +kernel
theorem dX9_describeTank_0 : decode cX9_describeTank 0 = .ok (.aload_n 0, 1) := by decide +kernel
theorem dX9_describeTank_1 : decode cX9_describeTank 1 = .ok (.getfield 10, 3) := by decide +kernel
theorem dX9_describeTank_4 : decode cX9_describeTank 4 = .ok (.getfield 193, 3) := by decide +kernel
theorem dX9_describeTank_7 : decode cX9_describeTank 7 = .ok (.iload_n 1, 1) := by decide +kernel
theorem dX9_describeTank_8 : decode cX9_describeTank 8 = .ok (.invokevirtual 219, 3) := by decide +kernel
theorem dX9_describeTank_11 : decode cX9_describeTank 11 = .ok (.invokestatic 82, 3) := by decide +kernel
theorem dX9_describeTank_14 : decode cX9_describeTank 14 = .ok (.aload_n 0, 1) := by decide +kernel
theorem dX9_describeTank_15 : decode cX9_describeTank 15 = .ok (.getfield 57, 3) := by decide +kernel
theorem dX9_describeTank_18 : decode cX9_describeTank 18 = .ok (.invokevirtual 304, 3) := by decide +kernel
theorem dX9_describeTank_21 : decode cX9_describeTank 21 = .ok (.aload_n 0, 1) := by decide +kernel
theorem dX9_describeTank_22 : decode cX9_describeTank 22 = .ok (.getfield 57, 3) := by decide +kernel
theorem dX9_describeTank_25 : decode cX9_describeTank 25 = .ok (.aload_n 0, 1) := by decide +kernel
theorem dX9_describeTank_26 : decode cX9_describeTank 26 = .ok (.getfield 10, 3) := by decide +kernel
theorem dX9_describeTank_29 : decode cX9_describeTank 29 = .ok (.getfield 193, 3) := by decide +kernel
theorem dX9_describeTank_32 : decode cX9_describeTank 32 = .ok (.iload_n 1, 1) := by decide +kernel
theorem dX9_describeTank_33 : decode cX9_describeTank 33 = .ok (.invokevirtual 228, 3) := by decide +kernel
theorem dX9_describeTank_36 : decode cX9_describeTank 36 = .ok (.invokevirtual 308, 3) := by decide +kernel
theorem dX9_describeTank_39 : decode cX9_describeTank 39 = .ok (.aload_n 0, 1) := by decide +kernel
theorem dX9_describeTank_40 : decode cX9_describeTank 40 = .ok (.getfield 57, 3) := by decide +kernel
theorem dX9_describeTank_43 : decode cX9_describeTank 43 = .ok (.bipush 47, 2) := by decide +kernel
theorem dX9_describeTank_45 : decode cX9_describeTank 45 = .ok (.invokevirtual 305, 3) := by decide +kernel
theorem dX9_describeTank_48 : decode cX9_describeTank 48 = .ok (.aload_n 0, 1) := by decide +kernel
theorem dX9_describeTank_49 : decode cX9_describeTank 49 = .ok (.getfield 57, 3) := by decide +kernel
theorem dX9_describeTank_52 : decode cX9_describeTank 52 = .ok (.aload_n 0, 1) := by decide +kernel
theorem dX9_describeTank_53 : decode cX9_describeTank 53 = .ok (.getfield 10, 3) := by decide +kernel
theorem dX9_describeTank_56 : decode cX9_describeTank 56 = .ok (.getfield 193, 3) := by decide +kernel
theorem dX9_describeTank_59 : decode cX9_describeTank 59 = .ok (.iload_n 1, 1) := by decide +kernel
theorem dX9_describeTank_60 : decode cX9_describeTank 60 = .ok (.invokevirtual 222, 3) := by decide +kernel
theorem dX9_describeTank_63 : decode cX9_describeTank 63 = .ok (.invokevirtual 308, 3) := by decide +kernel
theorem dX9_describeTank_66 : decode cX9_describeTank 66 = .ok (.aload_n 0, 1) := by decide +kernel
theorem dX9_describeTank_67 : decode cX9_describeTank 67 = .ok (.getfield 10, 3) := by decide +kernel
theorem dX9_describeTank_70 : decode cX9_describeTank 70 = .ok (.getfield 193, 3) := by decide +kernel
theorem dX9_describeTank_73 : decode cX9_describeTank 73 = .ok (.iload_n 1, 1) := by decide +kernel
theorem dX9_describeTank_74 : decode cX9_describeTank 74 = .ok (.invokevirtual 225, 3) := by decide +kernel
theorem dX9_describeTank_77 : decode cX9_describeTank 77 = .ok (.sipush 9999, 3) := by decide +kernel
theorem dX9_describeTank_80 : decode cX9_describeTank 80 = .ok (.if_icmp .eq 30, 3) := by decide +kernel
theorem dX9_describeTank_83 : decode cX9_describeTank 83 = .ok (.aload_n 0, 1) := by decide +kernel
theorem dX9_describeTank_84 : decode cX9_describeTank 84 = .ok (.getfield 57, 3) := by decide +kernel
theorem dX9_describeTank_87 : decode cX9_describeTank 87 = .ok (.bipush 64, 2) := by decide +kernel
theorem dX9_describeTank_89 : decode cX9_describeTank 89 = .ok (.invokevirtual 305, 3) := by decide +kernel
theorem dX9_describeTank_92 : decode cX9_describeTank 92 = .ok (.aload_n 0, 1) := by decide +kernel
theorem dX9_describeTank_93 : decode cX9_describeTank 93 = .ok (.getfield 57, 3) := by decide +kernel
theorem dX9_describeTank_96 : decode cX9_describeTank 96 = .ok (.aload_n 0, 1) := by decide +kernel
theorem dX9_describeTank_97 : decode cX9_describeTank 97 = .ok (.getfield 10, 3) := by decide +kernel
theorem dX9_describeTank_100 : decode cX9_describeTank 100 = .ok (.getfield 193, 3) := by decide +kernel
theorem dX9_describeTank_103 : decode cX9_describeTank 103 = .ok (.iload_n 1, 1) := by decide +kernel
theorem dX9_describeTank_104 : decode cX9_describeTank 104 = .ok (.invokevirtual 225, 3) := by decide +kernel
theorem dX9_describeTank_107 : decode cX9_describeTank 107 = .ok (.invokevirtual 308, 3) := by decide +kernel
theorem dX9_describeTank_110 : decode cX9_describeTank 110 = .ok (.iconst 0, 1) := by decide +kernel
theorem dX9_describeTank_111 : decode cX9_describeTank 111 = .ok (.istore_n 2, 1) := by decide +kernel
theorem dX9_describeTank_112 : decode cX9_describeTank 112 = .ok (.iload_n 2, 1) := by decide +kernel
theorem dX9_describeTank_113 : decode cX9_describeTank 113 = .ok (.aload_n 0, 1) := by decide +kernel
theorem dX9_describeTank_114 : decode cX9_describeTank 114 = .ok (.getfield 10, 3) := by decide +kernel
theorem dX9_describeTank_117 : decode cX9_describeTank 117 = .ok (.getfield 193, 3) := by decide +kernel
theorem dX9_describeTank_120 : decode cX9_describeTank 120 = .ok (.iload_n 1, 1) := by decide +kernel
theorem dX9_describeTank_121 : decode cX9_describeTank 121 = .ok (.invokevirtual 228, 3) := by decide +kernel
theorem dX9_describeTank_124 : decode cX9_describeTank 124 = .ok (.if_icmp .ge 37, 3) := by decide +kernel
theorem dX9_describeTank_127 : decode cX9_describeTank 127 = .ok (.aload_n 0, 1) := by decide +kernel
theorem dX9_describeTank_128 : decode cX9_describeTank 128 = .ok (.getfield 57, 3) := by decide +kernel
theorem dX9_describeTank_131 : decode cX9_describeTank 131 = .ok (.bipush 32, 2) := by decide +kernel
theorem dX9_describeTank_133 : decode cX9_describeTank 133 = .ok (.invokevirtual 305, 3) := by decide +kernel
theorem dX9_describeTank_136 : decode cX9_describeTank 136 = .ok (.aload_n 0, 1) := by decide +kernel
theorem dX9_describeTank_137 : decode cX9_describeTank 137 = .ok (.getfield 57, 3) := by decide +kernel
theorem dX9_describeTank_140 : decode cX9_describeTank 140 = .ok (.aload_n 0, 1) := by decide +kernel
theorem dX9_describeTank_141 : decode cX9_describeTank 141 = .ok (.getfield 10, 3) := by decide +kernel
theorem dX9_describeTank_144 : decode cX9_describeTank 144 = .ok (.getfield 193, 3) := by decide +kernel
theorem dX9_describeTank_147 : decode cX9_describeTank 147 = .ok (.iload_n 1, 1) := by decide +kernel
theorem dX9_describeTank_148 : decode cX9_describeTank 148 = .ok (.iload_n 2, 1) := by decide +kernel
theorem dX9_describeTank_149 : decode cX9_describeTank 149 = .ok (.invokevirtual 234, 3) := by decide +kernel
theorem dX9_describeTank_152 : decode cX9_describeTank 152 = .ok (.invokevirtual 308, 3) := by decide +kernel
theorem dX9_describeTank_155 : decode cX9_describeTank 155 = .ok (.iinc 2 1, 3) := by decide +kernel
theorem dX9_describeTank_158 : decode cX9_describeTank 158 = .ok (.goto (-46), 3) := by decide +kernel
theorem dX9_describeTank_161 : decode cX9_describeTank 161 = .ok (.aload_n 0, 1) := by decide +kernel
theorem dX9_describeTank_162 : decode cX9_describeTank 162 = .ok (.getfield 57, 3) := by decide +kernel
theorem dX9_describeTank_165 : decode cX9_describeTank 165 = .ok (.getfield 311, 3) := by decide +kernel
theorem dX9_describeTank_168 : decode cX9_describeTank 168 = .ok (.ireturn, 1) := by decide +kernel
theorem dX9_lineAt_0 : decode cX9_lineAt 0 = .ok (.iload_n 1, 1) := by decide +kernel
theorem dX9_lineAt_1 : decode cX9_lineAt 1 = .ok (.ifCond .lt 14, 3) := by decide +kernel
theorem dX9_lineAt_4 : decode cX9_lineAt 4 = .ok (.iload_n 1, 1) := by decide +kernel
theorem dX9_lineAt_5 : decode cX9_lineAt 5 = .ok (.aload_n 0, 1) := by decide +kernel
theorem dX9_lineAt_6 : decode cX9_lineAt 6 = .ok (.getfield 57, 3) := by decide +kernel
theorem dX9_lineAt_9 : decode cX9_lineAt 9 = .ok (.getfield 311, 3) := by decide +kernel
theorem dX9_lineAt_12 : decode cX9_lineAt 12 = .ok (.if_icmp .lt 14, 3) := by decide +kernel
theorem dX9_lineAt_15 : decode cX9_lineAt 15 = .ok (.new 314, 3) := by decide +kernel
theorem dX9_lineAt_18 : decode cX9_lineAt 18 = .ok (.dup, 1) := by decide +kernel
theorem dX9_lineAt_19 : decode cX9_lineAt 19 = .ok (.ldc_w 316, 3) := by decide +kernel
theorem dX9_lineAt_22 : decode cX9_lineAt 22 = .ok (.invokespecial 318, 3) := by decide +kernel
theorem dX9_lineAt_25 : decode cX9_lineAt 25 = .ok (.athrow, 1) := by decide +kernel
theorem dX9_lineAt_26 : decode cX9_lineAt 26 = .ok (.aload_n 0, 1) := by decide +kernel
theorem dX9_lineAt_27 : decode cX9_lineAt 27 = .ok (.getfield 57, 3) := by decide +kernel
theorem dX9_lineAt_30 : decode cX9_lineAt 30 = .ok (.iload_n 1, 1) := by decide +kernel
theorem dX9_lineAt_31 : decode cX9_lineAt 31 = .ok (.invokevirtual 319, 3) := by decide +kernel
theorem dX9_lineAt_34 : decode cX9_lineAt 34 = .ok (.i2c, 1) := by decide +kernel
theorem dX9_lineAt_35 : decode cX9_lineAt 35 = .ok (.ireturn, 1) := by decide +kernel
theorem dX9_meanLevel_0 : decode cX9_meanLevel 0 = .ok (.iload_n 1, 1) := by decide +kernel
theorem dX9_meanLevel_1 : decode cX9_meanLevel 1 = .ok (.invokestatic 141, 3) := by decide +kernel
theorem dX9_meanLevel_4 : decode cX9_meanLevel 4 = .ok (.invokestatic 82, 3) := by decide +kernel
theorem dX9_meanLevel_7 : decode cX9_meanLevel 7 = .ok (.aload_n 0, 1) := by decide +kernel
theorem dX9_meanLevel_8 : decode cX9_meanLevel 8 = .ok (.iload_n 1, 1) := by decide +kernel
theorem dX9_meanLevel_9 : decode cX9_meanLevel 9 = .ok (.invokevirtual 177, 3) := by decide +kernel
theorem dX9_meanLevel_12 : decode cX9_meanLevel 12 = .ok (.istore_n 2, 1) := by decide +kernel
theorem dX9_meanLevel_13 : decode cX9_meanLevel 13 = .ok (.iload_n 2, 1) := by decide +kernel
theorem dX9_meanLevel_14 : decode cX9_meanLevel 14 = .ok (.ifCond .ne 14, 3) := by decide +kernel
theorem dX9_meanLevel_17 : decode cX9_meanLevel 17 = .ok (.new 322, 3) := by decide +kernel
theorem dX9_meanLevel_20 : decode cX9_meanLevel 20 = .ok (.dup, 1) := by decide +kernel
theorem dX9_meanLevel_21 : decode cX9_meanLevel 21 = .ok (.ldc_w 324, 3) := by decide +kernel
theorem dX9_meanLevel_24 : decode cX9_meanLevel 24 = .ok (.invokespecial 326, 3) := by decide +kernel
theorem dX9_meanLevel_27 : decode cX9_meanLevel 27 = .ok (.athrow, 1) := by decide +kernel
theorem dX9_meanLevel_28 : decode cX9_meanLevel 28 = .ok (.lconst 0, 1) := by decide +kernel
theorem dX9_meanLevel_29 : decode cX9_meanLevel 29 = .ok (.lstore_n 3, 1) := by decide +kernel
theorem dX9_meanLevel_30 : decode cX9_meanLevel 30 = .ok (.iconst 0, 1) := by decide +kernel
theorem dX9_meanLevel_31 : decode cX9_meanLevel 31 = .ok (.istore 5, 2) := by decide +kernel
theorem dX9_meanLevel_33 : decode cX9_meanLevel 33 = .ok (.iload 5, 2) := by decide +kernel
theorem dX9_meanLevel_35 : decode cX9_meanLevel 35 = .ok (.iload_n 2, 1) := by decide +kernel
theorem dX9_meanLevel_36 : decode cX9_meanLevel 36 = .ok (.if_icmp .ge 25, 3) := by decide +kernel
theorem dX9_meanLevel_39 : decode cX9_meanLevel 39 = .ok (.lload_n 3, 1) := by decide +kernel
theorem dX9_meanLevel_40 : decode cX9_meanLevel 40 = .ok (.aload_n 0, 1) := by decide +kernel
theorem dX9_meanLevel_41 : decode cX9_meanLevel 41 = .ok (.getfield 32, 3) := by decide +kernel
theorem dX9_meanLevel_44 : decode cX9_meanLevel 44 = .ok (.iload 5, 2) := by decide +kernel
theorem dX9_meanLevel_46 : decode cX9_meanLevel 46 = .ok (.invokevirtual 180, 3) := by decide +kernel
theorem dX9_meanLevel_49 : decode cX9_meanLevel 49 = .ok (.invokestatic 111, 3) := by decide +kernel
theorem dX9_meanLevel_52 : decode cX9_meanLevel 52 = .ok (.i2l, 1) := by decide +kernel
theorem dX9_meanLevel_53 : decode cX9_meanLevel 53 = .ok (.ladd, 1) := by decide +kernel
theorem dX9_meanLevel_54 : decode cX9_meanLevel 54 = .ok (.lstore_n 3, 1) := by decide +kernel
theorem dX9_meanLevel_55 : decode cX9_meanLevel 55 = .ok (.iinc 5 1, 3) := by decide +kernel
theorem dX9_meanLevel_58 : decode cX9_meanLevel 58 = .ok (.goto (-25), 3) := by decide +kernel
theorem dX9_meanLevel_61 : decode cX9_meanLevel 61 = .ok (.lload_n 3, 1) := by decide +kernel
theorem dX9_meanLevel_62 : decode cX9_meanLevel 62 = .ok (.l2d, 1) := by decide +kernel
theorem dX9_meanLevel_63 : decode cX9_meanLevel 63 = .ok (.iload_n 2, 1) := by decide +kernel
theorem dX9_meanLevel_64 : decode cX9_meanLevel 64 = .ok (.i2d, 1) := by decide +kernel
theorem dX9_meanLevel_65 : decode cX9_meanLevel 65 = .ok (.ddiv, 1) := by decide +kernel
theorem dX9_meanLevel_66 : decode cX9_meanLevel 66 = .ok (.dreturn, 1) := by decide +kernel
theorem dX9_filledShare_0 : decode cX9_filledShare 0 = .ok (.aload_n 0, 1) := by decide +kernel
theorem dX9_filledShare_1 : decode cX9_filledShare 1 = .ok (.getfield 10, 3) := by decide +kernel
theorem dX9_filledShare_4 : decode cX9_filledShare 4 = .ok (.getfield 193, 3) := by decide +kernel
theorem dX9_filledShare_7 : decode cX9_filledShare 7 = .ok (.invokevirtual 327, 3) := by decide +kernel
theorem dX9_filledShare_10 : decode cX9_filledShare 10 = .ok (.istore_n 1, 1) := by decide +kernel
theorem dX9_filledShare_11 : decode cX9_filledShare 11 = .ok (.iload_n 1, 1) := by decide +kernel
theorem dX9_filledShare_12 : decode cX9_filledShare 12 = .ok (.ifCond .ne 14, 3) := by decide +kernel
theorem dX9_filledShare_15 : decode cX9_filledShare 15 = .ok (.new 322, 3) := by decide +kernel
theorem dX9_filledShare_18 : decode cX9_filledShare 18 = .ok (.dup, 1) := by decide +kernel
theorem dX9_filledShare_19 : decode cX9_filledShare 19 = .ok (.ldc_w 331, 3) := by decide +kernel
theorem dX9_filledShare_22 : decode cX9_filledShare 22 = .ok (.invokespecial 326, 3) := by decide +kernel
theorem dX9_filledShare_25 : decode cX9_filledShare 25 = .ok (.athrow, 1) := by decide +kernel
theorem dX9_filledShare_26 : decode cX9_filledShare 26 = .ok (.aload_n 0, 1) := by decide +kernel
theorem dX9_filledShare_27 : decode cX9_filledShare 27 = .ok (.getfield 10, 3) := by decide +kernel
theorem dX9_filledShare_30 : decode cX9_filledShare 30 = .ok (.getfield 193, 3) := by decide +kernel
theorem dX9_filledShare_33 : decode cX9_filledShare 33 = .ok (.invokevirtual 333, 3) := by decide +kernel
theorem dX9_filledShare_36 : decode cX9_filledShare 36 = .ok (.i2f, 1) := by decide +kernel
theorem dX9_filledShare_37 : decode cX9_filledShare 37 = .ok (.iload_n 1, 1) := by decide +kernel
theorem dX9_filledShare_38 : decode cX9_filledShare 38 = .ok (.i2f, 1) := by decide +kernel
theorem dX9_filledShare_39 : decode cX9_filledShare 39 = .ok (.fdiv, 1) := by decide +kernel
theorem dX9_filledShare_40 : decode cX9_filledShare 40 = .ok (.freturn, 1) := by decide +kernel
theorem dX9_isConsistent_0 : decode cX9_isConsistent 0 = .ok (.iconst 0, 1) := by decide +kernel
theorem dX9_isConsistent_1 : decode cX9_isConsistent 1 = .ok (.istore_n 1, 1) := by decide +kernel
theorem dX9_isConsistent_2 : decode cX9_isConsistent 2 = .ok (.iload_n 1, 1) := by decide +kernel
theorem dX9_isConsistent_3 : decode cX9_isConsistent 3 = .ok (.iconst 4, 1) := by decide +kernel
theorem dX9_isConsistent_4 : decode cX9_isConsistent 4 = .ok (.if_icmp .ge 32, 3) := by decide +kernel
theorem dX9_isConsistent_7 : decode cX9_isConsistent 7 = .ok (.aload_n 0, 1) := by decide +kernel
theorem dX9_isConsistent_8 : decode cX9_isConsistent 8 = .ok (.iload_n 1, 1) := by decide +kernel
theorem dX9_isConsistent_9 : decode cX9_isConsistent 9 = .ok (.invokevirtual 336, 3) := by decide +kernel
theorem dX9_isConsistent_12 : decode cX9_isConsistent 12 = .ok (.ifCond .eq 16, 3) := by decide +kernel
theorem dX9_isConsistent_15 : decode cX9_isConsistent 15 = .ok (.aload_n 0, 1) := by decide +kernel
theorem dX9_isConsistent_16 : decode cX9_isConsistent 16 = .ok (.iload_n 1, 1) := by decide +kernel
theorem dX9_isConsistent_17 : decode cX9_isConsistent 17 = .ok (.invokevirtual 240, 3) := by decide +kernel
theorem dX9_isConsistent_20 : decode cX9_isConsistent 20 = .ok (.aload_n 0, 1) := by decide +kernel
theorem dX9_isConsistent_21 : decode cX9_isConsistent 21 = .ok (.iload_n 1, 1) := by decide +kernel
theorem dX9_isConsistent_22 : decode cX9_isConsistent 22 = .ok (.invokevirtual 243, 3) := by decide +kernel
theorem dX9_isConsistent_25 : decode cX9_isConsistent 25 = .ok (.if_icmp .eq 5, 3) := by decide +kernel
theorem dX9_isConsistent_28 : decode cX9_isConsistent 28 = .ok (.iconst 0, 1) := by decide +kernel
theorem dX9_isConsistent_29 : decode cX9_isConsistent 29 = .ok (.ireturn, 1) := by decide +kernel
theorem dX9_isConsistent_30 : decode cX9_isConsistent 30 = .ok (.iinc 1 1, 3) := by decide +kernel
theorem dX9_isConsistent_33 : decode cX9_isConsistent 33 = .ok (.goto (-31), 3) := by decide +kernel
theorem dX9_isConsistent_36 : decode cX9_isConsistent 36 = .ok (.aload_n 0, 1) := by decide +kernel
theorem dX9_isConsistent_37 : decode cX9_isConsistent 37 = .ok (.getfield 10, 3) := by decide +kernel
theorem dX9_isConsistent_40 : decode cX9_isConsistent 40 = .ok (.getfield 193, 3) := by decide +kernel
theorem dX9_isConsistent_43 : decode cX9_isConsistent 43 = .ok (.getfield 251, 3) := by decide +kernel
theorem dX9_isConsistent_46 : decode cX9_isConsistent 46 = .ok (.aload_n 0, 1) := by decide +kernel
theorem dX9_isConsistent_47 : decode cX9_isConsistent 47 = .ok (.getfield 10, 3) := by decide +kernel
theorem dX9_isConsistent_50 : decode cX9_isConsistent 50 = .ok (.getfield 193, 3) := by decide +kernel
theorem dX9_isConsistent_53 : decode cX9_isConsistent 53 = .ok (.getfield 257, 3) := by decide +kernel
theorem dX9_isConsistent_56 : decode cX9_isConsistent 56 = .ok (.aload_n 0, 1) := by decide +kernel
theorem dX9_isConsistent_57 : decode cX9_isConsistent 57 = .ok (.getfield 10, 3) := by decide +kernel
theorem dX9_isConsistent_60 : decode cX9_isConsistent 60 = .ok (.getfield 193, 3) := by decide +kernel
theorem dX9_isConsistent_63 : decode cX9_isConsistent 63 = .ok (.invokevirtual 333, 3) := by decide +kernel
theorem dX9_isConsistent_66 : decode cX9_isConsistent 66 = .ok (.iadd, 1) := by decide +kernel
theorem dX9_isConsistent_67 : decode cX9_isConsistent 67 = .ok (.if_icmp .ne 7, 3) := by decide +kernel
theorem dX9_isConsistent_70 : decode cX9_isConsistent 70 = .ok (.iconst 1, 1) := by decide +kernel
theorem dX9_isConsistent_71 : decode cX9_isConsistent 71 = .ok (.goto 4, 3) := by decide +kernel
theorem dX9_isConsistent_74 : decode cX9_isConsistent 74 = .ok (.iconst 0, 1) := by decide +kernel
theorem dX9_isConsistent_75 : decode cX9_isConsistent 75 = .ok (.ireturn, 1) := by decide +kernel
theorem dX9_undo_0 : decode cX9_undo 0 = .ok (.aload_n 0, 1) := by decide +kernel
theorem dX9_undo_1 : decode cX9_undo 1 = .ok (.getfield 25, 3) := by decide +kernel
theorem dX9_undo_4 : decode cX9_undo 4 = .ok (.getfield 340, 3) := by decide +kernel
theorem dX9_undo_7 : decode cX9_undo 7 = .ok (.ifCond .ne 14, 3) := by decide +kernel
theorem dX9_undo_10 : decode cX9_undo 10 = .ok (.new 292, 3) := by decide +kernel
theorem dX9_undo_13 : decode cX9_undo 13 = .ok (.dup, 1) := by decide +kernel
theorem dX9_undo_14 : decode cX9_undo 14 = .ok (.ldc_w 341, 3) := by decide +kernel
theorem dX9_undo_17 : decode cX9_undo 17 = .ok (.invokespecial 296, 3) := by decide +kernel
theorem dX9_undo_20 : decode cX9_undo 20 = .ok (.athrow, 1) := by decide +kernel
theorem dX9_undo_21 : decode cX9_undo 21 = .ok (.aload_n 0, 1) := by decide +kernel
theorem dX9_undo_22 : decode cX9_undo 22 = .ok (.getfield 25, 3) := by decide +kernel
theorem dX9_undo_25 : decode cX9_undo 25 = .ok (.aload_n 0, 1) := by decide +kernel
theorem dX9_undo_26 : decode cX9_undo 26 = .ok (.getfield 10, 3) := by decide +kernel
theorem dX9_undo_29 : decode cX9_undo 29 = .ok (.invokevirtual 343, 3) := by decide +kernel
theorem dX9_undo_32 : decode cX9_undo 32 = .ok (.aload_n 0, 1) := by decide +kernel
theorem dX9_undo_33 : decode cX9_undo 33 = .ok (.getfield 25, 3) := by decide +kernel
theorem dX9_undo_36 : decode cX9_undo 36 = .ok (.getfield 340, 3) := by decide +kernel
theorem dX9_undo_39 : decode cX9_undo 39 = .ok (.ireturn, 1) := by decide +kernel
theorem dX9_save_0 : decode cX9_save 0 = .ok (.aload_n 0, 1) := by decide +kernel
theorem dX9_save_1 : decode cX9_save 1 = .ok (.getfield 19, 3) := by decide +kernel
theorem dX9_save_4 : decode cX9_save 4 = .ok (.aload_n 0, 1) := by decide +kernel
theorem dX9_save_5 : decode cX9_save 5 = .ok (.getfield 10, 3) := by decide +kernel
theorem dX9_save_8 : decode cX9_save 8 = .ok (.invokevirtual 282, 3) := by decide +kernel
theorem dX9_save_11 : decode cX9_save 11 = .ok (.aload_n 0, 1) := by decide +kernel
theorem dX9_save_12 : decode cX9_save 12 = .ok (.iconst 1, 1) := by decide +kernel
theorem dX9_save_13 : decode cX9_save 13 = .ok (.putfield 61, 3) := by decide +kernel
theorem dX9_save_16 : decode cX9_save 16 = .ok (.aload_n 0, 1) := by decide +kernel
theorem dX9_save_17 : decode cX9_save 17 = .ok (.getfield 10, 3) := by decide +kernel
theorem dX9_save_20 : decode cX9_save 20 = .ok (.getfield 72, 3) := by decide +kernel
theorem dX9_save_23 : decode cX9_save 23 = .ok (.getfield 90, 3) := by decide +kernel
theorem dX9_save_26 : decode cX9_save 26 = .ok (.ireturn, 1) := by decide +kernel
theorem dX9_restore_0 : decode cX9_restore 0 = .ok (.aload_n 0, 1) := by decide +kernel
theorem dX9_restore_1 : decode cX9_restore 1 = .ok (.getfield 61, 3) := by decide +kernel
theorem dX9_restore_4 : decode cX9_restore 4 = .ok (.ifCond .ne 14, 3) := by decide +kernel
theorem dX9_restore_7 : decode cX9_restore 7 = .ok (.new 292, 3) := by decide +kernel
theorem dX9_restore_10 : decode cX9_restore 10 = .ok (.dup, 1) := by decide +kernel
theorem dX9_restore_11 : decode cX9_restore 11 = .ok (.ldc_w 346, 3) := by decide +kernel
theorem dX9_restore_14 : decode cX9_restore 14 = .ok (.invokespecial 296, 3) := by decide +kernel
theorem dX9_restore_17 : decode cX9_restore 17 = .ok (.athrow, 1) := by decide +kernel
theorem dX9_restore_18 : decode cX9_restore 18 = .ok (.aload_n 0, 1) := by decide +kernel
theorem dX9_restore_19 : decode cX9_restore 19 = .ok (.getfield 10, 3) := by decide +kernel
theorem dX9_restore_22 : decode cX9_restore 22 = .ok (.aload_n 0, 1) := by decide +kernel
theorem dX9_restore_23 : decode cX9_restore 23 = .ok (.getfield 19, 3) := by decide +kernel
theorem dX9_restore_26 : decode cX9_restore 26 = .ok (.invokevirtual 282, 3) := by decide +kernel
theorem dX9_restore_29 : decode cX9_restore 29 = .ok (.aload_n 0, 1) := by decide +kernel
theorem dX9_restore_30 : decode cX9_restore 30 = .ok (.getfield 25, 3) := by decide +kernel
theorem dX9_restore_33 : decode cX9_restore 33 = .ok (.invokevirtual 348, 3) := by decide +kernel
theorem dX9_restore_36 : decode cX9_restore 36 = .ok (.aload_n 0, 1) := by decide +kernel
theorem dX9_restore_37 : decode cX9_restore 37 = .ok (.getfield 10, 3) := by decide +kernel
theorem dX9_restore_40 : decode cX9_restore 40 = .ok (.getfield 72, 3) := by decide +kernel
theorem dX9_restore_43 : decode cX9_restore 43 = .ok (.getfield 90, 3) := by decide +kernel
theorem dX9_restore_46 : decode cX9_restore 46 = .ok (.ireturn, 1) := by decide +kernel
theorem dX9_throwFault_0 : decode cX9_throwFault 0 = .ok (.iload_n 0, 1) := by decide +kernel
theorem dX9_throwFault_1 : decode cX9_throwFault 1 = .ok (.tableswitch 75 1 4 #[31, 42, 53, 64], 31) := by decide +kernel
theorem dX9_throwFault_32 : decode cX9_throwFault 32 = .ok (.new 314, 3) := by decide +kernel
theorem dX9_throwFault_35 : decode cX9_throwFault 35 = .ok (.dup, 1) := by decide +kernel
theorem dX9_throwFault_36 : decode cX9_throwFault 36 = .ok (.ldc_w 349, 3) := by decide +kernel
theorem dX9_throwFault_39 : decode cX9_throwFault 39 = .ok (.invokespecial 318, 3) := by decide +kernel
theorem dX9_throwFault_42 : decode cX9_throwFault 42 = .ok (.athrow, 1) := by decide +kernel
theorem dX9_throwFault_43 : decode cX9_throwFault 43 = .ok (.new 277, 3) := by decide +kernel
theorem dX9_throwFault_46 : decode cX9_throwFault 46 = .ok (.dup, 1) := by decide +kernel
theorem dX9_throwFault_47 : decode cX9_throwFault 47 = .ok (.ldc_w 351, 3) := by decide +kernel
theorem dX9_throwFault_50 : decode cX9_throwFault 50 = .ok (.invokespecial 281, 3) := by decide +kernel
theorem dX9_throwFault_53 : decode cX9_throwFault 53 = .ok (.athrow, 1) := by decide +kernel
theorem dX9_throwFault_54 : decode cX9_throwFault 54 = .ok (.new 292, 3) := by decide +kernel
theorem dX9_throwFault_57 : decode cX9_throwFault 57 = .ok (.dup, 1) := by decide +kernel
theorem dX9_throwFault_58 : decode cX9_throwFault 58 = .ok (.ldc_w 353, 3) := by decide +kernel
theorem dX9_throwFault_61 : decode cX9_throwFault 61 = .ok (.invokespecial 296, 3) := by decide +kernel
theorem dX9_throwFault_64 : decode cX9_throwFault 64 = .ok (.athrow, 1) := by decide +kernel
theorem dX9_throwFault_65 : decode cX9_throwFault 65 = .ok (.new 170, 3) := by decide +kernel
theorem dX9_throwFault_68 : decode cX9_throwFault 68 = .ok (.dup, 1) := by decide +kernel
theorem dX9_throwFault_69 : decode cX9_throwFault 69 = .ok (.ldc_w 355, 3) := by decide +kernel
theorem dX9_throwFault_72 : decode cX9_throwFault 72 = .ok (.invokespecial 174, 3) := by decide +kernel
theorem dX9_throwFault_75 : decode cX9_throwFault 75 = .ok (.athrow, 1) := by decide +kernel
theorem dX9_throwFault_76 : decode cX9_throwFault 76 = .ok (.return_, 1) := by decide +kernel
theorem dX9_read_0 : decode cX9_read 0 = .ok (.iload_n 1, 1) := by decide +kernel
theorem dX9_read_1 : decode cX9_read 1 = .ok (.ifCond .lt 15, 3) := by decide +kernel
theorem dX9_read_4 : decode cX9_read 4 = .ok (.iload_n 1, 1) := by decide +kernel
theorem dX9_read_5 : decode cX9_read 5 = .ok (.aload_n 0, 1) := by decide +kernel
theorem dX9_read_6 : decode cX9_read 6 = .ok (.arraylength, 1) := by decide +kernel
theorem dX9_read_7 : decode cX9_read 7 = .ok (.if_icmp .ge 9, 3) := by decide +kernel
theorem dX9_read_10 : decode cX9_read 10 = .ok (.aload_n 0, 1) := by decide +kernel
theorem dX9_read_11 : decode cX9_read 11 = .ok (.iload_n 1, 1) := by decide +kernel
theorem dX9_read_12 : decode cX9_read 12 = .ok (.iaload, 1) := by decide +kernel
theorem dX9_read_13 : decode cX9_read 13 = .ok (.goto 4, 3) := by decide +kernel
theorem dX9_read_16 : decode cX9_read 16 = .ok (.iconst 0, 1) := by decide +kernel
theorem dX9_read_17 : decode cX9_read 17 = .ok (.ireturn, 1) := by decide +kernel
theorem dX9_write_0 : decode cX9_write 0 = .ok (.iload_n 1, 1) := by decide +kernel
theorem dX9_write_1 : decode cX9_write 1 = .ok (.ifCond .lt 13, 3) := by decide +kernel
theorem dX9_write_4 : decode cX9_write 4 = .ok (.iload_n 1, 1) := by decide +kernel
theorem dX9_write_5 : decode cX9_write 5 = .ok (.aload_n 0, 1) := by decide +kernel
theorem dX9_write_6 : decode cX9_write 6 = .ok (.arraylength, 1) := by decide +kernel
theorem dX9_write_7 : decode cX9_write 7 = .ok (.if_icmp .ge 7, 3) := by decide +kernel
theorem dX9_write_10 : decode cX9_write 10 = .ok (.aload_n 0, 1) := by decide +kernel
theorem dX9_write_11 : decode cX9_write 11 = .ok (.iload_n 1, 1) := by decide +kernel
theorem dX9_write_12 : decode cX9_write 12 = .ok (.iload_n 2, 1) := by decide +kernel
theorem dX9_write_13 : decode cX9_write 13 = .ok (.iastore, 1) := by decide +kernel
theorem dX9_write_14 : decode cX9_write 14 = .ok (.return_, 1) := by decide +kernel
theorem dX9_copyRow_0 : decode cX9_copyRow 0 = .ok (.aload_n 0, 1) := by decide +kernel
theorem dX9_copyRow_1 : decode cX9_copyRow 1 = .ok (.arraylength, 1) := by decide +kernel
theorem dX9_copyRow_2 : decode cX9_copyRow 2 = .ok (.aload_n 1, 1) := by decide +kernel
theorem dX9_copyRow_3 : decode cX9_copyRow 3 = .ok (.arraylength, 1) := by decide +kernel
theorem dX9_copyRow_4 : decode cX9_copyRow 4 = .ok (.if_icmp .gt 12, 3) := by decide +kernel
theorem dX9_copyRow_7 : decode cX9_copyRow 7 = .ok (.aload_n 0, 1) := by decide +kernel
theorem dX9_copyRow_8 : decode cX9_copyRow 8 = .ok (.iconst 0, 1) := by decide +kernel
theorem dX9_copyRow_9 : decode cX9_copyRow 9 = .ok (.aload_n 1, 1) := by decide +kernel
theorem dX9_copyRow_10 : decode cX9_copyRow 10 = .ok (.iconst 0, 1) := by decide +kernel
theorem dX9_copyRow_11 : decode cX9_copyRow 11 = .ok (.aload_n 0, 1) := by decide +kernel
theorem dX9_copyRow_12 : decode cX9_copyRow 12 = .ok (.arraylength, 1) := by decide +kernel
theorem dX9_copyRow_13 : decode cX9_copyRow 13 = .ok (.invokestatic 357, 3) := by decide +kernel
theorem dX9_copyRow_16 : decode cX9_copyRow 16 = .ok (.return_, 1) := by decide +kernel
theorem dX9_isWithin_0 : decode cX9_isWithin 0 = .ok (.iload_n 0, 1) := by decide +kernel
theorem dX9_isWithin_1 : decode cX9_isWithin 1 = .ok (.iload_n 1, 1) := by decide +kernel
theorem dX9_isWithin_2 : decode cX9_isWithin 2 = .ok (.if_icmp .lt 12, 3) := by decide +kernel
theorem dX9_isWithin_5 : decode cX9_isWithin 5 = .ok (.iload_n 0, 1) := by decide +kernel
theorem dX9_isWithin_6 : decode cX9_isWithin 6 = .ok (.iload_n 2, 1) := by decide +kernel
theorem dX9_isWithin_7 : decode cX9_isWithin 7 = .ok (.if_icmp .gt 7, 3) := by decide +kernel
theorem dX9_isWithin_10 : decode cX9_isWithin 10 = .ok (.iconst 1, 1) := by decide +kernel
theorem dX9_isWithin_11 : decode cX9_isWithin 11 = .ok (.goto 4, 3) := by decide +kernel
theorem dX9_isWithin_14 : decode cX9_isWithin 14 = .ok (.iconst 0, 1) := by decide +kernel
theorem dX9_isWithin_15 : decode cX9_isWithin 15 = .ok (.ireturn, 1) := by decide +kernel
theorem dX9_sendSong_0 : decode cX9_sendSong 0 = .ok (.aload_n 0, 1) := by decide +kernel
theorem dX9_sendSong_1 : decode cX9_sendSong 1 = .ok (.getfield 10, 3) := by decide +kernel
theorem dX9_sendSong_4 : decode cX9_sendSong 4 = .ok (.getfield 122, 3) := by decide +kernel
theorem dX9_sendSong_7 : decode cX9_sendSong 7 = .ok (.iload_n 1, 1) := by decide +kernel
theorem dX9_sendSong_8 : decode cX9_sendSong 8 = .ok (.invokevirtual 147, 3) := by decide +kernel
theorem dX9_sendSong_11 : decode cX9_sendSong 11 = .ok (.istore_n 2, 1) := by decide +kernel
theorem dX9_sendSong_12 : decode cX9_sendSong 12 = .ok (.aload_n 0, 1) := by decide +kernel
theorem dX9_sendSong_13 : decode cX9_sendSong 13 = .ok (.getfield 32, 3) := by decide +kernel
theorem dX9_sendSong_16 : decode cX9_sendSong 16 = .ok (.aload_n 0, 1) := by decide +kernel
theorem dX9_sendSong_17 : decode cX9_sendSong 17 = .ok (.getfield 10, 3) := by decide +kernel
theorem dX9_sendSong_20 : decode cX9_sendSong 20 = .ok (.iload_n 1, 1) := by decide +kernel
theorem dX9_sendSong_21 : decode cX9_sendSong 21 = .ok (.iload_n 2, 1) := by decide +kernel
theorem dX9_sendSong_22 : decode cX9_sendSong 22 = .ok (.invokevirtual 363, 3) := by decide +kernel
theorem dX9_sendSong_25 : decode cX9_sendSong 25 = .ok (.iload_n 2, 1) := by decide +kernel
theorem dX9_sendSong_26 : decode cX9_sendSong 26 = .ok (.ireturn, 1) := by decide +kernel
theorem dX9_filteredOrZero_0 : decode cX9_filteredOrZero 0 = .ok (.aload_n 0, 1) := by decide +kernel
theorem dX9_filteredOrZero_1 : decode cX9_filteredOrZero 1 = .ok (.getfield 10, 3) := by decide +kernel
theorem dX9_filteredOrZero_4 : decode cX9_filteredOrZero 4 = .ok (.getfield 122, 3) := by decide +kernel
theorem dX9_filteredOrZero_7 : decode cX9_filteredOrZero 7 = .ok (.iload_n 1, 1) := by decide +kernel
theorem dX9_filteredOrZero_8 : decode cX9_filteredOrZero 8 = .ok (.iload_n 2, 1) := by decide +kernel
theorem dX9_filteredOrZero_9 : decode cX9_filteredOrZero 9 = .ok (.invokevirtual 166, 3) := by decide +kernel
theorem dX9_filteredOrZero_12 : decode cX9_filteredOrZero 12 = .ok (.ifCond .ne 5, 3) := by decide +kernel
theorem dX9_filteredOrZero_15 : decode cX9_filteredOrZero 15 = .ok (.iconst 0, 1) := by decide +kernel
theorem dX9_filteredOrZero_16 : decode cX9_filteredOrZero 16 = .ok (.ireturn, 1) := by decide +kernel
theorem dX9_filteredOrZero_17 : decode cX9_filteredOrZero 17 = .ok (.aload_n 0, 1) := by decide +kernel
theorem dX9_filteredOrZero_18 : decode cX9_filteredOrZero 18 = .ok (.getfield 32, 3) := by decide +kernel
theorem dX9_filteredOrZero_21 : decode cX9_filteredOrZero 21 = .ok (.aload_n 0, 1) := by decide +kernel
theorem dX9_filteredOrZero_22 : decode cX9_filteredOrZero 22 = .ok (.getfield 10, 3) := by decide +kernel
theorem dX9_filteredOrZero_25 : decode cX9_filteredOrZero 25 = .ok (.iload_n 1, 1) := by decide +kernel
theorem dX9_filteredOrZero_26 : decode cX9_filteredOrZero 26 = .ok (.iload_n 2, 1) := by decide +kernel
theorem dX9_filteredOrZero_27 : decode cX9_filteredOrZero 27 = .ok (.iconst 1, 1) := by decide +kernel
theorem dX9_filteredOrZero_28 : decode cX9_filteredOrZero 28 = .ok (.iadd, 1) := by decide +kernel
theorem dX9_filteredOrZero_29 : decode cX9_filteredOrZero 29 = .ok (.invokevirtual 363, 3) := by decide +kernel
theorem dX9_filteredOrZero_32 : decode cX9_filteredOrZero 32 = .ok (.aload_n 0, 1) := by decide +kernel
theorem dX9_filteredOrZero_33 : decode cX9_filteredOrZero 33 = .ok (.getfield 32, 3) := by decide +kernel
theorem dX9_filteredOrZero_36 : decode cX9_filteredOrZero 36 = .ok (.iload_n 2, 1) := by decide +kernel
theorem dX9_filteredOrZero_37 : decode cX9_filteredOrZero 37 = .ok (.invokevirtual 180, 3) := by decide +kernel
theorem dX9_filteredOrZero_40 : decode cX9_filteredOrZero 40 = .ok (.ireturn, 1) := by decide +kernel
theorem dX9_signOf_0 : decode cX9_signOf 0 = .ok (.iload_n 0, 1) := by decide +kernel
theorem dX9_signOf_1 : decode cX9_signOf 1 = .ok (.ifCond .ne 5, 3) := by decide +kernel
theorem dX9_signOf_4 : decode cX9_signOf 4 = .ok (.iconst 0, 1) := by decide +kernel
theorem dX9_signOf_5 : decode cX9_signOf 5 = .ok (.ireturn, 1) := by decide +kernel
theorem dX9_signOf_6 : decode cX9_signOf 6 = .ok (.iload_n 0, 1) := by decide +kernel
theorem dX9_signOf_7 : decode cX9_signOf 7 = .ok (.ifCond .le 7, 3) := by decide +kernel
theorem dX9_signOf_10 : decode cX9_signOf 10 = .ok (.iconst 1, 1) := by decide +kernel
theorem dX9_signOf_11 : decode cX9_signOf 11 = .ok (.goto 4, 3) := by decide +kernel
theorem dX9_signOf_14 : decode cX9_signOf 14 = .ok (.iconst (-1), 1) := by decide +kernel
theorem dX9_signOf_15 : decode cX9_signOf 15 = .ok (.ireturn, 1) := by decide +kernel
theorem dX9_sumOfSquares_0 : decode cX9_sumOfSquares 0 = .ok (.aload_n 0, 1) := by decide +kernel
theorem dX9_sumOfSquares_1 : decode cX9_sumOfSquares 1 = .ok (.iload_n 1, 1) := by decide +kernel
theorem dX9_sumOfSquares_2 : decode cX9_sumOfSquares 2 = .ok (.invokevirtual 177, 3) := by decide +kernel
theorem dX9_sumOfSquares_5 : decode cX9_sumOfSquares 5 = .ok (.istore_n 2, 1) := by decide +kernel
theorem dX9_sumOfSquares_6 : decode cX9_sumOfSquares 6 = .ok (.lconst 0, 1) := by decide +kernel
theorem dX9_sumOfSquares_7 : decode cX9_sumOfSquares 7 = .ok (.lstore_n 3, 1) := by decide +kernel
theorem dX9_sumOfSquares_8 : decode cX9_sumOfSquares 8 = .ok (.iconst 0, 1) := by decide +kernel
theorem dX9_sumOfSquares_9 : decode cX9_sumOfSquares 9 = .ok (.istore 5, 2) := by decide +kernel
theorem dX9_sumOfSquares_11 : decode cX9_sumOfSquares 11 = .ok (.iload 5, 2) := by decide +kernel
theorem dX9_sumOfSquares_13 : decode cX9_sumOfSquares 13 = .ok (.iload_n 2, 1) := by decide +kernel
theorem dX9_sumOfSquares_14 : decode cX9_sumOfSquares 14 = .ok (.if_icmp .ge 29, 3) := by decide +kernel
theorem dX9_sumOfSquares_17 : decode cX9_sumOfSquares 17 = .ok (.aload_n 0, 1) := by decide +kernel
theorem dX9_sumOfSquares_18 : decode cX9_sumOfSquares 18 = .ok (.getfield 32, 3) := by decide +kernel
theorem dX9_sumOfSquares_21 : decode cX9_sumOfSquares 21 = .ok (.iload 5, 2) := by decide +kernel
theorem dX9_sumOfSquares_23 : decode cX9_sumOfSquares 23 = .ok (.invokevirtual 180, 3) := by decide +kernel
theorem dX9_sumOfSquares_26 : decode cX9_sumOfSquares 26 = .ok (.i2l, 1) := by decide +kernel
theorem dX9_sumOfSquares_27 : decode cX9_sumOfSquares 27 = .ok (.lstore 6, 2) := by decide +kernel
theorem dX9_sumOfSquares_29 : decode cX9_sumOfSquares 29 = .ok (.lload_n 3, 1) := by decide +kernel
theorem dX9_sumOfSquares_30 : decode cX9_sumOfSquares 30 = .ok (.lload 6, 2) := by decide +kernel
theorem dX9_sumOfSquares_32 : decode cX9_sumOfSquares 32 = .ok (.lload 6, 2) := by decide +kernel
theorem dX9_sumOfSquares_34 : decode cX9_sumOfSquares 34 = .ok (.lmul, 1) := by decide +kernel
theorem dX9_sumOfSquares_35 : decode cX9_sumOfSquares 35 = .ok (.ladd, 1) := by decide +kernel
theorem dX9_sumOfSquares_36 : decode cX9_sumOfSquares 36 = .ok (.lstore_n 3, 1) := by decide +kernel
theorem dX9_sumOfSquares_37 : decode cX9_sumOfSquares 37 = .ok (.iinc 5 1, 3) := by decide +kernel
theorem dX9_sumOfSquares_40 : decode cX9_sumOfSquares 40 = .ok (.goto (-29), 3) := by decide +kernel
theorem dX9_sumOfSquares_43 : decode cX9_sumOfSquares 43 = .ok (.lload_n 3, 1) := by decide +kernel
theorem dX9_sumOfSquares_44 : decode cX9_sumOfSquares 44 = .ok (.lreturn, 1) := by decide +kernel
theorem dX9_bothWaysAgree_0 : decode cX9_bothWaysAgree 0 = .ok (.aload_n 0, 1) := by decide +kernel
theorem dX9_bothWaysAgree_1 : decode cX9_bothWaysAgree 1 = .ok (.iload_n 1, 1) := by decide +kernel
theorem dX9_bothWaysAgree_2 : decode cX9_bothWaysAgree 2 = .ok (.invokevirtual 177, 3) := by decide +kernel
theorem dX9_bothWaysAgree_5 : decode cX9_bothWaysAgree 5 = .ok (.istore_n 2, 1) := by decide +kernel
theorem dX9_bothWaysAgree_6 : decode cX9_bothWaysAgree 6 = .ok (.aload_n 0, 1) := by decide +kernel
theorem dX9_bothWaysAgree_7 : decode cX9_bothWaysAgree 7 = .ok (.getfield 32, 3) := by decide +kernel
theorem dX9_bothWaysAgree_10 : decode cX9_bothWaysAgree 10 = .ok (.aload_n 0, 1) := by decide +kernel
theorem dX9_bothWaysAgree_11 : decode cX9_bothWaysAgree 11 = .ok (.getfield 10, 3) := by decide +kernel
theorem dX9_bothWaysAgree_14 : decode cX9_bothWaysAgree 14 = .ok (.iload_n 1, 1) := by decide +kernel
theorem dX9_bothWaysAgree_15 : decode cX9_bothWaysAgree 15 = .ok (.invokevirtual 159, 3) := by decide +kernel
theorem dX9_bothWaysAgree_18 : decode cX9_bothWaysAgree 18 = .ok (.iconst 0, 1) := by decide +kernel
theorem dX9_bothWaysAgree_19 : decode cX9_bothWaysAgree 19 = .ok (.istore_n 3, 1) := by decide +kernel
theorem dX9_bothWaysAgree_20 : decode cX9_bothWaysAgree 20 = .ok (.iload_n 3, 1) := by decide +kernel
theorem dX9_bothWaysAgree_21 : decode cX9_bothWaysAgree 21 = .ok (.iload_n 2, 1) := by decide +kernel
theorem dX9_bothWaysAgree_22 : decode cX9_bothWaysAgree 22 = .ok (.if_icmp .ge 30, 3) := by decide +kernel
theorem dX9_bothWaysAgree_25 : decode cX9_bothWaysAgree 25 = .ok (.aload_n 0, 1) := by decide +kernel
theorem dX9_bothWaysAgree_26 : decode cX9_bothWaysAgree 26 = .ok (.getfield 32, 3) := by decide +kernel
theorem dX9_bothWaysAgree_29 : decode cX9_bothWaysAgree 29 = .ok (.iload_n 3, 1) := by decide +kernel
theorem dX9_bothWaysAgree_30 : decode cX9_bothWaysAgree 30 = .ok (.invokevirtual 180, 3) := by decide +kernel
theorem dX9_bothWaysAgree_33 : decode cX9_bothWaysAgree 33 = .ok (.aload_n 0, 1) := by decide +kernel
theorem dX9_bothWaysAgree_34 : decode cX9_bothWaysAgree 34 = .ok (.getfield 32, 3) := by decide +kernel
theorem dX9_bothWaysAgree_37 : decode cX9_bothWaysAgree 37 = .ok (.iload_n 3, 1) := by decide +kernel
theorem dX9_bothWaysAgree_38 : decode cX9_bothWaysAgree 38 = .ok (.invokevirtual 163, 3) := by decide +kernel
theorem dX9_bothWaysAgree_41 : decode cX9_bothWaysAgree 41 = .ok (.if_icmp .eq 5, 3) := by decide +kernel
theorem dX9_bothWaysAgree_44 : decode cX9_bothWaysAgree 44 = .ok (.iconst 0, 1) := by decide +kernel
theorem dX9_bothWaysAgree_45 : decode cX9_bothWaysAgree 45 = .ok (.ireturn, 1) := by decide +kernel
theorem dX9_bothWaysAgree_46 : decode cX9_bothWaysAgree 46 = .ok (.iinc 3 1, 3) := by decide +kernel
theorem dX9_bothWaysAgree_49 : decode cX9_bothWaysAgree 49 = .ok (.goto (-29), 3) := by decide +kernel
theorem dX9_bothWaysAgree_52 : decode cX9_bothWaysAgree 52 = .ok (.iconst 1, 1) := by decide +kernel
theorem dX9_bothWaysAgree_53 : decode cX9_bothWaysAgree 53 = .ok (.ireturn, 1) := by decide +kernel
theorem dX9_pourSong_0 : decode cX9_pourSong 0 = .ok (.aload_n 1, 1) := by decide +kernel
theorem dX9_pourSong_1 : decode cX9_pourSong 1 = .ok (.getfield 122, 3) := by decide +kernel
theorem dX9_pourSong_4 : decode cX9_pourSong 4 = .ok (.iload_n 3, 1) := by decide +kernel
theorem dX9_pourSong_5 : decode cX9_pourSong 5 = .ok (.invokevirtual 147, 3) := by decide +kernel
theorem dX9_pourSong_8 : decode cX9_pourSong 8 = .ok (.istore 4, 2) := by decide +kernel
theorem dX9_pourSong_10 : decode cX9_pourSong 10 = .ok (.aload_n 0, 1) := by decide +kernel
theorem dX9_pourSong_11 : decode cX9_pourSong 11 = .ok (.getfield 32, 3) := by decide +kernel
theorem dX9_pourSong_14 : decode cX9_pourSong 14 = .ok (.aload_n 1, 1) := by decide +kernel
theorem dX9_pourSong_15 : decode cX9_pourSong 15 = .ok (.iload_n 3, 1) := by decide +kernel
theorem dX9_pourSong_16 : decode cX9_pourSong 16 = .ok (.iload 4, 2) := by decide +kernel
theorem dX9_pourSong_18 : decode cX9_pourSong 18 = .ok (.invokevirtual 363, 3) := by decide +kernel
theorem dX9_pourSong_21 : decode cX9_pourSong 21 = .ok (.aload_n 1, 1) := by decide +kernel
theorem dX9_pourSong_22 : decode cX9_pourSong 22 = .ok (.getfield 122, 3) := by decide +kernel
theorem dX9_pourSong_25 : decode cX9_pourSong 25 = .ok (.iload_n 3, 1) := by decide +kernel
theorem dX9_pourSong_26 : decode cX9_pourSong 26 = .ok (.invokevirtual 237, 3) := by decide +kernel
theorem dX9_pourSong_29 : decode cX9_pourSong 29 = .ok (.istore 5, 2) := by decide +kernel
theorem dX9_pourSong_31 : decode cX9_pourSong 31 = .ok (.iconst 0, 1) := by decide +kernel
theorem dX9_pourSong_32 : decode cX9_pourSong 32 = .ok (.istore 6, 2) := by decide +kernel
theorem dX9_pourSong_34 : decode cX9_pourSong 34 = .ok (.iconst 0, 1) := by decide +kernel
theorem dX9_pourSong_35 : decode cX9_pourSong 35 = .ok (.istore 7, 2) := by decide +kernel
theorem dX9_pourSong_37 : decode cX9_pourSong 37 = .ok (.iload 7, 2) := by decide +kernel
theorem dX9_pourSong_39 : decode cX9_pourSong 39 = .ok (.iload 5, 2) := by decide +kernel
theorem dX9_pourSong_41 : decode cX9_pourSong 41 = .ok (.if_icmp .ge 30, 3) := by decide +kernel
theorem dX9_pourSong_44 : decode cX9_pourSong 44 = .ok (.aload_n 2, 1) := by decide +kernel
theorem dX9_pourSong_45 : decode cX9_pourSong 45 = .ok (.aload_n 0, 1) := by decide +kernel
theorem dX9_pourSong_46 : decode cX9_pourSong 46 = .ok (.getfield 32, 3) := by decide +kernel
theorem dX9_pourSong_49 : decode cX9_pourSong 49 = .ok (.iload 7, 2) := by decide +kernel
theorem dX9_pourSong_51 : decode cX9_pourSong 51 = .ok (.iload 4, 2) := by decide +kernel
theorem dX9_pourSong_53 : decode cX9_pourSong 53 = .ok (.invokevirtual 367, 3) := by decide +kernel
theorem dX9_pourSong_56 : decode cX9_pourSong 56 = .ok (.invokevirtual 370, 3) := by decide +kernel
theorem dX9_pourSong_59 : decode cX9_pourSong 59 = .ok (.ifCond .eq 6, 3) := by decide +kernel
theorem dX9_pourSong_62 : decode cX9_pourSong 62 = .ok (.iinc 6 1, 3) := by decide +kernel
theorem dX9_pourSong_65 : decode cX9_pourSong 65 = .ok (.iinc 7 1, 3) := by decide +kernel
theorem dX9_pourSong_68 : decode cX9_pourSong 68 = .ok (.goto (-31), 3) := by decide +kernel
theorem dX9_pourSong_71 : decode cX9_pourSong 71 = .ok (.iload 6, 2) := by decide +kernel
theorem dX9_pourSong_73 : decode cX9_pourSong 73 = .ok (.ireturn, 1) := by decide +kernel
theorem dX9_dropsOnCopy_0 : decode cX9_dropsOnCopy 0 = .ok (.aload_n 0, 1) := by decide +kernel
theorem dX9_dropsOnCopy_1 : decode cX9_dropsOnCopy 1 = .ok (.getfield 39, 3) := by decide +kernel
theorem dX9_dropsOnCopy_4 : decode cX9_dropsOnCopy 4 = .ok (.aload_n 0, 1) := by decide +kernel
theorem dX9_dropsOnCopy_5 : decode cX9_dropsOnCopy 5 = .ok (.getfield 10, 3) := by decide +kernel
theorem dX9_dropsOnCopy_8 : decode cX9_dropsOnCopy 8 = .ok (.getfield 193, 3) := by decide +kernel
theorem dX9_dropsOnCopy_11 : decode cX9_dropsOnCopy 11 = .ok (.invokevirtual 373, 3) := by decide +kernel
theorem dX9_dropsOnCopy_14 : decode cX9_dropsOnCopy 14 = .ok (.aload_n 0, 1) := by decide +kernel
theorem dX9_dropsOnCopy_15 : decode cX9_dropsOnCopy 15 = .ok (.getfield 10, 3) := by decide +kernel
theorem dX9_dropsOnCopy_18 : decode cX9_dropsOnCopy 18 = .ok (.getfield 122, 3) := by decide +kernel
theorem dX9_dropsOnCopy_21 : decode cX9_dropsOnCopy 21 = .ok (.iload_n 1, 1) := by decide +kernel
theorem dX9_dropsOnCopy_22 : decode cX9_dropsOnCopy 22 = .ok (.invokevirtual 237, 3) := by decide +kernel
theorem dX9_dropsOnCopy_25 : decode cX9_dropsOnCopy 25 = .ok (.aload_n 0, 1) := by decide +kernel
theorem dX9_dropsOnCopy_26 : decode cX9_dropsOnCopy 26 = .ok (.aload_n 0, 1) := by decide +kernel
theorem dX9_dropsOnCopy_27 : decode cX9_dropsOnCopy 27 = .ok (.getfield 10, 3) := by decide +kernel
theorem dX9_dropsOnCopy_30 : decode cX9_dropsOnCopy 30 = .ok (.aload_n 0, 1) := by decide +kernel
theorem dX9_dropsOnCopy_31 : decode cX9_dropsOnCopy 31 = .ok (.getfield 39, 3) := by decide +kernel
theorem dX9_dropsOnCopy_34 : decode cX9_dropsOnCopy 34 = .ok (.iload_n 1, 1) := by decide +kernel
theorem dX9_dropsOnCopy_35 : decode cX9_dropsOnCopy 35 = .ok (.invokevirtual 208, 3) := by decide +kernel
theorem dX9_dropsOnCopy_38 : decode cX9_dropsOnCopy 38 = .ok (.isub, 1) := by decide +kernel
theorem dX9_dropsOnCopy_39 : decode cX9_dropsOnCopy 39 = .ok (.ireturn, 1) := by decide +kernel
theorem dX9_dropsFromLevels_0 : decode cX9_dropsFromLevels 0 = .ok (.iconst 0, 1) := by decide +kernel
theorem dX9_dropsFromLevels_1 : decode cX9_dropsFromLevels 1 = .ok (.istore_n 2, 1) := by decide +kernel
theorem dX9_dropsFromLevels_2 : decode cX9_dropsFromLevels 2 = .ok (.iload_n 2, 1) := by decide +kernel
theorem dX9_dropsFromLevels_3 : decode cX9_dropsFromLevels 3 = .ok (.aload_n 0, 1) := by decide +kernel
theorem dX9_dropsFromLevels_4 : decode cX9_dropsFromLevels 4 = .ok (.getfield 10, 3) := by decide +kernel
theorem dX9_dropsFromLevels_7 : decode cX9_dropsFromLevels 7 = .ok (.getfield 193, 3) := by decide +kernel
theorem dX9_dropsFromLevels_10 : decode cX9_dropsFromLevels 10 = .ok (.getfield 218, 3) := by decide +kernel
theorem dX9_dropsFromLevels_13 : decode cX9_dropsFromLevels 13 = .ok (.if_icmp .ge 40, 3) := by decide +kernel
theorem dX9_dropsFromLevels_16 : decode cX9_dropsFromLevels 16 = .ok (.aload_n 0, 1) := by decide +kernel
theorem dX9_dropsFromLevels_17 : decode cX9_dropsFromLevels 17 = .ok (.getfield 43, 3) := by decide +kernel
theorem dX9_dropsFromLevels_20 : decode cX9_dropsFromLevels 20 = .ok (.iload_n 2, 1) := by decide +kernel
theorem dX9_dropsFromLevels_21 : decode cX9_dropsFromLevels 21 = .ok (.aload_n 0, 1) := by decide +kernel
theorem dX9_dropsFromLevels_22 : decode cX9_dropsFromLevels 22 = .ok (.getfield 10, 3) := by decide +kernel
theorem dX9_dropsFromLevels_25 : decode cX9_dropsFromLevels 25 = .ok (.getfield 193, 3) := by decide +kernel
theorem dX9_dropsFromLevels_28 : decode cX9_dropsFromLevels 28 = .ok (.iload_n 2, 1) := by decide +kernel
theorem dX9_dropsFromLevels_29 : decode cX9_dropsFromLevels 29 = .ok (.invokevirtual 222, 3) := by decide +kernel
theorem dX9_dropsFromLevels_32 : decode cX9_dropsFromLevels 32 = .ok (.aload_n 0, 1) := by decide +kernel
theorem dX9_dropsFromLevels_33 : decode cX9_dropsFromLevels 33 = .ok (.getfield 10, 3) := by decide +kernel
theorem dX9_dropsFromLevels_36 : decode cX9_dropsFromLevels 36 = .ok (.getfield 193, 3) := by decide +kernel
theorem dX9_dropsFromLevels_39 : decode cX9_dropsFromLevels 39 = .ok (.iload_n 2, 1) := by decide +kernel
theorem dX9_dropsFromLevels_40 : decode cX9_dropsFromLevels 40 = .ok (.invokevirtual 228, 3) := by decide +kernel
theorem dX9_dropsFromLevels_43 : decode cX9_dropsFromLevels 43 = .ok (.isub, 1) := by decide +kernel
theorem dX9_dropsFromLevels_44 : decode cX9_dropsFromLevels 44 = .ok (.invokestatic 376, 3) := by decide +kernel
theorem dX9_dropsFromLevels_47 : decode cX9_dropsFromLevels 47 = .ok (.iinc 2 1, 3) := by decide +kernel
theorem dX9_dropsFromLevels_50 : decode cX9_dropsFromLevels 50 = .ok (.goto (-48), 3) := by decide +kernel
theorem dX9_dropsFromLevels_53 : decode cX9_dropsFromLevels 53 = .ok (.aload_n 0, 1) := by decide +kernel
theorem dX9_dropsFromLevels_54 : decode cX9_dropsFromLevels 54 = .ok (.iload_n 1, 1) := by decide +kernel
theorem dX9_dropsFromLevels_55 : decode cX9_dropsFromLevels 55 = .ok (.invokevirtual 177, 3) := by decide +kernel
theorem dX9_dropsFromLevels_58 : decode cX9_dropsFromLevels 58 = .ok (.istore_n 2, 1) := by decide +kernel
theorem dX9_dropsFromLevels_59 : decode cX9_dropsFromLevels 59 = .ok (.aload_n 0, 1) := by decide +kernel
theorem dX9_dropsFromLevels_60 : decode cX9_dropsFromLevels 60 = .ok (.getfield 10, 3) := by decide +kernel
theorem dX9_dropsFromLevels_63 : decode cX9_dropsFromLevels 63 = .ok (.getfield 122, 3) := by decide +kernel
theorem dX9_dropsFromLevels_66 : decode cX9_dropsFromLevels 66 = .ok (.iload_n 1, 1) := by decide +kernel
theorem dX9_dropsFromLevels_67 : decode cX9_dropsFromLevels 67 = .ok (.invokevirtual 237, 3) := by decide +kernel
theorem dX9_dropsFromLevels_70 : decode cX9_dropsFromLevels 70 = .ok (.istore_n 3, 1) := by decide +kernel
