theorem dX0_init_0 : decode cX0_init 0 = .ok (.aload_n 0, 1) := by decide +kernel
theorem dX0_init_1 : decode cX0_init 1 = .ok (.invokespecial 3, 3) := by decide +kernel
theorem dX0_init_4 : decode cX0_init 4 = .ok (.aload_n 0, 1) := by decide +kernel
theorem dX0_init_5 : decode cX0_init 5 = .ok (.bipush 16, 2) := by decide +kernel
theorem dX0_init_7 : decode cX0_init 7 = .ok (.newarray .int, 2) := by decide +kernel
theorem dX0_init_9 : decode cX0_init 9 = .ok (.putfield 9, 3) := by decide +kernel
theorem dX0_init_12 : decode cX0_init 12 = .ok (.aload_n 0, 1) := by decide +kernel
theorem dX0_init_13 : decode cX0_init 13 = .ok (.bipush 16, 2) := by decide +kernel
theorem dX0_init_15 : decode cX0_init 15 = .ok (.newarray .int, 2) := by decide +kernel
theorem dX0_init_17 : decode cX0_init 17 = .ok (.putfield 15, 3) := by decide +kernel
theorem dX0_init_20 : decode cX0_init 20 = .ok (.aload_n 0, 1) := by decide +kernel
theorem dX0_init_21 : decode cX0_init 21 = .ok (.bipush 16, 2) := by decide +kernel
theorem dX0_init_23 : decode cX0_init 23 = .ok (.newarray .int, 2) := by decide +kernel
theorem dX0_init_25 : decode cX0_init 25 = .ok (.putfield 18, 3) := by decide +kernel
theorem dX0_init_28 : decode cX0_init 28 = .ok (.aload_n 0, 1) := by decide +kernel
theorem dX0_init_29 : decode cX0_init 29 = .ok (.bipush 16, 2) := by decide +kernel
theorem dX0_init_31 : decode cX0_init 31 = .ok (.newarray .int, 2) := by decide +kernel
theorem dX0_init_33 : decode cX0_init 33 = .ok (.putfield 21, 3) := by decide +kernel
theorem dX0_init_36 : decode cX0_init 36 = .ok (.aload_n 0, 1) := by decide +kernel
theorem dX0_init_37 : decode cX0_init 37 = .ok (.bipush 16, 2) := by decide +kernel
theorem dX0_init_39 : decode cX0_init 39 = .ok (.newarray .int, 2) := by decide +kernel
theorem dX0_init_41 : decode cX0_init 41 = .ok (.putfield 24, 3) := by decide +kernel
theorem dX0_init_44 : decode cX0_init 44 = .ok (.aload_n 0, 1) := by decide +kernel
theorem dX0_init_45 : decode cX0_init 45 = .ok (.bipush 16, 2) := by decide +kernel
theorem dX0_init_47 : decode cX0_init 47 = .ok (.newarray .int, 2) := by decide +kernel
theorem dX0_init_49 : decode cX0_init 49 = .ok (.putfield 27, 3) := by decide +kernel
theorem dX0_init_52 : decode cX0_init 52 = .ok (.aload_n 0, 1) := by decide +kernel
theorem dX0_init_53 : decode cX0_init 53 = .ok (.bipush 48, 2) := by decide +kernel
theorem dX0_init_55 : decode cX0_init 55 = .ok (.newarray .int, 2) := by decide +kernel
theorem dX0_init_57 : decode cX0_init 57 = .ok (.putfield 30, 3) := by decide +kernel
theorem dX0_init_60 : decode cX0_init 60 = .ok (.return_, 1) := by decide +kernel
theorem dX0_has_0 : decode cX0_has 0 = .ok (.iload_n 1, 1) := by decide +kernel
theorem dX0_has_1 : decode cX0_has 1 = .ok (.iconst 0, 1) := by decide +kernel
theorem dX0_has_2 : decode cX0_has 2 = .ok (.aload_n 0, 1) := by decide +kernel
theorem dX0_has_3 : decode cX0_has 3 = .ok (.getfield 33, 3) := by decide +kernel
theorem dX0_has_6 : decode cX0_has 6 = .ok (.iconst 1, 1) := by decide +kernel
theorem dX0_has_7 : decode cX0_has 7 = .ok (.isub, 1) := by decide +kernel
theorem dX0_has_8 : decode cX0_has 8 = .ok (.invokestatic 37, 3) := by decide +kernel
theorem dX0_has_11 : decode cX0_has 11 = .ok (.ireturn, 1) := by decide +kernel
theorem dX0_isAnyOf_0 : decode cX0_isAnyOf 0 = .ok (.iconst 0, 1) := by decide +kernel
theorem dX0_isAnyOf_1 : decode cX0_isAnyOf 1 = .ok (.istore_n 2, 1) := by decide +kernel
theorem dX0_isAnyOf_2 : decode cX0_isAnyOf 2 = .ok (.iload_n 2, 1) := by decide +kernel
theorem dX0_isAnyOf_3 : decode cX0_isAnyOf 3 = .ok (.aload_n 0, 1) := by decide +kernel
theorem dX0_isAnyOf_4 : decode cX0_isAnyOf 4 = .ok (.getfield 33, 3) := by decide +kernel
theorem dX0_isAnyOf_7 : decode cX0_isAnyOf 7 = .ok (.if_icmp .ge 21, 3) := by decide +kernel
theorem dX0_isAnyOf_10 : decode cX0_isAnyOf 10 = .ok (.aload_n 0, 1) := by decide +kernel
theorem dX0_isAnyOf_11 : decode cX0_isAnyOf 11 = .ok (.getfield 9, 3) := by decide +kernel
theorem dX0_isAnyOf_14 : decode cX0_isAnyOf 14 = .ok (.iload_n 2, 1) := by decide +kernel
theorem dX0_isAnyOf_15 : decode cX0_isAnyOf 15 = .ok (.iaload, 1) := by decide +kernel
theorem dX0_isAnyOf_16 : decode cX0_isAnyOf 16 = .ok (.iload_n 1, 1) := by decide +kernel
theorem dX0_isAnyOf_17 : decode cX0_isAnyOf 17 = .ok (.if_icmp .ne 5, 3) := by decide +kernel
theorem dX0_isAnyOf_20 : decode cX0_isAnyOf 20 = .ok (.iconst 1, 1) := by decide +kernel
theorem dX0_isAnyOf_21 : decode cX0_isAnyOf 21 = .ok (.ireturn, 1) := by decide +kernel
theorem dX0_isAnyOf_22 : decode cX0_isAnyOf 22 = .ok (.iinc 2 1, 3) := by decide +kernel
theorem dX0_isAnyOf_25 : decode cX0_isAnyOf 25 = .ok (.goto (-23), 3) := by decide +kernel
theorem dX0_isAnyOf_28 : decode cX0_isAnyOf 28 = .ok (.iconst 0, 1) := by decide +kernel
theorem dX0_isAnyOf_29 : decode cX0_isAnyOf 29 = .ok (.ireturn, 1) := by decide +kernel
theorem dX0_owedByAll_0 : decode cX0_owedByAll 0 = .ok (.iconst 0, 1) := by decide +kernel
theorem dX0_owedByAll_1 : decode cX0_owedByAll 1 = .ok (.istore_n 2, 1) := by decide +kernel
theorem dX0_owedByAll_2 : decode cX0_owedByAll 2 = .ok (.iconst 0, 1) := by decide +kernel
theorem dX0_owedByAll_3 : decode cX0_owedByAll 3 = .ok (.istore_n 3, 1) := by decide +kernel
theorem dX0_owedByAll_4 : decode cX0_owedByAll 4 = .ok (.iload_n 3, 1) := by decide +kernel
theorem dX0_owedByAll_5 : decode cX0_owedByAll 5 = .ok (.iconst 3, 1) := by decide +kernel
theorem dX0_owedByAll_6 : decode cX0_owedByAll 6 = .ok (.if_icmp .ge 22, 3) := by decide +kernel
theorem dX0_owedByAll_9 : decode cX0_owedByAll 9 = .ok (.iload_n 2, 1) := by decide +kernel
theorem dX0_owedByAll_10 : decode cX0_owedByAll 10 = .ok (.aload_n 0, 1) := by decide +kernel
theorem dX0_owedByAll_11 : decode cX0_owedByAll 11 = .ok (.getfield 30, 3) := by decide +kernel
theorem dX0_owedByAll_14 : decode cX0_owedByAll 14 = .ok (.iload_n 1, 1) := by decide +kernel
theorem dX0_owedByAll_15 : decode cX0_owedByAll 15 = .ok (.iconst 3, 1) := by decide +kernel
theorem dX0_owedByAll_16 : decode cX0_owedByAll 16 = .ok (.imul, 1) := by decide +kernel
theorem dX0_owedByAll_17 : decode cX0_owedByAll 17 = .ok (.iload_n 3, 1) := by decide +kernel
theorem dX0_owedByAll_18 : decode cX0_owedByAll 18 = .ok (.iadd, 1) := by decide +kernel
theorem dX0_owedByAll_19 : decode cX0_owedByAll 19 = .ok (.iaload, 1) := by decide +kernel
theorem dX0_owedByAll_20 : decode cX0_owedByAll 20 = .ok (.iadd, 1) := by decide +kernel
theorem dX0_owedByAll_21 : decode cX0_owedByAll 21 = .ok (.istore_n 2, 1) := by decide +kernel
theorem dX0_owedByAll_22 : decode cX0_owedByAll 22 = .ok (.iinc 3 1, 3) := by decide +kernel
theorem dX0_owedByAll_25 : decode cX0_owedByAll 25 = .ok (.goto (-21), 3) := by decide +kernel
theorem dX0_owedByAll_28 : decode cX0_owedByAll 28 = .ok (.iload_n 2, 1) := by decide +kernel
theorem dX0_owedByAll_29 : decode cX0_owedByAll 29 = .ok (.ireturn, 1) := by decide +kernel
theorem dX0_become_0 : decode cX0_become 0 = .ok (.aload_n 0, 1) := by decide +kernel
theorem dX0_become_1 : decode cX0_become 1 = .ok (.aload_n 1, 1) := by decide +kernel
theorem dX0_become_2 : decode cX0_become 2 = .ok (.getfield 33, 3) := by decide +kernel
theorem dX0_become_5 : decode cX0_become 5 = .ok (.putfield 33, 3) := by decide +kernel
theorem dX0_become_8 : decode cX0_become 8 = .ok (.aload_n 1, 1) := by decide +kernel
theorem dX0_become_9 : decode cX0_become 9 = .ok (.getfield 9, 3) := by decide +kernel
theorem dX0_become_12 : decode cX0_become 12 = .ok (.aload_n 0, 1) := by decide +kernel
theorem dX0_become_13 : decode cX0_become 13 = .ok (.getfield 9, 3) := by decide +kernel
theorem dX0_become_16 : decode cX0_become 16 = .ok (.invokestatic 41, 3) := by decide +kernel
theorem dX0_become_19 : decode cX0_become 19 = .ok (.aload_n 1, 1) := by decide +kernel
theorem dX0_become_20 : decode cX0_become 20 = .ok (.getfield 15, 3) := by decide +kernel
theorem dX0_become_23 : decode cX0_become 23 = .ok (.aload_n 0, 1) := by decide +kernel
theorem dX0_become_24 : decode cX0_become 24 = .ok (.getfield 15, 3) := by decide +kernel
theorem dX0_become_27 : decode cX0_become 27 = .ok (.invokestatic 41, 3) := by decide +kernel
theorem dX0_become_30 : decode cX0_become 30 = .ok (.aload_n 1, 1) := by decide +kernel
theorem dX0_become_31 : decode cX0_become 31 = .ok (.getfield 18, 3) := by decide +kernel
theorem dX0_become_34 : decode cX0_become 34 = .ok (.aload_n 0, 1) := by decide +kernel
theorem dX0_become_35 : decode cX0_become 35 = .ok (.getfield 18, 3) := by decide +kernel
theorem dX0_become_38 : decode cX0_become 38 = .ok (.invokestatic 41, 3) := by decide +kernel
theorem dX0_become_41 : decode cX0_become 41 = .ok (.aload_n 1, 1) := by decide +kernel
theorem dX0_become_42 : decode cX0_become 42 = .ok (.getfield 21, 3) := by decide +kernel
theorem dX0_become_45 : decode cX0_become 45 = .ok (.aload_n 0, 1) := by decide +kernel
theorem dX0_become_46 : decode cX0_become 46 = .ok (.getfield 21, 3) := by decide +kernel
theorem dX0_become_49 : decode cX0_become 49 = .ok (.invokestatic 41, 3) := by decide +kernel
theorem dX0_become_52 : decode cX0_become 52 = .ok (.aload_n 1, 1) := by decide +kernel
theorem dX0_become_53 : decode cX0_become 53 = .ok (.getfield 24, 3) := by decide +kernel
theorem dX0_become_56 : decode cX0_become 56 = .ok (.aload_n 0, 1) := by decide +kernel
theorem dX0_become_57 : decode cX0_become 57 = .ok (.getfield 24, 3) := by decide +kernel
theorem dX0_become_60 : decode cX0_become 60 = .ok (.invokestatic 41, 3) := by decide +kernel
theorem dX0_become_63 : decode cX0_become 63 = .ok (.aload_n 1, 1) := by decide +kernel
theorem dX0_become_64 : decode cX0_become 64 = .ok (.getfield 27, 3) := by decide +kernel
theorem dX0_become_67 : decode cX0_become 67 = .ok (.aload_n 0, 1) := by decide +kernel
theorem dX0_become_68 : decode cX0_become 68 = .ok (.getfield 27, 3) := by decide +kernel
theorem dX0_become_71 : decode cX0_become 71 = .ok (.invokestatic 41, 3) := by decide +kernel
theorem dX0_become_74 : decode cX0_become 74 = .ok (.aload_n 1, 1) := by decide +kernel
theorem dX0_become_75 : decode cX0_become 75 = .ok (.getfield 30, 3) := by decide +kernel
theorem dX0_become_78 : decode cX0_become 78 = .ok (.aload_n 0, 1) := by decide +kernel
theorem dX0_become_79 : decode cX0_become 79 = .ok (.getfield 30, 3) := by decide +kernel
theorem dX0_become_82 : decode cX0_become 82 = .ok (.invokestatic 41, 3) := by decide +kernel
theorem dX0_become_85 : decode cX0_become 85 = .ok (.return_, 1) := by decide +kernel
theorem dX1_init_0 : decode cX1_init 0 = .ok (.aload_n 0, 1) := by decide +kernel
theorem dX1_init_1 : decode cX1_init 1 = .ok (.invokespecial 3, 3) := by decide +kernel
theorem dX1_init_4 : decode cX1_init 4 = .ok (.aload_n 0, 1) := by decide +kernel
theorem dX1_init_5 : decode cX1_init 5 = .ok (.iconst 5, 1) := by decide +kernel
theorem dX1_init_6 : decode cX1_init 6 = .ok (.newarray .int, 2) := by decide +kernel
theorem dX1_init_8 : decode cX1_init 8 = .ok (.putfield 9, 3) := by decide +kernel
theorem dX1_init_11 : decode cX1_init 11 = .ok (.aload_n 0, 1) := by decide +kernel
theorem dX1_init_12 : decode cX1_init 12 = .ok (.iconst 5, 1) := by decide +kernel
theorem dX1_init_13 : decode cX1_init 13 = .ok (.newarray .int, 2) := by decide +kernel
theorem dX1_init_15 : decode cX1_init 15 = .ok (.putfield 15, 3) := by decide +kernel
theorem dX1_init_18 : decode cX1_init 18 = .ok (.aload_n 0, 1) := by decide +kernel
theorem dX1_init_19 : decode cX1_init 19 = .ok (.bipush 15, 2) := by decide +kernel
theorem dX1_init_21 : decode cX1_init 21 = .ok (.newarray .int, 2) := by decide +kernel
theorem dX1_init_23 : decode cX1_init 23 = .ok (.putfield 18, 3) := by decide +kernel
theorem dX1_init_26 : decode cX1_init 26 = .ok (.aload_n 0, 1) := by decide +kernel
theorem dX1_init_27 : decode cX1_init 27 = .ok (.bipush 15, 2) := by decide +kernel
theorem dX1_init_29 : decode cX1_init 29 = .ok (.newarray .int, 2) := by decide +kernel
theorem dX1_init_31 : decode cX1_init 31 = .ok (.putfield 21, 3) := by decide +kernel
theorem dX1_init_34 : decode cX1_init 34 = .ok (.aload_n 0, 1) := by decide +kernel
theorem dX1_init_35 : decode cX1_init 35 = .ok (.bipush 15, 2) := by decide +kernel
theorem dX1_init_37 : decode cX1_init 37 = .ok (.newarray .int, 2) := by decide +kernel
theorem dX1_init_39 : decode cX1_init 39 = .ok (.putfield 24, 3) := by decide +kernel
theorem dX1_init_42 : decode cX1_init 42 = .ok (.aload_n 0, 1) := by decide +kernel
theorem dX1_init_43 : decode cX1_init 43 = .ok (.sipush 1800, 3) := by decide +kernel
theorem dX1_init_46 : decode cX1_init 46 = .ok (.newarray .int, 2) := by decide +kernel
theorem dX1_init_48 : decode cX1_init 48 = .ok (.putfield 27, 3) := by decide +kernel
theorem dX1_init_51 : decode cX1_init 51 = .ok (.return_, 1) := by decide +kernel
theorem dX1_has_0 : decode cX1_has 0 = .ok (.iload_n 1, 1) := by decide +kernel
theorem dX1_has_1 : decode cX1_has 1 = .ok (.iconst 0, 1) := by decide +kernel
theorem dX1_has_2 : decode cX1_has 2 = .ok (.aload_n 0, 1) := by decide +kernel
theorem dX1_has_3 : decode cX1_has 3 = .ok (.getfield 30, 3) := by decide +kernel
theorem dX1_has_6 : decode cX1_has 6 = .ok (.iconst 1, 1) := by decide +kernel
theorem dX1_has_7 : decode cX1_has 7 = .ok (.isub, 1) := by decide +kernel
theorem dX1_has_8 : decode cX1_has 8 = .ok (.invokestatic 34, 3) := by decide +kernel
theorem dX1_has_11 : decode cX1_has 11 = .ok (.ireturn, 1) := by decide +kernel
theorem dX1_slotOn_0 : decode cX1_slotOn 0 = .ok (.iconst (-1), 1) := by decide +kernel
theorem dX1_slotOn_1 : decode cX1_slotOn 1 = .ok (.istore_n 3, 1) := by decide +kernel
theorem dX1_slotOn_2 : decode cX1_slotOn 2 = .ok (.iload_n 1, 1) := by decide +kernel
theorem dX1_slotOn_3 : decode cX1_slotOn 3 = .ok (.iconst 3, 1) := by decide +kernel
theorem dX1_slotOn_4 : decode cX1_slotOn 4 = .ok (.imul, 1) := by decide +kernel
theorem dX1_slotOn_5 : decode cX1_slotOn 5 = .ok (.istore 4, 2) := by decide +kernel
theorem dX1_slotOn_7 : decode cX1_slotOn 7 = .ok (.iconst 0, 1) := by decide +kernel
theorem dX1_slotOn_8 : decode cX1_slotOn 8 = .ok (.istore 5, 2) := by decide +kernel
theorem dX1_slotOn_10 : decode cX1_slotOn 10 = .ok (.iload 5, 2) := by decide +kernel
theorem dX1_slotOn_12 : decode cX1_slotOn 12 = .ok (.aload_n 0, 1) := by decide +kernel
theorem dX1_slotOn_13 : decode cX1_slotOn 13 = .ok (.getfield 15, 3) := by decide +kernel
theorem dX1_slotOn_16 : decode cX1_slotOn 16 = .ok (.iload_n 1, 1) := by decide +kernel
theorem dX1_slotOn_17 : decode cX1_slotOn 17 = .ok (.iaload, 1) := by decide +kernel
theorem dX1_slotOn_18 : decode cX1_slotOn 18 = .ok (.if_icmp .ge 50, 3) := by decide +kernel
theorem dX1_slotOn_21 : decode cX1_slotOn 21 = .ok (.iload 4, 2) := by decide +kernel
theorem dX1_slotOn_23 : decode cX1_slotOn 23 = .ok (.iload 5, 2) := by decide +kernel
theorem dX1_slotOn_25 : decode cX1_slotOn 25 = .ok (.iadd, 1) := by decide +kernel
theorem dX1_slotOn_26 : decode cX1_slotOn 26 = .ok (.istore 6, 2) := by decide +kernel
theorem dX1_slotOn_28 : decode cX1_slotOn 28 = .ok (.aload_n 0, 1) := by decide +kernel
theorem dX1_slotOn_29 : decode cX1_slotOn 29 = .ok (.getfield 18, 3) := by decide +kernel
theorem dX1_slotOn_32 : decode cX1_slotOn 32 = .ok (.iload 6, 2) := by decide +kernel
theorem dX1_slotOn_34 : decode cX1_slotOn 34 = .ok (.iaload, 1) := by decide +kernel
theorem dX1_slotOn_35 : decode cX1_slotOn 35 = .ok (.iload_n 2, 1) := by decide +kernel
theorem dX1_slotOn_36 : decode cX1_slotOn 36 = .ok (.if_icmp .gt 26, 3) := by decide +kernel
theorem dX1_slotOn_39 : decode cX1_slotOn 39 = .ok (.iload_n 3, 1) := by decide +kernel
theorem dX1_slotOn_40 : decode cX1_slotOn 40 = .ok (.ifCond .lt 19, 3) := by decide +kernel
theorem dX1_slotOn_43 : decode cX1_slotOn 43 = .ok (.aload_n 0, 1) := by decide +kernel
theorem dX1_slotOn_44 : decode cX1_slotOn 44 = .ok (.getfield 18, 3) := by decide +kernel
theorem dX1_slotOn_47 : decode cX1_slotOn 47 = .ok (.iload 6, 2) := by decide +kernel
theorem dX1_slotOn_49 : decode cX1_slotOn 49 = .ok (.iaload, 1) := by decide +kernel
theorem dX1_slotOn_50 : decode cX1_slotOn 50 = .ok (.aload_n 0, 1) := by decide +kernel
theorem dX1_slotOn_51 : decode cX1_slotOn 51 = .ok (.getfield 18, 3) := by decide +kernel
theorem dX1_slotOn_54 : decode cX1_slotOn 54 = .ok (.iload_n 3, 1) := by decide +kernel
theorem dX1_slotOn_55 : decode cX1_slotOn 55 = .ok (.iaload, 1) := by decide +kernel
theorem dX1_slotOn_56 : decode cX1_slotOn 56 = .ok (.if_icmp .lt 6, 3) := by decide +kernel
theorem dX1_slotOn_59 : decode cX1_slotOn 59 = .ok (.iload 6, 2) := by decide +kernel
theorem dX1_slotOn_61 : decode cX1_slotOn 61 = .ok (.istore_n 3, 1) := by decide +kernel
theorem dX1_slotOn_62 : decode cX1_slotOn 62 = .ok (.iinc 5 1, 3) := by decide +kernel
theorem dX1_slotOn_65 : decode cX1_slotOn 65 = .ok (.goto (-55), 3) := by decide +kernel
theorem dX1_slotOn_68 : decode cX1_slotOn 68 = .ok (.iload_n 3, 1) := by decide +kernel
theorem dX1_slotOn_69 : decode cX1_slotOn 69 = .ok (.ireturn, 1) := by decide +kernel
theorem dX1_become_0 : decode cX1_become 0 = .ok (.aload_n 0, 1) := by decide +kernel
theorem dX1_become_1 : decode cX1_become 1 = .ok (.aload_n 1, 1) := by decide +kernel
theorem dX1_become_2 : decode cX1_become 2 = .ok (.getfield 30, 3) := by decide +kernel
theorem dX1_become_5 : decode cX1_become 5 = .ok (.putfield 30, 3) := by decide +kernel
theorem dX1_become_8 : decode cX1_become 8 = .ok (.aload_n 1, 1) := by decide +kernel
theorem dX1_become_9 : decode cX1_become 9 = .ok (.getfield 9, 3) := by decide +kernel
theorem dX1_become_12 : decode cX1_become 12 = .ok (.aload_n 0, 1) := by decide +kernel
theorem dX1_become_13 : decode cX1_become 13 = .ok (.getfield 9, 3) := by decide +kernel
theorem dX1_become_16 : decode cX1_become 16 = .ok (.invokestatic 38, 3) := by decide +kernel
theorem dX1_become_19 : decode cX1_become 19 = .ok (.aload_n 1, 1) := by decide +kernel
theorem dX1_become_20 : decode cX1_become 20 = .ok (.getfield 15, 3) := by decide +kernel
theorem dX1_become_23 : decode cX1_become 23 = .ok (.aload_n 0, 1) := by decide +kernel
theorem dX1_become_24 : decode cX1_become 24 = .ok (.getfield 15, 3) := by decide +kernel
theorem dX1_become_27 : decode cX1_become 27 = .ok (.invokestatic 38, 3) := by decide +kernel
theorem dX1_become_30 : decode cX1_become 30 = .ok (.aload_n 1, 1) := by decide +kernel
theorem dX1_become_31 : decode cX1_become 31 = .ok (.getfield 18, 3) := by decide +kernel
theorem dX1_become_34 : decode cX1_become 34 = .ok (.aload_n 0, 1) := by decide +kernel
theorem dX1_become_35 : decode cX1_become 35 = .ok (.getfield 18, 3) := by decide +kernel
theorem dX1_become_38 : decode cX1_become 38 = .ok (.invokestatic 38, 3) := by decide +kernel
theorem dX1_become_41 : decode cX1_become 41 = .ok (.aload_n 1, 1) := by decide +kernel
theorem dX1_become_42 : decode cX1_become 42 = .ok (.getfield 21, 3) := by decide +kernel
theorem dX1_become_45 : decode cX1_become 45 = .ok (.aload_n 0, 1) := by decide +kernel
theorem dX1_become_46 : decode cX1_become 46 = .ok (.getfield 21, 3) := by decide +kernel
theorem dX1_become_49 : decode cX1_become 49 = .ok (.invokestatic 38, 3) := by decide +kernel
theorem dX1_become_52 : decode cX1_become 52 = .ok (.aload_n 1, 1) := by decide +kernel
theorem dX1_become_53 : decode cX1_become 53 = .ok (.getfield 24, 3) := by decide +kernel
theorem dX1_become_56 : decode cX1_become 56 = .ok (.aload_n 0, 1) := by decide +kernel
theorem dX1_become_57 : decode cX1_become 57 = .ok (.getfield 24, 3) := by decide +kernel
theorem dX1_become_60 : decode cX1_become 60 = .ok (.invokestatic 38, 3) := by decide +kernel
theorem dX1_become_63 : decode cX1_become 63 = .ok (.aload_n 1, 1) := by decide +kernel
theorem dX1_become_64 : decode cX1_become 64 = .ok (.getfield 27, 3) := by decide +kernel
theorem dX1_become_67 : decode cX1_become 67 = .ok (.aload_n 0, 1) := by decide +kernel
theorem dX1_become_68 : decode cX1_become 68 = .ok (.getfield 27, 3) := by decide +kernel
theorem dX1_become_71 : decode cX1_become 71 = .ok (.invokestatic 38, 3) := by decide +kernel
theorem dX1_become_74 : decode cX1_become 74 = .ok (.return_, 1) := by decide +kernel
theorem dX2_init_0 : decode cX2_init 0 = .ok (.aload_n 0, 1) := by decide +kernel
theorem dX2_init_1 : decode cX2_init 1 = .ok (.invokespecial 3, 3) := by decide +kernel
theorem dX2_init_4 : decode cX2_init 4 = .ok (.aload_n 0, 1) := by decide +kernel
theorem dX2_init_5 : decode cX2_init 5 = .ok (.bipush 60, 2) := by decide +kernel
theorem dX2_init_7 : decode cX2_init 7 = .ok (.newarray .int, 2) := by decide +kernel
theorem dX2_init_9 : decode cX2_init 9 = .ok (.putfield 9, 3) := by decide +kernel
theorem dX2_init_12 : decode cX2_init 12 = .ok (.aload_n 0, 1) := by decide +kernel
theorem dX2_init_13 : decode cX2_init 13 = .ok (.bipush 60, 2) := by decide +kernel
theorem dX2_init_15 : decode cX2_init 15 = .ok (.newarray .int, 2) := by decide +kernel
theorem dX2_init_17 : decode cX2_init 17 = .ok (.putfield 15, 3) := by decide +kernel
theorem dX2_init_20 : decode cX2_init 20 = .ok (.aload_n 0, 1) := by decide +kernel
theorem dX2_init_21 : decode cX2_init 21 = .ok (.bipush 60, 2) := by decide +kernel
theorem dX2_init_23 : decode cX2_init 23 = .ok (.newarray .int, 2) := by decide +kernel
theorem dX2_init_25 : decode cX2_init 25 = .ok (.putfield 18, 3) := by decide +kernel
theorem dX2_init_28 : decode cX2_init 28 = .ok (.aload_n 0, 1) := by decide +kernel
theorem dX2_init_29 : decode cX2_init 29 = .ok (.bipush 60, 2) := by decide +kernel
theorem dX2_init_31 : decode cX2_init 31 = .ok (.newarray .int, 2) := by decide +kernel
theorem dX2_init_33 : decode cX2_init 33 = .ok (.putfield 21, 3) := by decide +kernel
theorem dX2_init_36 : decode cX2_init 36 = .ok (.aload_n 0, 1) := by decide +kernel
theorem dX2_init_37 : decode cX2_init 37 = .ok (.bipush 60, 2) := by decide +kernel
theorem dX2_init_39 : decode cX2_init 39 = .ok (.newarray .int, 2) := by decide +kernel
theorem dX2_init_41 : decode cX2_init 41 = .ok (.putfield 24, 3) := by decide +kernel
theorem dX2_init_44 : decode cX2_init 44 = .ok (.return_, 1) := by decide +kernel
theorem dX2_layOut_0 : decode cX2_layOut 0 = .ok (.iconst 0, 1) := by decide +kernel
theorem dX2_layOut_1 : decode cX2_layOut 1 = .ok (.istore 5, 2) := by decide +kernel
theorem dX2_layOut_3 : decode cX2_layOut 3 = .ok (.iconst 0, 1) := by decide +kernel
theorem dX2_layOut_4 : decode cX2_layOut 4 = .ok (.istore 6, 2) := by decide +kernel
theorem dX2_layOut_6 : decode cX2_layOut 6 = .ok (.iload 6, 2) := by decide +kernel
theorem dX2_layOut_8 : decode cX2_layOut 8 = .ok (.aload_n 0, 1) := by decide +kernel
theorem dX2_layOut_9 : decode cX2_layOut 9 = .ok (.getfield 27, 3) := by decide +kernel
theorem dX2_layOut_12 : decode cX2_layOut 12 = .ok (.if_icmp .ge 101, 3) := by decide +kernel
theorem dX2_layOut_15 : decode cX2_layOut 15 = .ok (.aload_n 0, 1) := by decide +kernel
theorem dX2_layOut_16 : decode cX2_layOut 16 = .ok (.getfield 9, 3) := by decide +kernel
theorem dX2_layOut_19 : decode cX2_layOut 19 = .ok (.iload 6, 2) := by decide +kernel
theorem dX2_layOut_21 : decode cX2_layOut 21 = .ok (.iaload, 1) := by decide +kernel
theorem dX2_layOut_22 : decode cX2_layOut 22 = .ok (.iload_n 1, 1) := by decide +kernel
theorem dX2_layOut_23 : decode cX2_layOut 23 = .ok (.if_icmp .ne 84, 3) := by decide +kernel
theorem dX2_layOut_26 : decode cX2_layOut 26 = .ok (.aload_n 0, 1) := by decide +kernel
theorem dX2_layOut_27 : decode cX2_layOut 27 = .ok (.getfield 15, 3) := by decide +kernel
theorem dX2_layOut_30 : decode cX2_layOut 30 = .ok (.iload 6, 2) := by decide +kernel
theorem dX2_layOut_32 : decode cX2_layOut 32 = .ok (.iaload, 1) := by decide +kernel
theorem dX2_layOut_33 : decode cX2_layOut 33 = .ok (.iload_n 2, 1) := by decide +kernel
theorem dX2_layOut_34 : decode cX2_layOut 34 = .ok (.if_icmp .ne 73, 3) := by decide +kernel
theorem dX2_layOut_37 : decode cX2_layOut 37 = .ok (.aload_n 0, 1) := by decide +kernel
theorem dX2_layOut_38 : decode cX2_layOut 38 = .ok (.getfield 24, 3) := by decide +kernel
theorem dX2_layOut_41 : decode cX2_layOut 41 = .ok (.iload 6, 2) := by decide +kernel
theorem dX2_layOut_43 : decode cX2_layOut 43 = .ok (.iaload, 1) := by decide +kernel
theorem dX2_layOut_44 : decode cX2_layOut 44 = .ok (.iload_n 3, 1) := by decide +kernel
theorem dX2_layOut_45 : decode cX2_layOut 45 = .ok (.if_icmp .gt 62, 3) := by decide +kernel
theorem dX2_layOut_48 : decode cX2_layOut 48 = .ok (.aload_n 0, 1) := by decide +kernel
theorem dX2_layOut_49 : decode cX2_layOut 49 = .ok (.getfield 18, 3) := by decide +kernel
theorem dX2_layOut_52 : decode cX2_layOut 52 = .ok (.iload 6, 2) := by decide +kernel
theorem dX2_layOut_54 : decode cX2_layOut 54 = .ok (.iaload, 1) := by decide +kernel
theorem dX2_layOut_55 : decode cX2_layOut 55 = .ok (.aload_n 0, 1) := by decide +kernel
theorem dX2_layOut_56 : decode cX2_layOut 56 = .ok (.getfield 21, 3) := by decide +kernel
theorem dX2_layOut_59 : decode cX2_layOut 59 = .ok (.iload 6, 2) := by decide +kernel
theorem dX2_layOut_61 : decode cX2_layOut 61 = .ok (.iaload, 1) := by decide +kernel
theorem dX2_layOut_62 : decode cX2_layOut 62 = .ok (.iadd, 1) := by decide +kernel
theorem dX2_layOut_63 : decode cX2_layOut 63 = .ok (.istore 7, 2) := by decide +kernel
theorem dX2_layOut_65 : decode cX2_layOut 65 = .ok (.aload_n 0, 1) := by decide +kernel
theorem dX2_layOut_66 : decode cX2_layOut 66 = .ok (.getfield 18, 3) := by decide +kernel
theorem dX2_layOut_69 : decode cX2_layOut 69 = .ok (.iload 6, 2) := by decide +kernel
theorem dX2_layOut_71 : decode cX2_layOut 71 = .ok (.iaload, 1) := by decide +kernel
theorem dX2_layOut_72 : decode cX2_layOut 72 = .ok (.istore 8, 2) := by decide +kernel
theorem dX2_layOut_74 : decode cX2_layOut 74 = .ok (.iload 8, 2) := by decide +kernel
theorem dX2_layOut_76 : decode cX2_layOut 76 = .ok (.iload 7, 2) := by decide +kernel
theorem dX2_layOut_78 : decode cX2_layOut 78 = .ok (.if_icmp .ge 26, 3) := by decide +kernel
theorem dX2_layOut_81 : decode cX2_layOut 81 = .ok (.iload 8, 2) := by decide +kernel
theorem dX2_layOut_83 : decode cX2_layOut 83 = .ok (.aload 4, 2) := by decide +kernel
theorem dX2_layOut_85 : decode cX2_layOut 85 = .ok (.arraylength, 1) := by decide +kernel
theorem dX2_layOut_86 : decode cX2_layOut 86 = .ok (.if_icmp .ge 18, 3) := by decide +kernel
theorem dX2_layOut_89 : decode cX2_layOut 89 = .ok (.aload 4, 2) := by decide +kernel
theorem dX2_layOut_91 : decode cX2_layOut 91 = .ok (.iload 8, 2) := by decide +kernel
theorem dX2_layOut_93 : decode cX2_layOut 93 = .ok (.dup2, 1) := by decide +kernel
theorem dX2_layOut_94 : decode cX2_layOut 94 = .ok (.iaload, 1) := by decide +kernel
theorem dX2_layOut_95 : decode cX2_layOut 95 = .ok (.iconst 1, 1) := by decide +kernel
theorem dX2_layOut_96 : decode cX2_layOut 96 = .ok (.iadd, 1) := by decide +kernel
theorem dX2_layOut_97 : decode cX2_layOut 97 = .ok (.iastore, 1) := by decide +kernel
theorem dX2_layOut_98 : decode cX2_layOut 98 = .ok (.iinc 8 1, 3) := by decide +kernel
theorem dX2_layOut_101 : decode cX2_layOut 101 = .ok (.goto (-27), 3) := by decide +kernel
theorem dX2_layOut_104 : decode cX2_layOut 104 = .ok (.iinc 5 1, 3) := by decide +kernel
theorem dX2_layOut_107 : decode cX2_layOut 107 = .ok (.iinc 6 1, 3) := by decide +kernel
theorem dX2_layOut_110 : decode cX2_layOut 110 = .ok (.goto (-104), 3) := by decide +kernel
theorem dX2_layOut_113 : decode cX2_layOut 113 = .ok (.iload 5, 2) := by decide +kernel
theorem dX2_layOut_115 : decode cX2_layOut 115 = .ok (.ireturn, 1) := by decide +kernel
theorem dX2_become_0 : decode cX2_become 0 = .ok (.aload_n 0, 1) := by decide +kernel
theorem dX2_become_1 : decode cX2_become 1 = .ok (.aload_n 1, 1) := by decide +kernel
theorem dX2_become_2 : decode cX2_become 2 = .ok (.getfield 27, 3) := by decide +kernel
theorem dX2_become_5 : decode cX2_become 5 = .ok (.putfield 27, 3) := by decide +kernel
theorem dX2_become_8 : decode cX2_become 8 = .ok (.aload_n 1, 1) := by decide +kernel
theorem dX2_become_9 : decode cX2_become 9 = .ok (.getfield 9, 3) := by decide +kernel
theorem dX2_become_12 : decode cX2_become 12 = .ok (.aload_n 0, 1) := by decide +kernel
theorem dX2_become_13 : decode cX2_become 13 = .ok (.getfield 9, 3) := by decide +kernel
theorem dX2_become_16 : decode cX2_become 16 = .ok (.invokestatic 31, 3) := by decide +kernel
theorem dX2_become_19 : decode cX2_become 19 = .ok (.aload_n 1, 1) := by decide +kernel
theorem dX2_become_20 : decode cX2_become 20 = .ok (.getfield 15, 3) := by decide +kernel
theorem dX2_become_23 : decode cX2_become 23 = .ok (.aload_n 0, 1) := by decide +kernel
theorem dX2_become_24 : decode cX2_become 24 = .ok (.getfield 15, 3) := by decide +kernel
theorem dX2_become_27 : decode cX2_become 27 = .ok (.invokestatic 31, 3) := by decide +kernel
theorem dX2_become_30 : decode cX2_become 30 = .ok (.aload_n 1, 1) := by decide +kernel
theorem dX2_become_31 : decode cX2_become 31 = .ok (.getfield 18, 3) := by decide +kernel
theorem dX2_become_34 : decode cX2_become 34 = .ok (.aload_n 0, 1) := by decide +kernel
theorem dX2_become_35 : decode cX2_become 35 = .ok (.getfield 18, 3) := by decide +kernel
theorem dX2_become_38 : decode cX2_become 38 = .ok (.invokestatic 31, 3) := by decide +kernel
theorem dX2_become_41 : decode cX2_become 41 = .ok (.aload_n 1, 1) := by decide +kernel
theorem dX2_become_42 : decode cX2_become 42 = .ok (.getfield 21, 3) := by decide +kernel
theorem dX2_become_45 : decode cX2_become 45 = .ok (.aload_n 0, 1) := by decide +kernel
theorem dX2_become_46 : decode cX2_become 46 = .ok (.getfield 21, 3) := by decide +kernel
theorem dX2_become_49 : decode cX2_become 49 = .ok (.invokestatic 31, 3) := by decide +kernel
theorem dX2_become_52 : decode cX2_become 52 = .ok (.aload_n 1, 1) := by decide +kernel
theorem dX2_become_53 : decode cX2_become 53 = .ok (.getfield 24, 3) := by decide +kernel
theorem dX2_become_56 : decode cX2_become 56 = .ok (.aload_n 0, 1) := by decide +kernel
theorem dX2_become_57 : decode cX2_become 57 = .ok (.getfield 24, 3) := by decide +kernel
theorem dX2_become_60 : decode cX2_become 60 = .ok (.invokestatic 31, 3) := by decide +kernel
theorem dX2_become_63 : decode cX2_become 63 = .ok (.return_, 1) := by decide +kernel
theorem dX3_init_0 : decode cX3_init 0 = .ok (.aload_n 0, 1) := by decide +kernel
theorem dX3_init_1 : decode cX3_init 1 = .ok (.invokespecial 3, 3) := by decide +kernel
theorem dX3_init_4 : decode cX3_init 4 = .ok (.aload_n 0, 1) := by decide +kernel
theorem dX3_init_5 : decode cX3_init 5 = .ok (.bipush 90, 2) := by decide +kernel
theorem dX3_init_7 : decode cX3_init 7 = .ok (.newarray .int, 2) := by decide +kernel
theorem dX3_init_9 : decode cX3_init 9 = .ok (.putfield 9, 3) := by decide +kernel
theorem dX3_init_12 : decode cX3_init 12 = .ok (.aload_n 0, 1) := by decide +kernel
theorem dX3_init_13 : decode cX3_init 13 = .ok (.bipush 90, 2) := by decide +kernel
theorem dX3_init_15 : decode cX3_init 15 = .ok (.newarray .int, 2) := by decide +kernel
theorem dX3_init_17 : decode cX3_init 17 = .ok (.putfield 15, 3) := by decide +kernel
theorem dX3_init_20 : decode cX3_init 20 = .ok (.aload_n 0, 1) := by decide +kernel
theorem dX3_init_21 : decode cX3_init 21 = .ok (.bipush 90, 2) := by decide +kernel
theorem dX3_init_23 : decode cX3_init 23 = .ok (.newarray .int, 2) := by decide +kernel
theorem dX3_init_25 : decode cX3_init 25 = .ok (.putfield 18, 3) := by decide +kernel
theorem dX3_init_28 : decode cX3_init 28 = .ok (.aload_n 0, 1) := by decide +kernel
theorem dX3_init_29 : decode cX3_init 29 = .ok (.bipush 90, 2) := by decide +kernel
theorem dX3_init_31 : decode cX3_init 31 = .ok (.newarray .int, 2) := by decide +kernel
theorem dX3_init_33 : decode cX3_init 33 = .ok (.putfield 21, 3) := by decide +kernel
theorem dX3_init_36 : decode cX3_init 36 = .ok (.aload_n 0, 1) := by decide +kernel
theorem dX3_init_37 : decode cX3_init 37 = .ok (.bipush 90, 2) := by decide +kernel
theorem dX3_init_39 : decode cX3_init 39 = .ok (.newarray .int, 2) := by decide +kernel
theorem dX3_init_41 : decode cX3_init 41 = .ok (.putfield 24, 3) := by decide +kernel
theorem dX3_init_44 : decode cX3_init 44 = .ok (.aload_n 0, 1) := by decide +kernel
theorem dX3_init_45 : decode cX3_init 45 = .ok (.bipush 90, 2) := by decide +kernel
theorem dX3_init_47 : decode cX3_init 47 = .ok (.newarray .int, 2) := by decide +kernel
theorem dX3_init_49 : decode cX3_init 49 = .ok (.putfield 27, 3) := by decide +kernel
theorem dX3_init_52 : decode cX3_init 52 = .ok (.aload_n 0, 1) := by decide +kernel
theorem dX3_init_53 : decode cX3_init 53 = .ok (.bipush 90, 2) := by decide +kernel
theorem dX3_init_55 : decode cX3_init 55 = .ok (.newarray .int, 2) := by decide +kernel
theorem dX3_init_57 : decode cX3_init 57 = .ok (.putfield 30, 3) := by decide +kernel
theorem dX3_init_60 : decode cX3_init 60 = .ok (.aload_n 0, 1) := by decide +kernel
theorem dX3_init_61 : decode cX3_init 61 = .ok (.bipush 90, 2) := by decide +kernel
theorem dX3_init_63 : decode cX3_init 63 = .ok (.newarray .int, 2) := by decide +kernel
theorem dX3_init_65 : decode cX3_init 65 = .ok (.putfield 33, 3) := by decide +kernel
theorem dX3_init_68 : decode cX3_init 68 = .ok (.aload_n 0, 1) := by decide +kernel
theorem dX3_init_69 : decode cX3_init 69 = .ok (.bipush 90, 2) := by decide +kernel
theorem dX3_init_71 : decode cX3_init 71 = .ok (.newarray .int, 2) := by decide +kernel
theorem dX3_init_73 : decode cX3_init 73 = .ok (.putfield 36, 3) := by decide +kernel
theorem dX3_init_76 : decode cX3_init 76 = .ok (.aload_n 0, 1) := by decide +kernel
theorem dX3_init_77 : decode cX3_init 77 = .ok (.bipush 90, 2) := by decide +kernel
theorem dX3_init_79 : decode cX3_init 79 = .ok (.newarray .int, 2) := by decide +kernel
theorem dX3_init_81 : decode cX3_init 81 = .ok (.putfield 39, 3) := by decide +kernel
theorem dX3_init_84 : decode cX3_init 84 = .ok (.aload_n 0, 1) := by decide +kernel
theorem dX3_init_85 : decode cX3_init 85 = .ok (.bipush 90, 2) := by decide +kernel
theorem dX3_init_87 : decode cX3_init 87 = .ok (.newarray .int, 2) := by decide +kernel
theorem dX3_init_89 : decode cX3_init 89 = .ok (.putfield 42, 3) := by decide +kernel
theorem dX3_init_92 : decode cX3_init 92 = .ok (.return_, 1) := by decide +kernel
theorem dX3_has_0 : decode cX3_has 0 = .ok (.iload_n 1, 1) := by decide +kernel
theorem dX3_has_1 : decode cX3_has 1 = .ok (.iconst 0, 1) := by decide +kernel
theorem dX3_has_2 : decode cX3_has 2 = .ok (.aload_n 0, 1) := by decide +kernel
theorem dX3_has_3 : decode cX3_has 3 = .ok (.getfield 45, 3) := by decide +kernel
theorem dX3_has_6 : decode cX3_has 6 = .ok (.iconst 1, 1) := by decide +kernel
theorem dX3_has_7 : decode cX3_has 7 = .ok (.isub, 1) := by decide +kernel
theorem dX3_has_8 : decode cX3_has 8 = .ok (.invokestatic 49, 3) := by decide +kernel
theorem dX3_has_11 : decode cX3_has 11 = .ok (.ireturn, 1) := by decide +kernel
theorem dX3_isKnown_0 : decode cX3_isKnown 0 = .ok (.aload_n 0, 1) := by decide +kernel
theorem dX3_isKnown_1 : decode cX3_isKnown 1 = .ok (.getfield 30, 3) := by decide +kernel
theorem dX3_isKnown_4 : decode cX3_isKnown 4 = .ok (.iload_n 1, 1) := by decide +kernel
theorem dX3_isKnown_5 : decode cX3_isKnown 5 = .ok (.iaload, 1) := by decide +kernel
theorem dX3_isKnown_6 : decode cX3_isKnown 6 = .ok (.iload_n 2, 1) := by decide +kernel
theorem dX3_isKnown_7 : decode cX3_isKnown 7 = .ok (.if_icmp .gt 28, 3) := by decide +kernel
theorem dX3_isKnown_10 : decode cX3_isKnown 10 = .ok (.aload_n 0, 1) := by decide +kernel
theorem dX3_isKnown_11 : decode cX3_isKnown 11 = .ok (.getfield 33, 3) := by decide +kernel
theorem dX3_isKnown_14 : decode cX3_isKnown 14 = .ok (.iload_n 1, 1) := by decide +kernel
theorem dX3_isKnown_15 : decode cX3_isKnown 15 = .ok (.iaload, 1) := by decide +kernel
theorem dX3_isKnown_16 : decode cX3_isKnown 16 = .ok (.ldc 53, 2) := by decide +kernel
theorem dX3_isKnown_18 : decode cX3_isKnown 18 = .ok (.if_icmp .eq 13, 3) := by decide +kernel
theorem dX3_isKnown_21 : decode cX3_isKnown 21 = .ok (.aload_n 0, 1) := by decide +kernel
theorem dX3_isKnown_22 : decode cX3_isKnown 22 = .ok (.getfield 33, 3) := by decide +kernel
theorem dX3_isKnown_25 : decode cX3_isKnown 25 = .ok (.iload_n 1, 1) := by decide +kernel
theorem dX3_isKnown_26 : decode cX3_isKnown 26 = .ok (.iaload, 1) := by decide +kernel
theorem dX3_isKnown_27 : decode cX3_isKnown 27 = .ok (.iload_n 2, 1) := by decide +kernel
theorem dX3_isKnown_28 : decode cX3_isKnown 28 = .ok (.if_icmp .le 7, 3) := by decide +kernel
theorem dX3_isKnown_31 : decode cX3_isKnown 31 = .ok (.iconst 1, 1) := by decide +kernel
theorem dX3_isKnown_32 : decode cX3_isKnown 32 = .ok (.goto 4, 3) := by decide +kernel
theorem dX3_isKnown_35 : decode cX3_isKnown 35 = .ok (.iconst 0, 1) := by decide +kernel
theorem dX3_isKnown_36 : decode cX3_isKnown 36 = .ok (.ireturn, 1) := by decide +kernel
theorem dX3_meet_0 : decode cX3_meet 0 = .ok (.aload_n 0, 1) := by decide +kernel
theorem dX3_meet_1 : decode cX3_meet 1 = .ok (.getfield 18, 3) := by decide +kernel
theorem dX3_meet_4 : decode cX3_meet 4 = .ok (.iload_n 1, 1) := by decide +kernel
theorem dX3_meet_5 : decode cX3_meet 5 = .ok (.iaload, 1) := by decide +kernel
theorem dX3_meet_6 : decode cX3_meet 6 = .ok (.aload_n 0, 1) := by decide +kernel
theorem dX3_meet_7 : decode cX3_meet 7 = .ok (.getfield 18, 3) := by decide +kernel
theorem dX3_meet_10 : decode cX3_meet 10 = .ok (.iload_n 2, 1) := by decide +kernel
theorem dX3_meet_11 : decode cX3_meet 11 = .ok (.iaload, 1) := by decide +kernel
theorem dX3_meet_12 : decode cX3_meet 12 = .ok (.if_icmp .ne 51, 3) := by decide +kernel
theorem dX3_meet_15 : decode cX3_meet 15 = .ok (.aload_n 0, 1) := by decide +kernel
theorem dX3_meet_16 : decode cX3_meet 16 = .ok (.getfield 21, 3) := by decide +kernel
theorem dX3_meet_19 : decode cX3_meet 19 = .ok (.iload_n 1, 1) := by decide +kernel
theorem dX3_meet_20 : decode cX3_meet 20 = .ok (.iaload, 1) := by decide +kernel
theorem dX3_meet_21 : decode cX3_meet 21 = .ok (.aload_n 0, 1) := by decide +kernel
theorem dX3_meet_22 : decode cX3_meet 22 = .ok (.getfield 21, 3) := by decide +kernel
theorem dX3_meet_25 : decode cX3_meet 25 = .ok (.iload_n 2, 1) := by decide +kernel
theorem dX3_meet_26 : decode cX3_meet 26 = .ok (.iaload, 1) := by decide +kernel
theorem dX3_meet_27 : decode cX3_meet 27 = .ok (.aload_n 0, 1) := by decide +kernel
theorem dX3_meet_28 : decode cX3_meet 28 = .ok (.getfield 24, 3) := by decide +kernel
theorem dX3_meet_31 : decode cX3_meet 31 = .ok (.iload_n 2, 1) := by decide +kernel
theorem dX3_meet_32 : decode cX3_meet 32 = .ok (.iaload, 1) := by decide +kernel
theorem dX3_meet_33 : decode cX3_meet 33 = .ok (.iadd, 1) := by decide +kernel
theorem dX3_meet_34 : decode cX3_meet 34 = .ok (.if_icmp .ge 29, 3) := by decide +kernel
theorem dX3_meet_37 : decode cX3_meet 37 = .ok (.aload_n 0, 1) := by decide +kernel
theorem dX3_meet_38 : decode cX3_meet 38 = .ok (.getfield 21, 3) := by decide +kernel
theorem dX3_meet_41 : decode cX3_meet 41 = .ok (.iload_n 2, 1) := by decide +kernel
theorem dX3_meet_42 : decode cX3_meet 42 = .ok (.iaload, 1) := by decide +kernel
theorem dX3_meet_43 : decode cX3_meet 43 = .ok (.aload_n 0, 1) := by decide +kernel
theorem dX3_meet_44 : decode cX3_meet 44 = .ok (.getfield 21, 3) := by decide +kernel
theorem dX3_meet_47 : decode cX3_meet 47 = .ok (.iload_n 1, 1) := by decide +kernel
theorem dX3_meet_48 : decode cX3_meet 48 = .ok (.iaload, 1) := by decide +kernel
theorem dX3_meet_49 : decode cX3_meet 49 = .ok (.aload_n 0, 1) := by decide +kernel
theorem dX3_meet_50 : decode cX3_meet 50 = .ok (.getfield 24, 3) := by decide +kernel
theorem dX3_meet_53 : decode cX3_meet 53 = .ok (.iload_n 1, 1) := by decide +kernel
theorem dX3_meet_54 : decode cX3_meet 54 = .ok (.iaload, 1) := by decide +kernel
theorem dX3_meet_55 : decode cX3_meet 55 = .ok (.iadd, 1) := by decide +kernel
theorem dX3_meet_56 : decode cX3_meet 56 = .ok (.if_icmp .ge 7, 3) := by decide +kernel
theorem dX3_meet_59 : decode cX3_meet 59 = .ok (.iconst 1, 1) := by decide +kernel
theorem dX3_meet_60 : decode cX3_meet 60 = .ok (.goto 4, 3) := by decide +kernel
theorem dX3_meet_63 : decode cX3_meet 63 = .ok (.iconst 0, 1) := by decide +kernel
theorem dX3_meet_64 : decode cX3_meet 64 = .ok (.ireturn, 1) := by decide +kernel
theorem dX3_layOut_0 : decode cX3_layOut 0 = .ok (.iconst 0, 1) := by decide +kernel
theorem dX3_layOut_1 : decode cX3_layOut 1 = .ok (.istore 5, 2) := by decide +kernel
theorem dX3_layOut_3 : decode cX3_layOut 3 = .ok (.iconst 0, 1) := by decide +kernel
theorem dX3_layOut_4 : decode cX3_layOut 4 = .ok (.istore 6, 2) := by decide +kernel
theorem dX3_layOut_6 : decode cX3_layOut 6 = .ok (.iload 6, 2) := by decide +kernel
theorem dX3_layOut_8 : decode cX3_layOut 8 = .ok (.aload_n 0, 1) := by decide +kernel
theorem dX3_layOut_9 : decode cX3_layOut 9 = .ok (.getfield 45, 3) := by decide +kernel
theorem dX3_layOut_12 : decode cX3_layOut 12 = .ok (.if_icmp .ge 109, 3) := by decide +kernel
theorem dX3_layOut_15 : decode cX3_layOut 15 = .ok (.aload_n 0, 1) := by decide +kernel
theorem dX3_layOut_16 : decode cX3_layOut 16 = .ok (.getfield 9, 3) := by decide +kernel
theorem dX3_layOut_19 : decode cX3_layOut 19 = .ok (.iload 6, 2) := by decide +kernel
theorem dX3_layOut_21 : decode cX3_layOut 21 = .ok (.iaload, 1) := by decide +kernel
theorem dX3_layOut_22 : decode cX3_layOut 22 = .ok (.iload_n 1, 1) := by decide +kernel
theorem dX3_layOut_23 : decode cX3_layOut 23 = .ok (.if_icmp .ne 92, 3) := by decide +kernel
theorem dX3_layOut_26 : decode cX3_layOut 26 = .ok (.aload_n 0, 1) := by decide +kernel
theorem dX3_layOut_27 : decode cX3_layOut 27 = .ok (.getfield 18, 3) := by decide +kernel
theorem dX3_layOut_30 : decode cX3_layOut 30 = .ok (.iload 6, 2) := by decide +kernel
theorem dX3_layOut_32 : decode cX3_layOut 32 = .ok (.iaload, 1) := by decide +kernel
theorem dX3_layOut_33 : decode cX3_layOut 33 = .ok (.iload_n 2, 1) := by decide +kernel
theorem dX3_layOut_34 : decode cX3_layOut 34 = .ok (.if_icmp .ne 81, 3) := by decide +kernel
theorem dX3_layOut_37 : decode cX3_layOut 37 = .ok (.aload_n 0, 1) := by decide +kernel
theorem dX3_layOut_38 : decode cX3_layOut 38 = .ok (.iload 6, 2) := by decide +kernel
theorem dX3_layOut_40 : decode cX3_layOut 40 = .ok (.iload_n 3, 1) := by decide +kernel
theorem dX3_layOut_41 : decode cX3_layOut 41 = .ok (.invokevirtual 54, 3) := by decide +kernel
theorem dX3_layOut_44 : decode cX3_layOut 44 = .ok (.ifCond .eq 71, 3) := by decide +kernel
theorem dX3_layOut_47 : decode cX3_layOut 47 = .ok (.aload_n 0, 1) := by decide +kernel
theorem dX3_layOut_48 : decode cX3_layOut 48 = .ok (.getfield 21, 3) := by decide +kernel
theorem dX3_layOut_51 : decode cX3_layOut 51 = .ok (.iload 6, 2) := by decide +kernel
theorem dX3_layOut_53 : decode cX3_layOut 53 = .ok (.iaload, 1) := by decide +kernel
theorem dX3_layOut_54 : decode cX3_layOut 54 = .ok (.aload_n 0, 1) := by decide +kernel
theorem dX3_layOut_55 : decode cX3_layOut 55 = .ok (.getfield 24, 3) := by decide +kernel
theorem dX3_layOut_58 : decode cX3_layOut 58 = .ok (.iload 6, 2) := by decide +kernel
theorem dX3_layOut_60 : decode cX3_layOut 60 = .ok (.iaload, 1) := by decide +kernel
theorem dX3_layOut_61 : decode cX3_layOut 61 = .ok (.iadd, 1) := by decide +kernel
theorem dX3_layOut_62 : decode cX3_layOut 62 = .ok (.istore 7, 2) := by decide +kernel
theorem dX3_layOut_64 : decode cX3_layOut 64 = .ok (.aload_n 0, 1) := by decide +kernel
theorem dX3_layOut_65 : decode cX3_layOut 65 = .ok (.getfield 21, 3) := by decide +kernel
theorem dX3_layOut_68 : decode cX3_layOut 68 = .ok (.iload 6, 2) := by decide +kernel
theorem dX3_layOut_70 : decode cX3_layOut 70 = .ok (.iaload, 1) := by decide +kernel
theorem dX3_layOut_71 : decode cX3_layOut 71 = .ok (.istore 8, 2) := by decide +kernel
theorem dX3_layOut_73 : decode cX3_layOut 73 = .ok (.iload 8, 2) := by decide +kernel
theorem dX3_layOut_75 : decode cX3_layOut 75 = .ok (.iload 7, 2) := by decide +kernel
theorem dX3_layOut_77 : decode cX3_layOut 77 = .ok (.if_icmp .ge 26, 3) := by decide +kernel
theorem dX3_layOut_80 : decode cX3_layOut 80 = .ok (.iload 8, 2) := by decide +kernel
theorem dX3_layOut_82 : decode cX3_layOut 82 = .ok (.aload 4, 2) := by decide +kernel
theorem dX3_layOut_84 : decode cX3_layOut 84 = .ok (.arraylength, 1) := by decide +kernel
theorem dX3_layOut_85 : decode cX3_layOut 85 = .ok (.if_icmp .ge 18, 3) := by decide +kernel
theorem dX3_layOut_88 : decode cX3_layOut 88 = .ok (.aload 4, 2) := by decide +kernel
theorem dX3_layOut_90 : decode cX3_layOut 90 = .ok (.iload 8, 2) := by decide +kernel
theorem dX3_layOut_92 : decode cX3_layOut 92 = .ok (.dup2, 1) := by decide +kernel
theorem dX3_layOut_93 : decode cX3_layOut 93 = .ok (.iaload, 1) := by decide +kernel
theorem dX3_layOut_94 : decode cX3_layOut 94 = .ok (.iconst 1, 1) := by decide +kernel
theorem dX3_layOut_95 : decode cX3_layOut 95 = .ok (.iadd, 1) := by decide +kernel
theorem dX3_layOut_96 : decode cX3_layOut 96 = .ok (.iastore, 1) := by decide +kernel
theorem dX3_layOut_97 : decode cX3_layOut 97 = .ok (.iinc 8 1, 3) := by decide +kernel
theorem dX3_layOut_100 : decode cX3_layOut 100 = .ok (.goto (-27), 3) := by decide +kernel
theorem dX3_layOut_103 : decode cX3_layOut 103 = .ok (.iload 5, 2) := by decide +kernel
theorem dX3_layOut_105 : decode cX3_layOut 105 = .ok (.aload_n 0, 1) := by decide +kernel
theorem dX3_layOut_106 : decode cX3_layOut 106 = .ok (.getfield 24, 3) := by decide +kernel
theorem dX3_layOut_109 : decode cX3_layOut 109 = .ok (.iload 6, 2) := by decide +kernel
theorem dX3_layOut_111 : decode cX3_layOut 111 = .ok (.iaload, 1) := by decide +kernel
theorem dX3_layOut_112 : decode cX3_layOut 112 = .ok (.iadd, 1) := by decide +kernel
theorem dX3_layOut_113 : decode cX3_layOut 113 = .ok (.istore 5, 2) := by decide +kernel
theorem dX3_layOut_115 : decode cX3_layOut 115 = .ok (.iinc 6 1, 3) := by decide +kernel
theorem dX3_layOut_118 : decode cX3_layOut 118 = .ok (.goto (-112), 3) := by decide +kernel
theorem dX3_layOut_121 : decode cX3_layOut 121 = .ok (.iload 5, 2) := by decide +kernel
theorem dX3_layOut_123 : decode cX3_layOut 123 = .ok (.ireturn, 1) := by decide +kernel
theorem dX3_become_0 : decode cX3_become 0 = .ok (.aload_n 0, 1) := by decide +kernel
theorem dX3_become_1 : decode cX3_become 1 = .ok (.aload_n 1, 1) := by decide +kernel
theorem dX3_become_2 : decode cX3_become 2 = .ok (.getfield 45, 3) := by decide +kernel
theorem dX3_become_5 : decode cX3_become 5 = .ok (.putfield 45, 3) := by decide +kernel
theorem dX3_become_8 : decode cX3_become 8 = .ok (.aload_n 1, 1) := by decide +kernel
theorem dX3_become_9 : decode cX3_become 9 = .ok (.getfield 9, 3) := by decide +kernel
theorem dX3_become_12 : decode cX3_become 12 = .ok (.aload_n 0, 1) := by decide +kernel
theorem dX3_become_13 : decode cX3_become 13 = .ok (.getfield 9, 3) := by decide +kernel
theorem dX3_become_16 : decode cX3_become 16 = .ok (.invokestatic 58, 3) := by decide +kernel
theorem dX3_become_19 : decode cX3_become 19 = .ok (.aload_n 1, 1) := by decide +kernel
theorem dX3_become_20 : decode cX3_become 20 = .ok (.getfield 15, 3) := by decide +kernel
theorem dX3_become_23 : decode cX3_become 23 = .ok (.aload_n 0, 1) := by decide +kernel
theorem dX3_become_24 : decode cX3_become 24 = .ok (.getfield 15, 3) := by decide +kernel
theorem dX3_become_27 : decode cX3_become 27 = .ok (.invokestatic 58, 3) := by decide +kernel
theorem dX3_become_30 : decode cX3_become 30 = .ok (.aload_n 1, 1) := by decide +kernel
theorem dX3_become_31 : decode cX3_become 31 = .ok (.getfield 18, 3) := by decide +kernel
theorem dX3_become_34 : decode cX3_become 34 = .ok (.aload_n 0, 1) := by decide +kernel
theorem dX3_become_35 : decode cX3_become 35 = .ok (.getfield 18, 3) := by decide +kernel
theorem dX3_become_38 : decode cX3_become 38 = .ok (.invokestatic 58, 3) := by decide +kernel
theorem dX3_become_41 : decode cX3_become 41 = .ok (.aload_n 1, 1) := by decide +kernel
theorem dX3_become_42 : decode cX3_become 42 = .ok (.getfield 21, 3) := by decide +kernel
theorem dX3_become_45 : decode cX3_become 45 = .ok (.aload_n 0, 1) := by decide +kernel
theorem dX3_become_46 : decode cX3_become 46 = .ok (.getfield 21, 3) := by decide +kernel
theorem dX3_become_49 : decode cX3_become 49 = .ok (.invokestatic 58, 3) := by decide +kernel
theorem dX3_become_52 : decode cX3_become 52 = .ok (.aload_n 1, 1) := by decide +kernel
theorem dX3_become_53 : decode cX3_become 53 = .ok (.getfield 24, 3) := by decide +kernel
theorem dX3_become_56 : decode cX3_become 56 = .ok (.aload_n 0, 1) := by decide +kernel
theorem dX3_become_57 : decode cX3_become 57 = .ok (.getfield 24, 3) := by decide +kernel
theorem dX3_become_60 : decode cX3_become 60 = .ok (.invokestatic 58, 3) := by decide +kernel
theorem dX3_become_63 : decode cX3_become 63 = .ok (.aload_n 1, 1) := by decide +kernel
theorem dX3_become_64 : decode cX3_become 64 = .ok (.getfield 27, 3) := by decide +kernel
theorem dX3_become_67 : decode cX3_become 67 = .ok (.aload_n 0, 1) := by decide +kernel
theorem dX3_become_68 : decode cX3_become 68 = .ok (.getfield 27, 3) := by decide +kernel
theorem dX3_become_71 : decode cX3_become 71 = .ok (.invokestatic 58, 3) := by decide +kernel
theorem dX3_become_74 : decode cX3_become 74 = .ok (.aload_n 1, 1) := by decide +kernel
theorem dX3_become_75 : decode cX3_become 75 = .ok (.getfield 30, 3) := by decide +kernel
theorem dX3_become_78 : decode cX3_become 78 = .ok (.aload_n 0, 1) := by decide +kernel
theorem dX3_become_79 : decode cX3_become 79 = .ok (.getfield 30, 3) := by decide +kernel
theorem dX3_become_82 : decode cX3_become 82 = .ok (.invokestatic 58, 3) := by decide +kernel
theorem dX3_become_85 : decode cX3_become 85 = .ok (.aload_n 1, 1) := by decide +kernel
theorem dX3_become_86 : decode cX3_become 86 = .ok (.getfield 33, 3) := by decide +kernel
theorem dX3_become_89 : decode cX3_become 89 = .ok (.aload_n 0, 1) := by decide +kernel
theorem dX3_become_90 : decode cX3_become 90 = .ok (.getfield 33, 3) := by decide +kernel
theorem dX3_become_93 : decode cX3_become 93 = .ok (.invokestatic 58, 3) := by decide +kernel
theorem dX3_become_96 : decode cX3_become 96 = .ok (.aload_n 1, 1) := by decide +kernel
theorem dX3_become_97 : decode cX3_become 97 = .ok (.getfield 36, 3) := by decide +kernel
theorem dX3_become_100 : decode cX3_become 100 = .ok (.aload_n 0, 1) := by decide +kernel
theorem dX3_become_101 : decode cX3_become 101 = .ok (.getfield 36, 3) := by decide +kernel
theorem dX3_become_104 : decode cX3_become 104 = .ok (.invokestatic 58, 3) := by decide +kernel
theorem dX3_become_107 : decode cX3_become 107 = .ok (.aload_n 1, 1) := by decide +kernel
theorem dX3_become_108 : decode cX3_become 108 = .ok (.getfield 39, 3) := by decide +kernel
theorem dX3_become_111 : decode cX3_become 111 = .ok (.aload_n 0, 1) := by decide +kernel
theorem dX3_become_112 : decode cX3_become 112 = .ok (.getfield 39, 3) := by decide +kernel
theorem dX3_become_115 : decode cX3_become 115 = .ok (.invokestatic 58, 3) := by decide +kernel
theorem dX3_become_118 : decode cX3_become 118 = .ok (.aload_n 1, 1) := by decide +kernel
theorem dX3_become_119 : decode cX3_become 119 = .ok (.getfield 42, 3) := by decide +kernel
theorem dX3_become_122 : decode cX3_become 122 = .ok (.aload_n 0, 1) := by decide +kernel
theorem dX3_become_123 : decode cX3_become 123 = .ok (.getfield 42, 3) := by decide +kernel
theorem dX3_become_126 : decode cX3_become 126 = .ok (.invokestatic 58, 3) := by decide +kernel
theorem dX3_become_129 : decode cX3_become 129 = .ok (.return_, 1) := by decide +kernel
theorem dX4_init_0 : decode cX4_init 0 = .ok (.aload_n 0, 1) := by decide +kernel
theorem dX4_init_1 : decode cX4_init 1 = .ok (.invokespecial 1, 3) := by decide +kernel
theorem dX4_init_4 : decode cX4_init 4 = .ok (.aload_n 0, 1) := by decide +kernel
theorem dX4_init_5 : decode cX4_init 5 = .ok (.new 7, 3) := by decide +kernel
theorem dX4_init_8 : decode cX4_init 8 = .ok (.dup, 1) := by decide +kernel
theorem dX4_init_9 : decode cX4_init 9 = .ok (.invokespecial 9, 3) := by decide +kernel
theorem dX4_init_12 : decode cX4_init 12 = .ok (.putfield 10, 3) := by decide +kernel
theorem dX4_init_15 : decode cX4_init 15 = .ok (.aload_n 0, 1) := by decide +kernel
theorem dX4_init_16 : decode cX4_init 16 = .ok (.new 16, 3) := by decide +kernel
theorem dX4_init_19 : decode cX4_init 19 = .ok (.dup, 1) := by decide +kernel
theorem dX4_init_20 : decode cX4_init 20 = .ok (.invokespecial 18, 3) := by decide +kernel
theorem dX4_init_23 : decode cX4_init 23 = .ok (.putfield 19, 3) := by decide +kernel
theorem dX4_init_26 : decode cX4_init 26 = .ok (.aload_n 0, 1) := by decide +kernel
theorem dX4_init_27 : decode cX4_init 27 = .ok (.new 23, 3) := by decide +kernel
theorem dX4_init_30 : decode cX4_init 30 = .ok (.dup, 1) := by decide +kernel
theorem dX4_init_31 : decode cX4_init 31 = .ok (.invokespecial 25, 3) := by decide +kernel
theorem dX4_init_34 : decode cX4_init 34 = .ok (.putfield 26, 3) := by decide +kernel
theorem dX4_init_37 : decode cX4_init 37 = .ok (.aload_n 0, 1) := by decide +kernel
theorem dX4_init_38 : decode cX4_init 38 = .ok (.new 30, 3) := by decide +kernel
theorem dX4_init_41 : decode cX4_init 41 = .ok (.dup, 1) := by decide +kernel
theorem dX4_init_42 : decode cX4_init 42 = .ok (.invokespecial 32, 3) := by decide +kernel
theorem dX4_init_45 : decode cX4_init 45 = .ok (.putfield 33, 3) := by decide +kernel
theorem dX4_init_48 : decode cX4_init 48 = .ok (.aload_n 0, 1) := by decide +kernel
theorem dX4_init_49 : decode cX4_init 49 = .ok (.new 37, 3) := by decide +kernel
theorem dX4_init_52 : decode cX4_init 52 = .ok (.dup, 1) := by decide +kernel
theorem dX4_init_53 : decode cX4_init 53 = .ok (.invokespecial 39, 3) := by decide +kernel
theorem dX4_init_56 : decode cX4_init 56 = .ok (.putfield 40, 3) := by decide +kernel
theorem dX4_init_59 : decode cX4_init 59 = .ok (.aload_n 0, 1) := by decide +kernel
theorem dX4_init_60 : decode cX4_init 60 = .ok (.new 44, 3) := by decide +kernel
theorem dX4_init_63 : decode cX4_init 63 = .ok (.dup, 1) := by decide +kernel
theorem dX4_init_64 : decode cX4_init 64 = .ok (.invokespecial 46, 3) := by decide +kernel
theorem dX4_init_67 : decode cX4_init 67 = .ok (.putfield 47, 3) := by decide +kernel
theorem dX4_init_70 : decode cX4_init 70 = .ok (.aload_n 0, 1) := by decide +kernel
theorem dX4_init_71 : decode cX4_init 71 = .ok (.new 51, 3) := by decide +kernel
theorem dX4_init_74 : decode cX4_init 74 = .ok (.dup, 1) := by decide +kernel
theorem dX4_init_75 : decode cX4_init 75 = .ok (.invokespecial 53, 3) := by decide +kernel
theorem dX4_init_78 : decode cX4_init 78 = .ok (.putfield 54, 3) := by decide +kernel
theorem dX4_init_81 : decode cX4_init 81 = .ok (.aload_n 0, 1) := by decide +kernel
theorem dX4_init_82 : decode cX4_init 82 = .ok (.iconst 3, 1) := by decide +kernel
theorem dX4_init_83 : decode cX4_init 83 = .ok (.newarray .int, 2) := by decide +kernel
theorem dX4_init_85 : decode cX4_init 85 = .ok (.dup, 1) := by decide +kernel
theorem dX4_init_86 : decode cX4_init 86 = .ok (.iconst 0, 1) := by decide +kernel
theorem dX4_init_87 : decode cX4_init 87 = .ok (.bipush 120, 2) := by decide +kernel
theorem dX4_init_89 : decode cX4_init 89 = .ok (.iastore, 1) := by decide +kernel
theorem dX4_init_90 : decode cX4_init 90 = .ok (.dup, 1) := by decide +kernel
theorem dX4_init_91 : decode cX4_init 91 = .ok (.iconst 1, 1) := by decide +kernel
theorem dX4_init_92 : decode cX4_init 92 = .ok (.bipush 8, 2) := by decide +kernel
theorem dX4_init_94 : decode cX4_init 94 = .ok (.iastore, 1) := by decide +kernel
theorem dX4_init_95 : decode cX4_init 95 = .ok (.dup, 1) := by decide +kernel
theorem dX4_init_96 : decode cX4_init 96 = .ok (.iconst 2, 1) := by decide +kernel
theorem dX4_init_97 : decode cX4_init 97 = .ok (.bipush 30, 2) := by decide +kernel
theorem dX4_init_99 : decode cX4_init 99 = .ok (.iastore, 1) := by decide +kernel
theorem dX4_init_100 : decode cX4_init 100 = .ok (.putfield 58, 3) := by decide +kernel
theorem dX4_init_103 : decode cX4_init 103 = .ok (.return_, 1) := by decide +kernel
theorem dX4_become_0 : decode cX4_become 0 = .ok (.aload_n 0, 1) := by decide +kernel
theorem dX4_become_1 : decode cX4_become 1 = .ok (.getfield 10, 3) := by decide +kernel
theorem dX4_become_4 : decode cX4_become 4 = .ok (.aload_n 1, 1) := by decide +kernel
theorem dX4_become_5 : decode cX4_become 5 = .ok (.getfield 10, 3) := by decide +kernel
theorem dX4_become_8 : decode cX4_become 8 = .ok (.invokevirtual 62, 3) := by decide +kernel
theorem dX4_become_11 : decode cX4_become 11 = .ok (.aload_n 0, 1) := by decide +kernel
theorem dX4_become_12 : decode cX4_become 12 = .ok (.getfield 19, 3) := by decide +kernel
theorem dX4_become_15 : decode cX4_become 15 = .ok (.aload_n 1, 1) := by decide +kernel
theorem dX4_become_16 : decode cX4_become 16 = .ok (.getfield 19, 3) := by decide +kernel
theorem dX4_become_19 : decode cX4_become 19 = .ok (.invokevirtual 66, 3) := by decide +kernel
theorem dX4_become_22 : decode cX4_become 22 = .ok (.aload_n 0, 1) := by decide +kernel
theorem dX4_become_23 : decode cX4_become 23 = .ok (.getfield 26, 3) := by decide +kernel
theorem dX4_become_26 : decode cX4_become 26 = .ok (.aload_n 1, 1) := by decide +kernel
theorem dX4_become_27 : decode cX4_become 27 = .ok (.getfield 26, 3) := by decide +kernel
theorem dX4_become_30 : decode cX4_become 30 = .ok (.invokevirtual 69, 3) := by decide +kernel
theorem dX4_become_33 : decode cX4_become 33 = .ok (.aload_n 0, 1) := by decide +kernel
theorem dX4_become_34 : decode cX4_become 34 = .ok (.getfield 33, 3) := by decide +kernel
theorem dX4_become_37 : decode cX4_become 37 = .ok (.aload_n 1, 1) := by decide +kernel
theorem dX4_become_38 : decode cX4_become 38 = .ok (.getfield 33, 3) := by decide +kernel
theorem dX4_become_41 : decode cX4_become 41 = .ok (.invokevirtual 72, 3) := by decide +kernel
theorem dX4_become_44 : decode cX4_become 44 = .ok (.aload_n 0, 1) := by decide +kernel
theorem dX4_become_45 : decode cX4_become 45 = .ok (.getfield 40, 3) := by decide +kernel
theorem dX4_become_48 : decode cX4_become 48 = .ok (.aload_n 1, 1) := by decide +kernel
theorem dX4_become_49 : decode cX4_become 49 = .ok (.getfield 40, 3) := by decide +kernel
theorem dX4_become_52 : decode cX4_become 52 = .ok (.invokevirtual 75, 3) := by decide +kernel
theorem dX4_become_55 : decode cX4_become 55 = .ok (.aload_n 0, 1) := by decide +kernel
theorem dX4_become_56 : decode cX4_become 56 = .ok (.getfield 47, 3) := by decide +kernel
theorem dX4_become_59 : decode cX4_become 59 = .ok (.aload_n 1, 1) := by decide +kernel
theorem dX4_become_60 : decode cX4_become 60 = .ok (.getfield 47, 3) := by decide +kernel
theorem dX4_become_63 : decode cX4_become 63 = .ok (.invokevirtual 78, 3) := by decide +kernel
theorem dX4_become_66 : decode cX4_become 66 = .ok (.aload_n 0, 1) := by decide +kernel
theorem dX4_become_67 : decode cX4_become 67 = .ok (.getfield 54, 3) := by decide +kernel
theorem dX4_become_70 : decode cX4_become 70 = .ok (.aload_n 1, 1) := by decide +kernel
theorem dX4_become_71 : decode cX4_become 71 = .ok (.getfield 54, 3) := by decide +kernel
theorem dX4_become_74 : decode cX4_become 74 = .ok (.invokevirtual 81, 3) := by decide +kernel
theorem dX4_become_77 : decode cX4_become 77 = .ok (.aload_n 1, 1) := by decide +kernel
theorem dX4_become_78 : decode cX4_become 78 = .ok (.getfield 58, 3) := by decide +kernel
theorem dX4_become_81 : decode cX4_become 81 = .ok (.aload_n 0, 1) := by decide +kernel
theorem dX4_become_82 : decode cX4_become 82 = .ok (.getfield 58, 3) := by decide +kernel
theorem dX4_become_85 : decode cX4_become 85 = .ok (.invokestatic 84, 3) := by decide +kernel
theorem dX4_become_88 : decode cX4_become 88 = .ok (.aload_n 0, 1) := by decide +kernel
theorem dX4_become_89 : decode cX4_become 89 = .ok (.aload_n 1, 1) := by decide +kernel
theorem dX4_become_90 : decode cX4_become 90 = .ok (.getfield 90, 3) := by decide +kernel
theorem dX4_become_93 : decode cX4_become 93 = .ok (.putfield 90, 3) := by decide +kernel
theorem dX4_become_96 : decode cX4_become 96 = .ok (.return_, 1) := by decide +kernel
theorem dX5_init_0 : decode cX5_init 0 = .ok (.aload_n 0, 1) := by decide +kernel
theorem dX5_init_1 : decode cX5_init 1 = .ok (.invokespecial 3, 3) := by decide +kernel
theorem dX5_init_4 : decode cX5_init 4 = .ok (.aload_n 0, 1) := by decide +kernel
theorem dX5_init_5 : decode cX5_init 5 = .ok (.bipush 10, 2) := by decide +kernel
theorem dX5_init_7 : decode cX5_init 7 = .ok (.newarray .int, 2) := by decide +kernel
theorem dX5_init_9 : decode cX5_init 9 = .ok (.putfield 9, 3) := by decide +kernel
theorem dX5_init_12 : decode cX5_init 12 = .ok (.aload_n 0, 1) := by decide +kernel
theorem dX5_init_13 : decode cX5_init 13 = .ok (.bipush 10, 2) := by decide +kernel
theorem dX5_init_15 : decode cX5_init 15 = .ok (.newarray .int, 2) := by decide +kernel
theorem dX5_init_17 : decode cX5_init 17 = .ok (.putfield 15, 3) := by decide +kernel
theorem dX5_init_20 : decode cX5_init 20 = .ok (.aload_n 0, 1) := by decide +kernel
theorem dX5_init_21 : decode cX5_init 21 = .ok (.bipush 10, 2) := by decide +kernel
theorem dX5_init_23 : decode cX5_init 23 = .ok (.newarray .int, 2) := by decide +kernel
theorem dX5_init_25 : decode cX5_init 25 = .ok (.putfield 18, 3) := by decide +kernel
theorem dX5_init_28 : decode cX5_init 28 = .ok (.aload_n 0, 1) := by decide +kernel
theorem dX5_init_29 : decode cX5_init 29 = .ok (.bipush 10, 2) := by decide +kernel
theorem dX5_init_31 : decode cX5_init 31 = .ok (.newarray .int, 2) := by decide +kernel
theorem dX5_init_33 : decode cX5_init 33 = .ok (.putfield 21, 3) := by decide +kernel
theorem dX5_init_36 : decode cX5_init 36 = .ok (.aload_n 0, 1) := by decide +kernel
theorem dX5_init_37 : decode cX5_init 37 = .ok (.bipush 30, 2) := by decide +kernel
theorem dX5_init_39 : decode cX5_init 39 = .ok (.newarray .int, 2) := by decide +kernel
theorem dX5_init_41 : decode cX5_init 41 = .ok (.putfield 24, 3) := by decide +kernel
theorem dX5_init_44 : decode cX5_init 44 = .ok (.aload_n 0, 1) := by decide +kernel
theorem dX5_init_45 : decode cX5_init 45 = .ok (.bipush 30, 2) := by decide +kernel
theorem dX5_init_47 : decode cX5_init 47 = .ok (.newarray .int, 2) := by decide +kernel
theorem dX5_init_49 : decode cX5_init 49 = .ok (.putfield 27, 3) := by decide +kernel
theorem dX5_init_52 : decode cX5_init 52 = .ok (.aload_n 0, 1) := by decide +kernel
theorem dX5_init_53 : decode cX5_init 53 = .ok (.bipush 80, 2) := by decide +kernel
theorem dX5_init_55 : decode cX5_init 55 = .ok (.newarray .int, 2) := by decide +kernel
theorem dX5_init_57 : decode cX5_init 57 = .ok (.putfield 30, 3) := by decide +kernel
theorem dX5_init_60 : decode cX5_init 60 = .ok (.aload_n 0, 1) := by decide +kernel
theorem dX5_init_61 : decode cX5_init 61 = .ok (.bipush 10, 2) := by decide +kernel
theorem dX5_init_63 : decode cX5_init 63 = .ok (.newarray .int, 2) := by decide +kernel
theorem dX5_init_65 : decode cX5_init 65 = .ok (.putfield 33, 3) := by decide +kernel
theorem dX5_init_68 : decode cX5_init 68 = .ok (.aload_n 0, 1) := by decide +kernel
theorem dX5_init_69 : decode cX5_init 69 = .ok (.bipush 10, 2) := by decide +kernel
theorem dX5_init_71 : decode cX5_init 71 = .ok (.newarray .int, 2) := by decide +kernel
theorem dX5_init_73 : decode cX5_init 73 = .ok (.putfield 36, 3) := by decide +kernel
theorem dX5_init_76 : decode cX5_init 76 = .ok (.aload_n 0, 1) := by decide +kernel
theorem dX5_init_77 : decode cX5_init 77 = .ok (.bipush 60, 2) := by decide +kernel
theorem dX5_init_79 : decode cX5_init 79 = .ok (.newarray .int, 2) := by decide +kernel
theorem dX5_init_81 : decode cX5_init 81 = .ok (.putfield 39, 3) := by decide +kernel
theorem dX5_init_84 : decode cX5_init 84 = .ok (.return_, 1) := by decide +kernel
theorem dX5_has_0 : decode cX5_has 0 = .ok (.iload_n 1, 1) := by decide +kernel
theorem dX5_has_1 : decode cX5_has 1 = .ok (.iconst 0, 1) := by decide +kernel
theorem dX5_has_2 : decode cX5_has 2 = .ok (.aload_n 0, 1) := by decide +kernel
theorem dX5_has_3 : decode cX5_has 3 = .ok (.getfield 42, 3) := by decide +kernel
theorem dX5_has_6 : decode cX5_has 6 = .ok (.iconst 1, 1) := by decide +kernel
theorem dX5_has_7 : decode cX5_has 7 = .ok (.isub, 1) := by decide +kernel
theorem dX5_has_8 : decode cX5_has 8 = .ok (.invokestatic 46, 3) := by decide +kernel
theorem dX5_has_11 : decode cX5_has 11 = .ok (.ireturn, 1) := by decide +kernel
theorem dX5_begin_0 : decode cX5_begin 0 = .ok (.aload_n 0, 1) := by decide +kernel
theorem dX5_begin_1 : decode cX5_begin 1 = .ok (.getfield 42, 3) := by decide +kernel
theorem dX5_begin_4 : decode cX5_begin 4 = .ok (.istore 4, 2) := by decide +kernel
theorem dX5_begin_6 : decode cX5_begin 6 = .ok (.aload_n 0, 1) := by decide +kernel
theorem dX5_begin_7 : decode cX5_begin 7 = .ok (.getfield 9, 3) := by decide +kernel
theorem dX5_begin_10 : decode cX5_begin 10 = .ok (.iload 4, 2) := by decide +kernel
theorem dX5_begin_12 : decode cX5_begin 12 = .ok (.iload_n 1, 1) := by decide +kernel
theorem dX5_begin_13 : decode cX5_begin 13 = .ok (.iastore, 1) := by decide +kernel
theorem dX5_begin_14 : decode cX5_begin 14 = .ok (.aload_n 0, 1) := by decide +kernel
theorem dX5_begin_15 : decode cX5_begin 15 = .ok (.getfield 15, 3) := by decide +kernel
theorem dX5_begin_18 : decode cX5_begin 18 = .ok (.iload 4, 2) := by decide +kernel
theorem dX5_begin_20 : decode cX5_begin 20 = .ok (.iload_n 2, 1) := by decide +kernel
theorem dX5_begin_21 : decode cX5_begin 21 = .ok (.iastore, 1) := by decide +kernel
theorem dX5_begin_22 : decode cX5_begin 22 = .ok (.aload_n 0, 1) := by decide +kernel
theorem dX5_begin_23 : decode cX5_begin 23 = .ok (.getfield 18, 3) := by decide +kernel
theorem dX5_begin_26 : decode cX5_begin 26 = .ok (.iload 4, 2) := by decide +kernel
theorem dX5_begin_28 : decode cX5_begin 28 = .ok (.iload_n 3, 1) := by decide +kernel
theorem dX5_begin_29 : decode cX5_begin 29 = .ok (.iastore, 1) := by decide +kernel
theorem dX5_begin_30 : decode cX5_begin 30 = .ok (.aload_n 0, 1) := by decide +kernel
theorem dX5_begin_31 : decode cX5_begin 31 = .ok (.iload 4, 2) := by decide +kernel
theorem dX5_begin_33 : decode cX5_begin 33 = .ok (.iconst 0, 1) := by decide +kernel
theorem dX5_begin_34 : decode cX5_begin 34 = .ok (.bipush 100, 2) := by decide +kernel
theorem dX5_begin_36 : decode cX5_begin 36 = .ok (.iload_n 2, 1) := by decide +kernel
theorem dX5_begin_37 : decode cX5_begin 37 = .ok (.imul, 1) := by decide +kernel
theorem dX5_begin_38 : decode cX5_begin 38 = .ok (.iconst 1, 1) := by decide +kernel
theorem dX5_begin_39 : decode cX5_begin 39 = .ok (.iadd, 1) := by decide +kernel
theorem dX5_begin_40 : decode cX5_begin 40 = .ok (.invokevirtual 50, 3) := by decide +kernel
theorem dX5_begin_43 : decode cX5_begin 43 = .ok (.aload_n 0, 1) := by decide +kernel
theorem dX5_begin_44 : decode cX5_begin 44 = .ok (.getfield 21, 3) := by decide +kernel
theorem dX5_begin_47 : decode cX5_begin 47 = .ok (.iload 4, 2) := by decide +kernel
theorem dX5_begin_49 : decode cX5_begin 49 = .ok (.iconst 1, 1) := by decide +kernel
theorem dX5_begin_50 : decode cX5_begin 50 = .ok (.iastore, 1) := by decide +kernel
theorem dX5_begin_51 : decode cX5_begin 51 = .ok (.aload_n 0, 1) := by decide +kernel
theorem dX5_begin_52 : decode cX5_begin 52 = .ok (.getfield 33, 3) := by decide +kernel
theorem dX5_begin_55 : decode cX5_begin 55 = .ok (.iload 4, 2) := by decide +kernel
theorem dX5_begin_57 : decode cX5_begin 57 = .ok (.iconst 0, 1) := by decide +kernel
theorem dX5_begin_58 : decode cX5_begin 58 = .ok (.iastore, 1) := by decide +kernel
theorem dX5_begin_59 : decode cX5_begin 59 = .ok (.aload_n 0, 1) := by decide +kernel
theorem dX5_begin_60 : decode cX5_begin 60 = .ok (.getfield 36, 3) := by decide +kernel
theorem dX5_begin_63 : decode cX5_begin 63 = .ok (.iload 4, 2) := by decide +kernel
theorem dX5_begin_65 : decode cX5_begin 65 = .ok (.iconst 0, 1) := by decide +kernel
theorem dX5_begin_66 : decode cX5_begin 66 = .ok (.iastore, 1) := by decide +kernel
theorem dX5_begin_67 : decode cX5_begin 67 = .ok (.iconst 0, 1) := by decide +kernel
theorem dX5_begin_68 : decode cX5_begin 68 = .ok (.istore 5, 2) := by decide +kernel
theorem dX5_begin_70 : decode cX5_begin 70 = .ok (.iload 5, 2) := by decide +kernel
theorem dX5_begin_72 : decode cX5_begin 72 = .ok (.bipush 8, 2) := by decide +kernel
theorem dX5_begin_74 : decode cX5_begin 74 = .ok (.if_icmp .ge 23, 3) := by decide +kernel
theorem dX5_begin_77 : decode cX5_begin 77 = .ok (.aload_n 0, 1) := by decide +kernel
theorem dX5_begin_78 : decode cX5_begin 78 = .ok (.getfield 30, 3) := by decide +kernel
theorem dX5_begin_81 : decode cX5_begin 81 = .ok (.iload 4, 2) := by decide +kernel
theorem dX5_begin_83 : decode cX5_begin 83 = .ok (.bipush 8, 2) := by decide +kernel
theorem dX5_begin_85 : decode cX5_begin 85 = .ok (.imul, 1) := by decide +kernel
theorem dX5_begin_86 : decode cX5_begin 86 = .ok (.iload 5, 2) := by decide +kernel
theorem dX5_begin_88 : decode cX5_begin 88 = .ok (.iadd, 1) := by decide +kernel
theorem dX5_begin_89 : decode cX5_begin 89 = .ok (.iconst 0, 1) := by decide +kernel
theorem dX5_begin_90 : decode cX5_begin 90 = .ok (.iastore, 1) := by decide +kernel
theorem dX5_begin_91 : decode cX5_begin 91 = .ok (.iinc 5 1, 3) := by decide +kernel
theorem dX5_begin_94 : decode cX5_begin 94 = .ok (.goto (-24), 3) := by decide +kernel
theorem dX5_begin_97 : decode cX5_begin 97 = .ok (.iconst 0, 1) := by decide +kernel
theorem dX5_begin_98 : decode cX5_begin 98 = .ok (.istore 5, 2) := by decide +kernel
theorem dX5_begin_100 : decode cX5_begin 100 = .ok (.iload 5, 2) := by decide +kernel
theorem dX5_begin_102 : decode cX5_begin 102 = .ok (.bipush 6, 2) := by decide +kernel
theorem dX5_begin_104 : decode cX5_begin 104 = .ok (.if_icmp .ge 23, 3) := by decide +kernel
theorem dX5_begin_107 : decode cX5_begin 107 = .ok (.aload_n 0, 1) := by decide +kernel
theorem dX5_begin_108 : decode cX5_begin 108 = .ok (.getfield 39, 3) := by decide +kernel
theorem dX5_begin_111 : decode cX5_begin 111 = .ok (.iload 4, 2) := by decide +kernel
theorem dX5_begin_113 : decode cX5_begin 113 = .ok (.bipush 6, 2) := by decide +kernel
theorem dX5_begin_115 : decode cX5_begin 115 = .ok (.imul, 1) := by decide +kernel
theorem dX5_begin_116 : decode cX5_begin 116 = .ok (.iload 5, 2) := by decide +kernel
theorem dX5_begin_118 : decode cX5_begin 118 = .ok (.iadd, 1) := by decide +kernel
theorem dX5_begin_119 : decode cX5_begin 119 = .ok (.iconst 0, 1) := by decide +kernel
theorem dX5_begin_120 : decode cX5_begin 120 = .ok (.iastore, 1) := by decide +kernel
theorem dX5_begin_121 : decode cX5_begin 121 = .ok (.iinc 5 1, 3) := by decide +kernel
theorem dX5_begin_124 : decode cX5_begin 124 = .ok (.goto (-24), 3) := by decide +kernel
theorem dX5_begin_127 : decode cX5_begin 127 = .ok (.aload_n 0, 1) := by decide +kernel
theorem dX5_begin_128 : decode cX5_begin 128 = .ok (.iload 4, 2) := by decide +kernel
theorem dX5_begin_130 : decode cX5_begin 130 = .ok (.iconst 1, 1) := by decide +kernel
theorem dX5_begin_131 : decode cX5_begin 131 = .ok (.iadd, 1) := by decide +kernel
theorem dX5_begin_132 : decode cX5_begin 132 = .ok (.putfield 42, 3) := by decide +kernel
theorem dX5_begin_135 : decode cX5_begin 135 = .ok (.iload 4, 2) := by decide +kernel
theorem dX5_begin_137 : decode cX5_begin 137 = .ok (.ireturn, 1) := by decide +kernel
theorem dX5_putPayer_0 : decode cX5_putPayer 0 = .ok (.aload_n 0, 1) := by decide +kernel
theorem dX5_putPayer_1 : decode cX5_putPayer 1 = .ok (.getfield 24, 3) := by decide +kernel
theorem dX5_putPayer_4 : decode cX5_putPayer 4 = .ok (.iload_n 1, 1) := by decide +kernel
theorem dX5_putPayer_5 : decode cX5_putPayer 5 = .ok (.iconst 3, 1) := by decide +kernel
theorem dX5_putPayer_6 : decode cX5_putPayer 6 = .ok (.imul, 1) := by decide +kernel
theorem dX5_putPayer_7 : decode cX5_putPayer 7 = .ok (.iload_n 2, 1) := by decide +kernel
theorem dX5_putPayer_8 : decode cX5_putPayer 8 = .ok (.iadd, 1) := by decide +kernel
theorem dX5_putPayer_9 : decode cX5_putPayer 9 = .ok (.iload_n 3, 1) := by decide +kernel
theorem dX5_putPayer_10 : decode cX5_putPayer 10 = .ok (.bipush 100, 2) := by decide +kernel
theorem dX5_putPayer_12 : decode cX5_putPayer 12 = .ok (.idiv, 1) := by decide +kernel
theorem dX5_putPayer_13 : decode cX5_putPayer 13 = .ok (.iastore, 1) := by decide +kernel
theorem dX5_putPayer_14 : decode cX5_putPayer 14 = .ok (.aload_n 0, 1) := by decide +kernel
theorem dX5_putPayer_15 : decode cX5_putPayer 15 = .ok (.getfield 27, 3) := by decide +kernel
theorem dX5_putPayer_18 : decode cX5_putPayer 18 = .ok (.iload_n 1, 1) := by decide +kernel
theorem dX5_putPayer_19 : decode cX5_putPayer 19 = .ok (.iconst 3, 1) := by decide +kernel
theorem dX5_putPayer_20 : decode cX5_putPayer 20 = .ok (.imul, 1) := by decide +kernel
theorem dX5_putPayer_21 : decode cX5_putPayer 21 = .ok (.iload_n 2, 1) := by decide +kernel
theorem dX5_putPayer_22 : decode cX5_putPayer 22 = .ok (.iadd, 1) := by decide +kernel
theorem dX5_putPayer_23 : decode cX5_putPayer 23 = .ok (.iload_n 3, 1) := by decide +kernel
theorem dX5_putPayer_24 : decode cX5_putPayer 24 = .ok (.bipush 100, 2) := by decide +kernel
theorem dX5_putPayer_26 : decode cX5_putPayer 26 = .ok (.irem, 1) := by decide +kernel
theorem dX5_putPayer_27 : decode cX5_putPayer 27 = .ok (.iastore, 1) := by decide +kernel
theorem dX5_putPayer_28 : decode cX5_putPayer 28 = .ok (.return_, 1) := by decide +kernel
theorem dX5_isUnder_0 : decode cX5_isUnder 0 = .ok (.aload_n 0, 1) := by decide +kernel
theorem dX5_isUnder_1 : decode cX5_isUnder 1 = .ok (.getfield 9, 3) := by decide +kernel
theorem dX5_isUnder_4 : decode cX5_isUnder 4 = .ok (.iload_n 1, 1) := by decide +kernel
theorem dX5_isUnder_5 : decode cX5_isUnder 5 = .ok (.iaload, 1) := by decide +kernel
theorem dX5_isUnder_6 : decode cX5_isUnder 6 = .ok (.istore_n 3, 1) := by decide +kernel
theorem dX5_isUnder_7 : decode cX5_isUnder 7 = .ok (.iload_n 2, 1) := by decide +kernel
theorem dX5_isUnder_8 : decode cX5_isUnder 8 = .ok (.ifCond .eq 18, 3) := by decide +kernel
theorem dX5_isUnder_11 : decode cX5_isUnder 11 = .ok (.iload_n 3, 1) := by decide +kernel
theorem dX5_isUnder_12 : decode cX5_isUnder 12 = .ok (.iload_n 2, 1) := by decide +kernel
theorem dX5_isUnder_13 : decode cX5_isUnder 13 = .ok (.if_icmp .eq 13, 3) := by decide +kernel
theorem dX5_isUnder_16 : decode cX5_isUnder 16 = .ok (.iload_n 2, 1) := by decide +kernel
theorem dX5_isUnder_17 : decode cX5_isUnder 17 = .ok (.iconst 2, 1) := by decide +kernel
theorem dX5_isUnder_18 : decode cX5_isUnder 18 = .ok (.if_icmp .ne 12, 3) := by decide +kernel
theorem dX5_isUnder_21 : decode cX5_isUnder 21 = .ok (.iload_n 3, 1) := by decide +kernel
theorem dX5_isUnder_22 : decode cX5_isUnder 22 = .ok (.iconst 3, 1) := by decide +kernel
theorem dX5_isUnder_23 : decode cX5_isUnder 23 = .ok (.if_icmp .ne 7, 3) := by decide +kernel
theorem dX5_isUnder_26 : decode cX5_isUnder 26 = .ok (.iconst 1, 1) := by decide +kernel
theorem dX5_isUnder_27 : decode cX5_isUnder 27 = .ok (.goto 4, 3) := by decide +kernel
theorem dX5_isUnder_30 : decode cX5_isUnder 30 = .ok (.iconst 0, 1) := by decide +kernel
theorem dX5_isUnder_31 : decode cX5_isUnder 31 = .ok (.ireturn, 1) := by decide +kernel
theorem dX5_hasWall_0 : decode cX5_hasWall 0 = .ok (.aload_n 0, 1) := by decide +kernel
theorem dX5_hasWall_1 : decode cX5_hasWall 1 = .ok (.getfield 30, 3) := by decide +kernel
theorem dX5_hasWall_4 : decode cX5_hasWall 4 = .ok (.iload_n 2, 1) := by decide +kernel
theorem dX5_hasWall_5 : decode cX5_hasWall 5 = .ok (.bipush 8, 2) := by decide +kernel
theorem dX5_hasWall_7 : decode cX5_hasWall 7 = .ok (.imul, 1) := by decide +kernel
theorem dX5_hasWall_8 : decode cX5_hasWall 8 = .ok (.iload_n 1, 1) := by decide +kernel
theorem dX5_hasWall_9 : decode cX5_hasWall 9 = .ok (.iadd, 1) := by decide +kernel
theorem dX5_hasWall_10 : decode cX5_hasWall 10 = .ok (.iaload, 1) := by decide +kernel
theorem dX5_hasWall_11 : decode cX5_hasWall 11 = .ok (.iconst 1, 1) := by decide +kernel
theorem dX5_hasWall_12 : decode cX5_hasWall 12 = .ok (.if_icmp .ne 7, 3) := by decide +kernel
theorem dX5_hasWall_15 : decode cX5_hasWall 15 = .ok (.iconst 1, 1) := by decide +kernel
theorem dX5_hasWall_16 : decode cX5_hasWall 16 = .ok (.goto 4, 3) := by decide +kernel
theorem dX5_hasWall_19 : decode cX5_hasWall 19 = .ok (.iconst 0, 1) := by decide +kernel
theorem dX5_hasWall_20 : decode cX5_hasWall 20 = .ok (.ireturn, 1) := by decide +kernel
theorem dX5_payerPlace_0 : decode cX5_payerPlace 0 = .ok (.iconst 0, 1) := by decide +kernel
theorem dX5_payerPlace_1 : decode cX5_payerPlace 1 = .ok (.istore_n 3, 1) := by decide +kernel
theorem dX5_payerPlace_2 : decode cX5_payerPlace 2 = .ok (.iload_n 3, 1) := by decide +kernel
theorem dX5_payerPlace_3 : decode cX5_payerPlace 3 = .ok (.aload_n 0, 1) := by decide +kernel
theorem dX5_payerPlace_4 : decode cX5_payerPlace 4 = .ok (.getfield 21, 3) := by decide +kernel
theorem dX5_payerPlace_7 : decode cX5_payerPlace 7 = .ok (.iload_n 1, 1) := by decide +kernel
theorem dX5_payerPlace_8 : decode cX5_payerPlace 8 = .ok (.iaload, 1) := by decide +kernel
theorem dX5_payerPlace_9 : decode cX5_payerPlace 9 = .ok (.if_icmp .ge 25, 3) := by decide +kernel
theorem dX5_payerPlace_12 : decode cX5_payerPlace 12 = .ok (.aload_n 0, 1) := by decide +kernel
theorem dX5_payerPlace_13 : decode cX5_payerPlace 13 = .ok (.getfield 24, 3) := by decide +kernel
theorem dX5_payerPlace_16 : decode cX5_payerPlace 16 = .ok (.iload_n 1, 1) := by decide +kernel
theorem dX5_payerPlace_17 : decode cX5_payerPlace 17 = .ok (.iconst 3, 1) := by decide +kernel
theorem dX5_payerPlace_18 : decode cX5_payerPlace 18 = .ok (.imul, 1) := by decide +kernel
theorem dX5_payerPlace_19 : decode cX5_payerPlace 19 = .ok (.iload_n 3, 1) := by decide +kernel
theorem dX5_payerPlace_20 : decode cX5_payerPlace 20 = .ok (.iadd, 1) := by decide +kernel
theorem dX5_payerPlace_21 : decode cX5_payerPlace 21 = .ok (.iaload, 1) := by decide +kernel
theorem dX5_payerPlace_22 : decode cX5_payerPlace 22 = .ok (.iload_n 2, 1) := by decide +kernel
theorem dX5_payerPlace_23 : decode cX5_payerPlace 23 = .ok (.if_icmp .ne 5, 3) := by decide +kernel
theorem dX5_payerPlace_26 : decode cX5_payerPlace 26 = .ok (.iload_n 3, 1) := by decide +kernel
theorem dX5_payerPlace_27 : decode cX5_payerPlace 27 = .ok (.ireturn, 1) := by decide +kernel
theorem dX5_payerPlace_28 : decode cX5_payerPlace 28 = .ok (.iinc 3 1, 3) := by decide +kernel
theorem dX5_payerPlace_31 : decode cX5_payerPlace 31 = .ok (.goto (-29), 3) := by decide +kernel
theorem dX5_payerPlace_34 : decode cX5_payerPlace 34 = .ok (.iconst (-1), 1) := by decide +kernel
theorem dX5_payerPlace_35 : decode cX5_payerPlace 35 = .ok (.ireturn, 1) := by decide +kernel
theorem dX5_split_0 : decode cX5_split 0 = .ok (.aload_n 0, 1) := by decide +kernel
theorem dX5_split_1 : decode cX5_split 1 = .ok (.getfield 21, 3) := by decide +kernel
theorem dX5_split_4 : decode cX5_split 4 = .ok (.iload_n 1, 1) := by decide +kernel
theorem dX5_split_5 : decode cX5_split 5 = .ok (.iaload, 1) := by decide +kernel
theorem dX5_split_6 : decode cX5_split 6 = .ok (.istore 4, 2) := by decide +kernel
theorem dX5_split_8 : decode cX5_split 8 = .ok (.iload_n 1, 1) := by decide +kernel
theorem dX5_split_9 : decode cX5_split 9 = .ok (.iconst 3, 1) := by decide +kernel
theorem dX5_split_10 : decode cX5_split 10 = .ok (.imul, 1) := by decide +kernel
theorem dX5_split_11 : decode cX5_split 11 = .ok (.istore 5, 2) := by decide +kernel
theorem dX5_split_13 : decode cX5_split 13 = .ok (.iconst 0, 1) := by decide +kernel
theorem dX5_split_14 : decode cX5_split 14 = .ok (.istore 6, 2) := by decide +kernel
theorem dX5_split_16 : decode cX5_split 16 = .ok (.iconst 0, 1) := by decide +kernel
theorem dX5_split_17 : decode cX5_split 17 = .ok (.istore 7, 2) := by decide +kernel
theorem dX5_split_19 : decode cX5_split 19 = .ok (.iload 7, 2) := by decide +kernel
theorem dX5_split_21 : decode cX5_split 21 = .ok (.iload 4, 2) := by decide +kernel
theorem dX5_split_23 : decode cX5_split 23 = .ok (.if_icmp .ge 24, 3) := by decide +kernel
theorem dX5_split_26 : decode cX5_split 26 = .ok (.iload 6, 2) := by decide +kernel
theorem dX5_split_28 : decode cX5_split 28 = .ok (.aload_n 0, 1) := by decide +kernel
theorem dX5_split_29 : decode cX5_split 29 = .ok (.getfield 27, 3) := by decide +kernel
theorem dX5_split_32 : decode cX5_split 32 = .ok (.iload 5, 2) := by decide +kernel
theorem dX5_split_34 : decode cX5_split 34 = .ok (.iload 7, 2) := by decide +kernel
theorem dX5_split_36 : decode cX5_split 36 = .ok (.iadd, 1) := by decide +kernel
theorem dX5_split_37 : decode cX5_split 37 = .ok (.iaload, 1) := by decide +kernel
theorem dX5_split_38 : decode cX5_split 38 = .ok (.iadd, 1) := by decide +kernel
theorem dX5_split_39 : decode cX5_split 39 = .ok (.istore 6, 2) := by decide +kernel
theorem dX5_split_41 : decode cX5_split 41 = .ok (.iinc 7 1, 3) := by decide +kernel
theorem dX5_split_44 : decode cX5_split 44 = .ok (.goto (-25), 3) := by decide +kernel
theorem dX5_split_47 : decode cX5_split 47 = .ok (.iload_n 2, 1) := by decide +kernel
theorem dX5_split_48 : decode cX5_split 48 = .ok (.istore 7, 2) := by decide +kernel
theorem dX5_split_50 : decode cX5_split 50 = .ok (.aload_n 3, 1) := by decide +kernel
theorem dX5_split_51 : decode cX5_split 51 = .ok (.iconst 0, 1) := by decide +kernel
theorem dX5_split_52 : decode cX5_split 52 = .ok (.invokestatic 54, 3) := by decide +kernel
theorem dX5_split_55 : decode cX5_split 55 = .ok (.iconst 0, 1) := by decide +kernel
theorem dX5_split_56 : decode cX5_split 56 = .ok (.istore 8, 2) := by decide +kernel
theorem dX5_split_58 : decode cX5_split 58 = .ok (.iload 8, 2) := by decide +kernel
theorem dX5_split_60 : decode cX5_split 60 = .ok (.iload 4, 2) := by decide +kernel
theorem dX5_split_62 : decode cX5_split 62 = .ok (.if_icmp .ge 53, 3) := by decide +kernel
theorem dX5_split_65 : decode cX5_split 65 = .ok (.iload 8, 2) := by decide +kernel
theorem dX5_split_67 : decode cX5_split 67 = .ok (.aload_n 3, 1) := by decide +kernel
theorem dX5_split_68 : decode cX5_split 68 = .ok (.arraylength, 1) := by decide +kernel
theorem dX5_split_69 : decode cX5_split 69 = .ok (.if_icmp .ge 46, 3) := by decide +kernel
theorem dX5_split_72 : decode cX5_split 72 = .ok (.iload 6, 2) := by decide +kernel
theorem dX5_split_74 : decode cX5_split 74 = .ok (.ifCond .le 41, 3) := by decide +kernel
theorem dX5_split_77 : decode cX5_split 77 = .ok (.aload_n 3, 1) := by decide +kernel
theorem dX5_split_78 : decode cX5_split 78 = .ok (.iload 8, 2) := by decide +kernel
theorem dX5_split_80 : decode cX5_split 80 = .ok (.iload_n 2, 1) := by decide +kernel
theorem dX5_split_81 : decode cX5_split 81 = .ok (.i2l, 1) := by decide +kernel
theorem dX5_split_82 : decode cX5_split 82 = .ok (.aload_n 0, 1) := by decide +kernel
theorem dX5_split_83 : decode cX5_split 83 = .ok (.getfield 27, 3) := by decide +kernel
theorem dX5_split_86 : decode cX5_split 86 = .ok (.iload 5, 2) := by decide +kernel
theorem dX5_split_88 : decode cX5_split 88 = .ok (.iload 8, 2) := by decide +kernel
theorem dX5_split_90 : decode cX5_split 90 = .ok (.iadd, 1) := by decide +kernel
theorem dX5_split_91 : decode cX5_split 91 = .ok (.iaload, 1) := by decide +kernel
theorem dX5_split_92 : decode cX5_split 92 = .ok (.i2l, 1) := by decide +kernel
theorem dX5_split_93 : decode cX5_split 93 = .ok (.lmul, 1) := by decide +kernel
theorem dX5_split_94 : decode cX5_split 94 = .ok (.iload 6, 2) := by decide +kernel
theorem dX5_split_96 : decode cX5_split 96 = .ok (.i2l, 1) := by decide +kernel
theorem dX5_split_97 : decode cX5_split 97 = .ok (.ldiv, 1) := by decide +kernel
theorem dX5_split_98 : decode cX5_split 98 = .ok (.l2i, 1) := by decide +kernel
theorem dX5_split_99 : decode cX5_split 99 = .ok (.iastore, 1) := by decide +kernel
theorem dX5_split_100 : decode cX5_split 100 = .ok (.iload 7, 2) := by decide +kernel
theorem dX5_split_102 : decode cX5_split 102 = .ok (.aload_n 3, 1) := by decide +kernel
theorem dX5_split_103 : decode cX5_split 103 = .ok (.iload 8, 2) := by decide +kernel
theorem dX5_split_105 : decode cX5_split 105 = .ok (.iaload, 1) := by decide +kernel
theorem dX5_split_106 : decode cX5_split 106 = .ok (.isub, 1) := by decide +kernel
theorem dX5_split_107 : decode cX5_split 107 = .ok (.istore 7, 2) := by decide +kernel
theorem dX5_split_109 : decode cX5_split 109 = .ok (.iinc 8 1, 3) := by decide +kernel
theorem dX5_split_112 : decode cX5_split 112 = .ok (.goto (-54), 3) := by decide +kernel
theorem dX5_split_115 : decode cX5_split 115 = .ok (.iconst 0, 1) := by decide +kernel
theorem dX5_split_116 : decode cX5_split 116 = .ok (.istore 8, 2) := by decide +kernel
theorem dX5_split_118 : decode cX5_split 118 = .ok (.iload 8, 2) := by decide +kernel
theorem dX5_split_120 : decode cX5_split 120 = .ok (.iload 4, 2) := by decide +kernel
theorem dX5_split_122 : decode cX5_split 122 = .ok (.if_icmp .ge 32, 3) := by decide +kernel
theorem dX5_split_125 : decode cX5_split 125 = .ok (.iload 8, 2) := by decide +kernel
theorem dX5_split_127 : decode cX5_split 127 = .ok (.aload_n 3, 1) := by decide +kernel
theorem dX5_split_128 : decode cX5_split 128 = .ok (.arraylength, 1) := by decide +kernel
theorem dX5_split_129 : decode cX5_split 129 = .ok (.if_icmp .ge 25, 3) := by decide +kernel
theorem dX5_split_132 : decode cX5_split 132 = .ok (.iload 7, 2) := by decide +kernel
theorem dX5_split_134 : decode cX5_split 134 = .ok (.ifCond .le 20, 3) := by decide +kernel
theorem dX5_split_137 : decode cX5_split 137 = .ok (.aload_n 3, 1) := by decide +kernel
theorem dX5_split_138 : decode cX5_split 138 = .ok (.iload 8, 2) := by decide +kernel
theorem dX5_split_140 : decode cX5_split 140 = .ok (.dup2, 1) := by decide +kernel
theorem dX5_split_141 : decode cX5_split 141 = .ok (.iaload, 1) := by decide +kernel
theorem dX5_split_142 : decode cX5_split 142 = .ok (.iconst 1, 1) := by decide +kernel
theorem dX5_split_143 : decode cX5_split 143 = .ok (.iadd, 1) := by decide +kernel
theorem dX5_split_144 : decode cX5_split 144 = .ok (.iastore, 1) := by decide +kernel
theorem dX5_split_145 : decode cX5_split 145 = .ok (.iinc 7 (-1), 3) := by decide +kernel
theorem dX5_split_148 : decode cX5_split 148 = .ok (.iinc 8 1, 3) := by decide +kernel
theorem dX5_split_151 : decode cX5_split 151 = .ok (.goto (-33), 3) := by decide +kernel
theorem dX5_split_154 : decode cX5_split 154 = .ok (.return_, 1) := by decide +kernel
theorem dX5_become_0 : decode cX5_become 0 = .ok (.aload_n 0, 1) := by decide +kernel
theorem dX5_become_1 : decode cX5_become 1 = .ok (.aload_n 1, 1) := by decide +kernel
theorem dX5_become_2 : decode cX5_become 2 = .ok (.getfield 42, 3) := by decide +kernel
theorem dX5_become_5 : decode cX5_become 5 = .ok (.putfield 42, 3) := by decide +kernel
theorem dX5_become_8 : decode cX5_become 8 = .ok (.aload_n 1, 1) := by decide +kernel
theorem dX5_become_9 : decode cX5_become 9 = .ok (.getfield 9, 3) := by decide +kernel
theorem dX5_become_12 : decode cX5_become 12 = .ok (.aload_n 0, 1) := by decide +kernel
theorem dX5_become_13 : decode cX5_become 13 = .ok (.getfield 9, 3) := by decide +kernel
theorem dX5_become_16 : decode cX5_become 16 = .ok (.invokestatic 60, 3) := by decide +kernel
theorem dX5_become_19 : decode cX5_become 19 = .ok (.aload_n 1, 1) := by decide +kernel
theorem dX5_become_20 : decode cX5_become 20 = .ok (.getfield 15, 3) := by decide +kernel
theorem dX5_become_23 : decode cX5_become 23 = .ok (.aload_n 0, 1) := by decide +kernel
theorem dX5_become_24 : decode cX5_become 24 = .ok (.getfield 15, 3) := by decide +kernel
theorem dX5_become_27 : decode cX5_become 27 = .ok (.invokestatic 60, 3) := by decide +kernel
theorem dX5_become_30 : decode cX5_become 30 = .ok (.aload_n 1, 1) := by decide +kernel
theorem dX5_become_31 : decode cX5_become 31 = .ok (.getfield 18, 3) := by decide +kernel
theorem dX5_become_34 : decode cX5_become 34 = .ok (.aload_n 0, 1) := by decide +kernel
theorem dX5_become_35 : decode cX5_become 35 = .ok (.getfield 18, 3) := by decide +kernel
theorem dX5_become_38 : decode cX5_become 38 = .ok (.invokestatic 60, 3) := by decide +kernel
theorem dX5_become_41 : decode cX5_become 41 = .ok (.aload_n 1, 1) := by decide +kernel
theorem dX5_become_42 : decode cX5_become 42 = .ok (.getfield 21, 3) := by decide +kernel
theorem dX5_become_45 : decode cX5_become 45 = .ok (.aload_n 0, 1) := by decide +kernel
theorem dX5_become_46 : decode cX5_become 46 = .ok (.getfield 21, 3) := by decide +kernel
theorem dX5_become_49 : decode cX5_become 49 = .ok (.invokestatic 60, 3) := by decide +kernel
theorem dX5_become_52 : decode cX5_become 52 = .ok (.aload_n 1, 1) := by decide +kernel
theorem dX5_become_53 : decode cX5_become 53 = .ok (.getfield 24, 3) := by decide +kernel
theorem dX5_become_56 : decode cX5_become 56 = .ok (.aload_n 0, 1) := by decide +kernel
theorem dX5_become_57 : decode cX5_become 57 = .ok (.getfield 24, 3) := by decide +kernel
theorem dX5_become_60 : decode cX5_become 60 = .ok (.invokestatic 60, 3) := by decide +kernel
theorem dX5_become_63 : decode cX5_become 63 = .ok (.aload_n 1, 1) := by decide +kernel
theorem dX5_become_64 : decode cX5_become 64 = .ok (.getfield 27, 3) := by decide +kernel
theorem dX5_become_67 : decode cX5_become 67 = .ok (.aload_n 0, 1) := by decide +kernel
theorem dX5_become_68 : decode cX5_become 68 = .ok (.getfield 27, 3) := by decide +kernel
theorem dX5_become_71 : decode cX5_become 71 = .ok (.invokestatic 60, 3) := by decide +kernel
theorem dX5_become_74 : decode cX5_become 74 = .ok (.aload_n 1, 1) := by decide +kernel
theorem dX5_become_75 : decode cX5_become 75 = .ok (.getfield 30, 3) := by decide +kernel
theorem dX5_become_78 : decode cX5_become 78 = .ok (.aload_n 0, 1) := by decide +kernel
theorem dX5_become_79 : decode cX5_become 79 = .ok (.getfield 30, 3) := by decide +kernel
theorem dX5_become_82 : decode cX5_become 82 = .ok (.invokestatic 60, 3) := by decide +kernel
theorem dX5_become_85 : decode cX5_become 85 = .ok (.aload_n 1, 1) := by decide +kernel
theorem dX5_become_86 : decode cX5_become 86 = .ok (.getfield 33, 3) := by decide +kernel
theorem dX5_become_89 : decode cX5_become 89 = .ok (.aload_n 0, 1) := by decide +kernel
theorem dX5_become_90 : decode cX5_become 90 = .ok (.getfield 33, 3) := by decide +kernel
theorem dX5_become_93 : decode cX5_become 93 = .ok (.invokestatic 60, 3) := by decide +kernel
theorem dX5_become_96 : decode cX5_become 96 = .ok (.aload_n 1, 1) := by decide +kernel
theorem dX5_become_97 : decode cX5_become 97 = .ok (.getfield 36, 3) := by decide +kernel
theorem dX5_become_100 : decode cX5_become 100 = .ok (.aload_n 0, 1) := by decide +kernel
theorem dX5_become_101 : decode cX5_become 101 = .ok (.getfield 36, 3) := by decide +kernel
theorem dX5_become_104 : decode cX5_become 104 = .ok (.invokestatic 60, 3) := by decide +kernel
theorem dX5_become_107 : decode cX5_become 107 = .ok (.aload_n 1, 1) := by decide +kernel
theorem dX5_become_108 : decode cX5_become 108 = .ok (.getfield 39, 3) := by decide +kernel
theorem dX5_become_111 : decode cX5_become 111 = .ok (.aload_n 0, 1) := by decide +kernel
theorem dX5_become_112 : decode cX5_become 112 = .ok (.getfield 39, 3) := by decide +kernel
theorem dX5_become_115 : decode cX5_become 115 = .ok (.invokestatic 60, 3) := by decide +kernel
theorem dX5_become_118 : decode cX5_become 118 = .ok (.return_, 1) := by decide +kernel
theorem dX6_init_0 : decode cX6_init 0 = .ok (.aload_n 0, 1) := by decide +kernel
theorem dX6_init_1 : decode cX6_init 1 = .ok (.invokespecial 3, 3) := by decide +kernel
theorem dX6_init_4 : decode cX6_init 4 = .ok (.aload_n 0, 1) := by decide +kernel
theorem dX6_init_5 : decode cX6_init 5 = .ok (.bipush 8, 2) := by decide +kernel
theorem dX6_init_7 : decode cX6_init 7 = .ok (.newarray .int, 2) := by decide +kernel
theorem dX6_init_9 : decode cX6_init 9 = .ok (.putfield 9, 3) := by decide +kernel
theorem dX6_init_12 : decode cX6_init 12 = .ok (.aload_n 0, 1) := by decide +kernel
theorem dX6_init_13 : decode cX6_init 13 = .ok (.bipush 8, 2) := by decide +kernel
theorem dX6_init_15 : decode cX6_init 15 = .ok (.newarray .int, 2) := by decide +kernel
theorem dX6_init_17 : decode cX6_init 17 = .ok (.putfield 15, 3) := by decide +kernel
theorem dX6_init_20 : decode cX6_init 20 = .ok (.aload_n 0, 1) := by decide +kernel
theorem dX6_init_21 : decode cX6_init 21 = .ok (.bipush 8, 2) := by decide +kernel
theorem dX6_init_23 : decode cX6_init 23 = .ok (.newarray .int, 2) := by decide +kernel
theorem dX6_init_25 : decode cX6_init 25 = .ok (.putfield 18, 3) := by decide +kernel
theorem dX6_init_28 : decode cX6_init 28 = .ok (.return_, 1) := by decide +kernel
theorem dX6_has_0 : decode cX6_has 0 = .ok (.iload_n 1, 1) := by decide +kernel
theorem dX6_has_1 : decode cX6_has 1 = .ok (.iconst 0, 1) := by decide +kernel
theorem dX6_has_2 : decode cX6_has 2 = .ok (.aload_n 0, 1) := by decide +kernel
theorem dX6_has_3 : decode cX6_has 3 = .ok (.getfield 21, 3) := by decide +kernel
theorem dX6_has_6 : decode cX6_has 6 = .ok (.iconst 1, 1) := by decide +kernel
theorem dX6_has_7 : decode cX6_has 7 = .ok (.isub, 1) := by decide +kernel
theorem dX6_has_8 : decode cX6_has 8 = .ok (.invokestatic 25, 3) := by decide +kernel
theorem dX6_has_11 : decode cX6_has 11 = .ok (.ireturn, 1) := by decide +kernel
theorem dX6_isUnder_0 : decode cX6_isUnder 0 = .ok (.aload_n 0, 1) := by decide +kernel
theorem dX6_isUnder_1 : decode cX6_isUnder 1 = .ok (.getfield 9, 3) := by decide +kernel
theorem dX6_isUnder_4 : decode cX6_isUnder 4 = .ok (.iload_n 1, 1) := by decide +kernel
theorem dX6_isUnder_5 : decode cX6_isUnder 5 = .ok (.iaload, 1) := by decide +kernel
theorem dX6_isUnder_6 : decode cX6_isUnder 6 = .ok (.istore_n 3, 1) := by decide +kernel
theorem dX6_isUnder_7 : decode cX6_isUnder 7 = .ok (.iload_n 2, 1) := by decide +kernel
theorem dX6_isUnder_8 : decode cX6_isUnder 8 = .ok (.ifCond .eq 18, 3) := by decide +kernel
theorem dX6_isUnder_11 : decode cX6_isUnder 11 = .ok (.iload_n 3, 1) := by decide +kernel
theorem dX6_isUnder_12 : decode cX6_isUnder 12 = .ok (.iload_n 2, 1) := by decide +kernel
theorem dX6_isUnder_13 : decode cX6_isUnder 13 = .ok (.if_icmp .eq 13, 3) := by decide +kernel
theorem dX6_isUnder_16 : decode cX6_isUnder 16 = .ok (.iload_n 2, 1) := by decide +kernel
theorem dX6_isUnder_17 : decode cX6_isUnder 17 = .ok (.iconst 1, 1) := by decide +kernel
theorem dX6_isUnder_18 : decode cX6_isUnder 18 = .ok (.if_icmp .ne 12, 3) := by decide +kernel
theorem dX6_isUnder_21 : decode cX6_isUnder 21 = .ok (.iload_n 3, 1) := by decide +kernel
theorem dX6_isUnder_22 : decode cX6_isUnder 22 = .ok (.iconst 2, 1) := by decide +kernel
theorem dX6_isUnder_23 : decode cX6_isUnder 23 = .ok (.if_icmp .ne 7, 3) := by decide +kernel
theorem dX6_isUnder_26 : decode cX6_isUnder 26 = .ok (.iconst 1, 1) := by decide +kernel
theorem dX6_isUnder_27 : decode cX6_isUnder 27 = .ok (.goto 4, 3) := by decide +kernel
theorem dX6_isUnder_30 : decode cX6_isUnder 30 = .ok (.iconst 0, 1) := by decide +kernel
theorem dX6_isUnder_31 : decode cX6_isUnder 31 = .ok (.ireturn, 1) := by decide +kernel
theorem dX6_become_0 : decode cX6_become 0 = .ok (.aload_n 0, 1) := by decide +kernel
theorem dX6_become_1 : decode cX6_become 1 = .ok (.aload_n 1, 1) := by decide +kernel
theorem dX6_become_2 : decode cX6_become 2 = .ok (.getfield 21, 3) := by decide +kernel
theorem dX6_become_5 : decode cX6_become 5 = .ok (.putfield 21, 3) := by decide +kernel
theorem dX6_become_8 : decode cX6_become 8 = .ok (.aload_n 1, 1) := by decide +kernel
theorem dX6_become_9 : decode cX6_become 9 = .ok (.getfield 9, 3) := by decide +kernel
theorem dX6_become_12 : decode cX6_become 12 = .ok (.aload_n 0, 1) := by decide +kernel
theorem dX6_become_13 : decode cX6_become 13 = .ok (.getfield 9, 3) := by decide +kernel
theorem dX6_become_16 : decode cX6_become 16 = .ok (.invokestatic 29, 3) := by decide +kernel
theorem dX6_become_19 : decode cX6_become 19 = .ok (.aload_n 1, 1) := by decide +kernel
theorem dX6_become_20 : decode cX6_become 20 = .ok (.getfield 15, 3) := by decide +kernel
theorem dX6_become_23 : decode cX6_become 23 = .ok (.aload_n 0, 1) := by decide +kernel
theorem dX6_become_24 : decode cX6_become 24 = .ok (.getfield 15, 3) := by decide +kernel
theorem dX6_become_27 : decode cX6_become 27 = .ok (.invokestatic 29, 3) := by decide +kernel
theorem dX6_become_30 : decode cX6_become 30 = .ok (.aload_n 1, 1) := by decide +kernel
theorem dX6_become_31 : decode cX6_become 31 = .ok (.getfield 18, 3) := by decide +kernel
theorem dX6_become_34 : decode cX6_become 34 = .ok (.aload_n 0, 1) := by decide +kernel
theorem dX6_become_35 : decode cX6_become 35 = .ok (.getfield 18, 3) := by decide +kernel
theorem dX6_become_38 : decode cX6_become 38 = .ok (.invokestatic 29, 3) := by decide +kernel
theorem dX6_become_41 : decode cX6_become 41 = .ok (.return_, 1) := by decide +kernel
theorem dX7_init_0 : decode cX7_init 0 = .ok (.aload_n 0, 1) := by decide +kernel
theorem dX7_init_1 : decode cX7_init 1 = .ok (.invokespecial 3, 3) := by decide +kernel
theorem dX7_init_4 : decode cX7_init 4 = .ok (.aload_n 0, 1) := by decide +kernel
theorem dX7_init_5 : decode cX7_init 5 = .ok (.bipush 48, 2) := by decide +kernel
theorem dX7_init_7 : decode cX7_init 7 = .ok (.newarray .boolean, 2) := by decide +kernel
theorem dX7_init_9 : decode cX7_init 9 = .ok (.putfield 9, 3) := by decide +kernel
theorem dX7_init_12 : decode cX7_init 12 = .ok (.aload_n 0, 1) := by decide +kernel
theorem dX7_init_13 : decode cX7_init 13 = .ok (.bipush 8, 2) := by decide +kernel
theorem dX7_init_15 : decode cX7_init 15 = .ok (.newarray .int, 2) := by decide +kernel
theorem dX7_init_17 : decode cX7_init 17 = .ok (.putfield 15, 3) := by decide +kernel
theorem dX7_init_20 : decode cX7_init 20 = .ok (.aload_n 0, 1) := by decide +kernel
theorem dX7_init_21 : decode cX7_init 21 = .ok (.bipush 6, 2) := by decide +kernel
theorem dX7_init_23 : decode cX7_init 23 = .ok (.newarray .int, 2) := by decide +kernel
theorem dX7_init_25 : decode cX7_init 25 = .ok (.putfield 19, 3) := by decide +kernel
theorem dX7_init_28 : decode cX7_init 28 = .ok (.aload_n 0, 1) := by decide +kernel
theorem dX7_init_29 : decode cX7_init 29 = .ok (.bipush 6, 2) := by decide +kernel
theorem dX7_init_31 : decode cX7_init 31 = .ok (.newarray .int, 2) := by decide +kernel
theorem dX7_init_33 : decode cX7_init 33 = .ok (.putfield 22, 3) := by decide +kernel
theorem dX7_init_36 : decode cX7_init 36 = .ok (.aload_n 0, 1) := by decide +kernel
theorem dX7_init_37 : decode cX7_init 37 = .ok (.aload_n 1, 1) := by decide +kernel
theorem dX7_init_38 : decode cX7_init 38 = .ok (.putfield 25, 3) := by decide +kernel
theorem dX7_init_41 : decode cX7_init 41 = .ok (.return_, 1) := by decide +kernel
theorem dX7_seek_0 : decode cX7_seek 0 = .ok (.aload_n 0, 1) := by decide +kernel
theorem dX7_seek_1 : decode cX7_seek 1 = .ok (.getfield 25, 3) := by decide +kernel
theorem dX7_seek_4 : decode cX7_seek 4 = .ok (.getfield 29, 3) := by decide +kernel
theorem dX7_seek_7 : decode cX7_seek 7 = .ok (.getfield 35, 3) := by decide +kernel
theorem dX7_seek_10 : decode cX7_seek 10 = .ok (.aload_n 0, 1) := by decide +kernel
theorem dX7_seek_11 : decode cX7_seek 11 = .ok (.getfield 15, 3) := by decide +kernel
theorem dX7_seek_14 : decode cX7_seek 14 = .ok (.invokestatic 40, 3) := by decide +kernel
theorem dX7_seek_17 : decode cX7_seek 17 = .ok (.iconst 0, 1) := by decide +kernel
theorem dX7_seek_18 : decode cX7_seek 18 = .ok (.istore_n 2, 1) := by decide +kernel
theorem dX7_seek_19 : decode cX7_seek 19 = .ok (.iload_n 2, 1) := by decide +kernel
theorem dX7_seek_20 : decode cX7_seek 20 = .ok (.aload_n 0, 1) := by decide +kernel
theorem dX7_seek_21 : decode cX7_seek 21 = .ok (.getfield 25, 3) := by decide +kernel
theorem dX7_seek_24 : decode cX7_seek 24 = .ok (.getfield 44, 3) := by decide +kernel
theorem dX7_seek_27 : decode cX7_seek 27 = .ok (.getfield 48, 3) := by decide +kernel
theorem dX7_seek_30 : decode cX7_seek 30 = .ok (.if_icmp .ge 99, 3) := by decide +kernel
theorem dX7_seek_33 : decode cX7_seek 33 = .ok (.iconst 0, 1) := by decide +kernel
theorem dX7_seek_34 : decode cX7_seek 34 = .ok (.istore_n 3, 1) := by decide +kernel
theorem dX7_seek_35 : decode cX7_seek 35 = .ok (.iload_n 3, 1) := by decide +kernel
theorem dX7_seek_36 : decode cX7_seek 36 = .ok (.aload_n 0, 1) := by decide +kernel
theorem dX7_seek_37 : decode cX7_seek 37 = .ok (.getfield 25, 3) := by decide +kernel
theorem dX7_seek_40 : decode cX7_seek 40 = .ok (.getfield 29, 3) := by decide +kernel
theorem dX7_seek_43 : decode cX7_seek 43 = .ok (.getfield 54, 3) := by decide +kernel
theorem dX7_seek_46 : decode cX7_seek 46 = .ok (.if_icmp .ge 77, 3) := by decide +kernel
theorem dX7_seek_49 : decode cX7_seek 49 = .ok (.aload_n 0, 1) := by decide +kernel
theorem dX7_seek_50 : decode cX7_seek 50 = .ok (.getfield 9, 3) := by decide +kernel
theorem dX7_seek_53 : decode cX7_seek 53 = .ok (.iload_n 2, 1) := by decide +kernel
theorem dX7_seek_54 : decode cX7_seek 54 = .ok (.bipush 8, 2) := by decide +kernel
theorem dX7_seek_56 : decode cX7_seek 56 = .ok (.imul, 1) := by decide +kernel
theorem dX7_seek_57 : decode cX7_seek 57 = .ok (.iload_n 3, 1) := by decide +kernel
theorem dX7_seek_58 : decode cX7_seek 58 = .ok (.iadd, 1) := by decide +kernel
theorem dX7_seek_59 : decode cX7_seek 59 = .ok (.aload_n 0, 1) := by decide +kernel
theorem dX7_seek_60 : decode cX7_seek 60 = .ok (.getfield 25, 3) := by decide +kernel
theorem dX7_seek_63 : decode cX7_seek 63 = .ok (.getfield 29, 3) := by decide +kernel
theorem dX7_seek_66 : decode cX7_seek 66 = .ok (.iload_n 3, 1) := by decide +kernel
theorem dX7_seek_67 : decode cX7_seek 67 = .ok (.aload_n 0, 1) := by decide +kernel
theorem dX7_seek_68 : decode cX7_seek 68 = .ok (.getfield 25, 3) := by decide +kernel
theorem dX7_seek_71 : decode cX7_seek 71 = .ok (.getfield 44, 3) := by decide +kernel
theorem dX7_seek_74 : decode cX7_seek 74 = .ok (.getfield 55, 3) := by decide +kernel
theorem dX7_seek_77 : decode cX7_seek 77 = .ok (.iload_n 2, 1) := by decide +kernel
theorem dX7_seek_78 : decode cX7_seek 78 = .ok (.iaload, 1) := by decide +kernel
theorem dX7_seek_79 : decode cX7_seek 79 = .ok (.invokevirtual 58, 3) := by decide +kernel
theorem dX7_seek_82 : decode cX7_seek 82 = .ok (.ifCond .eq 33, 3) := by decide +kernel
theorem dX7_seek_85 : decode cX7_seek 85 = .ok (.aload_n 0, 1) := by decide +kernel
theorem dX7_seek_86 : decode cX7_seek 86 = .ok (.getfield 25, 3) := by decide +kernel
theorem dX7_seek_89 : decode cX7_seek 89 = .ok (.getfield 62, 3) := by decide +kernel
theorem dX7_seek_92 : decode cX7_seek 92 = .ok (.iload_n 3, 1) := by decide +kernel
theorem dX7_seek_93 : decode cX7_seek 93 = .ok (.aload_n 0, 1) := by decide +kernel
theorem dX7_seek_94 : decode cX7_seek 94 = .ok (.getfield 25, 3) := by decide +kernel
theorem dX7_seek_97 : decode cX7_seek 97 = .ok (.getfield 44, 3) := by decide +kernel
theorem dX7_seek_100 : decode cX7_seek 100 = .ok (.getfield 66, 3) := by decide +kernel
theorem dX7_seek_103 : decode cX7_seek 103 = .ok (.iload_n 2, 1) := by decide +kernel
theorem dX7_seek_104 : decode cX7_seek 104 = .ok (.iaload, 1) := by decide +kernel
theorem dX7_seek_105 : decode cX7_seek 105 = .ok (.invokevirtual 68, 3) := by decide +kernel
theorem dX7_seek_108 : decode cX7_seek 108 = .ok (.ifCond .ne 7, 3) := by decide +kernel
theorem dX7_seek_111 : decode cX7_seek 111 = .ok (.iconst 1, 1) := by decide +kernel
theorem dX7_seek_112 : decode cX7_seek 112 = .ok (.goto 4, 3) := by decide +kernel
theorem dX7_seek_115 : decode cX7_seek 115 = .ok (.iconst 0, 1) := by decide +kernel
theorem dX7_seek_116 : decode cX7_seek 116 = .ok (.bastore, 1) := by decide +kernel
theorem dX7_seek_117 : decode cX7_seek 117 = .ok (.iinc 3 1, 3) := by decide +kernel
theorem dX7_seek_120 : decode cX7_seek 120 = .ok (.goto (-85), 3) := by decide +kernel
theorem dX7_seek_123 : decode cX7_seek 123 = .ok (.iinc 2 1, 3) := by decide +kernel
theorem dX7_seek_126 : decode cX7_seek 126 = .ok (.goto (-107), 3) := by decide +kernel
theorem dX7_seek_129 : decode cX7_seek 129 = .ok (.aload_n 0, 1) := by decide +kernel
theorem dX7_seek_130 : decode cX7_seek 130 = .ok (.ldc 73, 2) := by decide +kernel
theorem dX7_seek_132 : decode cX7_seek 132 = .ok (.putfield 74, 3) := by decide +kernel
theorem dX7_seek_135 : decode cX7_seek 135 = .ok (.aload_n 0, 1) := by decide +kernel
theorem dX7_seek_136 : decode cX7_seek 136 = .ok (.iload_n 1, 1) := by decide +kernel
theorem dX7_seek_137 : decode cX7_seek 137 = .ok (.putfield 77, 3) := by decide +kernel
theorem dX7_seek_140 : decode cX7_seek 140 = .ok (.aload_n 0, 1) := by decide +kernel
theorem dX7_seek_141 : decode cX7_seek 141 = .ok (.iconst 0, 1) := by decide +kernel
theorem dX7_seek_142 : decode cX7_seek 142 = .ok (.iconst 0, 1) := by decide +kernel
theorem dX7_seek_143 : decode cX7_seek 143 = .ok (.invokevirtual 80, 3) := by decide +kernel
theorem dX7_seek_146 : decode cX7_seek 146 = .ok (.ifCond .eq 10, 3) := by decide +kernel
theorem dX7_seek_149 : decode cX7_seek 149 = .ok (.aload_n 0, 1) := by decide +kernel
theorem dX7_seek_150 : decode cX7_seek 150 = .ok (.getfield 74, 3) := by decide +kernel
theorem dX7_seek_153 : decode cX7_seek 153 = .ok (.goto 5, 3) := by decide +kernel
theorem dX7_seek_156 : decode cX7_seek 156 = .ok (.ldc 83, 2) := by decide +kernel
theorem dX7_seek_158 : decode cX7_seek 158 = .ok (.ireturn, 1) := by decide +kernel
theorem dX7_seekFrom_0 : decode cX7_seekFrom 0 = .ok (.iload_n 1, 1) := by decide +kernel
theorem dX7_seekFrom_1 : decode cX7_seekFrom 1 = .ok (.aload_n 0, 1) := by decide +kernel
theorem dX7_seekFrom_2 : decode cX7_seekFrom 2 = .ok (.getfield 25, 3) := by decide +kernel
theorem dX7_seekFrom_5 : decode cX7_seekFrom 5 = .ok (.getfield 44, 3) := by decide +kernel
theorem dX7_seekFrom_8 : decode cX7_seekFrom 8 = .ok (.getfield 48, 3) := by decide +kernel
theorem dX7_seekFrom_11 : decode cX7_seekFrom 11 = .ok (.if_icmp .ge 9, 3) := by decide +kernel
theorem dX7_seekFrom_14 : decode cX7_seekFrom 14 = .ok (.iload_n 1, 1) := by decide +kernel
theorem dX7_seekFrom_15 : decode cX7_seekFrom 15 = .ok (.bipush 6, 2) := by decide +kernel
theorem dX7_seekFrom_17 : decode cX7_seekFrom 17 = .ok (.if_icmp .lt 10, 3) := by decide +kernel
theorem dX7_seekFrom_20 : decode cX7_seekFrom 20 = .ok (.aload_n 0, 1) := by decide +kernel
theorem dX7_seekFrom_21 : decode cX7_seekFrom 21 = .ok (.iload_n 2, 1) := by decide +kernel
theorem dX7_seekFrom_22 : decode cX7_seekFrom 22 = .ok (.invokevirtual 84, 3) := by decide +kernel
theorem dX7_seekFrom_25 : decode cX7_seekFrom 25 = .ok (.iconst 1, 1) := by decide +kernel
theorem dX7_seekFrom_26 : decode cX7_seekFrom 26 = .ok (.ireturn, 1) := by decide +kernel
theorem dX7_seekFrom_27 : decode cX7_seekFrom 27 = .ok (.aload_n 0, 1) := by decide +kernel
theorem dX7_seekFrom_28 : decode cX7_seekFrom 28 = .ok (.getfield 25, 3) := by decide +kernel
theorem dX7_seekFrom_31 : decode cX7_seekFrom 31 = .ok (.getfield 44, 3) := by decide +kernel
theorem dX7_seekFrom_34 : decode cX7_seekFrom 34 = .ok (.getfield 88, 3) := by decide +kernel
theorem dX7_seekFrom_37 : decode cX7_seekFrom 37 = .ok (.iload_n 1, 1) := by decide +kernel
theorem dX7_seekFrom_38 : decode cX7_seekFrom 38 = .ok (.iaload, 1) := by decide +kernel
theorem dX7_seekFrom_39 : decode cX7_seekFrom 39 = .ok (.istore_n 3, 1) := by decide +kernel
theorem dX7_seekFrom_40 : decode cX7_seekFrom 40 = .ok (.iconst 0, 1) := by decide +kernel
theorem dX7_seekFrom_41 : decode cX7_seekFrom 41 = .ok (.istore 4, 2) := by decide +kernel
theorem dX7_seekFrom_43 : decode cX7_seekFrom 43 = .ok (.iload 4, 2) := by decide +kernel
theorem dX7_seekFrom_45 : decode cX7_seekFrom 45 = .ok (.aload_n 0, 1) := by decide +kernel
theorem dX7_seekFrom_46 : decode cX7_seekFrom 46 = .ok (.getfield 25, 3) := by decide +kernel
theorem dX7_seekFrom_49 : decode cX7_seekFrom 49 = .ok (.getfield 29, 3) := by decide +kernel
theorem dX7_seekFrom_52 : decode cX7_seekFrom 52 = .ok (.getfield 54, 3) := by decide +kernel
theorem dX7_seekFrom_55 : decode cX7_seekFrom 55 = .ok (.if_icmp .ge 108, 3) := by decide +kernel
theorem dX7_seekFrom_58 : decode cX7_seekFrom 58 = .ok (.aload_n 0, 1) := by decide +kernel
theorem dX7_seekFrom_59 : decode cX7_seekFrom 59 = .ok (.getfield 9, 3) := by decide +kernel
theorem dX7_seekFrom_62 : decode cX7_seekFrom 62 = .ok (.iload_n 1, 1) := by decide +kernel
theorem dX7_seekFrom_63 : decode cX7_seekFrom 63 = .ok (.bipush 8, 2) := by decide +kernel
theorem dX7_seekFrom_65 : decode cX7_seekFrom 65 = .ok (.imul, 1) := by decide +kernel
theorem dX7_seekFrom_66 : decode cX7_seekFrom 66 = .ok (.iload 4, 2) := by decide +kernel
theorem dX7_seekFrom_68 : decode cX7_seekFrom 68 = .ok (.iadd, 1) := by decide +kernel
theorem dX7_seekFrom_69 : decode cX7_seekFrom 69 = .ok (.baload, 1) := by decide +kernel
theorem dX7_seekFrom_70 : decode cX7_seekFrom 70 = .ok (.ifCond .eq 87, 3) := by decide +kernel
theorem dX7_seekFrom_73 : decode cX7_seekFrom 73 = .ok (.aload_n 0, 1) := by decide +kernel
theorem dX7_seekFrom_74 : decode cX7_seekFrom 74 = .ok (.getfield 15, 3) := by decide +kernel
theorem dX7_seekFrom_77 : decode cX7_seekFrom 77 = .ok (.iload 4, 2) := by decide +kernel
theorem dX7_seekFrom_79 : decode cX7_seekFrom 79 = .ok (.iaload, 1) := by decide +kernel
theorem dX7_seekFrom_80 : decode cX7_seekFrom 80 = .ok (.iload_n 3, 1) := by decide +kernel
theorem dX7_seekFrom_81 : decode cX7_seekFrom 81 = .ok (.if_icmp .ge 6, 3) := by decide +kernel
theorem dX7_seekFrom_84 : decode cX7_seekFrom 84 = .ok (.goto 73, 3) := by decide +kernel
theorem dX7_seekFrom_87 : decode cX7_seekFrom 87 = .ok (.aload_n 0, 1) := by decide +kernel
theorem dX7_seekFrom_88 : decode cX7_seekFrom 88 = .ok (.getfield 77, 3) := by decide +kernel
theorem dX7_seekFrom_91 : decode cX7_seekFrom 91 = .ok (.ifCond .ne 5, 3) := by decide +kernel
theorem dX7_seekFrom_94 : decode cX7_seekFrom 94 = .ok (.iconst 0, 1) := by decide +kernel
theorem dX7_seekFrom_95 : decode cX7_seekFrom 95 = .ok (.ireturn, 1) := by decide +kernel
theorem dX7_seekFrom_96 : decode cX7_seekFrom 96 = .ok (.aload_n 0, 1) := by decide +kernel
theorem dX7_seekFrom_97 : decode cX7_seekFrom 97 = .ok (.dup, 1) := by decide +kernel
theorem dX7_seekFrom_98 : decode cX7_seekFrom 98 = .ok (.getfield 77, 3) := by decide +kernel
theorem dX7_seekFrom_101 : decode cX7_seekFrom 101 = .ok (.iconst 1, 1) := by decide +kernel
theorem dX7_seekFrom_102 : decode cX7_seekFrom 102 = .ok (.isub, 1) := by decide +kernel
theorem dX7_seekFrom_103 : decode cX7_seekFrom 103 = .ok (.putfield 77, 3) := by decide +kernel
theorem dX7_seekFrom_106 : decode cX7_seekFrom 106 = .ok (.aload_n 0, 1) := by decide +kernel
theorem dX7_seekFrom_107 : decode cX7_seekFrom 107 = .ok (.getfield 15, 3) := by decide +kernel
theorem dX7_seekFrom_110 : decode cX7_seekFrom 110 = .ok (.iload 4, 2) := by decide +kernel
theorem dX7_seekFrom_112 : decode cX7_seekFrom 112 = .ok (.dup2, 1) := by decide +kernel
theorem dX7_seekFrom_113 : decode cX7_seekFrom 113 = .ok (.iaload, 1) := by decide +kernel
theorem dX7_seekFrom_114 : decode cX7_seekFrom 114 = .ok (.iload_n 3, 1) := by decide +kernel
theorem dX7_seekFrom_115 : decode cX7_seekFrom 115 = .ok (.isub, 1) := by decide +kernel
theorem dX7_seekFrom_116 : decode cX7_seekFrom 116 = .ok (.iastore, 1) := by decide +kernel
theorem dX7_seekFrom_117 : decode cX7_seekFrom 117 = .ok (.aload_n 0, 1) := by decide +kernel
theorem dX7_seekFrom_118 : decode cX7_seekFrom 118 = .ok (.getfield 19, 3) := by decide +kernel
theorem dX7_seekFrom_121 : decode cX7_seekFrom 121 = .ok (.iload_n 1, 1) := by decide +kernel
theorem dX7_seekFrom_122 : decode cX7_seekFrom 122 = .ok (.iload 4, 2) := by decide +kernel
theorem dX7_seekFrom_124 : decode cX7_seekFrom 124 = .ok (.iastore, 1) := by decide +kernel
theorem dX7_seekFrom_125 : decode cX7_seekFrom 125 = .ok (.aload_n 0, 1) := by decide +kernel
theorem dX7_seekFrom_126 : decode cX7_seekFrom 126 = .ok (.iload_n 1, 1) := by decide +kernel
theorem dX7_seekFrom_127 : decode cX7_seekFrom 127 = .ok (.iconst 1, 1) := by decide +kernel
theorem dX7_seekFrom_128 : decode cX7_seekFrom 128 = .ok (.iadd, 1) := by decide +kernel
theorem dX7_seekFrom_129 : decode cX7_seekFrom 129 = .ok (.iload_n 2, 1) := by decide +kernel
theorem dX7_seekFrom_130 : decode cX7_seekFrom 130 = .ok (.aload_n 0, 1) := by decide +kernel
theorem dX7_seekFrom_131 : decode cX7_seekFrom 131 = .ok (.iload_n 1, 1) := by decide +kernel
theorem dX7_seekFrom_132 : decode cX7_seekFrom 132 = .ok (.iload 4, 2) := by decide +kernel
theorem dX7_seekFrom_134 : decode cX7_seekFrom 134 = .ok (.invokevirtual 91, 3) := by decide +kernel
theorem dX7_seekFrom_137 : decode cX7_seekFrom 137 = .ok (.iadd, 1) := by decide +kernel
theorem dX7_seekFrom_138 : decode cX7_seekFrom 138 = .ok (.invokevirtual 80, 3) := by decide +kernel
theorem dX7_seekFrom_141 : decode cX7_seekFrom 141 = .ok (.ifCond .ne 5, 3) := by decide +kernel
theorem dX7_seekFrom_144 : decode cX7_seekFrom 144 = .ok (.iconst 0, 1) := by decide +kernel
theorem dX7_seekFrom_145 : decode cX7_seekFrom 145 = .ok (.ireturn, 1) := by decide +kernel
theorem dX7_seekFrom_146 : decode cX7_seekFrom 146 = .ok (.aload_n 0, 1) := by decide +kernel
theorem dX7_seekFrom_147 : decode cX7_seekFrom 147 = .ok (.getfield 15, 3) := by decide +kernel
theorem dX7_seekFrom_150 : decode cX7_seekFrom 150 = .ok (.iload 4, 2) := by decide +kernel
theorem dX7_seekFrom_152 : decode cX7_seekFrom 152 = .ok (.dup2, 1) := by decide +kernel
theorem dX7_seekFrom_153 : decode cX7_seekFrom 153 = .ok (.iaload, 1) := by decide +kernel
theorem dX7_seekFrom_154 : decode cX7_seekFrom 154 = .ok (.iload_n 3, 1) := by decide +kernel
theorem dX7_seekFrom_155 : decode cX7_seekFrom 155 = .ok (.iadd, 1) := by decide +kernel
theorem dX7_seekFrom_156 : decode cX7_seekFrom 156 = .ok (.iastore, 1) := by decide +kernel
theorem dX7_seekFrom_157 : decode cX7_seekFrom 157 = .ok (.iinc 4 1, 3) := by decide +kernel
theorem dX7_seekFrom_160 : decode cX7_seekFrom 160 = .ok (.goto (-117), 3) := by decide +kernel
theorem dX7_seekFrom_163 : decode cX7_seekFrom 163 = .ok (.iconst 1, 1) := by decide +kernel
theorem dX7_seekFrom_164 : decode cX7_seekFrom 164 = .ok (.ireturn, 1) := by decide +kernel
theorem dX7_takeIfLess_0 : decode cX7_takeIfLess 0 = .ok (.aload_n 0, 1) := by decide +kernel
theorem dX7_takeIfLess_1 : decode cX7_takeIfLess 1 = .ok (.getfield 74, 3) := by decide +kernel
theorem dX7_takeIfLess_4 : decode cX7_takeIfLess 4 = .ok (.ldc 73, 2) := by decide +kernel
theorem dX7_takeIfLess_6 : decode cX7_takeIfLess 6 = .ok (.if_icmp .eq 11, 3) := by decide +kernel
theorem dX7_takeIfLess_9 : decode cX7_takeIfLess 9 = .ok (.iload_n 1, 1) := by decide +kernel
theorem dX7_takeIfLess_10 : decode cX7_takeIfLess 10 = .ok (.aload_n 0, 1) := by decide +kernel
theorem dX7_takeIfLess_11 : decode cX7_takeIfLess 11 = .ok (.getfield 74, 3) := by decide +kernel
theorem dX7_takeIfLess_14 : decode cX7_takeIfLess 14 = .ok (.if_icmp .ge 19, 3) := by decide +kernel
theorem dX7_takeIfLess_17 : decode cX7_takeIfLess 17 = .ok (.aload_n 0, 1) := by decide +kernel
theorem dX7_takeIfLess_18 : decode cX7_takeIfLess 18 = .ok (.iload_n 1, 1) := by decide +kernel
theorem dX7_takeIfLess_19 : decode cX7_takeIfLess 19 = .ok (.putfield 74, 3) := by decide +kernel
theorem dX7_takeIfLess_22 : decode cX7_takeIfLess 22 = .ok (.aload_n 0, 1) := by decide +kernel
theorem dX7_takeIfLess_23 : decode cX7_takeIfLess 23 = .ok (.getfield 19, 3) := by decide +kernel
theorem dX7_takeIfLess_26 : decode cX7_takeIfLess 26 = .ok (.aload_n 0, 1) := by decide +kernel
theorem dX7_takeIfLess_27 : decode cX7_takeIfLess 27 = .ok (.getfield 22, 3) := by decide +kernel
theorem dX7_takeIfLess_30 : decode cX7_takeIfLess 30 = .ok (.invokestatic 40, 3) := by decide +kernel
theorem dX7_takeIfLess_33 : decode cX7_takeIfLess 33 = .ok (.return_, 1) := by decide +kernel
theorem dX7_costOf_0 : decode cX7_costOf 0 = .ok (.aload_n 0, 1) := by decide +kernel
theorem dX7_costOf_1 : decode cX7_costOf 1 = .ok (.getfield 25, 3) := by decide +kernel
theorem dX7_costOf_4 : decode cX7_costOf 4 = .ok (.getfield 44, 3) := by decide +kernel
theorem dX7_costOf_7 : decode cX7_costOf 7 = .ok (.getfield 88, 3) := by decide +kernel
theorem dX7_costOf_10 : decode cX7_costOf 10 = .ok (.iload_n 1, 1) := by decide +kernel
theorem dX7_costOf_11 : decode cX7_costOf 11 = .ok (.iaload, 1) := by decide +kernel
theorem dX7_costOf_12 : decode cX7_costOf 12 = .ok (.aload_n 0, 1) := by decide +kernel
theorem dX7_costOf_13 : decode cX7_costOf 13 = .ok (.getfield 25, 3) := by decide +kernel
theorem dX7_costOf_16 : decode cX7_costOf 16 = .ok (.getfield 29, 3) := by decide +kernel
theorem dX7_costOf_19 : decode cX7_costOf 19 = .ok (.getfield 95, 3) := by decide +kernel
theorem dX7_costOf_22 : decode cX7_costOf 22 = .ok (.iload_n 2, 1) := by decide +kernel
theorem dX7_costOf_23 : decode cX7_costOf 23 = .ok (.iaload, 1) := by decide +kernel
theorem dX7_costOf_24 : decode cX7_costOf 24 = .ok (.imul, 1) := by decide +kernel
theorem dX7_costOf_25 : decode cX7_costOf 25 = .ok (.bipush 10, 2) := by decide +kernel
theorem dX7_costOf_27 : decode cX7_costOf 27 = .ok (.idiv, 1) := by decide +kernel
theorem dX7_costOf_28 : decode cX7_costOf 28 = .ok (.ireturn, 1) := by decide +kernel
theorem dX8_init_0 : decode cX8_init 0 = .ok (.aload_n 0, 1) := by decide +kernel
theorem dX8_init_1 : decode cX8_init 1 = .ok (.invokespecial 3, 3) := by decide +kernel
theorem dX8_init_4 : decode cX8_init 4 = .ok (.aload_n 0, 1) := by decide +kernel
theorem dX8_init_5 : decode cX8_init 5 = .ok (.bipush 120, 2) := by decide +kernel
theorem dX8_init_7 : decode cX8_init 7 = .ok (.newarray .byte, 2) := by decide +kernel
theorem dX8_init_9 : decode cX8_init 9 = .ok (.putfield 9, 3) := by decide +kernel
theorem dX8_init_12 : decode cX8_init 12 = .ok (.aload_n 0, 1) := by decide +kernel
theorem dX8_init_13 : decode cX8_init 13 = .ok (.bipush 120, 2) := by decide +kernel
theorem dX8_init_15 : decode cX8_init 15 = .ok (.newarray .int, 2) := by decide +kernel
theorem dX8_init_17 : decode cX8_init 17 = .ok (.putfield 15, 3) := by decide +kernel
theorem dX8_init_20 : decode cX8_init 20 = .ok (.return_, 1) := by decide +kernel
theorem dX8_putFour_0 : decode cX8_putFour 0 = .ok (.bipush 24, 2) := by decide +kernel
theorem dX8_putFour_2 : decode cX8_putFour 2 = .ok (.istore_n 2, 1) := by decide +kernel
theorem dX8_putFour_3 : decode cX8_putFour 3 = .ok (.iload_n 2, 1) := by decide +kernel
theorem dX8_putFour_4 : decode cX8_putFour 4 = .ok (.ifCond .lt 41, 3) := by decide +kernel
theorem dX8_putFour_7 : decode cX8_putFour 7 = .ok (.aload_n 0, 1) := by decide +kernel
theorem dX8_putFour_8 : decode cX8_putFour 8 = .ok (.getfield 19, 3) := by decide +kernel
theorem dX8_putFour_11 : decode cX8_putFour 11 = .ok (.bipush 120, 2) := by decide +kernel
theorem dX8_putFour_13 : decode cX8_putFour 13 = .ok (.if_icmp .ge 32, 3) := by decide +kernel
theorem dX8_putFour_16 : decode cX8_putFour 16 = .ok (.aload_n 0, 1) := by decide +kernel
theorem dX8_putFour_17 : decode cX8_putFour 17 = .ok (.getfield 9, 3) := by decide +kernel
theorem dX8_putFour_20 : decode cX8_putFour 20 = .ok (.aload_n 0, 1) := by decide +kernel
theorem dX8_putFour_21 : decode cX8_putFour 21 = .ok (.getfield 19, 3) := by decide +kernel
theorem dX8_putFour_24 : decode cX8_putFour 24 = .ok (.iload_n 1, 1) := by decide +kernel
theorem dX8_putFour_25 : decode cX8_putFour 25 = .ok (.iload_n 2, 1) := by decide +kernel
theorem dX8_putFour_26 : decode cX8_putFour 26 = .ok (.ishr, 1) := by decide +kernel
theorem dX8_putFour_27 : decode cX8_putFour 27 = .ok (.i2b, 1) := by decide +kernel
theorem dX8_putFour_28 : decode cX8_putFour 28 = .ok (.bastore, 1) := by decide +kernel
theorem dX8_putFour_29 : decode cX8_putFour 29 = .ok (.aload_n 0, 1) := by decide +kernel
theorem dX8_putFour_30 : decode cX8_putFour 30 = .ok (.dup, 1) := by decide +kernel
theorem dX8_putFour_31 : decode cX8_putFour 31 = .ok (.getfield 19, 3) := by decide +kernel
theorem dX8_putFour_34 : decode cX8_putFour 34 = .ok (.iconst 1, 1) := by decide +kernel
theorem dX8_putFour_35 : decode cX8_putFour 35 = .ok (.iadd, 1) := by decide +kernel
theorem dX8_putFour_36 : decode cX8_putFour 36 = .ok (.putfield 19, 3) := by decide +kernel
theorem dX8_putFour_39 : decode cX8_putFour 39 = .ok (.iinc 2 (-8), 3) := by decide +kernel
theorem dX8_putFour_42 : decode cX8_putFour 42 = .ok (.goto (-39), 3) := by decide +kernel
theorem dX8_putFour_45 : decode cX8_putFour 45 = .ok (.return_, 1) := by decide +kernel
theorem dX8_readText_0 : decode cX8_readText 0 = .ok (.aload_n 0, 1) := by decide +kernel
theorem dX8_readText_1 : decode cX8_readText 1 = .ok (.iconst 0, 1) := by decide +kernel
theorem dX8_readText_2 : decode cX8_readText 2 = .ok (.putfield 23, 3) := by decide +kernel
theorem dX8_readText_5 : decode cX8_readText 5 = .ok (.aload_n 0, 1) := by decide +kernel
theorem dX8_readText_6 : decode cX8_readText 6 = .ok (.iconst 0, 1) := by decide +kernel
theorem dX8_readText_7 : decode cX8_readText 7 = .ok (.putfield 26, 3) := by decide +kernel
theorem dX8_readText_10 : decode cX8_readText 10 = .ok (.aload_n 0, 1) := by decide +kernel
theorem dX8_readText_11 : decode cX8_readText 11 = .ok (.iconst 0, 1) := by decide +kernel
theorem dX8_readText_12 : decode cX8_readText 12 = .ok (.putfield 29, 3) := by decide +kernel
theorem dX8_readText_15 : decode cX8_readText 15 = .ok (.aload_n 0, 1) := by decide +kernel
theorem dX8_readText_16 : decode cX8_readText 16 = .ok (.iconst 0, 1) := by decide +kernel
theorem dX8_readText_17 : decode cX8_readText 17 = .ok (.putfield 32, 3) := by decide +kernel
theorem dX8_readText_20 : decode cX8_readText 20 = .ok (.aload_n 0, 1) := by decide +kernel
theorem dX8_readText_21 : decode cX8_readText 21 = .ok (.ldc 35, 2) := by decide +kernel
theorem dX8_readText_23 : decode cX8_readText 23 = .ok (.putfield 36, 3) := by decide +kernel
theorem dX8_readText_26 : decode cX8_readText 26 = .ok (.aload_n 0, 1) := by decide +kernel
theorem dX8_readText_27 : decode cX8_readText 27 = .ok (.iconst 3, 1) := by decide +kernel
theorem dX8_readText_28 : decode cX8_readText 28 = .ok (.putfield 39, 3) := by decide +kernel
theorem dX8_readText_31 : decode cX8_readText 31 = .ok (.aload_n 0, 1) := by decide +kernel
theorem dX8_readText_32 : decode cX8_readText 32 = .ok (.iconst 0, 1) := by decide +kernel
theorem dX8_readText_33 : decode cX8_readText 33 = .ok (.putfield 42, 3) := by decide +kernel
theorem dX8_readText_36 : decode cX8_readText 36 = .ok (.aload_n 0, 1) := by decide +kernel
theorem dX8_readText_37 : decode cX8_readText 37 = .ok (.invokevirtual 45, 3) := by decide +kernel
theorem dX8_readText_40 : decode cX8_readText 40 = .ok (.aload_n 0, 1) := by decide +kernel
theorem dX8_readText_41 : decode cX8_readText 41 = .ok (.ldc 48, 2) := by decide +kernel
theorem dX8_readText_43 : decode cX8_readText 43 = .ok (.invokevirtual 50, 3) := by decide +kernel
theorem dX8_readText_46 : decode cX8_readText 46 = .ok (.aload_n 0, 1) := by decide +kernel
theorem dX8_readText_47 : decode cX8_readText 47 = .ok (.invokevirtual 54, 3) := by decide +kernel
theorem dX8_readText_50 : decode cX8_readText 50 = .ok (.aload_n 0, 1) := by decide +kernel
theorem dX8_readText_51 : decode cX8_readText 51 = .ok (.aload_n 0, 1) := by decide +kernel
theorem dX8_readText_52 : decode cX8_readText 52 = .ok (.getfield 23, 3) := by decide +kernel
theorem dX8_readText_55 : decode cX8_readText 55 = .ok (.putfield 57, 3) := by decide +kernel
theorem dX8_readText_58 : decode cX8_readText 58 = .ok (.aload_n 0, 1) := by decide +kernel
theorem dX8_readText_59 : decode cX8_readText 59 = .ok (.ldc 60, 2) := by decide +kernel
theorem dX8_readText_61 : decode cX8_readText 61 = .ok (.invokevirtual 50, 3) := by decide +kernel
theorem dX8_readText_64 : decode cX8_readText 64 = .ok (.aload_n 0, 1) := by decide +kernel
theorem dX8_readText_65 : decode cX8_readText 65 = .ok (.invokevirtual 54, 3) := by decide +kernel
theorem dX8_readText_68 : decode cX8_readText 68 = .ok (.aload_n 0, 1) := by decide +kernel
theorem dX8_readText_69 : decode cX8_readText 69 = .ok (.getfield 39, 3) := by decide +kernel
theorem dX8_readText_72 : decode cX8_readText 72 = .ok (.ifCond .eq 7, 3) := by decide +kernel
theorem dX8_readText_75 : decode cX8_readText 75 = .ok (.aload_n 0, 1) := by decide +kernel
theorem dX8_readText_76 : decode cX8_readText 76 = .ok (.invokevirtual 62, 3) := by decide +kernel
theorem dX8_readText_79 : decode cX8_readText 79 = .ok (.aload_n 0, 1) := by decide +kernel
theorem dX8_readText_80 : decode cX8_readText 80 = .ok (.getfield 36, 3) := by decide +kernel
theorem dX8_readText_83 : decode cX8_readText 83 = .ok (.ireturn, 1) := by decide +kernel
theorem dX8_fail_0 : decode cX8_fail 0 = .ok (.aload_n 0, 1) := by decide +kernel
theorem dX8_fail_1 : decode cX8_fail 1 = .ok (.getfield 36, 3) := by decide +kernel
theorem dX8_fail_4 : decode cX8_fail 4 = .ok (.ldc 35, 2) := by decide +kernel
theorem dX8_fail_6 : decode cX8_fail 6 = .ok (.if_icmp .ne 11, 3) := by decide +kernel
theorem dX8_fail_9 : decode cX8_fail 9 = .ok (.aload_n 0, 1) := by decide +kernel
theorem dX8_fail_10 : decode cX8_fail 10 = .ok (.aload_n 0, 1) := by decide +kernel
theorem dX8_fail_11 : decode cX8_fail 11 = .ok (.getfield 65, 3) := by decide +kernel
theorem dX8_fail_14 : decode cX8_fail 14 = .ok (.putfield 36, 3) := by decide +kernel
theorem dX8_fail_17 : decode cX8_fail 17 = .ok (.return_, 1) := by decide +kernel
theorem dX8_readNext_0 : decode cX8_readNext 0 = .ok (.aload_n 0, 1) := by decide +kernel
theorem dX8_readNext_1 : decode cX8_readNext 1 = .ok (.getfield 42, 3) := by decide +kernel
theorem dX8_readNext_4 : decode cX8_readNext 4 = .ok (.istore_n 1, 1) := by decide +kernel
theorem dX8_readNext_5 : decode cX8_readNext 5 = .ok (.iload_n 1, 1) := by decide +kernel
theorem dX8_readNext_6 : decode cX8_readNext 6 = .ok (.aload_n 0, 1) := by decide +kernel
theorem dX8_readNext_7 : decode cX8_readNext 7 = .ok (.getfield 19, 3) := by decide +kernel
theorem dX8_readNext_10 : decode cX8_readNext 10 = .ok (.if_icmp .ge 20, 3) := by decide +kernel
theorem dX8_readNext_13 : decode cX8_readNext 13 = .ok (.aload_n 0, 1) := by decide +kernel
theorem dX8_readNext_14 : decode cX8_readNext 14 = .ok (.getfield 9, 3) := by decide +kernel
theorem dX8_readNext_17 : decode cX8_readNext 17 = .ok (.iload_n 1, 1) := by decide +kernel
theorem dX8_readNext_18 : decode cX8_readNext 18 = .ok (.baload, 1) := by decide +kernel
theorem dX8_readNext_19 : decode cX8_readNext 19 = .ok (.bipush 32, 2) := by decide +kernel
theorem dX8_readNext_21 : decode cX8_readNext 21 = .ok (.if_icmp .ne 9, 3) := by decide +kernel
theorem dX8_readNext_24 : decode cX8_readNext 24 = .ok (.iinc 1 1, 3) := by decide +kernel
theorem dX8_readNext_27 : decode cX8_readNext 27 = .ok (.goto (-22), 3) := by decide +kernel
theorem dX8_readNext_30 : decode cX8_readNext 30 = .ok (.iload_n 1, 1) := by decide +kernel
theorem dX8_readNext_31 : decode cX8_readNext 31 = .ok (.aload_n 0, 1) := by decide +kernel
theorem dX8_readNext_32 : decode cX8_readNext 32 = .ok (.getfield 42, 3) := by decide +kernel
theorem dX8_readNext_35 : decode cX8_readNext 35 = .ok (.if_icmp .ne 23, 3) := by decide +kernel
theorem dX8_readNext_38 : decode cX8_readNext 38 = .ok (.aload_n 0, 1) := by decide +kernel
theorem dX8_readNext_39 : decode cX8_readNext 39 = .ok (.getfield 39, 3) := by decide +kernel
theorem dX8_readNext_42 : decode cX8_readNext 42 = .ok (.iconst 1, 1) := by decide +kernel
theorem dX8_readNext_43 : decode cX8_readNext 43 = .ok (.if_icmp .eq 11, 3) := by decide +kernel
theorem dX8_readNext_46 : decode cX8_readNext 46 = .ok (.aload_n 0, 1) := by decide +kernel
theorem dX8_readNext_47 : decode cX8_readNext 47 = .ok (.getfield 39, 3) := by decide +kernel
theorem dX8_readNext_50 : decode cX8_readNext 50 = .ok (.iconst 2, 1) := by decide +kernel
theorem dX8_readNext_51 : decode cX8_readNext 51 = .ok (.if_icmp .ne 7, 3) := by decide +kernel
theorem dX8_readNext_54 : decode cX8_readNext 54 = .ok (.iconst 1, 1) := by decide +kernel
theorem dX8_readNext_55 : decode cX8_readNext 55 = .ok (.goto 4, 3) := by decide +kernel
theorem dX8_readNext_58 : decode cX8_readNext 58 = .ok (.iconst 0, 1) := by decide +kernel
theorem dX8_readNext_59 : decode cX8_readNext 59 = .ok (.istore_n 2, 1) := by decide +kernel
theorem dX8_readNext_60 : decode cX8_readNext 60 = .ok (.aload_n 0, 1) := by decide +kernel
theorem dX8_readNext_61 : decode cX8_readNext 61 = .ok (.iload_n 1, 1) := by decide +kernel
theorem dX8_readNext_62 : decode cX8_readNext 62 = .ok (.putfield 65, 3) := by decide +kernel
theorem dX8_readNext_65 : decode cX8_readNext 65 = .ok (.iload_n 1, 1) := by decide +kernel
theorem dX8_readNext_66 : decode cX8_readNext 66 = .ok (.aload_n 0, 1) := by decide +kernel
theorem dX8_readNext_67 : decode cX8_readNext 67 = .ok (.getfield 19, 3) := by decide +kernel
theorem dX8_readNext_70 : decode cX8_readNext 70 = .ok (.if_icmp .lt 16, 3) := by decide +kernel
theorem dX8_readNext_73 : decode cX8_readNext 73 = .ok (.aload_n 0, 1) := by decide +kernel
theorem dX8_readNext_74 : decode cX8_readNext 74 = .ok (.iload_n 1, 1) := by decide +kernel
theorem dX8_readNext_75 : decode cX8_readNext 75 = .ok (.putfield 42, 3) := by decide +kernel
theorem dX8_readNext_78 : decode cX8_readNext 78 = .ok (.aload_n 0, 1) := by decide +kernel
theorem dX8_readNext_79 : decode cX8_readNext 79 = .ok (.iconst 0, 1) := by decide +kernel
theorem dX8_readNext_80 : decode cX8_readNext 80 = .ok (.putfield 39, 3) := by decide +kernel
theorem dX8_readNext_83 : decode cX8_readNext 83 = .ok (.goto 99, 3) := by decide +kernel
theorem dX8_readNext_86 : decode cX8_readNext 86 = .ok (.aload_n 0, 1) := by decide +kernel
theorem dX8_readNext_87 : decode cX8_readNext 87 = .ok (.getfield 9, 3) := by decide +kernel
theorem dX8_readNext_90 : decode cX8_readNext 90 = .ok (.iload_n 1, 1) := by decide +kernel
theorem dX8_readNext_91 : decode cX8_readNext 91 = .ok (.baload, 1) := by decide +kernel
theorem dX8_readNext_92 : decode cX8_readNext 92 = .ok (.invokestatic 68, 3) := by decide +kernel
theorem dX8_readNext_95 : decode cX8_readNext 95 = .ok (.ifCond .eq 38, 3) := by decide +kernel
theorem dX8_readNext_98 : decode cX8_readNext 98 = .ok (.aload_n 0, 1) := by decide +kernel
theorem dX8_readNext_99 : decode cX8_readNext 99 = .ok (.aload_n 0, 1) := by decide +kernel
theorem dX8_readNext_100 : decode cX8_readNext 100 = .ok (.iload_n 1, 1) := by decide +kernel
theorem dX8_readNext_101 : decode cX8_readNext 101 = .ok (.invokevirtual 72, 3) := by decide +kernel
theorem dX8_readNext_104 : decode cX8_readNext 104 = .ok (.putfield 42, 3) := by decide +kernel
theorem dX8_readNext_107 : decode cX8_readNext 107 = .ok (.aload_n 0, 1) := by decide +kernel
theorem dX8_readNext_108 : decode cX8_readNext 108 = .ok (.iload_n 2, 1) := by decide +kernel
theorem dX8_readNext_109 : decode cX8_readNext 109 = .ok (.ifCond .ne 13, 3) := by decide +kernel
theorem dX8_readNext_112 : decode cX8_readNext 112 = .ok (.aload_n 0, 1) := by decide +kernel
theorem dX8_readNext_113 : decode cX8_readNext 113 = .ok (.getfield 42, 3) := by decide +kernel
theorem dX8_readNext_116 : decode cX8_readNext 116 = .ok (.iload_n 1, 1) := by decide +kernel
theorem dX8_readNext_117 : decode cX8_readNext 117 = .ok (.isub, 1) := by decide +kernel
theorem dX8_readNext_118 : decode cX8_readNext 118 = .ok (.iconst 5, 1) := by decide +kernel
theorem dX8_readNext_119 : decode cX8_readNext 119 = .ok (.if_icmp .le 7, 3) := by decide +kernel
theorem dX8_readNext_122 : decode cX8_readNext 122 = .ok (.iconst 4, 1) := by decide +kernel
theorem dX8_readNext_123 : decode cX8_readNext 123 = .ok (.goto 4, 3) := by decide +kernel
theorem dX8_readNext_126 : decode cX8_readNext 126 = .ok (.iconst 1, 1) := by decide +kernel
theorem dX8_readNext_127 : decode cX8_readNext 127 = .ok (.putfield 39, 3) := by decide +kernel
theorem dX8_readNext_130 : decode cX8_readNext 130 = .ok (.goto 52, 3) := by decide +kernel
theorem dX8_readNext_133 : decode cX8_readNext 133 = .ok (.aload_n 0, 1) := by decide +kernel
theorem dX8_readNext_134 : decode cX8_readNext 134 = .ok (.getfield 9, 3) := by decide +kernel
theorem dX8_readNext_137 : decode cX8_readNext 137 = .ok (.iload_n 1, 1) := by decide +kernel
theorem dX8_readNext_138 : decode cX8_readNext 138 = .ok (.baload, 1) := by decide +kernel
theorem dX8_readNext_139 : decode cX8_readNext 139 = .ok (.invokestatic 76, 3) := by decide +kernel
theorem dX8_readNext_142 : decode cX8_readNext 142 = .ok (.ifCond .eq 28, 3) := by decide +kernel
theorem dX8_readNext_145 : decode cX8_readNext 145 = .ok (.aload_n 0, 1) := by decide +kernel
theorem dX8_readNext_146 : decode cX8_readNext 146 = .ok (.aload_n 0, 1) := by decide +kernel
theorem dX8_readNext_147 : decode cX8_readNext 147 = .ok (.iload_n 1, 1) := by decide +kernel
theorem dX8_readNext_148 : decode cX8_readNext 148 = .ok (.invokevirtual 79, 3) := by decide +kernel
theorem dX8_readNext_151 : decode cX8_readNext 151 = .ok (.putfield 42, 3) := by decide +kernel
theorem dX8_readNext_154 : decode cX8_readNext 154 = .ok (.aload_n 0, 1) := by decide +kernel
theorem dX8_readNext_155 : decode cX8_readNext 155 = .ok (.iload_n 2, 1) := by decide +kernel
theorem dX8_readNext_156 : decode cX8_readNext 156 = .ok (.ifCond .eq 7, 3) := by decide +kernel
theorem dX8_readNext_159 : decode cX8_readNext 159 = .ok (.iconst 4, 1) := by decide +kernel
theorem dX8_readNext_160 : decode cX8_readNext 160 = .ok (.goto 4, 3) := by decide +kernel
theorem dX8_readNext_163 : decode cX8_readNext 163 = .ok (.iconst 2, 1) := by decide +kernel
theorem dX8_readNext_164 : decode cX8_readNext 164 = .ok (.putfield 39, 3) := by decide +kernel
theorem dX8_readNext_167 : decode cX8_readNext 167 = .ok (.goto 15, 3) := by decide +kernel
theorem dX8_readNext_170 : decode cX8_readNext 170 = .ok (.aload_n 0, 1) := by decide +kernel
theorem dX8_readNext_171 : decode cX8_readNext 171 = .ok (.iload_n 1, 1) := by decide +kernel
theorem dX8_readNext_172 : decode cX8_readNext 172 = .ok (.iconst 1, 1) := by decide +kernel
theorem dX8_readNext_173 : decode cX8_readNext 173 = .ok (.iadd, 1) := by decide +kernel
theorem dX8_readNext_174 : decode cX8_readNext 174 = .ok (.putfield 42, 3) := by decide +kernel
theorem dX8_readNext_177 : decode cX8_readNext 177 = .ok (.aload_n 0, 1) := by decide +kernel
theorem dX8_readNext_178 : decode cX8_readNext 178 = .ok (.iconst 3, 1) := by decide +kernel
theorem dX8_readNext_179 : decode cX8_readNext 179 = .ok (.putfield 39, 3) := by decide +kernel
theorem dX8_readNext_182 : decode cX8_readNext 182 = .ok (.return_, 1) := by decide +kernel
theorem dX8_isDigit_0 : decode cX8_isDigit 0 = .ok (.iload_n 0, 1) := by decide +kernel
theorem dX8_isDigit_1 : decode cX8_isDigit 1 = .ok (.bipush 48, 2) := by decide +kernel
theorem dX8_isDigit_3 : decode cX8_isDigit 3 = .ok (.if_icmp .lt 13, 3) := by decide +kernel
theorem dX8_isDigit_6 : decode cX8_isDigit 6 = .ok (.iload_n 0, 1) := by decide +kernel
theorem dX8_isDigit_7 : decode cX8_isDigit 7 = .ok (.bipush 57, 2) := by decide +kernel
theorem dX8_isDigit_9 : decode cX8_isDigit 9 = .ok (.if_icmp .gt 7, 3) := by decide +kernel
theorem dX8_isDigit_12 : decode cX8_isDigit 12 = .ok (.iconst 1, 1) := by decide +kernel
theorem dX8_isDigit_13 : decode cX8_isDigit 13 = .ok (.goto 4, 3) := by decide +kernel
theorem dX8_isDigit_16 : decode cX8_isDigit 16 = .ok (.iconst 0, 1) := by decide +kernel
theorem dX8_isDigit_17 : decode cX8_isDigit 17 = .ok (.ireturn, 1) := by decide +kernel
theorem dX8_isLetter_0 : decode cX8_isLetter 0 = .ok (.iload_n 0, 1) := by decide +kernel
theorem dX8_isLetter_1 : decode cX8_isLetter 1 = .ok (.bipush 97, 2) := by decide +kernel
theorem dX8_isLetter_3 : decode cX8_isLetter 3 = .ok (.if_icmp .lt 13, 3) := by decide +kernel
theorem dX8_isLetter_6 : decode cX8_isLetter 6 = .ok (.iload_n 0, 1) := by decide +kernel
theorem dX8_isLetter_7 : decode cX8_isLetter 7 = .ok (.bipush 122, 2) := by decide +kernel
theorem dX8_isLetter_9 : decode cX8_isLetter 9 = .ok (.if_icmp .gt 7, 3) := by decide +kernel
theorem dX8_isLetter_12 : decode cX8_isLetter 12 = .ok (.iconst 1, 1) := by decide +kernel
theorem dX8_isLetter_13 : decode cX8_isLetter 13 = .ok (.goto 4, 3) := by decide +kernel
theorem dX8_isLetter_16 : decode cX8_isLetter 16 = .ok (.iconst 0, 1) := by decide +kernel
theorem dX8_isLetter_17 : decode cX8_isLetter 17 = .ok (.ireturn, 1) := by decide +kernel
theorem dX8_endOfDigits_0 : decode cX8_endOfDigits 0 = .ok (.iload_n 1, 1) := by decide +kernel
theorem dX8_endOfDigits_1 : decode cX8_endOfDigits 1 = .ok (.istore_n 2, 1) := by decide +kernel
theorem dX8_endOfDigits_2 : decode cX8_endOfDigits 2 = .ok (.iload_n 2, 1) := by decide +kernel
theorem dX8_endOfDigits_3 : decode cX8_endOfDigits 3 = .ok (.aload_n 0, 1) := by decide +kernel
theorem dX8_endOfDigits_4 : decode cX8_endOfDigits 4 = .ok (.getfield 19, 3) := by decide +kernel
theorem dX8_endOfDigits_7 : decode cX8_endOfDigits 7 = .ok (.if_icmp .ge 21, 3) := by decide +kernel
theorem dX8_endOfDigits_10 : decode cX8_endOfDigits 10 = .ok (.aload_n 0, 1) := by decide +kernel
theorem dX8_endOfDigits_11 : decode cX8_endOfDigits 11 = .ok (.getfield 9, 3) := by decide +kernel
theorem dX8_endOfDigits_14 : decode cX8_endOfDigits 14 = .ok (.iload_n 2, 1) := by decide +kernel
theorem dX8_endOfDigits_15 : decode cX8_endOfDigits 15 = .ok (.baload, 1) := by decide +kernel
theorem dX8_endOfDigits_16 : decode cX8_endOfDigits 16 = .ok (.invokestatic 68, 3) := by decide +kernel
theorem dX8_endOfDigits_19 : decode cX8_endOfDigits 19 = .ok (.ifCond .eq 9, 3) := by decide +kernel
theorem dX8_endOfDigits_22 : decode cX8_endOfDigits 22 = .ok (.iinc 2 1, 3) := by decide +kernel
theorem dX8_endOfDigits_25 : decode cX8_endOfDigits 25 = .ok (.goto (-23), 3) := by decide +kernel
theorem dX8_endOfDigits_28 : decode cX8_endOfDigits 28 = .ok (.iload_n 2, 1) := by decide +kernel
theorem dX8_endOfDigits_29 : decode cX8_endOfDigits 29 = .ok (.ireturn, 1) := by decide +kernel
theorem dX8_endOfLetters_0 : decode cX8_endOfLetters 0 = .ok (.iload_n 1, 1) := by decide +kernel
theorem dX8_endOfLetters_1 : decode cX8_endOfLetters 1 = .ok (.istore_n 2, 1) := by decide +kernel
theorem dX8_endOfLetters_2 : decode cX8_endOfLetters 2 = .ok (.iload_n 2, 1) := by decide +kernel
theorem dX8_endOfLetters_3 : decode cX8_endOfLetters 3 = .ok (.aload_n 0, 1) := by decide +kernel
theorem dX8_endOfLetters_4 : decode cX8_endOfLetters 4 = .ok (.getfield 19, 3) := by decide +kernel
theorem dX8_endOfLetters_7 : decode cX8_endOfLetters 7 = .ok (.if_icmp .ge 21, 3) := by decide +kernel
theorem dX8_endOfLetters_10 : decode cX8_endOfLetters 10 = .ok (.aload_n 0, 1) := by decide +kernel
theorem dX8_endOfLetters_11 : decode cX8_endOfLetters 11 = .ok (.getfield 9, 3) := by decide +kernel
theorem dX8_endOfLetters_14 : decode cX8_endOfLetters 14 = .ok (.iload_n 2, 1) := by decide +kernel
theorem dX8_endOfLetters_15 : decode cX8_endOfLetters 15 = .ok (.baload, 1) := by decide +kernel
theorem dX8_endOfLetters_16 : decode cX8_endOfLetters 16 = .ok (.invokestatic 76, 3) := by decide +kernel
theorem dX8_endOfLetters_19 : decode cX8_endOfLetters 19 = .ok (.ifCond .eq 9, 3) := by decide +kernel
theorem dX8_endOfLetters_22 : decode cX8_endOfLetters 22 = .ok (.iinc 2 1, 3) := by decide +kernel
theorem dX8_endOfLetters_25 : decode cX8_endOfLetters 25 = .ok (.goto (-23), 3) := by decide +kernel
theorem dX8_endOfLetters_28 : decode cX8_endOfLetters 28 = .ok (.iload_n 2, 1) := by decide +kernel
theorem dX8_endOfLetters_29 : decode cX8_endOfLetters 29 = .ok (.ireturn, 1) := by decide +kernel
theorem dX8_readKeyword_0 : decode cX8_readKeyword 0 = .ok (.aload_n 0, 1) := by decide +kernel
theorem dX8_readKeyword_1 : decode cX8_readKeyword 1 = .ok (.getfield 36, 3) := by decide +kernel
theorem dX8_readKeyword_4 : decode cX8_readKeyword 4 = .ok (.ldc 35, 2) := by decide +kernel
theorem dX8_readKeyword_6 : decode cX8_readKeyword 6 = .ok (.if_icmp .eq 4, 3) := by decide +kernel
theorem dX8_readKeyword_9 : decode cX8_readKeyword 9 = .ok (.return_, 1) := by decide +kernel
theorem dX8_readKeyword_10 : decode cX8_readKeyword 10 = .ok (.aload_n 0, 1) := by decide +kernel
theorem dX8_readKeyword_11 : decode cX8_readKeyword 11 = .ok (.aload_n 1, 1) := by decide +kernel
theorem dX8_readKeyword_12 : decode cX8_readKeyword 12 = .ok (.invokevirtual 82, 3) := by decide +kernel
theorem dX8_readKeyword_15 : decode cX8_readKeyword 15 = .ok (.ifCond .ne 8, 3) := by decide +kernel
theorem dX8_readKeyword_18 : decode cX8_readKeyword 18 = .ok (.aload_n 0, 1) := by decide +kernel
theorem dX8_readKeyword_19 : decode cX8_readKeyword 19 = .ok (.invokevirtual 62, 3) := by decide +kernel
theorem dX8_readKeyword_22 : decode cX8_readKeyword 22 = .ok (.return_, 1) := by decide +kernel
theorem dX8_readKeyword_23 : decode cX8_readKeyword 23 = .ok (.aload_n 0, 1) := by decide +kernel
theorem dX8_readKeyword_24 : decode cX8_readKeyword 24 = .ok (.invokevirtual 45, 3) := by decide +kernel
theorem dX8_readKeyword_27 : decode cX8_readKeyword 27 = .ok (.return_, 1) := by decide +kernel
theorem dX8_isAtWord_0 : decode cX8_isAtWord 0 = .ok (.aload_n 0, 1) := by decide +kernel
theorem dX8_isAtWord_1 : decode cX8_isAtWord 1 = .ok (.getfield 39, 3) := by decide +kernel
theorem dX8_isAtWord_4 : decode cX8_isAtWord 4 = .ok (.iconst 2, 1) := by decide +kernel
theorem dX8_isAtWord_5 : decode cX8_isAtWord 5 = .ok (.if_icmp .ne 19, 3) := by decide +kernel
theorem dX8_isAtWord_8 : decode cX8_isAtWord 8 = .ok (.aload_n 0, 1) := by decide +kernel
theorem dX8_isAtWord_9 : decode cX8_isAtWord 9 = .ok (.getfield 42, 3) := by decide +kernel
theorem dX8_isAtWord_12 : decode cX8_isAtWord 12 = .ok (.aload_n 0, 1) := by decide +kernel
theorem dX8_isAtWord_13 : decode cX8_isAtWord 13 = .ok (.getfield 65, 3) := by decide +kernel
theorem dX8_isAtWord_16 : decode cX8_isAtWord 16 = .ok (.isub, 1) := by decide +kernel
theorem dX8_isAtWord_17 : decode cX8_isAtWord 17 = .ok (.aload_n 1, 1) := by decide +kernel
theorem dX8_isAtWord_18 : decode cX8_isAtWord 18 = .ok (.invokevirtual 86, 3) := by decide +kernel
theorem dX8_isAtWord_21 : decode cX8_isAtWord 21 = .ok (.if_icmp .eq 5, 3) := by decide +kernel
theorem dX8_isAtWord_24 : decode cX8_isAtWord 24 = .ok (.iconst 0, 1) := by decide +kernel
theorem dX8_isAtWord_25 : decode cX8_isAtWord 25 = .ok (.ireturn, 1) := by decide +kernel
theorem dX8_isAtWord_26 : decode cX8_isAtWord 26 = .ok (.iconst 0, 1) := by decide +kernel
theorem dX8_isAtWord_27 : decode cX8_isAtWord 27 = .ok (.istore_n 2, 1) := by decide +kernel
theorem dX8_isAtWord_28 : decode cX8_isAtWord 28 = .ok (.iload_n 2, 1) := by decide +kernel
theorem dX8_isAtWord_29 : decode cX8_isAtWord 29 = .ok (.aload_n 1, 1) := by decide +kernel
theorem dX8_isAtWord_30 : decode cX8_isAtWord 30 = .ok (.invokevirtual 86, 3) := by decide +kernel
theorem dX8_isAtWord_33 : decode cX8_isAtWord 33 = .ok (.if_icmp .ge 30, 3) := by decide +kernel
theorem dX8_isAtWord_36 : decode cX8_isAtWord 36 = .ok (.aload_n 0, 1) := by decide +kernel
theorem dX8_isAtWord_37 : decode cX8_isAtWord 37 = .ok (.getfield 9, 3) := by decide +kernel
theorem dX8_isAtWord_40 : decode cX8_isAtWord 40 = .ok (.aload_n 0, 1) := by decide +kernel
theorem dX8_isAtWord_41 : decode cX8_isAtWord 41 = .ok (.getfield 65, 3) := by decide +kernel
theorem dX8_isAtWord_44 : decode cX8_isAtWord 44 = .ok (.iload_n 2, 1) := by decide +kernel
theorem dX8_isAtWord_45 : decode cX8_isAtWord 45 = .ok (.iadd, 1) := by decide +kernel
theorem dX8_isAtWord_46 : decode cX8_isAtWord 46 = .ok (.baload, 1) := by decide +kernel
theorem dX8_isAtWord_47 : decode cX8_isAtWord 47 = .ok (.aload_n 1, 1) := by decide +kernel
theorem dX8_isAtWord_48 : decode cX8_isAtWord 48 = .ok (.iload_n 2, 1) := by decide +kernel
theorem dX8_isAtWord_49 : decode cX8_isAtWord 49 = .ok (.invokevirtual 92, 3) := by decide +kernel
theorem dX8_isAtWord_52 : decode cX8_isAtWord 52 = .ok (.if_icmp .eq 5, 3) := by decide +kernel
theorem dX8_isAtWord_55 : decode cX8_isAtWord 55 = .ok (.iconst 0, 1) := by decide +kernel
theorem dX8_isAtWord_56 : decode cX8_isAtWord 56 = .ok (.ireturn, 1) := by decide +kernel
theorem dX8_isAtWord_57 : decode cX8_isAtWord 57 = .ok (.iinc 2 1, 3) := by decide +kernel
theorem dX8_isAtWord_60 : decode cX8_isAtWord 60 = .ok (.goto (-32), 3) := by decide +kernel
theorem dX8_isAtWord_63 : decode cX8_isAtWord 63 = .ok (.iconst 1, 1) := by decide +kernel
theorem dX8_isAtWord_64 : decode cX8_isAtWord 64 = .ok (.ireturn, 1) := by decide +kernel
theorem dX8_isAtSign_0 : decode cX8_isAtSign 0 = .ok (.aload_n 0, 1) := by decide +kernel
theorem dX8_isAtSign_1 : decode cX8_isAtSign 1 = .ok (.getfield 36, 3) := by decide +kernel
theorem dX8_isAtSign_4 : decode cX8_isAtSign 4 = .ok (.ldc 35, 2) := by decide +kernel
theorem dX8_isAtSign_6 : decode cX8_isAtSign 6 = .ok (.if_icmp .ne 28, 3) := by decide +kernel
theorem dX8_isAtSign_9 : decode cX8_isAtSign 9 = .ok (.aload_n 0, 1) := by decide +kernel
theorem dX8_isAtSign_10 : decode cX8_isAtSign 10 = .ok (.getfield 39, 3) := by decide +kernel
theorem dX8_isAtSign_13 : decode cX8_isAtSign 13 = .ok (.iconst 3, 1) := by decide +kernel
theorem dX8_isAtSign_14 : decode cX8_isAtSign 14 = .ok (.if_icmp .ne 20, 3) := by decide +kernel
theorem dX8_isAtSign_17 : decode cX8_isAtSign 17 = .ok (.aload_n 0, 1) := by decide +kernel
theorem dX8_isAtSign_18 : decode cX8_isAtSign 18 = .ok (.getfield 9, 3) := by decide +kernel
theorem dX8_isAtSign_21 : decode cX8_isAtSign 21 = .ok (.aload_n 0, 1) := by decide +kernel
theorem dX8_isAtSign_22 : decode cX8_isAtSign 22 = .ok (.getfield 65, 3) := by decide +kernel
theorem dX8_isAtSign_25 : decode cX8_isAtSign 25 = .ok (.baload, 1) := by decide +kernel
theorem dX8_isAtSign_26 : decode cX8_isAtSign 26 = .ok (.iload_n 1, 1) := by decide +kernel
theorem dX8_isAtSign_27 : decode cX8_isAtSign 27 = .ok (.if_icmp .ne 7, 3) := by decide +kernel
theorem dX8_isAtSign_30 : decode cX8_isAtSign 30 = .ok (.iconst 1, 1) := by decide +kernel
theorem dX8_isAtSign_31 : decode cX8_isAtSign 31 = .ok (.goto 4, 3) := by decide +kernel
theorem dX8_isAtSign_34 : decode cX8_isAtSign 34 = .ok (.iconst 0, 1) := by decide +kernel
theorem dX8_isAtSign_35 : decode cX8_isAtSign 35 = .ok (.ireturn, 1) := by decide +kernel
theorem dX8_put_0 : decode cX8_put 0 = .ok (.aload_n 0, 1) := by decide +kernel
theorem dX8_put_1 : decode cX8_put 1 = .ok (.getfield 23, 3) := by decide +kernel
theorem dX8_put_4 : decode cX8_put 4 = .ok (.aload_n 0, 1) := by decide +kernel
theorem dX8_put_5 : decode cX8_put 5 = .ok (.getfield 15, 3) := by decide +kernel
theorem dX8_put_8 : decode cX8_put 8 = .ok (.arraylength, 1) := by decide +kernel
theorem dX8_put_9 : decode cX8_put 9 = .ok (.if_icmp .ge 23, 3) := by decide +kernel
theorem dX8_put_12 : decode cX8_put 12 = .ok (.aload_n 0, 1) := by decide +kernel
theorem dX8_put_13 : decode cX8_put 13 = .ok (.getfield 15, 3) := by decide +kernel
theorem dX8_put_16 : decode cX8_put 16 = .ok (.aload_n 0, 1) := by decide +kernel
theorem dX8_put_17 : decode cX8_put 17 = .ok (.getfield 23, 3) := by decide +kernel
theorem dX8_put_20 : decode cX8_put 20 = .ok (.iload_n 1, 1) := by decide +kernel
theorem dX8_put_21 : decode cX8_put 21 = .ok (.iastore, 1) := by decide +kernel
theorem dX8_put_22 : decode cX8_put 22 = .ok (.aload_n 0, 1) := by decide +kernel
theorem dX8_put_23 : decode cX8_put 23 = .ok (.dup, 1) := by decide +kernel
theorem dX8_put_24 : decode cX8_put 24 = .ok (.getfield 23, 3) := by decide +kernel
theorem dX8_put_27 : decode cX8_put 27 = .ok (.iconst 1, 1) := by decide +kernel
theorem dX8_put_28 : decode cX8_put 28 = .ok (.iadd, 1) := by decide +kernel
theorem dX8_put_29 : decode cX8_put 29 = .ok (.putfield 23, 3) := by decide +kernel
theorem dX8_put_32 : decode cX8_put 32 = .ok (.return_, 1) := by decide +kernel
theorem dX8_readOr_0 : decode cX8_readOr 0 = .ok (.aload_n 0, 1) := by decide +kernel
theorem dX8_readOr_1 : decode cX8_readOr 1 = .ok (.invokevirtual 96, 3) := by decide +kernel
theorem dX8_readOr_4 : decode cX8_readOr 4 = .ok (.iconst 0, 1) := by decide +kernel
theorem dX8_readOr_5 : decode cX8_readOr 5 = .ok (.istore_n 1, 1) := by decide +kernel
theorem dX8_readOr_6 : decode cX8_readOr 6 = .ok (.iload_n 1, 1) := by decide +kernel
theorem dX8_readOr_7 : decode cX8_readOr 7 = .ok (.bipush 120, 2) := by decide +kernel
theorem dX8_readOr_9 : decode cX8_readOr 9 = .ok (.if_icmp .ge 32, 3) := by decide +kernel
theorem dX8_readOr_12 : decode cX8_readOr 12 = .ok (.aload_n 0, 1) := by decide +kernel
theorem dX8_readOr_13 : decode cX8_readOr 13 = .ok (.bipush 124, 2) := by decide +kernel
theorem dX8_readOr_15 : decode cX8_readOr 15 = .ok (.invokevirtual 99, 3) := by decide +kernel
theorem dX8_readOr_18 : decode cX8_readOr 18 = .ok (.ifCond .eq 23, 3) := by decide +kernel
theorem dX8_readOr_21 : decode cX8_readOr 21 = .ok (.aload_n 0, 1) := by decide +kernel
theorem dX8_readOr_22 : decode cX8_readOr 22 = .ok (.invokevirtual 45, 3) := by decide +kernel
theorem dX8_readOr_25 : decode cX8_readOr 25 = .ok (.aload_n 0, 1) := by decide +kernel
theorem dX8_readOr_26 : decode cX8_readOr 26 = .ok (.invokevirtual 96, 3) := by decide +kernel
theorem dX8_readOr_29 : decode cX8_readOr 29 = .ok (.aload_n 0, 1) := by decide +kernel
theorem dX8_readOr_30 : decode cX8_readOr 30 = .ok (.bipush (-124), 2) := by decide +kernel
theorem dX8_readOr_32 : decode cX8_readOr 32 = .ok (.invokevirtual 103, 3) := by decide +kernel
theorem dX8_readOr_35 : decode cX8_readOr 35 = .ok (.iinc 1 1, 3) := by decide +kernel
theorem dX8_readOr_38 : decode cX8_readOr 38 = .ok (.goto (-32), 3) := by decide +kernel
theorem dX8_readOr_41 : decode cX8_readOr 41 = .ok (.return_, 1) := by decide +kernel
theorem dX8_readAnd_0 : decode cX8_readAnd 0 = .ok (.aload_n 0, 1) := by decide +kernel
theorem dX8_readAnd_1 : decode cX8_readAnd 1 = .ok (.invokevirtual 107, 3) := by decide +kernel
theorem dX8_readAnd_4 : decode cX8_readAnd 4 = .ok (.iconst 0, 1) := by decide +kernel
theorem dX8_readAnd_5 : decode cX8_readAnd 5 = .ok (.istore_n 1, 1) := by decide +kernel
theorem dX8_readAnd_6 : decode cX8_readAnd 6 = .ok (.iload_n 1, 1) := by decide +kernel
theorem dX8_readAnd_7 : decode cX8_readAnd 7 = .ok (.bipush 120, 2) := by decide +kernel
theorem dX8_readAnd_9 : decode cX8_readAnd 9 = .ok (.if_icmp .ge 32, 3) := by decide +kernel
theorem dX8_readAnd_12 : decode cX8_readAnd 12 = .ok (.aload_n 0, 1) := by decide +kernel
theorem dX8_readAnd_13 : decode cX8_readAnd 13 = .ok (.bipush 38, 2) := by decide +kernel
theorem dX8_readAnd_15 : decode cX8_readAnd 15 = .ok (.invokevirtual 99, 3) := by decide +kernel
theorem dX8_readAnd_18 : decode cX8_readAnd 18 = .ok (.ifCond .eq 23, 3) := by decide +kernel
theorem dX8_readAnd_21 : decode cX8_readAnd 21 = .ok (.aload_n 0, 1) := by decide +kernel
theorem dX8_readAnd_22 : decode cX8_readAnd 22 = .ok (.invokevirtual 45, 3) := by decide +kernel
theorem dX8_readAnd_25 : decode cX8_readAnd 25 = .ok (.aload_n 0, 1) := by decide +kernel
theorem dX8_readAnd_26 : decode cX8_readAnd 26 = .ok (.invokevirtual 107, 3) := by decide +kernel
theorem dX8_readAnd_29 : decode cX8_readAnd 29 = .ok (.aload_n 0, 1) := by decide +kernel
theorem dX8_readAnd_30 : decode cX8_readAnd 30 = .ok (.bipush (-38), 2) := by decide +kernel
theorem dX8_readAnd_32 : decode cX8_readAnd 32 = .ok (.invokevirtual 103, 3) := by decide +kernel
theorem dX8_readAnd_35 : decode cX8_readAnd 35 = .ok (.iinc 1 1, 3) := by decide +kernel
theorem dX8_readAnd_38 : decode cX8_readAnd 38 = .ok (.goto (-32), 3) := by decide +kernel
theorem dX8_readAnd_41 : decode cX8_readAnd 41 = .ok (.return_, 1) := by decide +kernel
theorem dX8_readTest_0 : decode cX8_readTest 0 = .ok (.aload_n 0, 1) := by decide +kernel
theorem dX8_readTest_1 : decode cX8_readTest 1 = .ok (.invokevirtual 110, 3) := by decide +kernel
theorem dX8_readTest_4 : decode cX8_readTest 4 = .ok (.aload_n 0, 1) := by decide +kernel
theorem dX8_readTest_5 : decode cX8_readTest 5 = .ok (.bipush 60, 2) := by decide +kernel
theorem dX8_readTest_7 : decode cX8_readTest 7 = .ok (.invokevirtual 99, 3) := by decide +kernel
theorem dX8_readTest_10 : decode cX8_readTest 10 = .ok (.ifCond .ne 21, 3) := by decide +kernel
theorem dX8_readTest_13 : decode cX8_readTest 13 = .ok (.aload_n 0, 1) := by decide +kernel
theorem dX8_readTest_14 : decode cX8_readTest 14 = .ok (.bipush 61, 2) := by decide +kernel
theorem dX8_readTest_16 : decode cX8_readTest 16 = .ok (.invokevirtual 99, 3) := by decide +kernel
theorem dX8_readTest_19 : decode cX8_readTest 19 = .ok (.ifCond .ne 12, 3) := by decide +kernel
theorem dX8_readTest_22 : decode cX8_readTest 22 = .ok (.aload_n 0, 1) := by decide +kernel
theorem dX8_readTest_23 : decode cX8_readTest 23 = .ok (.bipush 62, 2) := by decide +kernel
theorem dX8_readTest_25 : decode cX8_readTest 25 = .ok (.invokevirtual 99, 3) := by decide +kernel
theorem dX8_readTest_28 : decode cX8_readTest 28 = .ok (.ifCond .eq 27, 3) := by decide +kernel
theorem dX8_readTest_31 : decode cX8_readTest 31 = .ok (.aload_n 0, 1) := by decide +kernel
theorem dX8_readTest_32 : decode cX8_readTest 32 = .ok (.getfield 9, 3) := by decide +kernel
theorem dX8_readTest_35 : decode cX8_readTest 35 = .ok (.aload_n 0, 1) := by decide +kernel
theorem dX8_readTest_36 : decode cX8_readTest 36 = .ok (.getfield 65, 3) := by decide +kernel
theorem dX8_readTest_39 : decode cX8_readTest 39 = .ok (.baload, 1) := by decide +kernel
theorem dX8_readTest_40 : decode cX8_readTest 40 = .ok (.istore_n 1, 1) := by decide +kernel
theorem dX8_readTest_41 : decode cX8_readTest 41 = .ok (.aload_n 0, 1) := by decide +kernel
theorem dX8_readTest_42 : decode cX8_readTest 42 = .ok (.invokevirtual 45, 3) := by decide +kernel
theorem dX8_readTest_45 : decode cX8_readTest 45 = .ok (.aload_n 0, 1) := by decide +kernel
theorem dX8_readTest_46 : decode cX8_readTest 46 = .ok (.invokevirtual 110, 3) := by decide +kernel
theorem dX8_readTest_49 : decode cX8_readTest 49 = .ok (.aload_n 0, 1) := by decide +kernel
theorem dX8_readTest_50 : decode cX8_readTest 50 = .ok (.iload_n 1, 1) := by decide +kernel
theorem dX8_readTest_51 : decode cX8_readTest 51 = .ok (.ineg, 1) := by decide +kernel
theorem dX8_readTest_52 : decode cX8_readTest 52 = .ok (.invokevirtual 103, 3) := by decide +kernel
theorem dX8_readTest_55 : decode cX8_readTest 55 = .ok (.return_, 1) := by decide +kernel
theorem dX8_readSum_0 : decode cX8_readSum 0 = .ok (.aload_n 0, 1) := by decide +kernel
theorem dX8_readSum_1 : decode cX8_readSum 1 = .ok (.invokevirtual 113, 3) := by decide +kernel
theorem dX8_readSum_4 : decode cX8_readSum 4 = .ok (.iconst 0, 1) := by decide +kernel
theorem dX8_readSum_5 : decode cX8_readSum 5 = .ok (.istore_n 1, 1) := by decide +kernel
theorem dX8_readSum_6 : decode cX8_readSum 6 = .ok (.iload_n 1, 1) := by decide +kernel
theorem dX8_readSum_7 : decode cX8_readSum 7 = .ok (.bipush 120, 2) := by decide +kernel
theorem dX8_readSum_9 : decode cX8_readSum 9 = .ok (.if_icmp .ge 51, 3) := by decide +kernel
theorem dX8_readSum_12 : decode cX8_readSum 12 = .ok (.aload_n 0, 1) := by decide +kernel
theorem dX8_readSum_13 : decode cX8_readSum 13 = .ok (.bipush 43, 2) := by decide +kernel
theorem dX8_readSum_15 : decode cX8_readSum 15 = .ok (.invokevirtual 99, 3) := by decide +kernel
theorem dX8_readSum_18 : decode cX8_readSum 18 = .ok (.ifCond .ne 12, 3) := by decide +kernel
theorem dX8_readSum_21 : decode cX8_readSum 21 = .ok (.aload_n 0, 1) := by decide +kernel
theorem dX8_readSum_22 : decode cX8_readSum 22 = .ok (.bipush 45, 2) := by decide +kernel
theorem dX8_readSum_24 : decode cX8_readSum 24 = .ok (.invokevirtual 99, 3) := by decide +kernel
theorem dX8_readSum_27 : decode cX8_readSum 27 = .ok (.ifCond .eq 33, 3) := by decide +kernel
theorem dX8_readSum_30 : decode cX8_readSum 30 = .ok (.aload_n 0, 1) := by decide +kernel
theorem dX8_readSum_31 : decode cX8_readSum 31 = .ok (.getfield 9, 3) := by decide +kernel
theorem dX8_readSum_34 : decode cX8_readSum 34 = .ok (.aload_n 0, 1) := by decide +kernel
theorem dX8_readSum_35 : decode cX8_readSum 35 = .ok (.getfield 65, 3) := by decide +kernel
theorem dX8_readSum_38 : decode cX8_readSum 38 = .ok (.baload, 1) := by decide +kernel
theorem dX8_readSum_39 : decode cX8_readSum 39 = .ok (.istore_n 2, 1) := by decide +kernel
theorem dX8_readSum_40 : decode cX8_readSum 40 = .ok (.aload_n 0, 1) := by decide +kernel
theorem dX8_readSum_41 : decode cX8_readSum 41 = .ok (.invokevirtual 45, 3) := by decide +kernel
theorem dX8_readSum_44 : decode cX8_readSum 44 = .ok (.aload_n 0, 1) := by decide +kernel
theorem dX8_readSum_45 : decode cX8_readSum 45 = .ok (.invokevirtual 113, 3) := by decide +kernel
theorem dX8_readSum_48 : decode cX8_readSum 48 = .ok (.aload_n 0, 1) := by decide +kernel
theorem dX8_readSum_49 : decode cX8_readSum 49 = .ok (.iload_n 2, 1) := by decide +kernel
theorem dX8_readSum_50 : decode cX8_readSum 50 = .ok (.ineg, 1) := by decide +kernel
theorem dX8_readSum_51 : decode cX8_readSum 51 = .ok (.invokevirtual 103, 3) := by decide +kernel
theorem dX8_readSum_54 : decode cX8_readSum 54 = .ok (.iinc 1 1, 3) := by decide +kernel
theorem dX8_readSum_57 : decode cX8_readSum 57 = .ok (.goto (-51), 3) := by decide +kernel
theorem dX8_readSum_60 : decode cX8_readSum 60 = .ok (.return_, 1) := by decide +kernel
theorem dX8_readTerm_0 : decode cX8_readTerm 0 = .ok (.aload_n 0, 1) := by decide +kernel
theorem dX8_readTerm_1 : decode cX8_readTerm 1 = .ok (.invokevirtual 116, 3) := by decide +kernel
theorem dX8_readTerm_4 : decode cX8_readTerm 4 = .ok (.iconst 0, 1) := by decide +kernel
theorem dX8_readTerm_5 : decode cX8_readTerm 5 = .ok (.istore_n 1, 1) := by decide +kernel
theorem dX8_readTerm_6 : decode cX8_readTerm 6 = .ok (.iload_n 1, 1) := by decide +kernel
theorem dX8_readTerm_7 : decode cX8_readTerm 7 = .ok (.bipush 120, 2) := by decide +kernel
theorem dX8_readTerm_9 : decode cX8_readTerm 9 = .ok (.if_icmp .ge 51, 3) := by decide +kernel
theorem dX8_readTerm_12 : decode cX8_readTerm 12 = .ok (.aload_n 0, 1) := by decide +kernel
theorem dX8_readTerm_13 : decode cX8_readTerm 13 = .ok (.bipush 42, 2) := by decide +kernel
theorem dX8_readTerm_15 : decode cX8_readTerm 15 = .ok (.invokevirtual 99, 3) := by decide +kernel
theorem dX8_readTerm_18 : decode cX8_readTerm 18 = .ok (.ifCond .ne 12, 3) := by decide +kernel
theorem dX8_readTerm_21 : decode cX8_readTerm 21 = .ok (.aload_n 0, 1) := by decide +kernel
theorem dX8_readTerm_22 : decode cX8_readTerm 22 = .ok (.bipush 47, 2) := by decide +kernel
theorem dX8_readTerm_24 : decode cX8_readTerm 24 = .ok (.invokevirtual 99, 3) := by decide +kernel
theorem dX8_readTerm_27 : decode cX8_readTerm 27 = .ok (.ifCond .eq 33, 3) := by decide +kernel
theorem dX8_readTerm_30 : decode cX8_readTerm 30 = .ok (.aload_n 0, 1) := by decide +kernel
theorem dX8_readTerm_31 : decode cX8_readTerm 31 = .ok (.getfield 9, 3) := by decide +kernel
theorem dX8_readTerm_34 : decode cX8_readTerm 34 = .ok (.aload_n 0, 1) := by decide +kernel
theorem dX8_readTerm_35 : decode cX8_readTerm 35 = .ok (.getfield 65, 3) := by decide +kernel
theorem dX8_readTerm_38 : decode cX8_readTerm 38 = .ok (.baload, 1) := by decide +kernel
theorem dX8_readTerm_39 : decode cX8_readTerm 39 = .ok (.istore_n 2, 1) := by decide +kernel
theorem dX8_readTerm_40 : decode cX8_readTerm 40 = .ok (.aload_n 0, 1) := by decide +kernel
theorem dX8_readTerm_41 : decode cX8_readTerm 41 = .ok (.invokevirtual 45, 3) := by decide +kernel
theorem dX8_readTerm_44 : decode cX8_readTerm 44 = .ok (.aload_n 0, 1) := by decide +kernel
theorem dX8_readTerm_45 : decode cX8_readTerm 45 = .ok (.invokevirtual 116, 3) := by decide +kernel
theorem dX8_readTerm_48 : decode cX8_readTerm 48 = .ok (.aload_n 0, 1) := by decide +kernel
theorem dX8_readTerm_49 : decode cX8_readTerm 49 = .ok (.iload_n 2, 1) := by decide +kernel
theorem dX8_readTerm_50 : decode cX8_readTerm 50 = .ok (.ineg, 1) := by decide +kernel
theorem dX8_readTerm_51 : decode cX8_readTerm 51 = .ok (.invokevirtual 103, 3) := by decide +kernel
theorem dX8_readTerm_54 : decode cX8_readTerm 54 = .ok (.iinc 1 1, 3) := by decide +kernel
theorem dX8_readTerm_57 : decode cX8_readTerm 57 = .ok (.goto (-51), 3) := by decide +kernel
theorem dX8_readTerm_60 : decode cX8_readTerm 60 = .ok (.return_, 1) := by decide +kernel
theorem dX8_readPart_0 : decode cX8_readPart 0 = .ok (.aload_n 0, 1) := by decide +kernel
theorem dX8_readPart_1 : decode cX8_readPart 1 = .ok (.getfield 36, 3) := by decide +kernel
theorem dX8_readPart_4 : decode cX8_readPart 4 = .ok (.ldc 35, 2) := by decide +kernel
theorem dX8_readPart_6 : decode cX8_readPart 6 = .ok (.if_icmp .eq 4, 3) := by decide +kernel
theorem dX8_readPart_9 : decode cX8_readPart 9 = .ok (.return_, 1) := by decide +kernel
theorem dX8_readPart_10 : decode cX8_readPart 10 = .ok (.aload_n 0, 1) := by decide +kernel
theorem dX8_readPart_11 : decode cX8_readPart 11 = .ok (.getfield 39, 3) := by decide +kernel
theorem dX8_readPart_14 : decode cX8_readPart 14 = .ok (.iconst 1, 1) := by decide +kernel
theorem dX8_readPart_15 : decode cX8_readPart 15 = .ok (.if_icmp .ne 10, 3) := by decide +kernel
theorem dX8_readPart_18 : decode cX8_readPart 18 = .ok (.aload_n 0, 1) := by decide +kernel
theorem dX8_readPart_19 : decode cX8_readPart 19 = .ok (.invokevirtual 119, 3) := by decide +kernel
theorem dX8_readPart_22 : decode cX8_readPart 22 = .ok (.goto 159, 3) := by decide +kernel
theorem dX8_readPart_25 : decode cX8_readPart 25 = .ok (.aload_n 0, 1) := by decide +kernel
theorem dX8_readPart_26 : decode cX8_readPart 26 = .ok (.getfield 39, 3) := by decide +kernel
theorem dX8_readPart_29 : decode cX8_readPart 29 = .ok (.iconst 2, 1) := by decide +kernel
theorem dX8_readPart_30 : decode cX8_readPart 30 = .ok (.if_icmp .ne 67, 3) := by decide +kernel
theorem dX8_readPart_33 : decode cX8_readPart 33 = .ok (.aload_n 0, 1) := by decide +kernel
theorem dX8_readPart_34 : decode cX8_readPart 34 = .ok (.getfield 42, 3) := by decide +kernel
theorem dX8_readPart_37 : decode cX8_readPart 37 = .ok (.aload_n 0, 1) := by decide +kernel
theorem dX8_readPart_38 : decode cX8_readPart 38 = .ok (.getfield 65, 3) := by decide +kernel
theorem dX8_readPart_41 : decode cX8_readPart 41 = .ok (.isub, 1) := by decide +kernel
theorem dX8_readPart_42 : decode cX8_readPart 42 = .ok (.iconst 1, 1) := by decide +kernel
theorem dX8_readPart_43 : decode cX8_readPart 43 = .ok (.if_icmp .ne 54, 3) := by decide +kernel
theorem dX8_readPart_46 : decode cX8_readPart 46 = .ok (.ldc 122, 2) := by decide +kernel
theorem dX8_readPart_48 : decode cX8_readPart 48 = .ok (.aload_n 0, 1) := by decide +kernel
theorem dX8_readPart_49 : decode cX8_readPart 49 = .ok (.getfield 9, 3) := by decide +kernel
theorem dX8_readPart_52 : decode cX8_readPart 52 = .ok (.aload_n 0, 1) := by decide +kernel
theorem dX8_readPart_53 : decode cX8_readPart 53 = .ok (.getfield 65, 3) := by decide +kernel
theorem dX8_readPart_56 : decode cX8_readPart 56 = .ok (.baload, 1) := by decide +kernel
theorem dX8_readPart_57 : decode cX8_readPart 57 = .ok (.i2c, 1) := by decide +kernel
theorem dX8_readPart_58 : decode cX8_readPart 58 = .ok (.invokevirtual 124, 3) := by decide +kernel
theorem dX8_readPart_61 : decode cX8_readPart 61 = .ok (.ifCond .lt 36, 3) := by decide +kernel
theorem dX8_readPart_64 : decode cX8_readPart 64 = .ok (.aload_n 0, 1) := by decide +kernel
theorem dX8_readPart_65 : decode cX8_readPart 65 = .ok (.ldc 127, 2) := by decide +kernel
theorem dX8_readPart_67 : decode cX8_readPart 67 = .ok (.aload_n 0, 1) := by decide +kernel
theorem dX8_readPart_68 : decode cX8_readPart 68 = .ok (.getfield 9, 3) := by decide +kernel
theorem dX8_readPart_71 : decode cX8_readPart 71 = .ok (.aload_n 0, 1) := by decide +kernel
theorem dX8_readPart_72 : decode cX8_readPart 72 = .ok (.getfield 65, 3) := by decide +kernel
theorem dX8_readPart_75 : decode cX8_readPart 75 = .ok (.baload, 1) := by decide +kernel
theorem dX8_readPart_76 : decode cX8_readPart 76 = .ok (.iadd, 1) := by decide +kernel
theorem dX8_readPart_77 : decode cX8_readPart 77 = .ok (.invokevirtual 103, 3) := by decide +kernel
theorem dX8_readPart_80 : decode cX8_readPart 80 = .ok (.aload_n 0, 1) := by decide +kernel
theorem dX8_readPart_81 : decode cX8_readPart 81 = .ok (.dup, 1) := by decide +kernel
theorem dX8_readPart_82 : decode cX8_readPart 82 = .ok (.getfield 26, 3) := by decide +kernel
theorem dX8_readPart_85 : decode cX8_readPart 85 = .ok (.iconst 1, 1) := by decide +kernel
theorem dX8_readPart_86 : decode cX8_readPart 86 = .ok (.iadd, 1) := by decide +kernel
theorem dX8_readPart_87 : decode cX8_readPart 87 = .ok (.putfield 26, 3) := by decide +kernel
theorem dX8_readPart_90 : decode cX8_readPart 90 = .ok (.aload_n 0, 1) := by decide +kernel
theorem dX8_readPart_91 : decode cX8_readPart 91 = .ok (.invokevirtual 45, 3) := by decide +kernel
theorem dX8_readPart_94 : decode cX8_readPart 94 = .ok (.goto 87, 3) := by decide +kernel
theorem dX8_readPart_97 : decode cX8_readPart 97 = .ok (.aload_n 0, 1) := by decide +kernel
theorem dX8_readPart_98 : decode cX8_readPart 98 = .ok (.bipush 33, 2) := by decide +kernel
theorem dX8_readPart_100 : decode cX8_readPart 100 = .ok (.invokevirtual 99, 3) := by decide +kernel
theorem dX8_readPart_103 : decode cX8_readPart 103 = .ok (.ifCond .eq 49, 3) := by decide +kernel
theorem dX8_readPart_106 : decode cX8_readPart 106 = .ok (.aload_n 0, 1) := by decide +kernel
theorem dX8_readPart_107 : decode cX8_readPart 107 = .ok (.getfield 32, 3) := by decide +kernel
theorem dX8_readPart_110 : decode cX8_readPart 110 = .ok (.bipush 8, 2) := by decide +kernel
theorem dX8_readPart_112 : decode cX8_readPart 112 = .ok (.if_icmp .ge 40, 3) := by decide +kernel
theorem dX8_readPart_115 : decode cX8_readPart 115 = .ok (.aload_n 0, 1) := by decide +kernel
theorem dX8_readPart_116 : decode cX8_readPart 116 = .ok (.dup, 1) := by decide +kernel
theorem dX8_readPart_117 : decode cX8_readPart 117 = .ok (.getfield 32, 3) := by decide +kernel
theorem dX8_readPart_120 : decode cX8_readPart 120 = .ok (.iconst 1, 1) := by decide +kernel
theorem dX8_readPart_121 : decode cX8_readPart 121 = .ok (.iadd, 1) := by decide +kernel
theorem dX8_readPart_122 : decode cX8_readPart 122 = .ok (.putfield 32, 3) := by decide +kernel
theorem dX8_readPart_125 : decode cX8_readPart 125 = .ok (.aload_n 0, 1) := by decide +kernel
theorem dX8_readPart_126 : decode cX8_readPart 126 = .ok (.invokevirtual 45, 3) := by decide +kernel
theorem dX8_readPart_129 : decode cX8_readPart 129 = .ok (.aload_n 0, 1) := by decide +kernel
theorem dX8_readPart_130 : decode cX8_readPart 130 = .ok (.invokevirtual 116, 3) := by decide +kernel
theorem dX8_readPart_133 : decode cX8_readPart 133 = .ok (.aload_n 0, 1) := by decide +kernel
theorem dX8_readPart_134 : decode cX8_readPart 134 = .ok (.dup, 1) := by decide +kernel
theorem dX8_readPart_135 : decode cX8_readPart 135 = .ok (.getfield 32, 3) := by decide +kernel
theorem dX8_readPart_138 : decode cX8_readPart 138 = .ok (.iconst 1, 1) := by decide +kernel
theorem dX8_readPart_139 : decode cX8_readPart 139 = .ok (.isub, 1) := by decide +kernel
theorem dX8_readPart_140 : decode cX8_readPart 140 = .ok (.putfield 32, 3) := by decide +kernel
theorem dX8_readPart_143 : decode cX8_readPart 143 = .ok (.aload_n 0, 1) := by decide +kernel
theorem dX8_readPart_144 : decode cX8_readPart 144 = .ok (.bipush (-33), 2) := by decide +kernel
theorem dX8_readPart_146 : decode cX8_readPart 146 = .ok (.invokevirtual 103, 3) := by decide +kernel
theorem dX8_readPart_149 : decode cX8_readPart 149 = .ok (.goto 32, 3) := by decide +kernel
theorem dX8_readPart_152 : decode cX8_readPart 152 = .ok (.aload_n 0, 1) := by decide +kernel
theorem dX8_readPart_153 : decode cX8_readPart 153 = .ok (.bipush 40, 2) := by decide +kernel
theorem dX8_readPart_155 : decode cX8_readPart 155 = .ok (.invokevirtual 99, 3) := by decide +kernel
theorem dX8_readPart_158 : decode cX8_readPart 158 = .ok (.ifCond .eq 19, 3) := by decide +kernel
theorem dX8_readPart_161 : decode cX8_readPart 161 = .ok (.aload_n 0, 1) := by decide +kernel
theorem dX8_readPart_162 : decode cX8_readPart 162 = .ok (.getfield 29, 3) := by decide +kernel
theorem dX8_readPart_165 : decode cX8_readPart 165 = .ok (.bipush 8, 2) := by decide +kernel
theorem dX8_readPart_167 : decode cX8_readPart 167 = .ok (.if_icmp .ge 10, 3) := by decide +kernel
theorem dX8_readPart_170 : decode cX8_readPart 170 = .ok (.aload_n 0, 1) := by decide +kernel
theorem dX8_readPart_171 : decode cX8_readPart 171 = .ok (.invokevirtual 128, 3) := by decide +kernel
theorem dX8_readPart_174 : decode cX8_readPart 174 = .ok (.goto 7, 3) := by decide +kernel
theorem dX8_readPart_177 : decode cX8_readPart 177 = .ok (.aload_n 0, 1) := by decide +kernel
theorem dX8_readPart_178 : decode cX8_readPart 178 = .ok (.invokevirtual 62, 3) := by decide +kernel
theorem dX8_readPart_181 : decode cX8_readPart 181 = .ok (.return_, 1) := by decide +kernel
theorem dX8_readNumber_0 : decode cX8_readNumber 0 = .ok (.iconst 0, 1) := by decide +kernel
theorem dX8_readNumber_1 : decode cX8_readNumber 1 = .ok (.istore_n 1, 1) := by decide +kernel
theorem dX8_readNumber_2 : decode cX8_readNumber 2 = .ok (.aload_n 0, 1) := by decide +kernel
theorem dX8_readNumber_3 : decode cX8_readNumber 3 = .ok (.getfield 65, 3) := by decide +kernel
theorem dX8_readNumber_6 : decode cX8_readNumber 6 = .ok (.istore_n 2, 1) := by decide +kernel
theorem dX8_readNumber_7 : decode cX8_readNumber 7 = .ok (.iload_n 2, 1) := by decide +kernel
theorem dX8_readNumber_8 : decode cX8_readNumber 8 = .ok (.aload_n 0, 1) := by decide +kernel
theorem dX8_readNumber_9 : decode cX8_readNumber 9 = .ok (.getfield 42, 3) := by decide +kernel
theorem dX8_readNumber_12 : decode cX8_readNumber 12 = .ok (.if_icmp .ge 32, 3) := by decide +kernel
theorem dX8_readNumber_15 : decode cX8_readNumber 15 = .ok (.iload_n 2, 1) := by decide +kernel
theorem dX8_readNumber_16 : decode cX8_readNumber 16 = .ok (.aload_n 0, 1) := by decide +kernel
theorem dX8_readNumber_17 : decode cX8_readNumber 17 = .ok (.getfield 19, 3) := by decide +kernel
theorem dX8_readNumber_20 : decode cX8_readNumber 20 = .ok (.if_icmp .ge 24, 3) := by decide +kernel
theorem dX8_readNumber_23 : decode cX8_readNumber 23 = .ok (.iload_n 1, 1) := by decide +kernel
theorem dX8_readNumber_24 : decode cX8_readNumber 24 = .ok (.bipush 10, 2) := by decide +kernel
theorem dX8_readNumber_26 : decode cX8_readNumber 26 = .ok (.imul, 1) := by decide +kernel
theorem dX8_readNumber_27 : decode cX8_readNumber 27 = .ok (.aload_n 0, 1) := by decide +kernel
theorem dX8_readNumber_28 : decode cX8_readNumber 28 = .ok (.getfield 9, 3) := by decide +kernel
theorem dX8_readNumber_31 : decode cX8_readNumber 31 = .ok (.iload_n 2, 1) := by decide +kernel
theorem dX8_readNumber_32 : decode cX8_readNumber 32 = .ok (.baload, 1) := by decide +kernel
theorem dX8_readNumber_33 : decode cX8_readNumber 33 = .ok (.iadd, 1) := by decide +kernel
theorem dX8_readNumber_34 : decode cX8_readNumber 34 = .ok (.bipush 48, 2) := by decide +kernel
theorem dX8_readNumber_36 : decode cX8_readNumber 36 = .ok (.isub, 1) := by decide +kernel
theorem dX8_readNumber_37 : decode cX8_readNumber 37 = .ok (.istore_n 1, 1) := by decide +kernel
theorem dX8_readNumber_38 : decode cX8_readNumber 38 = .ok (.iinc 2 1, 3) := by decide +kernel
theorem dX8_readNumber_41 : decode cX8_readNumber 41 = .ok (.goto (-34), 3) := by decide +kernel
theorem dX8_readNumber_44 : decode cX8_readNumber 44 = .ok (.aload_n 0, 1) := by decide +kernel
theorem dX8_readNumber_45 : decode cX8_readNumber 45 = .ok (.iload_n 1, 1) := by decide +kernel
theorem dX8_readNumber_46 : decode cX8_readNumber 46 = .ok (.invokevirtual 103, 3) := by decide +kernel
theorem dX8_readNumber_49 : decode cX8_readNumber 49 = .ok (.aload_n 0, 1) := by decide +kernel
theorem dX8_readNumber_50 : decode cX8_readNumber 50 = .ok (.dup, 1) := by decide +kernel
theorem dX8_readNumber_51 : decode cX8_readNumber 51 = .ok (.getfield 26, 3) := by decide +kernel
theorem dX8_readNumber_54 : decode cX8_readNumber 54 = .ok (.iconst 1, 1) := by decide +kernel
theorem dX8_readNumber_55 : decode cX8_readNumber 55 = .ok (.iadd, 1) := by decide +kernel
theorem dX8_readNumber_56 : decode cX8_readNumber 56 = .ok (.putfield 26, 3) := by decide +kernel
theorem dX8_readNumber_59 : decode cX8_readNumber 59 = .ok (.aload_n 0, 1) := by decide +kernel
theorem dX8_readNumber_60 : decode cX8_readNumber 60 = .ok (.invokevirtual 45, 3) := by decide +kernel
theorem dX8_readNumber_63 : decode cX8_readNumber 63 = .ok (.return_, 1) := by decide +kernel
theorem dX8_readBrackets_0 : decode cX8_readBrackets 0 = .ok (.aload_n 0, 1) := by decide +kernel
theorem dX8_readBrackets_1 : decode cX8_readBrackets 1 = .ok (.dup, 1) := by decide +kernel
theorem dX8_readBrackets_2 : decode cX8_readBrackets 2 = .ok (.getfield 29, 3) := by decide +kernel
theorem dX8_readBrackets_5 : decode cX8_readBrackets 5 = .ok (.iconst 1, 1) := by decide +kernel
theorem dX8_readBrackets_6 : decode cX8_readBrackets 6 = .ok (.iadd, 1) := by decide +kernel
theorem dX8_readBrackets_7 : decode cX8_readBrackets 7 = .ok (.putfield 29, 3) := by decide +kernel
theorem dX8_readBrackets_10 : decode cX8_readBrackets 10 = .ok (.aload_n 0, 1) := by decide +kernel
theorem dX8_readBrackets_11 : decode cX8_readBrackets 11 = .ok (.invokevirtual 45, 3) := by decide +kernel
theorem dX8_readBrackets_14 : decode cX8_readBrackets 14 = .ok (.aload_n 0, 1) := by decide +kernel
theorem dX8_readBrackets_15 : decode cX8_readBrackets 15 = .ok (.invokevirtual 54, 3) := by decide +kernel
theorem dX8_readBrackets_18 : decode cX8_readBrackets 18 = .ok (.aload_n 0, 1) := by decide +kernel
theorem dX8_readBrackets_19 : decode cX8_readBrackets 19 = .ok (.dup, 1) := by decide +kernel
theorem dX8_readBrackets_20 : decode cX8_readBrackets 20 = .ok (.getfield 29, 3) := by decide +kernel
theorem dX8_readBrackets_23 : decode cX8_readBrackets 23 = .ok (.iconst 1, 1) := by decide +kernel
theorem dX8_readBrackets_24 : decode cX8_readBrackets 24 = .ok (.isub, 1) := by decide +kernel
theorem dX8_readBrackets_25 : decode cX8_readBrackets 25 = .ok (.putfield 29, 3) := by decide +kernel
theorem dX8_readBrackets_28 : decode cX8_readBrackets 28 = .ok (.aload_n 0, 1) := by decide +kernel
theorem dX8_readBrackets_29 : decode cX8_readBrackets 29 = .ok (.bipush 41, 2) := by decide +kernel
theorem dX8_readBrackets_31 : decode cX8_readBrackets 31 = .ok (.invokevirtual 99, 3) := by decide +kernel
theorem dX8_readBrackets_34 : decode cX8_readBrackets 34 = .ok (.ifCond .eq 10, 3) := by decide +kernel
theorem dX8_readBrackets_37 : decode cX8_readBrackets 37 = .ok (.aload_n 0, 1) := by decide +kernel
theorem dX8_readBrackets_38 : decode cX8_readBrackets 38 = .ok (.invokevirtual 45, 3) := by decide +kernel
theorem dX8_readBrackets_41 : decode cX8_readBrackets 41 = .ok (.goto 7, 3) := by decide +kernel
theorem dX8_readBrackets_44 : decode cX8_readBrackets 44 = .ok (.aload_n 0, 1) := by decide +kernel
theorem dX8_readBrackets_45 : decode cX8_readBrackets 45 = .ok (.invokevirtual 62, 3) := by decide +kernel
theorem dX8_readBrackets_48 : decode cX8_readBrackets 48 = .ok (.return_, 1) := by decide +kernel
theorem dX9_init_0 : decode cX9_init 0 = .ok (.aload_n 0, 1) := by decide +kernel
theorem dX9_init_1 : decode cX9_init 1 = .ok (.invokespecial 3, 3) := by decide +kernel
theorem dX9_init_4 : decode cX9_init 4 = .ok (.aload_n 0, 1) := by decide +kernel
theorem dX9_init_5 : decode cX9_init 5 = .ok (.bipush 6, 2) := by decide +kernel
theorem dX9_init_7 : decode cX9_init 7 = .ok (.newarray .int, 2) := by decide +kernel
theorem dX9_init_9 : decode cX9_init 9 = .ok (.putfield 9, 3) := by decide +kernel
theorem dX9_init_12 : decode cX9_init 12 = .ok (.aload_n 0, 1) := by decide +kernel
theorem dX9_init_13 : decode cX9_init 13 = .ok (.bipush 6, 2) := by decide +kernel
theorem dX9_init_15 : decode cX9_init 15 = .ok (.newarray .int, 2) := by decide +kernel
theorem dX9_init_17 : decode cX9_init 17 = .ok (.putfield 15, 3) := by decide +kernel
theorem dX9_init_20 : decode cX9_init 20 = .ok (.aload_n 0, 1) := by decide +kernel
theorem dX9_init_21 : decode cX9_init 21 = .ok (.bipush 6, 2) := by decide +kernel
theorem dX9_init_23 : decode cX9_init 23 = .ok (.newarray .int, 2) := by decide +kernel
theorem dX9_init_25 : decode cX9_init 25 = .ok (.putfield 18, 3) := by decide +kernel
theorem dX9_init_28 : decode cX9_init 28 = .ok (.return_, 1) := by decide +kernel
theorem dX9_become_0 : decode cX9_become 0 = .ok (.aload_n 0, 1) := by decide +kernel
theorem dX9_become_1 : decode cX9_become 1 = .ok (.aload_n 1, 1) := by decide +kernel
theorem dX9_become_2 : decode cX9_become 2 = .ok (.getfield 21, 3) := by decide +kernel
theorem dX9_become_5 : decode cX9_become 5 = .ok (.putfield 21, 3) := by decide +kernel
theorem dX9_become_8 : decode cX9_become 8 = .ok (.aload_n 1, 1) := by decide +kernel
theorem dX9_become_9 : decode cX9_become 9 = .ok (.getfield 9, 3) := by decide +kernel
theorem dX9_become_12 : decode cX9_become 12 = .ok (.aload_n 0, 1) := by decide +kernel
theorem dX9_become_13 : decode cX9_become 13 = .ok (.getfield 9, 3) := by decide +kernel
theorem dX9_become_16 : decode cX9_become 16 = .ok (.invokestatic 25, 3) := by decide +kernel
theorem dX9_become_19 : decode cX9_become 19 = .ok (.aload_n 1, 1) := by decide +kernel
theorem dX9_become_20 : decode cX9_become 20 = .ok (.getfield 15, 3) := by decide +kernel
theorem dX9_become_23 : decode cX9_become 23 = .ok (.aload_n 0, 1) := by decide +kernel
theorem dX9_become_24 : decode cX9_become 24 = .ok (.getfield 15, 3) := by decide +kernel
theorem dX9_become_27 : decode cX9_become 27 = .ok (.invokestatic 25, 3) := by decide +kernel
theorem dX9_become_30 : decode cX9_become 30 = .ok (.aload_n 1, 1) := by decide +kernel
theorem dX9_become_31 : decode cX9_become 31 = .ok (.getfield 18, 3) := by decide +kernel
theorem dX9_become_34 : decode cX9_become 34 = .ok (.aload_n 0, 1) := by decide +kernel
theorem dX9_become_35 : decode cX9_become 35 = .ok (.getfield 18, 3) := by decide +kernel
theorem dX9_become_38 : decode cX9_become 38 = .ok (.invokestatic 25, 3) := by decide +kernel
theorem dX9_become_41 : decode cX9_become 41 = .ok (.return_, 1) := by decide +kernel
theorem dX10_init_0 : decode cX10_init 0 = .ok (.aload_n 0, 1) := by decide +kernel
theorem dX10_init_1 : decode cX10_init 1 = .ok (.invokespecial 3, 3) := by decide +kernel
theorem dX10_init_4 : decode cX10_init 4 = .ok (.aload_n 0, 1) := by decide +kernel
theorem dX10_init_5 : decode cX10_init 5 = .ok (.bipush 120, 2) := by decide +kernel
theorem dX10_init_7 : decode cX10_init 7 = .ok (.newarray .int, 2) := by decide +kernel
theorem dX10_init_9 : decode cX10_init 9 = .ok (.putfield 9, 3) := by decide +kernel
theorem dX10_init_12 : decode cX10_init 12 = .ok (.aload_n 0, 1) := by decide +kernel
theorem dX10_init_13 : decode cX10_init 13 = .ok (.bipush 90, 2) := by decide +kernel
theorem dX10_init_15 : decode cX10_init 15 = .ok (.newarray .int, 2) := by decide +kernel
theorem dX10_init_17 : decode cX10_init 17 = .ok (.putfield 15, 3) := by decide +kernel
theorem dX10_init_20 : decode cX10_init 20 = .ok (.aload_n 0, 1) := by decide +kernel
theorem dX10_init_21 : decode cX10_init 21 = .ok (.bipush 90, 2) := by decide +kernel
theorem dX10_init_23 : decode cX10_init 23 = .ok (.newarray .int, 2) := by decide +kernel
theorem dX10_init_25 : decode cX10_init 25 = .ok (.putfield 18, 3) := by decide +kernel
theorem dX10_init_28 : decode cX10_init 28 = .ok (.aload_n 0, 1) := by decide +kernel
theorem dX10_init_29 : decode cX10_init 29 = .ok (.bipush 90, 2) := by decide +kernel
theorem dX10_init_31 : decode cX10_init 31 = .ok (.newarray .int, 2) := by decide +kernel
theorem dX10_init_33 : decode cX10_init 33 = .ok (.putfield 21, 3) := by decide +kernel
theorem dX10_init_36 : decode cX10_init 36 = .ok (.aload_n 0, 1) := by decide +kernel
theorem dX10_init_37 : decode cX10_init 37 = .ok (.aload_n 1, 1) := by decide +kernel
theorem dX10_init_38 : decode cX10_init 38 = .ok (.putfield 24, 3) := by decide +kernel
theorem dX10_init_41 : decode cX10_init 41 = .ok (.return_, 1) := by decide +kernel
theorem dX10_countedOf_0 : decode cX10_countedOf 0 = .ok (.aload_n 0, 1) := by decide +kernel
theorem dX10_countedOf_1 : decode cX10_countedOf 1 = .ok (.iload_n 1, 1) := by decide +kernel
theorem dX10_countedOf_2 : decode cX10_countedOf 2 = .ok (.invokevirtual 28, 3) := by decide +kernel
theorem dX10_countedOf_5 : decode cX10_countedOf 5 = .ok (.istore_n 3, 1) := by decide +kernel
theorem dX10_countedOf_6 : decode cX10_countedOf 6 = .ok (.iload_n 3, 1) := by decide +kernel
theorem dX10_countedOf_7 : decode cX10_countedOf 7 = .ok (.ifCond .ge 16, 3) := by decide +kernel
theorem dX10_countedOf_10 : decode cX10_countedOf 10 = .ok (.aload_n 0, 1) := by decide +kernel
theorem dX10_countedOf_11 : decode cX10_countedOf 11 = .ok (.getfield 24, 3) := by decide +kernel
theorem dX10_countedOf_14 : decode cX10_countedOf 14 = .ok (.getfield 32, 3) := by decide +kernel
theorem dX10_countedOf_17 : decode cX10_countedOf 17 = .ok (.getfield 38, 3) := by decide +kernel
theorem dX10_countedOf_20 : decode cX10_countedOf 20 = .ok (.iload_n 1, 1) := by decide +kernel
theorem dX10_countedOf_21 : decode cX10_countedOf 21 = .ok (.iaload, 1) := by decide +kernel
theorem dX10_countedOf_22 : decode cX10_countedOf 22 = .ok (.ireturn, 1) := by decide +kernel
theorem dX10_countedOf_23 : decode cX10_countedOf 23 = .ok (.iload_n 3, 1) := by decide +kernel
theorem dX10_countedOf_24 : decode cX10_countedOf 24 = .ok (.bipush 120, 2) := by decide +kernel
theorem dX10_countedOf_26 : decode cX10_countedOf 26 = .ok (.imul, 1) := by decide +kernel
theorem dX10_countedOf_27 : decode cX10_countedOf 27 = .ok (.istore 4, 2) := by decide +kernel
theorem dX10_countedOf_29 : decode cX10_countedOf 29 = .ok (.aload_n 0, 1) := by decide +kernel
theorem dX10_countedOf_30 : decode cX10_countedOf 30 = .ok (.iload 4, 2) := by decide +kernel
theorem dX10_countedOf_32 : decode cX10_countedOf 32 = .ok (.iload 4, 2) := by decide +kernel
theorem dX10_countedOf_34 : decode cX10_countedOf 34 = .ok (.aload_n 0, 1) := by decide +kernel
theorem dX10_countedOf_35 : decode cX10_countedOf 35 = .ok (.getfield 24, 3) := by decide +kernel
theorem dX10_countedOf_38 : decode cX10_countedOf 38 = .ok (.getfield 43, 3) := by decide +kernel
theorem dX10_countedOf_41 : decode cX10_countedOf 41 = .ok (.getfield 47, 3) := by decide +kernel
theorem dX10_countedOf_44 : decode cX10_countedOf 44 = .ok (.iload_n 3, 1) := by decide +kernel
theorem dX10_countedOf_45 : decode cX10_countedOf 45 = .ok (.iaload, 1) := by decide +kernel
theorem dX10_countedOf_46 : decode cX10_countedOf 46 = .ok (.iadd, 1) := by decide +kernel
theorem dX10_countedOf_47 : decode cX10_countedOf 47 = .ok (.iload_n 1, 1) := by decide +kernel
theorem dX10_countedOf_48 : decode cX10_countedOf 48 = .ok (.iload_n 2, 1) := by decide +kernel
theorem dX10_countedOf_49 : decode cX10_countedOf 49 = .ok (.invokevirtual 52, 3) := by decide +kernel
theorem dX10_countedOf_52 : decode cX10_countedOf 52 = .ok (.istore 5, 2) := by decide +kernel
theorem dX10_countedOf_54 : decode cX10_countedOf 54 = .ok (.iconst 0, 1) := by decide +kernel
theorem dX10_countedOf_55 : decode cX10_countedOf 55 = .ok (.sipush 240, 3) := by decide +kernel
theorem dX10_countedOf_58 : decode cX10_countedOf 58 = .ok (.iload 5, 2) := by decide +kernel
theorem dX10_countedOf_60 : decode cX10_countedOf 60 = .ok (.invokestatic 56, 3) := by decide +kernel
theorem dX10_countedOf_63 : decode cX10_countedOf 63 = .ok (.invokestatic 62, 3) := by decide +kernel
theorem dX10_countedOf_66 : decode cX10_countedOf 66 = .ok (.ireturn, 1) := by decide +kernel
theorem dX10_atOf_0 : decode cX10_atOf 0 = .ok (.aload_n 0, 1) := by decide +kernel
theorem dX10_atOf_1 : decode cX10_atOf 1 = .ok (.iload_n 1, 1) := by decide +kernel
theorem dX10_atOf_2 : decode cX10_atOf 2 = .ok (.invokevirtual 28, 3) := by decide +kernel
theorem dX10_atOf_5 : decode cX10_atOf 5 = .ok (.istore_n 3, 1) := by decide +kernel
theorem dX10_atOf_6 : decode cX10_atOf 6 = .ok (.iload_n 3, 1) := by decide +kernel
theorem dX10_atOf_7 : decode cX10_atOf 7 = .ok (.ifCond .ge 27, 3) := by decide +kernel
theorem dX10_atOf_10 : decode cX10_atOf 10 = .ok (.aload_n 0, 1) := by decide +kernel
theorem dX10_atOf_11 : decode cX10_atOf 11 = .ok (.getfield 24, 3) := by decide +kernel
theorem dX10_atOf_14 : decode cX10_atOf 14 = .ok (.getfield 65, 3) := by decide +kernel
theorem dX10_atOf_17 : decode cX10_atOf 17 = .ok (.getfield 69, 3) := by decide +kernel
theorem dX10_atOf_20 : decode cX10_atOf 20 = .ok (.aload_n 0, 1) := by decide +kernel
theorem dX10_atOf_21 : decode cX10_atOf 21 = .ok (.getfield 24, 3) := by decide +kernel
theorem dX10_atOf_24 : decode cX10_atOf 24 = .ok (.getfield 32, 3) := by decide +kernel
theorem dX10_atOf_27 : decode cX10_atOf 27 = .ok (.getfield 74, 3) := by decide +kernel
theorem dX10_atOf_30 : decode cX10_atOf 30 = .ok (.iload_n 1, 1) := by decide +kernel
theorem dX10_atOf_31 : decode cX10_atOf 31 = .ok (.iaload, 1) := by decide +kernel
theorem dX10_atOf_32 : decode cX10_atOf 32 = .ok (.iaload, 1) := by decide +kernel
theorem dX10_atOf_33 : decode cX10_atOf 33 = .ok (.ireturn, 1) := by decide +kernel
theorem dX10_atOf_34 : decode cX10_atOf 34 = .ok (.iload_n 3, 1) := by decide +kernel
theorem dX10_atOf_35 : decode cX10_atOf 35 = .ok (.bipush 120, 2) := by decide +kernel
theorem dX10_atOf_37 : decode cX10_atOf 37 = .ok (.imul, 1) := by decide +kernel
theorem dX10_atOf_38 : decode cX10_atOf 38 = .ok (.istore 4, 2) := by decide +kernel
theorem dX10_atOf_40 : decode cX10_atOf 40 = .ok (.aload_n 0, 1) := by decide +kernel
theorem dX10_atOf_41 : decode cX10_atOf 41 = .ok (.iload 4, 2) := by decide +kernel
theorem dX10_atOf_43 : decode cX10_atOf 43 = .ok (.aload_n 0, 1) := by decide +kernel
theorem dX10_atOf_44 : decode cX10_atOf 44 = .ok (.getfield 24, 3) := by decide +kernel
theorem dX10_atOf_47 : decode cX10_atOf 47 = .ok (.getfield 43, 3) := by decide +kernel
theorem dX10_atOf_50 : decode cX10_atOf 50 = .ok (.getfield 47, 3) := by decide +kernel
theorem dX10_atOf_53 : decode cX10_atOf 53 = .ok (.iload_n 3, 1) := by decide +kernel
theorem dX10_atOf_54 : decode cX10_atOf 54 = .ok (.iaload, 1) := by decide +kernel
theorem dX10_atOf_55 : decode cX10_atOf 55 = .ok (.iadd, 1) := by decide +kernel
theorem dX10_atOf_56 : decode cX10_atOf 56 = .ok (.iload 4, 2) := by decide +kernel
theorem dX10_atOf_58 : decode cX10_atOf 58 = .ok (.aload_n 0, 1) := by decide +kernel
theorem dX10_atOf_59 : decode cX10_atOf 59 = .ok (.getfield 24, 3) := by decide +kernel
theorem dX10_atOf_62 : decode cX10_atOf 62 = .ok (.getfield 43, 3) := by decide +kernel
theorem dX10_atOf_65 : decode cX10_atOf 65 = .ok (.getfield 77, 3) := by decide +kernel
theorem dX10_atOf_68 : decode cX10_atOf 68 = .ok (.iload_n 3, 1) := by decide +kernel
theorem dX10_atOf_69 : decode cX10_atOf 69 = .ok (.iaload, 1) := by decide +kernel
theorem dX10_atOf_70 : decode cX10_atOf 70 = .ok (.iadd, 1) := by decide +kernel
theorem dX10_atOf_71 : decode cX10_atOf 71 = .ok (.iload_n 1, 1) := by decide +kernel
theorem dX10_atOf_72 : decode cX10_atOf 72 = .ok (.iload_n 2, 1) := by decide +kernel
theorem dX10_atOf_73 : decode cX10_atOf 73 = .ok (.invokevirtual 52, 3) := by decide +kernel
theorem dX10_atOf_76 : decode cX10_atOf 76 = .ok (.istore 5, 2) := by decide +kernel
theorem dX10_atOf_78 : decode cX10_atOf 78 = .ok (.iconst 0, 1) := by decide +kernel
theorem dX10_atOf_79 : decode cX10_atOf 79 = .ok (.sipush 9999, 3) := by decide +kernel
theorem dX10_atOf_82 : decode cX10_atOf 82 = .ok (.iload 5, 2) := by decide +kernel
theorem dX10_atOf_84 : decode cX10_atOf 84 = .ok (.invokestatic 56, 3) := by decide +kernel
theorem dX10_atOf_87 : decode cX10_atOf 87 = .ok (.invokestatic 62, 3) := by decide +kernel
theorem dX10_atOf_90 : decode cX10_atOf 90 = .ok (.ireturn, 1) := by decide +kernel
theorem dX10_worthOf_0 : decode cX10_worthOf 0 = .ok (.aload_n 0, 1) := by decide +kernel
theorem dX10_worthOf_1 : decode cX10_worthOf 1 = .ok (.iload_n 1, 1) := by decide +kernel
theorem dX10_worthOf_2 : decode cX10_worthOf 2 = .ok (.iload_n 2, 1) := by decide +kernel
theorem dX10_worthOf_3 : decode cX10_worthOf 3 = .ok (.invokevirtual 80, 3) := by decide +kernel
theorem dX10_worthOf_6 : decode cX10_worthOf 6 = .ok (.aload_n 0, 1) := by decide +kernel
theorem dX10_worthOf_7 : decode cX10_worthOf 7 = .ok (.iload_n 1, 1) := by decide +kernel
theorem dX10_worthOf_8 : decode cX10_worthOf 8 = .ok (.iload_n 2, 1) := by decide +kernel
theorem dX10_worthOf_9 : decode cX10_worthOf 9 = .ok (.invokevirtual 83, 3) := by decide +kernel
theorem dX10_worthOf_12 : decode cX10_worthOf 12 = .ok (.imul, 1) := by decide +kernel
theorem dX10_worthOf_13 : decode cX10_worthOf 13 = .ok (.bipush 10, 2) := by decide +kernel
theorem dX10_worthOf_15 : decode cX10_worthOf 15 = .ok (.idiv, 1) := by decide +kernel
theorem dX10_worthOf_16 : decode cX10_worthOf 16 = .ok (.ireturn, 1) := by decide +kernel
theorem dX10_slotOf_0 : decode cX10_slotOf 0 = .ok (.aload_n 0, 1) := by decide +kernel
theorem dX10_slotOf_1 : decode cX10_slotOf 1 = .ok (.getfield 24, 3) := by decide +kernel
theorem dX10_slotOf_4 : decode cX10_slotOf 4 = .ok (.getfield 86, 3) := by decide +kernel
theorem dX10_slotOf_7 : decode cX10_slotOf 7 = .ok (.getfield 90, 3) := by decide +kernel
theorem dX10_slotOf_10 : decode cX10_slotOf 10 = .ok (.aload_n 0, 1) := by decide +kernel
theorem dX10_slotOf_11 : decode cX10_slotOf 11 = .ok (.getfield 24, 3) := by decide +kernel
theorem dX10_slotOf_14 : decode cX10_slotOf 14 = .ok (.getfield 32, 3) := by decide +kernel
theorem dX10_slotOf_17 : decode cX10_slotOf 17 = .ok (.getfield 94, 3) := by decide +kernel
theorem dX10_slotOf_20 : decode cX10_slotOf 20 = .ok (.iload_n 1, 1) := by decide +kernel
theorem dX10_slotOf_21 : decode cX10_slotOf 21 = .ok (.iaload, 1) := by decide +kernel
theorem dX10_slotOf_22 : decode cX10_slotOf 22 = .ok (.iaload, 1) := by decide +kernel
theorem dX10_slotOf_23 : decode cX10_slotOf 23 = .ok (.istore_n 2, 1) := by decide +kernel
theorem dX10_slotOf_24 : decode cX10_slotOf 24 = .ok (.aload_n 0, 1) := by decide +kernel
theorem dX10_slotOf_25 : decode cX10_slotOf 25 = .ok (.getfield 24, 3) := by decide +kernel
theorem dX10_slotOf_28 : decode cX10_slotOf 28 = .ok (.getfield 43, 3) := by decide +kernel
theorem dX10_slotOf_31 : decode cX10_slotOf 31 = .ok (.iload_n 2, 1) := by decide +kernel
theorem dX10_slotOf_32 : decode cX10_slotOf 32 = .ok (.aload_n 0, 1) := by decide +kernel
theorem dX10_slotOf_33 : decode cX10_slotOf 33 = .ok (.getfield 24, 3) := by decide +kernel
theorem dX10_slotOf_36 : decode cX10_slotOf 36 = .ok (.getfield 32, 3) := by decide +kernel
theorem dX10_slotOf_39 : decode cX10_slotOf 39 = .ok (.getfield 96, 3) := by decide +kernel
theorem dX10_slotOf_42 : decode cX10_slotOf 42 = .ok (.iload_n 1, 1) := by decide +kernel
theorem dX10_slotOf_43 : decode cX10_slotOf 43 = .ok (.iaload, 1) := by decide +kernel
theorem dX10_slotOf_44 : decode cX10_slotOf 44 = .ok (.invokevirtual 99, 3) := by decide +kernel
theorem dX10_slotOf_47 : decode cX10_slotOf 47 = .ok (.ireturn, 1) := by decide +kernel
theorem dX10_workOut_0 : decode cX10_workOut 0 = .ok (.aload_n 0, 1) := by decide +kernel
theorem dX10_workOut_1 : decode cX10_workOut 1 = .ok (.getfield 24, 3) := by decide +kernel
theorem dX10_workOut_4 : decode cX10_workOut 4 = .ok (.getfield 43, 3) := by decide +kernel
theorem dX10_workOut_7 : decode cX10_workOut 7 = .ok (.getfield 102, 3) := by decide +kernel
theorem dX10_workOut_10 : decode cX10_workOut 10 = .ok (.astore 5, 2) := by decide +kernel
theorem dX10_workOut_12 : decode cX10_workOut 12 = .ok (.iconst 0, 1) := by decide +kernel
theorem dX10_workOut_13 : decode cX10_workOut 13 = .ok (.istore 6, 2) := by decide +kernel
theorem dX10_workOut_15 : decode cX10_workOut 15 = .ok (.iload_n 1, 1) := by decide +kernel
theorem dX10_workOut_16 : decode cX10_workOut 16 = .ok (.istore 7, 2) := by decide +kernel
theorem dX10_workOut_18 : decode cX10_workOut 18 = .ok (.iload 7, 2) := by decide +kernel
theorem dX10_workOut_20 : decode cX10_workOut 20 = .ok (.iload_n 2, 1) := by decide +kernel
theorem dX10_workOut_21 : decode cX10_workOut 21 = .ok (.if_icmp .ge 157, 3) := by decide +kernel
theorem dX10_workOut_24 : decode cX10_workOut 24 = .ok (.iload 7, 2) := by decide +kernel
theorem dX10_workOut_26 : decode cX10_workOut 26 = .ok (.aload 5, 2) := by decide +kernel
theorem dX10_workOut_28 : decode cX10_workOut 28 = .ok (.arraylength, 1) := by decide +kernel
theorem dX10_workOut_29 : decode cX10_workOut 29 = .ok (.if_icmp .ge 149, 3) := by decide +kernel
theorem dX10_workOut_32 : decode cX10_workOut 32 = .ok (.aload 5, 2) := by decide +kernel
theorem dX10_workOut_34 : decode cX10_workOut 34 = .ok (.iload 7, 2) := by decide +kernel
theorem dX10_workOut_36 : decode cX10_workOut 36 = .ok (.iaload, 1) := by decide +kernel
theorem dX10_workOut_37 : decode cX10_workOut 37 = .ok (.istore 8, 2) := by decide +kernel
theorem dX10_workOut_39 : decode cX10_workOut 39 = .ok (.iload 8, 2) := by decide +kernel
theorem dX10_workOut_41 : decode cX10_workOut 41 = .ok (.ifCond .lt 50, 3) := by decide +kernel
theorem dX10_workOut_44 : decode cX10_workOut 44 = .ok (.iload 6, 2) := by decide +kernel
theorem dX10_workOut_46 : decode cX10_workOut 46 = .ok (.aload_n 0, 1) := by decide +kernel
theorem dX10_workOut_47 : decode cX10_workOut 47 = .ok (.getfield 9, 3) := by decide +kernel
theorem dX10_workOut_50 : decode cX10_workOut 50 = .ok (.arraylength, 1) := by decide +kernel
theorem dX10_workOut_51 : decode cX10_workOut 51 = .ok (.if_icmp .ge 121, 3) := by decide +kernel
theorem dX10_workOut_54 : decode cX10_workOut 54 = .ok (.aload_n 0, 1) := by decide +kernel
theorem dX10_workOut_55 : decode cX10_workOut 55 = .ok (.getfield 9, 3) := by decide +kernel
theorem dX10_workOut_58 : decode cX10_workOut 58 = .ok (.iload 6, 2) := by decide +kernel
theorem dX10_workOut_60 : decode cX10_workOut 60 = .ok (.iload 8, 2) := by decide +kernel
theorem dX10_workOut_62 : decode cX10_workOut 62 = .ok (.ldc 107, 2) := by decide +kernel
theorem dX10_workOut_64 : decode cX10_workOut 64 = .ok (.if_icmp .ge 8, 3) := by decide +kernel
theorem dX10_workOut_67 : decode cX10_workOut 67 = .ok (.iload 8, 2) := by decide +kernel
theorem dX10_workOut_69 : decode cX10_workOut 69 = .ok (.goto 15, 3) := by decide +kernel
theorem dX10_workOut_72 : decode cX10_workOut 72 = .ok (.aload_n 0, 1) := by decide +kernel
theorem dX10_workOut_73 : decode cX10_workOut 73 = .ok (.iload 8, 2) := by decide +kernel
theorem dX10_workOut_75 : decode cX10_workOut 75 = .ok (.ldc 107, 2) := by decide +kernel
theorem dX10_workOut_77 : decode cX10_workOut 77 = .ok (.isub, 1) := by decide +kernel
theorem dX10_workOut_78 : decode cX10_workOut 78 = .ok (.iload_n 3, 1) := by decide +kernel
theorem dX10_workOut_79 : decode cX10_workOut 79 = .ok (.iload 4, 2) := by decide +kernel
theorem dX10_workOut_81 : decode cX10_workOut 81 = .ok (.invokevirtual 108, 3) := by decide +kernel
theorem dX10_workOut_84 : decode cX10_workOut 84 = .ok (.iastore, 1) := by decide +kernel
theorem dX10_workOut_85 : decode cX10_workOut 85 = .ok (.iinc 6 1, 3) := by decide +kernel
theorem dX10_workOut_88 : decode cX10_workOut 88 = .ok (.goto 84, 3) := by decide +kernel
theorem dX10_workOut_91 : decode cX10_workOut 91 = .ok (.iload 8, 2) := by decide +kernel
theorem dX10_workOut_93 : decode cX10_workOut 93 = .ok (.bipush (-33), 2) := by decide +kernel
theorem dX10_workOut_95 : decode cX10_workOut 95 = .ok (.if_icmp .ne 37, 3) := by decide +kernel
theorem dX10_workOut_98 : decode cX10_workOut 98 = .ok (.iload 6, 2) := by decide +kernel
theorem dX10_workOut_100 : decode cX10_workOut 100 = .ok (.ifCond .le 72, 3) := by decide +kernel
theorem dX10_workOut_103 : decode cX10_workOut 103 = .ok (.aload_n 0, 1) := by decide +kernel
theorem dX10_workOut_104 : decode cX10_workOut 104 = .ok (.getfield 9, 3) := by decide +kernel
theorem dX10_workOut_107 : decode cX10_workOut 107 = .ok (.iload 6, 2) := by decide +kernel
theorem dX10_workOut_109 : decode cX10_workOut 109 = .ok (.iconst 1, 1) := by decide +kernel
theorem dX10_workOut_110 : decode cX10_workOut 110 = .ok (.isub, 1) := by decide +kernel
theorem dX10_workOut_111 : decode cX10_workOut 111 = .ok (.aload_n 0, 1) := by decide +kernel
theorem dX10_workOut_112 : decode cX10_workOut 112 = .ok (.getfield 9, 3) := by decide +kernel
theorem dX10_workOut_115 : decode cX10_workOut 115 = .ok (.iload 6, 2) := by decide +kernel
theorem dX10_workOut_117 : decode cX10_workOut 117 = .ok (.iconst 1, 1) := by decide +kernel
theorem dX10_workOut_118 : decode cX10_workOut 118 = .ok (.isub, 1) := by decide +kernel
theorem dX10_workOut_119 : decode cX10_workOut 119 = .ok (.iaload, 1) := by decide +kernel
theorem dX10_workOut_120 : decode cX10_workOut 120 = .ok (.ifCond .ne 7, 3) := by decide +kernel
theorem dX10_workOut_123 : decode cX10_workOut 123 = .ok (.iconst 1, 1) := by decide +kernel
theorem dX10_workOut_124 : decode cX10_workOut 124 = .ok (.goto 4, 3) := by decide +kernel
theorem dX10_workOut_127 : decode cX10_workOut 127 = .ok (.iconst 0, 1) := by decide +kernel
theorem dX10_workOut_128 : decode cX10_workOut 128 = .ok (.iastore, 1) := by decide +kernel
theorem dX10_workOut_129 : decode cX10_workOut 129 = .ok (.goto 43, 3) := by decide +kernel
theorem dX10_workOut_132 : decode cX10_workOut 132 = .ok (.iload 6, 2) := by decide +kernel
theorem dX10_workOut_134 : decode cX10_workOut 134 = .ok (.iconst 1, 1) := by decide +kernel
theorem dX10_workOut_135 : decode cX10_workOut 135 = .ok (.if_icmp .le 37, 3) := by decide +kernel
theorem dX10_workOut_138 : decode cX10_workOut 138 = .ok (.iinc 6 (-1), 3) := by decide +kernel
theorem dX10_workOut_141 : decode cX10_workOut 141 = .ok (.aload_n 0, 1) := by decide +kernel
theorem dX10_workOut_142 : decode cX10_workOut 142 = .ok (.getfield 9, 3) := by decide +kernel
theorem dX10_workOut_145 : decode cX10_workOut 145 = .ok (.iload 6, 2) := by decide +kernel
theorem dX10_workOut_147 : decode cX10_workOut 147 = .ok (.iconst 1, 1) := by decide +kernel
theorem dX10_workOut_148 : decode cX10_workOut 148 = .ok (.isub, 1) := by decide +kernel
theorem dX10_workOut_149 : decode cX10_workOut 149 = .ok (.iload 8, 2) := by decide +kernel
theorem dX10_workOut_151 : decode cX10_workOut 151 = .ok (.ineg, 1) := by decide +kernel
theorem dX10_workOut_152 : decode cX10_workOut 152 = .ok (.aload_n 0, 1) := by decide +kernel
theorem dX10_workOut_153 : decode cX10_workOut 153 = .ok (.getfield 9, 3) := by decide +kernel
theorem dX10_workOut_156 : decode cX10_workOut 156 = .ok (.iload 6, 2) := by decide +kernel
theorem dX10_workOut_158 : decode cX10_workOut 158 = .ok (.iconst 1, 1) := by decide +kernel
theorem dX10_workOut_159 : decode cX10_workOut 159 = .ok (.isub, 1) := by decide +kernel
theorem dX10_workOut_160 : decode cX10_workOut 160 = .ok (.iaload, 1) := by decide +kernel
theorem dX10_workOut_161 : decode cX10_workOut 161 = .ok (.aload_n 0, 1) := by decide +kernel
theorem dX10_workOut_162 : decode cX10_workOut 162 = .ok (.getfield 9, 3) := by decide +kernel
theorem dX10_workOut_165 : decode cX10_workOut 165 = .ok (.iload 6, 2) := by decide +kernel
theorem dX10_workOut_167 : decode cX10_workOut 167 = .ok (.iaload, 1) := by decide +kernel
theorem dX10_workOut_168 : decode cX10_workOut 168 = .ok (.invokestatic 112, 3) := by decide +kernel
theorem dX10_workOut_171 : decode cX10_workOut 171 = .ok (.iastore, 1) := by decide +kernel
theorem dX10_workOut_172 : decode cX10_workOut 172 = .ok (.iinc 7 1, 3) := by decide +kernel
theorem dX10_workOut_175 : decode cX10_workOut 175 = .ok (.goto (-157), 3) := by decide +kernel
theorem dX10_workOut_178 : decode cX10_workOut 178 = .ok (.iload 6, 2) := by decide +kernel
theorem dX10_workOut_180 : decode cX10_workOut 180 = .ok (.ifCond .le 15, 3) := by decide +kernel
theorem dX10_workOut_183 : decode cX10_workOut 183 = .ok (.aload_n 0, 1) := by decide +kernel
theorem dX10_workOut_184 : decode cX10_workOut 184 = .ok (.getfield 9, 3) := by decide +kernel
theorem dX10_workOut_187 : decode cX10_workOut 187 = .ok (.iload 6, 2) := by decide +kernel
theorem dX10_workOut_189 : decode cX10_workOut 189 = .ok (.iconst 1, 1) := by decide +kernel
theorem dX10_workOut_190 : decode cX10_workOut 190 = .ok (.isub, 1) := by decide +kernel
theorem dX10_workOut_191 : decode cX10_workOut 191 = .ok (.iaload, 1) := by decide +kernel
theorem dX10_workOut_192 : decode cX10_workOut 192 = .ok (.goto 4, 3) := by decide +kernel
theorem dX10_workOut_195 : decode cX10_workOut 195 = .ok (.iconst 0, 1) := by decide +kernel
theorem dX10_workOut_196 : decode cX10_workOut 196 = .ok (.ireturn, 1) := by decide +kernel
theorem dX10_combine_0 : decode cX10_combine 0 = .ok (.iload_n 0, 1) := by decide +kernel
theorem dX10_combine_1 : decode cX10_combine 1 = .ok (.lookupswitch 148 #[(38, 89), (42, 144), (43, 136), (45, 140), (60, 103), (61, 114), (62, 125), (124, 75)], 75) := by decide +kernel
theorem dX10_combine_76 : decode cX10_combine 76 = .ok (.iload_n 1, 1) := by decide +kernel
theorem dX10_combine_77 : decode cX10_combine 77 = .ok (.ifCond .ne 7, 3) := by decide +kernel
theorem dX10_combine_80 : decode cX10_combine 80 = .ok (.iload_n 2, 1) := by decide +kernel
theorem dX10_combine_81 : decode cX10_combine 81 = .ok (.ifCond .eq 7, 3) := by decide +kernel
theorem dX10_combine_84 : decode cX10_combine 84 = .ok (.iconst 1, 1) := by decide +kernel
theorem dX10_combine_85 : decode cX10_combine 85 = .ok (.goto 4, 3) := by decide +kernel
theorem dX10_combine_88 : decode cX10_combine 88 = .ok (.iconst 0, 1) := by decide +kernel
theorem dX10_combine_89 : decode cX10_combine 89 = .ok (.ireturn, 1) := by decide +kernel
theorem dX10_combine_90 : decode cX10_combine 90 = .ok (.iload_n 1, 1) := by decide +kernel
theorem dX10_combine_91 : decode cX10_combine 91 = .ok (.ifCond .eq 11, 3) := by decide +kernel
theorem dX10_combine_94 : decode cX10_combine 94 = .ok (.iload_n 2, 1) := by decide +kernel
theorem dX10_combine_95 : decode cX10_combine 95 = .ok (.ifCond .eq 7, 3) := by decide +kernel
theorem dX10_combine_98 : decode cX10_combine 98 = .ok (.iconst 1, 1) := by decide +kernel
theorem dX10_combine_99 : decode cX10_combine 99 = .ok (.goto 4, 3) := by decide +kernel
theorem dX10_combine_102 : decode cX10_combine 102 = .ok (.iconst 0, 1) := by decide +kernel
theorem dX10_combine_103 : decode cX10_combine 103 = .ok (.ireturn, 1) := by decide +kernel
theorem dX10_combine_104 : decode cX10_combine 104 = .ok (.iload_n 1, 1) := by decide +kernel
theorem dX10_combine_105 : decode cX10_combine 105 = .ok (.iload_n 2, 1) := by decide +kernel
theorem dX10_combine_106 : decode cX10_combine 106 = .ok (.if_icmp .ge 7, 3) := by decide +kernel
theorem dX10_combine_109 : decode cX10_combine 109 = .ok (.iconst 1, 1) := by decide +kernel
theorem dX10_combine_110 : decode cX10_combine 110 = .ok (.goto 4, 3) := by decide +kernel
theorem dX10_combine_113 : decode cX10_combine 113 = .ok (.iconst 0, 1) := by decide +kernel
theorem dX10_combine_114 : decode cX10_combine 114 = .ok (.ireturn, 1) := by decide +kernel
theorem dX10_combine_115 : decode cX10_combine 115 = .ok (.iload_n 1, 1) := by decide +kernel
theorem dX10_combine_116 : decode cX10_combine 116 = .ok (.iload_n 2, 1) := by decide +kernel
theorem dX10_combine_117 : decode cX10_combine 117 = .ok (.if_icmp .ne 7, 3) := by decide +kernel
theorem dX10_combine_120 : decode cX10_combine 120 = .ok (.iconst 1, 1) := by decide +kernel
theorem dX10_combine_121 : decode cX10_combine 121 = .ok (.goto 4, 3) := by decide +kernel
theorem dX10_combine_124 : decode cX10_combine 124 = .ok (.iconst 0, 1) := by decide +kernel
theorem dX10_combine_125 : decode cX10_combine 125 = .ok (.ireturn, 1) := by decide +kernel
theorem dX10_combine_126 : decode cX10_combine 126 = .ok (.iload_n 1, 1) := by decide +kernel
theorem dX10_combine_127 : decode cX10_combine 127 = .ok (.iload_n 2, 1) := by decide +kernel
theorem dX10_combine_128 : decode cX10_combine 128 = .ok (.if_icmp .le 7, 3) := by decide +kernel
theorem dX10_combine_131 : decode cX10_combine 131 = .ok (.iconst 1, 1) := by decide +kernel
theorem dX10_combine_132 : decode cX10_combine 132 = .ok (.goto 4, 3) := by decide +kernel
theorem dX10_combine_135 : decode cX10_combine 135 = .ok (.iconst 0, 1) := by decide +kernel
theorem dX10_combine_136 : decode cX10_combine 136 = .ok (.ireturn, 1) := by decide +kernel
theorem dX10_combine_137 : decode cX10_combine 137 = .ok (.iload_n 1, 1) := by decide +kernel
theorem dX10_combine_138 : decode cX10_combine 138 = .ok (.iload_n 2, 1) := by decide +kernel
theorem dX10_combine_139 : decode cX10_combine 139 = .ok (.iadd, 1) := by decide +kernel
theorem dX10_combine_140 : decode cX10_combine 140 = .ok (.ireturn, 1) := by decide +kernel
theorem dX10_combine_141 : decode cX10_combine 141 = .ok (.iload_n 1, 1) := by decide +kernel
theorem dX10_combine_142 : decode cX10_combine 142 = .ok (.iload_n 2, 1) := by decide +kernel
theorem dX10_combine_143 : decode cX10_combine 143 = .ok (.isub, 1) := by decide +kernel
theorem dX10_combine_144 : decode cX10_combine 144 = .ok (.ireturn, 1) := by decide +kernel
theorem dX10_combine_145 : decode cX10_combine 145 = .ok (.iload_n 1, 1) := by decide +kernel
theorem dX10_combine_146 : decode cX10_combine 146 = .ok (.iload_n 2, 1) := by decide +kernel
theorem dX10_combine_147 : decode cX10_combine 147 = .ok (.imul, 1) := by decide +kernel
theorem dX10_combine_148 : decode cX10_combine 148 = .ok (.ireturn, 1) := by decide +kernel
theorem dX10_combine_149 : decode cX10_combine 149 = .ok (.iload_n 2, 1) := by decide +kernel
theorem dX10_combine_150 : decode cX10_combine 150 = .ok (.ifCond .ne 7, 3) := by decide +kernel
theorem dX10_combine_153 : decode cX10_combine 153 = .ok (.iconst 0, 1) := by decide +kernel
theorem dX10_combine_154 : decode cX10_combine 154 = .ok (.goto 6, 3) := by decide +kernel
theorem dX10_combine_157 : decode cX10_combine 157 = .ok (.iload_n 1, 1) := by decide +kernel
theorem dX10_combine_158 : decode cX10_combine 158 = .ok (.iload_n 2, 1) := by decide +kernel
theorem dX10_combine_159 : decode cX10_combine 159 = .ok (.idiv, 1) := by decide +kernel
theorem dX10_combine_160 : decode cX10_combine 160 = .ok (.ireturn, 1) := by decide +kernel
theorem dX10_nameOf_0 : decode cX10_nameOf 0 = .ok (.aload_n 0, 1) := by decide +kernel
theorem dX10_nameOf_1 : decode cX10_nameOf 1 = .ok (.getfield 24, 3) := by decide +kernel
theorem dX10_nameOf_4 : decode cX10_nameOf 4 = .ok (.getfield 32, 3) := by decide +kernel
theorem dX10_nameOf_7 : decode cX10_nameOf 7 = .ok (.astore 4, 2) := by decide +kernel
theorem dX10_nameOf_9 : decode cX10_nameOf 9 = .ok (.iload_n 1, 1) := by decide +kernel
theorem dX10_nameOf_10 : decode cX10_nameOf 10 = .ok (.lookupswitch 142 #[(99, 104), (103, 112), (107, 85), (110, 58), (114, 66), (119, 131)], 58) := by decide +kernel
theorem dX10_nameOf_68 : decode cX10_nameOf 68 = .ok (.aload 4, 2) := by decide +kernel
theorem dX10_nameOf_70 : decode cX10_nameOf 70 = .ok (.getfield 38, 3) := by decide +kernel
theorem dX10_nameOf_73 : decode cX10_nameOf 73 = .ok (.iload_n 2, 1) := by decide +kernel
theorem dX10_nameOf_74 : decode cX10_nameOf 74 = .ok (.iaload, 1) := by decide +kernel
theorem dX10_nameOf_75 : decode cX10_nameOf 75 = .ok (.ireturn, 1) := by decide +kernel
theorem dX10_nameOf_76 : decode cX10_nameOf 76 = .ok (.aload_n 0, 1) := by decide +kernel
theorem dX10_nameOf_77 : decode cX10_nameOf 77 = .ok (.getfield 24, 3) := by decide +kernel
theorem dX10_nameOf_80 : decode cX10_nameOf 80 = .ok (.getfield 65, 3) := by decide +kernel
theorem dX10_nameOf_83 : decode cX10_nameOf 83 = .ok (.getfield 69, 3) := by decide +kernel
theorem dX10_nameOf_86 : decode cX10_nameOf 86 = .ok (.aload 4, 2) := by decide +kernel
theorem dX10_nameOf_88 : decode cX10_nameOf 88 = .ok (.getfield 74, 3) := by decide +kernel
theorem dX10_nameOf_91 : decode cX10_nameOf 91 = .ok (.iload_n 2, 1) := by decide +kernel
theorem dX10_nameOf_92 : decode cX10_nameOf 92 = .ok (.iaload, 1) := by decide +kernel
theorem dX10_nameOf_93 : decode cX10_nameOf 93 = .ok (.iaload, 1) := by decide +kernel
theorem dX10_nameOf_94 : decode cX10_nameOf 94 = .ok (.ireturn, 1) := by decide +kernel
theorem dX10_nameOf_95 : decode cX10_nameOf 95 = .ok (.aload_n 0, 1) := by decide +kernel
theorem dX10_nameOf_96 : decode cX10_nameOf 96 = .ok (.getfield 24, 3) := by decide +kernel
theorem dX10_nameOf_99 : decode cX10_nameOf 99 = .ok (.getfield 65, 3) := by decide +kernel
theorem dX10_nameOf_102 : decode cX10_nameOf 102 = .ok (.getfield 115, 3) := by decide +kernel
theorem dX10_nameOf_105 : decode cX10_nameOf 105 = .ok (.aload 4, 2) := by decide +kernel
theorem dX10_nameOf_107 : decode cX10_nameOf 107 = .ok (.getfield 74, 3) := by decide +kernel
theorem dX10_nameOf_110 : decode cX10_nameOf 110 = .ok (.iload_n 2, 1) := by decide +kernel
theorem dX10_nameOf_111 : decode cX10_nameOf 111 = .ok (.iaload, 1) := by decide +kernel
theorem dX10_nameOf_112 : decode cX10_nameOf 112 = .ok (.iaload, 1) := by decide +kernel
theorem dX10_nameOf_113 : decode cX10_nameOf 113 = .ok (.ireturn, 1) := by decide +kernel
theorem dX10_nameOf_114 : decode cX10_nameOf 114 = .ok (.aload 4, 2) := by decide +kernel
theorem dX10_nameOf_116 : decode cX10_nameOf 116 = .ok (.getfield 118, 3) := by decide +kernel
theorem dX10_nameOf_119 : decode cX10_nameOf 119 = .ok (.iload_n 2, 1) := by decide +kernel
theorem dX10_nameOf_120 : decode cX10_nameOf 120 = .ok (.iaload, 1) := by decide +kernel
theorem dX10_nameOf_121 : decode cX10_nameOf 121 = .ok (.ireturn, 1) := by decide +kernel
theorem dX10_nameOf_122 : decode cX10_nameOf 122 = .ok (.aload_n 0, 1) := by decide +kernel
theorem dX10_nameOf_123 : decode cX10_nameOf 123 = .ok (.getfield 24, 3) := by decide +kernel
theorem dX10_nameOf_126 : decode cX10_nameOf 126 = .ok (.getfield 86, 3) := by decide +kernel
theorem dX10_nameOf_129 : decode cX10_nameOf 129 = .ok (.getfield 119, 3) := by decide +kernel
theorem dX10_nameOf_132 : decode cX10_nameOf 132 = .ok (.aload 4, 2) := by decide +kernel
theorem dX10_nameOf_134 : decode cX10_nameOf 134 = .ok (.getfield 94, 3) := by decide +kernel
theorem dX10_nameOf_137 : decode cX10_nameOf 137 = .ok (.iload_n 2, 1) := by decide +kernel
theorem dX10_nameOf_138 : decode cX10_nameOf 138 = .ok (.iaload, 1) := by decide +kernel
theorem dX10_nameOf_139 : decode cX10_nameOf 139 = .ok (.iaload, 1) := by decide +kernel
theorem dX10_nameOf_140 : decode cX10_nameOf 140 = .ok (.ireturn, 1) := by decide +kernel
theorem dX10_nameOf_141 : decode cX10_nameOf 141 = .ok (.aload 4, 2) := by decide +kernel
theorem dX10_nameOf_143 : decode cX10_nameOf 143 = .ok (.getfield 96, 3) := by decide +kernel
theorem dX10_nameOf_146 : decode cX10_nameOf 146 = .ok (.iload_n 2, 1) := by decide +kernel
theorem dX10_nameOf_147 : decode cX10_nameOf 147 = .ok (.iaload, 1) := by decide +kernel
theorem dX10_nameOf_148 : decode cX10_nameOf 148 = .ok (.bipush 7, 2) := by decide +kernel
theorem dX10_nameOf_150 : decode cX10_nameOf 150 = .ok (.irem, 1) := by decide +kernel
theorem dX10_nameOf_151 : decode cX10_nameOf 151 = .ok (.ireturn, 1) := by decide +kernel
theorem dX10_nameOf_152 : decode cX10_nameOf 152 = .ok (.aload_n 0, 1) := by decide +kernel
theorem dX10_nameOf_153 : decode cX10_nameOf 153 = .ok (.iload_n 2, 1) := by decide +kernel
theorem dX10_nameOf_154 : decode cX10_nameOf 154 = .ok (.iload_n 3, 1) := by decide +kernel
theorem dX10_nameOf_155 : decode cX10_nameOf 155 = .ok (.invokevirtual 120, 3) := by decide +kernel
theorem dX10_nameOf_158 : decode cX10_nameOf 158 = .ok (.ireturn, 1) := by decide +kernel
theorem dX10_othersMet_0 : decode cX10_othersMet 0 = .ok (.aload_n 0, 1) := by decide +kernel
theorem dX10_othersMet_1 : decode cX10_othersMet 1 = .ok (.getfield 24, 3) := by decide +kernel
theorem dX10_othersMet_4 : decode cX10_othersMet 4 = .ok (.getfield 32, 3) := by decide +kernel
theorem dX10_othersMet_7 : decode cX10_othersMet 7 = .ok (.astore_n 3, 1) := by decide +kernel
theorem dX10_othersMet_8 : decode cX10_othersMet 8 = .ok (.iconst 0, 1) := by decide +kernel
theorem dX10_othersMet_9 : decode cX10_othersMet 9 = .ok (.istore 4, 2) := by decide +kernel
theorem dX10_othersMet_11 : decode cX10_othersMet 11 = .ok (.iconst 0, 1) := by decide +kernel
theorem dX10_othersMet_12 : decode cX10_othersMet 12 = .ok (.istore 5, 2) := by decide +kernel
theorem dX10_othersMet_14 : decode cX10_othersMet 14 = .ok (.iload 5, 2) := by decide +kernel
theorem dX10_othersMet_16 : decode cX10_othersMet 16 = .ok (.aload_n 3, 1) := by decide +kernel
theorem dX10_othersMet_17 : decode cX10_othersMet 17 = .ok (.getfield 123, 3) := by decide +kernel
theorem dX10_othersMet_20 : decode cX10_othersMet 20 = .ok (.if_icmp .ge 87, 3) := by decide +kernel
theorem dX10_othersMet_23 : decode cX10_othersMet 23 = .ok (.aload_n 3, 1) := by decide +kernel
theorem dX10_othersMet_24 : decode cX10_othersMet 24 = .ok (.getfield 74, 3) := by decide +kernel
theorem dX10_othersMet_27 : decode cX10_othersMet 27 = .ok (.iload 5, 2) := by decide +kernel
theorem dX10_othersMet_29 : decode cX10_othersMet 29 = .ok (.iaload, 1) := by decide +kernel
theorem dX10_othersMet_30 : decode cX10_othersMet 30 = .ok (.aload_n 3, 1) := by decide +kernel
theorem dX10_othersMet_31 : decode cX10_othersMet 31 = .ok (.getfield 74, 3) := by decide +kernel
theorem dX10_othersMet_34 : decode cX10_othersMet 34 = .ok (.iload_n 1, 1) := by decide +kernel
theorem dX10_othersMet_35 : decode cX10_othersMet 35 = .ok (.iaload, 1) := by decide +kernel
theorem dX10_othersMet_36 : decode cX10_othersMet 36 = .ok (.if_icmp .eq 23, 3) := by decide +kernel
theorem dX10_othersMet_39 : decode cX10_othersMet 39 = .ok (.aload_n 3, 1) := by decide +kernel
theorem dX10_othersMet_40 : decode cX10_othersMet 40 = .ok (.getfield 94, 3) := by decide +kernel
theorem dX10_othersMet_43 : decode cX10_othersMet 43 = .ok (.iload 5, 2) := by decide +kernel
theorem dX10_othersMet_45 : decode cX10_othersMet 45 = .ok (.iaload, 1) := by decide +kernel
theorem dX10_othersMet_46 : decode cX10_othersMet 46 = .ok (.aload_n 3, 1) := by decide +kernel
theorem dX10_othersMet_47 : decode cX10_othersMet 47 = .ok (.getfield 94, 3) := by decide +kernel
theorem dX10_othersMet_50 : decode cX10_othersMet 50 = .ok (.iload_n 1, 1) := by decide +kernel
theorem dX10_othersMet_51 : decode cX10_othersMet 51 = .ok (.iaload, 1) := by decide +kernel
theorem dX10_othersMet_52 : decode cX10_othersMet 52 = .ok (.if_icmp .ne 7, 3) := by decide +kernel
theorem dX10_othersMet_55 : decode cX10_othersMet 55 = .ok (.iconst 1, 1) := by decide +kernel
theorem dX10_othersMet_56 : decode cX10_othersMet 56 = .ok (.goto 4, 3) := by decide +kernel
theorem dX10_othersMet_59 : decode cX10_othersMet 59 = .ok (.iconst 0, 1) := by decide +kernel
theorem dX10_othersMet_60 : decode cX10_othersMet 60 = .ok (.istore 6, 2) := by decide +kernel
theorem dX10_othersMet_62 : decode cX10_othersMet 62 = .ok (.iload 6, 2) := by decide +kernel
theorem dX10_othersMet_64 : decode cX10_othersMet 64 = .ok (.ifCond .eq 37, 3) := by decide +kernel
theorem dX10_othersMet_67 : decode cX10_othersMet 67 = .ok (.aload_n 3, 1) := by decide +kernel
theorem dX10_othersMet_68 : decode cX10_othersMet 68 = .ok (.iload 5, 2) := by decide +kernel
theorem dX10_othersMet_70 : decode cX10_othersMet 70 = .ok (.iload_n 1, 1) := by decide +kernel
theorem dX10_othersMet_71 : decode cX10_othersMet 71 = .ok (.invokevirtual 127, 3) := by decide +kernel
theorem dX10_othersMet_74 : decode cX10_othersMet 74 = .ok (.ifCond .eq 27, 3) := by decide +kernel
theorem dX10_othersMet_77 : decode cX10_othersMet 77 = .ok (.aload_n 3, 1) := by decide +kernel
theorem dX10_othersMet_78 : decode cX10_othersMet 78 = .ok (.iload 5, 2) := by decide +kernel
theorem dX10_othersMet_80 : decode cX10_othersMet 80 = .ok (.iload_n 2, 1) := by decide +kernel
theorem dX10_othersMet_81 : decode cX10_othersMet 81 = .ok (.invokevirtual 131, 3) := by decide +kernel
theorem dX10_othersMet_84 : decode cX10_othersMet 84 = .ok (.ifCond .eq 17, 3) := by decide +kernel
theorem dX10_othersMet_87 : decode cX10_othersMet 87 = .ok (.iload 4, 2) := by decide +kernel
theorem dX10_othersMet_89 : decode cX10_othersMet 89 = .ok (.iconst 1, 1) := by decide +kernel
theorem dX10_othersMet_90 : decode cX10_othersMet 90 = .ok (.aload_n 3, 1) := by decide +kernel
theorem dX10_othersMet_91 : decode cX10_othersMet 91 = .ok (.getfield 74, 3) := by decide +kernel
theorem dX10_othersMet_94 : decode cX10_othersMet 94 = .ok (.iload 5, 2) := by decide +kernel
theorem dX10_othersMet_96 : decode cX10_othersMet 96 = .ok (.iaload, 1) := by decide +kernel
theorem dX10_othersMet_97 : decode cX10_othersMet 97 = .ok (.ishl, 1) := by decide +kernel
theorem dX10_othersMet_98 : decode cX10_othersMet 98 = .ok (.ior, 1) := by decide +kernel
theorem dX10_othersMet_99 : decode cX10_othersMet 99 = .ok (.istore 4, 2) := by decide +kernel
theorem dX10_othersMet_101 : decode cX10_othersMet 101 = .ok (.iinc 5 1, 3) := by decide +kernel
theorem dX10_othersMet_104 : decode cX10_othersMet 104 = .ok (.goto (-90), 3) := by decide +kernel
theorem dX10_othersMet_107 : decode cX10_othersMet 107 = .ok (.iload 4, 2) := by decide +kernel
theorem dX10_othersMet_109 : decode cX10_othersMet 109 = .ok (.invokestatic 134, 3) := by decide +kernel
theorem dX10_othersMet_112 : decode cX10_othersMet 112 = .ok (.ireturn, 1) := by decide +kernel
theorem dX10_chargeMatter_0 : decode cX10_chargeMatter 0 = .ok (.aload_n 0, 1) := by decide +kernel
theorem dX10_chargeMatter_1 : decode cX10_chargeMatter 1 = .ok (.getfield 24, 3) := by decide +kernel
theorem dX10_chargeMatter_4 : decode cX10_chargeMatter 4 = .ok (.getfield 86, 3) := by decide +kernel
theorem dX10_chargeMatter_7 : decode cX10_chargeMatter 7 = .ok (.getfield 119, 3) := by decide +kernel
theorem dX10_chargeMatter_10 : decode cX10_chargeMatter 10 = .ok (.iload_n 1, 1) := by decide +kernel
theorem dX10_chargeMatter_11 : decode cX10_chargeMatter 11 = .ok (.iaload, 1) := by decide +kernel
theorem dX10_chargeMatter_12 : decode cX10_chargeMatter 12 = .ok (.istore_n 3, 1) := by decide +kernel
theorem dX10_chargeMatter_13 : decode cX10_chargeMatter 13 = .ok (.aload_n 0, 1) := by decide +kernel
theorem dX10_chargeMatter_14 : decode cX10_chargeMatter 14 = .ok (.getfield 24, 3) := by decide +kernel
theorem dX10_chargeMatter_17 : decode cX10_chargeMatter 17 = .ok (.getfield 86, 3) := by decide +kernel
theorem dX10_chargeMatter_20 : decode cX10_chargeMatter 20 = .ok (.iload_n 1, 1) := by decide +kernel
theorem dX10_chargeMatter_21 : decode cX10_chargeMatter 21 = .ok (.iconst 2, 1) := by decide +kernel
theorem dX10_chargeMatter_22 : decode cX10_chargeMatter 22 = .ok (.invokevirtual 139, 3) := by decide +kernel
theorem dX10_chargeMatter_25 : decode cX10_chargeMatter 25 = .ok (.istore 4, 2) := by decide +kernel
theorem dX10_chargeMatter_27 : decode cX10_chargeMatter 27 = .ok (.aload_n 0, 1) := by decide +kernel
theorem dX10_chargeMatter_28 : decode cX10_chargeMatter 28 = .ok (.iload_n 1, 1) := by decide +kernel
theorem dX10_chargeMatter_29 : decode cX10_chargeMatter 29 = .ok (.iload_n 2, 1) := by decide +kernel
theorem dX10_chargeMatter_30 : decode cX10_chargeMatter 30 = .ok (.invokevirtual 142, 3) := by decide +kernel
theorem dX10_chargeMatter_33 : decode cX10_chargeMatter 33 = .ok (.istore 5, 2) := by decide +kernel
theorem dX10_chargeMatter_35 : decode cX10_chargeMatter 35 = .ok (.iconst (-1), 1) := by decide +kernel
theorem dX10_chargeMatter_36 : decode cX10_chargeMatter 36 = .ok (.istore 6, 2) := by decide +kernel
theorem dX10_chargeMatter_38 : decode cX10_chargeMatter 38 = .ok (.iconst 0, 1) := by decide +kernel
theorem dX10_chargeMatter_39 : decode cX10_chargeMatter 39 = .ok (.istore 7, 2) := by decide +kernel
theorem dX10_chargeMatter_41 : decode cX10_chargeMatter 41 = .ok (.iconst 0, 1) := by decide +kernel
theorem dX10_chargeMatter_42 : decode cX10_chargeMatter 42 = .ok (.istore 8, 2) := by decide +kernel
theorem dX10_chargeMatter_44 : decode cX10_chargeMatter 44 = .ok (.iconst 0, 1) := by decide +kernel
theorem dX10_chargeMatter_45 : decode cX10_chargeMatter 45 = .ok (.istore 9, 2) := by decide +kernel
theorem dX10_chargeMatter_47 : decode cX10_chargeMatter 47 = .ok (.iload 9, 2) := by decide +kernel
theorem dX10_chargeMatter_49 : decode cX10_chargeMatter 49 = .ok (.iload 5, 2) := by decide +kernel
theorem dX10_chargeMatter_51 : decode cX10_chargeMatter 51 = .ok (.if_icmp .ge 160, 3) := by decide +kernel
theorem dX10_chargeMatter_54 : decode cX10_chargeMatter 54 = .ok (.aload_n 0, 1) := by decide +kernel
theorem dX10_chargeMatter_55 : decode cX10_chargeMatter 55 = .ok (.getfield 15, 3) := by decide +kernel
theorem dX10_chargeMatter_58 : decode cX10_chargeMatter 58 = .ok (.iload 9, 2) := by decide +kernel
theorem dX10_chargeMatter_60 : decode cX10_chargeMatter 60 = .ok (.iaload, 1) := by decide +kernel
theorem dX10_chargeMatter_61 : decode cX10_chargeMatter 61 = .ok (.istore 10, 2) := by decide +kernel
theorem dX10_chargeMatter_63 : decode cX10_chargeMatter 63 = .ok (.iload_n 3, 1) := by decide +kernel
theorem dX10_chargeMatter_64 : decode cX10_chargeMatter 64 = .ok (.iconst 1, 1) := by decide +kernel
theorem dX10_chargeMatter_65 : decode cX10_chargeMatter 65 = .ok (.if_icmp .ne 7, 3) := by decide +kernel
theorem dX10_chargeMatter_68 : decode cX10_chargeMatter 68 = .ok (.iconst 0, 1) := by decide +kernel
theorem dX10_chargeMatter_69 : decode cX10_chargeMatter 69 = .ok (.goto 10, 3) := by decide +kernel
theorem dX10_chargeMatter_72 : decode cX10_chargeMatter 72 = .ok (.aload_n 0, 1) := by decide +kernel
theorem dX10_chargeMatter_73 : decode cX10_chargeMatter 73 = .ok (.iload 10, 2) := by decide +kernel
theorem dX10_chargeMatter_75 : decode cX10_chargeMatter 75 = .ok (.iload_n 2, 1) := by decide +kernel
theorem dX10_chargeMatter_76 : decode cX10_chargeMatter 76 = .ok (.invokevirtual 145, 3) := by decide +kernel
theorem dX10_chargeMatter_79 : decode cX10_chargeMatter 79 = .ok (.istore 11, 2) := by decide +kernel
theorem dX10_chargeMatter_81 : decode cX10_chargeMatter 81 = .ok (.iload_n 3, 1) := by decide +kernel
theorem dX10_chargeMatter_82 : decode cX10_chargeMatter 82 = .ok (.iconst 3, 1) := by decide +kernel
theorem dX10_chargeMatter_83 : decode cX10_chargeMatter 83 = .ok (.if_icmp .ne 24, 3) := by decide +kernel
theorem dX10_chargeMatter_86 : decode cX10_chargeMatter 86 = .ok (.aload_n 0, 1) := by decide +kernel
theorem dX10_chargeMatter_87 : decode cX10_chargeMatter 87 = .ok (.getfield 24, 3) := by decide +kernel
theorem dX10_chargeMatter_90 : decode cX10_chargeMatter 90 = .ok (.getfield 32, 3) := by decide +kernel
theorem dX10_chargeMatter_93 : decode cX10_chargeMatter 93 = .ok (.getfield 118, 3) := by decide +kernel
theorem dX10_chargeMatter_96 : decode cX10_chargeMatter 96 = .ok (.iload 10, 2) := by decide +kernel
theorem dX10_chargeMatter_98 : decode cX10_chargeMatter 98 = .ok (.iaload, 1) := by decide +kernel
theorem dX10_chargeMatter_99 : decode cX10_chargeMatter 99 = .ok (.iconst 5, 1) := by decide +kernel
theorem dX10_chargeMatter_100 : decode cX10_chargeMatter 100 = .ok (.if_icmp .ne 7, 3) := by decide +kernel
theorem dX10_chargeMatter_103 : decode cX10_chargeMatter 103 = .ok (.iconst 1, 1) := by decide +kernel
theorem dX10_chargeMatter_104 : decode cX10_chargeMatter 104 = .ok (.goto 4, 3) := by decide +kernel
theorem dX10_chargeMatter_107 : decode cX10_chargeMatter 107 = .ok (.iconst 0, 1) := by decide +kernel
theorem dX10_chargeMatter_108 : decode cX10_chargeMatter 108 = .ok (.istore 12, 2) := by decide +kernel
theorem dX10_chargeMatter_110 : decode cX10_chargeMatter 110 = .ok (.iload 4, 2) := by decide +kernel
theorem dX10_chargeMatter_112 : decode cX10_chargeMatter 112 = .ok (.ifCond .eq 77, 3) := by decide +kernel
theorem dX10_chargeMatter_115 : decode cX10_chargeMatter 115 = .ok (.iload 12, 2) := by decide +kernel
theorem dX10_chargeMatter_117 : decode cX10_chargeMatter 117 = .ok (.ifCond .ne 72, 3) := by decide +kernel
theorem dX10_chargeMatter_120 : decode cX10_chargeMatter 120 = .ok (.aload_n 0, 1) := by decide +kernel
theorem dX10_chargeMatter_121 : decode cX10_chargeMatter 121 = .ok (.getfield 24, 3) := by decide +kernel
theorem dX10_chargeMatter_124 : decode cX10_chargeMatter 124 = .ok (.getfield 32, 3) := by decide +kernel
theorem dX10_chargeMatter_127 : decode cX10_chargeMatter 127 = .ok (.getfield 96, 3) := by decide +kernel
theorem dX10_chargeMatter_130 : decode cX10_chargeMatter 130 = .ok (.iload 10, 2) := by decide +kernel
theorem dX10_chargeMatter_132 : decode cX10_chargeMatter 132 = .ok (.iaload, 1) := by decide +kernel
theorem dX10_chargeMatter_133 : decode cX10_chargeMatter 133 = .ok (.bipush 30, 2) := by decide +kernel
theorem dX10_chargeMatter_135 : decode cX10_chargeMatter 135 = .ok (.idiv, 1) := by decide +kernel
theorem dX10_chargeMatter_136 : decode cX10_chargeMatter 136 = .ok (.iload 6, 2) := by decide +kernel
theorem dX10_chargeMatter_138 : decode cX10_chargeMatter 138 = .ok (.if_icmp .eq 35, 3) := by decide +kernel
theorem dX10_chargeMatter_141 : decode cX10_chargeMatter 141 = .ok (.aload_n 0, 1) := by decide +kernel
theorem dX10_chargeMatter_142 : decode cX10_chargeMatter 142 = .ok (.getfield 24, 3) := by decide +kernel
theorem dX10_chargeMatter_145 : decode cX10_chargeMatter 145 = .ok (.getfield 32, 3) := by decide +kernel
theorem dX10_chargeMatter_148 : decode cX10_chargeMatter 148 = .ok (.getfield 96, 3) := by decide +kernel
theorem dX10_chargeMatter_151 : decode cX10_chargeMatter 151 = .ok (.iload 10, 2) := by decide +kernel
theorem dX10_chargeMatter_153 : decode cX10_chargeMatter 153 = .ok (.iaload, 1) := by decide +kernel
theorem dX10_chargeMatter_154 : decode cX10_chargeMatter 154 = .ok (.bipush 30, 2) := by decide +kernel
theorem dX10_chargeMatter_156 : decode cX10_chargeMatter 156 = .ok (.idiv, 1) := by decide +kernel
theorem dX10_chargeMatter_157 : decode cX10_chargeMatter 157 = .ok (.istore 6, 2) := by decide +kernel
theorem dX10_chargeMatter_159 : decode cX10_chargeMatter 159 = .ok (.aload_n 0, 1) := by decide +kernel
theorem dX10_chargeMatter_160 : decode cX10_chargeMatter 160 = .ok (.getfield 24, 3) := by decide +kernel
theorem dX10_chargeMatter_163 : decode cX10_chargeMatter 163 = .ok (.getfield 86, 3) := by decide +kernel
theorem dX10_chargeMatter_166 : decode cX10_chargeMatter 166 = .ok (.getfield 148, 3) := by decide +kernel
theorem dX10_chargeMatter_169 : decode cX10_chargeMatter 169 = .ok (.iload_n 1, 1) := by decide +kernel
theorem dX10_chargeMatter_170 : decode cX10_chargeMatter 170 = .ok (.iaload, 1) := by decide +kernel
theorem dX10_chargeMatter_171 : decode cX10_chargeMatter 171 = .ok (.istore 7, 2) := by decide +kernel
theorem dX10_chargeMatter_173 : decode cX10_chargeMatter 173 = .ok (.iload 11, 2) := by decide +kernel
theorem dX10_chargeMatter_175 : decode cX10_chargeMatter 175 = .ok (.iload 7, 2) := by decide +kernel
theorem dX10_chargeMatter_177 : decode cX10_chargeMatter 177 = .ok (.invokestatic 56, 3) := by decide +kernel
theorem dX10_chargeMatter_180 : decode cX10_chargeMatter 180 = .ok (.istore 11, 2) := by decide +kernel
theorem dX10_chargeMatter_182 : decode cX10_chargeMatter 182 = .ok (.iload 7, 2) := by decide +kernel
theorem dX10_chargeMatter_184 : decode cX10_chargeMatter 184 = .ok (.iload 11, 2) := by decide +kernel
theorem dX10_chargeMatter_186 : decode cX10_chargeMatter 186 = .ok (.isub, 1) := by decide +kernel
theorem dX10_chargeMatter_187 : decode cX10_chargeMatter 187 = .ok (.istore 7, 2) := by decide +kernel
theorem dX10_chargeMatter_189 : decode cX10_chargeMatter 189 = .ok (.aload_n 0, 1) := by decide +kernel
theorem dX10_chargeMatter_190 : decode cX10_chargeMatter 190 = .ok (.getfield 21, 3) := by decide +kernel
theorem dX10_chargeMatter_193 : decode cX10_chargeMatter 193 = .ok (.iload 10, 2) := by decide +kernel
theorem dX10_chargeMatter_195 : decode cX10_chargeMatter 195 = .ok (.iload 11, 2) := by decide +kernel
theorem dX10_chargeMatter_197 : decode cX10_chargeMatter 197 = .ok (.iastore, 1) := by decide +kernel
theorem dX10_chargeMatter_198 : decode cX10_chargeMatter 198 = .ok (.iload 8, 2) := by decide +kernel
theorem dX10_chargeMatter_200 : decode cX10_chargeMatter 200 = .ok (.iload 11, 2) := by decide +kernel
theorem dX10_chargeMatter_202 : decode cX10_chargeMatter 202 = .ok (.iadd, 1) := by decide +kernel
theorem dX10_chargeMatter_203 : decode cX10_chargeMatter 203 = .ok (.istore 8, 2) := by decide +kernel
theorem dX10_chargeMatter_205 : decode cX10_chargeMatter 205 = .ok (.iinc 9 1, 3) := by decide +kernel
theorem dX10_chargeMatter_208 : decode cX10_chargeMatter 208 = .ok (.goto (-161), 3) := by decide +kernel
theorem dX10_chargeMatter_211 : decode cX10_chargeMatter 211 = .ok (.iload 8, 2) := by decide +kernel
theorem dX10_chargeMatter_213 : decode cX10_chargeMatter 213 = .ok (.ireturn, 1) := by decide +kernel
theorem dX10_putInOrder_0 : decode cX10_putInOrder 0 = .ok (.aload_n 0, 1) := by decide +kernel
theorem dX10_putInOrder_1 : decode cX10_putInOrder 1 = .ok (.getfield 24, 3) := by decide +kernel
theorem dX10_putInOrder_4 : decode cX10_putInOrder 4 = .ok (.getfield 32, 3) := by decide +kernel
theorem dX10_putInOrder_7 : decode cX10_putInOrder 7 = .ok (.astore_n 3, 1) := by decide +kernel
theorem dX10_putInOrder_8 : decode cX10_putInOrder 8 = .ok (.iconst 0, 1) := by decide +kernel
theorem dX10_putInOrder_9 : decode cX10_putInOrder 9 = .ok (.istore 4, 2) := by decide +kernel
theorem dX10_putInOrder_11 : decode cX10_putInOrder 11 = .ok (.iconst 0, 1) := by decide +kernel
theorem dX10_putInOrder_12 : decode cX10_putInOrder 12 = .ok (.istore 5, 2) := by decide +kernel
theorem dX10_putInOrder_14 : decode cX10_putInOrder 14 = .ok (.iload 5, 2) := by decide +kernel
theorem dX10_putInOrder_16 : decode cX10_putInOrder 16 = .ok (.aload_n 3, 1) := by decide +kernel
theorem dX10_putInOrder_17 : decode cX10_putInOrder 17 = .ok (.getfield 123, 3) := by decide +kernel
theorem dX10_putInOrder_20 : decode cX10_putInOrder 20 = .ok (.if_icmp .ge 97, 3) := by decide +kernel
theorem dX10_putInOrder_23 : decode cX10_putInOrder 23 = .ok (.aload_n 3, 1) := by decide +kernel
theorem dX10_putInOrder_24 : decode cX10_putInOrder 24 = .ok (.getfield 94, 3) := by decide +kernel
theorem dX10_putInOrder_27 : decode cX10_putInOrder 27 = .ok (.iload 5, 2) := by decide +kernel
theorem dX10_putInOrder_29 : decode cX10_putInOrder 29 = .ok (.iaload, 1) := by decide +kernel
theorem dX10_putInOrder_30 : decode cX10_putInOrder 30 = .ok (.iload_n 1, 1) := by decide +kernel
theorem dX10_putInOrder_31 : decode cX10_putInOrder 31 = .ok (.if_icmp .ne 80, 3) := by decide +kernel
theorem dX10_putInOrder_34 : decode cX10_putInOrder 34 = .ok (.aload_n 3, 1) := by decide +kernel
theorem dX10_putInOrder_35 : decode cX10_putInOrder 35 = .ok (.iload 5, 2) := by decide +kernel
theorem dX10_putInOrder_37 : decode cX10_putInOrder 37 = .ok (.iload_n 2, 1) := by decide +kernel
theorem dX10_putInOrder_38 : decode cX10_putInOrder 38 = .ok (.invokevirtual 131, 3) := by decide +kernel
theorem dX10_putInOrder_41 : decode cX10_putInOrder 41 = .ok (.ifCond .eq 70, 3) := by decide +kernel
theorem dX10_putInOrder_44 : decode cX10_putInOrder 44 = .ok (.iload 4, 2) := by decide +kernel
theorem dX10_putInOrder_46 : decode cX10_putInOrder 46 = .ok (.istore 6, 2) := by decide +kernel
theorem dX10_putInOrder_48 : decode cX10_putInOrder 48 = .ok (.iload 6, 2) := by decide +kernel
theorem dX10_putInOrder_50 : decode cX10_putInOrder 50 = .ok (.ifCond .le 49, 3) := by decide +kernel
theorem dX10_putInOrder_53 : decode cX10_putInOrder 53 = .ok (.aload_n 3, 1) := by decide +kernel
theorem dX10_putInOrder_54 : decode cX10_putInOrder 54 = .ok (.getfield 96, 3) := by decide +kernel
theorem dX10_putInOrder_57 : decode cX10_putInOrder 57 = .ok (.aload_n 0, 1) := by decide +kernel
theorem dX10_putInOrder_58 : decode cX10_putInOrder 58 = .ok (.getfield 15, 3) := by decide +kernel
theorem dX10_putInOrder_61 : decode cX10_putInOrder 61 = .ok (.iload 6, 2) := by decide +kernel
theorem dX10_putInOrder_63 : decode cX10_putInOrder 63 = .ok (.iconst 1, 1) := by decide +kernel
theorem dX10_putInOrder_64 : decode cX10_putInOrder 64 = .ok (.isub, 1) := by decide +kernel
theorem dX10_putInOrder_65 : decode cX10_putInOrder 65 = .ok (.iaload, 1) := by decide +kernel
theorem dX10_putInOrder_66 : decode cX10_putInOrder 66 = .ok (.iaload, 1) := by decide +kernel
theorem dX10_putInOrder_67 : decode cX10_putInOrder 67 = .ok (.aload_n 3, 1) := by decide +kernel
theorem dX10_putInOrder_68 : decode cX10_putInOrder 68 = .ok (.getfield 96, 3) := by decide +kernel
theorem dX10_putInOrder_71 : decode cX10_putInOrder 71 = .ok (.iload 5, 2) := by decide +kernel
theorem dX10_putInOrder_73 : decode cX10_putInOrder 73 = .ok (.iaload, 1) := by decide +kernel
theorem dX10_putInOrder_74 : decode cX10_putInOrder 74 = .ok (.if_icmp .le 25, 3) := by decide +kernel
theorem dX10_putInOrder_77 : decode cX10_putInOrder 77 = .ok (.aload_n 0, 1) := by decide +kernel
theorem dX10_putInOrder_78 : decode cX10_putInOrder 78 = .ok (.getfield 15, 3) := by decide +kernel
theorem dX10_putInOrder_81 : decode cX10_putInOrder 81 = .ok (.iload 6, 2) := by decide +kernel
theorem dX10_putInOrder_83 : decode cX10_putInOrder 83 = .ok (.aload_n 0, 1) := by decide +kernel
theorem dX10_putInOrder_84 : decode cX10_putInOrder 84 = .ok (.getfield 15, 3) := by decide +kernel
theorem dX10_putInOrder_87 : decode cX10_putInOrder 87 = .ok (.iload 6, 2) := by decide +kernel
theorem dX10_putInOrder_89 : decode cX10_putInOrder 89 = .ok (.iconst 1, 1) := by decide +kernel
theorem dX10_putInOrder_90 : decode cX10_putInOrder 90 = .ok (.isub, 1) := by decide +kernel
theorem dX10_putInOrder_91 : decode cX10_putInOrder 91 = .ok (.iaload, 1) := by decide +kernel
theorem dX10_putInOrder_92 : decode cX10_putInOrder 92 = .ok (.iastore, 1) := by decide +kernel
theorem dX10_putInOrder_93 : decode cX10_putInOrder 93 = .ok (.iinc 6 (-1), 3) := by decide +kernel
theorem dX10_putInOrder_96 : decode cX10_putInOrder 96 = .ok (.goto (-48), 3) := by decide +kernel
theorem dX10_putInOrder_99 : decode cX10_putInOrder 99 = .ok (.aload_n 0, 1) := by decide +kernel
theorem dX10_putInOrder_100 : decode cX10_putInOrder 100 = .ok (.getfield 15, 3) := by decide +kernel
theorem dX10_putInOrder_103 : decode cX10_putInOrder 103 = .ok (.iload 6, 2) := by decide +kernel
theorem dX10_putInOrder_105 : decode cX10_putInOrder 105 = .ok (.iload 5, 2) := by decide +kernel
theorem dX10_putInOrder_107 : decode cX10_putInOrder 107 = .ok (.iastore, 1) := by decide +kernel
theorem dX10_putInOrder_108 : decode cX10_putInOrder 108 = .ok (.iinc 4 1, 3) := by decide +kernel
theorem dX10_putInOrder_111 : decode cX10_putInOrder 111 = .ok (.iinc 5 1, 3) := by decide +kernel
theorem dX10_putInOrder_114 : decode cX10_putInOrder 114 = .ok (.goto (-100), 3) := by decide +kernel
theorem dX10_putInOrder_117 : decode cX10_putInOrder 117 = .ok (.iload 4, 2) := by decide +kernel
theorem dX10_putInOrder_119 : decode cX10_putInOrder 119 = .ok (.ireturn, 1) := by decide +kernel
theorem dX10_middleFor_0 : decode cX10_middleFor 0 = .ok (.iconst 0, 1) := by decide +kernel
theorem dX10_middleFor_1 : decode cX10_middleFor 1 = .ok (.istore_n 2, 1) := by decide +kernel
theorem dX10_middleFor_2 : decode cX10_middleFor 2 = .ok (.iconst 0, 1) := by decide +kernel
theorem dX10_middleFor_3 : decode cX10_middleFor 3 = .ok (.istore_n 3, 1) := by decide +kernel
theorem dX10_middleFor_4 : decode cX10_middleFor 4 = .ok (.iload_n 3, 1) := by decide +kernel
theorem dX10_middleFor_5 : decode cX10_middleFor 5 = .ok (.aload_n 0, 1) := by decide +kernel
theorem dX10_middleFor_6 : decode cX10_middleFor 6 = .ok (.getfield 24, 3) := by decide +kernel
theorem dX10_middleFor_9 : decode cX10_middleFor 9 = .ok (.getfield 32, 3) := by decide +kernel
theorem dX10_middleFor_12 : decode cX10_middleFor 12 = .ok (.getfield 123, 3) := by decide +kernel
theorem dX10_middleFor_15 : decode cX10_middleFor 15 = .ok (.if_icmp .ge 97, 3) := by decide +kernel
theorem dX10_middleFor_18 : decode cX10_middleFor 18 = .ok (.aload_n 0, 1) := by decide +kernel
theorem dX10_middleFor_19 : decode cX10_middleFor 19 = .ok (.iload_n 3, 1) := by decide +kernel
theorem dX10_middleFor_20 : decode cX10_middleFor 20 = .ok (.iload_n 1, 1) := by decide +kernel
theorem dX10_middleFor_21 : decode cX10_middleFor 21 = .ok (.invokevirtual 151, 3) := by decide +kernel
theorem dX10_middleFor_24 : decode cX10_middleFor 24 = .ok (.ifCond .eq 18, 3) := by decide +kernel
theorem dX10_middleFor_27 : decode cX10_middleFor 27 = .ok (.aload_n 0, 1) := by decide +kernel
theorem dX10_middleFor_28 : decode cX10_middleFor 28 = .ok (.iload_n 3, 1) := by decide +kernel
theorem dX10_middleFor_29 : decode cX10_middleFor 29 = .ok (.aload_n 0, 1) := by decide +kernel
theorem dX10_middleFor_30 : decode cX10_middleFor 30 = .ok (.getfield 24, 3) := by decide +kernel
theorem dX10_middleFor_33 : decode cX10_middleFor 33 = .ok (.getfield 154, 3) := by decide +kernel
theorem dX10_middleFor_36 : decode cX10_middleFor 36 = .ok (.invokevirtual 80, 3) := by decide +kernel
theorem dX10_middleFor_39 : decode cX10_middleFor 39 = .ok (.goto 4, 3) := by decide +kernel
theorem dX10_middleFor_42 : decode cX10_middleFor 42 = .ok (.iconst 0, 1) := by decide +kernel
theorem dX10_middleFor_43 : decode cX10_middleFor 43 = .ok (.istore 4, 2) := by decide +kernel
theorem dX10_middleFor_45 : decode cX10_middleFor 45 = .ok (.iload 4, 2) := by decide +kernel
theorem dX10_middleFor_47 : decode cX10_middleFor 47 = .ok (.ifCond .le 59, 3) := by decide +kernel
theorem dX10_middleFor_50 : decode cX10_middleFor 50 = .ok (.iload_n 2, 1) := by decide +kernel
theorem dX10_middleFor_51 : decode cX10_middleFor 51 = .ok (.istore 5, 2) := by decide +kernel
theorem dX10_middleFor_53 : decode cX10_middleFor 53 = .ok (.iload 5, 2) := by decide +kernel
theorem dX10_middleFor_55 : decode cX10_middleFor 55 = .ok (.ifCond .le 39, 3) := by decide +kernel
theorem dX10_middleFor_58 : decode cX10_middleFor 58 = .ok (.aload_n 0, 1) := by decide +kernel
theorem dX10_middleFor_59 : decode cX10_middleFor 59 = .ok (.getfield 18, 3) := by decide +kernel
theorem dX10_middleFor_62 : decode cX10_middleFor 62 = .ok (.iload 5, 2) := by decide +kernel
theorem dX10_middleFor_64 : decode cX10_middleFor 64 = .ok (.iconst 1, 1) := by decide +kernel
theorem dX10_middleFor_65 : decode cX10_middleFor 65 = .ok (.isub, 1) := by decide +kernel
theorem dX10_middleFor_66 : decode cX10_middleFor 66 = .ok (.iaload, 1) := by decide +kernel
theorem dX10_middleFor_67 : decode cX10_middleFor 67 = .ok (.iload 4, 2) := by decide +kernel
theorem dX10_middleFor_69 : decode cX10_middleFor 69 = .ok (.if_icmp .le 25, 3) := by decide +kernel
theorem dX10_middleFor_72 : decode cX10_middleFor 72 = .ok (.aload_n 0, 1) := by decide +kernel
theorem dX10_middleFor_73 : decode cX10_middleFor 73 = .ok (.getfield 18, 3) := by decide +kernel
theorem dX10_middleFor_76 : decode cX10_middleFor 76 = .ok (.iload 5, 2) := by decide +kernel
theorem dX10_middleFor_78 : decode cX10_middleFor 78 = .ok (.aload_n 0, 1) := by decide +kernel
theorem dX10_middleFor_79 : decode cX10_middleFor 79 = .ok (.getfield 18, 3) := by decide +kernel
theorem dX10_middleFor_82 : decode cX10_middleFor 82 = .ok (.iload 5, 2) := by decide +kernel
theorem dX10_middleFor_84 : decode cX10_middleFor 84 = .ok (.iconst 1, 1) := by decide +kernel
theorem dX10_middleFor_85 : decode cX10_middleFor 85 = .ok (.isub, 1) := by decide +kernel
theorem dX10_middleFor_86 : decode cX10_middleFor 86 = .ok (.iaload, 1) := by decide +kernel
theorem dX10_middleFor_87 : decode cX10_middleFor 87 = .ok (.iastore, 1) := by decide +kernel
theorem dX10_middleFor_88 : decode cX10_middleFor 88 = .ok (.iinc 5 (-1), 3) := by decide +kernel
theorem dX10_middleFor_91 : decode cX10_middleFor 91 = .ok (.goto (-38), 3) := by decide +kernel
theorem dX10_middleFor_94 : decode cX10_middleFor 94 = .ok (.aload_n 0, 1) := by decide +kernel
theorem dX10_middleFor_95 : decode cX10_middleFor 95 = .ok (.getfield 18, 3) := by decide +kernel
theorem dX10_middleFor_98 : decode cX10_middleFor 98 = .ok (.iload 5, 2) := by decide +kernel
theorem dX10_middleFor_100 : decode cX10_middleFor 100 = .ok (.iload 4, 2) := by decide +kernel
theorem dX10_middleFor_102 : decode cX10_middleFor 102 = .ok (.iastore, 1) := by decide +kernel
theorem dX10_middleFor_103 : decode cX10_middleFor 103 = .ok (.iinc 2 1, 3) := by decide +kernel
theorem dX10_middleFor_106 : decode cX10_middleFor 106 = .ok (.iinc 3 1, 3) := by decide +kernel
theorem dX10_middleFor_109 : decode cX10_middleFor 109 = .ok (.goto (-105), 3) := by decide +kernel
theorem dX10_middleFor_112 : decode cX10_middleFor 112 = .ok (.iload_n 2, 1) := by decide +kernel
theorem dX10_middleFor_113 : decode cX10_middleFor 113 = .ok (.ifCond .ne 8, 3) := by decide +kernel
theorem dX10_middleFor_116 : decode cX10_middleFor 116 = .ok (.ldc 157, 2) := by decide +kernel
theorem dX10_middleFor_118 : decode cX10_middleFor 118 = .ok (.goto 13, 3) := by decide +kernel
theorem dX10_middleFor_121 : decode cX10_middleFor 121 = .ok (.aload_n 0, 1) := by decide +kernel
theorem dX10_middleFor_122 : decode cX10_middleFor 122 = .ok (.getfield 18, 3) := by decide +kernel
theorem dX10_middleFor_125 : decode cX10_middleFor 125 = .ok (.iload_n 2, 1) := by decide +kernel
theorem dX10_middleFor_126 : decode cX10_middleFor 126 = .ok (.iconst 1, 1) := by decide +kernel
theorem dX10_middleFor_127 : decode cX10_middleFor 127 = .ok (.isub, 1) := by decide +kernel
theorem dX10_middleFor_128 : decode cX10_middleFor 128 = .ok (.iconst 2, 1) := by decide +kernel
theorem dX10_middleFor_129 : decode cX10_middleFor 129 = .ok (.idiv, 1) := by decide +kernel
theorem dX10_middleFor_130 : decode cX10_middleFor 130 = .ok (.iaload, 1) := by decide +kernel
theorem dX10_middleFor_131 : decode cX10_middleFor 131 = .ok (.ireturn, 1) := by decide +kernel
theorem dX10_isLike_0 : decode cX10_isLike 0 = .ok (.aload_n 0, 1) := by decide +kernel
theorem dX10_isLike_1 : decode cX10_isLike 1 = .ok (.getfield 24, 3) := by decide +kernel
theorem dX10_isLike_4 : decode cX10_isLike 4 = .ok (.getfield 32, 3) := by decide +kernel
theorem dX10_isLike_7 : decode cX10_isLike 7 = .ok (.astore_n 3, 1) := by decide +kernel
theorem dX10_isLike_8 : decode cX10_isLike 8 = .ok (.aload_n 0, 1) := by decide +kernel
theorem dX10_isLike_9 : decode cX10_isLike 9 = .ok (.getfield 24, 3) := by decide +kernel
theorem dX10_isLike_12 : decode cX10_isLike 12 = .ok (.getfield 65, 3) := by decide +kernel
theorem dX10_isLike_15 : decode cX10_isLike 15 = .ok (.getfield 115, 3) := by decide +kernel
theorem dX10_isLike_18 : decode cX10_isLike 18 = .ok (.aload_n 3, 1) := by decide +kernel
theorem dX10_isLike_19 : decode cX10_isLike 19 = .ok (.getfield 74, 3) := by decide +kernel
theorem dX10_isLike_22 : decode cX10_isLike 22 = .ok (.iload_n 2, 1) := by decide +kernel
theorem dX10_isLike_23 : decode cX10_isLike 23 = .ok (.iaload, 1) := by decide +kernel
theorem dX10_isLike_24 : decode cX10_isLike 24 = .ok (.iaload, 1) := by decide +kernel
theorem dX10_isLike_25 : decode cX10_isLike 25 = .ok (.istore 4, 2) := by decide +kernel
theorem dX10_isLike_27 : decode cX10_isLike 27 = .ok (.aload_n 3, 1) := by decide +kernel
theorem dX10_isLike_28 : decode cX10_isLike 28 = .ok (.getfield 158, 3) := by decide +kernel
theorem dX10_isLike_31 : decode cX10_isLike 31 = .ok (.iload_n 1, 1) := by decide +kernel
theorem dX10_isLike_32 : decode cX10_isLike 32 = .ok (.iaload, 1) := by decide +kernel
theorem dX10_isLike_33 : decode cX10_isLike 33 = .ok (.ldc 157, 2) := by decide +kernel
theorem dX10_isLike_35 : decode cX10_isLike 35 = .ok (.if_icmp .eq 70, 3) := by decide +kernel
theorem dX10_isLike_38 : decode cX10_isLike 38 = .ok (.aload_n 3, 1) := by decide +kernel
theorem dX10_isLike_39 : decode cX10_isLike 39 = .ok (.getfield 158, 3) := by decide +kernel
theorem dX10_isLike_42 : decode cX10_isLike 42 = .ok (.iload_n 1, 1) := by decide +kernel
theorem dX10_isLike_43 : decode cX10_isLike 43 = .ok (.iaload, 1) := by decide +kernel
theorem dX10_isLike_44 : decode cX10_isLike 44 = .ok (.aload_n 3, 1) := by decide +kernel
theorem dX10_isLike_45 : decode cX10_isLike 45 = .ok (.getfield 158, 3) := by decide +kernel
theorem dX10_isLike_48 : decode cX10_isLike 48 = .ok (.iload_n 2, 1) := by decide +kernel
theorem dX10_isLike_49 : decode cX10_isLike 49 = .ok (.iaload, 1) := by decide +kernel
theorem dX10_isLike_50 : decode cX10_isLike 50 = .ok (.if_icmp .eq 55, 3) := by decide +kernel
theorem dX10_isLike_53 : decode cX10_isLike 53 = .ok (.aload_n 3, 1) := by decide +kernel
theorem dX10_isLike_54 : decode cX10_isLike 54 = .ok (.getfield 118, 3) := by decide +kernel
theorem dX10_isLike_57 : decode cX10_isLike 57 = .ok (.iload_n 1, 1) := by decide +kernel
theorem dX10_isLike_58 : decode cX10_isLike 58 = .ok (.iaload, 1) := by decide +kernel
theorem dX10_isLike_59 : decode cX10_isLike 59 = .ok (.aload_n 3, 1) := by decide +kernel
theorem dX10_isLike_60 : decode cX10_isLike 60 = .ok (.getfield 118, 3) := by decide +kernel
theorem dX10_isLike_63 : decode cX10_isLike 63 = .ok (.iload_n 2, 1) := by decide +kernel
theorem dX10_isLike_64 : decode cX10_isLike 64 = .ok (.iaload, 1) := by decide +kernel
theorem dX10_isLike_65 : decode cX10_isLike 65 = .ok (.if_icmp .ne 40, 3) := by decide +kernel
theorem dX10_isLike_68 : decode cX10_isLike 68 = .ok (.aload_n 0, 1) := by decide +kernel
theorem dX10_isLike_69 : decode cX10_isLike 69 = .ok (.getfield 24, 3) := by decide +kernel
theorem dX10_isLike_72 : decode cX10_isLike 72 = .ok (.getfield 65, 3) := by decide +kernel
theorem dX10_isLike_75 : decode cX10_isLike 75 = .ok (.getfield 115, 3) := by decide +kernel
theorem dX10_isLike_78 : decode cX10_isLike 78 = .ok (.aload_n 3, 1) := by decide +kernel
theorem dX10_isLike_79 : decode cX10_isLike 79 = .ok (.getfield 74, 3) := by decide +kernel
theorem dX10_isLike_82 : decode cX10_isLike 82 = .ok (.iload_n 1, 1) := by decide +kernel
theorem dX10_isLike_83 : decode cX10_isLike 83 = .ok (.iaload, 1) := by decide +kernel
theorem dX10_isLike_84 : decode cX10_isLike 84 = .ok (.iaload, 1) := by decide +kernel
theorem dX10_isLike_85 : decode cX10_isLike 85 = .ok (.iload 4, 2) := by decide +kernel
theorem dX10_isLike_87 : decode cX10_isLike 87 = .ok (.if_icmp .ne 18, 3) := by decide +kernel
theorem dX10_isLike_90 : decode cX10_isLike 90 = .ok (.aload_n 3, 1) := by decide +kernel
theorem dX10_isLike_91 : decode cX10_isLike 91 = .ok (.getfield 161, 3) := by decide +kernel
theorem dX10_isLike_94 : decode cX10_isLike 94 = .ok (.iload_n 1, 1) := by decide +kernel
theorem dX10_isLike_95 : decode cX10_isLike 95 = .ok (.iaload, 1) := by decide +kernel
theorem dX10_isLike_96 : decode cX10_isLike 96 = .ok (.ldc 157, 2) := by decide +kernel
theorem dX10_isLike_98 : decode cX10_isLike 98 = .ok (.if_icmp .ne 7, 3) := by decide +kernel
theorem dX10_isLike_101 : decode cX10_isLike 101 = .ok (.iconst 1, 1) := by decide +kernel
theorem dX10_isLike_102 : decode cX10_isLike 102 = .ok (.goto 4, 3) := by decide +kernel
theorem dX10_isLike_105 : decode cX10_isLike 105 = .ok (.iconst 0, 1) := by decide +kernel
theorem dX10_isLike_106 : decode cX10_isLike 106 = .ok (.ireturn, 1) := by decide +kernel
