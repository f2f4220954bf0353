theorem dX11_init_0 : decode cX11_init 0 = .ok (.aload_n 0, 1) := by decide +kernel
theorem dX11_init_1 : decode cX11_init 1 = .ok (.invokespecial 1, 3) := by decide +kernel
theorem dX11_init_4 : decode cX11_init 4 = .ok (.aload_n 0, 1) := by decide +kernel
theorem dX11_init_5 : decode cX11_init 5 = .ok (.new 7, 3) := by decide +kernel
theorem dX11_init_8 : decode cX11_init 8 = .ok (.dup, 1) := by decide +kernel
theorem dX11_init_9 : decode cX11_init 9 = .ok (.invokespecial 9, 3) := by decide +kernel
theorem dX11_init_12 : decode cX11_init 12 = .ok (.putfield 10, 3) := by decide +kernel
theorem dX11_init_15 : decode cX11_init 15 = .ok (.aload_n 0, 1) := by decide +kernel
theorem dX11_init_16 : decode cX11_init 16 = .ok (.new 7, 3) := by decide +kernel
theorem dX11_init_19 : decode cX11_init 19 = .ok (.dup, 1) := by decide +kernel
theorem dX11_init_20 : decode cX11_init 20 = .ok (.invokespecial 9, 3) := by decide +kernel
theorem dX11_init_23 : decode cX11_init 23 = .ok (.putfield 16, 3) := by decide +kernel
theorem dX11_init_26 : decode cX11_init 26 = .ok (.aload_n 0, 1) := by decide +kernel
theorem dX11_init_27 : decode cX11_init 27 = .ok (.iconst 0, 1) := by decide +kernel
theorem dX11_init_28 : decode cX11_init 28 = .ok (.putfield 19, 3) := by decide +kernel
theorem dX11_init_31 : decode cX11_init 31 = .ok (.aload_n 0, 1) := by decide +kernel
theorem dX11_init_32 : decode cX11_init 32 = .ok (.new 23, 3) := by decide +kernel
theorem dX11_init_35 : decode cX11_init 35 = .ok (.dup, 1) := by decide +kernel
theorem dX11_init_36 : decode cX11_init 36 = .ok (.invokespecial 25, 3) := by decide +kernel
theorem dX11_init_39 : decode cX11_init 39 = .ok (.putfield 26, 3) := by decide +kernel
theorem dX11_init_42 : decode cX11_init 42 = .ok (.aload_n 0, 1) := by decide +kernel
theorem dX11_init_43 : decode cX11_init 43 = .ok (.new 30, 3) := by decide +kernel
theorem dX11_init_46 : decode cX11_init 46 = .ok (.dup, 1) := by decide +kernel
theorem dX11_init_47 : decode cX11_init 47 = .ok (.aload_n 0, 1) := by decide +kernel
theorem dX11_init_48 : decode cX11_init 48 = .ok (.getfield 10, 3) := by decide +kernel
theorem dX11_init_51 : decode cX11_init 51 = .ok (.invokespecial 32, 3) := by decide +kernel
theorem dX11_init_54 : decode cX11_init 54 = .ok (.putfield 35, 3) := by decide +kernel
theorem dX11_init_57 : decode cX11_init 57 = .ok (.aload_n 0, 1) := by decide +kernel
theorem dX11_init_58 : decode cX11_init 58 = .ok (.new 39, 3) := by decide +kernel
theorem dX11_init_61 : decode cX11_init 61 = .ok (.dup, 1) := by decide +kernel
theorem dX11_init_62 : decode cX11_init 62 = .ok (.aload_n 0, 1) := by decide +kernel
theorem dX11_init_63 : decode cX11_init 63 = .ok (.getfield 10, 3) := by decide +kernel
theorem dX11_init_66 : decode cX11_init 66 = .ok (.invokespecial 41, 3) := by decide +kernel
theorem dX11_init_69 : decode cX11_init 69 = .ok (.putfield 42, 3) := by decide +kernel
theorem dX11_init_72 : decode cX11_init 72 = .ok (.aload_n 0, 1) := by decide +kernel
theorem dX11_init_73 : decode cX11_init 73 = .ok (.bipush 20, 2) := by decide +kernel
theorem dX11_init_75 : decode cX11_init 75 = .ok (.newarray .int, 2) := by decide +kernel
theorem dX11_init_77 : decode cX11_init 77 = .ok (.putfield 46, 3) := by decide +kernel
theorem dX11_init_80 : decode cX11_init 80 = .ok (.aload_n 0, 1) := by decide +kernel
theorem dX11_init_81 : decode cX11_init 81 = .ok (.iconst 0, 1) := by decide +kernel
theorem dX11_init_82 : decode cX11_init 82 = .ok (.putfield 50, 3) := by decide +kernel
theorem dX11_init_85 : decode cX11_init 85 = .ok (.aload_n 0, 1) := by decide +kernel
theorem dX11_init_86 : decode cX11_init 86 = .ok (.bipush 40, 2) := by decide +kernel
theorem dX11_init_88 : decode cX11_init 88 = .ok (.newarray .short, 2) := by decide +kernel
theorem dX11_init_90 : decode cX11_init 90 = .ok (.putfield 54, 3) := by decide +kernel
theorem dX11_init_93 : decode cX11_init 93 = .ok (.aload_n 0, 1) := by decide +kernel
theorem dX11_init_94 : decode cX11_init 94 = .ok (.iconst 2, 1) := by decide +kernel
theorem dX11_init_95 : decode cX11_init 95 = .ok (.newarray .int, 2) := by decide +kernel
theorem dX11_init_97 : decode cX11_init 97 = .ok (.dup, 1) := by decide +kernel
theorem dX11_init_98 : decode cX11_init 98 = .ok (.iconst 0, 1) := by decide +kernel
theorem dX11_init_99 : decode cX11_init 99 = .ok (.iconst (-1), 1) := by decide +kernel
theorem dX11_init_100 : decode cX11_init 100 = .ok (.iastore, 1) := by decide +kernel
theorem dX11_init_101 : decode cX11_init 101 = .ok (.dup, 1) := by decide +kernel
theorem dX11_init_102 : decode cX11_init 102 = .ok (.iconst 1, 1) := by decide +kernel
theorem dX11_init_103 : decode cX11_init 103 = .ok (.iconst (-1), 1) := by decide +kernel
theorem dX11_init_104 : decode cX11_init 104 = .ok (.iastore, 1) := by decide +kernel
theorem dX11_init_105 : decode cX11_init 105 = .ok (.putfield 58, 3) := by decide +kernel
theorem dX11_init_108 : decode cX11_init 108 = .ok (.aload_n 0, 1) := by decide +kernel
theorem dX11_init_109 : decode cX11_init 109 = .ok (.sipush 240, 3) := by decide +kernel
theorem dX11_init_112 : decode cX11_init 112 = .ok (.newarray .int, 2) := by decide +kernel
theorem dX11_init_114 : decode cX11_init 114 = .ok (.putfield 61, 3) := by decide +kernel
theorem dX11_init_117 : decode cX11_init 117 = .ok (.aload_n 0, 1) := by decide +kernel
theorem dX11_init_118 : decode cX11_init 118 = .ok (.sipush 240, 3) := by decide +kernel
theorem dX11_init_121 : decode cX11_init 121 = .ok (.newarray .int, 2) := by decide +kernel
theorem dX11_init_123 : decode cX11_init 123 = .ok (.putfield 64, 3) := by decide +kernel
theorem dX11_init_126 : decode cX11_init 126 = .ok (.aload_n 0, 1) := by decide +kernel
theorem dX11_init_127 : decode cX11_init 127 = .ok (.iconst 3, 1) := by decide +kernel
theorem dX11_init_128 : decode cX11_init 128 = .ok (.newarray .int, 2) := by decide +kernel
theorem dX11_init_130 : decode cX11_init 130 = .ok (.putfield 67, 3) := by decide +kernel
theorem dX11_init_133 : decode cX11_init 133 = .ok (.return_, 1) := by decide +kernel
theorem dX11_person_0 : decode cX11_person 0 = .ok (.iload_n 1, 1) := by decide +kernel
theorem dX11_person_1 : decode cX11_person 1 = .ok (.iconst 0, 1) := by decide +kernel
theorem dX11_person_2 : decode cX11_person 2 = .ok (.iconst 3, 1) := by decide +kernel
theorem dX11_person_3 : decode cX11_person 3 = .ok (.invokestatic 70, 3) := by decide +kernel
theorem dX11_person_6 : decode cX11_person 6 = .ok (.ifCond .eq 14, 3) := by decide +kernel
theorem dX11_person_9 : decode cX11_person 9 = .ok (.iload_n 2, 1) := by decide +kernel
theorem dX11_person_10 : decode cX11_person 10 = .ok (.iconst 1, 1) := by decide +kernel
theorem dX11_person_11 : decode cX11_person 11 = .ok (.sipush 999, 3) := by decide +kernel
theorem dX11_person_14 : decode cX11_person 14 = .ok (.invokestatic 70, 3) := by decide +kernel
theorem dX11_person_17 : decode cX11_person 17 = .ok (.ifCond .ne 6, 3) := by decide +kernel
theorem dX11_person_20 : decode cX11_person 20 = .ok (.ldc 74, 2) := by decide +kernel
theorem dX11_person_22 : decode cX11_person 22 = .ok (.ireturn, 1) := by decide +kernel
theorem dX11_person_23 : decode cX11_person 23 = .ok (.aload_n 0, 1) := by decide +kernel
theorem dX11_person_24 : decode cX11_person 24 = .ok (.getfield 10, 3) := by decide +kernel
theorem dX11_person_27 : decode cX11_person 27 = .ok (.getfield 75, 3) := by decide +kernel
theorem dX11_person_30 : decode cX11_person 30 = .ok (.astore_n 3, 1) := by decide +kernel
theorem dX11_person_31 : decode cX11_person 31 = .ok (.aload_n 3, 1) := by decide +kernel
theorem dX11_person_32 : decode cX11_person 32 = .ok (.getfield 79, 3) := by decide +kernel
theorem dX11_person_35 : decode cX11_person 35 = .ok (.bipush 8, 2) := by decide +kernel
theorem dX11_person_37 : decode cX11_person 37 = .ok (.if_icmp .lt 6, 3) := by decide +kernel
theorem dX11_person_40 : decode cX11_person 40 = .ok (.ldc 84, 2) := by decide +kernel
theorem dX11_person_42 : decode cX11_person 42 = .ok (.ireturn, 1) := by decide +kernel
theorem dX11_person_43 : decode cX11_person 43 = .ok (.aload_n 3, 1) := by decide +kernel
theorem dX11_person_44 : decode cX11_person 44 = .ok (.getfield 79, 3) := by decide +kernel
theorem dX11_person_47 : decode cX11_person 47 = .ok (.istore 4, 2) := by decide +kernel
theorem dX11_person_49 : decode cX11_person 49 = .ok (.aload_n 3, 1) := by decide +kernel
theorem dX11_person_50 : decode cX11_person 50 = .ok (.getfield 85, 3) := by decide +kernel
theorem dX11_person_53 : decode cX11_person 53 = .ok (.iload 4, 2) := by decide +kernel
theorem dX11_person_55 : decode cX11_person 55 = .ok (.iload_n 1, 1) := by decide +kernel
theorem dX11_person_56 : decode cX11_person 56 = .ok (.iastore, 1) := by decide +kernel
theorem dX11_person_57 : decode cX11_person 57 = .ok (.aload_n 3, 1) := by decide +kernel
theorem dX11_person_58 : decode cX11_person 58 = .ok (.getfield 88, 3) := by decide +kernel
theorem dX11_person_61 : decode cX11_person 61 = .ok (.iload 4, 2) := by decide +kernel
theorem dX11_person_63 : decode cX11_person 63 = .ok (.iload_n 2, 1) := by decide +kernel
theorem dX11_person_64 : decode cX11_person 64 = .ok (.iastore, 1) := by decide +kernel
theorem dX11_person_65 : decode cX11_person 65 = .ok (.aload_n 3, 1) := by decide +kernel
theorem dX11_person_66 : decode cX11_person 66 = .ok (.getfield 91, 3) := by decide +kernel
theorem dX11_person_69 : decode cX11_person 69 = .ok (.iload 4, 2) := by decide +kernel
theorem dX11_person_71 : decode cX11_person 71 = .ok (.iconst 0, 1) := by decide +kernel
theorem dX11_person_72 : decode cX11_person 72 = .ok (.iastore, 1) := by decide +kernel
theorem dX11_person_73 : decode cX11_person 73 = .ok (.aload_n 3, 1) := by decide +kernel
theorem dX11_person_74 : decode cX11_person 74 = .ok (.iload 4, 2) := by decide +kernel
theorem dX11_person_76 : decode cX11_person 76 = .ok (.iconst 1, 1) := by decide +kernel
theorem dX11_person_77 : decode cX11_person 77 = .ok (.iadd, 1) := by decide +kernel
theorem dX11_person_78 : decode cX11_person 78 = .ok (.putfield 79, 3) := by decide +kernel
theorem dX11_person_81 : decode cX11_person 81 = .ok (.iload 4, 2) := by decide +kernel
theorem dX11_person_83 : decode cX11_person 83 = .ok (.ireturn, 1) := by decide +kernel
theorem dX11_is_0 : decode cX11_is 0 = .ok (.aload_n 0, 1) := by decide +kernel
theorem dX11_is_1 : decode cX11_is 1 = .ok (.getfield 10, 3) := by decide +kernel
theorem dX11_is_4 : decode cX11_is 4 = .ok (.getfield 75, 3) := by decide +kernel
theorem dX11_is_7 : decode cX11_is 7 = .ok (.iload_n 1, 1) := by decide +kernel
theorem dX11_is_8 : decode cX11_is 8 = .ok (.invokevirtual 94, 3) := by decide +kernel
theorem dX11_is_11 : decode cX11_is 11 = .ok (.ifCond .eq 12, 3) := by decide +kernel
theorem dX11_is_14 : decode cX11_is 14 = .ok (.iload_n 2, 1) := by decide +kernel
theorem dX11_is_15 : decode cX11_is 15 = .ok (.iconst 0, 1) := by decide +kernel
theorem dX11_is_16 : decode cX11_is 16 = .ok (.iconst 3, 1) := by decide +kernel
theorem dX11_is_17 : decode cX11_is 17 = .ok (.invokestatic 70, 3) := by decide +kernel
theorem dX11_is_20 : decode cX11_is 20 = .ok (.ifCond .ne 6, 3) := by decide +kernel
theorem dX11_is_23 : decode cX11_is 23 = .ok (.ldc 74, 2) := by decide +kernel
theorem dX11_is_25 : decode cX11_is 25 = .ok (.ireturn, 1) := by decide +kernel
theorem dX11_is_26 : decode cX11_is 26 = .ok (.aload_n 0, 1) := by decide +kernel
theorem dX11_is_27 : decode cX11_is 27 = .ok (.getfield 10, 3) := by decide +kernel
theorem dX11_is_30 : decode cX11_is 30 = .ok (.getfield 75, 3) := by decide +kernel
theorem dX11_is_33 : decode cX11_is 33 = .ok (.iload_n 1, 1) := by decide +kernel
theorem dX11_is_34 : decode cX11_is 34 = .ok (.iload_n 2, 1) := by decide +kernel
theorem dX11_is_35 : decode cX11_is 35 = .ok (.invokevirtual 98, 3) := by decide +kernel
theorem dX11_is_38 : decode cX11_is 38 = .ok (.ifCond .eq 7, 3) := by decide +kernel
theorem dX11_is_41 : decode cX11_is 41 = .ok (.iconst 1, 1) := by decide +kernel
theorem dX11_is_42 : decode cX11_is 42 = .ok (.goto 4, 3) := by decide +kernel
theorem dX11_is_45 : decode cX11_is 45 = .ok (.iconst 0, 1) := by decide +kernel
theorem dX11_is_46 : decode cX11_is 46 = .ok (.ireturn, 1) := by decide +kernel
theorem dX11_client_0 : decode cX11_client 0 = .ok (.aload_n 0, 1) := by decide +kernel
theorem dX11_client_1 : decode cX11_client 1 = .ok (.getfield 10, 3) := by decide +kernel
theorem dX11_client_4 : decode cX11_client 4 = .ok (.getfield 102, 3) := by decide +kernel
theorem dX11_client_7 : decode cX11_client 7 = .ok (.astore_n 1, 1) := by decide +kernel
theorem dX11_client_8 : decode cX11_client 8 = .ok (.aload_n 1, 1) := by decide +kernel
theorem dX11_client_9 : decode cX11_client 9 = .ok (.getfield 106, 3) := by decide +kernel
theorem dX11_client_12 : decode cX11_client 12 = .ok (.iconst 5, 1) := by decide +kernel
theorem dX11_client_13 : decode cX11_client 13 = .ok (.if_icmp .lt 6, 3) := by decide +kernel
theorem dX11_client_16 : decode cX11_client 16 = .ok (.ldc 84, 2) := by decide +kernel
theorem dX11_client_18 : decode cX11_client 18 = .ok (.ireturn, 1) := by decide +kernel
theorem dX11_client_19 : decode cX11_client 19 = .ok (.aload_n 1, 1) := by decide +kernel
theorem dX11_client_20 : decode cX11_client 20 = .ok (.getfield 106, 3) := by decide +kernel
theorem dX11_client_23 : decode cX11_client 23 = .ok (.istore_n 2, 1) := by decide +kernel
theorem dX11_client_24 : decode cX11_client 24 = .ok (.aload_n 1, 1) := by decide +kernel
theorem dX11_client_25 : decode cX11_client 25 = .ok (.getfield 109, 3) := by decide +kernel
theorem dX11_client_28 : decode cX11_client 28 = .ok (.iload_n 2, 1) := by decide +kernel
theorem dX11_client_29 : decode cX11_client 29 = .ok (.iconst 0, 1) := by decide +kernel
theorem dX11_client_30 : decode cX11_client 30 = .ok (.iastore, 1) := by decide +kernel
theorem dX11_client_31 : decode cX11_client 31 = .ok (.aload_n 1, 1) := by decide +kernel
theorem dX11_client_32 : decode cX11_client 32 = .ok (.getfield 112, 3) := by decide +kernel
theorem dX11_client_35 : decode cX11_client 35 = .ok (.iload_n 2, 1) := by decide +kernel
theorem dX11_client_36 : decode cX11_client 36 = .ok (.iconst 0, 1) := by decide +kernel
theorem dX11_client_37 : decode cX11_client 37 = .ok (.iastore, 1) := by decide +kernel
theorem dX11_client_38 : decode cX11_client 38 = .ok (.aload_n 1, 1) := by decide +kernel
theorem dX11_client_39 : decode cX11_client 39 = .ok (.iload_n 2, 1) := by decide +kernel
theorem dX11_client_40 : decode cX11_client 40 = .ok (.iconst 1, 1) := by decide +kernel
theorem dX11_client_41 : decode cX11_client 41 = .ok (.iadd, 1) := by decide +kernel
theorem dX11_client_42 : decode cX11_client 42 = .ok (.putfield 106, 3) := by decide +kernel
theorem dX11_client_45 : decode cX11_client 45 = .ok (.iload_n 2, 1) := by decide +kernel
theorem dX11_client_46 : decode cX11_client 46 = .ok (.ireturn, 1) := by decide +kernel
theorem dX11_matter_0 : decode cX11_matter 0 = .ok (.iload_n 1, 1) := by decide +kernel
theorem dX11_matter_1 : decode cX11_matter 1 = .ok (.iconst 0, 1) := by decide +kernel
theorem dX11_matter_2 : decode cX11_matter 2 = .ok (.iconst 3, 1) := by decide +kernel
theorem dX11_matter_3 : decode cX11_matter 3 = .ok (.invokestatic 70, 3) := by decide +kernel
theorem dX11_matter_6 : decode cX11_matter 6 = .ok (.ifCond .eq 27, 3) := by decide +kernel
theorem dX11_matter_9 : decode cX11_matter 9 = .ok (.aload_n 0, 1) := by decide +kernel
theorem dX11_matter_10 : decode cX11_matter 10 = .ok (.getfield 10, 3) := by decide +kernel
theorem dX11_matter_13 : decode cX11_matter 13 = .ok (.getfield 102, 3) := by decide +kernel
theorem dX11_matter_16 : decode cX11_matter 16 = .ok (.iload_n 2, 1) := by decide +kernel
theorem dX11_matter_17 : decode cX11_matter 17 = .ok (.invokevirtual 115, 3) := by decide +kernel
theorem dX11_matter_20 : decode cX11_matter 20 = .ok (.ifCond .eq 13, 3) := by decide +kernel
theorem dX11_matter_23 : decode cX11_matter 23 = .ok (.iload_n 3, 1) := by decide +kernel
theorem dX11_matter_24 : decode cX11_matter 24 = .ok (.iconst 0, 1) := by decide +kernel
theorem dX11_matter_25 : decode cX11_matter 25 = .ok (.ldc 116, 2) := by decide +kernel
theorem dX11_matter_27 : decode cX11_matter 27 = .ok (.invokestatic 70, 3) := by decide +kernel
theorem dX11_matter_30 : decode cX11_matter 30 = .ok (.ifCond .ne 6, 3) := by decide +kernel
theorem dX11_matter_33 : decode cX11_matter 33 = .ok (.ldc 74, 2) := by decide +kernel
theorem dX11_matter_35 : decode cX11_matter 35 = .ok (.ireturn, 1) := by decide +kernel
theorem dX11_matter_36 : decode cX11_matter 36 = .ok (.aload_n 0, 1) := by decide +kernel
theorem dX11_matter_37 : decode cX11_matter 37 = .ok (.getfield 10, 3) := by decide +kernel
theorem dX11_matter_40 : decode cX11_matter 40 = .ok (.getfield 117, 3) := by decide +kernel
theorem dX11_matter_43 : decode cX11_matter 43 = .ok (.getfield 121, 3) := by decide +kernel
theorem dX11_matter_46 : decode cX11_matter 46 = .ok (.bipush 10, 2) := by decide +kernel
theorem dX11_matter_48 : decode cX11_matter 48 = .ok (.if_icmp .lt 6, 3) := by decide +kernel
theorem dX11_matter_51 : decode cX11_matter 51 = .ok (.ldc 84, 2) := by decide +kernel
theorem dX11_matter_53 : decode cX11_matter 53 = .ok (.ireturn, 1) := by decide +kernel
theorem dX11_matter_54 : decode cX11_matter 54 = .ok (.aload_n 0, 1) := by decide +kernel
theorem dX11_matter_55 : decode cX11_matter 55 = .ok (.getfield 10, 3) := by decide +kernel
theorem dX11_matter_58 : decode cX11_matter 58 = .ok (.getfield 117, 3) := by decide +kernel
theorem dX11_matter_61 : decode cX11_matter 61 = .ok (.iload_n 1, 1) := by decide +kernel
theorem dX11_matter_62 : decode cX11_matter 62 = .ok (.iload_n 2, 1) := by decide +kernel
theorem dX11_matter_63 : decode cX11_matter 63 = .ok (.iload_n 3, 1) := by decide +kernel
theorem dX11_matter_64 : decode cX11_matter 64 = .ok (.invokevirtual 124, 3) := by decide +kernel
theorem dX11_matter_67 : decode cX11_matter 67 = .ok (.ireturn, 1) := by decide +kernel
theorem dX11_isOf_0 : decode cX11_isOf 0 = .ok (.aload_n 0, 1) := by decide +kernel
theorem dX11_isOf_1 : decode cX11_isOf 1 = .ok (.getfield 10, 3) := by decide +kernel
theorem dX11_isOf_4 : decode cX11_isOf 4 = .ok (.getfield 117, 3) := by decide +kernel
theorem dX11_isOf_7 : decode cX11_isOf 7 = .ok (.iload_n 1, 1) := by decide +kernel
theorem dX11_isOf_8 : decode cX11_isOf 8 = .ok (.invokevirtual 128, 3) := by decide +kernel
theorem dX11_isOf_11 : decode cX11_isOf 11 = .ok (.ifCond .eq 12, 3) := by decide +kernel
theorem dX11_isOf_14 : decode cX11_isOf 14 = .ok (.iload_n 2, 1) := by decide +kernel
theorem dX11_isOf_15 : decode cX11_isOf 15 = .ok (.iconst 0, 1) := by decide +kernel
theorem dX11_isOf_16 : decode cX11_isOf 16 = .ok (.iconst 3, 1) := by decide +kernel
theorem dX11_isOf_17 : decode cX11_isOf 17 = .ok (.invokestatic 70, 3) := by decide +kernel
theorem dX11_isOf_20 : decode cX11_isOf 20 = .ok (.ifCond .ne 6, 3) := by decide +kernel
theorem dX11_isOf_23 : decode cX11_isOf 23 = .ok (.ldc 74, 2) := by decide +kernel
theorem dX11_isOf_25 : decode cX11_isOf 25 = .ok (.ireturn, 1) := by decide +kernel
theorem dX11_isOf_26 : decode cX11_isOf 26 = .ok (.aload_n 0, 1) := by decide +kernel
theorem dX11_isOf_27 : decode cX11_isOf 27 = .ok (.getfield 10, 3) := by decide +kernel
theorem dX11_isOf_30 : decode cX11_isOf 30 = .ok (.getfield 117, 3) := by decide +kernel
theorem dX11_isOf_33 : decode cX11_isOf 33 = .ok (.iload_n 1, 1) := by decide +kernel
theorem dX11_isOf_34 : decode cX11_isOf 34 = .ok (.iload_n 2, 1) := by decide +kernel
theorem dX11_isOf_35 : decode cX11_isOf 35 = .ok (.invokevirtual 129, 3) := by decide +kernel
theorem dX11_isOf_38 : decode cX11_isOf 38 = .ok (.ifCond .eq 7, 3) := by decide +kernel
theorem dX11_isOf_41 : decode cX11_isOf 41 = .ok (.iconst 1, 1) := by decide +kernel
theorem dX11_isOf_42 : decode cX11_isOf 42 = .ok (.goto 4, 3) := by decide +kernel
theorem dX11_isOf_45 : decode cX11_isOf 45 = .ok (.iconst 0, 1) := by decide +kernel
theorem dX11_isOf_46 : decode cX11_isOf 46 = .ok (.ireturn, 1) := by decide +kernel
theorem dX11_payers_0 : decode cX11_payers 0 = .ok (.aload_n 0, 1) := by decide +kernel
theorem dX11_payers_1 : decode cX11_payers 1 = .ok (.getfield 10, 3) := by decide +kernel
theorem dX11_payers_4 : decode cX11_payers 4 = .ok (.getfield 117, 3) := by decide +kernel
theorem dX11_payers_7 : decode cX11_payers 7 = .ok (.iload_n 1, 1) := by decide +kernel
theorem dX11_payers_8 : decode cX11_payers 8 = .ok (.invokevirtual 128, 3) := by decide +kernel
theorem dX11_payers_11 : decode cX11_payers 11 = .ok (.ifCond .eq 11, 3) := by decide +kernel
theorem dX11_payers_14 : decode cX11_payers 14 = .ok (.aload_n 0, 1) := by decide +kernel
theorem dX11_payers_15 : decode cX11_payers 15 = .ok (.iload_n 2, 1) := by decide +kernel
theorem dX11_payers_16 : decode cX11_payers 16 = .ok (.invokevirtual 130, 3) := by decide +kernel
theorem dX11_payers_19 : decode cX11_payers 19 = .ok (.ifCond .ne 6, 3) := by decide +kernel
theorem dX11_payers_22 : decode cX11_payers 22 = .ok (.ldc 74, 2) := by decide +kernel
theorem dX11_payers_24 : decode cX11_payers 24 = .ok (.ireturn, 1) := by decide +kernel
theorem dX11_payers_25 : decode cX11_payers 25 = .ok (.iconst 1, 1) := by decide +kernel
theorem dX11_payers_26 : decode cX11_payers 26 = .ok (.istore 5, 2) := by decide +kernel
theorem dX11_payers_28 : decode cX11_payers 28 = .ok (.iload_n 3, 1) := by decide +kernel
theorem dX11_payers_29 : decode cX11_payers 29 = .ok (.ldc 133, 2) := by decide +kernel
theorem dX11_payers_31 : decode cX11_payers 31 = .ok (.if_icmp .eq 28, 3) := by decide +kernel
theorem dX11_payers_34 : decode cX11_payers 34 = .ok (.aload_n 0, 1) := by decide +kernel
theorem dX11_payers_35 : decode cX11_payers 35 = .ok (.iload_n 3, 1) := by decide +kernel
theorem dX11_payers_36 : decode cX11_payers 36 = .ok (.invokevirtual 130, 3) := by decide +kernel
theorem dX11_payers_39 : decode cX11_payers 39 = .ok (.ifCond .eq 14, 3) := by decide +kernel
theorem dX11_payers_42 : decode cX11_payers 42 = .ok (.iload_n 3, 1) := by decide +kernel
theorem dX11_payers_43 : decode cX11_payers 43 = .ok (.bipush 100, 2) := by decide +kernel
theorem dX11_payers_45 : decode cX11_payers 45 = .ok (.idiv, 1) := by decide +kernel
theorem dX11_payers_46 : decode cX11_payers 46 = .ok (.iload_n 2, 1) := by decide +kernel
theorem dX11_payers_47 : decode cX11_payers 47 = .ok (.bipush 100, 2) := by decide +kernel
theorem dX11_payers_49 : decode cX11_payers 49 = .ok (.idiv, 1) := by decide +kernel
theorem dX11_payers_50 : decode cX11_payers 50 = .ok (.if_icmp .ne 6, 3) := by decide +kernel
theorem dX11_payers_53 : decode cX11_payers 53 = .ok (.ldc 74, 2) := by decide +kernel
theorem dX11_payers_55 : decode cX11_payers 55 = .ok (.ireturn, 1) := by decide +kernel
theorem dX11_payers_56 : decode cX11_payers 56 = .ok (.iconst 2, 1) := by decide +kernel
theorem dX11_payers_57 : decode cX11_payers 57 = .ok (.istore 5, 2) := by decide +kernel
theorem dX11_payers_59 : decode cX11_payers 59 = .ok (.iload 4, 2) := by decide +kernel
theorem dX11_payers_61 : decode cX11_payers 61 = .ok (.ldc 133, 2) := by decide +kernel
theorem dX11_payers_63 : decode cX11_payers 63 = .ok (.if_icmp .eq 48, 3) := by decide +kernel
theorem dX11_payers_66 : decode cX11_payers 66 = .ok (.iload_n 3, 1) := by decide +kernel
theorem dX11_payers_67 : decode cX11_payers 67 = .ok (.ldc 133, 2) := by decide +kernel
theorem dX11_payers_69 : decode cX11_payers 69 = .ok (.if_icmp .eq 36, 3) := by decide +kernel
theorem dX11_payers_72 : decode cX11_payers 72 = .ok (.aload_n 0, 1) := by decide +kernel
theorem dX11_payers_73 : decode cX11_payers 73 = .ok (.iload 4, 2) := by decide +kernel
theorem dX11_payers_75 : decode cX11_payers 75 = .ok (.invokevirtual 130, 3) := by decide +kernel
theorem dX11_payers_78 : decode cX11_payers 78 = .ok (.ifCond .eq 27, 3) := by decide +kernel
theorem dX11_payers_81 : decode cX11_payers 81 = .ok (.iload 4, 2) := by decide +kernel
theorem dX11_payers_83 : decode cX11_payers 83 = .ok (.bipush 100, 2) := by decide +kernel
theorem dX11_payers_85 : decode cX11_payers 85 = .ok (.idiv, 1) := by decide +kernel
theorem dX11_payers_86 : decode cX11_payers 86 = .ok (.iload_n 2, 1) := by decide +kernel
theorem dX11_payers_87 : decode cX11_payers 87 = .ok (.bipush 100, 2) := by decide +kernel
theorem dX11_payers_89 : decode cX11_payers 89 = .ok (.idiv, 1) := by decide +kernel
theorem dX11_payers_90 : decode cX11_payers 90 = .ok (.if_icmp .eq 15, 3) := by decide +kernel
theorem dX11_payers_93 : decode cX11_payers 93 = .ok (.iload 4, 2) := by decide +kernel
theorem dX11_payers_95 : decode cX11_payers 95 = .ok (.bipush 100, 2) := by decide +kernel
theorem dX11_payers_97 : decode cX11_payers 97 = .ok (.idiv, 1) := by decide +kernel
theorem dX11_payers_98 : decode cX11_payers 98 = .ok (.iload_n 3, 1) := by decide +kernel
theorem dX11_payers_99 : decode cX11_payers 99 = .ok (.bipush 100, 2) := by decide +kernel
theorem dX11_payers_101 : decode cX11_payers 101 = .ok (.idiv, 1) := by decide +kernel
theorem dX11_payers_102 : decode cX11_payers 102 = .ok (.if_icmp .ne 6, 3) := by decide +kernel
theorem dX11_payers_105 : decode cX11_payers 105 = .ok (.ldc 74, 2) := by decide +kernel
theorem dX11_payers_107 : decode cX11_payers 107 = .ok (.ireturn, 1) := by decide +kernel
theorem dX11_payers_108 : decode cX11_payers 108 = .ok (.iconst 3, 1) := by decide +kernel
theorem dX11_payers_109 : decode cX11_payers 109 = .ok (.istore 5, 2) := by decide +kernel
theorem dX11_payers_111 : decode cX11_payers 111 = .ok (.aload_n 0, 1) := by decide +kernel
theorem dX11_payers_112 : decode cX11_payers 112 = .ok (.getfield 10, 3) := by decide +kernel
theorem dX11_payers_115 : decode cX11_payers 115 = .ok (.getfield 134, 3) := by decide +kernel
theorem dX11_payers_118 : decode cX11_payers 118 = .ok (.iload_n 1, 1) := by decide +kernel
theorem dX11_payers_119 : decode cX11_payers 119 = .ok (.invokevirtual 138, 3) := by decide +kernel
theorem dX11_payers_122 : decode cX11_payers 122 = .ok (.ifCond .eq 6, 3) := by decide +kernel
theorem dX11_payers_125 : decode cX11_payers 125 = .ok (.ldc 143, 2) := by decide +kernel
theorem dX11_payers_127 : decode cX11_payers 127 = .ok (.ireturn, 1) := by decide +kernel
theorem dX11_payers_128 : decode cX11_payers 128 = .ok (.aload_n 0, 1) := by decide +kernel
theorem dX11_payers_129 : decode cX11_payers 129 = .ok (.getfield 10, 3) := by decide +kernel
theorem dX11_payers_132 : decode cX11_payers 132 = .ok (.getfield 117, 3) := by decide +kernel
theorem dX11_payers_135 : decode cX11_payers 135 = .ok (.iload_n 1, 1) := by decide +kernel
theorem dX11_payers_136 : decode cX11_payers 136 = .ok (.iconst 0, 1) := by decide +kernel
theorem dX11_payers_137 : decode cX11_payers 137 = .ok (.iload_n 2, 1) := by decide +kernel
theorem dX11_payers_138 : decode cX11_payers 138 = .ok (.invokevirtual 144, 3) := by decide +kernel
theorem dX11_payers_141 : decode cX11_payers 141 = .ok (.iload 5, 2) := by decide +kernel
theorem dX11_payers_143 : decode cX11_payers 143 = .ok (.iconst 1, 1) := by decide +kernel
theorem dX11_payers_144 : decode cX11_payers 144 = .ok (.if_icmp .le 16, 3) := by decide +kernel
theorem dX11_payers_147 : decode cX11_payers 147 = .ok (.aload_n 0, 1) := by decide +kernel
theorem dX11_payers_148 : decode cX11_payers 148 = .ok (.getfield 10, 3) := by decide +kernel
theorem dX11_payers_151 : decode cX11_payers 151 = .ok (.getfield 117, 3) := by decide +kernel
theorem dX11_payers_154 : decode cX11_payers 154 = .ok (.iload_n 1, 1) := by decide +kernel
theorem dX11_payers_155 : decode cX11_payers 155 = .ok (.iconst 1, 1) := by decide +kernel
theorem dX11_payers_156 : decode cX11_payers 156 = .ok (.iload_n 3, 1) := by decide +kernel
theorem dX11_payers_157 : decode cX11_payers 157 = .ok (.invokevirtual 144, 3) := by decide +kernel
theorem dX11_payers_160 : decode cX11_payers 160 = .ok (.iload 5, 2) := by decide +kernel
theorem dX11_payers_162 : decode cX11_payers 162 = .ok (.iconst 2, 1) := by decide +kernel
theorem dX11_payers_163 : decode cX11_payers 163 = .ok (.if_icmp .le 17, 3) := by decide +kernel
theorem dX11_payers_166 : decode cX11_payers 166 = .ok (.aload_n 0, 1) := by decide +kernel
theorem dX11_payers_167 : decode cX11_payers 167 = .ok (.getfield 10, 3) := by decide +kernel
theorem dX11_payers_170 : decode cX11_payers 170 = .ok (.getfield 117, 3) := by decide +kernel
theorem dX11_payers_173 : decode cX11_payers 173 = .ok (.iload_n 1, 1) := by decide +kernel
theorem dX11_payers_174 : decode cX11_payers 174 = .ok (.iconst 2, 1) := by decide +kernel
theorem dX11_payers_175 : decode cX11_payers 175 = .ok (.iload 4, 2) := by decide +kernel
theorem dX11_payers_177 : decode cX11_payers 177 = .ok (.invokevirtual 144, 3) := by decide +kernel
theorem dX11_payers_180 : decode cX11_payers 180 = .ok (.aload_n 0, 1) := by decide +kernel
theorem dX11_payers_181 : decode cX11_payers 181 = .ok (.getfield 10, 3) := by decide +kernel
theorem dX11_payers_184 : decode cX11_payers 184 = .ok (.getfield 117, 3) := by decide +kernel
theorem dX11_payers_187 : decode cX11_payers 187 = .ok (.getfield 148, 3) := by decide +kernel
theorem dX11_payers_190 : decode cX11_payers 190 = .ok (.iload_n 1, 1) := by decide +kernel
theorem dX11_payers_191 : decode cX11_payers 191 = .ok (.iload 5, 2) := by decide +kernel
theorem dX11_payers_193 : decode cX11_payers 193 = .ok (.iastore, 1) := by decide +kernel
theorem dX11_payers_194 : decode cX11_payers 194 = .ok (.iload 5, 2) := by decide +kernel
theorem dX11_payers_196 : decode cX11_payers 196 = .ok (.ireturn, 1) := by decide +kernel
theorem dX11_wall_0 : decode cX11_wall 0 = .ok (.aload_n 0, 1) := by decide +kernel
theorem dX11_wall_1 : decode cX11_wall 1 = .ok (.getfield 10, 3) := by decide +kernel
theorem dX11_wall_4 : decode cX11_wall 4 = .ok (.getfield 75, 3) := by decide +kernel
theorem dX11_wall_7 : decode cX11_wall 7 = .ok (.iload_n 1, 1) := by decide +kernel
theorem dX11_wall_8 : decode cX11_wall 8 = .ok (.invokevirtual 94, 3) := by decide +kernel
theorem dX11_wall_11 : decode cX11_wall 11 = .ok (.ifCond .eq 26, 3) := by decide +kernel
theorem dX11_wall_14 : decode cX11_wall 14 = .ok (.aload_n 0, 1) := by decide +kernel
theorem dX11_wall_15 : decode cX11_wall 15 = .ok (.getfield 10, 3) := by decide +kernel
theorem dX11_wall_18 : decode cX11_wall 18 = .ok (.getfield 117, 3) := by decide +kernel
theorem dX11_wall_21 : decode cX11_wall 21 = .ok (.iload_n 2, 1) := by decide +kernel
theorem dX11_wall_22 : decode cX11_wall 22 = .ok (.invokevirtual 128, 3) := by decide +kernel
theorem dX11_wall_25 : decode cX11_wall 25 = .ok (.ifCond .eq 12, 3) := by decide +kernel
theorem dX11_wall_28 : decode cX11_wall 28 = .ok (.iload_n 3, 1) := by decide +kernel
theorem dX11_wall_29 : decode cX11_wall 29 = .ok (.iconst 0, 1) := by decide +kernel
theorem dX11_wall_30 : decode cX11_wall 30 = .ok (.iconst 1, 1) := by decide +kernel
theorem dX11_wall_31 : decode cX11_wall 31 = .ok (.invokestatic 70, 3) := by decide +kernel
theorem dX11_wall_34 : decode cX11_wall 34 = .ok (.ifCond .ne 6, 3) := by decide +kernel
theorem dX11_wall_37 : decode cX11_wall 37 = .ok (.ldc 74, 2) := by decide +kernel
theorem dX11_wall_39 : decode cX11_wall 39 = .ok (.ireturn, 1) := by decide +kernel
theorem dX11_wall_40 : decode cX11_wall 40 = .ok (.iload_n 2, 1) := by decide +kernel
theorem dX11_wall_41 : decode cX11_wall 41 = .ok (.bipush 8, 2) := by decide +kernel
theorem dX11_wall_43 : decode cX11_wall 43 = .ok (.imul, 1) := by decide +kernel
theorem dX11_wall_44 : decode cX11_wall 44 = .ok (.iload_n 1, 1) := by decide +kernel
theorem dX11_wall_45 : decode cX11_wall 45 = .ok (.iadd, 1) := by decide +kernel
theorem dX11_wall_46 : decode cX11_wall 46 = .ok (.istore 4, 2) := by decide +kernel
theorem dX11_wall_48 : decode cX11_wall 48 = .ok (.aload_n 0, 1) := by decide +kernel
theorem dX11_wall_49 : decode cX11_wall 49 = .ok (.getfield 10, 3) := by decide +kernel
theorem dX11_wall_52 : decode cX11_wall 52 = .ok (.getfield 117, 3) := by decide +kernel
theorem dX11_wall_55 : decode cX11_wall 55 = .ok (.getfield 151, 3) := by decide +kernel
theorem dX11_wall_58 : decode cX11_wall 58 = .ok (.iload 4, 2) := by decide +kernel
theorem dX11_wall_60 : decode cX11_wall 60 = .ok (.iaload, 1) := by decide +kernel
theorem dX11_wall_61 : decode cX11_wall 61 = .ok (.istore 5, 2) := by decide +kernel
theorem dX11_wall_63 : decode cX11_wall 63 = .ok (.aload_n 0, 1) := by decide +kernel
theorem dX11_wall_64 : decode cX11_wall 64 = .ok (.getfield 10, 3) := by decide +kernel
theorem dX11_wall_67 : decode cX11_wall 67 = .ok (.getfield 117, 3) := by decide +kernel
theorem dX11_wall_70 : decode cX11_wall 70 = .ok (.getfield 151, 3) := by decide +kernel
theorem dX11_wall_73 : decode cX11_wall 73 = .ok (.iload 4, 2) := by decide +kernel
theorem dX11_wall_75 : decode cX11_wall 75 = .ok (.iload_n 3, 1) := by decide +kernel
theorem dX11_wall_76 : decode cX11_wall 76 = .ok (.iastore, 1) := by decide +kernel
theorem dX11_wall_77 : decode cX11_wall 77 = .ok (.iload 5, 2) := by decide +kernel
theorem dX11_wall_79 : decode cX11_wall 79 = .ok (.ireturn, 1) := by decide +kernel
theorem dX11_days_0 : decode cX11_days 0 = .ok (.iload_n 1, 1) := by decide +kernel
theorem dX11_days_1 : decode cX11_days 1 = .ok (.iconst 1, 1) := by decide +kernel
theorem dX11_days_2 : decode cX11_days 2 = .ok (.bipush 100, 2) := by decide +kernel
theorem dX11_days_4 : decode cX11_days 4 = .ok (.invokestatic 70, 3) := by decide +kernel
theorem dX11_days_7 : decode cX11_days 7 = .ok (.ifCond .eq 18, 3) := by decide +kernel
theorem dX11_days_10 : decode cX11_days 10 = .ok (.aload_n 0, 1) := by decide +kernel
theorem dX11_days_11 : decode cX11_days 11 = .ok (.getfield 10, 3) := by decide +kernel
theorem dX11_days_14 : decode cX11_days 14 = .ok (.getfield 154, 3) := by decide +kernel
theorem dX11_days_17 : decode cX11_days 17 = .ok (.iload_n 1, 1) := by decide +kernel
theorem dX11_days_18 : decode cX11_days 18 = .ok (.iadd, 1) := by decide +kernel
theorem dX11_days_19 : decode cX11_days 19 = .ok (.sipush 900, 3) := by decide +kernel
theorem dX11_days_22 : decode cX11_days 22 = .ok (.if_icmp .le 6, 3) := by decide +kernel
theorem dX11_days_25 : decode cX11_days 25 = .ok (.ldc 74, 2) := by decide +kernel
theorem dX11_days_27 : decode cX11_days 27 = .ok (.ireturn, 1) := by decide +kernel
theorem dX11_days_28 : decode cX11_days 28 = .ok (.aload_n 0, 1) := by decide +kernel
theorem dX11_days_29 : decode cX11_days 29 = .ok (.getfield 10, 3) := by decide +kernel
theorem dX11_days_32 : decode cX11_days 32 = .ok (.dup, 1) := by decide +kernel
theorem dX11_days_33 : decode cX11_days 33 = .ok (.getfield 154, 3) := by decide +kernel
theorem dX11_days_36 : decode cX11_days 36 = .ok (.iload_n 1, 1) := by decide +kernel
theorem dX11_days_37 : decode cX11_days 37 = .ok (.iadd, 1) := by decide +kernel
theorem dX11_days_38 : decode cX11_days 38 = .ok (.putfield 154, 3) := by decide +kernel
theorem dX11_days_41 : decode cX11_days 41 = .ok (.aload_n 0, 1) := by decide +kernel
theorem dX11_days_42 : decode cX11_days 42 = .ok (.getfield 10, 3) := by decide +kernel
theorem dX11_days_45 : decode cX11_days 45 = .ok (.getfield 154, 3) := by decide +kernel
theorem dX11_days_48 : decode cX11_days 48 = .ok (.ireturn, 1) := by decide +kernel
theorem dX11_rule_0 : decode cX11_rule 0 = .ok (.iload_n 1, 1) := by decide +kernel
theorem dX11_rule_1 : decode cX11_rule 1 = .ok (.iconst 0, 1) := by decide +kernel
theorem dX11_rule_2 : decode cX11_rule 2 = .ok (.iconst 2, 1) := by decide +kernel
theorem dX11_rule_3 : decode cX11_rule 3 = .ok (.invokestatic 70, 3) := by decide +kernel
theorem dX11_rule_6 : decode cX11_rule 6 = .ok (.ifCond .eq 15, 3) := by decide +kernel
theorem dX11_rule_9 : decode cX11_rule 9 = .ok (.iload_n 2, 1) := by decide +kernel
theorem dX11_rule_10 : decode cX11_rule 10 = .ok (.iconst 0, 1) := by decide +kernel
theorem dX11_rule_11 : decode cX11_rule 11 = .ok (.iload_n 1, 1) := by decide +kernel
theorem dX11_rule_12 : decode cX11_rule 12 = .ok (.invokestatic 157, 3) := by decide +kernel
theorem dX11_rule_15 : decode cX11_rule 15 = .ok (.invokestatic 70, 3) := by decide +kernel
theorem dX11_rule_18 : decode cX11_rule 18 = .ok (.ifCond .ne 6, 3) := by decide +kernel
theorem dX11_rule_21 : decode cX11_rule 21 = .ok (.ldc 74, 2) := by decide +kernel
theorem dX11_rule_23 : decode cX11_rule 23 = .ok (.ireturn, 1) := by decide +kernel
theorem dX11_rule_24 : decode cX11_rule 24 = .ok (.aload_n 0, 1) := by decide +kernel
theorem dX11_rule_25 : decode cX11_rule 25 = .ok (.getfield 10, 3) := by decide +kernel
theorem dX11_rule_28 : decode cX11_rule 28 = .ok (.getfield 161, 3) := by decide +kernel
theorem dX11_rule_31 : decode cX11_rule 31 = .ok (.iload_n 1, 1) := by decide +kernel
theorem dX11_rule_32 : decode cX11_rule 32 = .ok (.iaload, 1) := by decide +kernel
theorem dX11_rule_33 : decode cX11_rule 33 = .ok (.istore_n 3, 1) := by decide +kernel
theorem dX11_rule_34 : decode cX11_rule 34 = .ok (.aload_n 0, 1) := by decide +kernel
theorem dX11_rule_35 : decode cX11_rule 35 = .ok (.getfield 10, 3) := by decide +kernel
theorem dX11_rule_38 : decode cX11_rule 38 = .ok (.getfield 161, 3) := by decide +kernel
theorem dX11_rule_41 : decode cX11_rule 41 = .ok (.iload_n 1, 1) := by decide +kernel
theorem dX11_rule_42 : decode cX11_rule 42 = .ok (.iload_n 2, 1) := by decide +kernel
theorem dX11_rule_43 : decode cX11_rule 43 = .ok (.iastore, 1) := by decide +kernel
theorem dX11_rule_44 : decode cX11_rule 44 = .ok (.iload_n 3, 1) := by decide +kernel
theorem dX11_rule_45 : decode cX11_rule 45 = .ok (.ireturn, 1) := by decide +kernel
theorem dX11_entry_0 : decode cX11_entry 0 = .ok (.aload_n 0, 1) := by decide +kernel
theorem dX11_entry_1 : decode cX11_entry 1 = .ok (.getfield 10, 3) := by decide +kernel
theorem dX11_entry_4 : decode cX11_entry 4 = .ok (.getfield 75, 3) := by decide +kernel
theorem dX11_entry_7 : decode cX11_entry 7 = .ok (.iload_n 1, 1) := by decide +kernel
theorem dX11_entry_8 : decode cX11_entry 8 = .ok (.invokevirtual 94, 3) := by decide +kernel
theorem dX11_entry_11 : decode cX11_entry 11 = .ok (.ifCond .eq 43, 3) := by decide +kernel
theorem dX11_entry_14 : decode cX11_entry 14 = .ok (.aload_n 0, 1) := by decide +kernel
theorem dX11_entry_15 : decode cX11_entry 15 = .ok (.getfield 10, 3) := by decide +kernel
theorem dX11_entry_18 : decode cX11_entry 18 = .ok (.getfield 117, 3) := by decide +kernel
theorem dX11_entry_21 : decode cX11_entry 21 = .ok (.iload_n 2, 1) := by decide +kernel
theorem dX11_entry_22 : decode cX11_entry 22 = .ok (.invokevirtual 128, 3) := by decide +kernel
theorem dX11_entry_25 : decode cX11_entry 25 = .ok (.ifCond .eq 29, 3) := by decide +kernel
theorem dX11_entry_28 : decode cX11_entry 28 = .ok (.aload_n 0, 1) := by decide +kernel
theorem dX11_entry_29 : decode cX11_entry 29 = .ok (.iload_n 3, 1) := by decide +kernel
theorem dX11_entry_30 : decode cX11_entry 30 = .ok (.invokevirtual 164, 3) := by decide +kernel
theorem dX11_entry_33 : decode cX11_entry 33 = .ok (.ifCond .eq 21, 3) := by decide +kernel
theorem dX11_entry_36 : decode cX11_entry 36 = .ok (.iload 4, 2) := by decide +kernel
theorem dX11_entry_38 : decode cX11_entry 38 = .ok (.invokestatic 167, 3) := by decide +kernel
theorem dX11_entry_41 : decode cX11_entry 41 = .ok (.ifCond .eq 13, 3) := by decide +kernel
theorem dX11_entry_44 : decode cX11_entry 44 = .ok (.iload 5, 2) := by decide +kernel
theorem dX11_entry_46 : decode cX11_entry 46 = .ok (.iconst 0, 1) := by decide +kernel
theorem dX11_entry_47 : decode cX11_entry 47 = .ok (.iconst 5, 1) := by decide +kernel
theorem dX11_entry_48 : decode cX11_entry 48 = .ok (.invokestatic 70, 3) := by decide +kernel
theorem dX11_entry_51 : decode cX11_entry 51 = .ok (.ifCond .ne 6, 3) := by decide +kernel
theorem dX11_entry_54 : decode cX11_entry 54 = .ok (.ldc 74, 2) := by decide +kernel
theorem dX11_entry_56 : decode cX11_entry 56 = .ok (.ireturn, 1) := by decide +kernel
theorem dX11_entry_57 : decode cX11_entry 57 = .ok (.aload_n 0, 1) := by decide +kernel
theorem dX11_entry_58 : decode cX11_entry 58 = .ok (.getfield 10, 3) := by decide +kernel
theorem dX11_entry_61 : decode cX11_entry 61 = .ok (.getfield 117, 3) := by decide +kernel
theorem dX11_entry_64 : decode cX11_entry 64 = .ok (.iload_n 1, 1) := by decide +kernel
theorem dX11_entry_65 : decode cX11_entry 65 = .ok (.iload_n 2, 1) := by decide +kernel
theorem dX11_entry_66 : decode cX11_entry 66 = .ok (.invokevirtual 170, 3) := by decide +kernel
theorem dX11_entry_69 : decode cX11_entry 69 = .ok (.ifCond .eq 6, 3) := by decide +kernel
theorem dX11_entry_72 : decode cX11_entry 72 = .ok (.ldc 143, 2) := by decide +kernel
theorem dX11_entry_74 : decode cX11_entry 74 = .ok (.ireturn, 1) := by decide +kernel
theorem dX11_entry_75 : decode cX11_entry 75 = .ok (.aload_n 0, 1) := by decide +kernel
theorem dX11_entry_76 : decode cX11_entry 76 = .ok (.getfield 10, 3) := by decide +kernel
theorem dX11_entry_79 : decode cX11_entry 79 = .ok (.getfield 173, 3) := by decide +kernel
theorem dX11_entry_82 : decode cX11_entry 82 = .ok (.astore 6, 2) := by decide +kernel
theorem dX11_entry_84 : decode cX11_entry 84 = .ok (.aload 6, 2) := by decide +kernel
theorem dX11_entry_86 : decode cX11_entry 86 = .ok (.getfield 177, 3) := by decide +kernel
theorem dX11_entry_89 : decode cX11_entry 89 = .ok (.bipush 90, 2) := by decide +kernel
theorem dX11_entry_91 : decode cX11_entry 91 = .ok (.if_icmp .lt 6, 3) := by decide +kernel
theorem dX11_entry_94 : decode cX11_entry 94 = .ok (.ldc 84, 2) := by decide +kernel
theorem dX11_entry_96 : decode cX11_entry 96 = .ok (.ireturn, 1) := by decide +kernel
theorem dX11_entry_97 : decode cX11_entry 97 = .ok (.aload 6, 2) := by decide +kernel
theorem dX11_entry_99 : decode cX11_entry 99 = .ok (.getfield 177, 3) := by decide +kernel
theorem dX11_entry_102 : decode cX11_entry 102 = .ok (.istore 7, 2) := by decide +kernel
theorem dX11_entry_104 : decode cX11_entry 104 = .ok (.aload 6, 2) := by decide +kernel
theorem dX11_entry_106 : decode cX11_entry 106 = .ok (.getfield 180, 3) := by decide +kernel
theorem dX11_entry_109 : decode cX11_entry 109 = .ok (.iload 7, 2) := by decide +kernel
theorem dX11_entry_111 : decode cX11_entry 111 = .ok (.iload_n 1, 1) := by decide +kernel
theorem dX11_entry_112 : decode cX11_entry 112 = .ok (.iastore, 1) := by decide +kernel
theorem dX11_entry_113 : decode cX11_entry 113 = .ok (.aload 6, 2) := by decide +kernel
theorem dX11_entry_115 : decode cX11_entry 115 = .ok (.getfield 183, 3) := by decide +kernel
theorem dX11_entry_118 : decode cX11_entry 118 = .ok (.iload 7, 2) := by decide +kernel
theorem dX11_entry_120 : decode cX11_entry 120 = .ok (.iload_n 2, 1) := by decide +kernel
theorem dX11_entry_121 : decode cX11_entry 121 = .ok (.iastore, 1) := by decide +kernel
theorem dX11_entry_122 : decode cX11_entry 122 = .ok (.aload 6, 2) := by decide +kernel
theorem dX11_entry_124 : decode cX11_entry 124 = .ok (.getfield 185, 3) := by decide +kernel
theorem dX11_entry_127 : decode cX11_entry 127 = .ok (.iload 7, 2) := by decide +kernel
theorem dX11_entry_129 : decode cX11_entry 129 = .ok (.iload_n 3, 1) := by decide +kernel
theorem dX11_entry_130 : decode cX11_entry 130 = .ok (.iastore, 1) := by decide +kernel
theorem dX11_entry_131 : decode cX11_entry 131 = .ok (.aload 6, 2) := by decide +kernel
theorem dX11_entry_133 : decode cX11_entry 133 = .ok (.getfield 188, 3) := by decide +kernel
theorem dX11_entry_136 : decode cX11_entry 136 = .ok (.iload 7, 2) := by decide +kernel
theorem dX11_entry_138 : decode cX11_entry 138 = .ok (.iload 4, 2) := by decide +kernel
theorem dX11_entry_140 : decode cX11_entry 140 = .ok (.sipush 1000, 3) := by decide +kernel
theorem dX11_entry_143 : decode cX11_entry 143 = .ok (.idiv, 1) := by decide +kernel
theorem dX11_entry_144 : decode cX11_entry 144 = .ok (.iastore, 1) := by decide +kernel
theorem dX11_entry_145 : decode cX11_entry 145 = .ok (.aload 6, 2) := by decide +kernel
theorem dX11_entry_147 : decode cX11_entry 147 = .ok (.getfield 191, 3) := by decide +kernel
theorem dX11_entry_150 : decode cX11_entry 150 = .ok (.iload 7, 2) := by decide +kernel
theorem dX11_entry_152 : decode cX11_entry 152 = .ok (.iload 4, 2) := by decide +kernel
theorem dX11_entry_154 : decode cX11_entry 154 = .ok (.sipush 1000, 3) := by decide +kernel
theorem dX11_entry_157 : decode cX11_entry 157 = .ok (.irem, 1) := by decide +kernel
theorem dX11_entry_158 : decode cX11_entry 158 = .ok (.iastore, 1) := by decide +kernel
theorem dX11_entry_159 : decode cX11_entry 159 = .ok (.aload 6, 2) := by decide +kernel
theorem dX11_entry_161 : decode cX11_entry 161 = .ok (.getfield 194, 3) := by decide +kernel
theorem dX11_entry_164 : decode cX11_entry 164 = .ok (.iload 7, 2) := by decide +kernel
theorem dX11_entry_166 : decode cX11_entry 166 = .ok (.iload 5, 2) := by decide +kernel
theorem dX11_entry_168 : decode cX11_entry 168 = .ok (.iastore, 1) := by decide +kernel
theorem dX11_entry_169 : decode cX11_entry 169 = .ok (.aload 6, 2) := by decide +kernel
theorem dX11_entry_171 : decode cX11_entry 171 = .ok (.getfield 197, 3) := by decide +kernel
theorem dX11_entry_174 : decode cX11_entry 174 = .ok (.iload 7, 2) := by decide +kernel
theorem dX11_entry_176 : decode cX11_entry 176 = .ok (.aload_n 0, 1) := by decide +kernel
theorem dX11_entry_177 : decode cX11_entry 177 = .ok (.getfield 10, 3) := by decide +kernel
theorem dX11_entry_180 : decode cX11_entry 180 = .ok (.getfield 154, 3) := by decide +kernel
theorem dX11_entry_183 : decode cX11_entry 183 = .ok (.iastore, 1) := by decide +kernel
theorem dX11_entry_184 : decode cX11_entry 184 = .ok (.aload 6, 2) := by decide +kernel
theorem dX11_entry_186 : decode cX11_entry 186 = .ok (.getfield 200, 3) := by decide +kernel
theorem dX11_entry_189 : decode cX11_entry 189 = .ok (.iload 7, 2) := by decide +kernel
theorem dX11_entry_191 : decode cX11_entry 191 = .ok (.ldc 133, 2) := by decide +kernel
theorem dX11_entry_193 : decode cX11_entry 193 = .ok (.iastore, 1) := by decide +kernel
theorem dX11_entry_194 : decode cX11_entry 194 = .ok (.aload 6, 2) := by decide +kernel
theorem dX11_entry_196 : decode cX11_entry 196 = .ok (.getfield 203, 3) := by decide +kernel
theorem dX11_entry_199 : decode cX11_entry 199 = .ok (.iload 7, 2) := by decide +kernel
theorem dX11_entry_201 : decode cX11_entry 201 = .ok (.ldc 133, 2) := by decide +kernel
theorem dX11_entry_203 : decode cX11_entry 203 = .ok (.iastore, 1) := by decide +kernel
theorem dX11_entry_204 : decode cX11_entry 204 = .ok (.aload 6, 2) := by decide +kernel
theorem dX11_entry_206 : decode cX11_entry 206 = .ok (.getfield 205, 3) := by decide +kernel
theorem dX11_entry_209 : decode cX11_entry 209 = .ok (.iload 7, 2) := by decide +kernel
theorem dX11_entry_211 : decode cX11_entry 211 = .ok (.iconst 0, 1) := by decide +kernel
theorem dX11_entry_212 : decode cX11_entry 212 = .ok (.iastore, 1) := by decide +kernel
theorem dX11_entry_213 : decode cX11_entry 213 = .ok (.aload 6, 2) := by decide +kernel
theorem dX11_entry_215 : decode cX11_entry 215 = .ok (.getfield 208, 3) := by decide +kernel
theorem dX11_entry_218 : decode cX11_entry 218 = .ok (.iload 7, 2) := by decide +kernel
theorem dX11_entry_220 : decode cX11_entry 220 = .ok (.ldc 133, 2) := by decide +kernel
theorem dX11_entry_222 : decode cX11_entry 222 = .ok (.iastore, 1) := by decide +kernel
theorem dX11_entry_223 : decode cX11_entry 223 = .ok (.aload 6, 2) := by decide +kernel
theorem dX11_entry_225 : decode cX11_entry 225 = .ok (.iload 7, 2) := by decide +kernel
theorem dX11_entry_227 : decode cX11_entry 227 = .ok (.iconst 1, 1) := by decide +kernel
theorem dX11_entry_228 : decode cX11_entry 228 = .ok (.iadd, 1) := by decide +kernel
theorem dX11_entry_229 : decode cX11_entry 229 = .ok (.putfield 177, 3) := by decide +kernel
theorem dX11_entry_232 : decode cX11_entry 232 = .ok (.iload 7, 2) := by decide +kernel
theorem dX11_entry_234 : decode cX11_entry 234 = .ok (.ireturn, 1) := by decide +kernel
theorem dX11_withdraw_0 : decode cX11_withdraw 0 = .ok (.aload_n 0, 1) := by decide +kernel
theorem dX11_withdraw_1 : decode cX11_withdraw 1 = .ok (.getfield 10, 3) := by decide +kernel
theorem dX11_withdraw_4 : decode cX11_withdraw 4 = .ok (.getfield 173, 3) := by decide +kernel
theorem dX11_withdraw_7 : decode cX11_withdraw 7 = .ok (.astore_n 2, 1) := by decide +kernel
theorem dX11_withdraw_8 : decode cX11_withdraw 8 = .ok (.aload_n 2, 1) := by decide +kernel
theorem dX11_withdraw_9 : decode cX11_withdraw 9 = .ok (.iload_n 1, 1) := by decide +kernel
theorem dX11_withdraw_10 : decode cX11_withdraw 10 = .ok (.invokevirtual 211, 3) := by decide +kernel
theorem dX11_withdraw_13 : decode cX11_withdraw 13 = .ok (.ifCond .ne 6, 3) := by decide +kernel
theorem dX11_withdraw_16 : decode cX11_withdraw 16 = .ok (.ldc 74, 2) := by decide +kernel
theorem dX11_withdraw_18 : decode cX11_withdraw 18 = .ok (.ireturn, 1) := by decide +kernel
theorem dX11_withdraw_19 : decode cX11_withdraw 19 = .ok (.aload_n 2, 1) := by decide +kernel
theorem dX11_withdraw_20 : decode cX11_withdraw 20 = .ok (.getfield 200, 3) := by decide +kernel
theorem dX11_withdraw_23 : decode cX11_withdraw 23 = .ok (.iload_n 1, 1) := by decide +kernel
theorem dX11_withdraw_24 : decode cX11_withdraw 24 = .ok (.iaload, 1) := by decide +kernel
theorem dX11_withdraw_25 : decode cX11_withdraw 25 = .ok (.ldc 133, 2) := by decide +kernel
theorem dX11_withdraw_27 : decode cX11_withdraw 27 = .ok (.if_icmp .ne 14, 3) := by decide +kernel
theorem dX11_withdraw_30 : decode cX11_withdraw 30 = .ok (.aload_n 2, 1) := by decide +kernel
theorem dX11_withdraw_31 : decode cX11_withdraw 31 = .ok (.getfield 203, 3) := by decide +kernel
theorem dX11_withdraw_34 : decode cX11_withdraw 34 = .ok (.iload_n 1, 1) := by decide +kernel
theorem dX11_withdraw_35 : decode cX11_withdraw 35 = .ok (.iaload, 1) := by decide +kernel
theorem dX11_withdraw_36 : decode cX11_withdraw 36 = .ok (.ldc 133, 2) := by decide +kernel
theorem dX11_withdraw_38 : decode cX11_withdraw 38 = .ok (.if_icmp .eq 6, 3) := by decide +kernel
theorem dX11_withdraw_41 : decode cX11_withdraw 41 = .ok (.ldc 143, 2) := by decide +kernel
theorem dX11_withdraw_43 : decode cX11_withdraw 43 = .ok (.ireturn, 1) := by decide +kernel
theorem dX11_withdraw_44 : decode cX11_withdraw 44 = .ok (.aload_n 2, 1) := by decide +kernel
theorem dX11_withdraw_45 : decode cX11_withdraw 45 = .ok (.getfield 200, 3) := by decide +kernel
theorem dX11_withdraw_48 : decode cX11_withdraw 48 = .ok (.iload_n 1, 1) := by decide +kernel
theorem dX11_withdraw_49 : decode cX11_withdraw 49 = .ok (.aload_n 0, 1) := by decide +kernel
theorem dX11_withdraw_50 : decode cX11_withdraw 50 = .ok (.getfield 10, 3) := by decide +kernel
theorem dX11_withdraw_53 : decode cX11_withdraw 53 = .ok (.getfield 154, 3) := by decide +kernel
theorem dX11_withdraw_56 : decode cX11_withdraw 56 = .ok (.iastore, 1) := by decide +kernel
theorem dX11_withdraw_57 : decode cX11_withdraw 57 = .ok (.iconst 1, 1) := by decide +kernel
theorem dX11_withdraw_58 : decode cX11_withdraw 58 = .ok (.ireturn, 1) := by decide +kernel
theorem dX11_door_0 : decode cX11_door 0 = .ok (.aload_n 0, 1) := by decide +kernel
theorem dX11_door_1 : decode cX11_door 1 = .ok (.getfield 10, 3) := by decide +kernel
theorem dX11_door_4 : decode cX11_door 4 = .ok (.getfield 75, 3) := by decide +kernel
theorem dX11_door_7 : decode cX11_door 7 = .ok (.iload_n 1, 1) := by decide +kernel
theorem dX11_door_8 : decode cX11_door 8 = .ok (.invokevirtual 94, 3) := by decide +kernel
theorem dX11_door_11 : decode cX11_door 11 = .ok (.ifCond .eq 18, 3) := by decide +kernel
theorem dX11_door_14 : decode cX11_door 14 = .ok (.aload_n 0, 1) := by decide +kernel
theorem dX11_door_15 : decode cX11_door 15 = .ok (.iload_n 2, 1) := by decide +kernel
theorem dX11_door_16 : decode cX11_door 16 = .ok (.invokevirtual 164, 3) := by decide +kernel
theorem dX11_door_19 : decode cX11_door 19 = .ok (.ifCond .eq 10, 3) := by decide +kernel
theorem dX11_door_22 : decode cX11_door 22 = .ok (.iload_n 3, 1) := by decide +kernel
theorem dX11_door_23 : decode cX11_door 23 = .ok (.invokestatic 167, 3) := by decide +kernel
theorem dX11_door_26 : decode cX11_door 26 = .ok (.ifCond .ne 6, 3) := by decide +kernel
theorem dX11_door_29 : decode cX11_door 29 = .ok (.ldc 74, 2) := by decide +kernel
theorem dX11_door_31 : decode cX11_door 31 = .ok (.ireturn, 1) := by decide +kernel
theorem dX11_door_32 : decode cX11_door 32 = .ok (.aload_n 0, 1) := by decide +kernel
theorem dX11_door_33 : decode cX11_door 33 = .ok (.getfield 10, 3) := by decide +kernel
theorem dX11_door_36 : decode cX11_door 36 = .ok (.getfield 212, 3) := by decide +kernel
theorem dX11_door_39 : decode cX11_door 39 = .ok (.astore 4, 2) := by decide +kernel
theorem dX11_door_41 : decode cX11_door 41 = .ok (.aload 4, 2) := by decide +kernel
theorem dX11_door_43 : decode cX11_door 43 = .ok (.getfield 216, 3) := by decide +kernel
theorem dX11_door_46 : decode cX11_door 46 = .ok (.bipush 60, 2) := by decide +kernel
theorem dX11_door_48 : decode cX11_door 48 = .ok (.if_icmp .lt 6, 3) := by decide +kernel
theorem dX11_door_51 : decode cX11_door 51 = .ok (.ldc 84, 2) := by decide +kernel
theorem dX11_door_53 : decode cX11_door 53 = .ok (.ireturn, 1) := by decide +kernel
theorem dX11_door_54 : decode cX11_door 54 = .ok (.aload 4, 2) := by decide +kernel
theorem dX11_door_56 : decode cX11_door 56 = .ok (.getfield 216, 3) := by decide +kernel
theorem dX11_door_59 : decode cX11_door 59 = .ok (.istore 5, 2) := by decide +kernel
theorem dX11_door_61 : decode cX11_door 61 = .ok (.aload 4, 2) := by decide +kernel
theorem dX11_door_63 : decode cX11_door 63 = .ok (.getfield 219, 3) := by decide +kernel
theorem dX11_door_66 : decode cX11_door 66 = .ok (.iload 5, 2) := by decide +kernel
theorem dX11_door_68 : decode cX11_door 68 = .ok (.iload_n 1, 1) := by decide +kernel
theorem dX11_door_69 : decode cX11_door 69 = .ok (.iastore, 1) := by decide +kernel
theorem dX11_door_70 : decode cX11_door 70 = .ok (.aload 4, 2) := by decide +kernel
theorem dX11_door_72 : decode cX11_door 72 = .ok (.getfield 220, 3) := by decide +kernel
theorem dX11_door_75 : decode cX11_door 75 = .ok (.iload 5, 2) := by decide +kernel
theorem dX11_door_77 : decode cX11_door 77 = .ok (.iload_n 2, 1) := by decide +kernel
theorem dX11_door_78 : decode cX11_door 78 = .ok (.iastore, 1) := by decide +kernel
theorem dX11_door_79 : decode cX11_door 79 = .ok (.aload 4, 2) := by decide +kernel
theorem dX11_door_81 : decode cX11_door 81 = .ok (.getfield 221, 3) := by decide +kernel
theorem dX11_door_84 : decode cX11_door 84 = .ok (.iload 5, 2) := by decide +kernel
theorem dX11_door_86 : decode cX11_door 86 = .ok (.iload_n 3, 1) := by decide +kernel
theorem dX11_door_87 : decode cX11_door 87 = .ok (.sipush 1000, 3) := by decide +kernel
theorem dX11_door_90 : decode cX11_door 90 = .ok (.idiv, 1) := by decide +kernel
theorem dX11_door_91 : decode cX11_door 91 = .ok (.iastore, 1) := by decide +kernel
theorem dX11_door_92 : decode cX11_door 92 = .ok (.aload 4, 2) := by decide +kernel
theorem dX11_door_94 : decode cX11_door 94 = .ok (.getfield 222, 3) := by decide +kernel
theorem dX11_door_97 : decode cX11_door 97 = .ok (.iload 5, 2) := by decide +kernel
theorem dX11_door_99 : decode cX11_door 99 = .ok (.iload_n 3, 1) := by decide +kernel
theorem dX11_door_100 : decode cX11_door 100 = .ok (.sipush 1000, 3) := by decide +kernel
theorem dX11_door_103 : decode cX11_door 103 = .ok (.irem, 1) := by decide +kernel
theorem dX11_door_104 : decode cX11_door 104 = .ok (.iastore, 1) := by decide +kernel
theorem dX11_door_105 : decode cX11_door 105 = .ok (.aload 4, 2) := by decide +kernel
theorem dX11_door_107 : decode cX11_door 107 = .ok (.getfield 223, 3) := by decide +kernel
theorem dX11_door_110 : decode cX11_door 110 = .ok (.iload 5, 2) := by decide +kernel
theorem dX11_door_112 : decode cX11_door 112 = .ok (.aload_n 0, 1) := by decide +kernel
theorem dX11_door_113 : decode cX11_door 113 = .ok (.getfield 10, 3) := by decide +kernel
theorem dX11_door_116 : decode cX11_door 116 = .ok (.getfield 154, 3) := by decide +kernel
theorem dX11_door_119 : decode cX11_door 119 = .ok (.iastore, 1) := by decide +kernel
theorem dX11_door_120 : decode cX11_door 120 = .ok (.aload 4, 2) := by decide +kernel
theorem dX11_door_122 : decode cX11_door 122 = .ok (.iload 5, 2) := by decide +kernel
theorem dX11_door_124 : decode cX11_door 124 = .ok (.iconst 1, 1) := by decide +kernel
theorem dX11_door_125 : decode cX11_door 125 = .ok (.iadd, 1) := by decide +kernel
theorem dX11_door_126 : decode cX11_door 126 = .ok (.putfield 216, 3) := by decide +kernel
theorem dX11_door_129 : decode cX11_door 129 = .ok (.aload 4, 2) := by decide +kernel
theorem dX11_door_131 : decode cX11_door 131 = .ok (.getfield 216, 3) := by decide +kernel
theorem dX11_door_134 : decode cX11_door 134 = .ok (.ireturn, 1) := by decide +kernel
theorem dX11_written_0 : decode cX11_written 0 = .ok (.aload_n 0, 1) := by decide +kernel
theorem dX11_written_1 : decode cX11_written 1 = .ok (.getfield 10, 3) := by decide +kernel
theorem dX11_written_4 : decode cX11_written 4 = .ok (.getfield 75, 3) := by decide +kernel
theorem dX11_written_7 : decode cX11_written 7 = .ok (.iload_n 1, 1) := by decide +kernel
theorem dX11_written_8 : decode cX11_written 8 = .ok (.invokevirtual 94, 3) := by decide +kernel
theorem dX11_written_11 : decode cX11_written 11 = .ok (.ifCond .eq 29, 3) := by decide +kernel
theorem dX11_written_14 : decode cX11_written 14 = .ok (.aload_n 0, 1) := by decide +kernel
theorem dX11_written_15 : decode cX11_written 15 = .ok (.iload_n 2, 1) := by decide +kernel
theorem dX11_written_16 : decode cX11_written 16 = .ok (.invokevirtual 164, 3) := by decide +kernel
theorem dX11_written_19 : decode cX11_written 19 = .ok (.ifCond .eq 21, 3) := by decide +kernel
theorem dX11_written_22 : decode cX11_written 22 = .ok (.aload_n 0, 1) := by decide +kernel
theorem dX11_written_23 : decode cX11_written 23 = .ok (.iload_n 3, 1) := by decide +kernel
theorem dX11_written_24 : decode cX11_written 24 = .ok (.invokevirtual 164, 3) := by decide +kernel
theorem dX11_written_27 : decode cX11_written 27 = .ok (.ifCond .eq 13, 3) := by decide +kernel
theorem dX11_written_30 : decode cX11_written 30 = .ok (.iload 4, 2) := by decide +kernel
theorem dX11_written_32 : decode cX11_written 32 = .ok (.iconst 0, 1) := by decide +kernel
theorem dX11_written_33 : decode cX11_written 33 = .ok (.iconst 3, 1) := by decide +kernel
theorem dX11_written_34 : decode cX11_written 34 = .ok (.invokestatic 70, 3) := by decide +kernel
theorem dX11_written_37 : decode cX11_written 37 = .ok (.ifCond .ne 6, 3) := by decide +kernel
theorem dX11_written_40 : decode cX11_written 40 = .ok (.ldc 74, 2) := by decide +kernel
theorem dX11_written_42 : decode cX11_written 42 = .ok (.ireturn, 1) := by decide +kernel
theorem dX11_written_43 : decode cX11_written 43 = .ok (.aload_n 0, 1) := by decide +kernel
theorem dX11_written_44 : decode cX11_written 44 = .ok (.getfield 61, 3) := by decide +kernel
theorem dX11_written_47 : decode cX11_written 47 = .ok (.iconst 0, 1) := by decide +kernel
theorem dX11_written_48 : decode cX11_written 48 = .ok (.invokestatic 224, 3) := by decide +kernel
theorem dX11_written_51 : decode cX11_written 51 = .ok (.aload_n 0, 1) := by decide +kernel
theorem dX11_written_52 : decode cX11_written 52 = .ok (.getfield 10, 3) := by decide +kernel
theorem dX11_written_55 : decode cX11_written 55 = .ok (.getfield 173, 3) := by decide +kernel
theorem dX11_written_58 : decode cX11_written 58 = .ok (.iload_n 1, 1) := by decide +kernel
theorem dX11_written_59 : decode cX11_written 59 = .ok (.iload_n 2, 1) := by decide +kernel
theorem dX11_written_60 : decode cX11_written 60 = .ok (.iload_n 3, 1) := by decide +kernel
theorem dX11_written_61 : decode cX11_written 61 = .ok (.aload_n 0, 1) := by decide +kernel
theorem dX11_written_62 : decode cX11_written 62 = .ok (.getfield 61, 3) := by decide +kernel
theorem dX11_written_65 : decode cX11_written 65 = .ok (.invokevirtual 230, 3) := by decide +kernel
theorem dX11_written_68 : decode cX11_written 68 = .ok (.istore 5, 2) := by decide +kernel
theorem dX11_written_70 : decode cX11_written 70 = .ok (.iload 4, 2) := by decide +kernel
theorem dX11_written_72 : decode cX11_written 72 = .ok (.tableswitch 53 0 2 #[28, 31, 48], 28) := by decide +kernel
theorem dX11_written_100 : decode cX11_written 100 = .ok (.iload 5, 2) := by decide +kernel
theorem dX11_written_102 : decode cX11_written 102 = .ok (.ireturn, 1) := by decide +kernel
theorem dX11_written_103 : decode cX11_written 103 = .ok (.iconst 0, 1) := by decide +kernel
theorem dX11_written_104 : decode cX11_written 104 = .ok (.iload 5, 2) := by decide +kernel
theorem dX11_written_106 : decode cX11_written 106 = .ok (.aload_n 0, 1) := by decide +kernel
theorem dX11_written_107 : decode cX11_written 107 = .ok (.getfield 10, 3) := by decide +kernel
theorem dX11_written_110 : decode cX11_written 110 = .ok (.getfield 161, 3) := by decide +kernel
theorem dX11_written_113 : decode cX11_written 113 = .ok (.iconst 0, 1) := by decide +kernel
theorem dX11_written_114 : decode cX11_written 114 = .ok (.iaload, 1) := by decide +kernel
theorem dX11_written_115 : decode cX11_written 115 = .ok (.isub, 1) := by decide +kernel
theorem dX11_written_116 : decode cX11_written 116 = .ok (.invokestatic 234, 3) := by decide +kernel
theorem dX11_written_119 : decode cX11_written 119 = .ok (.ireturn, 1) := by decide +kernel
theorem dX11_written_120 : decode cX11_written 120 = .ok (.aload_n 0, 1) := by decide +kernel
theorem dX11_written_121 : decode cX11_written 121 = .ok (.invokevirtual 240, 3) := by decide +kernel
theorem dX11_written_124 : decode cX11_written 124 = .ok (.ireturn, 1) := by decide +kernel
theorem dX11_written_125 : decode cX11_written 125 = .ok (.aload_n 0, 1) := by decide +kernel
theorem dX11_written_126 : decode cX11_written 126 = .ok (.iload_n 1, 1) := by decide +kernel
theorem dX11_written_127 : decode cX11_written 127 = .ok (.iload_n 2, 1) := by decide +kernel
theorem dX11_written_128 : decode cX11_written 128 = .ok (.iload_n 3, 1) := by decide +kernel
theorem dX11_written_129 : decode cX11_written 129 = .ok (.invokevirtual 244, 3) := by decide +kernel
theorem dX11_written_132 : decode cX11_written 132 = .ok (.ireturn, 1) := by decide +kernel
theorem dX11_told_0 : decode cX11_told 0 = .ok (.aload_n 0, 1) := by decide +kernel
theorem dX11_told_1 : decode cX11_told 1 = .ok (.getfield 10, 3) := by decide +kernel
theorem dX11_told_4 : decode cX11_told 4 = .ok (.getfield 173, 3) := by decide +kernel
theorem dX11_told_7 : decode cX11_told 7 = .ok (.astore_n 3, 1) := by decide +kernel
theorem dX11_told_8 : decode cX11_told 8 = .ok (.aload_n 3, 1) := by decide +kernel
theorem dX11_told_9 : decode cX11_told 9 = .ok (.iload_n 1, 1) := by decide +kernel
theorem dX11_told_10 : decode cX11_told 10 = .ok (.invokevirtual 211, 3) := by decide +kernel
theorem dX11_told_13 : decode cX11_told 13 = .ok (.ifCond .ne 6, 3) := by decide +kernel
theorem dX11_told_16 : decode cX11_told 16 = .ok (.ldc 74, 2) := by decide +kernel
theorem dX11_told_18 : decode cX11_told 18 = .ok (.ireturn, 1) := by decide +kernel
theorem dX11_told_19 : decode cX11_told 19 = .ok (.iload_n 2, 1) := by decide +kernel
theorem dX11_told_20 : decode cX11_told 20 = .ok (.tableswitch 137 0 10 #[60, 67, 74, 81, 88, 95, 102, 109, 116, 123, 130], 60) := by decide +kernel
theorem dX11_told_80 : decode cX11_told 80 = .ok (.aload_n 3, 1) := by decide +kernel
theorem dX11_told_81 : decode cX11_told 81 = .ok (.getfield 180, 3) := by decide +kernel
theorem dX11_told_84 : decode cX11_told 84 = .ok (.iload_n 1, 1) := by decide +kernel
theorem dX11_told_85 : decode cX11_told 85 = .ok (.iaload, 1) := by decide +kernel
theorem dX11_told_86 : decode cX11_told 86 = .ok (.ireturn, 1) := by decide +kernel
theorem dX11_told_87 : decode cX11_told 87 = .ok (.aload_n 3, 1) := by decide +kernel
theorem dX11_told_88 : decode cX11_told 88 = .ok (.getfield 183, 3) := by decide +kernel
theorem dX11_told_91 : decode cX11_told 91 = .ok (.iload_n 1, 1) := by decide +kernel
theorem dX11_told_92 : decode cX11_told 92 = .ok (.iaload, 1) := by decide +kernel
theorem dX11_told_93 : decode cX11_told 93 = .ok (.ireturn, 1) := by decide +kernel
theorem dX11_told_94 : decode cX11_told 94 = .ok (.aload_n 3, 1) := by decide +kernel
theorem dX11_told_95 : decode cX11_told 95 = .ok (.getfield 185, 3) := by decide +kernel
theorem dX11_told_98 : decode cX11_told 98 = .ok (.iload_n 1, 1) := by decide +kernel
theorem dX11_told_99 : decode cX11_told 99 = .ok (.iaload, 1) := by decide +kernel
theorem dX11_told_100 : decode cX11_told 100 = .ok (.ireturn, 1) := by decide +kernel
theorem dX11_told_101 : decode cX11_told 101 = .ok (.aload_n 3, 1) := by decide +kernel
theorem dX11_told_102 : decode cX11_told 102 = .ok (.getfield 188, 3) := by decide +kernel
theorem dX11_told_105 : decode cX11_told 105 = .ok (.iload_n 1, 1) := by decide +kernel
theorem dX11_told_106 : decode cX11_told 106 = .ok (.iaload, 1) := by decide +kernel
theorem dX11_told_107 : decode cX11_told 107 = .ok (.ireturn, 1) := by decide +kernel
theorem dX11_told_108 : decode cX11_told 108 = .ok (.aload_n 3, 1) := by decide +kernel
theorem dX11_told_109 : decode cX11_told 109 = .ok (.getfield 191, 3) := by decide +kernel
theorem dX11_told_112 : decode cX11_told 112 = .ok (.iload_n 1, 1) := by decide +kernel
theorem dX11_told_113 : decode cX11_told 113 = .ok (.iaload, 1) := by decide +kernel
theorem dX11_told_114 : decode cX11_told 114 = .ok (.ireturn, 1) := by decide +kernel
theorem dX11_told_115 : decode cX11_told 115 = .ok (.aload_n 3, 1) := by decide +kernel
theorem dX11_told_116 : decode cX11_told 116 = .ok (.getfield 194, 3) := by decide +kernel
theorem dX11_told_119 : decode cX11_told 119 = .ok (.iload_n 1, 1) := by decide +kernel
theorem dX11_told_120 : decode cX11_told 120 = .ok (.iaload, 1) := by decide +kernel
theorem dX11_told_121 : decode cX11_told 121 = .ok (.ireturn, 1) := by decide +kernel
theorem dX11_told_122 : decode cX11_told 122 = .ok (.aload_n 3, 1) := by decide +kernel
theorem dX11_told_123 : decode cX11_told 123 = .ok (.getfield 197, 3) := by decide +kernel
theorem dX11_told_126 : decode cX11_told 126 = .ok (.iload_n 1, 1) := by decide +kernel
theorem dX11_told_127 : decode cX11_told 127 = .ok (.iaload, 1) := by decide +kernel
theorem dX11_told_128 : decode cX11_told 128 = .ok (.ireturn, 1) := by decide +kernel
theorem dX11_told_129 : decode cX11_told 129 = .ok (.aload_n 3, 1) := by decide +kernel
theorem dX11_told_130 : decode cX11_told 130 = .ok (.getfield 200, 3) := by decide +kernel
theorem dX11_told_133 : decode cX11_told 133 = .ok (.iload_n 1, 1) := by decide +kernel
theorem dX11_told_134 : decode cX11_told 134 = .ok (.iaload, 1) := by decide +kernel
theorem dX11_told_135 : decode cX11_told 135 = .ok (.ireturn, 1) := by decide +kernel
theorem dX11_told_136 : decode cX11_told 136 = .ok (.aload_n 3, 1) := by decide +kernel
theorem dX11_told_137 : decode cX11_told 137 = .ok (.getfield 203, 3) := by decide +kernel
theorem dX11_told_140 : decode cX11_told 140 = .ok (.iload_n 1, 1) := by decide +kernel
theorem dX11_told_141 : decode cX11_told 141 = .ok (.iaload, 1) := by decide +kernel
theorem dX11_told_142 : decode cX11_told 142 = .ok (.ireturn, 1) := by decide +kernel
theorem dX11_told_143 : decode cX11_told 143 = .ok (.aload_n 3, 1) := by decide +kernel
theorem dX11_told_144 : decode cX11_told 144 = .ok (.getfield 205, 3) := by decide +kernel
theorem dX11_told_147 : decode cX11_told 147 = .ok (.iload_n 1, 1) := by decide +kernel
theorem dX11_told_148 : decode cX11_told 148 = .ok (.iaload, 1) := by decide +kernel
theorem dX11_told_149 : decode cX11_told 149 = .ok (.ireturn, 1) := by decide +kernel
theorem dX11_told_150 : decode cX11_told 150 = .ok (.aload_n 3, 1) := by decide +kernel
theorem dX11_told_151 : decode cX11_told 151 = .ok (.getfield 208, 3) := by decide +kernel
theorem dX11_told_154 : decode cX11_told 154 = .ok (.iload_n 1, 1) := by decide +kernel
theorem dX11_told_155 : decode cX11_told 155 = .ok (.iaload, 1) := by decide +kernel
theorem dX11_told_156 : decode cX11_told 156 = .ok (.ireturn, 1) := by decide +kernel
theorem dX11_told_157 : decode cX11_told 157 = .ok (.ldc 74, 2) := by decide +kernel
theorem dX11_told_159 : decode cX11_told 159 = .ok (.ireturn, 1) := by decide +kernel
theorem dX11_worth_0 : decode cX11_worth 0 = .ok (.aload_n 0, 1) := by decide +kernel
theorem dX11_worth_1 : decode cX11_worth 1 = .ok (.getfield 10, 3) := by decide +kernel
theorem dX11_worth_4 : decode cX11_worth 4 = .ok (.getfield 173, 3) := by decide +kernel
theorem dX11_worth_7 : decode cX11_worth 7 = .ok (.iload_n 1, 1) := by decide +kernel
theorem dX11_worth_8 : decode cX11_worth 8 = .ok (.invokevirtual 211, 3) := by decide +kernel
theorem dX11_worth_11 : decode cX11_worth 11 = .ok (.ifCond .eq 20, 3) := by decide +kernel
theorem dX11_worth_14 : decode cX11_worth 14 = .ok (.aload_n 0, 1) := by decide +kernel
theorem dX11_worth_15 : decode cX11_worth 15 = .ok (.iload_n 2, 1) := by decide +kernel
theorem dX11_worth_16 : decode cX11_worth 16 = .ok (.invokevirtual 164, 3) := by decide +kernel
theorem dX11_worth_19 : decode cX11_worth 19 = .ok (.ifCond .eq 12, 3) := by decide +kernel
theorem dX11_worth_22 : decode cX11_worth 22 = .ok (.iload_n 3, 1) := by decide +kernel
theorem dX11_worth_23 : decode cX11_worth 23 = .ok (.iconst 0, 1) := by decide +kernel
theorem dX11_worth_24 : decode cX11_worth 24 = .ok (.iconst 3, 1) := by decide +kernel
theorem dX11_worth_25 : decode cX11_worth 25 = .ok (.invokestatic 70, 3) := by decide +kernel
theorem dX11_worth_28 : decode cX11_worth 28 = .ok (.ifCond .ne 6, 3) := by decide +kernel
theorem dX11_worth_31 : decode cX11_worth 31 = .ok (.ldc 74, 2) := by decide +kernel
theorem dX11_worth_33 : decode cX11_worth 33 = .ok (.ireturn, 1) := by decide +kernel
theorem dX11_worth_34 : decode cX11_worth 34 = .ok (.aload_n 0, 1) := by decide +kernel
theorem dX11_worth_35 : decode cX11_worth 35 = .ok (.getfield 10, 3) := by decide +kernel
theorem dX11_worth_38 : decode cX11_worth 38 = .ok (.getfield 173, 3) := by decide +kernel
theorem dX11_worth_41 : decode cX11_worth 41 = .ok (.iload_n 1, 1) := by decide +kernel
theorem dX11_worth_42 : decode cX11_worth 42 = .ok (.iload_n 2, 1) := by decide +kernel
theorem dX11_worth_43 : decode cX11_worth 43 = .ok (.invokevirtual 247, 3) := by decide +kernel
theorem dX11_worth_46 : decode cX11_worth 46 = .ok (.ifCond .ne 6, 3) := by decide +kernel
theorem dX11_worth_49 : decode cX11_worth 49 = .ok (.ldc 143, 2) := by decide +kernel
theorem dX11_worth_51 : decode cX11_worth 51 = .ok (.ireturn, 1) := by decide +kernel
theorem dX11_worth_52 : decode cX11_worth 52 = .ok (.iload_n 3, 1) := by decide +kernel
theorem dX11_worth_53 : decode cX11_worth 53 = .ok (.tableswitch 57 0 2 #[27, 37, 47], 27) := by decide +kernel
theorem dX11_worth_80 : decode cX11_worth 80 = .ok (.aload_n 0, 1) := by decide +kernel
theorem dX11_worth_81 : decode cX11_worth 81 = .ok (.getfield 35, 3) := by decide +kernel
theorem dX11_worth_84 : decode cX11_worth 84 = .ok (.iload_n 1, 1) := by decide +kernel
theorem dX11_worth_85 : decode cX11_worth 85 = .ok (.iload_n 2, 1) := by decide +kernel
theorem dX11_worth_86 : decode cX11_worth 86 = .ok (.invokevirtual 250, 3) := by decide +kernel
theorem dX11_worth_89 : decode cX11_worth 89 = .ok (.ireturn, 1) := by decide +kernel
theorem dX11_worth_90 : decode cX11_worth 90 = .ok (.aload_n 0, 1) := by decide +kernel
theorem dX11_worth_91 : decode cX11_worth 91 = .ok (.getfield 35, 3) := by decide +kernel
theorem dX11_worth_94 : decode cX11_worth 94 = .ok (.iload_n 1, 1) := by decide +kernel
theorem dX11_worth_95 : decode cX11_worth 95 = .ok (.iload_n 2, 1) := by decide +kernel
theorem dX11_worth_96 : decode cX11_worth 96 = .ok (.invokevirtual 253, 3) := by decide +kernel
theorem dX11_worth_99 : decode cX11_worth 99 = .ok (.ireturn, 1) := by decide +kernel
theorem dX11_worth_100 : decode cX11_worth 100 = .ok (.aload_n 0, 1) := by decide +kernel
theorem dX11_worth_101 : decode cX11_worth 101 = .ok (.getfield 35, 3) := by decide +kernel
theorem dX11_worth_104 : decode cX11_worth 104 = .ok (.iload_n 1, 1) := by decide +kernel
theorem dX11_worth_105 : decode cX11_worth 105 = .ok (.iload_n 2, 1) := by decide +kernel
theorem dX11_worth_106 : decode cX11_worth 106 = .ok (.invokevirtual 256, 3) := by decide +kernel
theorem dX11_worth_109 : decode cX11_worth 109 = .ok (.ireturn, 1) := by decide +kernel
theorem dX11_worth_110 : decode cX11_worth 110 = .ok (.aload_n 0, 1) := by decide +kernel
theorem dX11_worth_111 : decode cX11_worth 111 = .ok (.getfield 35, 3) := by decide +kernel
theorem dX11_worth_114 : decode cX11_worth 114 = .ok (.aload_n 0, 1) := by decide +kernel
theorem dX11_worth_115 : decode cX11_worth 115 = .ok (.getfield 10, 3) := by decide +kernel
theorem dX11_worth_118 : decode cX11_worth 118 = .ok (.getfield 173, 3) := by decide +kernel
theorem dX11_worth_121 : decode cX11_worth 121 = .ok (.getfield 183, 3) := by decide +kernel
theorem dX11_worth_124 : decode cX11_worth 124 = .ok (.iload_n 1, 1) := by decide +kernel
theorem dX11_worth_125 : decode cX11_worth 125 = .ok (.iaload, 1) := by decide +kernel
theorem dX11_worth_126 : decode cX11_worth 126 = .ok (.iload_n 2, 1) := by decide +kernel
theorem dX11_worth_127 : decode cX11_worth 127 = .ok (.invokevirtual 259, 3) := by decide +kernel
theorem dX11_worth_130 : decode cX11_worth 130 = .ok (.pop, 1) := by decide +kernel
theorem dX11_worth_131 : decode cX11_worth 131 = .ok (.aload_n 0, 1) := by decide +kernel
theorem dX11_worth_132 : decode cX11_worth 132 = .ok (.getfield 35, 3) := by decide +kernel
theorem dX11_worth_135 : decode cX11_worth 135 = .ok (.getfield 262, 3) := by decide +kernel
theorem dX11_worth_138 : decode cX11_worth 138 = .ok (.iload_n 1, 1) := by decide +kernel
theorem dX11_worth_139 : decode cX11_worth 139 = .ok (.iaload, 1) := by decide +kernel
theorem dX11_worth_140 : decode cX11_worth 140 = .ok (.ireturn, 1) := by decide +kernel
theorem dX11_feed_0 : decode cX11_feed 0 = .ok (.aload_n 0, 1) := by decide +kernel
theorem dX11_feed_1 : decode cX11_feed 1 = .ok (.getfield 26, 3) := by decide +kernel
theorem dX11_feed_4 : decode cX11_feed 4 = .ok (.getfield 263, 3) := by decide +kernel
theorem dX11_feed_7 : decode cX11_feed 7 = .ok (.bipush 12, 2) := by decide +kernel
theorem dX11_feed_9 : decode cX11_feed 9 = .ok (.iadd, 1) := by decide +kernel
theorem dX11_feed_10 : decode cX11_feed 10 = .ok (.bipush 120, 2) := by decide +kernel
theorem dX11_feed_12 : decode cX11_feed 12 = .ok (.if_icmp .le 6, 3) := by decide +kernel
theorem dX11_feed_15 : decode cX11_feed 15 = .ok (.ldc 84, 2) := by decide +kernel
theorem dX11_feed_17 : decode cX11_feed 17 = .ok (.ireturn, 1) := by decide +kernel
theorem dX11_feed_18 : decode cX11_feed 18 = .ok (.aload_n 0, 1) := by decide +kernel
theorem dX11_feed_19 : decode cX11_feed 19 = .ok (.getfield 26, 3) := by decide +kernel
theorem dX11_feed_22 : decode cX11_feed 22 = .ok (.iload_n 1, 1) := by decide +kernel
theorem dX11_feed_23 : decode cX11_feed 23 = .ok (.invokevirtual 264, 3) := by decide +kernel
theorem dX11_feed_26 : decode cX11_feed 26 = .ok (.aload_n 0, 1) := by decide +kernel
theorem dX11_feed_27 : decode cX11_feed 27 = .ok (.getfield 26, 3) := by decide +kernel
theorem dX11_feed_30 : decode cX11_feed 30 = .ok (.iload_n 2, 1) := by decide +kernel
theorem dX11_feed_31 : decode cX11_feed 31 = .ok (.invokevirtual 264, 3) := by decide +kernel
theorem dX11_feed_34 : decode cX11_feed 34 = .ok (.aload_n 0, 1) := by decide +kernel
theorem dX11_feed_35 : decode cX11_feed 35 = .ok (.getfield 26, 3) := by decide +kernel
theorem dX11_feed_38 : decode cX11_feed 38 = .ok (.iload_n 3, 1) := by decide +kernel
theorem dX11_feed_39 : decode cX11_feed 39 = .ok (.invokevirtual 264, 3) := by decide +kernel
theorem dX11_feed_42 : decode cX11_feed 42 = .ok (.aload_n 0, 1) := by decide +kernel
theorem dX11_feed_43 : decode cX11_feed 43 = .ok (.getfield 26, 3) := by decide +kernel
theorem dX11_feed_46 : decode cX11_feed 46 = .ok (.getfield 263, 3) := by decide +kernel
theorem dX11_feed_49 : decode cX11_feed 49 = .ok (.ireturn, 1) := by decide +kernel
theorem dX11_trim_0 : decode cX11_trim 0 = .ok (.iload_n 1, 1) := by decide +kernel
theorem dX11_trim_1 : decode cX11_trim 1 = .ok (.iconst 0, 1) := by decide +kernel
theorem dX11_trim_2 : decode cX11_trim 2 = .ok (.aload_n 0, 1) := by decide +kernel
theorem dX11_trim_3 : decode cX11_trim 3 = .ok (.getfield 26, 3) := by decide +kernel
theorem dX11_trim_6 : decode cX11_trim 6 = .ok (.getfield 263, 3) := by decide +kernel
theorem dX11_trim_9 : decode cX11_trim 9 = .ok (.invokestatic 70, 3) := by decide +kernel
theorem dX11_trim_12 : decode cX11_trim 12 = .ok (.ifCond .ne 6, 3) := by decide +kernel
theorem dX11_trim_15 : decode cX11_trim 15 = .ok (.ldc 74, 2) := by decide +kernel
theorem dX11_trim_17 : decode cX11_trim 17 = .ok (.ireturn, 1) := by decide +kernel
theorem dX11_trim_18 : decode cX11_trim 18 = .ok (.aload_n 0, 1) := by decide +kernel
theorem dX11_trim_19 : decode cX11_trim 19 = .ok (.getfield 26, 3) := by decide +kernel
theorem dX11_trim_22 : decode cX11_trim 22 = .ok (.iload_n 1, 1) := by decide +kernel
theorem dX11_trim_23 : decode cX11_trim 23 = .ok (.putfield 263, 3) := by decide +kernel
theorem dX11_trim_26 : decode cX11_trim 26 = .ok (.iload_n 1, 1) := by decide +kernel
theorem dX11_trim_27 : decode cX11_trim 27 = .ok (.ireturn, 1) := by decide +kernel
theorem dX11_terms_0 : decode cX11_terms 0 = .ok (.aload_n 0, 1) := by decide +kernel
theorem dX11_terms_1 : decode cX11_terms 1 = .ok (.getfield 10, 3) := by decide +kernel
theorem dX11_terms_4 : decode cX11_terms 4 = .ok (.getfield 102, 3) := by decide +kernel
theorem dX11_terms_7 : decode cX11_terms 7 = .ok (.iload_n 1, 1) := by decide +kernel
theorem dX11_terms_8 : decode cX11_terms 8 = .ok (.invokevirtual 115, 3) := by decide +kernel
theorem dX11_terms_11 : decode cX11_terms 11 = .ok (.ifCond .eq 18, 3) := by decide +kernel
theorem dX11_terms_14 : decode cX11_terms 14 = .ok (.iload_n 2, 1) := by decide +kernel
theorem dX11_terms_15 : decode cX11_terms 15 = .ok (.iconst 0, 1) := by decide +kernel
theorem dX11_terms_16 : decode cX11_terms 16 = .ok (.sipush 900, 3) := by decide +kernel
theorem dX11_terms_19 : decode cX11_terms 19 = .ok (.invokestatic 70, 3) := by decide +kernel
theorem dX11_terms_22 : decode cX11_terms 22 = .ok (.ifCond .eq 7, 3) := by decide +kernel
theorem dX11_terms_25 : decode cX11_terms 25 = .ok (.iconst 1, 1) := by decide +kernel
theorem dX11_terms_26 : decode cX11_terms 26 = .ok (.goto 4, 3) := by decide +kernel
theorem dX11_terms_29 : decode cX11_terms 29 = .ok (.iconst 0, 1) := by decide +kernel
theorem dX11_terms_30 : decode cX11_terms 30 = .ok (.istore_n 3, 1) := by decide +kernel
theorem dX11_terms_31 : decode cX11_terms 31 = .ok (.iload_n 3, 1) := by decide +kernel
theorem dX11_terms_32 : decode cX11_terms 32 = .ok (.ifCond .eq 13, 3) := by decide +kernel
theorem dX11_terms_35 : decode cX11_terms 35 = .ok (.aload_n 0, 1) := by decide +kernel
theorem dX11_terms_36 : decode cX11_terms 36 = .ok (.getfield 26, 3) := by decide +kernel
theorem dX11_terms_39 : decode cX11_terms 39 = .ok (.invokevirtual 268, 3) := by decide +kernel
theorem dX11_terms_42 : decode cX11_terms 42 = .ok (.goto 5, 3) := by decide +kernel
theorem dX11_terms_45 : decode cX11_terms 45 = .ok (.ldc 133, 2) := by decide +kernel
theorem dX11_terms_47 : decode cX11_terms 47 = .ok (.istore 4, 2) := by decide +kernel
theorem dX11_terms_49 : decode cX11_terms 49 = .ok (.aload_n 0, 1) := by decide +kernel
theorem dX11_terms_50 : decode cX11_terms 50 = .ok (.getfield 26, 3) := by decide +kernel
theorem dX11_terms_53 : decode cX11_terms 53 = .ok (.iconst 0, 1) := by decide +kernel
theorem dX11_terms_54 : decode cX11_terms 54 = .ok (.putfield 263, 3) := by decide +kernel
theorem dX11_terms_57 : decode cX11_terms 57 = .ok (.iload_n 3, 1) := by decide +kernel
theorem dX11_terms_58 : decode cX11_terms 58 = .ok (.ifCond .ne 6, 3) := by decide +kernel
theorem dX11_terms_61 : decode cX11_terms 61 = .ok (.ldc 74, 2) := by decide +kernel
theorem dX11_terms_63 : decode cX11_terms 63 = .ok (.ireturn, 1) := by decide +kernel
theorem dX11_terms_64 : decode cX11_terms 64 = .ok (.iload 4, 2) := by decide +kernel
theorem dX11_terms_66 : decode cX11_terms 66 = .ok (.ldc 133, 2) := by decide +kernel
theorem dX11_terms_68 : decode cX11_terms 68 = .ok (.if_icmp .eq 9, 3) := by decide +kernel
theorem dX11_terms_71 : decode cX11_terms 71 = .ok (.bipush (-100), 2) := by decide +kernel
theorem dX11_terms_73 : decode cX11_terms 73 = .ok (.iload 4, 2) := by decide +kernel
theorem dX11_terms_75 : decode cX11_terms 75 = .ok (.isub, 1) := by decide +kernel
theorem dX11_terms_76 : decode cX11_terms 76 = .ok (.ireturn, 1) := by decide +kernel
theorem dX11_terms_77 : decode cX11_terms 77 = .ok (.aload_n 0, 1) := by decide +kernel
theorem dX11_terms_78 : decode cX11_terms 78 = .ok (.getfield 10, 3) := by decide +kernel
theorem dX11_terms_81 : decode cX11_terms 81 = .ok (.getfield 102, 3) := by decide +kernel
theorem dX11_terms_84 : decode cX11_terms 84 = .ok (.astore 5, 2) := by decide +kernel
theorem dX11_terms_86 : decode cX11_terms 86 = .ok (.aload 5, 2) := by decide +kernel
theorem dX11_terms_88 : decode cX11_terms 88 = .ok (.getfield 112, 3) := by decide +kernel
theorem dX11_terms_91 : decode cX11_terms 91 = .ok (.iload_n 1, 1) := by decide +kernel
theorem dX11_terms_92 : decode cX11_terms 92 = .ok (.iaload, 1) := by decide +kernel
theorem dX11_terms_93 : decode cX11_terms 93 = .ok (.iconst 3, 1) := by decide +kernel
theorem dX11_terms_94 : decode cX11_terms 94 = .ok (.if_icmp .lt 6, 3) := by decide +kernel
theorem dX11_terms_97 : decode cX11_terms 97 = .ok (.ldc 84, 2) := by decide +kernel
theorem dX11_terms_99 : decode cX11_terms 99 = .ok (.ireturn, 1) := by decide +kernel
theorem dX11_terms_100 : decode cX11_terms 100 = .ok (.iload_n 1, 1) := by decide +kernel
theorem dX11_terms_101 : decode cX11_terms 101 = .ok (.iconst 3, 1) := by decide +kernel
theorem dX11_terms_102 : decode cX11_terms 102 = .ok (.imul, 1) := by decide +kernel
theorem dX11_terms_103 : decode cX11_terms 103 = .ok (.aload 5, 2) := by decide +kernel
theorem dX11_terms_105 : decode cX11_terms 105 = .ok (.getfield 112, 3) := by decide +kernel
theorem dX11_terms_108 : decode cX11_terms 108 = .ok (.iload_n 1, 1) := by decide +kernel
theorem dX11_terms_109 : decode cX11_terms 109 = .ok (.iaload, 1) := by decide +kernel
theorem dX11_terms_110 : decode cX11_terms 110 = .ok (.iadd, 1) := by decide +kernel
theorem dX11_terms_111 : decode cX11_terms 111 = .ok (.istore 6, 2) := by decide +kernel
theorem dX11_terms_113 : decode cX11_terms 113 = .ok (.aload 5, 2) := by decide +kernel
theorem dX11_terms_115 : decode cX11_terms 115 = .ok (.getfield 271, 3) := by decide +kernel
theorem dX11_terms_118 : decode cX11_terms 118 = .ok (.iload 6, 2) := by decide +kernel
theorem dX11_terms_120 : decode cX11_terms 120 = .ok (.iload_n 2, 1) := by decide +kernel
theorem dX11_terms_121 : decode cX11_terms 121 = .ok (.iastore, 1) := by decide +kernel
theorem dX11_terms_122 : decode cX11_terms 122 = .ok (.aload 5, 2) := by decide +kernel
theorem dX11_terms_124 : decode cX11_terms 124 = .ok (.getfield 274, 3) := by decide +kernel
theorem dX11_terms_127 : decode cX11_terms 127 = .ok (.iload 6, 2) := by decide +kernel
theorem dX11_terms_129 : decode cX11_terms 129 = .ok (.aload_n 0, 1) := by decide +kernel
theorem dX11_terms_130 : decode cX11_terms 130 = .ok (.getfield 26, 3) := by decide +kernel
theorem dX11_terms_133 : decode cX11_terms 133 = .ok (.getfield 277, 3) := by decide +kernel
theorem dX11_terms_136 : decode cX11_terms 136 = .ok (.iastore, 1) := by decide +kernel
theorem dX11_terms_137 : decode cX11_terms 137 = .ok (.aload 5, 2) := by decide +kernel
theorem dX11_terms_139 : decode cX11_terms 139 = .ok (.getfield 280, 3) := by decide +kernel
theorem dX11_terms_142 : decode cX11_terms 142 = .ok (.iload 6, 2) := by decide +kernel
theorem dX11_terms_144 : decode cX11_terms 144 = .ok (.aload_n 0, 1) := by decide +kernel
theorem dX11_terms_145 : decode cX11_terms 145 = .ok (.getfield 26, 3) := by decide +kernel
theorem dX11_terms_148 : decode cX11_terms 148 = .ok (.getfield 283, 3) := by decide +kernel
theorem dX11_terms_151 : decode cX11_terms 151 = .ok (.iastore, 1) := by decide +kernel
theorem dX11_terms_152 : decode cX11_terms 152 = .ok (.aload_n 0, 1) := by decide +kernel
theorem dX11_terms_153 : decode cX11_terms 153 = .ok (.getfield 26, 3) := by decide +kernel
theorem dX11_terms_156 : decode cX11_terms 156 = .ok (.getfield 286, 3) := by decide +kernel
theorem dX11_terms_159 : decode cX11_terms 159 = .ok (.iconst 0, 1) := by decide +kernel
theorem dX11_terms_160 : decode cX11_terms 160 = .ok (.aload 5, 2) := by decide +kernel
theorem dX11_terms_162 : decode cX11_terms 162 = .ok (.getfield 289, 3) := by decide +kernel
theorem dX11_terms_165 : decode cX11_terms 165 = .ok (.iload 6, 2) := by decide +kernel
theorem dX11_terms_167 : decode cX11_terms 167 = .ok (.bipush 120, 2) := by decide +kernel
theorem dX11_terms_169 : decode cX11_terms 169 = .ok (.imul, 1) := by decide +kernel
theorem dX11_terms_170 : decode cX11_terms 170 = .ok (.bipush 120, 2) := by decide +kernel
theorem dX11_terms_172 : decode cX11_terms 172 = .ok (.invokestatic 290, 3) := by decide +kernel
theorem dX11_terms_175 : decode cX11_terms 175 = .ok (.aload 5, 2) := by decide +kernel
theorem dX11_terms_177 : decode cX11_terms 177 = .ok (.getfield 112, 3) := by decide +kernel
theorem dX11_terms_180 : decode cX11_terms 180 = .ok (.iload_n 1, 1) := by decide +kernel
theorem dX11_terms_181 : decode cX11_terms 181 = .ok (.dup2, 1) := by decide +kernel
theorem dX11_terms_182 : decode cX11_terms 182 = .ok (.iaload, 1) := by decide +kernel
theorem dX11_terms_183 : decode cX11_terms 183 = .ok (.iconst 1, 1) := by decide +kernel
theorem dX11_terms_184 : decode cX11_terms 184 = .ok (.iadd, 1) := by decide +kernel
theorem dX11_terms_185 : decode cX11_terms 185 = .ok (.iastore, 1) := by decide +kernel
theorem dX11_terms_186 : decode cX11_terms 186 = .ok (.aload_n 0, 1) := by decide +kernel
theorem dX11_terms_187 : decode cX11_terms 187 = .ok (.getfield 26, 3) := by decide +kernel
theorem dX11_terms_190 : decode cX11_terms 190 = .ok (.getfield 296, 3) := by decide +kernel
theorem dX11_terms_193 : decode cX11_terms 193 = .ok (.ireturn, 1) := by decide +kernel
theorem dX11_bill_0 : decode cX11_bill 0 = .ok (.aload_n 0, 1) := by decide +kernel
theorem dX11_bill_1 : decode cX11_bill 1 = .ok (.getfield 10, 3) := by decide +kernel
theorem dX11_bill_4 : decode cX11_bill 4 = .ok (.getfield 117, 3) := by decide +kernel
theorem dX11_bill_7 : decode cX11_bill 7 = .ok (.iload_n 1, 1) := by decide +kernel
theorem dX11_bill_8 : decode cX11_bill 8 = .ok (.invokevirtual 128, 3) := by decide +kernel
theorem dX11_bill_11 : decode cX11_bill 11 = .ok (.ifCond .eq 21, 3) := by decide +kernel
theorem dX11_bill_14 : decode cX11_bill 14 = .ok (.aload_n 0, 1) := by decide +kernel
theorem dX11_bill_15 : decode cX11_bill 15 = .ok (.iload_n 2, 1) := by decide +kernel
theorem dX11_bill_16 : decode cX11_bill 16 = .ok (.invokevirtual 164, 3) := by decide +kernel
theorem dX11_bill_19 : decode cX11_bill 19 = .ok (.ifCond .eq 13, 3) := by decide +kernel
theorem dX11_bill_22 : decode cX11_bill 22 = .ok (.iload_n 3, 1) := by decide +kernel
theorem dX11_bill_23 : decode cX11_bill 23 = .ok (.iconst 0, 1) := by decide +kernel
theorem dX11_bill_24 : decode cX11_bill 24 = .ok (.bipush 100, 2) := by decide +kernel
theorem dX11_bill_26 : decode cX11_bill 26 = .ok (.invokestatic 70, 3) := by decide +kernel
theorem dX11_bill_29 : decode cX11_bill 29 = .ok (.ifCond .ne 6, 3) := by decide +kernel
theorem dX11_bill_32 : decode cX11_bill 32 = .ok (.ldc 74, 2) := by decide +kernel
theorem dX11_bill_34 : decode cX11_bill 34 = .ok (.ireturn, 1) := by decide +kernel
theorem dX11_bill_35 : decode cX11_bill 35 = .ok (.aload_n 0, 1) := by decide +kernel
theorem dX11_bill_36 : decode cX11_bill 36 = .ok (.getfield 10, 3) := by decide +kernel
theorem dX11_bill_39 : decode cX11_bill 39 = .ok (.getfield 134, 3) := by decide +kernel
theorem dX11_bill_42 : decode cX11_bill 42 = .ok (.astore 4, 2) := by decide +kernel
theorem dX11_bill_44 : decode cX11_bill 44 = .ok (.aload 4, 2) := by decide +kernel
theorem dX11_bill_46 : decode cX11_bill 46 = .ok (.getfield 299, 3) := by decide +kernel
theorem dX11_bill_49 : decode cX11_bill 49 = .ok (.bipush 16, 2) := by decide +kernel
theorem dX11_bill_51 : decode cX11_bill 51 = .ok (.if_icmp .lt 6, 3) := by decide +kernel
theorem dX11_bill_54 : decode cX11_bill 54 = .ok (.ldc 84, 2) := by decide +kernel
theorem dX11_bill_56 : decode cX11_bill 56 = .ok (.ireturn, 1) := by decide +kernel
theorem dX11_bill_57 : decode cX11_bill 57 = .ok (.aload 4, 2) := by decide +kernel
theorem dX11_bill_59 : decode cX11_bill 59 = .ok (.getfield 299, 3) := by decide +kernel
theorem dX11_bill_62 : decode cX11_bill 62 = .ok (.istore 5, 2) := by decide +kernel
theorem dX11_bill_64 : decode cX11_bill 64 = .ok (.aload 4, 2) := by decide +kernel
theorem dX11_bill_66 : decode cX11_bill 66 = .ok (.iload_n 1, 1) := by decide +kernel
theorem dX11_bill_67 : decode cX11_bill 67 = .ok (.invokevirtual 138, 3) := by decide +kernel
theorem dX11_bill_70 : decode cX11_bill 70 = .ok (.ifCond .ne 7, 3) := by decide +kernel
theorem dX11_bill_73 : decode cX11_bill 73 = .ok (.iconst 1, 1) := by decide +kernel
theorem dX11_bill_74 : decode cX11_bill 74 = .ok (.goto 4, 3) := by decide +kernel
theorem dX11_bill_77 : decode cX11_bill 77 = .ok (.iconst 0, 1) := by decide +kernel
theorem dX11_bill_78 : decode cX11_bill 78 = .ok (.istore 6, 2) := by decide +kernel
theorem dX11_bill_80 : decode cX11_bill 80 = .ok (.aload 4, 2) := by decide +kernel
theorem dX11_bill_82 : decode cX11_bill 82 = .ok (.getfield 300, 3) := by decide +kernel
theorem dX11_bill_85 : decode cX11_bill 85 = .ok (.iload 5, 2) := by decide +kernel
theorem dX11_bill_87 : decode cX11_bill 87 = .ok (.iload_n 1, 1) := by decide +kernel
theorem dX11_bill_88 : decode cX11_bill 88 = .ok (.iastore, 1) := by decide +kernel
theorem dX11_bill_89 : decode cX11_bill 89 = .ok (.aload 4, 2) := by decide +kernel
theorem dX11_bill_91 : decode cX11_bill 91 = .ok (.getfield 301, 3) := by decide +kernel
theorem dX11_bill_94 : decode cX11_bill 94 = .ok (.iload 5, 2) := by decide +kernel
theorem dX11_bill_96 : decode cX11_bill 96 = .ok (.aload_n 0, 1) := by decide +kernel
theorem dX11_bill_97 : decode cX11_bill 97 = .ok (.getfield 10, 3) := by decide +kernel
theorem dX11_bill_100 : decode cX11_bill 100 = .ok (.getfield 154, 3) := by decide +kernel
theorem dX11_bill_103 : decode cX11_bill 103 = .ok (.iastore, 1) := by decide +kernel
theorem dX11_bill_104 : decode cX11_bill 104 = .ok (.aload_n 0, 1) := by decide +kernel
theorem dX11_bill_105 : decode cX11_bill 105 = .ok (.getfield 35, 3) := by decide +kernel
theorem dX11_bill_108 : decode cX11_bill 108 = .ok (.iload_n 1, 1) := by decide +kernel
theorem dX11_bill_109 : decode cX11_bill 109 = .ok (.aload_n 0, 1) := by decide +kernel
theorem dX11_bill_110 : decode cX11_bill 110 = .ok (.getfield 10, 3) := by decide +kernel
theorem dX11_bill_113 : decode cX11_bill 113 = .ok (.getfield 154, 3) := by decide +kernel
theorem dX11_bill_116 : decode cX11_bill 116 = .ok (.invokevirtual 259, 3) := by decide +kernel
theorem dX11_bill_119 : decode cX11_bill 119 = .ok (.pop, 1) := by decide +kernel
theorem dX11_bill_120 : decode cX11_bill 120 = .ok (.aload_n 0, 1) := by decide +kernel
theorem dX11_bill_121 : decode cX11_bill 121 = .ok (.iload 5, 2) := by decide +kernel
theorem dX11_bill_123 : decode cX11_bill 123 = .ok (.iload_n 1, 1) := by decide +kernel
theorem dX11_bill_124 : decode cX11_bill 124 = .ok (.iload_n 2, 1) := by decide +kernel
theorem dX11_bill_125 : decode cX11_bill 125 = .ok (.invokevirtual 302, 3) := by decide +kernel
theorem dX11_bill_128 : decode cX11_bill 128 = .ok (.istore 7, 2) := by decide +kernel
theorem dX11_bill_130 : decode cX11_bill 130 = .ok (.aload_n 0, 1) := by decide +kernel
theorem dX11_bill_131 : decode cX11_bill 131 = .ok (.getfield 10, 3) := by decide +kernel
theorem dX11_bill_134 : decode cX11_bill 134 = .ok (.getfield 117, 3) := by decide +kernel
theorem dX11_bill_137 : decode cX11_bill 137 = .ok (.getfield 305, 3) := by decide +kernel
theorem dX11_bill_140 : decode cX11_bill 140 = .ok (.iload_n 1, 1) := by decide +kernel
theorem dX11_bill_141 : decode cX11_bill 141 = .ok (.iaload, 1) := by decide +kernel
theorem dX11_bill_142 : decode cX11_bill 142 = .ok (.iconst 1, 1) := by decide +kernel
theorem dX11_bill_143 : decode cX11_bill 143 = .ok (.if_icmp .ne 26, 3) := by decide +kernel
theorem dX11_bill_146 : decode cX11_bill 146 = .ok (.iload 6, 2) := by decide +kernel
theorem dX11_bill_148 : decode cX11_bill 148 = .ok (.ifCond .eq 18, 3) := by decide +kernel
theorem dX11_bill_151 : decode cX11_bill 151 = .ok (.aload_n 0, 1) := by decide +kernel
theorem dX11_bill_152 : decode cX11_bill 152 = .ok (.getfield 10, 3) := by decide +kernel
theorem dX11_bill_155 : decode cX11_bill 155 = .ok (.getfield 117, 3) := by decide +kernel
theorem dX11_bill_158 : decode cX11_bill 158 = .ok (.getfield 306, 3) := by decide +kernel
theorem dX11_bill_161 : decode cX11_bill 161 = .ok (.iload_n 1, 1) := by decide +kernel
theorem dX11_bill_162 : decode cX11_bill 162 = .ok (.iaload, 1) := by decide +kernel
theorem dX11_bill_163 : decode cX11_bill 163 = .ok (.goto 4, 3) := by decide +kernel
theorem dX11_bill_166 : decode cX11_bill 166 = .ok (.iconst 0, 1) := by decide +kernel
theorem dX11_bill_167 : decode cX11_bill 167 = .ok (.istore 7, 2) := by decide +kernel
theorem dX11_bill_169 : decode cX11_bill 169 = .ok (.iload 7, 2) := by decide +kernel
theorem dX11_bill_171 : decode cX11_bill 171 = .ok (.iload 7, 2) := by decide +kernel
theorem dX11_bill_173 : decode cX11_bill 173 = .ok (.i2l, 1) := by decide +kernel
theorem dX11_bill_174 : decode cX11_bill 174 = .ok (.iload_n 3, 1) := by decide +kernel
theorem dX11_bill_175 : decode cX11_bill 175 = .ok (.i2l, 1) := by decide +kernel
theorem dX11_bill_176 : decode cX11_bill 176 = .ok (.lmul, 1) := by decide +kernel
theorem dX11_bill_177 : decode cX11_bill 177 = .ok (.ldc2_w 309, 3) := by decide +kernel
theorem dX11_bill_180 : decode cX11_bill 180 = .ok (.ldiv, 1) := by decide +kernel
theorem dX11_bill_181 : decode cX11_bill 181 = .ok (.l2i, 1) := by decide +kernel
theorem dX11_bill_182 : decode cX11_bill 182 = .ok (.isub, 1) := by decide +kernel
theorem dX11_bill_183 : decode cX11_bill 183 = .ok (.istore 8, 2) := by decide +kernel
theorem dX11_bill_185 : decode cX11_bill 185 = .ok (.iload 8, 2) := by decide +kernel
theorem dX11_bill_187 : decode cX11_bill 187 = .ok (.aload_n 0, 1) := by decide +kernel
theorem dX11_bill_188 : decode cX11_bill 188 = .ok (.getfield 10, 3) := by decide +kernel
theorem dX11_bill_191 : decode cX11_bill 191 = .ok (.getfield 117, 3) := by decide +kernel
theorem dX11_bill_194 : decode cX11_bill 194 = .ok (.getfield 311, 3) := by decide +kernel
theorem dX11_bill_197 : decode cX11_bill 197 = .ok (.iload_n 1, 1) := by decide +kernel
theorem dX11_bill_198 : decode cX11_bill 198 = .ok (.iaload, 1) := by decide +kernel
theorem dX11_bill_199 : decode cX11_bill 199 = .ok (.invokestatic 314, 3) := by decide +kernel
theorem dX11_bill_202 : decode cX11_bill 202 = .ok (.istore 9, 2) := by decide +kernel
theorem dX11_bill_204 : decode cX11_bill 204 = .ok (.aload_n 0, 1) := by decide +kernel
theorem dX11_bill_205 : decode cX11_bill 205 = .ok (.getfield 10, 3) := by decide +kernel
theorem dX11_bill_208 : decode cX11_bill 208 = .ok (.getfield 117, 3) := by decide +kernel
theorem dX11_bill_211 : decode cX11_bill 211 = .ok (.getfield 311, 3) := by decide +kernel
theorem dX11_bill_214 : decode cX11_bill 214 = .ok (.iload_n 1, 1) := by decide +kernel
theorem dX11_bill_215 : decode cX11_bill 215 = .ok (.dup2, 1) := by decide +kernel
theorem dX11_bill_216 : decode cX11_bill 216 = .ok (.iaload, 1) := by decide +kernel
theorem dX11_bill_217 : decode cX11_bill 217 = .ok (.iload 9, 2) := by decide +kernel
theorem dX11_bill_219 : decode cX11_bill 219 = .ok (.isub, 1) := by decide +kernel
theorem dX11_bill_220 : decode cX11_bill 220 = .ok (.iastore, 1) := by decide +kernel
theorem dX11_bill_221 : decode cX11_bill 221 = .ok (.aload 4, 2) := by decide +kernel
theorem dX11_bill_223 : decode cX11_bill 223 = .ok (.getfield 317, 3) := by decide +kernel
theorem dX11_bill_226 : decode cX11_bill 226 = .ok (.iload 5, 2) := by decide +kernel
theorem dX11_bill_228 : decode cX11_bill 228 = .ok (.iload 7, 2) := by decide +kernel
theorem dX11_bill_230 : decode cX11_bill 230 = .ok (.iastore, 1) := by decide +kernel
theorem dX11_bill_231 : decode cX11_bill 231 = .ok (.aload 4, 2) := by decide +kernel
theorem dX11_bill_233 : decode cX11_bill 233 = .ok (.getfield 320, 3) := by decide +kernel
theorem dX11_bill_236 : decode cX11_bill 236 = .ok (.iload 5, 2) := by decide +kernel
theorem dX11_bill_238 : decode cX11_bill 238 = .ok (.iload 8, 2) := by decide +kernel
theorem dX11_bill_240 : decode cX11_bill 240 = .ok (.iastore, 1) := by decide +kernel
theorem dX11_bill_241 : decode cX11_bill 241 = .ok (.aload 4, 2) := by decide +kernel
theorem dX11_bill_243 : decode cX11_bill 243 = .ok (.getfield 323, 3) := by decide +kernel
theorem dX11_bill_246 : decode cX11_bill 246 = .ok (.iload 5, 2) := by decide +kernel
theorem dX11_bill_248 : decode cX11_bill 248 = .ok (.iload 9, 2) := by decide +kernel
theorem dX11_bill_250 : decode cX11_bill 250 = .ok (.iastore, 1) := by decide +kernel
theorem dX11_bill_251 : decode cX11_bill 251 = .ok (.aload_n 0, 1) := by decide +kernel
theorem dX11_bill_252 : decode cX11_bill 252 = .ok (.getfield 10, 3) := by decide +kernel
theorem dX11_bill_255 : decode cX11_bill 255 = .ok (.getfield 117, 3) := by decide +kernel
theorem dX11_bill_258 : decode cX11_bill 258 = .ok (.iload_n 1, 1) := by decide +kernel
theorem dX11_bill_259 : decode cX11_bill 259 = .ok (.iload 8, 2) := by decide +kernel
theorem dX11_bill_261 : decode cX11_bill 261 = .ok (.iload 9, 2) := by decide +kernel
theorem dX11_bill_263 : decode cX11_bill 263 = .ok (.isub, 1) := by decide +kernel
theorem dX11_bill_264 : decode cX11_bill 264 = .ok (.aload_n 0, 1) := by decide +kernel
theorem dX11_bill_265 : decode cX11_bill 265 = .ok (.getfield 67, 3) := by decide +kernel
theorem dX11_bill_268 : decode cX11_bill 268 = .ok (.invokevirtual 326, 3) := by decide +kernel
theorem dX11_bill_271 : decode cX11_bill 271 = .ok (.iconst 0, 1) := by decide +kernel
theorem dX11_bill_272 : decode cX11_bill 272 = .ok (.istore 10, 2) := by decide +kernel
theorem dX11_bill_274 : decode cX11_bill 274 = .ok (.iload 10, 2) := by decide +kernel
theorem dX11_bill_276 : decode cX11_bill 276 = .ok (.iconst 3, 1) := by decide +kernel
theorem dX11_bill_277 : decode cX11_bill 277 = .ok (.if_icmp .ge 29, 3) := by decide +kernel
theorem dX11_bill_280 : decode cX11_bill 280 = .ok (.aload 4, 2) := by decide +kernel
theorem dX11_bill_282 : decode cX11_bill 282 = .ok (.getfield 330, 3) := by decide +kernel
theorem dX11_bill_285 : decode cX11_bill 285 = .ok (.iload 5, 2) := by decide +kernel
theorem dX11_bill_287 : decode cX11_bill 287 = .ok (.iconst 3, 1) := by decide +kernel
theorem dX11_bill_288 : decode cX11_bill 288 = .ok (.imul, 1) := by decide +kernel
theorem dX11_bill_289 : decode cX11_bill 289 = .ok (.iload 10, 2) := by decide +kernel
theorem dX11_bill_291 : decode cX11_bill 291 = .ok (.iadd, 1) := by decide +kernel
theorem dX11_bill_292 : decode cX11_bill 292 = .ok (.aload_n 0, 1) := by decide +kernel
theorem dX11_bill_293 : decode cX11_bill 293 = .ok (.getfield 67, 3) := by decide +kernel
theorem dX11_bill_296 : decode cX11_bill 296 = .ok (.iload 10, 2) := by decide +kernel
theorem dX11_bill_298 : decode cX11_bill 298 = .ok (.iaload, 1) := by decide +kernel
theorem dX11_bill_299 : decode cX11_bill 299 = .ok (.iastore, 1) := by decide +kernel
theorem dX11_bill_300 : decode cX11_bill 300 = .ok (.iinc 10 1, 3) := by decide +kernel
theorem dX11_bill_303 : decode cX11_bill 303 = .ok (.goto (-29), 3) := by decide +kernel
theorem dX11_bill_306 : decode cX11_bill 306 = .ok (.aload 4, 2) := by decide +kernel
theorem dX11_bill_308 : decode cX11_bill 308 = .ok (.iload 5, 2) := by decide +kernel
theorem dX11_bill_310 : decode cX11_bill 310 = .ok (.iconst 1, 1) := by decide +kernel
theorem dX11_bill_311 : decode cX11_bill 311 = .ok (.iadd, 1) := by decide +kernel
theorem dX11_bill_312 : decode cX11_bill 312 = .ok (.putfield 299, 3) := by decide +kernel
theorem dX11_bill_315 : decode cX11_bill 315 = .ok (.iload 5, 2) := by decide +kernel
theorem dX11_bill_317 : decode cX11_bill 317 = .ok (.ireturn, 1) := by decide +kernel
theorem dX11_about_0 : decode cX11_about 0 = .ok (.aload_n 0, 1) := by decide +kernel
theorem dX11_about_1 : decode cX11_about 1 = .ok (.getfield 10, 3) := by decide +kernel
theorem dX11_about_4 : decode cX11_about 4 = .ok (.getfield 134, 3) := by decide +kernel
theorem dX11_about_7 : decode cX11_about 7 = .ok (.astore_n 3, 1) := by decide +kernel
theorem dX11_about_8 : decode cX11_about 8 = .ok (.aload_n 3, 1) := by decide +kernel
theorem dX11_about_9 : decode cX11_about 9 = .ok (.iload_n 1, 1) := by decide +kernel
theorem dX11_about_10 : decode cX11_about 10 = .ok (.invokevirtual 333, 3) := by decide +kernel
theorem dX11_about_13 : decode cX11_about 13 = .ok (.ifCond .ne 6, 3) := by decide +kernel
theorem dX11_about_16 : decode cX11_about 16 = .ok (.ldc 74, 2) := by decide +kernel
theorem dX11_about_18 : decode cX11_about 18 = .ok (.ireturn, 1) := by decide +kernel
theorem dX11_about_19 : decode cX11_about 19 = .ok (.iload_n 2, 1) := by decide +kernel
theorem dX11_about_20 : decode cX11_about 20 = .ok (.tableswitch 92 0 6 #[44, 51, 58, 65, 72, 79, 86], 44) := by decide +kernel
theorem dX11_about_64 : decode cX11_about 64 = .ok (.aload_n 3, 1) := by decide +kernel
theorem dX11_about_65 : decode cX11_about 65 = .ok (.getfield 300, 3) := by decide +kernel
theorem dX11_about_68 : decode cX11_about 68 = .ok (.iload_n 1, 1) := by decide +kernel
theorem dX11_about_69 : decode cX11_about 69 = .ok (.iaload, 1) := by decide +kernel
theorem dX11_about_70 : decode cX11_about 70 = .ok (.ireturn, 1) := by decide +kernel
theorem dX11_about_71 : decode cX11_about 71 = .ok (.aload_n 3, 1) := by decide +kernel
theorem dX11_about_72 : decode cX11_about 72 = .ok (.getfield 301, 3) := by decide +kernel
theorem dX11_about_75 : decode cX11_about 75 = .ok (.iload_n 1, 1) := by decide +kernel
theorem dX11_about_76 : decode cX11_about 76 = .ok (.iaload, 1) := by decide +kernel
theorem dX11_about_77 : decode cX11_about 77 = .ok (.ireturn, 1) := by decide +kernel
theorem dX11_about_78 : decode cX11_about 78 = .ok (.aload_n 3, 1) := by decide +kernel
theorem dX11_about_79 : decode cX11_about 79 = .ok (.getfield 317, 3) := by decide +kernel
theorem dX11_about_82 : decode cX11_about 82 = .ok (.iload_n 1, 1) := by decide +kernel
theorem dX11_about_83 : decode cX11_about 83 = .ok (.iaload, 1) := by decide +kernel
theorem dX11_about_84 : decode cX11_about 84 = .ok (.ireturn, 1) := by decide +kernel
theorem dX11_about_85 : decode cX11_about 85 = .ok (.aload_n 3, 1) := by decide +kernel
theorem dX11_about_86 : decode cX11_about 86 = .ok (.getfield 320, 3) := by decide +kernel
theorem dX11_about_89 : decode cX11_about 89 = .ok (.iload_n 1, 1) := by decide +kernel
theorem dX11_about_90 : decode cX11_about 90 = .ok (.iaload, 1) := by decide +kernel
theorem dX11_about_91 : decode cX11_about 91 = .ok (.ireturn, 1) := by decide +kernel
theorem dX11_about_92 : decode cX11_about 92 = .ok (.aload_n 3, 1) := by decide +kernel
theorem dX11_about_93 : decode cX11_about 93 = .ok (.getfield 323, 3) := by decide +kernel
theorem dX11_about_96 : decode cX11_about 96 = .ok (.iload_n 1, 1) := by decide +kernel
theorem dX11_about_97 : decode cX11_about 97 = .ok (.iaload, 1) := by decide +kernel
theorem dX11_about_98 : decode cX11_about 98 = .ok (.ireturn, 1) := by decide +kernel
theorem dX11_about_99 : decode cX11_about 99 = .ok (.aload_n 3, 1) := by decide +kernel
theorem dX11_about_100 : decode cX11_about 100 = .ok (.getfield 334, 3) := by decide +kernel
theorem dX11_about_103 : decode cX11_about 103 = .ok (.iload_n 1, 1) := by decide +kernel
theorem dX11_about_104 : decode cX11_about 104 = .ok (.iaload, 1) := by decide +kernel
theorem dX11_about_105 : decode cX11_about 105 = .ok (.ireturn, 1) := by decide +kernel
theorem dX11_about_106 : decode cX11_about 106 = .ok (.aload_n 3, 1) := by decide +kernel
theorem dX11_about_107 : decode cX11_about 107 = .ok (.iload_n 1, 1) := by decide +kernel
theorem dX11_about_108 : decode cX11_about 108 = .ok (.invokevirtual 337, 3) := by decide +kernel
theorem dX11_about_111 : decode cX11_about 111 = .ok (.ireturn, 1) := by decide +kernel
theorem dX11_about_112 : decode cX11_about 112 = .ok (.ldc 74, 2) := by decide +kernel
theorem dX11_about_114 : decode cX11_about 114 = .ok (.ireturn, 1) := by decide +kernel
theorem dX11_owes_0 : decode cX11_owes 0 = .ok (.aload_n 0, 1) := by decide +kernel
theorem dX11_owes_1 : decode cX11_owes 1 = .ok (.getfield 10, 3) := by decide +kernel
theorem dX11_owes_4 : decode cX11_owes 4 = .ok (.getfield 134, 3) := by decide +kernel
theorem dX11_owes_7 : decode cX11_owes 7 = .ok (.iload_n 1, 1) := by decide +kernel
theorem dX11_owes_8 : decode cX11_owes 8 = .ok (.invokevirtual 333, 3) := by decide +kernel
theorem dX11_owes_11 : decode cX11_owes 11 = .ok (.ifCond .eq 26, 3) := by decide +kernel
theorem dX11_owes_14 : decode cX11_owes 14 = .ok (.aload_n 0, 1) := by decide +kernel
theorem dX11_owes_15 : decode cX11_owes 15 = .ok (.getfield 10, 3) := by decide +kernel
theorem dX11_owes_18 : decode cX11_owes 18 = .ok (.getfield 102, 3) := by decide +kernel
theorem dX11_owes_21 : decode cX11_owes 21 = .ok (.iload_n 2, 1) := by decide +kernel
theorem dX11_owes_22 : decode cX11_owes 22 = .ok (.invokevirtual 115, 3) := by decide +kernel
theorem dX11_owes_25 : decode cX11_owes 25 = .ok (.ifCond .eq 12, 3) := by decide +kernel
theorem dX11_owes_28 : decode cX11_owes 28 = .ok (.iload_n 3, 1) := by decide +kernel
theorem dX11_owes_29 : decode cX11_owes 29 = .ok (.iconst 0, 1) := by decide +kernel
theorem dX11_owes_30 : decode cX11_owes 30 = .ok (.iconst 1, 1) := by decide +kernel
theorem dX11_owes_31 : decode cX11_owes 31 = .ok (.invokestatic 70, 3) := by decide +kernel
theorem dX11_owes_34 : decode cX11_owes 34 = .ok (.ifCond .ne 6, 3) := by decide +kernel
theorem dX11_owes_37 : decode cX11_owes 37 = .ok (.ldc 74, 2) := by decide +kernel
theorem dX11_owes_39 : decode cX11_owes 39 = .ok (.ireturn, 1) := by decide +kernel
theorem dX11_owes_40 : decode cX11_owes 40 = .ok (.aload_n 0, 1) := by decide +kernel
theorem dX11_owes_41 : decode cX11_owes 41 = .ok (.iload_n 1, 1) := by decide +kernel
theorem dX11_owes_42 : decode cX11_owes 42 = .ok (.iload_n 2, 1) := by decide +kernel
theorem dX11_owes_43 : decode cX11_owes 43 = .ok (.invokevirtual 340, 3) := by decide +kernel
theorem dX11_owes_46 : decode cX11_owes 46 = .ok (.istore 4, 2) := by decide +kernel
theorem dX11_owes_48 : decode cX11_owes 48 = .ok (.iload 4, 2) := by decide +kernel
theorem dX11_owes_50 : decode cX11_owes 50 = .ok (.ifCond .ge 7, 3) := by decide +kernel
theorem dX11_owes_53 : decode cX11_owes 53 = .ok (.iconst 0, 1) := by decide +kernel
theorem dX11_owes_54 : decode cX11_owes 54 = .ok (.goto 16, 3) := by decide +kernel
theorem dX11_owes_57 : decode cX11_owes 57 = .ok (.aload_n 0, 1) := by decide +kernel
theorem dX11_owes_58 : decode cX11_owes 58 = .ok (.getfield 10, 3) := by decide +kernel
theorem dX11_owes_61 : decode cX11_owes 61 = .ok (.getfield 134, 3) := by decide +kernel
theorem dX11_owes_64 : decode cX11_owes 64 = .ok (.getfield 330, 3) := by decide +kernel
theorem dX11_owes_67 : decode cX11_owes 67 = .ok (.iload 4, 2) := by decide +kernel
theorem dX11_owes_69 : decode cX11_owes 69 = .ok (.iaload, 1) := by decide +kernel
theorem dX11_owes_70 : decode cX11_owes 70 = .ok (.istore 5, 2) := by decide +kernel
theorem dX11_owes_72 : decode cX11_owes 72 = .ok (.iload_n 3, 1) := by decide +kernel
theorem dX11_owes_73 : decode cX11_owes 73 = .ok (.ifCond .ne 8, 3) := by decide +kernel
theorem dX11_owes_76 : decode cX11_owes 76 = .ok (.iload 5, 2) := by decide +kernel
theorem dX11_owes_78 : decode cX11_owes 78 = .ok (.goto 21, 3) := by decide +kernel
theorem dX11_owes_81 : decode cX11_owes 81 = .ok (.aload_n 0, 1) := by decide +kernel
theorem dX11_owes_82 : decode cX11_owes 82 = .ok (.iload 5, 2) := by decide +kernel
theorem dX11_owes_84 : decode cX11_owes 84 = .ok (.aload_n 0, 1) := by decide +kernel
theorem dX11_owes_85 : decode cX11_owes 85 = .ok (.getfield 10, 3) := by decide +kernel
theorem dX11_owes_88 : decode cX11_owes 88 = .ok (.getfield 134, 3) := by decide +kernel
theorem dX11_owes_91 : decode cX11_owes 91 = .ok (.getfield 301, 3) := by decide +kernel
theorem dX11_owes_94 : decode cX11_owes 94 = .ok (.iload_n 1, 1) := by decide +kernel
theorem dX11_owes_95 : decode cX11_owes 95 = .ok (.iaload, 1) := by decide +kernel
theorem dX11_owes_96 : decode cX11_owes 96 = .ok (.invokevirtual 343, 3) := by decide +kernel
theorem dX11_owes_99 : decode cX11_owes 99 = .ok (.ireturn, 1) := by decide +kernel
theorem dX11_retain_0 : decode cX11_retain 0 = .ok (.aload_n 0, 1) := by decide +kernel
theorem dX11_retain_1 : decode cX11_retain 1 = .ok (.getfield 10, 3) := by decide +kernel
theorem dX11_retain_4 : decode cX11_retain 4 = .ok (.getfield 117, 3) := by decide +kernel
theorem dX11_retain_7 : decode cX11_retain 7 = .ok (.iload_n 1, 1) := by decide +kernel
theorem dX11_retain_8 : decode cX11_retain 8 = .ok (.invokevirtual 128, 3) := by decide +kernel
theorem dX11_retain_11 : decode cX11_retain 11 = .ok (.ifCond .eq 13, 3) := by decide +kernel
theorem dX11_retain_14 : decode cX11_retain 14 = .ok (.iload_n 2, 1) := by decide +kernel
theorem dX11_retain_15 : decode cX11_retain 15 = .ok (.iconst 1, 1) := by decide +kernel
theorem dX11_retain_16 : decode cX11_retain 16 = .ok (.ldc 116, 2) := by decide +kernel
theorem dX11_retain_18 : decode cX11_retain 18 = .ok (.invokestatic 70, 3) := by decide +kernel
theorem dX11_retain_21 : decode cX11_retain 21 = .ok (.ifCond .ne 6, 3) := by decide +kernel
theorem dX11_retain_24 : decode cX11_retain 24 = .ok (.ldc 74, 2) := by decide +kernel
theorem dX11_retain_26 : decode cX11_retain 26 = .ok (.ireturn, 1) := by decide +kernel
theorem dX11_retain_27 : decode cX11_retain 27 = .ok (.aload_n 0, 1) := by decide +kernel
theorem dX11_retain_28 : decode cX11_retain 28 = .ok (.getfield 10, 3) := by decide +kernel
theorem dX11_retain_31 : decode cX11_retain 31 = .ok (.getfield 117, 3) := by decide +kernel
theorem dX11_retain_34 : decode cX11_retain 34 = .ok (.getfield 311, 3) := by decide +kernel
theorem dX11_retain_37 : decode cX11_retain 37 = .ok (.iload_n 1, 1) := by decide +kernel
theorem dX11_retain_38 : decode cX11_retain 38 = .ok (.iaload, 1) := by decide +kernel
theorem dX11_retain_39 : decode cX11_retain 39 = .ok (.iload_n 2, 1) := by decide +kernel
theorem dX11_retain_40 : decode cX11_retain 40 = .ok (.iadd, 1) := by decide +kernel
theorem dX11_retain_41 : decode cX11_retain 41 = .ok (.istore_n 3, 1) := by decide +kernel
theorem dX11_retain_42 : decode cX11_retain 42 = .ok (.iload_n 3, 1) := by decide +kernel
theorem dX11_retain_43 : decode cX11_retain 43 = .ok (.ldc_w 346, 3) := by decide +kernel
theorem dX11_retain_46 : decode cX11_retain 46 = .ok (.if_icmp .le 6, 3) := by decide +kernel
theorem dX11_retain_49 : decode cX11_retain 49 = .ok (.ldc 84, 2) := by decide +kernel
theorem dX11_retain_51 : decode cX11_retain 51 = .ok (.ireturn, 1) := by decide +kernel
theorem dX11_retain_52 : decode cX11_retain 52 = .ok (.aload_n 0, 1) := by decide +kernel
theorem dX11_retain_53 : decode cX11_retain 53 = .ok (.getfield 10, 3) := by decide +kernel
theorem dX11_retain_56 : decode cX11_retain 56 = .ok (.getfield 117, 3) := by decide +kernel
theorem dX11_retain_59 : decode cX11_retain 59 = .ok (.getfield 311, 3) := by decide +kernel
theorem dX11_retain_62 : decode cX11_retain 62 = .ok (.iload_n 1, 1) := by decide +kernel
theorem dX11_retain_63 : decode cX11_retain 63 = .ok (.iload_n 3, 1) := by decide +kernel
theorem dX11_retain_64 : decode cX11_retain 64 = .ok (.iastore, 1) := by decide +kernel
theorem dX11_retain_65 : decode cX11_retain 65 = .ok (.iload_n 3, 1) := by decide +kernel
theorem dX11_retain_66 : decode cX11_retain 66 = .ok (.ireturn, 1) := by decide +kernel
theorem dX11_trust_0 : decode cX11_trust 0 = .ok (.aload_n 0, 1) := by decide +kernel
theorem dX11_trust_1 : decode cX11_trust 1 = .ok (.getfield 10, 3) := by decide +kernel
theorem dX11_trust_4 : decode cX11_trust 4 = .ok (.getfield 102, 3) := by decide +kernel
theorem dX11_trust_7 : decode cX11_trust 7 = .ok (.iload_n 1, 1) := by decide +kernel
theorem dX11_trust_8 : decode cX11_trust 8 = .ok (.invokevirtual 115, 3) := by decide +kernel
theorem dX11_trust_11 : decode cX11_trust 11 = .ok (.ifCond .eq 13, 3) := by decide +kernel
theorem dX11_trust_14 : decode cX11_trust 14 = .ok (.iload_n 2, 1) := by decide +kernel
theorem dX11_trust_15 : decode cX11_trust 15 = .ok (.iconst 0, 1) := by decide +kernel
theorem dX11_trust_16 : decode cX11_trust 16 = .ok (.ldc 116, 2) := by decide +kernel
theorem dX11_trust_18 : decode cX11_trust 18 = .ok (.invokestatic 70, 3) := by decide +kernel
theorem dX11_trust_21 : decode cX11_trust 21 = .ok (.ifCond .ne 6, 3) := by decide +kernel
theorem dX11_trust_24 : decode cX11_trust 24 = .ok (.ldc 74, 2) := by decide +kernel
theorem dX11_trust_26 : decode cX11_trust 26 = .ok (.ireturn, 1) := by decide +kernel
theorem dX11_trust_27 : decode cX11_trust 27 = .ok (.aload_n 0, 1) := by decide +kernel
theorem dX11_trust_28 : decode cX11_trust 28 = .ok (.getfield 10, 3) := by decide +kernel
theorem dX11_trust_31 : decode cX11_trust 31 = .ok (.getfield 102, 3) := by decide +kernel
theorem dX11_trust_34 : decode cX11_trust 34 = .ok (.getfield 109, 3) := by decide +kernel
theorem dX11_trust_37 : decode cX11_trust 37 = .ok (.iload_n 1, 1) := by decide +kernel
theorem dX11_trust_38 : decode cX11_trust 38 = .ok (.iaload, 1) := by decide +kernel
theorem dX11_trust_39 : decode cX11_trust 39 = .ok (.iload_n 2, 1) := by decide +kernel
theorem dX11_trust_40 : decode cX11_trust 40 = .ok (.iadd, 1) := by decide +kernel
theorem dX11_trust_41 : decode cX11_trust 41 = .ok (.istore_n 3, 1) := by decide +kernel
theorem dX11_trust_42 : decode cX11_trust 42 = .ok (.iload_n 3, 1) := by decide +kernel
theorem dX11_trust_43 : decode cX11_trust 43 = .ok (.ldc_w 347, 3) := by decide +kernel
theorem dX11_trust_46 : decode cX11_trust 46 = .ok (.if_icmp .le 6, 3) := by decide +kernel
theorem dX11_trust_49 : decode cX11_trust 49 = .ok (.ldc 84, 2) := by decide +kernel
theorem dX11_trust_51 : decode cX11_trust 51 = .ok (.ireturn, 1) := by decide +kernel
theorem dX11_trust_52 : decode cX11_trust 52 = .ok (.aload_n 0, 1) := by decide +kernel
theorem dX11_trust_53 : decode cX11_trust 53 = .ok (.getfield 10, 3) := by decide +kernel
theorem dX11_trust_56 : decode cX11_trust 56 = .ok (.getfield 102, 3) := by decide +kernel
theorem dX11_trust_59 : decode cX11_trust 59 = .ok (.getfield 109, 3) := by decide +kernel
theorem dX11_trust_62 : decode cX11_trust 62 = .ok (.iload_n 1, 1) := by decide +kernel
theorem dX11_trust_63 : decode cX11_trust 63 = .ok (.iload_n 3, 1) := by decide +kernel
theorem dX11_trust_64 : decode cX11_trust 64 = .ok (.iastore, 1) := by decide +kernel
theorem dX11_trust_65 : decode cX11_trust 65 = .ok (.iload_n 3, 1) := by decide +kernel
theorem dX11_trust_66 : decode cX11_trust 66 = .ok (.ireturn, 1) := by decide +kernel
theorem dX11_draw_0 : decode cX11_draw 0 = .ok (.aload_n 0, 1) := by decide +kernel
theorem dX11_draw_1 : decode cX11_draw 1 = .ok (.getfield 10, 3) := by decide +kernel
theorem dX11_draw_4 : decode cX11_draw 4 = .ok (.getfield 134, 3) := by decide +kernel
theorem dX11_draw_7 : decode cX11_draw 7 = .ok (.iload_n 1, 1) := by decide +kernel
theorem dX11_draw_8 : decode cX11_draw 8 = .ok (.invokevirtual 333, 3) := by decide +kernel
theorem dX11_draw_11 : decode cX11_draw 11 = .ok (.ifCond .eq 17, 3) := by decide +kernel
theorem dX11_draw_14 : decode cX11_draw 14 = .ok (.aload_n 0, 1) := by decide +kernel
theorem dX11_draw_15 : decode cX11_draw 15 = .ok (.getfield 10, 3) := by decide +kernel
theorem dX11_draw_18 : decode cX11_draw 18 = .ok (.getfield 102, 3) := by decide +kernel
theorem dX11_draw_21 : decode cX11_draw 21 = .ok (.iload_n 2, 1) := by decide +kernel
theorem dX11_draw_22 : decode cX11_draw 22 = .ok (.invokevirtual 115, 3) := by decide +kernel
theorem dX11_draw_25 : decode cX11_draw 25 = .ok (.ifCond .ne 6, 3) := by decide +kernel
theorem dX11_draw_28 : decode cX11_draw 28 = .ok (.ldc 74, 2) := by decide +kernel
theorem dX11_draw_30 : decode cX11_draw 30 = .ok (.ireturn, 1) := by decide +kernel
theorem dX11_draw_31 : decode cX11_draw 31 = .ok (.aload_n 0, 1) := by decide +kernel
theorem dX11_draw_32 : decode cX11_draw 32 = .ok (.iload_n 1, 1) := by decide +kernel
theorem dX11_draw_33 : decode cX11_draw 33 = .ok (.iload_n 2, 1) := by decide +kernel
theorem dX11_draw_34 : decode cX11_draw 34 = .ok (.invokevirtual 340, 3) := by decide +kernel
theorem dX11_draw_37 : decode cX11_draw 37 = .ok (.istore_n 3, 1) := by decide +kernel
theorem dX11_draw_38 : decode cX11_draw 38 = .ok (.iload_n 3, 1) := by decide +kernel
theorem dX11_draw_39 : decode cX11_draw 39 = .ok (.ifCond .ge 5, 3) := by decide +kernel
theorem dX11_draw_42 : decode cX11_draw 42 = .ok (.iconst 0, 1) := by decide +kernel
theorem dX11_draw_43 : decode cX11_draw 43 = .ok (.ireturn, 1) := by decide +kernel
theorem dX11_draw_44 : decode cX11_draw 44 = .ok (.aload_n 0, 1) := by decide +kernel
theorem dX11_draw_45 : decode cX11_draw 45 = .ok (.getfield 10, 3) := by decide +kernel
theorem dX11_draw_48 : decode cX11_draw 48 = .ok (.getfield 134, 3) := by decide +kernel
theorem dX11_draw_51 : decode cX11_draw 51 = .ok (.getfield 330, 3) := by decide +kernel
theorem dX11_draw_54 : decode cX11_draw 54 = .ok (.iload_n 3, 1) := by decide +kernel
theorem dX11_draw_55 : decode cX11_draw 55 = .ok (.iaload, 1) := by decide +kernel
theorem dX11_draw_56 : decode cX11_draw 56 = .ok (.aload_n 0, 1) := by decide +kernel
theorem dX11_draw_57 : decode cX11_draw 57 = .ok (.getfield 10, 3) := by decide +kernel
theorem dX11_draw_60 : decode cX11_draw 60 = .ok (.getfield 102, 3) := by decide +kernel
theorem dX11_draw_63 : decode cX11_draw 63 = .ok (.getfield 109, 3) := by decide +kernel
theorem dX11_draw_66 : decode cX11_draw 66 = .ok (.iload_n 2, 1) := by decide +kernel
theorem dX11_draw_67 : decode cX11_draw 67 = .ok (.iaload, 1) := by decide +kernel
theorem dX11_draw_68 : decode cX11_draw 68 = .ok (.invokestatic 314, 3) := by decide +kernel
theorem dX11_draw_71 : decode cX11_draw 71 = .ok (.istore 4, 2) := by decide +kernel
theorem dX11_draw_73 : decode cX11_draw 73 = .ok (.aload_n 0, 1) := by decide +kernel
theorem dX11_draw_74 : decode cX11_draw 74 = .ok (.getfield 10, 3) := by decide +kernel
theorem dX11_draw_77 : decode cX11_draw 77 = .ok (.getfield 134, 3) := by decide +kernel
theorem dX11_draw_80 : decode cX11_draw 80 = .ok (.getfield 330, 3) := by decide +kernel
theorem dX11_draw_83 : decode cX11_draw 83 = .ok (.iload_n 3, 1) := by decide +kernel
theorem dX11_draw_84 : decode cX11_draw 84 = .ok (.dup2, 1) := by decide +kernel
theorem dX11_draw_85 : decode cX11_draw 85 = .ok (.iaload, 1) := by decide +kernel
theorem dX11_draw_86 : decode cX11_draw 86 = .ok (.iload 4, 2) := by decide +kernel
theorem dX11_draw_88 : decode cX11_draw 88 = .ok (.isub, 1) := by decide +kernel
theorem dX11_draw_89 : decode cX11_draw 89 = .ok (.iastore, 1) := by decide +kernel
theorem dX11_draw_90 : decode cX11_draw 90 = .ok (.aload_n 0, 1) := by decide +kernel
theorem dX11_draw_91 : decode cX11_draw 91 = .ok (.getfield 10, 3) := by decide +kernel
theorem dX11_draw_94 : decode cX11_draw 94 = .ok (.getfield 102, 3) := by decide +kernel
theorem dX11_draw_97 : decode cX11_draw 97 = .ok (.getfield 109, 3) := by decide +kernel
theorem dX11_draw_100 : decode cX11_draw 100 = .ok (.iload_n 2, 1) := by decide +kernel
theorem dX11_draw_101 : decode cX11_draw 101 = .ok (.dup2, 1) := by decide +kernel
theorem dX11_draw_102 : decode cX11_draw 102 = .ok (.iaload, 1) := by decide +kernel
theorem dX11_draw_103 : decode cX11_draw 103 = .ok (.iload 4, 2) := by decide +kernel
theorem dX11_draw_105 : decode cX11_draw 105 = .ok (.isub, 1) := by decide +kernel
theorem dX11_draw_106 : decode cX11_draw 106 = .ok (.iastore, 1) := by decide +kernel
theorem dX11_draw_107 : decode cX11_draw 107 = .ok (.iload 4, 2) := by decide +kernel
theorem dX11_draw_109 : decode cX11_draw 109 = .ok (.ireturn, 1) := by decide +kernel
theorem dX11_pay_0 : decode cX11_pay 0 = .ok (.aload_n 0, 1) := by decide +kernel
theorem dX11_pay_1 : decode cX11_pay 1 = .ok (.getfield 10, 3) := by decide +kernel
theorem dX11_pay_4 : decode cX11_pay 4 = .ok (.getfield 134, 3) := by decide +kernel
theorem dX11_pay_7 : decode cX11_pay 7 = .ok (.iload_n 1, 1) := by decide +kernel
theorem dX11_pay_8 : decode cX11_pay 8 = .ok (.invokevirtual 333, 3) := by decide +kernel
theorem dX11_pay_11 : decode cX11_pay 11 = .ok (.ifCond .eq 27, 3) := by decide +kernel
theorem dX11_pay_14 : decode cX11_pay 14 = .ok (.aload_n 0, 1) := by decide +kernel
theorem dX11_pay_15 : decode cX11_pay 15 = .ok (.getfield 10, 3) := by decide +kernel
theorem dX11_pay_18 : decode cX11_pay 18 = .ok (.getfield 102, 3) := by decide +kernel
theorem dX11_pay_21 : decode cX11_pay 21 = .ok (.iload_n 2, 1) := by decide +kernel
theorem dX11_pay_22 : decode cX11_pay 22 = .ok (.invokevirtual 115, 3) := by decide +kernel
theorem dX11_pay_25 : decode cX11_pay 25 = .ok (.ifCond .eq 13, 3) := by decide +kernel
theorem dX11_pay_28 : decode cX11_pay 28 = .ok (.iload_n 3, 1) := by decide +kernel
theorem dX11_pay_29 : decode cX11_pay 29 = .ok (.iconst 1, 1) := by decide +kernel
theorem dX11_pay_30 : decode cX11_pay 30 = .ok (.ldc 116, 2) := by decide +kernel
theorem dX11_pay_32 : decode cX11_pay 32 = .ok (.invokestatic 70, 3) := by decide +kernel
theorem dX11_pay_35 : decode cX11_pay 35 = .ok (.ifCond .ne 6, 3) := by decide +kernel
theorem dX11_pay_38 : decode cX11_pay 38 = .ok (.ldc 74, 2) := by decide +kernel
theorem dX11_pay_40 : decode cX11_pay 40 = .ok (.ireturn, 1) := by decide +kernel
theorem dX11_pay_41 : decode cX11_pay 41 = .ok (.aload_n 0, 1) := by decide +kernel
theorem dX11_pay_42 : decode cX11_pay 42 = .ok (.iload_n 1, 1) := by decide +kernel
theorem dX11_pay_43 : decode cX11_pay 43 = .ok (.iload_n 2, 1) := by decide +kernel
theorem dX11_pay_44 : decode cX11_pay 44 = .ok (.invokevirtual 340, 3) := by decide +kernel
theorem dX11_pay_47 : decode cX11_pay 47 = .ok (.istore 4, 2) := by decide +kernel
theorem dX11_pay_49 : decode cX11_pay 49 = .ok (.iload 4, 2) := by decide +kernel
theorem dX11_pay_51 : decode cX11_pay 51 = .ok (.ifCond .ge 6, 3) := by decide +kernel
theorem dX11_pay_54 : decode cX11_pay 54 = .ok (.ldc 143, 2) := by decide +kernel
theorem dX11_pay_56 : decode cX11_pay 56 = .ok (.ireturn, 1) := by decide +kernel
theorem dX11_pay_57 : decode cX11_pay 57 = .ok (.aload_n 0, 1) := by decide +kernel
theorem dX11_pay_58 : decode cX11_pay 58 = .ok (.getfield 10, 3) := by decide +kernel
theorem dX11_pay_61 : decode cX11_pay 61 = .ok (.getfield 134, 3) := by decide +kernel
theorem dX11_pay_64 : decode cX11_pay 64 = .ok (.getfield 330, 3) := by decide +kernel
theorem dX11_pay_67 : decode cX11_pay 67 = .ok (.iload 4, 2) := by decide +kernel
theorem dX11_pay_69 : decode cX11_pay 69 = .ok (.iaload, 1) := by decide +kernel
theorem dX11_pay_70 : decode cX11_pay 70 = .ok (.iload_n 3, 1) := by decide +kernel
theorem dX11_pay_71 : decode cX11_pay 71 = .ok (.invokestatic 314, 3) := by decide +kernel
theorem dX11_pay_74 : decode cX11_pay 74 = .ok (.istore 5, 2) := by decide +kernel
theorem dX11_pay_76 : decode cX11_pay 76 = .ok (.iload_n 3, 1) := by decide +kernel
theorem dX11_pay_77 : decode cX11_pay 77 = .ok (.iload 5, 2) := by decide +kernel
theorem dX11_pay_79 : decode cX11_pay 79 = .ok (.isub, 1) := by decide +kernel
theorem dX11_pay_80 : decode cX11_pay 80 = .ok (.istore 6, 2) := by decide +kernel
theorem dX11_pay_82 : decode cX11_pay 82 = .ok (.aload_n 0, 1) := by decide +kernel
theorem dX11_pay_83 : decode cX11_pay 83 = .ok (.getfield 10, 3) := by decide +kernel
theorem dX11_pay_86 : decode cX11_pay 86 = .ok (.getfield 102, 3) := by decide +kernel
theorem dX11_pay_89 : decode cX11_pay 89 = .ok (.getfield 109, 3) := by decide +kernel
theorem dX11_pay_92 : decode cX11_pay 92 = .ok (.iload_n 2, 1) := by decide +kernel
theorem dX11_pay_93 : decode cX11_pay 93 = .ok (.iaload, 1) := by decide +kernel
theorem dX11_pay_94 : decode cX11_pay 94 = .ok (.iload 6, 2) := by decide +kernel
theorem dX11_pay_96 : decode cX11_pay 96 = .ok (.iadd, 1) := by decide +kernel
theorem dX11_pay_97 : decode cX11_pay 97 = .ok (.ldc_w 347, 3) := by decide +kernel
theorem dX11_pay_100 : decode cX11_pay 100 = .ok (.if_icmp .le 6, 3) := by decide +kernel
theorem dX11_pay_103 : decode cX11_pay 103 = .ok (.ldc 84, 2) := by decide +kernel
theorem dX11_pay_105 : decode cX11_pay 105 = .ok (.ireturn, 1) := by decide +kernel
theorem dX11_pay_106 : decode cX11_pay 106 = .ok (.aload_n 0, 1) := by decide +kernel
theorem dX11_pay_107 : decode cX11_pay 107 = .ok (.getfield 10, 3) := by decide +kernel
theorem dX11_pay_110 : decode cX11_pay 110 = .ok (.getfield 134, 3) := by decide +kernel
theorem dX11_pay_113 : decode cX11_pay 113 = .ok (.getfield 330, 3) := by decide +kernel
theorem dX11_pay_116 : decode cX11_pay 116 = .ok (.iload 4, 2) := by decide +kernel
theorem dX11_pay_118 : decode cX11_pay 118 = .ok (.dup2, 1) := by decide +kernel
theorem dX11_pay_119 : decode cX11_pay 119 = .ok (.iaload, 1) := by decide +kernel
theorem dX11_pay_120 : decode cX11_pay 120 = .ok (.iload 5, 2) := by decide +kernel
theorem dX11_pay_122 : decode cX11_pay 122 = .ok (.isub, 1) := by decide +kernel
theorem dX11_pay_123 : decode cX11_pay 123 = .ok (.iastore, 1) := by decide +kernel
theorem dX11_pay_124 : decode cX11_pay 124 = .ok (.aload_n 0, 1) := by decide +kernel
theorem dX11_pay_125 : decode cX11_pay 125 = .ok (.getfield 10, 3) := by decide +kernel
theorem dX11_pay_128 : decode cX11_pay 128 = .ok (.getfield 102, 3) := by decide +kernel
theorem dX11_pay_131 : decode cX11_pay 131 = .ok (.getfield 109, 3) := by decide +kernel
theorem dX11_pay_134 : decode cX11_pay 134 = .ok (.iload_n 2, 1) := by decide +kernel
theorem dX11_pay_135 : decode cX11_pay 135 = .ok (.dup2, 1) := by decide +kernel
theorem dX11_pay_136 : decode cX11_pay 136 = .ok (.iaload, 1) := by decide +kernel
theorem dX11_pay_137 : decode cX11_pay 137 = .ok (.iload 6, 2) := by decide +kernel
theorem dX11_pay_139 : decode cX11_pay 139 = .ok (.iadd, 1) := by decide +kernel
theorem dX11_pay_140 : decode cX11_pay 140 = .ok (.iastore, 1) := by decide +kernel
theorem dX11_pay_141 : decode cX11_pay 141 = .ok (.iload 6, 2) := by decide +kernel
theorem dX11_pay_143 : decode cX11_pay 143 = .ok (.ireturn, 1) := by decide +kernel
theorem dX11_contest_0 : decode cX11_contest 0 = .ok (.aload_n 0, 1) := by decide +kernel
theorem dX11_contest_1 : decode cX11_contest 1 = .ok (.getfield 10, 3) := by decide +kernel
theorem dX11_contest_4 : decode cX11_contest 4 = .ok (.getfield 173, 3) := by decide +kernel
theorem dX11_contest_7 : decode cX11_contest 7 = .ok (.astore_n 2, 1) := by decide +kernel
theorem dX11_contest_8 : decode cX11_contest 8 = .ok (.aload_n 2, 1) := by decide +kernel
theorem dX11_contest_9 : decode cX11_contest 9 = .ok (.iload_n 1, 1) := by decide +kernel
theorem dX11_contest_10 : decode cX11_contest 10 = .ok (.invokevirtual 211, 3) := by decide +kernel
theorem dX11_contest_13 : decode cX11_contest 13 = .ok (.ifCond .ne 6, 3) := by decide +kernel
theorem dX11_contest_16 : decode cX11_contest 16 = .ok (.ldc 74, 2) := by decide +kernel
theorem dX11_contest_18 : decode cX11_contest 18 = .ok (.ireturn, 1) := by decide +kernel
theorem dX11_contest_19 : decode cX11_contest 19 = .ok (.aload_n 2, 1) := by decide +kernel
theorem dX11_contest_20 : decode cX11_contest 20 = .ok (.getfield 203, 3) := by decide +kernel
theorem dX11_contest_23 : decode cX11_contest 23 = .ok (.iload_n 1, 1) := by decide +kernel
theorem dX11_contest_24 : decode cX11_contest 24 = .ok (.iaload, 1) := by decide +kernel
theorem dX11_contest_25 : decode cX11_contest 25 = .ok (.ldc 133, 2) := by decide +kernel
theorem dX11_contest_27 : decode cX11_contest 27 = .ok (.if_icmp .eq 14, 3) := by decide +kernel
theorem dX11_contest_30 : decode cX11_contest 30 = .ok (.aload_n 2, 1) := by decide +kernel
theorem dX11_contest_31 : decode cX11_contest 31 = .ok (.getfield 208, 3) := by decide +kernel
theorem dX11_contest_34 : decode cX11_contest 34 = .ok (.iload_n 1, 1) := by decide +kernel
theorem dX11_contest_35 : decode cX11_contest 35 = .ok (.iaload, 1) := by decide +kernel
theorem dX11_contest_36 : decode cX11_contest 36 = .ok (.ldc 133, 2) := by decide +kernel
theorem dX11_contest_38 : decode cX11_contest 38 = .ok (.if_icmp .eq 6, 3) := by decide +kernel
theorem dX11_contest_41 : decode cX11_contest 41 = .ok (.ldc 143, 2) := by decide +kernel
theorem dX11_contest_43 : decode cX11_contest 43 = .ok (.ireturn, 1) := by decide +kernel
theorem dX11_contest_44 : decode cX11_contest 44 = .ok (.aload_n 0, 1) := by decide +kernel
theorem dX11_contest_45 : decode cX11_contest 45 = .ok (.getfield 35, 3) := by decide +kernel
theorem dX11_contest_48 : decode cX11_contest 48 = .ok (.iload_n 1, 1) := by decide +kernel
theorem dX11_contest_49 : decode cX11_contest 49 = .ok (.invokevirtual 348, 3) := by decide +kernel
theorem dX11_contest_52 : decode cX11_contest 52 = .ok (.istore_n 3, 1) := by decide +kernel
theorem dX11_contest_53 : decode cX11_contest 53 = .ok (.iload_n 3, 1) := by decide +kernel
theorem dX11_contest_54 : decode cX11_contest 54 = .ok (.ldc 133, 2) := by decide +kernel
theorem dX11_contest_56 : decode cX11_contest 56 = .ok (.if_icmp .ne 6, 3) := by decide +kernel
theorem dX11_contest_59 : decode cX11_contest 59 = .ok (.ldc 143, 2) := by decide +kernel
theorem dX11_contest_61 : decode cX11_contest 61 = .ok (.ireturn, 1) := by decide +kernel
theorem dX11_contest_62 : decode cX11_contest 62 = .ok (.aload_n 0, 1) := by decide +kernel
theorem dX11_contest_63 : decode cX11_contest 63 = .ok (.getfield 35, 3) := by decide +kernel
theorem dX11_contest_66 : decode cX11_contest 66 = .ok (.iload_n 1, 1) := by decide +kernel
theorem dX11_contest_67 : decode cX11_contest 67 = .ok (.aload_n 0, 1) := by decide +kernel
theorem dX11_contest_68 : decode cX11_contest 68 = .ok (.getfield 10, 3) := by decide +kernel
theorem dX11_contest_71 : decode cX11_contest 71 = .ok (.getfield 154, 3) := by decide +kernel
theorem dX11_contest_74 : decode cX11_contest 74 = .ok (.invokevirtual 250, 3) := by decide +kernel
theorem dX11_contest_77 : decode cX11_contest 77 = .ok (.istore 4, 2) := by decide +kernel
theorem dX11_contest_79 : decode cX11_contest 79 = .ok (.aload_n 2, 1) := by decide +kernel
theorem dX11_contest_80 : decode cX11_contest 80 = .ok (.getfield 205, 3) := by decide +kernel
theorem dX11_contest_83 : decode cX11_contest 83 = .ok (.iload_n 1, 1) := by decide +kernel
theorem dX11_contest_84 : decode cX11_contest 84 = .ok (.iaload, 1) := by decide +kernel
theorem dX11_contest_85 : decode cX11_contest 85 = .ok (.istore 5, 2) := by decide +kernel
theorem dX11_contest_87 : decode cX11_contest 87 = .ok (.iconst 0, 1) := by decide +kernel
theorem dX11_contest_88 : decode cX11_contest 88 = .ok (.istore 6, 2) := by decide +kernel
theorem dX11_contest_90 : decode cX11_contest 90 = .ok (.iload 4, 2) := by decide +kernel
theorem dX11_contest_92 : decode cX11_contest 92 = .ok (.ifCond .le 25, 3) := by decide +kernel
theorem dX11_contest_95 : decode cX11_contest 95 = .ok (.iload 4, 2) := by decide +kernel
theorem dX11_contest_97 : decode cX11_contest 97 = .ok (.iload_n 3, 1) := by decide +kernel
theorem dX11_contest_98 : decode cX11_contest 98 = .ok (.if_icmp .le 19, 3) := by decide +kernel
theorem dX11_contest_101 : decode cX11_contest 101 = .ok (.iload 5, 2) := by decide +kernel
theorem dX11_contest_103 : decode cX11_contest 103 = .ok (.iload 5, 2) := by decide +kernel
theorem dX11_contest_105 : decode cX11_contest 105 = .ok (.i2l, 1) := by decide +kernel
theorem dX11_contest_106 : decode cX11_contest 106 = .ok (.iload_n 3, 1) := by decide +kernel
theorem dX11_contest_107 : decode cX11_contest 107 = .ok (.i2l, 1) := by decide +kernel
theorem dX11_contest_108 : decode cX11_contest 108 = .ok (.lmul, 1) := by decide +kernel
theorem dX11_contest_109 : decode cX11_contest 109 = .ok (.iload 4, 2) := by decide +kernel
theorem dX11_contest_111 : decode cX11_contest 111 = .ok (.i2l, 1) := by decide +kernel
theorem dX11_contest_112 : decode cX11_contest 112 = .ok (.ldiv, 1) := by decide +kernel
theorem dX11_contest_113 : decode cX11_contest 113 = .ok (.l2i, 1) := by decide +kernel
theorem dX11_contest_114 : decode cX11_contest 114 = .ok (.isub, 1) := by decide +kernel
theorem dX11_contest_115 : decode cX11_contest 115 = .ok (.istore 6, 2) := by decide +kernel
theorem dX11_contest_117 : decode cX11_contest 117 = .ok (.aload_n 0, 1) := by decide +kernel
theorem dX11_contest_118 : decode cX11_contest 118 = .ok (.getfield 10, 3) := by decide +kernel
theorem dX11_contest_121 : decode cX11_contest 121 = .ok (.getfield 117, 3) := by decide +kernel
theorem dX11_contest_124 : decode cX11_contest 124 = .ok (.aload_n 2, 1) := by decide +kernel
theorem dX11_contest_125 : decode cX11_contest 125 = .ok (.getfield 183, 3) := by decide +kernel
theorem dX11_contest_128 : decode cX11_contest 128 = .ok (.iload_n 1, 1) := by decide +kernel
theorem dX11_contest_129 : decode cX11_contest 129 = .ok (.iaload, 1) := by decide +kernel
theorem dX11_contest_130 : decode cX11_contest 130 = .ok (.iload 6, 2) := by decide +kernel
theorem dX11_contest_132 : decode cX11_contest 132 = .ok (.aload_n 0, 1) := by decide +kernel
theorem dX11_contest_133 : decode cX11_contest 133 = .ok (.getfield 67, 3) := by decide +kernel
theorem dX11_contest_136 : decode cX11_contest 136 = .ok (.invokevirtual 326, 3) := by decide +kernel
theorem dX11_contest_139 : decode cX11_contest 139 = .ok (.aload_n 0, 1) := by decide +kernel
theorem dX11_contest_140 : decode cX11_contest 140 = .ok (.aload_n 2, 1) := by decide +kernel
theorem dX11_contest_141 : decode cX11_contest 141 = .ok (.getfield 203, 3) := by decide +kernel
theorem dX11_contest_144 : decode cX11_contest 144 = .ok (.iload_n 1, 1) := by decide +kernel
theorem dX11_contest_145 : decode cX11_contest 145 = .ok (.iaload, 1) := by decide +kernel
theorem dX11_contest_146 : decode cX11_contest 146 = .ok (.invokevirtual 351, 3) := by decide +kernel
theorem dX11_contest_149 : decode cX11_contest 149 = .ok (.ifCond .ne 6, 3) := by decide +kernel
theorem dX11_contest_152 : decode cX11_contest 152 = .ok (.ldc 84, 2) := by decide +kernel
theorem dX11_contest_154 : decode cX11_contest 154 = .ok (.ireturn, 1) := by decide +kernel
theorem dX11_contest_155 : decode cX11_contest 155 = .ok (.aload_n 0, 1) := by decide +kernel
theorem dX11_contest_156 : decode cX11_contest 156 = .ok (.aload_n 2, 1) := by decide +kernel
theorem dX11_contest_157 : decode cX11_contest 157 = .ok (.getfield 203, 3) := by decide +kernel
theorem dX11_contest_160 : decode cX11_contest 160 = .ok (.iload_n 1, 1) := by decide +kernel
theorem dX11_contest_161 : decode cX11_contest 161 = .ok (.iaload, 1) := by decide +kernel
theorem dX11_contest_162 : decode cX11_contest 162 = .ok (.invokevirtual 354, 3) := by decide +kernel
theorem dX11_contest_165 : decode cX11_contest 165 = .ok (.aload_n 2, 1) := by decide +kernel
theorem dX11_contest_166 : decode cX11_contest 166 = .ok (.getfield 208, 3) := by decide +kernel
theorem dX11_contest_169 : decode cX11_contest 169 = .ok (.iload_n 1, 1) := by decide +kernel
theorem dX11_contest_170 : decode cX11_contest 170 = .ok (.iload 6, 2) := by decide +kernel
theorem dX11_contest_172 : decode cX11_contest 172 = .ok (.iastore, 1) := by decide +kernel
theorem dX11_contest_173 : decode cX11_contest 173 = .ok (.iload 6, 2) := by decide +kernel
theorem dX11_contest_175 : decode cX11_contest 175 = .ok (.ireturn, 1) := by decide +kernel
theorem dX11_middle_0 : decode cX11_middle 0 = .ok (.aload_n 0, 1) := by decide +kernel
theorem dX11_middle_1 : decode cX11_middle 1 = .ok (.getfield 10, 3) := by decide +kernel
theorem dX11_middle_4 : decode cX11_middle 4 = .ok (.getfield 173, 3) := by decide +kernel
theorem dX11_middle_7 : decode cX11_middle 7 = .ok (.iload_n 1, 1) := by decide +kernel
theorem dX11_middle_8 : decode cX11_middle 8 = .ok (.invokevirtual 211, 3) := by decide +kernel
theorem dX11_middle_11 : decode cX11_middle 11 = .ok (.ifCond .ne 6, 3) := by decide +kernel
theorem dX11_middle_14 : decode cX11_middle 14 = .ok (.ldc 74, 2) := by decide +kernel
theorem dX11_middle_16 : decode cX11_middle 16 = .ok (.ireturn, 1) := by decide +kernel
theorem dX11_middle_17 : decode cX11_middle 17 = .ok (.aload_n 0, 1) := by decide +kernel
theorem dX11_middle_18 : decode cX11_middle 18 = .ok (.getfield 10, 3) := by decide +kernel
theorem dX11_middle_21 : decode cX11_middle 21 = .ok (.getfield 173, 3) := by decide +kernel
theorem dX11_middle_24 : decode cX11_middle 24 = .ok (.getfield 203, 3) := by decide +kernel
theorem dX11_middle_27 : decode cX11_middle 27 = .ok (.iload_n 1, 1) := by decide +kernel
theorem dX11_middle_28 : decode cX11_middle 28 = .ok (.iaload, 1) := by decide +kernel
theorem dX11_middle_29 : decode cX11_middle 29 = .ok (.ldc 133, 2) := by decide +kernel
theorem dX11_middle_31 : decode cX11_middle 31 = .ok (.if_icmp .ne 6, 3) := by decide +kernel
theorem dX11_middle_34 : decode cX11_middle 34 = .ok (.ldc 143, 2) := by decide +kernel
theorem dX11_middle_36 : decode cX11_middle 36 = .ok (.ireturn, 1) := by decide +kernel
theorem dX11_middle_37 : decode cX11_middle 37 = .ok (.aload_n 0, 1) := by decide +kernel
theorem dX11_middle_38 : decode cX11_middle 38 = .ok (.getfield 35, 3) := by decide +kernel
theorem dX11_middle_41 : decode cX11_middle 41 = .ok (.iload_n 1, 1) := by decide +kernel
theorem dX11_middle_42 : decode cX11_middle 42 = .ok (.invokevirtual 348, 3) := by decide +kernel
theorem dX11_middle_45 : decode cX11_middle 45 = .ok (.istore_n 2, 1) := by decide +kernel
theorem dX11_middle_46 : decode cX11_middle 46 = .ok (.iload_n 2, 1) := by decide +kernel
theorem dX11_middle_47 : decode cX11_middle 47 = .ok (.ldc 133, 2) := by decide +kernel
theorem dX11_middle_49 : decode cX11_middle 49 = .ok (.if_icmp .ne 8, 3) := by decide +kernel
theorem dX11_middle_52 : decode cX11_middle 52 = .ok (.ldc 143, 2) := by decide +kernel
theorem dX11_middle_54 : decode cX11_middle 54 = .ok (.goto 4, 3) := by decide +kernel
theorem dX11_middle_57 : decode cX11_middle 57 = .ok (.iload_n 2, 1) := by decide +kernel
theorem dX11_middle_58 : decode cX11_middle 58 = .ok (.ireturn, 1) := by decide +kernel
theorem dX11_stage_0 : decode cX11_stage 0 = .ok (.aload_n 0, 1) := by decide +kernel
theorem dX11_stage_1 : decode cX11_stage 1 = .ok (.getfield 10, 3) := by decide +kernel
theorem dX11_stage_4 : decode cX11_stage 4 = .ok (.getfield 117, 3) := by decide +kernel
theorem dX11_stage_7 : decode cX11_stage 7 = .ok (.iload_n 1, 1) := by decide +kernel
theorem dX11_stage_8 : decode cX11_stage 8 = .ok (.invokevirtual 128, 3) := by decide +kernel
theorem dX11_stage_11 : decode cX11_stage 11 = .ok (.ifCond .eq 12, 3) := by decide +kernel
theorem dX11_stage_14 : decode cX11_stage 14 = .ok (.iload_n 2, 1) := by decide +kernel
theorem dX11_stage_15 : decode cX11_stage 15 = .ok (.iconst 1, 1) := by decide +kernel
theorem dX11_stage_16 : decode cX11_stage 16 = .ok (.iconst 5, 1) := by decide +kernel
theorem dX11_stage_17 : decode cX11_stage 17 = .ok (.invokestatic 70, 3) := by decide +kernel
theorem dX11_stage_20 : decode cX11_stage 20 = .ok (.ifCond .ne 6, 3) := by decide +kernel
theorem dX11_stage_23 : decode cX11_stage 23 = .ok (.ldc 74, 2) := by decide +kernel
theorem dX11_stage_25 : decode cX11_stage 25 = .ok (.ireturn, 1) := by decide +kernel
theorem dX11_stage_26 : decode cX11_stage 26 = .ok (.iload_n 2, 1) := by decide +kernel
theorem dX11_stage_27 : decode cX11_stage 27 = .ok (.aload_n 0, 1) := by decide +kernel
theorem dX11_stage_28 : decode cX11_stage 28 = .ok (.getfield 10, 3) := by decide +kernel
theorem dX11_stage_31 : decode cX11_stage 31 = .ok (.getfield 117, 3) := by decide +kernel
theorem dX11_stage_34 : decode cX11_stage 34 = .ok (.getfield 357, 3) := by decide +kernel
theorem dX11_stage_37 : decode cX11_stage 37 = .ok (.iload_n 1, 1) := by decide +kernel
theorem dX11_stage_38 : decode cX11_stage 38 = .ok (.iaload, 1) := by decide +kernel
theorem dX11_stage_39 : decode cX11_stage 39 = .ok (.if_icmp .gt 6, 3) := by decide +kernel
theorem dX11_stage_42 : decode cX11_stage 42 = .ok (.ldc 143, 2) := by decide +kernel
theorem dX11_stage_44 : decode cX11_stage 44 = .ok (.ireturn, 1) := by decide +kernel
theorem dX11_stage_45 : decode cX11_stage 45 = .ok (.aload_n 0, 1) := by decide +kernel
theorem dX11_stage_46 : decode cX11_stage 46 = .ok (.getfield 35, 3) := by decide +kernel
theorem dX11_stage_49 : decode cX11_stage 49 = .ok (.iload_n 1, 1) := by decide +kernel
theorem dX11_stage_50 : decode cX11_stage 50 = .ok (.aload_n 0, 1) := by decide +kernel
theorem dX11_stage_51 : decode cX11_stage 51 = .ok (.getfield 10, 3) := by decide +kernel
theorem dX11_stage_54 : decode cX11_stage 54 = .ok (.getfield 154, 3) := by decide +kernel
theorem dX11_stage_57 : decode cX11_stage 57 = .ok (.invokevirtual 259, 3) := by decide +kernel
theorem dX11_stage_60 : decode cX11_stage 60 = .ok (.istore_n 3, 1) := by decide +kernel
theorem dX11_stage_61 : decode cX11_stage 61 = .ok (.aload_n 0, 1) := by decide +kernel
theorem dX11_stage_62 : decode cX11_stage 62 = .ok (.getfield 10, 3) := by decide +kernel
theorem dX11_stage_65 : decode cX11_stage 65 = .ok (.getfield 117, 3) := by decide +kernel
theorem dX11_stage_68 : decode cX11_stage 68 = .ok (.getfield 357, 3) := by decide +kernel
theorem dX11_stage_71 : decode cX11_stage 71 = .ok (.iload_n 1, 1) := by decide +kernel
theorem dX11_stage_72 : decode cX11_stage 72 = .ok (.iload_n 2, 1) := by decide +kernel
theorem dX11_stage_73 : decode cX11_stage 73 = .ok (.iastore, 1) := by decide +kernel
theorem dX11_stage_74 : decode cX11_stage 74 = .ok (.aload_n 0, 1) := by decide +kernel
theorem dX11_stage_75 : decode cX11_stage 75 = .ok (.getfield 10, 3) := by decide +kernel
theorem dX11_stage_78 : decode cX11_stage 78 = .ok (.getfield 117, 3) := by decide +kernel
theorem dX11_stage_81 : decode cX11_stage 81 = .ok (.getfield 360, 3) := by decide +kernel
theorem dX11_stage_84 : decode cX11_stage 84 = .ok (.iload_n 1, 1) := by decide +kernel
theorem dX11_stage_85 : decode cX11_stage 85 = .ok (.bipush 6, 2) := by decide +kernel
theorem dX11_stage_87 : decode cX11_stage 87 = .ok (.imul, 1) := by decide +kernel
theorem dX11_stage_88 : decode cX11_stage 88 = .ok (.iload_n 2, 1) := by decide +kernel
theorem dX11_stage_89 : decode cX11_stage 89 = .ok (.iadd, 1) := by decide +kernel
theorem dX11_stage_90 : decode cX11_stage 90 = .ok (.iload_n 3, 1) := by decide +kernel
theorem dX11_stage_91 : decode cX11_stage 91 = .ok (.iastore, 1) := by decide +kernel
theorem dX11_stage_92 : decode cX11_stage 92 = .ok (.iload_n 3, 1) := by decide +kernel
theorem dX11_stage_93 : decode cX11_stage 93 = .ok (.ireturn, 1) := by decide +kernel
theorem dX11_foretold_0 : decode cX11_foretold 0 = .ok (.aload_n 0, 1) := by decide +kernel
theorem dX11_foretold_1 : decode cX11_foretold 1 = .ok (.getfield 10, 3) := by decide +kernel
theorem dX11_foretold_4 : decode cX11_foretold 4 = .ok (.getfield 117, 3) := by decide +kernel
theorem dX11_foretold_7 : decode cX11_foretold 7 = .ok (.astore_n 3, 1) := by decide +kernel
theorem dX11_foretold_8 : decode cX11_foretold 8 = .ok (.aload_n 3, 1) := by decide +kernel
theorem dX11_foretold_9 : decode cX11_foretold 9 = .ok (.iload_n 1, 1) := by decide +kernel
theorem dX11_foretold_10 : decode cX11_foretold 10 = .ok (.invokevirtual 128, 3) := by decide +kernel
theorem dX11_foretold_13 : decode cX11_foretold 13 = .ok (.ifCond .eq 12, 3) := by decide +kernel
theorem dX11_foretold_16 : decode cX11_foretold 16 = .ok (.iload_n 2, 1) := by decide +kernel
theorem dX11_foretold_17 : decode cX11_foretold 17 = .ok (.iconst 0, 1) := by decide +kernel
theorem dX11_foretold_18 : decode cX11_foretold 18 = .ok (.iconst 1, 1) := by decide +kernel
theorem dX11_foretold_19 : decode cX11_foretold 19 = .ok (.invokestatic 70, 3) := by decide +kernel
theorem dX11_foretold_22 : decode cX11_foretold 22 = .ok (.ifCond .ne 6, 3) := by decide +kernel
theorem dX11_foretold_25 : decode cX11_foretold 25 = .ok (.ldc 74, 2) := by decide +kernel
theorem dX11_foretold_27 : decode cX11_foretold 27 = .ok (.ireturn, 1) := by decide +kernel
theorem dX11_foretold_28 : decode cX11_foretold 28 = .ok (.aload_n 3, 1) := by decide +kernel
theorem dX11_foretold_29 : decode cX11_foretold 29 = .ok (.getfield 357, 3) := by decide +kernel
theorem dX11_foretold_32 : decode cX11_foretold 32 = .ok (.iload_n 1, 1) := by decide +kernel
theorem dX11_foretold_33 : decode cX11_foretold 33 = .ok (.iaload, 1) := by decide +kernel
theorem dX11_foretold_34 : decode cX11_foretold 34 = .ok (.istore 4, 2) := by decide +kernel
theorem dX11_foretold_36 : decode cX11_foretold 36 = .ok (.iload 4, 2) := by decide +kernel
theorem dX11_foretold_38 : decode cX11_foretold 38 = .ok (.ifCond .eq 9, 3) := by decide +kernel
theorem dX11_foretold_41 : decode cX11_foretold 41 = .ok (.iload 4, 2) := by decide +kernel
theorem dX11_foretold_43 : decode cX11_foretold 43 = .ok (.iconst 5, 1) := by decide +kernel
theorem dX11_foretold_44 : decode cX11_foretold 44 = .ok (.if_icmp .ne 6, 3) := by decide +kernel
theorem dX11_foretold_47 : decode cX11_foretold 47 = .ok (.ldc 143, 2) := by decide +kernel
theorem dX11_foretold_49 : decode cX11_foretold 49 = .ok (.ireturn, 1) := by decide +kernel
theorem dX11_foretold_50 : decode cX11_foretold 50 = .ok (.ldc 133, 2) := by decide +kernel
theorem dX11_foretold_52 : decode cX11_foretold 52 = .ok (.istore 5, 2) := by decide +kernel
theorem dX11_foretold_54 : decode cX11_foretold 54 = .ok (.iconst 0, 1) := by decide +kernel
theorem dX11_foretold_55 : decode cX11_foretold 55 = .ok (.istore 6, 2) := by decide +kernel
theorem dX11_foretold_57 : decode cX11_foretold 57 = .ok (.iload 6, 2) := by decide +kernel
theorem dX11_foretold_59 : decode cX11_foretold 59 = .ok (.aload_n 3, 1) := by decide +kernel
theorem dX11_foretold_60 : decode cX11_foretold 60 = .ok (.getfield 121, 3) := by decide +kernel
theorem dX11_foretold_63 : decode cX11_foretold 63 = .ok (.if_icmp .ge 141, 3) := by decide +kernel
theorem dX11_foretold_66 : decode cX11_foretold 66 = .ok (.iload 6, 2) := by decide +kernel
theorem dX11_foretold_68 : decode cX11_foretold 68 = .ok (.iload_n 1, 1) := by decide +kernel
theorem dX11_foretold_69 : decode cX11_foretold 69 = .ok (.if_icmp .eq 129, 3) := by decide +kernel
theorem dX11_foretold_72 : decode cX11_foretold 72 = .ok (.aload_n 3, 1) := by decide +kernel
theorem dX11_foretold_73 : decode cX11_foretold 73 = .ok (.getfield 305, 3) := by decide +kernel
theorem dX11_foretold_76 : decode cX11_foretold 76 = .ok (.iload 6, 2) := by decide +kernel
theorem dX11_foretold_78 : decode cX11_foretold 78 = .ok (.iaload, 1) := by decide +kernel
theorem dX11_foretold_79 : decode cX11_foretold 79 = .ok (.aload_n 3, 1) := by decide +kernel
theorem dX11_foretold_80 : decode cX11_foretold 80 = .ok (.getfield 305, 3) := by decide +kernel
theorem dX11_foretold_83 : decode cX11_foretold 83 = .ok (.iload_n 1, 1) := by decide +kernel
theorem dX11_foretold_84 : decode cX11_foretold 84 = .ok (.iaload, 1) := by decide +kernel
theorem dX11_foretold_85 : decode cX11_foretold 85 = .ok (.if_icmp .ne 113, 3) := by decide +kernel
theorem dX11_foretold_88 : decode cX11_foretold 88 = .ok (.aload_n 3, 1) := by decide +kernel
theorem dX11_foretold_89 : decode cX11_foretold 89 = .ok (.getfield 357, 3) := by decide +kernel
theorem dX11_foretold_92 : decode cX11_foretold 92 = .ok (.iload 6, 2) := by decide +kernel
theorem dX11_foretold_94 : decode cX11_foretold 94 = .ok (.iaload, 1) := by decide +kernel
theorem dX11_foretold_95 : decode cX11_foretold 95 = .ok (.iconst 5, 1) := by decide +kernel
theorem dX11_foretold_96 : decode cX11_foretold 96 = .ok (.if_icmp .eq 6, 3) := by decide +kernel
theorem dX11_foretold_99 : decode cX11_foretold 99 = .ok (.goto 99, 3) := by decide +kernel
theorem dX11_foretold_102 : decode cX11_foretold 102 = .ok (.aload_n 3, 1) := by decide +kernel
theorem dX11_foretold_103 : decode cX11_foretold 103 = .ok (.getfield 360, 3) := by decide +kernel
theorem dX11_foretold_106 : decode cX11_foretold 106 = .ok (.iload 6, 2) := by decide +kernel
theorem dX11_foretold_108 : decode cX11_foretold 108 = .ok (.bipush 6, 2) := by decide +kernel
theorem dX11_foretold_110 : decode cX11_foretold 110 = .ok (.imul, 1) := by decide +kernel
theorem dX11_foretold_111 : decode cX11_foretold 111 = .ok (.iload 4, 2) := by decide +kernel
theorem dX11_foretold_113 : decode cX11_foretold 113 = .ok (.iadd, 1) := by decide +kernel
theorem dX11_foretold_114 : decode cX11_foretold 114 = .ok (.iaload, 1) := by decide +kernel
theorem dX11_foretold_115 : decode cX11_foretold 115 = .ok (.istore 7, 2) := by decide +kernel
theorem dX11_foretold_117 : decode cX11_foretold 117 = .ok (.iload 7, 2) := by decide +kernel
theorem dX11_foretold_119 : decode cX11_foretold 119 = .ok (.ifCond .le 79, 3) := by decide +kernel
theorem dX11_foretold_122 : decode cX11_foretold 122 = .ok (.aload_n 3, 1) := by decide +kernel
theorem dX11_foretold_123 : decode cX11_foretold 123 = .ok (.getfield 360, 3) := by decide +kernel
theorem dX11_foretold_126 : decode cX11_foretold 126 = .ok (.iload_n 1, 1) := by decide +kernel
theorem dX11_foretold_127 : decode cX11_foretold 127 = .ok (.bipush 6, 2) := by decide +kernel
theorem dX11_foretold_129 : decode cX11_foretold 129 = .ok (.imul, 1) := by decide +kernel
theorem dX11_foretold_130 : decode cX11_foretold 130 = .ok (.iload 4, 2) := by decide +kernel
theorem dX11_foretold_132 : decode cX11_foretold 132 = .ok (.iadd, 1) := by decide +kernel
theorem dX11_foretold_133 : decode cX11_foretold 133 = .ok (.iaload, 1) := by decide +kernel
theorem dX11_foretold_134 : decode cX11_foretold 134 = .ok (.i2l, 1) := by decide +kernel
theorem dX11_foretold_135 : decode cX11_foretold 135 = .ok (.aload_n 3, 1) := by decide +kernel
theorem dX11_foretold_136 : decode cX11_foretold 136 = .ok (.getfield 360, 3) := by decide +kernel
theorem dX11_foretold_139 : decode cX11_foretold 139 = .ok (.iload 6, 2) := by decide +kernel
theorem dX11_foretold_141 : decode cX11_foretold 141 = .ok (.bipush 6, 2) := by decide +kernel
theorem dX11_foretold_143 : decode cX11_foretold 143 = .ok (.imul, 1) := by decide +kernel
theorem dX11_foretold_144 : decode cX11_foretold 144 = .ok (.iconst 5, 1) := by decide +kernel
theorem dX11_foretold_145 : decode cX11_foretold 145 = .ok (.iadd, 1) := by decide +kernel
theorem dX11_foretold_146 : decode cX11_foretold 146 = .ok (.iaload, 1) := by decide +kernel
theorem dX11_foretold_147 : decode cX11_foretold 147 = .ok (.i2l, 1) := by decide +kernel
theorem dX11_foretold_148 : decode cX11_foretold 148 = .ok (.lmul, 1) := by decide +kernel
theorem dX11_foretold_149 : decode cX11_foretold 149 = .ok (.lstore 8, 2) := by decide +kernel
theorem dX11_foretold_151 : decode cX11_foretold 151 = .ok (.ldc2_w 363, 3) := by decide +kernel
theorem dX11_foretold_154 : decode cX11_foretold 154 = .ok (.lload 8, 2) := by decide +kernel
theorem dX11_foretold_156 : decode cX11_foretold 156 = .ok (.iload 7, 2) := by decide +kernel
theorem dX11_foretold_158 : decode cX11_foretold 158 = .ok (.i2l, 1) := by decide +kernel
theorem dX11_foretold_159 : decode cX11_foretold 159 = .ok (.ldiv, 1) := by decide +kernel
theorem dX11_foretold_160 : decode cX11_foretold 160 = .ok (.invokestatic 365, 3) := by decide +kernel
theorem dX11_foretold_163 : decode cX11_foretold 163 = .ok (.l2i, 1) := by decide +kernel
theorem dX11_foretold_164 : decode cX11_foretold 164 = .ok (.istore 10, 2) := by decide +kernel
theorem dX11_foretold_166 : decode cX11_foretold 166 = .ok (.iload 5, 2) := by decide +kernel
theorem dX11_foretold_168 : decode cX11_foretold 168 = .ok (.ldc 133, 2) := by decide +kernel
theorem dX11_foretold_170 : decode cX11_foretold 170 = .ok (.if_icmp .eq 24, 3) := by decide +kernel
theorem dX11_foretold_173 : decode cX11_foretold 173 = .ok (.iload_n 2, 1) := by decide +kernel
theorem dX11_foretold_174 : decode cX11_foretold 174 = .ok (.ifCond .ne 13, 3) := by decide +kernel
theorem dX11_foretold_177 : decode cX11_foretold 177 = .ok (.iload 10, 2) := by decide +kernel
theorem dX11_foretold_179 : decode cX11_foretold 179 = .ok (.iload 5, 2) := by decide +kernel
theorem dX11_foretold_181 : decode cX11_foretold 181 = .ok (.if_icmp .ge 17, 3) := by decide +kernel
theorem dX11_foretold_184 : decode cX11_foretold 184 = .ok (.goto 10, 3) := by decide +kernel
theorem dX11_foretold_187 : decode cX11_foretold 187 = .ok (.iload 10, 2) := by decide +kernel
theorem dX11_foretold_189 : decode cX11_foretold 189 = .ok (.iload 5, 2) := by decide +kernel
theorem dX11_foretold_191 : decode cX11_foretold 191 = .ok (.if_icmp .le 7, 3) := by decide +kernel
theorem dX11_foretold_194 : decode cX11_foretold 194 = .ok (.iload 10, 2) := by decide +kernel
theorem dX11_foretold_196 : decode cX11_foretold 196 = .ok (.istore 5, 2) := by decide +kernel
theorem dX11_foretold_198 : decode cX11_foretold 198 = .ok (.iinc 6 1, 3) := by decide +kernel
theorem dX11_foretold_201 : decode cX11_foretold 201 = .ok (.goto (-144), 3) := by decide +kernel
theorem dX11_foretold_204 : decode cX11_foretold 204 = .ok (.iload 5, 2) := by decide +kernel
theorem dX11_foretold_206 : decode cX11_foretold 206 = .ok (.ireturn, 1) := by decide +kernel
theorem dX11_task_0 : decode cX11_task 0 = .ok (.aload_n 0, 1) := by decide +kernel
theorem dX11_task_1 : decode cX11_task 1 = .ok (.getfield 10, 3) := by decide +kernel
theorem dX11_task_4 : decode cX11_task 4 = .ok (.getfield 117, 3) := by decide +kernel
theorem dX11_task_7 : decode cX11_task 7 = .ok (.iload_n 1, 1) := by decide +kernel
theorem dX11_task_8 : decode cX11_task 8 = .ok (.invokevirtual 128, 3) := by decide +kernel
theorem dX11_task_11 : decode cX11_task 11 = .ok (.ifCond .eq 23, 3) := by decide +kernel
theorem dX11_task_14 : decode cX11_task 14 = .ok (.iload_n 2, 1) := by decide +kernel
theorem dX11_task_15 : decode cX11_task 15 = .ok (.iconst 1, 1) := by decide +kernel
theorem dX11_task_16 : decode cX11_task 16 = .ok (.sipush 999, 3) := by decide +kernel
theorem dX11_task_19 : decode cX11_task 19 = .ok (.invokestatic 70, 3) := by decide +kernel
theorem dX11_task_22 : decode cX11_task 22 = .ok (.ifCond .eq 12, 3) := by decide +kernel
theorem dX11_task_25 : decode cX11_task 25 = .ok (.iload_n 3, 1) := by decide +kernel
theorem dX11_task_26 : decode cX11_task 26 = .ok (.iconst 0, 1) := by decide +kernel
theorem dX11_task_27 : decode cX11_task 27 = .ok (.iconst 2, 1) := by decide +kernel
theorem dX11_task_28 : decode cX11_task 28 = .ok (.invokestatic 70, 3) := by decide +kernel
theorem dX11_task_31 : decode cX11_task 31 = .ok (.ifCond .ne 6, 3) := by decide +kernel
theorem dX11_task_34 : decode cX11_task 34 = .ok (.ldc 74, 2) := by decide +kernel
theorem dX11_task_36 : decode cX11_task 36 = .ok (.ireturn, 1) := by decide +kernel
theorem dX11_task_37 : decode cX11_task 37 = .ok (.aload_n 0, 1) := by decide +kernel
theorem dX11_task_38 : decode cX11_task 38 = .ok (.getfield 10, 3) := by decide +kernel
theorem dX11_task_41 : decode cX11_task 41 = .ok (.getfield 368, 3) := by decide +kernel
theorem dX11_task_44 : decode cX11_task 44 = .ok (.astore 4, 2) := by decide +kernel
theorem dX11_task_46 : decode cX11_task 46 = .ok (.aload 4, 2) := by decide +kernel
theorem dX11_task_48 : decode cX11_task 48 = .ok (.getfield 372, 3) := by decide +kernel
theorem dX11_task_51 : decode cX11_task 51 = .ok (.bipush 6, 2) := by decide +kernel
theorem dX11_task_53 : decode cX11_task 53 = .ok (.if_icmp .lt 6, 3) := by decide +kernel
theorem dX11_task_56 : decode cX11_task 56 = .ok (.ldc 84, 2) := by decide +kernel
theorem dX11_task_58 : decode cX11_task 58 = .ok (.ireturn, 1) := by decide +kernel
theorem dX11_task_59 : decode cX11_task 59 = .ok (.aload 4, 2) := by decide +kernel
theorem dX11_task_61 : decode cX11_task 61 = .ok (.getfield 372, 3) := by decide +kernel
theorem dX11_task_64 : decode cX11_task 64 = .ok (.istore 5, 2) := by decide +kernel
theorem dX11_task_66 : decode cX11_task 66 = .ok (.aload 4, 2) := by decide +kernel
theorem dX11_task_68 : decode cX11_task 68 = .ok (.getfield 375, 3) := by decide +kernel
theorem dX11_task_71 : decode cX11_task 71 = .ok (.iload 5, 2) := by decide +kernel
theorem dX11_task_73 : decode cX11_task 73 = .ok (.iload_n 1, 1) := by decide +kernel
theorem dX11_task_74 : decode cX11_task 74 = .ok (.iastore, 1) := by decide +kernel
theorem dX11_task_75 : decode cX11_task 75 = .ok (.aload 4, 2) := by decide +kernel
theorem dX11_task_77 : decode cX11_task 77 = .ok (.getfield 376, 3) := by decide +kernel
theorem dX11_task_80 : decode cX11_task 80 = .ok (.iload 5, 2) := by decide +kernel
theorem dX11_task_82 : decode cX11_task 82 = .ok (.iload_n 2, 1) := by decide +kernel
theorem dX11_task_83 : decode cX11_task 83 = .ok (.iastore, 1) := by decide +kernel
theorem dX11_task_84 : decode cX11_task 84 = .ok (.aload 4, 2) := by decide +kernel
theorem dX11_task_86 : decode cX11_task 86 = .ok (.getfield 379, 3) := by decide +kernel
theorem dX11_task_89 : decode cX11_task 89 = .ok (.iload 5, 2) := by decide +kernel
theorem dX11_task_91 : decode cX11_task 91 = .ok (.iload_n 3, 1) := by decide +kernel
theorem dX11_task_92 : decode cX11_task 92 = .ok (.iastore, 1) := by decide +kernel
theorem dX11_task_93 : decode cX11_task 93 = .ok (.aload 4, 2) := by decide +kernel
theorem dX11_task_95 : decode cX11_task 95 = .ok (.iload 5, 2) := by decide +kernel
theorem dX11_task_97 : decode cX11_task 97 = .ok (.iconst 1, 1) := by decide +kernel
theorem dX11_task_98 : decode cX11_task 98 = .ok (.iadd, 1) := by decide +kernel
theorem dX11_task_99 : decode cX11_task 99 = .ok (.putfield 372, 3) := by decide +kernel
theorem dX11_task_102 : decode cX11_task 102 = .ok (.iload 5, 2) := by decide +kernel
theorem dX11_task_104 : decode cX11_task 104 = .ok (.ireturn, 1) := by decide +kernel
theorem dX11_clear_0 : decode cX11_clear 0 = .ok (.aload_n 0, 1) := by decide +kernel
theorem dX11_clear_1 : decode cX11_clear 1 = .ok (.getfield 10, 3) := by decide +kernel
theorem dX11_clear_4 : decode cX11_clear 4 = .ok (.getfield 368, 3) := by decide +kernel
theorem dX11_clear_7 : decode cX11_clear 7 = .ok (.getfield 372, 3) := by decide +kernel
theorem dX11_clear_10 : decode cX11_clear 10 = .ok (.istore_n 1, 1) := by decide +kernel
theorem dX11_clear_11 : decode cX11_clear 11 = .ok (.aload_n 0, 1) := by decide +kernel
theorem dX11_clear_12 : decode cX11_clear 12 = .ok (.getfield 10, 3) := by decide +kernel
theorem dX11_clear_15 : decode cX11_clear 15 = .ok (.getfield 368, 3) := by decide +kernel
theorem dX11_clear_18 : decode cX11_clear 18 = .ok (.iconst 0, 1) := by decide +kernel
theorem dX11_clear_19 : decode cX11_clear 19 = .ok (.putfield 372, 3) := by decide +kernel
theorem dX11_clear_22 : decode cX11_clear 22 = .ok (.iload_n 1, 1) := by decide +kernel
theorem dX11_clear_23 : decode cX11_clear 23 = .ok (.ireturn, 1) := by decide +kernel
theorem dX11_free_0 : decode cX11_free 0 = .ok (.aload_n 0, 1) := by decide +kernel
theorem dX11_free_1 : decode cX11_free 1 = .ok (.getfield 10, 3) := by decide +kernel
theorem dX11_free_4 : decode cX11_free 4 = .ok (.getfield 75, 3) := by decide +kernel
theorem dX11_free_7 : decode cX11_free 7 = .ok (.iload_n 1, 1) := by decide +kernel
theorem dX11_free_8 : decode cX11_free 8 = .ok (.invokevirtual 94, 3) := by decide +kernel
theorem dX11_free_11 : decode cX11_free 11 = .ok (.ifCond .eq 14, 3) := by decide +kernel
theorem dX11_free_14 : decode cX11_free 14 = .ok (.iload_n 2, 1) := by decide +kernel
theorem dX11_free_15 : decode cX11_free 15 = .ok (.iconst 0, 1) := by decide +kernel
theorem dX11_free_16 : decode cX11_free 16 = .ok (.sipush 9999, 3) := by decide +kernel
theorem dX11_free_19 : decode cX11_free 19 = .ok (.invokestatic 70, 3) := by decide +kernel
theorem dX11_free_22 : decode cX11_free 22 = .ok (.ifCond .ne 6, 3) := by decide +kernel
theorem dX11_free_25 : decode cX11_free 25 = .ok (.ldc 74, 2) := by decide +kernel
theorem dX11_free_27 : decode cX11_free 27 = .ok (.ireturn, 1) := by decide +kernel
theorem dX11_free_28 : decode cX11_free 28 = .ok (.aload_n 0, 1) := by decide +kernel
theorem dX11_free_29 : decode cX11_free 29 = .ok (.getfield 10, 3) := by decide +kernel
theorem dX11_free_32 : decode cX11_free 32 = .ok (.getfield 75, 3) := by decide +kernel
theorem dX11_free_35 : decode cX11_free 35 = .ok (.getfield 91, 3) := by decide +kernel
theorem dX11_free_38 : decode cX11_free 38 = .ok (.iload_n 1, 1) := by decide +kernel
theorem dX11_free_39 : decode cX11_free 39 = .ok (.iaload, 1) := by decide +kernel
theorem dX11_free_40 : decode cX11_free 40 = .ok (.istore_n 3, 1) := by decide +kernel
theorem dX11_free_41 : decode cX11_free 41 = .ok (.aload_n 0, 1) := by decide +kernel
theorem dX11_free_42 : decode cX11_free 42 = .ok (.getfield 10, 3) := by decide +kernel
theorem dX11_free_45 : decode cX11_free 45 = .ok (.getfield 75, 3) := by decide +kernel
theorem dX11_free_48 : decode cX11_free 48 = .ok (.getfield 91, 3) := by decide +kernel
theorem dX11_free_51 : decode cX11_free 51 = .ok (.iload_n 1, 1) := by decide +kernel
theorem dX11_free_52 : decode cX11_free 52 = .ok (.iload_n 2, 1) := by decide +kernel
theorem dX11_free_53 : decode cX11_free 53 = .ok (.iastore, 1) := by decide +kernel
theorem dX11_free_54 : decode cX11_free 54 = .ok (.iload_n 3, 1) := by decide +kernel
theorem dX11_free_55 : decode cX11_free 55 = .ok (.ireturn, 1) := by decide +kernel
theorem dX11_lay_0 : decode cX11_lay 0 = .ok (.iload_n 1, 1) := by decide +kernel
theorem dX11_lay_1 : decode cX11_lay 1 = .ok (.iconst 0, 1) := by decide +kernel
theorem dX11_lay_2 : decode cX11_lay 2 = .ok (.iconst 1, 1) := by decide +kernel
theorem dX11_lay_3 : decode cX11_lay 3 = .ok (.invokestatic 70, 3) := by decide +kernel
theorem dX11_lay_6 : decode cX11_lay 6 = .ok (.ifCond .ne 6, 3) := by decide +kernel
theorem dX11_lay_9 : decode cX11_lay 9 = .ok (.ldc 74, 2) := by decide +kernel
theorem dX11_lay_11 : decode cX11_lay 11 = .ok (.ireturn, 1) := by decide +kernel
theorem dX11_lay_12 : decode cX11_lay 12 = .ok (.aload_n 0, 1) := by decide +kernel
theorem dX11_lay_13 : decode cX11_lay 13 = .ok (.getfield 58, 3) := by decide +kernel
theorem dX11_lay_16 : decode cX11_lay 16 = .ok (.iload_n 1, 1) := by decide +kernel
theorem dX11_lay_17 : decode cX11_lay 17 = .ok (.iaload, 1) := by decide +kernel
theorem dX11_lay_18 : decode cX11_lay 18 = .ok (.iconst (-1), 1) := by decide +kernel
theorem dX11_lay_19 : decode cX11_lay 19 = .ok (.if_icmp .ne 7, 3) := by decide +kernel
theorem dX11_lay_22 : decode cX11_lay 22 = .ok (.ldc_w 382, 3) := by decide +kernel
theorem dX11_lay_25 : decode cX11_lay 25 = .ok (.ireturn, 1) := by decide +kernel
theorem dX11_lay_26 : decode cX11_lay 26 = .ok (.aload_n 0, 1) := by decide +kernel
theorem dX11_lay_27 : decode cX11_lay 27 = .ok (.getfield 58, 3) := by decide +kernel
theorem dX11_lay_30 : decode cX11_lay 30 = .ok (.iload_n 1, 1) := by decide +kernel
theorem dX11_lay_31 : decode cX11_lay 31 = .ok (.iaload, 1) := by decide +kernel
theorem dX11_lay_32 : decode cX11_lay 32 = .ok (.aload_n 0, 1) := by decide +kernel
theorem dX11_lay_33 : decode cX11_lay 33 = .ok (.getfield 10, 3) := by decide +kernel
theorem dX11_lay_36 : decode cX11_lay 36 = .ok (.getfield 75, 3) := by decide +kernel
theorem dX11_lay_39 : decode cX11_lay 39 = .ok (.getfield 79, 3) := by decide +kernel
theorem dX11_lay_42 : decode cX11_lay 42 = .ok (.invokestatic 314, 3) := by decide +kernel
theorem dX11_lay_45 : decode cX11_lay 45 = .ok (.istore_n 2, 1) := by decide +kernel
theorem dX11_lay_46 : decode cX11_lay 46 = .ok (.iconst 0, 1) := by decide +kernel
theorem dX11_lay_47 : decode cX11_lay 47 = .ok (.istore_n 3, 1) := by decide +kernel
theorem dX11_lay_48 : decode cX11_lay 48 = .ok (.iload_n 3, 1) := by decide +kernel
theorem dX11_lay_49 : decode cX11_lay 49 = .ok (.iload_n 2, 1) := by decide +kernel
theorem dX11_lay_50 : decode cX11_lay 50 = .ok (.if_icmp .ge 42, 3) := by decide +kernel
theorem dX11_lay_53 : decode cX11_lay 53 = .ok (.aload_n 0, 1) := by decide +kernel
theorem dX11_lay_54 : decode cX11_lay 54 = .ok (.getfield 10, 3) := by decide +kernel
theorem dX11_lay_57 : decode cX11_lay 57 = .ok (.getfield 75, 3) := by decide +kernel
theorem dX11_lay_60 : decode cX11_lay 60 = .ok (.getfield 91, 3) := by decide +kernel
theorem dX11_lay_63 : decode cX11_lay 63 = .ok (.iload_n 3, 1) := by decide +kernel
theorem dX11_lay_64 : decode cX11_lay 64 = .ok (.iconst 0, 1) := by decide +kernel
theorem dX11_lay_65 : decode cX11_lay 65 = .ok (.sipush 9999, 3) := by decide +kernel
theorem dX11_lay_68 : decode cX11_lay 68 = .ok (.aload_n 0, 1) := by decide +kernel
theorem dX11_lay_69 : decode cX11_lay 69 = .ok (.getfield 54, 3) := by decide +kernel
theorem dX11_lay_72 : decode cX11_lay 72 = .ok (.iload_n 1, 1) := by decide +kernel
theorem dX11_lay_73 : decode cX11_lay 73 = .ok (.bipush 20, 2) := by decide +kernel
theorem dX11_lay_75 : decode cX11_lay 75 = .ok (.imul, 1) := by decide +kernel
theorem dX11_lay_76 : decode cX11_lay 76 = .ok (.iload_n 3, 1) := by decide +kernel
theorem dX11_lay_77 : decode cX11_lay 77 = .ok (.iadd, 1) := by decide +kernel
theorem dX11_lay_78 : decode cX11_lay 78 = .ok (.saload, 1) := by decide +kernel
theorem dX11_lay_79 : decode cX11_lay 79 = .ok (.invokestatic 314, 3) := by decide +kernel
theorem dX11_lay_82 : decode cX11_lay 82 = .ok (.invokestatic 234, 3) := by decide +kernel
theorem dX11_lay_85 : decode cX11_lay 85 = .ok (.iastore, 1) := by decide +kernel
theorem dX11_lay_86 : decode cX11_lay 86 = .ok (.iinc 3 1, 3) := by decide +kernel
theorem dX11_lay_89 : decode cX11_lay 89 = .ok (.goto (-41), 3) := by decide +kernel
theorem dX11_lay_92 : decode cX11_lay 92 = .ok (.iload_n 2, 1) := by decide +kernel
theorem dX11_lay_93 : decode cX11_lay 93 = .ok (.ireturn, 1) := by decide +kernel
theorem dX11_plan_0 : decode cX11_plan 0 = .ok (.iload_n 1, 1) := by decide +kernel
theorem dX11_plan_1 : decode cX11_plan 1 = .ok (.iconst 1, 1) := by decide +kernel
theorem dX11_plan_2 : decode cX11_plan 2 = .ok (.sipush 30000, 3) := by decide +kernel
theorem dX11_plan_5 : decode cX11_plan 5 = .ok (.invokestatic 70, 3) := by decide +kernel
theorem dX11_plan_8 : decode cX11_plan 8 = .ok (.ifCond .ne 6, 3) := by decide +kernel
theorem dX11_plan_11 : decode cX11_plan 11 = .ok (.ldc 74, 2) := by decide +kernel
theorem dX11_plan_13 : decode cX11_plan 13 = .ok (.ireturn, 1) := by decide +kernel
theorem dX11_plan_14 : decode cX11_plan 14 = .ok (.aload_n 0, 1) := by decide +kernel
theorem dX11_plan_15 : decode cX11_plan 15 = .ok (.getfield 42, 3) := by decide +kernel
theorem dX11_plan_18 : decode cX11_plan 18 = .ok (.iload_n 1, 1) := by decide +kernel
theorem dX11_plan_19 : decode cX11_plan 19 = .ok (.invokevirtual 383, 3) := by decide +kernel
theorem dX11_plan_22 : decode cX11_plan 22 = .ok (.ireturn, 1) := by decide +kernel
theorem dX11_planned_0 : decode cX11_planned 0 = .ok (.iload_n 1, 1) := by decide +kernel
theorem dX11_planned_1 : decode cX11_planned 1 = .ok (.iconst 1, 1) := by decide +kernel
theorem dX11_planned_2 : decode cX11_planned 2 = .ok (.sipush 30000, 3) := by decide +kernel
theorem dX11_planned_5 : decode cX11_planned 5 = .ok (.invokestatic 70, 3) := by decide +kernel
theorem dX11_planned_8 : decode cX11_planned 8 = .ok (.ifCond .eq 23, 3) := by decide +kernel
theorem dX11_planned_11 : decode cX11_planned 11 = .ok (.iload_n 2, 1) := by decide +kernel
theorem dX11_planned_12 : decode cX11_planned 12 = .ok (.iconst 0, 1) := by decide +kernel
theorem dX11_planned_13 : decode cX11_planned 13 = .ok (.aload_n 0, 1) := by decide +kernel
theorem dX11_planned_14 : decode cX11_planned 14 = .ok (.getfield 10, 3) := by decide +kernel
theorem dX11_planned_17 : decode cX11_planned 17 = .ok (.getfield 368, 3) := by decide +kernel
theorem dX11_planned_20 : decode cX11_planned 20 = .ok (.getfield 372, 3) := by decide +kernel
theorem dX11_planned_23 : decode cX11_planned 23 = .ok (.iconst 1, 1) := by decide +kernel
theorem dX11_planned_24 : decode cX11_planned 24 = .ok (.isub, 1) := by decide +kernel
theorem dX11_planned_25 : decode cX11_planned 25 = .ok (.invokestatic 70, 3) := by decide +kernel
theorem dX11_planned_28 : decode cX11_planned 28 = .ok (.ifCond .ne 6, 3) := by decide +kernel
theorem dX11_planned_31 : decode cX11_planned 31 = .ok (.ldc 74, 2) := by decide +kernel
theorem dX11_planned_33 : decode cX11_planned 33 = .ok (.ireturn, 1) := by decide +kernel
theorem dX11_planned_34 : decode cX11_planned 34 = .ok (.aload_n 0, 1) := by decide +kernel
theorem dX11_planned_35 : decode cX11_planned 35 = .ok (.getfield 42, 3) := by decide +kernel
theorem dX11_planned_38 : decode cX11_planned 38 = .ok (.iload_n 1, 1) := by decide +kernel
theorem dX11_planned_39 : decode cX11_planned 39 = .ok (.invokevirtual 383, 3) := by decide +kernel
theorem dX11_planned_42 : decode cX11_planned 42 = .ok (.istore_n 3, 1) := by decide +kernel
theorem dX11_planned_43 : decode cX11_planned 43 = .ok (.iload_n 3, 1) := by decide +kernel
theorem dX11_planned_44 : decode cX11_planned 44 = .ok (.ifCond .ge 7, 3) := by decide +kernel
theorem dX11_planned_47 : decode cX11_planned 47 = .ok (.iload_n 3, 1) := by decide +kernel
theorem dX11_planned_48 : decode cX11_planned 48 = .ok (.goto 12, 3) := by decide +kernel
theorem dX11_planned_51 : decode cX11_planned 51 = .ok (.aload_n 0, 1) := by decide +kernel
theorem dX11_planned_52 : decode cX11_planned 52 = .ok (.getfield 42, 3) := by decide +kernel
theorem dX11_planned_55 : decode cX11_planned 55 = .ok (.getfield 386, 3) := by decide +kernel
theorem dX11_planned_58 : decode cX11_planned 58 = .ok (.iload_n 2, 1) := by decide +kernel
theorem dX11_planned_59 : decode cX11_planned 59 = .ok (.iaload, 1) := by decide +kernel
theorem dX11_planned_60 : decode cX11_planned 60 = .ok (.ireturn, 1) := by decide +kernel
theorem dX11_tell_0 : decode cX11_tell 0 = .ok (.aload_n 0, 1) := by decide +kernel
theorem dX11_tell_1 : decode cX11_tell 1 = .ok (.getfield 50, 3) := by decide +kernel
theorem dX11_tell_4 : decode cX11_tell 4 = .ok (.bipush 20, 2) := by decide +kernel
theorem dX11_tell_6 : decode cX11_tell 6 = .ok (.if_icmp .lt 6, 3) := by decide +kernel
theorem dX11_tell_9 : decode cX11_tell 9 = .ok (.ldc 84, 2) := by decide +kernel
theorem dX11_tell_11 : decode cX11_tell 11 = .ok (.ireturn, 1) := by decide +kernel
theorem dX11_tell_12 : decode cX11_tell 12 = .ok (.aload_n 0, 1) := by decide +kernel
theorem dX11_tell_13 : decode cX11_tell 13 = .ok (.getfield 46, 3) := by decide +kernel
theorem dX11_tell_16 : decode cX11_tell 16 = .ok (.aload_n 0, 1) := by decide +kernel
theorem dX11_tell_17 : decode cX11_tell 17 = .ok (.getfield 50, 3) := by decide +kernel
theorem dX11_tell_20 : decode cX11_tell 20 = .ok (.iload_n 1, 1) := by decide +kernel
theorem dX11_tell_21 : decode cX11_tell 21 = .ok (.iastore, 1) := by decide +kernel
theorem dX11_tell_22 : decode cX11_tell 22 = .ok (.aload_n 0, 1) := by decide +kernel
theorem dX11_tell_23 : decode cX11_tell 23 = .ok (.dup, 1) := by decide +kernel
theorem dX11_tell_24 : decode cX11_tell 24 = .ok (.getfield 50, 3) := by decide +kernel
theorem dX11_tell_27 : decode cX11_tell 27 = .ok (.iconst 1, 1) := by decide +kernel
theorem dX11_tell_28 : decode cX11_tell 28 = .ok (.iadd, 1) := by decide +kernel
theorem dX11_tell_29 : decode cX11_tell 29 = .ok (.putfield 50, 3) := by decide +kernel
theorem dX11_tell_32 : decode cX11_tell 32 = .ok (.aload_n 0, 1) := by decide +kernel
theorem dX11_tell_33 : decode cX11_tell 33 = .ok (.getfield 50, 3) := by decide +kernel
theorem dX11_tell_36 : decode cX11_tell 36 = .ok (.ireturn, 1) := by decide +kernel
theorem dX11_check_0 : decode cX11_check 0 = .ok (.aload_n 0, 1) := by decide +kernel
theorem dX11_check_1 : decode cX11_check 1 = .ok (.getfield 50, 3) := by decide +kernel
theorem dX11_check_4 : decode cX11_check 4 = .ok (.istore_n 1, 1) := by decide +kernel
theorem dX11_check_5 : decode cX11_check 5 = .ok (.aload_n 0, 1) := by decide +kernel
theorem dX11_check_6 : decode cX11_check 6 = .ok (.iconst 0, 1) := by decide +kernel
theorem dX11_check_7 : decode cX11_check 7 = .ok (.putfield 50, 3) := by decide +kernel
theorem dX11_check_10 : decode cX11_check 10 = .ok (.aload_n 0, 1) := by decide +kernel
theorem dX11_check_11 : decode cX11_check 11 = .ok (.getfield 42, 3) := by decide +kernel
theorem dX11_check_14 : decode cX11_check 14 = .ok (.sipush 30000, 3) := by decide +kernel
theorem dX11_check_17 : decode cX11_check 17 = .ok (.invokevirtual 383, 3) := by decide +kernel
theorem dX11_check_20 : decode cX11_check 20 = .ok (.istore_n 2, 1) := by decide +kernel
theorem dX11_check_21 : decode cX11_check 21 = .ok (.iload_n 2, 1) := by decide +kernel
theorem dX11_check_22 : decode cX11_check 22 = .ok (.ifCond .ge 5, 3) := by decide +kernel
theorem dX11_check_25 : decode cX11_check 25 = .ok (.iload_n 2, 1) := by decide +kernel
theorem dX11_check_26 : decode cX11_check 26 = .ok (.ireturn, 1) := by decide +kernel
theorem dX11_check_27 : decode cX11_check 27 = .ok (.iconst 2, 1) := by decide +kernel
theorem dX11_check_28 : decode cX11_check 28 = .ok (.aload_n 0, 1) := by decide +kernel
theorem dX11_check_29 : decode cX11_check 29 = .ok (.getfield 10, 3) := by decide +kernel
theorem dX11_check_32 : decode cX11_check 32 = .ok (.getfield 368, 3) := by decide +kernel
theorem dX11_check_35 : decode cX11_check 35 = .ok (.getfield 372, 3) := by decide +kernel
theorem dX11_check_38 : decode cX11_check 38 = .ok (.imul, 1) := by decide +kernel
theorem dX11_check_39 : decode cX11_check 39 = .ok (.istore_n 3, 1) := by decide +kernel
theorem dX11_check_40 : decode cX11_check 40 = .ok (.iconst 0, 1) := by decide +kernel
theorem dX11_check_41 : decode cX11_check 41 = .ok (.istore 4, 2) := by decide +kernel
theorem dX11_check_43 : decode cX11_check 43 = .ok (.iconst 0, 1) := by decide +kernel
theorem dX11_check_44 : decode cX11_check 44 = .ok (.istore 5, 2) := by decide +kernel
theorem dX11_check_46 : decode cX11_check 46 = .ok (.iload 5, 2) := by decide +kernel
theorem dX11_check_48 : decode cX11_check 48 = .ok (.iload_n 3, 1) := by decide +kernel
theorem dX11_check_49 : decode cX11_check 49 = .ok (.if_icmp .ge 86, 3) := by decide +kernel
theorem dX11_check_52 : decode cX11_check 52 = .ok (.iload 5, 2) := by decide +kernel
theorem dX11_check_54 : decode cX11_check 54 = .ok (.iconst 2, 1) := by decide +kernel
theorem dX11_check_55 : decode cX11_check 55 = .ok (.idiv, 1) := by decide +kernel
theorem dX11_check_56 : decode cX11_check 56 = .ok (.istore 6, 2) := by decide +kernel
theorem dX11_check_58 : decode cX11_check 58 = .ok (.aload_n 0, 1) := by decide +kernel
theorem dX11_check_59 : decode cX11_check 59 = .ok (.getfield 42, 3) := by decide +kernel
theorem dX11_check_62 : decode cX11_check 62 = .ok (.getfield 386, 3) := by decide +kernel
theorem dX11_check_65 : decode cX11_check 65 = .ok (.iload 6, 2) := by decide +kernel
theorem dX11_check_67 : decode cX11_check 67 = .ok (.iaload, 1) := by decide +kernel
theorem dX11_check_68 : decode cX11_check 68 = .ok (.istore 7, 2) := by decide +kernel
theorem dX11_check_70 : decode cX11_check 70 = .ok (.iload 5, 2) := by decide +kernel
theorem dX11_check_72 : decode cX11_check 72 = .ok (.iconst 2, 1) := by decide +kernel
theorem dX11_check_73 : decode cX11_check 73 = .ok (.irem, 1) := by decide +kernel
theorem dX11_check_74 : decode cX11_check 74 = .ok (.iconst 1, 1) := by decide +kernel
theorem dX11_check_75 : decode cX11_check 75 = .ok (.if_icmp .ne 31, 3) := by decide +kernel
theorem dX11_check_78 : decode cX11_check 78 = .ok (.iload 4, 2) := by decide +kernel
theorem dX11_check_80 : decode cX11_check 80 = .ok (.aload_n 0, 1) := by decide +kernel
theorem dX11_check_81 : decode cX11_check 81 = .ok (.getfield 42, 3) := by decide +kernel
theorem dX11_check_84 : decode cX11_check 84 = .ok (.iload 6, 2) := by decide +kernel
theorem dX11_check_86 : decode cX11_check 86 = .ok (.aload_n 0, 1) := by decide +kernel
theorem dX11_check_87 : decode cX11_check 87 = .ok (.getfield 42, 3) := by decide +kernel
theorem dX11_check_90 : decode cX11_check 90 = .ok (.getfield 386, 3) := by decide +kernel
theorem dX11_check_93 : decode cX11_check 93 = .ok (.iload 6, 2) := by decide +kernel
theorem dX11_check_95 : decode cX11_check 95 = .ok (.iaload, 1) := by decide +kernel
theorem dX11_check_96 : decode cX11_check 96 = .ok (.invokevirtual 389, 3) := by decide +kernel
theorem dX11_check_99 : decode cX11_check 99 = .ok (.iadd, 1) := by decide +kernel
theorem dX11_check_100 : decode cX11_check 100 = .ok (.istore 4, 2) := by decide +kernel
theorem dX11_check_102 : decode cX11_check 102 = .ok (.iload 4, 2) := by decide +kernel
theorem dX11_check_104 : decode cX11_check 104 = .ok (.istore 7, 2) := by decide +kernel
theorem dX11_check_106 : decode cX11_check 106 = .ok (.iload 5, 2) := by decide +kernel
theorem dX11_check_108 : decode cX11_check 108 = .ok (.iload_n 1, 1) := by decide +kernel
theorem dX11_check_109 : decode cX11_check 109 = .ok (.if_icmp .ge 15, 3) := by decide +kernel
theorem dX11_check_112 : decode cX11_check 112 = .ok (.aload_n 0, 1) := by decide +kernel
theorem dX11_check_113 : decode cX11_check 113 = .ok (.getfield 46, 3) := by decide +kernel
theorem dX11_check_116 : decode cX11_check 116 = .ok (.iload 5, 2) := by decide +kernel
theorem dX11_check_118 : decode cX11_check 118 = .ok (.iaload, 1) := by decide +kernel
theorem dX11_check_119 : decode cX11_check 119 = .ok (.iload 7, 2) := by decide +kernel
theorem dX11_check_121 : decode cX11_check 121 = .ok (.if_icmp .eq 8, 3) := by decide +kernel
theorem dX11_check_124 : decode cX11_check 124 = .ok (.iconst 1, 1) := by decide +kernel
theorem dX11_check_125 : decode cX11_check 125 = .ok (.iload 5, 2) := by decide +kernel
theorem dX11_check_127 : decode cX11_check 127 = .ok (.iadd, 1) := by decide +kernel
theorem dX11_check_128 : decode cX11_check 128 = .ok (.ireturn, 1) := by decide +kernel
theorem dX11_check_129 : decode cX11_check 129 = .ok (.iinc 5 1, 3) := by decide +kernel
theorem dX11_check_132 : decode cX11_check 132 = .ok (.goto (-86), 3) := by decide +kernel
theorem dX11_check_135 : decode cX11_check 135 = .ok (.iload_n 1, 1) := by decide +kernel
theorem dX11_check_136 : decode cX11_check 136 = .ok (.iload_n 3, 1) := by decide +kernel
theorem dX11_check_137 : decode cX11_check 137 = .ok (.if_icmp .le 9, 3) := by decide +kernel
theorem dX11_check_140 : decode cX11_check 140 = .ok (.iconst 1, 1) := by decide +kernel
theorem dX11_check_141 : decode cX11_check 141 = .ok (.iload_n 3, 1) := by decide +kernel
theorem dX11_check_142 : decode cX11_check 142 = .ok (.iadd, 1) := by decide +kernel
theorem dX11_check_143 : decode cX11_check 143 = .ok (.goto 4, 3) := by decide +kernel
theorem dX11_check_146 : decode cX11_check 146 = .ok (.iconst 0, 1) := by decide +kernel
theorem dX11_check_147 : decode cX11_check 147 = .ok (.ireturn, 1) := by decide +kernel
theorem dX11_keep_0 : decode cX11_keep 0 = .ok (.aload_n 0, 1) := by decide +kernel
theorem dX11_keep_1 : decode cX11_keep 1 = .ok (.getfield 16, 3) := by decide +kernel
theorem dX11_keep_4 : decode cX11_keep 4 = .ok (.aload_n 0, 1) := by decide +kernel
theorem dX11_keep_5 : decode cX11_keep 5 = .ok (.getfield 10, 3) := by decide +kernel
theorem dX11_keep_8 : decode cX11_keep 8 = .ok (.invokevirtual 392, 3) := by decide +kernel
theorem dX11_keep_11 : decode cX11_keep 11 = .ok (.aload_n 0, 1) := by decide +kernel
theorem dX11_keep_12 : decode cX11_keep 12 = .ok (.iconst 1, 1) := by decide +kernel
theorem dX11_keep_13 : decode cX11_keep 13 = .ok (.putfield 19, 3) := by decide +kernel
theorem dX11_keep_16 : decode cX11_keep 16 = .ok (.aload_n 0, 1) := by decide +kernel
theorem dX11_keep_17 : decode cX11_keep 17 = .ok (.getfield 10, 3) := by decide +kernel
theorem dX11_keep_20 : decode cX11_keep 20 = .ok (.getfield 154, 3) := by decide +kernel
theorem dX11_keep_23 : decode cX11_keep 23 = .ok (.ireturn, 1) := by decide +kernel
theorem dX11_back_0 : decode cX11_back 0 = .ok (.aload_n 0, 1) := by decide +kernel
theorem dX11_back_1 : decode cX11_back 1 = .ok (.getfield 19, 3) := by decide +kernel
theorem dX11_back_4 : decode cX11_back 4 = .ok (.ifCond .ne 6, 3) := by decide +kernel
theorem dX11_back_7 : decode cX11_back 7 = .ok (.ldc 143, 2) := by decide +kernel
theorem dX11_back_9 : decode cX11_back 9 = .ok (.ireturn, 1) := by decide +kernel
theorem dX11_back_10 : decode cX11_back 10 = .ok (.aload_n 0, 1) := by decide +kernel
theorem dX11_back_11 : decode cX11_back 11 = .ok (.getfield 10, 3) := by decide +kernel
theorem dX11_back_14 : decode cX11_back 14 = .ok (.aload_n 0, 1) := by decide +kernel
theorem dX11_back_15 : decode cX11_back 15 = .ok (.getfield 16, 3) := by decide +kernel
theorem dX11_back_18 : decode cX11_back 18 = .ok (.invokevirtual 392, 3) := by decide +kernel
theorem dX11_back_21 : decode cX11_back 21 = .ok (.aload_n 0, 1) := by decide +kernel
theorem dX11_back_22 : decode cX11_back 22 = .ok (.getfield 10, 3) := by decide +kernel
theorem dX11_back_25 : decode cX11_back 25 = .ok (.getfield 154, 3) := by decide +kernel
theorem dX11_back_28 : decode cX11_back 28 = .ok (.ireturn, 1) := by decide +kernel
theorem dX11_sheet_0 : decode cX11_sheet 0 = .ok (.iload_n 1, 1) := by decide +kernel
theorem dX11_sheet_1 : decode cX11_sheet 1 = .ok (.iconst 0, 1) := by decide +kernel
theorem dX11_sheet_2 : decode cX11_sheet 2 = .ok (.iconst 1, 1) := by decide +kernel
theorem dX11_sheet_3 : decode cX11_sheet 3 = .ok (.invokestatic 70, 3) := by decide +kernel
theorem dX11_sheet_6 : decode cX11_sheet 6 = .ok (.ifCond .eq 9, 3) := by decide +kernel
theorem dX11_sheet_9 : decode cX11_sheet 9 = .ok (.iload_n 2, 1) := by decide +kernel
theorem dX11_sheet_10 : decode cX11_sheet 10 = .ok (.bipush 20, 2) := by decide +kernel
theorem dX11_sheet_12 : decode cX11_sheet 12 = .ok (.if_icmp .le 6, 3) := by decide +kernel
theorem dX11_sheet_15 : decode cX11_sheet 15 = .ok (.ldc 74, 2) := by decide +kernel
theorem dX11_sheet_17 : decode cX11_sheet 17 = .ok (.ireturn, 1) := by decide +kernel
theorem dX11_sheet_18 : decode cX11_sheet 18 = .ok (.iload_n 2, 1) := by decide +kernel
theorem dX11_sheet_19 : decode cX11_sheet 19 = .ok (.ifCond .ge 7, 3) := by decide +kernel
theorem dX11_sheet_22 : decode cX11_sheet 22 = .ok (.ldc_w 395, 3) := by decide +kernel
theorem dX11_sheet_25 : decode cX11_sheet 25 = .ok (.ireturn, 1) := by decide +kernel
theorem dX11_sheet_26 : decode cX11_sheet 26 = .ok (.iconst 0, 1) := by decide +kernel
theorem dX11_sheet_27 : decode cX11_sheet 27 = .ok (.istore_n 3, 1) := by decide +kernel
theorem dX11_sheet_28 : decode cX11_sheet 28 = .ok (.iload_n 3, 1) := by decide +kernel
theorem dX11_sheet_29 : decode cX11_sheet 29 = .ok (.bipush 20, 2) := by decide +kernel
theorem dX11_sheet_31 : decode cX11_sheet 31 = .ok (.if_icmp .ge 21, 3) := by decide +kernel
theorem dX11_sheet_34 : decode cX11_sheet 34 = .ok (.aload_n 0, 1) := by decide +kernel
theorem dX11_sheet_35 : decode cX11_sheet 35 = .ok (.getfield 54, 3) := by decide +kernel
theorem dX11_sheet_38 : decode cX11_sheet 38 = .ok (.iload_n 1, 1) := by decide +kernel
theorem dX11_sheet_39 : decode cX11_sheet 39 = .ok (.bipush 20, 2) := by decide +kernel
theorem dX11_sheet_41 : decode cX11_sheet 41 = .ok (.imul, 1) := by decide +kernel
theorem dX11_sheet_42 : decode cX11_sheet 42 = .ok (.iload_n 3, 1) := by decide +kernel
theorem dX11_sheet_43 : decode cX11_sheet 43 = .ok (.iadd, 1) := by decide +kernel
theorem dX11_sheet_44 : decode cX11_sheet 44 = .ok (.iconst 0, 1) := by decide +kernel
theorem dX11_sheet_45 : decode cX11_sheet 45 = .ok (.sastore, 1) := by decide +kernel
theorem dX11_sheet_46 : decode cX11_sheet 46 = .ok (.iinc 3 1, 3) := by decide +kernel
theorem dX11_sheet_49 : decode cX11_sheet 49 = .ok (.goto (-21), 3) := by decide +kernel
theorem dX11_sheet_52 : decode cX11_sheet 52 = .ok (.aload_n 0, 1) := by decide +kernel
theorem dX11_sheet_53 : decode cX11_sheet 53 = .ok (.getfield 58, 3) := by decide +kernel
theorem dX11_sheet_56 : decode cX11_sheet 56 = .ok (.iload_n 1, 1) := by decide +kernel
theorem dX11_sheet_57 : decode cX11_sheet 57 = .ok (.iload_n 2, 1) := by decide +kernel
theorem dX11_sheet_58 : decode cX11_sheet 58 = .ok (.iastore, 1) := by decide +kernel
theorem dX11_sheet_59 : decode cX11_sheet 59 = .ok (.iload_n 2, 1) := by decide +kernel
theorem dX11_sheet_60 : decode cX11_sheet 60 = .ok (.ireturn, 1) := by decide +kernel
theorem dX11_mark_0 : decode cX11_mark 0 = .ok (.iload_n 1, 1) := by decide +kernel
theorem dX11_mark_1 : decode cX11_mark 1 = .ok (.iconst 0, 1) := by decide +kernel
theorem dX11_mark_2 : decode cX11_mark 2 = .ok (.iconst 1, 1) := by decide +kernel
theorem dX11_mark_3 : decode cX11_mark 3 = .ok (.invokestatic 70, 3) := by decide +kernel
theorem dX11_mark_6 : decode cX11_mark 6 = .ok (.ifCond .ne 6, 3) := by decide +kernel
theorem dX11_mark_9 : decode cX11_mark 9 = .ok (.ldc 74, 2) := by decide +kernel
theorem dX11_mark_11 : decode cX11_mark 11 = .ok (.ireturn, 1) := by decide +kernel
theorem dX11_mark_12 : decode cX11_mark 12 = .ok (.aload_n 0, 1) := by decide +kernel
theorem dX11_mark_13 : decode cX11_mark 13 = .ok (.getfield 58, 3) := by decide +kernel
theorem dX11_mark_16 : decode cX11_mark 16 = .ok (.iload_n 1, 1) := by decide +kernel
theorem dX11_mark_17 : decode cX11_mark 17 = .ok (.iaload, 1) := by decide +kernel
theorem dX11_mark_18 : decode cX11_mark 18 = .ok (.iconst (-1), 1) := by decide +kernel
theorem dX11_mark_19 : decode cX11_mark 19 = .ok (.if_icmp .ne 7, 3) := by decide +kernel
theorem dX11_mark_22 : decode cX11_mark 22 = .ok (.ldc_w 382, 3) := by decide +kernel
theorem dX11_mark_25 : decode cX11_mark 25 = .ok (.ireturn, 1) := by decide +kernel
theorem dX11_mark_26 : decode cX11_mark 26 = .ok (.iload_n 2, 1) := by decide +kernel
theorem dX11_mark_27 : decode cX11_mark 27 = .ok (.iconst 0, 1) := by decide +kernel
theorem dX11_mark_28 : decode cX11_mark 28 = .ok (.aload_n 0, 1) := by decide +kernel
theorem dX11_mark_29 : decode cX11_mark 29 = .ok (.getfield 58, 3) := by decide +kernel
theorem dX11_mark_32 : decode cX11_mark 32 = .ok (.iload_n 1, 1) := by decide +kernel
theorem dX11_mark_33 : decode cX11_mark 33 = .ok (.iaload, 1) := by decide +kernel
theorem dX11_mark_34 : decode cX11_mark 34 = .ok (.iconst 1, 1) := by decide +kernel
theorem dX11_mark_35 : decode cX11_mark 35 = .ok (.isub, 1) := by decide +kernel
theorem dX11_mark_36 : decode cX11_mark 36 = .ok (.invokestatic 70, 3) := by decide +kernel
theorem dX11_mark_39 : decode cX11_mark 39 = .ok (.ifCond .ne 7, 3) := by decide +kernel
theorem dX11_mark_42 : decode cX11_mark 42 = .ok (.ldc_w 396, 3) := by decide +kernel
theorem dX11_mark_45 : decode cX11_mark 45 = .ok (.ireturn, 1) := by decide +kernel
theorem dX11_mark_46 : decode cX11_mark 46 = .ok (.aload_n 0, 1) := by decide +kernel
theorem dX11_mark_47 : decode cX11_mark 47 = .ok (.getfield 54, 3) := by decide +kernel
theorem dX11_mark_50 : decode cX11_mark 50 = .ok (.iload_n 1, 1) := by decide +kernel
theorem dX11_mark_51 : decode cX11_mark 51 = .ok (.bipush 20, 2) := by decide +kernel
theorem dX11_mark_53 : decode cX11_mark 53 = .ok (.imul, 1) := by decide +kernel
theorem dX11_mark_54 : decode cX11_mark 54 = .ok (.iload_n 2, 1) := by decide +kernel
theorem dX11_mark_55 : decode cX11_mark 55 = .ok (.iadd, 1) := by decide +kernel
theorem dX11_mark_56 : decode cX11_mark 56 = .ok (.saload, 1) := by decide +kernel
theorem dX11_mark_57 : decode cX11_mark 57 = .ok (.istore 4, 2) := by decide +kernel
theorem dX11_mark_59 : decode cX11_mark 59 = .ok (.aload_n 0, 1) := by decide +kernel
theorem dX11_mark_60 : decode cX11_mark 60 = .ok (.getfield 54, 3) := by decide +kernel
theorem dX11_mark_63 : decode cX11_mark 63 = .ok (.iload_n 1, 1) := by decide +kernel
theorem dX11_mark_64 : decode cX11_mark 64 = .ok (.bipush 20, 2) := by decide +kernel
theorem dX11_mark_66 : decode cX11_mark 66 = .ok (.imul, 1) := by decide +kernel
theorem dX11_mark_67 : decode cX11_mark 67 = .ok (.iload_n 2, 1) := by decide +kernel
theorem dX11_mark_68 : decode cX11_mark 68 = .ok (.iadd, 1) := by decide +kernel
theorem dX11_mark_69 : decode cX11_mark 69 = .ok (.iload_n 3, 1) := by decide +kernel
theorem dX11_mark_70 : decode cX11_mark 70 = .ok (.i2s, 1) := by decide +kernel
theorem dX11_mark_71 : decode cX11_mark 71 = .ok (.sastore, 1) := by decide +kernel
theorem dX11_mark_72 : decode cX11_mark 72 = .ok (.iload 4, 2) := by decide +kernel
theorem dX11_mark_74 : decode cX11_mark 74 = .ok (.ireturn, 1) := by decide +kernel
theorem dX11_copy_0 : decode cX11_copy 0 = .ok (.iload_n 1, 1) := by decide +kernel
theorem dX11_copy_1 : decode cX11_copy 1 = .ok (.iconst 0, 1) := by decide +kernel
theorem dX11_copy_2 : decode cX11_copy 2 = .ok (.iconst 1, 1) := by decide +kernel
theorem dX11_copy_3 : decode cX11_copy 3 = .ok (.invokestatic 70, 3) := by decide +kernel
theorem dX11_copy_6 : decode cX11_copy 6 = .ok (.ifCond .eq 12, 3) := by decide +kernel
theorem dX11_copy_9 : decode cX11_copy 9 = .ok (.iload_n 3, 1) := by decide +kernel
theorem dX11_copy_10 : decode cX11_copy 10 = .ok (.iconst 0, 1) := by decide +kernel
theorem dX11_copy_11 : decode cX11_copy 11 = .ok (.iconst 1, 1) := by decide +kernel
theorem dX11_copy_12 : decode cX11_copy 12 = .ok (.invokestatic 70, 3) := by decide +kernel
theorem dX11_copy_15 : decode cX11_copy 15 = .ok (.ifCond .ne 6, 3) := by decide +kernel
theorem dX11_copy_18 : decode cX11_copy 18 = .ok (.ldc 74, 2) := by decide +kernel
theorem dX11_copy_20 : decode cX11_copy 20 = .ok (.ireturn, 1) := by decide +kernel
theorem dX11_copy_21 : decode cX11_copy 21 = .ok (.aload_n 0, 1) := by decide +kernel
theorem dX11_copy_22 : decode cX11_copy 22 = .ok (.getfield 58, 3) := by decide +kernel
theorem dX11_copy_25 : decode cX11_copy 25 = .ok (.iload_n 1, 1) := by decide +kernel
theorem dX11_copy_26 : decode cX11_copy 26 = .ok (.iaload, 1) := by decide +kernel
theorem dX11_copy_27 : decode cX11_copy 27 = .ok (.iconst (-1), 1) := by decide +kernel
theorem dX11_copy_28 : decode cX11_copy 28 = .ok (.if_icmp .eq 13, 3) := by decide +kernel
theorem dX11_copy_31 : decode cX11_copy 31 = .ok (.aload_n 0, 1) := by decide +kernel
theorem dX11_copy_32 : decode cX11_copy 32 = .ok (.getfield 58, 3) := by decide +kernel
theorem dX11_copy_35 : decode cX11_copy 35 = .ok (.iload_n 3, 1) := by decide +kernel
theorem dX11_copy_36 : decode cX11_copy 36 = .ok (.iaload, 1) := by decide +kernel
theorem dX11_copy_37 : decode cX11_copy 37 = .ok (.iconst (-1), 1) := by decide +kernel
theorem dX11_copy_38 : decode cX11_copy 38 = .ok (.if_icmp .ne 7, 3) := by decide +kernel
theorem dX11_copy_41 : decode cX11_copy 41 = .ok (.ldc_w 382, 3) := by decide +kernel
theorem dX11_copy_44 : decode cX11_copy 44 = .ok (.ireturn, 1) := by decide +kernel
theorem dX11_copy_45 : decode cX11_copy 45 = .ok (.aload_n 0, 1) := by decide +kernel
theorem dX11_copy_46 : decode cX11_copy 46 = .ok (.iload_n 1, 1) := by decide +kernel
theorem dX11_copy_47 : decode cX11_copy 47 = .ok (.iload_n 2, 1) := by decide +kernel
theorem dX11_copy_48 : decode cX11_copy 48 = .ok (.iload 5, 2) := by decide +kernel
theorem dX11_copy_50 : decode cX11_copy 50 = .ok (.invokevirtual 397, 3) := by decide +kernel
theorem dX11_copy_53 : decode cX11_copy 53 = .ok (.ifCond .eq 15, 3) := by decide +kernel
theorem dX11_copy_56 : decode cX11_copy 56 = .ok (.aload_n 0, 1) := by decide +kernel
theorem dX11_copy_57 : decode cX11_copy 57 = .ok (.iload_n 3, 1) := by decide +kernel
theorem dX11_copy_58 : decode cX11_copy 58 = .ok (.iload 4, 2) := by decide +kernel
theorem dX11_copy_60 : decode cX11_copy 60 = .ok (.iload 5, 2) := by decide +kernel
theorem dX11_copy_62 : decode cX11_copy 62 = .ok (.invokevirtual 397, 3) := by decide +kernel
theorem dX11_copy_65 : decode cX11_copy 65 = .ok (.ifCond .ne 7, 3) := by decide +kernel
theorem dX11_copy_68 : decode cX11_copy 68 = .ok (.ldc_w 396, 3) := by decide +kernel
theorem dX11_copy_71 : decode cX11_copy 71 = .ok (.ireturn, 1) := by decide +kernel
theorem dX11_copy_72 : decode cX11_copy 72 = .ok (.aload_n 0, 1) := by decide +kernel
theorem dX11_copy_73 : decode cX11_copy 73 = .ok (.getfield 54, 3) := by decide +kernel
theorem dX11_copy_76 : decode cX11_copy 76 = .ok (.iload_n 1, 1) := by decide +kernel
theorem dX11_copy_77 : decode cX11_copy 77 = .ok (.bipush 20, 2) := by decide +kernel
theorem dX11_copy_79 : decode cX11_copy 79 = .ok (.imul, 1) := by decide +kernel
theorem dX11_copy_80 : decode cX11_copy 80 = .ok (.iload_n 2, 1) := by decide +kernel
theorem dX11_copy_81 : decode cX11_copy 81 = .ok (.iadd, 1) := by decide +kernel
theorem dX11_copy_82 : decode cX11_copy 82 = .ok (.aload_n 0, 1) := by decide +kernel
theorem dX11_copy_83 : decode cX11_copy 83 = .ok (.getfield 54, 3) := by decide +kernel
theorem dX11_copy_86 : decode cX11_copy 86 = .ok (.iload_n 3, 1) := by decide +kernel
theorem dX11_copy_87 : decode cX11_copy 87 = .ok (.bipush 20, 2) := by decide +kernel
theorem dX11_copy_89 : decode cX11_copy 89 = .ok (.imul, 1) := by decide +kernel
theorem dX11_copy_90 : decode cX11_copy 90 = .ok (.iload 4, 2) := by decide +kernel
theorem dX11_copy_92 : decode cX11_copy 92 = .ok (.iadd, 1) := by decide +kernel
theorem dX11_copy_93 : decode cX11_copy 93 = .ok (.iload 5, 2) := by decide +kernel
theorem dX11_copy_95 : decode cX11_copy 95 = .ok (.invokestatic 290, 3) := by decide +kernel
theorem dX11_copy_98 : decode cX11_copy 98 = .ok (.iload 5, 2) := by decide +kernel
theorem dX11_copy_100 : decode cX11_copy 100 = .ok (.ireturn, 1) := by decide +kernel
theorem dX11_count_0 : decode cX11_count 0 = .ok (.iload_n 1, 1) := by decide +kernel
theorem dX11_count_1 : decode cX11_count 1 = .ok (.tableswitch 237 0 12 #[67, 78, 89, 100, 111, 122, 146, 157, 168, 173, 181, 189, 213], 67) := by decide +kernel
theorem dX11_count_68 : decode cX11_count 68 = .ok (.aload_n 0, 1) := by decide +kernel
theorem dX11_count_69 : decode cX11_count 69 = .ok (.getfield 10, 3) := by decide +kernel
theorem dX11_count_72 : decode cX11_count 72 = .ok (.getfield 75, 3) := by decide +kernel
theorem dX11_count_75 : decode cX11_count 75 = .ok (.getfield 79, 3) := by decide +kernel
theorem dX11_count_78 : decode cX11_count 78 = .ok (.ireturn, 1) := by decide +kernel
theorem dX11_count_79 : decode cX11_count 79 = .ok (.aload_n 0, 1) := by decide +kernel
theorem dX11_count_80 : decode cX11_count 80 = .ok (.getfield 10, 3) := by decide +kernel
theorem dX11_count_83 : decode cX11_count 83 = .ok (.getfield 102, 3) := by decide +kernel
theorem dX11_count_86 : decode cX11_count 86 = .ok (.getfield 106, 3) := by decide +kernel
theorem dX11_count_89 : decode cX11_count 89 = .ok (.ireturn, 1) := by decide +kernel
theorem dX11_count_90 : decode cX11_count 90 = .ok (.aload_n 0, 1) := by decide +kernel
theorem dX11_count_91 : decode cX11_count 91 = .ok (.getfield 10, 3) := by decide +kernel
theorem dX11_count_94 : decode cX11_count 94 = .ok (.getfield 117, 3) := by decide +kernel
theorem dX11_count_97 : decode cX11_count 97 = .ok (.getfield 121, 3) := by decide +kernel
theorem dX11_count_100 : decode cX11_count 100 = .ok (.ireturn, 1) := by decide +kernel
theorem dX11_count_101 : decode cX11_count 101 = .ok (.aload_n 0, 1) := by decide +kernel
theorem dX11_count_102 : decode cX11_count 102 = .ok (.getfield 10, 3) := by decide +kernel
theorem dX11_count_105 : decode cX11_count 105 = .ok (.getfield 173, 3) := by decide +kernel
theorem dX11_count_108 : decode cX11_count 108 = .ok (.getfield 177, 3) := by decide +kernel
theorem dX11_count_111 : decode cX11_count 111 = .ok (.ireturn, 1) := by decide +kernel
theorem dX11_count_112 : decode cX11_count 112 = .ok (.aload_n 0, 1) := by decide +kernel
theorem dX11_count_113 : decode cX11_count 113 = .ok (.getfield 10, 3) := by decide +kernel
theorem dX11_count_116 : decode cX11_count 116 = .ok (.getfield 212, 3) := by decide +kernel
theorem dX11_count_119 : decode cX11_count 119 = .ok (.getfield 216, 3) := by decide +kernel
theorem dX11_count_122 : decode cX11_count 122 = .ok (.ireturn, 1) := by decide +kernel
theorem dX11_count_123 : decode cX11_count 123 = .ok (.aload_n 0, 1) := by decide +kernel
theorem dX11_count_124 : decode cX11_count 124 = .ok (.getfield 10, 3) := by decide +kernel
theorem dX11_count_127 : decode cX11_count 127 = .ok (.getfield 102, 3) := by decide +kernel
theorem dX11_count_130 : decode cX11_count 130 = .ok (.getfield 112, 3) := by decide +kernel
theorem dX11_count_133 : decode cX11_count 133 = .ok (.aload_n 0, 1) := by decide +kernel
theorem dX11_count_134 : decode cX11_count 134 = .ok (.getfield 10, 3) := by decide +kernel
theorem dX11_count_137 : decode cX11_count 137 = .ok (.getfield 102, 3) := by decide +kernel
theorem dX11_count_140 : decode cX11_count 140 = .ok (.getfield 106, 3) := by decide +kernel
theorem dX11_count_143 : decode cX11_count 143 = .ok (.invokestatic 400, 3) := by decide +kernel
theorem dX11_count_146 : decode cX11_count 146 = .ok (.ireturn, 1) := by decide +kernel
theorem dX11_count_147 : decode cX11_count 147 = .ok (.aload_n 0, 1) := by decide +kernel
theorem dX11_count_148 : decode cX11_count 148 = .ok (.getfield 10, 3) := by decide +kernel
theorem dX11_count_151 : decode cX11_count 151 = .ok (.getfield 134, 3) := by decide +kernel
theorem dX11_count_154 : decode cX11_count 154 = .ok (.getfield 299, 3) := by decide +kernel
theorem dX11_count_157 : decode cX11_count 157 = .ok (.ireturn, 1) := by decide +kernel
theorem dX11_count_158 : decode cX11_count 158 = .ok (.aload_n 0, 1) := by decide +kernel
theorem dX11_count_159 : decode cX11_count 159 = .ok (.getfield 10, 3) := by decide +kernel
theorem dX11_count_162 : decode cX11_count 162 = .ok (.getfield 368, 3) := by decide +kernel
theorem dX11_count_165 : decode cX11_count 165 = .ok (.getfield 372, 3) := by decide +kernel
theorem dX11_count_168 : decode cX11_count 168 = .ok (.ireturn, 1) := by decide +kernel
theorem dX11_count_169 : decode cX11_count 169 = .ok (.aload_n 0, 1) := by decide +kernel
theorem dX11_count_170 : decode cX11_count 170 = .ok (.getfield 50, 3) := by decide +kernel
theorem dX11_count_173 : decode cX11_count 173 = .ok (.ireturn, 1) := by decide +kernel
theorem dX11_count_174 : decode cX11_count 174 = .ok (.aload_n 0, 1) := by decide +kernel
theorem dX11_count_175 : decode cX11_count 175 = .ok (.getfield 26, 3) := by decide +kernel
theorem dX11_count_178 : decode cX11_count 178 = .ok (.getfield 263, 3) := by decide +kernel
theorem dX11_count_181 : decode cX11_count 181 = .ok (.ireturn, 1) := by decide +kernel
theorem dX11_count_182 : decode cX11_count 182 = .ok (.aload_n 0, 1) := by decide +kernel
theorem dX11_count_183 : decode cX11_count 183 = .ok (.getfield 10, 3) := by decide +kernel
theorem dX11_count_186 : decode cX11_count 186 = .ok (.getfield 154, 3) := by decide +kernel
theorem dX11_count_189 : decode cX11_count 189 = .ok (.ireturn, 1) := by decide +kernel
theorem dX11_count_190 : decode cX11_count 190 = .ok (.aload_n 0, 1) := by decide +kernel
theorem dX11_count_191 : decode cX11_count 191 = .ok (.getfield 10, 3) := by decide +kernel
theorem dX11_count_194 : decode cX11_count 194 = .ok (.getfield 102, 3) := by decide +kernel
theorem dX11_count_197 : decode cX11_count 197 = .ok (.getfield 109, 3) := by decide +kernel
theorem dX11_count_200 : decode cX11_count 200 = .ok (.aload_n 0, 1) := by decide +kernel
theorem dX11_count_201 : decode cX11_count 201 = .ok (.getfield 10, 3) := by decide +kernel
theorem dX11_count_204 : decode cX11_count 204 = .ok (.getfield 102, 3) := by decide +kernel
theorem dX11_count_207 : decode cX11_count 207 = .ok (.getfield 106, 3) := by decide +kernel
theorem dX11_count_210 : decode cX11_count 210 = .ok (.invokestatic 400, 3) := by decide +kernel
theorem dX11_count_213 : decode cX11_count 213 = .ok (.ireturn, 1) := by decide +kernel
theorem dX11_count_214 : decode cX11_count 214 = .ok (.aload_n 0, 1) := by decide +kernel
theorem dX11_count_215 : decode cX11_count 215 = .ok (.getfield 10, 3) := by decide +kernel
theorem dX11_count_218 : decode cX11_count 218 = .ok (.getfield 117, 3) := by decide +kernel
theorem dX11_count_221 : decode cX11_count 221 = .ok (.getfield 311, 3) := by decide +kernel
theorem dX11_count_224 : decode cX11_count 224 = .ok (.aload_n 0, 1) := by decide +kernel
theorem dX11_count_225 : decode cX11_count 225 = .ok (.getfield 10, 3) := by decide +kernel
theorem dX11_count_228 : decode cX11_count 228 = .ok (.getfield 117, 3) := by decide +kernel
theorem dX11_count_231 : decode cX11_count 231 = .ok (.getfield 121, 3) := by decide +kernel
theorem dX11_count_234 : decode cX11_count 234 = .ok (.invokestatic 400, 3) := by decide +kernel
theorem dX11_count_237 : decode cX11_count 237 = .ok (.ireturn, 1) := by decide +kernel
theorem dX11_count_238 : decode cX11_count 238 = .ok (.ldc 74, 2) := by decide +kernel
theorem dX11_count_240 : decode cX11_count 240 = .ok (.ireturn, 1) := by decide +kernel
theorem dX11_within_0 : decode cX11_within 0 = .ok (.iload_n 0, 1) := by decide +kernel
theorem dX11_within_1 : decode cX11_within 1 = .ok (.iload_n 1, 1) := by decide +kernel
theorem dX11_within_2 : decode cX11_within 2 = .ok (.if_icmp .lt 12, 3) := by decide +kernel
theorem dX11_within_5 : decode cX11_within 5 = .ok (.iload_n 0, 1) := by decide +kernel
theorem dX11_within_6 : decode cX11_within 6 = .ok (.iload_n 2, 1) := by decide +kernel
theorem dX11_within_7 : decode cX11_within 7 = .ok (.if_icmp .gt 7, 3) := by decide +kernel
theorem dX11_within_10 : decode cX11_within 10 = .ok (.iconst 1, 1) := by decide +kernel
theorem dX11_within_11 : decode cX11_within 11 = .ok (.goto 4, 3) := by decide +kernel
theorem dX11_within_14 : decode cX11_within 14 = .ok (.iconst 0, 1) := by decide +kernel
theorem dX11_within_15 : decode cX11_within 15 = .ok (.ireturn, 1) := by decide +kernel
theorem dX11_sumOf_0 : decode cX11_sumOf 0 = .ok (.iconst 0, 1) := by decide +kernel
theorem dX11_sumOf_1 : decode cX11_sumOf 1 = .ok (.istore_n 2, 1) := by decide +kernel
theorem dX11_sumOf_2 : decode cX11_sumOf 2 = .ok (.iconst 0, 1) := by decide +kernel
theorem dX11_sumOf_3 : decode cX11_sumOf 3 = .ok (.istore_n 3, 1) := by decide +kernel
theorem dX11_sumOf_4 : decode cX11_sumOf 4 = .ok (.iload_n 3, 1) := by decide +kernel
theorem dX11_sumOf_5 : decode cX11_sumOf 5 = .ok (.iload_n 1, 1) := by decide +kernel
theorem dX11_sumOf_6 : decode cX11_sumOf 6 = .ok (.if_icmp .ge 21, 3) := by decide +kernel
theorem dX11_sumOf_9 : decode cX11_sumOf 9 = .ok (.iload_n 3, 1) := by decide +kernel
theorem dX11_sumOf_10 : decode cX11_sumOf 10 = .ok (.aload_n 0, 1) := by decide +kernel
theorem dX11_sumOf_11 : decode cX11_sumOf 11 = .ok (.arraylength, 1) := by decide +kernel
theorem dX11_sumOf_12 : decode cX11_sumOf 12 = .ok (.if_icmp .ge 15, 3) := by decide +kernel
theorem dX11_sumOf_15 : decode cX11_sumOf 15 = .ok (.iload_n 2, 1) := by decide +kernel
theorem dX11_sumOf_16 : decode cX11_sumOf 16 = .ok (.aload_n 0, 1) := by decide +kernel
theorem dX11_sumOf_17 : decode cX11_sumOf 17 = .ok (.iload_n 3, 1) := by decide +kernel
theorem dX11_sumOf_18 : decode cX11_sumOf 18 = .ok (.iaload, 1) := by decide +kernel
theorem dX11_sumOf_19 : decode cX11_sumOf 19 = .ok (.iadd, 1) := by decide +kernel
theorem dX11_sumOf_20 : decode cX11_sumOf 20 = .ok (.istore_n 2, 1) := by decide +kernel
theorem dX11_sumOf_21 : decode cX11_sumOf 21 = .ok (.iinc 3 1, 3) := by decide +kernel
theorem dX11_sumOf_24 : decode cX11_sumOf 24 = .ok (.goto (-20), 3) := by decide +kernel
theorem dX11_sumOf_27 : decode cX11_sumOf 27 = .ok (.iload_n 2, 1) := by decide +kernel
theorem dX11_sumOf_28 : decode cX11_sumOf 28 = .ok (.ireturn, 1) := by decide +kernel
theorem dX11_takeOver_0 : decode cX11_takeOver 0 = .ok (.aload_n 0, 1) := by decide +kernel
theorem dX11_takeOver_1 : decode cX11_takeOver 1 = .ok (.iconst 0, 1) := by decide +kernel
theorem dX11_takeOver_2 : decode cX11_takeOver 2 = .ok (.aload_n 1, 1) := by decide +kernel
theorem dX11_takeOver_3 : decode cX11_takeOver 3 = .ok (.iconst 0, 1) := by decide +kernel
theorem dX11_takeOver_4 : decode cX11_takeOver 4 = .ok (.aload_n 0, 1) := by decide +kernel
theorem dX11_takeOver_5 : decode cX11_takeOver 5 = .ok (.arraylength, 1) := by decide +kernel
theorem dX11_takeOver_6 : decode cX11_takeOver 6 = .ok (.aload_n 1, 1) := by decide +kernel
theorem dX11_takeOver_7 : decode cX11_takeOver 7 = .ok (.arraylength, 1) := by decide +kernel
theorem dX11_takeOver_8 : decode cX11_takeOver 8 = .ok (.invokestatic 314, 3) := by decide +kernel
theorem dX11_takeOver_11 : decode cX11_takeOver 11 = .ok (.invokestatic 290, 3) := by decide +kernel
theorem dX11_takeOver_14 : decode cX11_takeOver 14 = .ok (.return_, 1) := by decide +kernel
theorem dX11_mostOfRule_0 : decode cX11_mostOfRule 0 = .ok (.iload_n 0, 1) := by decide +kernel
theorem dX11_mostOfRule_1 : decode cX11_mostOfRule 1 = .ok (.lookupswitch 34 #[(0, 27), (1, 31)], 27) := by decide +kernel
theorem dX11_mostOfRule_28 : decode cX11_mostOfRule 28 = .ok (.sipush 240, 3) := by decide +kernel
theorem dX11_mostOfRule_31 : decode cX11_mostOfRule 31 = .ok (.ireturn, 1) := by decide +kernel
theorem dX11_mostOfRule_32 : decode cX11_mostOfRule 32 = .ok (.bipush 100, 2) := by decide +kernel
theorem dX11_mostOfRule_34 : decode cX11_mostOfRule 34 = .ok (.ireturn, 1) := by decide +kernel
theorem dX11_mostOfRule_35 : decode cX11_mostOfRule 35 = .ok (.sipush 900, 3) := by decide +kernel
theorem dX11_mostOfRule_38 : decode cX11_mostOfRule 38 = .ok (.ireturn, 1) := by decide +kernel
theorem dX11_isPast_0 : decode cX11_isPast 0 = .ok (.iload_n 1, 1) := by decide +kernel
theorem dX11_isPast_1 : decode cX11_isPast 1 = .ok (.iconst 0, 1) := by decide +kernel
theorem dX11_isPast_2 : decode cX11_isPast 2 = .ok (.aload_n 0, 1) := by decide +kernel
theorem dX11_isPast_3 : decode cX11_isPast 3 = .ok (.getfield 10, 3) := by decide +kernel
theorem dX11_isPast_6 : decode cX11_isPast 6 = .ok (.getfield 154, 3) := by decide +kernel
theorem dX11_isPast_9 : decode cX11_isPast 9 = .ok (.invokestatic 70, 3) := by decide +kernel
theorem dX11_isPast_12 : decode cX11_isPast 12 = .ok (.ireturn, 1) := by decide +kernel
theorem dX11_isSpan_0 : decode cX11_isSpan 0 = .ok (.iload_n 0, 1) := by decide +kernel
theorem dX11_isSpan_1 : decode cX11_isSpan 1 = .ok (.ifCond .ge 5, 3) := by decide +kernel
theorem dX11_isSpan_4 : decode cX11_isSpan 4 = .ok (.iconst 0, 1) := by decide +kernel
theorem dX11_isSpan_5 : decode cX11_isSpan 5 = .ok (.ireturn, 1) := by decide +kernel
theorem dX11_isSpan_6 : decode cX11_isSpan 6 = .ok (.iload_n 0, 1) := by decide +kernel
theorem dX11_isSpan_7 : decode cX11_isSpan 7 = .ok (.sipush 1000, 3) := by decide +kernel
theorem dX11_isSpan_10 : decode cX11_isSpan 10 = .ok (.idiv, 1) := by decide +kernel
theorem dX11_isSpan_11 : decode cX11_isSpan 11 = .ok (.istore_n 1, 1) := by decide +kernel
theorem dX11_isSpan_12 : decode cX11_isSpan 12 = .ok (.iload_n 0, 1) := by decide +kernel
theorem dX11_isSpan_13 : decode cX11_isSpan 13 = .ok (.sipush 1000, 3) := by decide +kernel
theorem dX11_isSpan_16 : decode cX11_isSpan 16 = .ok (.irem, 1) := by decide +kernel
theorem dX11_isSpan_17 : decode cX11_isSpan 17 = .ok (.istore_n 2, 1) := by decide +kernel
theorem dX11_isSpan_18 : decode cX11_isSpan 18 = .ok (.iload_n 2, 1) := by decide +kernel
theorem dX11_isSpan_19 : decode cX11_isSpan 19 = .ok (.iconst 1, 1) := by decide +kernel
theorem dX11_isSpan_20 : decode cX11_isSpan 20 = .ok (.if_icmp .lt 23, 3) := by decide +kernel
theorem dX11_isSpan_23 : decode cX11_isSpan 23 = .ok (.iload_n 1, 1) := by decide +kernel
theorem dX11_isSpan_24 : decode cX11_isSpan 24 = .ok (.sipush 240, 3) := by decide +kernel
theorem dX11_isSpan_27 : decode cX11_isSpan 27 = .ok (.if_icmp .ge 16, 3) := by decide +kernel
theorem dX11_isSpan_30 : decode cX11_isSpan 30 = .ok (.iload_n 1, 1) := by decide +kernel
theorem dX11_isSpan_31 : decode cX11_isSpan 31 = .ok (.iload_n 2, 1) := by decide +kernel
theorem dX11_isSpan_32 : decode cX11_isSpan 32 = .ok (.iadd, 1) := by decide +kernel
theorem dX11_isSpan_33 : decode cX11_isSpan 33 = .ok (.sipush 240, 3) := by decide +kernel
theorem dX11_isSpan_36 : decode cX11_isSpan 36 = .ok (.if_icmp .gt 7, 3) := by decide +kernel
theorem dX11_isSpan_39 : decode cX11_isSpan 39 = .ok (.iconst 1, 1) := by decide +kernel
theorem dX11_isSpan_40 : decode cX11_isSpan 40 = .ok (.goto 4, 3) := by decide +kernel
theorem dX11_isSpan_43 : decode cX11_isSpan 43 = .ok (.iconst 0, 1) := by decide +kernel
theorem dX11_isSpan_44 : decode cX11_isSpan 44 = .ok (.ireturn, 1) := by decide +kernel
theorem dX11_isPayer_0 : decode cX11_isPayer 0 = .ok (.iload_n 1, 1) := by decide +kernel
theorem dX11_isPayer_1 : decode cX11_isPayer 1 = .ok (.ifCond .lt 32, 3) := by decide +kernel
theorem dX11_isPayer_4 : decode cX11_isPayer 4 = .ok (.aload_n 0, 1) := by decide +kernel
theorem dX11_isPayer_5 : decode cX11_isPayer 5 = .ok (.getfield 10, 3) := by decide +kernel
theorem dX11_isPayer_8 : decode cX11_isPayer 8 = .ok (.getfield 102, 3) := by decide +kernel
theorem dX11_isPayer_11 : decode cX11_isPayer 11 = .ok (.iload_n 1, 1) := by decide +kernel
theorem dX11_isPayer_12 : decode cX11_isPayer 12 = .ok (.bipush 100, 2) := by decide +kernel
theorem dX11_isPayer_14 : decode cX11_isPayer 14 = .ok (.idiv, 1) := by decide +kernel
theorem dX11_isPayer_15 : decode cX11_isPayer 15 = .ok (.invokevirtual 115, 3) := by decide +kernel
theorem dX11_isPayer_18 : decode cX11_isPayer 18 = .ok (.ifCond .eq 15, 3) := by decide +kernel
theorem dX11_isPayer_21 : decode cX11_isPayer 21 = .ok (.iload_n 1, 1) := by decide +kernel
theorem dX11_isPayer_22 : decode cX11_isPayer 22 = .ok (.bipush 100, 2) := by decide +kernel
theorem dX11_isPayer_24 : decode cX11_isPayer 24 = .ok (.irem, 1) := by decide +kernel
theorem dX11_isPayer_25 : decode cX11_isPayer 25 = .ok (.iconst 1, 1) := by decide +kernel
theorem dX11_isPayer_26 : decode cX11_isPayer 26 = .ok (.if_icmp .lt 7, 3) := by decide +kernel
theorem dX11_isPayer_29 : decode cX11_isPayer 29 = .ok (.iconst 1, 1) := by decide +kernel
theorem dX11_isPayer_30 : decode cX11_isPayer 30 = .ok (.goto 4, 3) := by decide +kernel
theorem dX11_isPayer_33 : decode cX11_isPayer 33 = .ok (.iconst 0, 1) := by decide +kernel
theorem dX11_isPayer_34 : decode cX11_isPayer 34 = .ok (.ireturn, 1) := by decide +kernel
theorem dX11_partsInTwo_0 : decode cX11_partsInTwo 0 = .ok (.iconst 0, 1) := by decide +kernel
theorem dX11_partsInTwo_1 : decode cX11_partsInTwo 1 = .ok (.istore_n 1, 1) := by decide +kernel
theorem dX11_partsInTwo_2 : decode cX11_partsInTwo 2 = .ok (.iconst 0, 1) := by decide +kernel
theorem dX11_partsInTwo_3 : decode cX11_partsInTwo 3 = .ok (.istore_n 2, 1) := by decide +kernel
theorem dX11_partsInTwo_4 : decode cX11_partsInTwo 4 = .ok (.iload_n 2, 1) := by decide +kernel
theorem dX11_partsInTwo_5 : decode cX11_partsInTwo 5 = .ok (.sipush 240, 3) := by decide +kernel
theorem dX11_partsInTwo_8 : decode cX11_partsInTwo 8 = .ok (.if_icmp .ge 22, 3) := by decide +kernel
theorem dX11_partsInTwo_11 : decode cX11_partsInTwo 11 = .ok (.aload_n 0, 1) := by decide +kernel
theorem dX11_partsInTwo_12 : decode cX11_partsInTwo 12 = .ok (.getfield 61, 3) := by decide +kernel
theorem dX11_partsInTwo_15 : decode cX11_partsInTwo 15 = .ok (.iload_n 2, 1) := by decide +kernel
theorem dX11_partsInTwo_16 : decode cX11_partsInTwo 16 = .ok (.iaload, 1) := by decide +kernel
theorem dX11_partsInTwo_17 : decode cX11_partsInTwo 17 = .ok (.iconst 1, 1) := by decide +kernel
theorem dX11_partsInTwo_18 : decode cX11_partsInTwo 18 = .ok (.if_icmp .le 6, 3) := by decide +kernel
theorem dX11_partsInTwo_21 : decode cX11_partsInTwo 21 = .ok (.iinc 1 1, 3) := by decide +kernel
theorem dX11_partsInTwo_24 : decode cX11_partsInTwo 24 = .ok (.iinc 2 1, 3) := by decide +kernel
theorem dX11_partsInTwo_27 : decode cX11_partsInTwo 27 = .ok (.goto (-23), 3) := by decide +kernel
theorem dX11_partsInTwo_30 : decode cX11_partsInTwo 30 = .ok (.iload_n 1, 1) := by decide +kernel
theorem dX11_partsInTwo_31 : decode cX11_partsInTwo 31 = .ok (.ireturn, 1) := by decide +kernel
theorem dX11_partsBeyond_0 : decode cX11_partsBeyond 0 = .ok (.aload_n 0, 1) := by decide +kernel
theorem dX11_partsBeyond_1 : decode cX11_partsBeyond 1 = .ok (.getfield 64, 3) := by decide +kernel
theorem dX11_partsBeyond_4 : decode cX11_partsBeyond 4 = .ok (.iconst 0, 1) := by decide +kernel
theorem dX11_partsBeyond_5 : decode cX11_partsBeyond 5 = .ok (.invokestatic 224, 3) := by decide +kernel
theorem dX11_partsBeyond_8 : decode cX11_partsBeyond 8 = .ok (.aload_n 0, 1) := by decide +kernel
theorem dX11_partsBeyond_9 : decode cX11_partsBeyond 9 = .ok (.getfield 10, 3) := by decide +kernel
theorem dX11_partsBeyond_12 : decode cX11_partsBeyond 12 = .ok (.getfield 212, 3) := by decide +kernel
theorem dX11_partsBeyond_15 : decode cX11_partsBeyond 15 = .ok (.iload_n 1, 1) := by decide +kernel
theorem dX11_partsBeyond_16 : decode cX11_partsBeyond 16 = .ok (.iload_n 2, 1) := by decide +kernel
theorem dX11_partsBeyond_17 : decode cX11_partsBeyond 17 = .ok (.iload_n 3, 1) := by decide +kernel
theorem dX11_partsBeyond_18 : decode cX11_partsBeyond 18 = .ok (.aload_n 0, 1) := by decide +kernel
theorem dX11_partsBeyond_19 : decode cX11_partsBeyond 19 = .ok (.getfield 64, 3) := by decide +kernel
theorem dX11_partsBeyond_22 : decode cX11_partsBeyond 22 = .ok (.invokevirtual 404, 3) := by decide +kernel
theorem dX11_partsBeyond_25 : decode cX11_partsBeyond 25 = .ok (.ifCond .ne 5, 3) := by decide +kernel
theorem dX11_partsBeyond_28 : decode cX11_partsBeyond 28 = .ok (.iconst 0, 1) := by decide +kernel
theorem dX11_partsBeyond_29 : decode cX11_partsBeyond 29 = .ok (.ireturn, 1) := by decide +kernel
theorem dX11_partsBeyond_30 : decode cX11_partsBeyond 30 = .ok (.iconst 0, 1) := by decide +kernel
theorem dX11_partsBeyond_31 : decode cX11_partsBeyond 31 = .ok (.istore 4, 2) := by decide +kernel
theorem dX11_partsBeyond_33 : decode cX11_partsBeyond 33 = .ok (.iconst 0, 1) := by decide +kernel
theorem dX11_partsBeyond_34 : decode cX11_partsBeyond 34 = .ok (.istore 5, 2) := by decide +kernel
theorem dX11_partsBeyond_36 : decode cX11_partsBeyond 36 = .ok (.iload 5, 2) := by decide +kernel
theorem dX11_partsBeyond_38 : decode cX11_partsBeyond 38 = .ok (.sipush 240, 3) := by decide +kernel
theorem dX11_partsBeyond_41 : decode cX11_partsBeyond 41 = .ok (.if_icmp .ge 32, 3) := by decide +kernel
theorem dX11_partsBeyond_44 : decode cX11_partsBeyond 44 = .ok (.aload_n 0, 1) := by decide +kernel
theorem dX11_partsBeyond_45 : decode cX11_partsBeyond 45 = .ok (.getfield 61, 3) := by decide +kernel
theorem dX11_partsBeyond_48 : decode cX11_partsBeyond 48 = .ok (.iload 5, 2) := by decide +kernel
theorem dX11_partsBeyond_50 : decode cX11_partsBeyond 50 = .ok (.iaload, 1) := by decide +kernel
theorem dX11_partsBeyond_51 : decode cX11_partsBeyond 51 = .ok (.ifCond .le 16, 3) := by decide +kernel
theorem dX11_partsBeyond_54 : decode cX11_partsBeyond 54 = .ok (.aload_n 0, 1) := by decide +kernel
theorem dX11_partsBeyond_55 : decode cX11_partsBeyond 55 = .ok (.getfield 64, 3) := by decide +kernel
theorem dX11_partsBeyond_58 : decode cX11_partsBeyond 58 = .ok (.iload 5, 2) := by decide +kernel
theorem dX11_partsBeyond_60 : decode cX11_partsBeyond 60 = .ok (.iaload, 1) := by decide +kernel
theorem dX11_partsBeyond_61 : decode cX11_partsBeyond 61 = .ok (.ifCond .ne 6, 3) := by decide +kernel
theorem dX11_partsBeyond_64 : decode cX11_partsBeyond 64 = .ok (.iinc 4 1, 3) := by decide +kernel
theorem dX11_partsBeyond_67 : decode cX11_partsBeyond 67 = .ok (.iinc 5 1, 3) := by decide +kernel
theorem dX11_partsBeyond_70 : decode cX11_partsBeyond 70 = .ok (.goto (-34), 3) := by decide +kernel
theorem dX11_partsBeyond_73 : decode cX11_partsBeyond 73 = .ok (.iload 4, 2) := by decide +kernel
theorem dX11_partsBeyond_75 : decode cX11_partsBeyond 75 = .ok (.ireturn, 1) := by decide +kernel
theorem dX11_takeEntries_0 : decode cX11_takeEntries 0 = .ok (.aload_n 0, 1) := by decide +kernel
theorem dX11_takeEntries_1 : decode cX11_takeEntries 1 = .ok (.getfield 10, 3) := by decide +kernel
theorem dX11_takeEntries_4 : decode cX11_takeEntries 4 = .ok (.getfield 173, 3) := by decide +kernel
theorem dX11_takeEntries_7 : decode cX11_takeEntries 7 = .ok (.astore 4, 2) := by decide +kernel
theorem dX11_takeEntries_9 : decode cX11_takeEntries 9 = .ok (.iconst 0, 1) := by decide +kernel
theorem dX11_takeEntries_10 : decode cX11_takeEntries 10 = .ok (.istore 5, 2) := by decide +kernel
theorem dX11_takeEntries_12 : decode cX11_takeEntries 12 = .ok (.iconst 0, 1) := by decide +kernel
theorem dX11_takeEntries_13 : decode cX11_takeEntries 13 = .ok (.istore 6, 2) := by decide +kernel
theorem dX11_takeEntries_15 : decode cX11_takeEntries 15 = .ok (.iconst 0, 1) := by decide +kernel
theorem dX11_takeEntries_16 : decode cX11_takeEntries 16 = .ok (.istore 7, 2) := by decide +kernel
theorem dX11_takeEntries_18 : decode cX11_takeEntries 18 = .ok (.iload 7, 2) := by decide +kernel
theorem dX11_takeEntries_20 : decode cX11_takeEntries 20 = .ok (.aload 4, 2) := by decide +kernel
theorem dX11_takeEntries_22 : decode cX11_takeEntries 22 = .ok (.getfield 177, 3) := by decide +kernel
theorem dX11_takeEntries_25 : decode cX11_takeEntries 25 = .ok (.if_icmp .ge 120, 3) := by decide +kernel
theorem dX11_takeEntries_28 : decode cX11_takeEntries 28 = .ok (.aload 4, 2) := by decide +kernel
theorem dX11_takeEntries_30 : decode cX11_takeEntries 30 = .ok (.getfield 183, 3) := by decide +kernel
theorem dX11_takeEntries_33 : decode cX11_takeEntries 33 = .ok (.iload 7, 2) := by decide +kernel
theorem dX11_takeEntries_35 : decode cX11_takeEntries 35 = .ok (.iaload, 1) := by decide +kernel
theorem dX11_takeEntries_36 : decode cX11_takeEntries 36 = .ok (.iload_n 2, 1) := by decide +kernel
theorem dX11_takeEntries_37 : decode cX11_takeEntries 37 = .ok (.if_icmp .ne 32, 3) := by decide +kernel
theorem dX11_takeEntries_40 : decode cX11_takeEntries 40 = .ok (.aload 4, 2) := by decide +kernel
theorem dX11_takeEntries_42 : decode cX11_takeEntries 42 = .ok (.getfield 185, 3) := by decide +kernel
theorem dX11_takeEntries_45 : decode cX11_takeEntries 45 = .ok (.iload 7, 2) := by decide +kernel
theorem dX11_takeEntries_47 : decode cX11_takeEntries 47 = .ok (.iaload, 1) := by decide +kernel
theorem dX11_takeEntries_48 : decode cX11_takeEntries 48 = .ok (.iload_n 3, 1) := by decide +kernel
theorem dX11_takeEntries_49 : decode cX11_takeEntries 49 = .ok (.if_icmp .gt 20, 3) := by decide +kernel
theorem dX11_takeEntries_52 : decode cX11_takeEntries 52 = .ok (.aload 4, 2) := by decide +kernel
theorem dX11_takeEntries_54 : decode cX11_takeEntries 54 = .ok (.getfield 203, 3) := by decide +kernel
theorem dX11_takeEntries_57 : decode cX11_takeEntries 57 = .ok (.iload 7, 2) := by decide +kernel
theorem dX11_takeEntries_59 : decode cX11_takeEntries 59 = .ok (.iaload, 1) := by decide +kernel
theorem dX11_takeEntries_60 : decode cX11_takeEntries 60 = .ok (.ldc 133, 2) := by decide +kernel
theorem dX11_takeEntries_62 : decode cX11_takeEntries 62 = .ok (.if_icmp .ne 7, 3) := by decide +kernel
theorem dX11_takeEntries_65 : decode cX11_takeEntries 65 = .ok (.iconst 1, 1) := by decide +kernel
theorem dX11_takeEntries_66 : decode cX11_takeEntries 66 = .ok (.goto 4, 3) := by decide +kernel
theorem dX11_takeEntries_69 : decode cX11_takeEntries 69 = .ok (.iconst 0, 1) := by decide +kernel
theorem dX11_takeEntries_70 : decode cX11_takeEntries 70 = .ok (.istore 8, 2) := by decide +kernel
theorem dX11_takeEntries_72 : decode cX11_takeEntries 72 = .ok (.iload 8, 2) := by decide +kernel
theorem dX11_takeEntries_74 : decode cX11_takeEntries 74 = .ok (.ifCond .eq 65, 3) := by decide +kernel
theorem dX11_takeEntries_77 : decode cX11_takeEntries 77 = .ok (.aload 4, 2) := by decide +kernel
theorem dX11_takeEntries_79 : decode cX11_takeEntries 79 = .ok (.iload 7, 2) := by decide +kernel
theorem dX11_takeEntries_81 : decode cX11_takeEntries 81 = .ok (.aload_n 0, 1) := by decide +kernel
theorem dX11_takeEntries_82 : decode cX11_takeEntries 82 = .ok (.getfield 10, 3) := by decide +kernel
theorem dX11_takeEntries_85 : decode cX11_takeEntries 85 = .ok (.getfield 154, 3) := by decide +kernel
theorem dX11_takeEntries_88 : decode cX11_takeEntries 88 = .ok (.invokevirtual 247, 3) := by decide +kernel
theorem dX11_takeEntries_91 : decode cX11_takeEntries 91 = .ok (.ifCond .eq 48, 3) := by decide +kernel
theorem dX11_takeEntries_94 : decode cX11_takeEntries 94 = .ok (.aload 4, 2) := by decide +kernel
theorem dX11_takeEntries_96 : decode cX11_takeEntries 96 = .ok (.getfield 203, 3) := by decide +kernel
theorem dX11_takeEntries_99 : decode cX11_takeEntries 99 = .ok (.iload 7, 2) := by decide +kernel
theorem dX11_takeEntries_101 : decode cX11_takeEntries 101 = .ok (.iload_n 1, 1) := by decide +kernel
theorem dX11_takeEntries_102 : decode cX11_takeEntries 102 = .ok (.iastore, 1) := by decide +kernel
theorem dX11_takeEntries_103 : decode cX11_takeEntries 103 = .ok (.aload 4, 2) := by decide +kernel
theorem dX11_takeEntries_105 : decode cX11_takeEntries 105 = .ok (.getfield 205, 3) := by decide +kernel
theorem dX11_takeEntries_108 : decode cX11_takeEntries 108 = .ok (.iload 7, 2) := by decide +kernel
theorem dX11_takeEntries_110 : decode cX11_takeEntries 110 = .ok (.aload_n 0, 1) := by decide +kernel
theorem dX11_takeEntries_111 : decode cX11_takeEntries 111 = .ok (.getfield 35, 3) := by decide +kernel
theorem dX11_takeEntries_114 : decode cX11_takeEntries 114 = .ok (.getfield 262, 3) := by decide +kernel
theorem dX11_takeEntries_117 : decode cX11_takeEntries 117 = .ok (.iload 7, 2) := by decide +kernel
theorem dX11_takeEntries_119 : decode cX11_takeEntries 119 = .ok (.iaload, 1) := by decide +kernel
theorem dX11_takeEntries_120 : decode cX11_takeEntries 120 = .ok (.iastore, 1) := by decide +kernel
theorem dX11_takeEntries_121 : decode cX11_takeEntries 121 = .ok (.iload 5, 2) := by decide +kernel
theorem dX11_takeEntries_123 : decode cX11_takeEntries 123 = .ok (.aload_n 0, 1) := by decide +kernel
theorem dX11_takeEntries_124 : decode cX11_takeEntries 124 = .ok (.getfield 35, 3) := by decide +kernel
theorem dX11_takeEntries_127 : decode cX11_takeEntries 127 = .ok (.getfield 262, 3) := by decide +kernel
theorem dX11_takeEntries_130 : decode cX11_takeEntries 130 = .ok (.iload 7, 2) := by decide +kernel
theorem dX11_takeEntries_132 : decode cX11_takeEntries 132 = .ok (.iaload, 1) := by decide +kernel
theorem dX11_takeEntries_133 : decode cX11_takeEntries 133 = .ok (.iadd, 1) := by decide +kernel
theorem dX11_takeEntries_134 : decode cX11_takeEntries 134 = .ok (.istore 5, 2) := by decide +kernel
theorem dX11_takeEntries_136 : decode cX11_takeEntries 136 = .ok (.iinc 6 1, 3) := by decide +kernel
theorem dX11_takeEntries_139 : decode cX11_takeEntries 139 = .ok (.iinc 7 1, 3) := by decide +kernel
theorem dX11_takeEntries_142 : decode cX11_takeEntries 142 = .ok (.goto (-124), 3) := by decide +kernel
theorem dX11_takeEntries_145 : decode cX11_takeEntries 145 = .ok (.aload_n 0, 1) := by decide +kernel
theorem dX11_takeEntries_146 : decode cX11_takeEntries 146 = .ok (.getfield 10, 3) := by decide +kernel
theorem dX11_takeEntries_149 : decode cX11_takeEntries 149 = .ok (.getfield 134, 3) := by decide +kernel
theorem dX11_takeEntries_152 : decode cX11_takeEntries 152 = .ok (.getfield 334, 3) := by decide +kernel
theorem dX11_takeEntries_155 : decode cX11_takeEntries 155 = .ok (.iload_n 1, 1) := by decide +kernel
theorem dX11_takeEntries_156 : decode cX11_takeEntries 156 = .ok (.iload 6, 2) := by decide +kernel
theorem dX11_takeEntries_158 : decode cX11_takeEntries 158 = .ok (.iastore, 1) := by decide +kernel
theorem dX11_takeEntries_159 : decode cX11_takeEntries 159 = .ok (.iload 5, 2) := by decide +kernel
theorem dX11_takeEntries_161 : decode cX11_takeEntries 161 = .ok (.ireturn, 1) := by decide +kernel
theorem dX11_owedPlace_0 : decode cX11_owedPlace 0 = .ok (.aload_n 0, 1) := by decide +kernel
theorem dX11_owedPlace_1 : decode cX11_owedPlace 1 = .ok (.getfield 10, 3) := by decide +kernel
theorem dX11_owedPlace_4 : decode cX11_owedPlace 4 = .ok (.getfield 117, 3) := by decide +kernel
theorem dX11_owedPlace_7 : decode cX11_owedPlace 7 = .ok (.aload_n 0, 1) := by decide +kernel
theorem dX11_owedPlace_8 : decode cX11_owedPlace 8 = .ok (.getfield 10, 3) := by decide +kernel
theorem dX11_owedPlace_11 : decode cX11_owedPlace 11 = .ok (.getfield 134, 3) := by decide +kernel
theorem dX11_owedPlace_14 : decode cX11_owedPlace 14 = .ok (.getfield 300, 3) := by decide +kernel
theorem dX11_owedPlace_17 : decode cX11_owedPlace 17 = .ok (.iload_n 1, 1) := by decide +kernel
theorem dX11_owedPlace_18 : decode cX11_owedPlace 18 = .ok (.iaload, 1) := by decide +kernel
theorem dX11_owedPlace_19 : decode cX11_owedPlace 19 = .ok (.iload_n 2, 1) := by decide +kernel
theorem dX11_owedPlace_20 : decode cX11_owedPlace 20 = .ok (.invokevirtual 405, 3) := by decide +kernel
theorem dX11_owedPlace_23 : decode cX11_owedPlace 23 = .ok (.istore_n 3, 1) := by decide +kernel
theorem dX11_owedPlace_24 : decode cX11_owedPlace 24 = .ok (.iload_n 3, 1) := by decide +kernel
theorem dX11_owedPlace_25 : decode cX11_owedPlace 25 = .ok (.ifCond .ge 7, 3) := by decide +kernel
theorem dX11_owedPlace_28 : decode cX11_owedPlace 28 = .ok (.iconst (-1), 1) := by decide +kernel
theorem dX11_owedPlace_29 : decode cX11_owedPlace 29 = .ok (.goto 8, 3) := by decide +kernel
theorem dX11_owedPlace_32 : decode cX11_owedPlace 32 = .ok (.iload_n 1, 1) := by decide +kernel
theorem dX11_owedPlace_33 : decode cX11_owedPlace 33 = .ok (.iconst 3, 1) := by decide +kernel
theorem dX11_owedPlace_34 : decode cX11_owedPlace 34 = .ok (.imul, 1) := by decide +kernel
theorem dX11_owedPlace_35 : decode cX11_owedPlace 35 = .ok (.iload_n 3, 1) := by decide +kernel
theorem dX11_owedPlace_36 : decode cX11_owedPlace 36 = .ok (.iadd, 1) := by decide +kernel
theorem dX11_owedPlace_37 : decode cX11_owedPlace 37 = .ok (.ireturn, 1) := by decide +kernel
theorem dX11_interestOf_0 : decode cX11_interestOf 0 = .ok (.iconst 0, 1) := by decide +kernel
theorem dX11_interestOf_1 : decode cX11_interestOf 1 = .ok (.aload_n 0, 1) := by decide +kernel
theorem dX11_interestOf_2 : decode cX11_interestOf 2 = .ok (.getfield 10, 3) := by decide +kernel
theorem dX11_interestOf_5 : decode cX11_interestOf 5 = .ok (.getfield 154, 3) := by decide +kernel
theorem dX11_interestOf_8 : decode cX11_interestOf 8 = .ok (.iload_n 2, 1) := by decide +kernel
theorem dX11_interestOf_9 : decode cX11_interestOf 9 = .ok (.isub, 1) := by decide +kernel
theorem dX11_interestOf_10 : decode cX11_interestOf 10 = .ok (.aload_n 0, 1) := by decide +kernel
theorem dX11_interestOf_11 : decode cX11_interestOf 11 = .ok (.getfield 10, 3) := by decide +kernel
theorem dX11_interestOf_14 : decode cX11_interestOf 14 = .ok (.getfield 161, 3) := by decide +kernel
theorem dX11_interestOf_17 : decode cX11_interestOf 17 = .ok (.iconst 2, 1) := by decide +kernel
theorem dX11_interestOf_18 : decode cX11_interestOf 18 = .ok (.iaload, 1) := by decide +kernel
theorem dX11_interestOf_19 : decode cX11_interestOf 19 = .ok (.isub, 1) := by decide +kernel
theorem dX11_interestOf_20 : decode cX11_interestOf 20 = .ok (.invokestatic 234, 3) := by decide +kernel
theorem dX11_interestOf_23 : decode cX11_interestOf 23 = .ok (.istore_n 3, 1) := by decide +kernel
theorem dX11_interestOf_24 : decode cX11_interestOf 24 = .ok (.iload_n 1, 1) := by decide +kernel
theorem dX11_interestOf_25 : decode cX11_interestOf 25 = .ok (.i2l, 1) := by decide +kernel
theorem dX11_interestOf_26 : decode cX11_interestOf 26 = .ok (.aload_n 0, 1) := by decide +kernel
theorem dX11_interestOf_27 : decode cX11_interestOf 27 = .ok (.getfield 10, 3) := by decide +kernel
theorem dX11_interestOf_30 : decode cX11_interestOf 30 = .ok (.getfield 161, 3) := by decide +kernel
theorem dX11_interestOf_33 : decode cX11_interestOf 33 = .ok (.iconst 1, 1) := by decide +kernel
theorem dX11_interestOf_34 : decode cX11_interestOf 34 = .ok (.iaload, 1) := by decide +kernel
theorem dX11_interestOf_35 : decode cX11_interestOf 35 = .ok (.i2l, 1) := by decide +kernel
theorem dX11_interestOf_36 : decode cX11_interestOf 36 = .ok (.lmul, 1) := by decide +kernel
theorem dX11_interestOf_37 : decode cX11_interestOf 37 = .ok (.iload_n 3, 1) := by decide +kernel
theorem dX11_interestOf_38 : decode cX11_interestOf 38 = .ok (.i2l, 1) := by decide +kernel
theorem dX11_interestOf_39 : decode cX11_interestOf 39 = .ok (.lmul, 1) := by decide +kernel
theorem dX11_interestOf_40 : decode cX11_interestOf 40 = .ok (.ldc2_w 408, 3) := by decide +kernel
theorem dX11_interestOf_43 : decode cX11_interestOf 43 = .ok (.ldiv, 1) := by decide +kernel
theorem dX11_interestOf_44 : decode cX11_interestOf 44 = .ok (.l2i, 1) := by decide +kernel
theorem dX11_interestOf_45 : decode cX11_interestOf 45 = .ok (.ireturn, 1) := by decide +kernel
theorem dX11_canGiveBack_0 : decode cX11_canGiveBack 0 = .ok (.aload_n 0, 1) := by decide +kernel
theorem dX11_canGiveBack_1 : decode cX11_canGiveBack 1 = .ok (.getfield 10, 3) := by decide +kernel
theorem dX11_canGiveBack_4 : decode cX11_canGiveBack 4 = .ok (.getfield 134, 3) := by decide +kernel
theorem dX11_canGiveBack_7 : decode cX11_canGiveBack 7 = .ok (.getfield 300, 3) := by decide +kernel
theorem dX11_canGiveBack_10 : decode cX11_canGiveBack 10 = .ok (.iload_n 1, 1) := by decide +kernel
theorem dX11_canGiveBack_11 : decode cX11_canGiveBack 11 = .ok (.iaload, 1) := by decide +kernel
theorem dX11_canGiveBack_12 : decode cX11_canGiveBack 12 = .ok (.istore_n 2, 1) := by decide +kernel
theorem dX11_canGiveBack_13 : decode cX11_canGiveBack 13 = .ok (.iconst 0, 1) := by decide +kernel
theorem dX11_canGiveBack_14 : decode cX11_canGiveBack 14 = .ok (.istore_n 3, 1) := by decide +kernel
theorem dX11_canGiveBack_15 : decode cX11_canGiveBack 15 = .ok (.iload_n 3, 1) := by decide +kernel
theorem dX11_canGiveBack_16 : decode cX11_canGiveBack 16 = .ok (.aload_n 0, 1) := by decide +kernel
theorem dX11_canGiveBack_17 : decode cX11_canGiveBack 17 = .ok (.getfield 10, 3) := by decide +kernel
theorem dX11_canGiveBack_20 : decode cX11_canGiveBack 20 = .ok (.getfield 117, 3) := by decide +kernel
theorem dX11_canGiveBack_23 : decode cX11_canGiveBack 23 = .ok (.getfield 148, 3) := by decide +kernel
theorem dX11_canGiveBack_26 : decode cX11_canGiveBack 26 = .ok (.iload_n 2, 1) := by decide +kernel
theorem dX11_canGiveBack_27 : decode cX11_canGiveBack 27 = .ok (.iaload, 1) := by decide +kernel
theorem dX11_canGiveBack_28 : decode cX11_canGiveBack 28 = .ok (.if_icmp .ge 80, 3) := by decide +kernel
theorem dX11_canGiveBack_31 : decode cX11_canGiveBack 31 = .ok (.iconst 0, 1) := by decide +kernel
theorem dX11_canGiveBack_32 : decode cX11_canGiveBack 32 = .ok (.aload_n 0, 1) := by decide +kernel
theorem dX11_canGiveBack_33 : decode cX11_canGiveBack 33 = .ok (.getfield 67, 3) := by decide +kernel
theorem dX11_canGiveBack_36 : decode cX11_canGiveBack 36 = .ok (.iload_n 3, 1) := by decide +kernel
theorem dX11_canGiveBack_37 : decode cX11_canGiveBack 37 = .ok (.iaload, 1) := by decide +kernel
theorem dX11_canGiveBack_38 : decode cX11_canGiveBack 38 = .ok (.aload_n 0, 1) := by decide +kernel
theorem dX11_canGiveBack_39 : decode cX11_canGiveBack 39 = .ok (.getfield 10, 3) := by decide +kernel
theorem dX11_canGiveBack_42 : decode cX11_canGiveBack 42 = .ok (.getfield 134, 3) := by decide +kernel
theorem dX11_canGiveBack_45 : decode cX11_canGiveBack 45 = .ok (.getfield 330, 3) := by decide +kernel
theorem dX11_canGiveBack_48 : decode cX11_canGiveBack 48 = .ok (.iload_n 1, 1) := by decide +kernel
theorem dX11_canGiveBack_49 : decode cX11_canGiveBack 49 = .ok (.iconst 3, 1) := by decide +kernel
theorem dX11_canGiveBack_50 : decode cX11_canGiveBack 50 = .ok (.imul, 1) := by decide +kernel
theorem dX11_canGiveBack_51 : decode cX11_canGiveBack 51 = .ok (.iload_n 3, 1) := by decide +kernel
theorem dX11_canGiveBack_52 : decode cX11_canGiveBack 52 = .ok (.iadd, 1) := by decide +kernel
theorem dX11_canGiveBack_53 : decode cX11_canGiveBack 53 = .ok (.iaload, 1) := by decide +kernel
theorem dX11_canGiveBack_54 : decode cX11_canGiveBack 54 = .ok (.isub, 1) := by decide +kernel
theorem dX11_canGiveBack_55 : decode cX11_canGiveBack 55 = .ok (.invokestatic 234, 3) := by decide +kernel
theorem dX11_canGiveBack_58 : decode cX11_canGiveBack 58 = .ok (.istore 4, 2) := by decide +kernel
theorem dX11_canGiveBack_60 : decode cX11_canGiveBack 60 = .ok (.aload_n 0, 1) := by decide +kernel
theorem dX11_canGiveBack_61 : decode cX11_canGiveBack 61 = .ok (.getfield 10, 3) := by decide +kernel
theorem dX11_canGiveBack_64 : decode cX11_canGiveBack 64 = .ok (.getfield 117, 3) := by decide +kernel
theorem dX11_canGiveBack_67 : decode cX11_canGiveBack 67 = .ok (.getfield 410, 3) := by decide +kernel
theorem dX11_canGiveBack_70 : decode cX11_canGiveBack 70 = .ok (.iload_n 2, 1) := by decide +kernel
theorem dX11_canGiveBack_71 : decode cX11_canGiveBack 71 = .ok (.iconst 3, 1) := by decide +kernel
theorem dX11_canGiveBack_72 : decode cX11_canGiveBack 72 = .ok (.imul, 1) := by decide +kernel
theorem dX11_canGiveBack_73 : decode cX11_canGiveBack 73 = .ok (.iload_n 3, 1) := by decide +kernel
theorem dX11_canGiveBack_74 : decode cX11_canGiveBack 74 = .ok (.iadd, 1) := by decide +kernel
theorem dX11_canGiveBack_75 : decode cX11_canGiveBack 75 = .ok (.iaload, 1) := by decide +kernel
theorem dX11_canGiveBack_76 : decode cX11_canGiveBack 76 = .ok (.istore 5, 2) := by decide +kernel
theorem dX11_canGiveBack_78 : decode cX11_canGiveBack 78 = .ok (.aload_n 0, 1) := by decide +kernel
theorem dX11_canGiveBack_79 : decode cX11_canGiveBack 79 = .ok (.getfield 10, 3) := by decide +kernel
theorem dX11_canGiveBack_82 : decode cX11_canGiveBack 82 = .ok (.getfield 102, 3) := by decide +kernel
theorem dX11_canGiveBack_85 : decode cX11_canGiveBack 85 = .ok (.getfield 109, 3) := by decide +kernel
theorem dX11_canGiveBack_88 : decode cX11_canGiveBack 88 = .ok (.iload 5, 2) := by decide +kernel
theorem dX11_canGiveBack_90 : decode cX11_canGiveBack 90 = .ok (.iaload, 1) := by decide +kernel
theorem dX11_canGiveBack_91 : decode cX11_canGiveBack 91 = .ok (.iload 4, 2) := by decide +kernel
theorem dX11_canGiveBack_93 : decode cX11_canGiveBack 93 = .ok (.iadd, 1) := by decide +kernel
theorem dX11_canGiveBack_94 : decode cX11_canGiveBack 94 = .ok (.ldc_w 347, 3) := by decide +kernel
theorem dX11_canGiveBack_97 : decode cX11_canGiveBack 97 = .ok (.if_icmp .le 5, 3) := by decide +kernel
theorem dX11_canGiveBack_100 : decode cX11_canGiveBack 100 = .ok (.iconst 0, 1) := by decide +kernel
theorem dX11_canGiveBack_101 : decode cX11_canGiveBack 101 = .ok (.ireturn, 1) := by decide +kernel
theorem dX11_canGiveBack_102 : decode cX11_canGiveBack 102 = .ok (.iinc 3 1, 3) := by decide +kernel
theorem dX11_canGiveBack_105 : decode cX11_canGiveBack 105 = .ok (.goto (-90), 3) := by decide +kernel
theorem dX11_canGiveBack_108 : decode cX11_canGiveBack 108 = .ok (.iconst 1, 1) := by decide +kernel
theorem dX11_canGiveBack_109 : decode cX11_canGiveBack 109 = .ok (.ireturn, 1) := by decide +kernel
theorem dX11_giveBack_0 : decode cX11_giveBack 0 = .ok (.aload_n 0, 1) := by decide +kernel
theorem dX11_giveBack_1 : decode cX11_giveBack 1 = .ok (.getfield 10, 3) := by decide +kernel
theorem dX11_giveBack_4 : decode cX11_giveBack 4 = .ok (.getfield 134, 3) := by decide +kernel
theorem dX11_giveBack_7 : decode cX11_giveBack 7 = .ok (.getfield 300, 3) := by decide +kernel
theorem dX11_giveBack_10 : decode cX11_giveBack 10 = .ok (.iload_n 1, 1) := by decide +kernel
theorem dX11_giveBack_11 : decode cX11_giveBack 11 = .ok (.iaload, 1) := by decide +kernel
theorem dX11_giveBack_12 : decode cX11_giveBack 12 = .ok (.istore_n 2, 1) := by decide +kernel
theorem dX11_giveBack_13 : decode cX11_giveBack 13 = .ok (.iconst 0, 1) := by decide +kernel
theorem dX11_giveBack_14 : decode cX11_giveBack 14 = .ok (.istore_n 3, 1) := by decide +kernel
theorem dX11_giveBack_15 : decode cX11_giveBack 15 = .ok (.iload_n 3, 1) := by decide +kernel
theorem dX11_giveBack_16 : decode cX11_giveBack 16 = .ok (.aload_n 0, 1) := by decide +kernel
theorem dX11_giveBack_17 : decode cX11_giveBack 17 = .ok (.getfield 10, 3) := by decide +kernel
theorem dX11_giveBack_20 : decode cX11_giveBack 20 = .ok (.getfield 117, 3) := by decide +kernel
theorem dX11_giveBack_23 : decode cX11_giveBack 23 = .ok (.getfield 148, 3) := by decide +kernel
theorem dX11_giveBack_26 : decode cX11_giveBack 26 = .ok (.iload_n 2, 1) := by decide +kernel
theorem dX11_giveBack_27 : decode cX11_giveBack 27 = .ok (.iaload, 1) := by decide +kernel
theorem dX11_giveBack_28 : decode cX11_giveBack 28 = .ok (.if_icmp .ge 101, 3) := by decide +kernel
theorem dX11_giveBack_31 : decode cX11_giveBack 31 = .ok (.iload_n 1, 1) := by decide +kernel
theorem dX11_giveBack_32 : decode cX11_giveBack 32 = .ok (.iconst 3, 1) := by decide +kernel
theorem dX11_giveBack_33 : decode cX11_giveBack 33 = .ok (.imul, 1) := by decide +kernel
theorem dX11_giveBack_34 : decode cX11_giveBack 34 = .ok (.iload_n 3, 1) := by decide +kernel
theorem dX11_giveBack_35 : decode cX11_giveBack 35 = .ok (.iadd, 1) := by decide +kernel
theorem dX11_giveBack_36 : decode cX11_giveBack 36 = .ok (.istore 4, 2) := by decide +kernel
theorem dX11_giveBack_38 : decode cX11_giveBack 38 = .ok (.aload_n 0, 1) := by decide +kernel
theorem dX11_giveBack_39 : decode cX11_giveBack 39 = .ok (.getfield 67, 3) := by decide +kernel
theorem dX11_giveBack_42 : decode cX11_giveBack 42 = .ok (.iload_n 3, 1) := by decide +kernel
theorem dX11_giveBack_43 : decode cX11_giveBack 43 = .ok (.iaload, 1) := by decide +kernel
theorem dX11_giveBack_44 : decode cX11_giveBack 44 = .ok (.aload_n 0, 1) := by decide +kernel
theorem dX11_giveBack_45 : decode cX11_giveBack 45 = .ok (.getfield 10, 3) := by decide +kernel
theorem dX11_giveBack_48 : decode cX11_giveBack 48 = .ok (.getfield 134, 3) := by decide +kernel
theorem dX11_giveBack_51 : decode cX11_giveBack 51 = .ok (.getfield 330, 3) := by decide +kernel
theorem dX11_giveBack_54 : decode cX11_giveBack 54 = .ok (.iload 4, 2) := by decide +kernel
theorem dX11_giveBack_56 : decode cX11_giveBack 56 = .ok (.iaload, 1) := by decide +kernel
theorem dX11_giveBack_57 : decode cX11_giveBack 57 = .ok (.invokestatic 314, 3) := by decide +kernel
theorem dX11_giveBack_60 : decode cX11_giveBack 60 = .ok (.istore 5, 2) := by decide +kernel
theorem dX11_giveBack_62 : decode cX11_giveBack 62 = .ok (.aload_n 0, 1) := by decide +kernel
theorem dX11_giveBack_63 : decode cX11_giveBack 63 = .ok (.getfield 10, 3) := by decide +kernel
theorem dX11_giveBack_66 : decode cX11_giveBack 66 = .ok (.getfield 117, 3) := by decide +kernel
theorem dX11_giveBack_69 : decode cX11_giveBack 69 = .ok (.getfield 410, 3) := by decide +kernel
theorem dX11_giveBack_72 : decode cX11_giveBack 72 = .ok (.iload_n 2, 1) := by decide +kernel
theorem dX11_giveBack_73 : decode cX11_giveBack 73 = .ok (.iconst 3, 1) := by decide +kernel
theorem dX11_giveBack_74 : decode cX11_giveBack 74 = .ok (.imul, 1) := by decide +kernel
theorem dX11_giveBack_75 : decode cX11_giveBack 75 = .ok (.iload_n 3, 1) := by decide +kernel
theorem dX11_giveBack_76 : decode cX11_giveBack 76 = .ok (.iadd, 1) := by decide +kernel
theorem dX11_giveBack_77 : decode cX11_giveBack 77 = .ok (.iaload, 1) := by decide +kernel
theorem dX11_giveBack_78 : decode cX11_giveBack 78 = .ok (.istore 6, 2) := by decide +kernel
theorem dX11_giveBack_80 : decode cX11_giveBack 80 = .ok (.aload_n 0, 1) := by decide +kernel
theorem dX11_giveBack_81 : decode cX11_giveBack 81 = .ok (.getfield 10, 3) := by decide +kernel
theorem dX11_giveBack_84 : decode cX11_giveBack 84 = .ok (.getfield 134, 3) := by decide +kernel
theorem dX11_giveBack_87 : decode cX11_giveBack 87 = .ok (.getfield 330, 3) := by decide +kernel
theorem dX11_giveBack_90 : decode cX11_giveBack 90 = .ok (.iload 4, 2) := by decide +kernel
theorem dX11_giveBack_92 : decode cX11_giveBack 92 = .ok (.dup2, 1) := by decide +kernel
theorem dX11_giveBack_93 : decode cX11_giveBack 93 = .ok (.iaload, 1) := by decide +kernel
theorem dX11_giveBack_94 : decode cX11_giveBack 94 = .ok (.iload 5, 2) := by decide +kernel
theorem dX11_giveBack_96 : decode cX11_giveBack 96 = .ok (.isub, 1) := by decide +kernel
theorem dX11_giveBack_97 : decode cX11_giveBack 97 = .ok (.iastore, 1) := by decide +kernel
theorem dX11_giveBack_98 : decode cX11_giveBack 98 = .ok (.aload_n 0, 1) := by decide +kernel
theorem dX11_giveBack_99 : decode cX11_giveBack 99 = .ok (.getfield 10, 3) := by decide +kernel
theorem dX11_giveBack_102 : decode cX11_giveBack 102 = .ok (.getfield 102, 3) := by decide +kernel
theorem dX11_giveBack_105 : decode cX11_giveBack 105 = .ok (.getfield 109, 3) := by decide +kernel
theorem dX11_giveBack_108 : decode cX11_giveBack 108 = .ok (.iload 6, 2) := by decide +kernel
theorem dX11_giveBack_110 : decode cX11_giveBack 110 = .ok (.dup2, 1) := by decide +kernel
theorem dX11_giveBack_111 : decode cX11_giveBack 111 = .ok (.iaload, 1) := by decide +kernel
theorem dX11_giveBack_112 : decode cX11_giveBack 112 = .ok (.aload_n 0, 1) := by decide +kernel
theorem dX11_giveBack_113 : decode cX11_giveBack 113 = .ok (.getfield 67, 3) := by decide +kernel
theorem dX11_giveBack_116 : decode cX11_giveBack 116 = .ok (.iload_n 3, 1) := by decide +kernel
theorem dX11_giveBack_117 : decode cX11_giveBack 117 = .ok (.iaload, 1) := by decide +kernel
theorem dX11_giveBack_118 : decode cX11_giveBack 118 = .ok (.iload 5, 2) := by decide +kernel
theorem dX11_giveBack_120 : decode cX11_giveBack 120 = .ok (.isub, 1) := by decide +kernel
theorem dX11_giveBack_121 : decode cX11_giveBack 121 = .ok (.iadd, 1) := by decide +kernel
theorem dX11_giveBack_122 : decode cX11_giveBack 122 = .ok (.iastore, 1) := by decide +kernel
theorem dX11_giveBack_123 : decode cX11_giveBack 123 = .ok (.iinc 3 1, 3) := by decide +kernel
theorem dX11_giveBack_126 : decode cX11_giveBack 126 = .ok (.goto (-111), 3) := by decide +kernel
theorem dX11_giveBack_129 : decode cX11_giveBack 129 = .ok (.return_, 1) := by decide +kernel
theorem dX11_hasPlaces_0 : decode cX11_hasPlaces 0 = .ok (.iload_n 3, 1) := by decide +kernel
theorem dX11_hasPlaces_1 : decode cX11_hasPlaces 1 = .ok (.ifCond .lt 33, 3) := by decide +kernel
theorem dX11_hasPlaces_4 : decode cX11_hasPlaces 4 = .ok (.iload_n 2, 1) := by decide +kernel
theorem dX11_hasPlaces_5 : decode cX11_hasPlaces 5 = .ok (.ifCond .lt 29, 3) := by decide +kernel
theorem dX11_hasPlaces_8 : decode cX11_hasPlaces 8 = .ok (.iload_n 2, 1) := by decide +kernel
theorem dX11_hasPlaces_9 : decode cX11_hasPlaces 9 = .ok (.aload_n 0, 1) := by decide +kernel
theorem dX11_hasPlaces_10 : decode cX11_hasPlaces 10 = .ok (.getfield 58, 3) := by decide +kernel
theorem dX11_hasPlaces_13 : decode cX11_hasPlaces 13 = .ok (.iload_n 1, 1) := by decide +kernel
theorem dX11_hasPlaces_14 : decode cX11_hasPlaces 14 = .ok (.iaload, 1) := by decide +kernel
theorem dX11_hasPlaces_15 : decode cX11_hasPlaces 15 = .ok (.if_icmp .gt 19, 3) := by decide +kernel
theorem dX11_hasPlaces_18 : decode cX11_hasPlaces 18 = .ok (.iload_n 3, 1) := by decide +kernel
theorem dX11_hasPlaces_19 : decode cX11_hasPlaces 19 = .ok (.aload_n 0, 1) := by decide +kernel
theorem dX11_hasPlaces_20 : decode cX11_hasPlaces 20 = .ok (.getfield 58, 3) := by decide +kernel
theorem dX11_hasPlaces_23 : decode cX11_hasPlaces 23 = .ok (.iload_n 1, 1) := by decide +kernel
theorem dX11_hasPlaces_24 : decode cX11_hasPlaces 24 = .ok (.iaload, 1) := by decide +kernel
theorem dX11_hasPlaces_25 : decode cX11_hasPlaces 25 = .ok (.iload_n 2, 1) := by decide +kernel
theorem dX11_hasPlaces_26 : decode cX11_hasPlaces 26 = .ok (.isub, 1) := by decide +kernel
theorem dX11_hasPlaces_27 : decode cX11_hasPlaces 27 = .ok (.if_icmp .gt 7, 3) := by decide +kernel
theorem dX11_hasPlaces_30 : decode cX11_hasPlaces 30 = .ok (.iconst 1, 1) := by decide +kernel
theorem dX11_hasPlaces_31 : decode cX11_hasPlaces 31 = .ok (.goto 4, 3) := by decide +kernel
theorem dX11_hasPlaces_34 : decode cX11_hasPlaces 34 = .ok (.iconst 0, 1) := by decide +kernel
theorem dX11_hasPlaces_35 : decode cX11_hasPlaces 35 = .ok (.ireturn, 1) := by decide +kernel
