theorem d_Mo_init_0 : decode b_Mo_init 0 = .ok (.aload_n 0, 1) := by decide +kernel
theorem d_Mo_init_1 : decode b_Mo_init 1 = .ok (.invokespecial 1, 3) := by decide +kernel
theorem d_Mo_init_4 : decode b_Mo_init 4 = .ok (.aload_n 0, 1) := by decide +kernel
theorem d_Mo_init_5 : decode b_Mo_init 5 = .ok (.sipush 1024, 3) := by decide +kernel
theorem d_Mo_init_8 : decode b_Mo_init 8 = .ok (.newarray .int, 2) := by decide +kernel
theorem d_Mo_init_10 : decode b_Mo_init 10 = .ok (.putfield 7, 3) := by decide +kernel
theorem d_Mo_init_13 : decode b_Mo_init 13 = .ok (.aload_n 0, 1) := by decide +kernel
theorem d_Mo_init_14 : decode b_Mo_init 14 = .ok (.sipush 1024, 3) := by decide +kernel
theorem d_Mo_init_17 : decode b_Mo_init 17 = .ok (.newarray .boolean, 2) := by decide +kernel
theorem d_Mo_init_19 : decode b_Mo_init 19 = .ok (.putfield 13, 3) := by decide +kernel
theorem d_Mo_init_22 : decode b_Mo_init 22 = .ok (.aload_n 0, 1) := by decide +kernel
theorem d_Mo_init_23 : decode b_Mo_init 23 = .ok (.iconst 4, 1) := by decide +kernel
theorem d_Mo_init_24 : decode b_Mo_init 24 = .ok (.newarray .int, 2) := by decide +kernel
theorem d_Mo_init_26 : decode b_Mo_init 26 = .ok (.putfield 17, 3) := by decide +kernel
theorem d_Mo_init_29 : decode b_Mo_init 29 = .ok (.aload_n 0, 1) := by decide +kernel
theorem d_Mo_init_30 : decode b_Mo_init 30 = .ok (.iconst 4, 1) := by decide +kernel
theorem d_Mo_init_31 : decode b_Mo_init 31 = .ok (.newarray .int, 2) := by decide +kernel
theorem d_Mo_init_33 : decode b_Mo_init 33 = .ok (.putfield 20, 3) := by decide +kernel
theorem d_Mo_init_36 : decode b_Mo_init 36 = .ok (.aload_n 0, 1) := by decide +kernel
theorem d_Mo_init_37 : decode b_Mo_init 37 = .ok (.iconst 4, 1) := by decide +kernel
theorem d_Mo_init_38 : decode b_Mo_init 38 = .ok (.newarray .boolean, 2) := by decide +kernel
theorem d_Mo_init_40 : decode b_Mo_init 40 = .ok (.putfield 23, 3) := by decide +kernel
theorem d_Mo_init_43 : decode b_Mo_init 43 = .ok (.aload_n 0, 1) := by decide +kernel
theorem d_Mo_init_44 : decode b_Mo_init 44 = .ok (.bipush 12, 2) := by decide +kernel
theorem d_Mo_init_46 : decode b_Mo_init 46 = .ok (.newarray .int, 2) := by decide +kernel
theorem d_Mo_init_48 : decode b_Mo_init 48 = .ok (.putfield 26, 3) := by decide +kernel
theorem d_Mo_init_51 : decode b_Mo_init 51 = .ok (.aload_n 0, 1) := by decide +kernel
theorem d_Mo_init_52 : decode b_Mo_init 52 = .ok (.bipush 13, 2) := by decide +kernel
theorem d_Mo_init_54 : decode b_Mo_init 54 = .ok (.newarray .int, 2) := by decide +kernel
theorem d_Mo_init_56 : decode b_Mo_init 56 = .ok (.putfield 29, 3) := by decide +kernel
theorem d_Mo_init_59 : decode b_Mo_init 59 = .ok (.aload_n 0, 1) := by decide +kernel
theorem d_Mo_init_60 : decode b_Mo_init 60 = .ok (.sipush 150, 3) := by decide +kernel
theorem d_Mo_init_63 : decode b_Mo_init 63 = .ok (.newarray .int, 2) := by decide +kernel
theorem d_Mo_init_65 : decode b_Mo_init 65 = .ok (.putfield 32, 3) := by decide +kernel
theorem d_Mo_init_68 : decode b_Mo_init 68 = .ok (.aload_n 0, 1) := by decide +kernel
theorem d_Mo_init_69 : decode b_Mo_init 69 = .ok (.sipush 150, 3) := by decide +kernel
theorem d_Mo_init_72 : decode b_Mo_init 72 = .ok (.newarray .int, 2) := by decide +kernel
theorem d_Mo_init_74 : decode b_Mo_init 74 = .ok (.putfield 35, 3) := by decide +kernel
theorem d_Mo_init_77 : decode b_Mo_init 77 = .ok (.aload_n 0, 1) := by decide +kernel
theorem d_Mo_init_78 : decode b_Mo_init 78 = .ok (.sipush 1800, 3) := by decide +kernel
theorem d_Mo_init_81 : decode b_Mo_init 81 = .ok (.newarray .int, 2) := by decide +kernel
theorem d_Mo_init_83 : decode b_Mo_init 83 = .ok (.putfield 38, 3) := by decide +kernel
theorem d_Mo_init_86 : decode b_Mo_init 86 = .ok (.aload_n 0, 1) := by decide +kernel
theorem d_Mo_init_87 : decode b_Mo_init 87 = .ok (.sipush 1950, 3) := by decide +kernel
theorem d_Mo_init_90 : decode b_Mo_init 90 = .ok (.newarray .int, 2) := by decide +kernel
theorem d_Mo_init_92 : decode b_Mo_init 92 = .ok (.putfield 41, 3) := by decide +kernel
theorem d_Mo_init_95 : decode b_Mo_init 95 = .ok (.aload_n 0, 1) := by decide +kernel
theorem d_Mo_init_96 : decode b_Mo_init 96 = .ok (.bipush 40, 2) := by decide +kernel
theorem d_Mo_init_98 : decode b_Mo_init 98 = .ok (.newarray .int, 2) := by decide +kernel
theorem d_Mo_init_100 : decode b_Mo_init 100 = .ok (.putfield 44, 3) := by decide +kernel
theorem d_Mo_init_103 : decode b_Mo_init 103 = .ok (.aload_n 0, 1) := by decide +kernel
theorem d_Mo_init_104 : decode b_Mo_init 104 = .ok (.bipush 40, 2) := by decide +kernel
theorem d_Mo_init_106 : decode b_Mo_init 106 = .ok (.newarray .int, 2) := by decide +kernel
theorem d_Mo_init_108 : decode b_Mo_init 108 = .ok (.putfield 47, 3) := by decide +kernel
theorem d_Mo_init_111 : decode b_Mo_init 111 = .ok (.aload_n 0, 1) := by decide +kernel
theorem d_Mo_init_112 : decode b_Mo_init 112 = .ok (.sipush 1200, 3) := by decide +kernel
theorem d_Mo_init_115 : decode b_Mo_init 115 = .ok (.newarray .int, 2) := by decide +kernel
theorem d_Mo_init_117 : decode b_Mo_init 117 = .ok (.putfield 50, 3) := by decide +kernel
theorem d_Mo_init_120 : decode b_Mo_init 120 = .ok (.aload_n 0, 1) := by decide +kernel
theorem d_Mo_init_121 : decode b_Mo_init 121 = .ok (.bipush 40, 2) := by decide +kernel
theorem d_Mo_init_123 : decode b_Mo_init 123 = .ok (.newarray .int, 2) := by decide +kernel
theorem d_Mo_init_125 : decode b_Mo_init 125 = .ok (.putfield 53, 3) := by decide +kernel
theorem d_Mo_init_128 : decode b_Mo_init 128 = .ok (.aload_n 0, 1) := by decide +kernel
theorem d_Mo_init_129 : decode b_Mo_init 129 = .ok (.bipush 30, 2) := by decide +kernel
theorem d_Mo_init_131 : decode b_Mo_init 131 = .ok (.newarray .int, 2) := by decide +kernel
theorem d_Mo_init_133 : decode b_Mo_init 133 = .ok (.putfield 56, 3) := by decide +kernel
theorem d_Mo_init_136 : decode b_Mo_init 136 = .ok (.aload_n 0, 1) := by decide +kernel
theorem d_Mo_init_137 : decode b_Mo_init 137 = .ok (.bipush 32, 2) := by decide +kernel
theorem d_Mo_init_139 : decode b_Mo_init 139 = .ok (.newarray .int, 2) := by decide +kernel
theorem d_Mo_init_141 : decode b_Mo_init 141 = .ok (.putfield 59, 3) := by decide +kernel
theorem d_Mo_init_144 : decode b_Mo_init 144 = .ok (.aload_n 0, 1) := by decide +kernel
theorem d_Mo_init_145 : decode b_Mo_init 145 = .ok (.bipush 32, 2) := by decide +kernel
theorem d_Mo_init_147 : decode b_Mo_init 147 = .ok (.newarray .int, 2) := by decide +kernel
theorem d_Mo_init_149 : decode b_Mo_init 149 = .ok (.putfield 62, 3) := by decide +kernel
theorem d_Mo_init_152 : decode b_Mo_init 152 = .ok (.return_, 1) := by decide +kernel
theorem d_Mo_language_0 : decode b_Mo_language 0 = .ok (.aload_n 0, 1) := by decide +kernel
theorem d_Mo_language_1 : decode b_Mo_language 1 = .ok (.getfield 65, 3) := by decide +kernel
theorem d_Mo_language_4 : decode b_Mo_language 4 = .ok (.iconst 4, 1) := by decide +kernel
theorem d_Mo_language_5 : decode b_Mo_language 5 = .ok (.if_icmp .ne 6, 3) := by decide +kernel
theorem d_Mo_language_8 : decode b_Mo_language 8 = .ok (.bipush (-2), 2) := by decide +kernel
theorem d_Mo_language_10 : decode b_Mo_language 10 = .ok (.ireturn, 1) := by decide +kernel
theorem d_Mo_language_11 : decode b_Mo_language 11 = .ok (.aload_n 0, 1) := by decide +kernel
theorem d_Mo_language_12 : decode b_Mo_language 12 = .ok (.getfield 17, 3) := by decide +kernel
theorem d_Mo_language_15 : decode b_Mo_language 15 = .ok (.aload_n 0, 1) := by decide +kernel
theorem d_Mo_language_16 : decode b_Mo_language 16 = .ok (.getfield 65, 3) := by decide +kernel
theorem d_Mo_language_19 : decode b_Mo_language 19 = .ok (.iconst 2, 1) := by decide +kernel
theorem d_Mo_language_20 : decode b_Mo_language 20 = .ok (.iastore, 1) := by decide +kernel
theorem d_Mo_language_21 : decode b_Mo_language 21 = .ok (.aload_n 0, 1) := by decide +kernel
theorem d_Mo_language_22 : decode b_Mo_language 22 = .ok (.getfield 20, 3) := by decide +kernel
theorem d_Mo_language_25 : decode b_Mo_language 25 = .ok (.aload_n 0, 1) := by decide +kernel
theorem d_Mo_language_26 : decode b_Mo_language 26 = .ok (.getfield 65, 3) := by decide +kernel
theorem d_Mo_language_29 : decode b_Mo_language 29 = .ok (.iconst 3, 1) := by decide +kernel
theorem d_Mo_language_30 : decode b_Mo_language 30 = .ok (.iastore, 1) := by decide +kernel
theorem d_Mo_language_31 : decode b_Mo_language 31 = .ok (.aload_n 0, 1) := by decide +kernel
theorem d_Mo_language_32 : decode b_Mo_language 32 = .ok (.dup, 1) := by decide +kernel
theorem d_Mo_language_33 : decode b_Mo_language 33 = .ok (.getfield 65, 3) := by decide +kernel
theorem d_Mo_language_36 : decode b_Mo_language 36 = .ok (.iconst 1, 1) := by decide +kernel
theorem d_Mo_language_37 : decode b_Mo_language 37 = .ok (.iadd, 1) := by decide +kernel
theorem d_Mo_language_38 : decode b_Mo_language 38 = .ok (.putfield 65, 3) := by decide +kernel
theorem d_Mo_language_41 : decode b_Mo_language 41 = .ok (.aload_n 0, 1) := by decide +kernel
theorem d_Mo_language_42 : decode b_Mo_language 42 = .ok (.getfield 65, 3) := by decide +kernel
theorem d_Mo_language_45 : decode b_Mo_language 45 = .ok (.iconst 1, 1) := by decide +kernel
theorem d_Mo_language_46 : decode b_Mo_language 46 = .ok (.isub, 1) := by decide +kernel
theorem d_Mo_language_47 : decode b_Mo_language 47 = .ok (.ireturn, 1) := by decide +kernel
theorem d_Mo_code_0 : decode b_Mo_code 0 = .ok (.aload_n 0, 1) := by decide +kernel
theorem d_Mo_code_1 : decode b_Mo_code 1 = .ok (.iload_n 1, 1) := by decide +kernel
theorem d_Mo_code_2 : decode b_Mo_code 2 = .ok (.invokevirtual 69, 3) := by decide +kernel
theorem d_Mo_code_5 : decode b_Mo_code 5 = .ok (.ifCond .eq 24, 3) := by decide +kernel
theorem d_Mo_code_8 : decode b_Mo_code 8 = .ok (.iload_n 2, 1) := by decide +kernel
theorem d_Mo_code_9 : decode b_Mo_code 9 = .ok (.iconst 0, 1) := by decide +kernel
theorem d_Mo_code_10 : decode b_Mo_code 10 = .ok (.sipush 255, 3) := by decide +kernel
theorem d_Mo_code_13 : decode b_Mo_code 13 = .ok (.invokestatic 73, 3) := by decide +kernel
theorem d_Mo_code_16 : decode b_Mo_code 16 = .ok (.ifCond .eq 13, 3) := by decide +kernel
theorem d_Mo_code_19 : decode b_Mo_code 19 = .ok (.iload_n 3, 1) := by decide +kernel
theorem d_Mo_code_20 : decode b_Mo_code 20 = .ok (.iconst 0, 1) := by decide +kernel
theorem d_Mo_code_21 : decode b_Mo_code 21 = .ok (.bipush 30, 2) := by decide +kernel
theorem d_Mo_code_23 : decode b_Mo_code 23 = .ok (.invokestatic 73, 3) := by decide +kernel
theorem d_Mo_code_26 : decode b_Mo_code 26 = .ok (.ifCond .ne 5, 3) := by decide +kernel
theorem d_Mo_code_29 : decode b_Mo_code 29 = .ok (.iconst (-1), 1) := by decide +kernel
theorem d_Mo_code_30 : decode b_Mo_code 30 = .ok (.ireturn, 1) := by decide +kernel
theorem d_Mo_code_31 : decode b_Mo_code 31 = .ok (.aload_n 0, 1) := by decide +kernel
theorem d_Mo_code_32 : decode b_Mo_code 32 = .ok (.getfield 7, 3) := by decide +kernel
theorem d_Mo_code_35 : decode b_Mo_code 35 = .ok (.sipush 256, 3) := by decide +kernel
theorem d_Mo_code_38 : decode b_Mo_code 38 = .ok (.iload_n 1, 1) := by decide +kernel
theorem d_Mo_code_39 : decode b_Mo_code 39 = .ok (.imul, 1) := by decide +kernel
theorem d_Mo_code_40 : decode b_Mo_code 40 = .ok (.iload_n 2, 1) := by decide +kernel
theorem d_Mo_code_41 : decode b_Mo_code 41 = .ok (.iadd, 1) := by decide +kernel
theorem d_Mo_code_42 : decode b_Mo_code 42 = .ok (.iload_n 3, 1) := by decide +kernel
theorem d_Mo_code_43 : decode b_Mo_code 43 = .ok (.iastore, 1) := by decide +kernel
theorem d_Mo_code_44 : decode b_Mo_code 44 = .ok (.aload_n 0, 1) := by decide +kernel
theorem d_Mo_code_45 : decode b_Mo_code 45 = .ok (.getfield 13, 3) := by decide +kernel
theorem d_Mo_code_48 : decode b_Mo_code 48 = .ok (.sipush 256, 3) := by decide +kernel
theorem d_Mo_code_51 : decode b_Mo_code 51 = .ok (.iload_n 1, 1) := by decide +kernel
theorem d_Mo_code_52 : decode b_Mo_code 52 = .ok (.imul, 1) := by decide +kernel
theorem d_Mo_code_53 : decode b_Mo_code 53 = .ok (.iload_n 2, 1) := by decide +kernel
theorem d_Mo_code_54 : decode b_Mo_code 54 = .ok (.iadd, 1) := by decide +kernel
theorem d_Mo_code_55 : decode b_Mo_code 55 = .ok (.iload 4, 2) := by decide +kernel
theorem d_Mo_code_57 : decode b_Mo_code 57 = .ok (.bastore, 1) := by decide +kernel
theorem d_Mo_code_58 : decode b_Mo_code 58 = .ok (.iconst 1, 1) := by decide +kernel
theorem d_Mo_code_59 : decode b_Mo_code 59 = .ok (.ireturn, 1) := by decide +kernel
theorem d_Mo_isLanguage_0 : decode b_Mo_isLanguage 0 = .ok (.iload_n 1, 1) := by decide +kernel
theorem d_Mo_isLanguage_1 : decode b_Mo_isLanguage 1 = .ok (.ifCond .lt 15, 3) := by decide +kernel
theorem d_Mo_isLanguage_4 : decode b_Mo_isLanguage 4 = .ok (.iload_n 1, 1) := by decide +kernel
theorem d_Mo_isLanguage_5 : decode b_Mo_isLanguage 5 = .ok (.aload_n 0, 1) := by decide +kernel
theorem d_Mo_isLanguage_6 : decode b_Mo_isLanguage 6 = .ok (.getfield 65, 3) := by decide +kernel
theorem d_Mo_isLanguage_9 : decode b_Mo_isLanguage 9 = .ok (.if_icmp .ge 7, 3) := by decide +kernel
theorem d_Mo_isLanguage_12 : decode b_Mo_isLanguage 12 = .ok (.iconst 1, 1) := by decide +kernel
theorem d_Mo_isLanguage_13 : decode b_Mo_isLanguage 13 = .ok (.goto 4, 3) := by decide +kernel
theorem d_Mo_isLanguage_16 : decode b_Mo_isLanguage 16 = .ok (.iconst 0, 1) := by decide +kernel
theorem d_Mo_isLanguage_17 : decode b_Mo_isLanguage 17 = .ok (.ireturn, 1) := by decide +kernel
theorem d_Mo_in_0 : decode b_Mo_in 0 = .ok (.iload_n 0, 1) := by decide +kernel
theorem d_Mo_in_1 : decode b_Mo_in 1 = .ok (.iload_n 1, 1) := by decide +kernel
theorem d_Mo_in_2 : decode b_Mo_in 2 = .ok (.if_icmp .lt 12, 3) := by decide +kernel
theorem d_Mo_in_5 : decode b_Mo_in 5 = .ok (.iload_n 0, 1) := by decide +kernel
theorem d_Mo_in_6 : decode b_Mo_in 6 = .ok (.iload_n 2, 1) := by decide +kernel
theorem d_Mo_in_7 : decode b_Mo_in 7 = .ok (.if_icmp .gt 7, 3) := by decide +kernel
theorem d_Mo_in_10 : decode b_Mo_in 10 = .ok (.iconst 1, 1) := by decide +kernel
theorem d_Mo_in_11 : decode b_Mo_in 11 = .ok (.goto 4, 3) := by decide +kernel
theorem d_Mo_in_14 : decode b_Mo_in 14 = .ok (.iconst 0, 1) := by decide +kernel
theorem d_Mo_in_15 : decode b_Mo_in 15 = .ok (.ireturn, 1) := by decide +kernel
theorem d_Mo_ends_0 : decode b_Mo_ends 0 = .ok (.aload_n 0, 1) := by decide +kernel
theorem d_Mo_ends_1 : decode b_Mo_ends 1 = .ok (.iload_n 1, 1) := by decide +kernel
theorem d_Mo_ends_2 : decode b_Mo_ends 2 = .ok (.invokevirtual 69, 3) := by decide +kernel
theorem d_Mo_ends_5 : decode b_Mo_ends 5 = .ok (.ifCond .eq 23, 3) := by decide +kernel
theorem d_Mo_ends_8 : decode b_Mo_ends 8 = .ok (.iload_n 2, 1) := by decide +kernel
theorem d_Mo_ends_9 : decode b_Mo_ends 9 = .ok (.iconst 0, 1) := by decide +kernel
theorem d_Mo_ends_10 : decode b_Mo_ends 10 = .ok (.bipush 20, 2) := by decide +kernel
theorem d_Mo_ends_12 : decode b_Mo_ends 12 = .ok (.invokestatic 73, 3) := by decide +kernel
theorem d_Mo_ends_15 : decode b_Mo_ends 15 = .ok (.ifCond .eq 13, 3) := by decide +kernel
theorem d_Mo_ends_18 : decode b_Mo_ends 18 = .ok (.iload_n 3, 1) := by decide +kernel
theorem d_Mo_ends_19 : decode b_Mo_ends 19 = .ok (.iconst 0, 1) := by decide +kernel
theorem d_Mo_ends_20 : decode b_Mo_ends 20 = .ok (.bipush 20, 2) := by decide +kernel
theorem d_Mo_ends_22 : decode b_Mo_ends 22 = .ok (.invokestatic 73, 3) := by decide +kernel
theorem d_Mo_ends_25 : decode b_Mo_ends 25 = .ok (.ifCond .ne 5, 3) := by decide +kernel
theorem d_Mo_ends_28 : decode b_Mo_ends 28 = .ok (.iconst (-1), 1) := by decide +kernel
theorem d_Mo_ends_29 : decode b_Mo_ends 29 = .ok (.ireturn, 1) := by decide +kernel
theorem d_Mo_ends_30 : decode b_Mo_ends 30 = .ok (.aload_n 0, 1) := by decide +kernel
theorem d_Mo_ends_31 : decode b_Mo_ends 31 = .ok (.getfield 17, 3) := by decide +kernel
theorem d_Mo_ends_34 : decode b_Mo_ends 34 = .ok (.iload_n 1, 1) := by decide +kernel
theorem d_Mo_ends_35 : decode b_Mo_ends 35 = .ok (.iload_n 2, 1) := by decide +kernel
theorem d_Mo_ends_36 : decode b_Mo_ends 36 = .ok (.iastore, 1) := by decide +kernel
theorem d_Mo_ends_37 : decode b_Mo_ends 37 = .ok (.aload_n 0, 1) := by decide +kernel
theorem d_Mo_ends_38 : decode b_Mo_ends 38 = .ok (.getfield 20, 3) := by decide +kernel
theorem d_Mo_ends_41 : decode b_Mo_ends 41 = .ok (.iload_n 1, 1) := by decide +kernel
theorem d_Mo_ends_42 : decode b_Mo_ends 42 = .ok (.iload_n 3, 1) := by decide +kernel
theorem d_Mo_ends_43 : decode b_Mo_ends 43 = .ok (.iastore, 1) := by decide +kernel
theorem d_Mo_ends_44 : decode b_Mo_ends 44 = .ok (.aload_n 0, 1) := by decide +kernel
theorem d_Mo_ends_45 : decode b_Mo_ends 45 = .ok (.getfield 23, 3) := by decide +kernel
theorem d_Mo_ends_48 : decode b_Mo_ends 48 = .ok (.iload_n 1, 1) := by decide +kernel
theorem d_Mo_ends_49 : decode b_Mo_ends 49 = .ok (.iload 4, 2) := by decide +kernel
theorem d_Mo_ends_51 : decode b_Mo_ends 51 = .ok (.bastore, 1) := by decide +kernel
theorem d_Mo_ends_52 : decode b_Mo_ends 52 = .ok (.iconst 1, 1) := by decide +kernel
theorem d_Mo_ends_53 : decode b_Mo_ends 53 = .ok (.ireturn, 1) := by decide +kernel
theorem d_Mo_next_0 : decode b_Mo_next 0 = .ok (.iload_n 1, 1) := by decide +kernel
theorem d_Mo_next_1 : decode b_Mo_next 1 = .ok (.iconst 0, 1) := by decide +kernel
theorem d_Mo_next_2 : decode b_Mo_next 2 = .ok (.bipush 30, 2) := by decide +kernel
theorem d_Mo_next_4 : decode b_Mo_next 4 = .ok (.invokestatic 73, 3) := by decide +kernel
theorem d_Mo_next_7 : decode b_Mo_next 7 = .ok (.ifCond .eq 13, 3) := by decide +kernel
theorem d_Mo_next_10 : decode b_Mo_next 10 = .ok (.iload_n 2, 1) := by decide +kernel
theorem d_Mo_next_11 : decode b_Mo_next 11 = .ok (.iconst 0, 1) := by decide +kernel
theorem d_Mo_next_12 : decode b_Mo_next 12 = .ok (.bipush 9, 2) := by decide +kernel
theorem d_Mo_next_14 : decode b_Mo_next 14 = .ok (.invokestatic 73, 3) := by decide +kernel
theorem d_Mo_next_17 : decode b_Mo_next 17 = .ok (.ifCond .ne 5, 3) := by decide +kernel
theorem d_Mo_next_20 : decode b_Mo_next 20 = .ok (.iconst (-1), 1) := by decide +kernel
theorem d_Mo_next_21 : decode b_Mo_next 21 = .ok (.ireturn, 1) := by decide +kernel
theorem d_Mo_next_22 : decode b_Mo_next 22 = .ok (.aload_n 0, 1) := by decide +kernel
theorem d_Mo_next_23 : decode b_Mo_next 23 = .ok (.getfield 77, 3) := by decide +kernel
theorem d_Mo_next_26 : decode b_Mo_next 26 = .ok (.bipush 12, 2) := by decide +kernel
theorem d_Mo_next_28 : decode b_Mo_next 28 = .ok (.if_icmp .ne 6, 3) := by decide +kernel
theorem d_Mo_next_31 : decode b_Mo_next 31 = .ok (.bipush (-2), 2) := by decide +kernel
theorem d_Mo_next_33 : decode b_Mo_next 33 = .ok (.ireturn, 1) := by decide +kernel
theorem d_Mo_next_34 : decode b_Mo_next 34 = .ok (.aload_n 0, 1) := by decide +kernel
theorem d_Mo_next_35 : decode b_Mo_next 35 = .ok (.getfield 26, 3) := by decide +kernel
theorem d_Mo_next_38 : decode b_Mo_next 38 = .ok (.aload_n 0, 1) := by decide +kernel
theorem d_Mo_next_39 : decode b_Mo_next 39 = .ok (.getfield 77, 3) := by decide +kernel
theorem d_Mo_next_42 : decode b_Mo_next 42 = .ok (.iload_n 1, 1) := by decide +kernel
theorem d_Mo_next_43 : decode b_Mo_next 43 = .ok (.iastore, 1) := by decide +kernel
theorem d_Mo_next_44 : decode b_Mo_next 44 = .ok (.aload_n 0, 1) := by decide +kernel
theorem d_Mo_next_45 : decode b_Mo_next 45 = .ok (.getfield 29, 3) := by decide +kernel
theorem d_Mo_next_48 : decode b_Mo_next 48 = .ok (.aload_n 0, 1) := by decide +kernel
theorem d_Mo_next_49 : decode b_Mo_next 49 = .ok (.getfield 77, 3) := by decide +kernel
theorem d_Mo_next_52 : decode b_Mo_next 52 = .ok (.iload_n 2, 1) := by decide +kernel
theorem d_Mo_next_53 : decode b_Mo_next 53 = .ok (.iastore, 1) := by decide +kernel
theorem d_Mo_next_54 : decode b_Mo_next 54 = .ok (.aload_n 0, 1) := by decide +kernel
theorem d_Mo_next_55 : decode b_Mo_next 55 = .ok (.dup, 1) := by decide +kernel
theorem d_Mo_next_56 : decode b_Mo_next 56 = .ok (.getfield 77, 3) := by decide +kernel
theorem d_Mo_next_59 : decode b_Mo_next 59 = .ok (.iconst 1, 1) := by decide +kernel
theorem d_Mo_next_60 : decode b_Mo_next 60 = .ok (.iadd, 1) := by decide +kernel
theorem d_Mo_next_61 : decode b_Mo_next 61 = .ok (.putfield 77, 3) := by decide +kernel
theorem d_Mo_next_64 : decode b_Mo_next 64 = .ok (.aload_n 0, 1) := by decide +kernel
theorem d_Mo_next_65 : decode b_Mo_next 65 = .ok (.getfield 77, 3) := by decide +kernel
theorem d_Mo_next_68 : decode b_Mo_next 68 = .ok (.ireturn, 1) := by decide +kernel
theorem d_Mo_pattern_0 : decode b_Mo_pattern 0 = .ok (.aload_n 0, 1) := by decide +kernel
theorem d_Mo_pattern_1 : decode b_Mo_pattern 1 = .ok (.iload_n 1, 1) := by decide +kernel
theorem d_Mo_pattern_2 : decode b_Mo_pattern 2 = .ok (.invokevirtual 69, 3) := by decide +kernel
theorem d_Mo_pattern_5 : decode b_Mo_pattern 5 = .ok (.ifCond .eq 13, 3) := by decide +kernel
theorem d_Mo_pattern_8 : decode b_Mo_pattern 8 = .ok (.iload_n 2, 1) := by decide +kernel
theorem d_Mo_pattern_9 : decode b_Mo_pattern 9 = .ok (.iconst 0, 1) := by decide +kernel
theorem d_Mo_pattern_10 : decode b_Mo_pattern 10 = .ok (.bipush 9, 2) := by decide +kernel
theorem d_Mo_pattern_12 : decode b_Mo_pattern 12 = .ok (.invokestatic 73, 3) := by decide +kernel
theorem d_Mo_pattern_15 : decode b_Mo_pattern 15 = .ok (.ifCond .ne 5, 3) := by decide +kernel
theorem d_Mo_pattern_18 : decode b_Mo_pattern 18 = .ok (.iconst (-1), 1) := by decide +kernel
theorem d_Mo_pattern_19 : decode b_Mo_pattern 19 = .ok (.ireturn, 1) := by decide +kernel
theorem d_Mo_pattern_20 : decode b_Mo_pattern 20 = .ok (.aload_n 0, 1) := by decide +kernel
theorem d_Mo_pattern_21 : decode b_Mo_pattern 21 = .ok (.getfield 29, 3) := by decide +kernel
theorem d_Mo_pattern_24 : decode b_Mo_pattern 24 = .ok (.aload_n 0, 1) := by decide +kernel
theorem d_Mo_pattern_25 : decode b_Mo_pattern 25 = .ok (.getfield 77, 3) := by decide +kernel
theorem d_Mo_pattern_28 : decode b_Mo_pattern 28 = .ok (.iload_n 2, 1) := by decide +kernel
theorem d_Mo_pattern_29 : decode b_Mo_pattern 29 = .ok (.iastore, 1) := by decide +kernel
theorem d_Mo_pattern_30 : decode b_Mo_pattern 30 = .ok (.iconst 0, 1) := by decide +kernel
theorem d_Mo_pattern_31 : decode b_Mo_pattern 31 = .ok (.istore_n 3, 1) := by decide +kernel
theorem d_Mo_pattern_32 : decode b_Mo_pattern 32 = .ok (.iload_n 3, 1) := by decide +kernel
theorem d_Mo_pattern_33 : decode b_Mo_pattern 33 = .ok (.aload_n 0, 1) := by decide +kernel
theorem d_Mo_pattern_34 : decode b_Mo_pattern 34 = .ok (.getfield 80, 3) := by decide +kernel
theorem d_Mo_pattern_37 : decode b_Mo_pattern 37 = .ok (.if_icmp .ge 18, 3) := by decide +kernel
theorem d_Mo_pattern_40 : decode b_Mo_pattern 40 = .ok (.aload_n 0, 1) := by decide +kernel
theorem d_Mo_pattern_41 : decode b_Mo_pattern 41 = .ok (.iload_n 3, 1) := by decide +kernel
theorem d_Mo_pattern_42 : decode b_Mo_pattern 42 = .ok (.iload_n 1, 1) := by decide +kernel
theorem d_Mo_pattern_43 : decode b_Mo_pattern 43 = .ok (.invokevirtual 83, 3) := by decide +kernel
theorem d_Mo_pattern_46 : decode b_Mo_pattern 46 = .ok (.ifCond .ne 9, 3) := by decide +kernel
theorem d_Mo_pattern_49 : decode b_Mo_pattern 49 = .ok (.iinc 3 1, 3) := by decide +kernel
theorem d_Mo_pattern_52 : decode b_Mo_pattern 52 = .ok (.goto (-20), 3) := by decide +kernel
theorem d_Mo_pattern_55 : decode b_Mo_pattern 55 = .ok (.aload_n 0, 1) := by decide +kernel
theorem d_Mo_pattern_56 : decode b_Mo_pattern 56 = .ok (.getfield 77, 3) := by decide +kernel
theorem d_Mo_pattern_59 : decode b_Mo_pattern 59 = .ok (.istore 4, 2) := by decide +kernel
theorem d_Mo_pattern_61 : decode b_Mo_pattern 61 = .ok (.aload_n 0, 1) := by decide +kernel
theorem d_Mo_pattern_62 : decode b_Mo_pattern 62 = .ok (.invokevirtual 87, 3) := by decide +kernel
theorem d_Mo_pattern_65 : decode b_Mo_pattern 65 = .ok (.istore 5, 2) := by decide +kernel
theorem d_Mo_pattern_67 : decode b_Mo_pattern 67 = .ok (.aload_n 0, 1) := by decide +kernel
theorem d_Mo_pattern_68 : decode b_Mo_pattern 68 = .ok (.iconst 0, 1) := by decide +kernel
theorem d_Mo_pattern_69 : decode b_Mo_pattern 69 = .ok (.putfield 77, 3) := by decide +kernel
theorem d_Mo_pattern_72 : decode b_Mo_pattern 72 = .ok (.iload 5, 2) := by decide +kernel
theorem d_Mo_pattern_74 : decode b_Mo_pattern 74 = .ok (.ifCond .ne 6, 3) := by decide +kernel
theorem d_Mo_pattern_77 : decode b_Mo_pattern 77 = .ok (.bipush (-3), 2) := by decide +kernel
theorem d_Mo_pattern_79 : decode b_Mo_pattern 79 = .ok (.ireturn, 1) := by decide +kernel
theorem d_Mo_pattern_80 : decode b_Mo_pattern 80 = .ok (.iload_n 3, 1) := by decide +kernel
theorem d_Mo_pattern_81 : decode b_Mo_pattern 81 = .ok (.aload_n 0, 1) := by decide +kernel
theorem d_Mo_pattern_82 : decode b_Mo_pattern 82 = .ok (.getfield 80, 3) := by decide +kernel
theorem d_Mo_pattern_85 : decode b_Mo_pattern 85 = .ok (.if_icmp .ne 100, 3) := by decide +kernel
theorem d_Mo_pattern_88 : decode b_Mo_pattern 88 = .ok (.aload_n 0, 1) := by decide +kernel
theorem d_Mo_pattern_89 : decode b_Mo_pattern 89 = .ok (.getfield 80, 3) := by decide +kernel
theorem d_Mo_pattern_92 : decode b_Mo_pattern 92 = .ok (.sipush 150, 3) := by decide +kernel
theorem d_Mo_pattern_95 : decode b_Mo_pattern 95 = .ok (.if_icmp .eq 16, 3) := by decide +kernel
theorem d_Mo_pattern_98 : decode b_Mo_pattern 98 = .ok (.aload_n 0, 1) := by decide +kernel
theorem d_Mo_pattern_99 : decode b_Mo_pattern 99 = .ok (.getfield 91, 3) := by decide +kernel
theorem d_Mo_pattern_102 : decode b_Mo_pattern 102 = .ok (.iload 4, 2) := by decide +kernel
theorem d_Mo_pattern_104 : decode b_Mo_pattern 104 = .ok (.iadd, 1) := by decide +kernel
theorem d_Mo_pattern_105 : decode b_Mo_pattern 105 = .ok (.sipush 900, 3) := by decide +kernel
theorem d_Mo_pattern_108 : decode b_Mo_pattern 108 = .ok (.if_icmp .le 6, 3) := by decide +kernel
theorem d_Mo_pattern_111 : decode b_Mo_pattern 111 = .ok (.bipush (-2), 2) := by decide +kernel
theorem d_Mo_pattern_113 : decode b_Mo_pattern 113 = .ok (.ireturn, 1) := by decide +kernel
theorem d_Mo_pattern_114 : decode b_Mo_pattern 114 = .ok (.aload_n 0, 1) := by decide +kernel
theorem d_Mo_pattern_115 : decode b_Mo_pattern 115 = .ok (.getfield 32, 3) := by decide +kernel
theorem d_Mo_pattern_118 : decode b_Mo_pattern 118 = .ok (.iload_n 3, 1) := by decide +kernel
theorem d_Mo_pattern_119 : decode b_Mo_pattern 119 = .ok (.iload_n 1, 1) := by decide +kernel
theorem d_Mo_pattern_120 : decode b_Mo_pattern 120 = .ok (.iastore, 1) := by decide +kernel
theorem d_Mo_pattern_121 : decode b_Mo_pattern 121 = .ok (.aload_n 0, 1) := by decide +kernel
theorem d_Mo_pattern_122 : decode b_Mo_pattern 122 = .ok (.getfield 35, 3) := by decide +kernel
theorem d_Mo_pattern_125 : decode b_Mo_pattern 125 = .ok (.iload_n 3, 1) := by decide +kernel
theorem d_Mo_pattern_126 : decode b_Mo_pattern 126 = .ok (.iload 4, 2) := by decide +kernel
theorem d_Mo_pattern_128 : decode b_Mo_pattern 128 = .ok (.iastore, 1) := by decide +kernel
theorem d_Mo_pattern_129 : decode b_Mo_pattern 129 = .ok (.iconst 0, 1) := by decide +kernel
theorem d_Mo_pattern_130 : decode b_Mo_pattern 130 = .ok (.istore 6, 2) := by decide +kernel
theorem d_Mo_pattern_132 : decode b_Mo_pattern 132 = .ok (.iload 6, 2) := by decide +kernel
theorem d_Mo_pattern_134 : decode b_Mo_pattern 134 = .ok (.iload 4, 2) := by decide +kernel
theorem d_Mo_pattern_136 : decode b_Mo_pattern 136 = .ok (.if_icmp .ge 28, 3) := by decide +kernel
theorem d_Mo_pattern_139 : decode b_Mo_pattern 139 = .ok (.aload_n 0, 1) := by decide +kernel
theorem d_Mo_pattern_140 : decode b_Mo_pattern 140 = .ok (.getfield 38, 3) := by decide +kernel
theorem d_Mo_pattern_143 : decode b_Mo_pattern 143 = .ok (.bipush 12, 2) := by decide +kernel
theorem d_Mo_pattern_145 : decode b_Mo_pattern 145 = .ok (.iload_n 3, 1) := by decide +kernel
theorem d_Mo_pattern_146 : decode b_Mo_pattern 146 = .ok (.imul, 1) := by decide +kernel
theorem d_Mo_pattern_147 : decode b_Mo_pattern 147 = .ok (.iload 6, 2) := by decide +kernel
theorem d_Mo_pattern_149 : decode b_Mo_pattern 149 = .ok (.iadd, 1) := by decide +kernel
theorem d_Mo_pattern_150 : decode b_Mo_pattern 150 = .ok (.aload_n 0, 1) := by decide +kernel
theorem d_Mo_pattern_151 : decode b_Mo_pattern 151 = .ok (.getfield 26, 3) := by decide +kernel
theorem d_Mo_pattern_154 : decode b_Mo_pattern 154 = .ok (.iload 6, 2) := by decide +kernel
theorem d_Mo_pattern_156 : decode b_Mo_pattern 156 = .ok (.iaload, 1) := by decide +kernel
theorem d_Mo_pattern_157 : decode b_Mo_pattern 157 = .ok (.iastore, 1) := by decide +kernel
theorem d_Mo_pattern_158 : decode b_Mo_pattern 158 = .ok (.iinc 6 1, 3) := by decide +kernel
theorem d_Mo_pattern_161 : decode b_Mo_pattern 161 = .ok (.goto (-29), 3) := by decide +kernel
theorem d_Mo_pattern_164 : decode b_Mo_pattern 164 = .ok (.aload_n 0, 1) := by decide +kernel
theorem d_Mo_pattern_165 : decode b_Mo_pattern 165 = .ok (.dup, 1) := by decide +kernel
theorem d_Mo_pattern_166 : decode b_Mo_pattern 166 = .ok (.getfield 91, 3) := by decide +kernel
theorem d_Mo_pattern_169 : decode b_Mo_pattern 169 = .ok (.iload 4, 2) := by decide +kernel
theorem d_Mo_pattern_171 : decode b_Mo_pattern 171 = .ok (.iadd, 1) := by decide +kernel
theorem d_Mo_pattern_172 : decode b_Mo_pattern 172 = .ok (.putfield 91, 3) := by decide +kernel
theorem d_Mo_pattern_175 : decode b_Mo_pattern 175 = .ok (.aload_n 0, 1) := by decide +kernel
theorem d_Mo_pattern_176 : decode b_Mo_pattern 176 = .ok (.dup, 1) := by decide +kernel
theorem d_Mo_pattern_177 : decode b_Mo_pattern 177 = .ok (.getfield 80, 3) := by decide +kernel
theorem d_Mo_pattern_180 : decode b_Mo_pattern 180 = .ok (.iconst 1, 1) := by decide +kernel
theorem d_Mo_pattern_181 : decode b_Mo_pattern 181 = .ok (.iadd, 1) := by decide +kernel
theorem d_Mo_pattern_182 : decode b_Mo_pattern 182 = .ok (.putfield 80, 3) := by decide +kernel
theorem d_Mo_pattern_185 : decode b_Mo_pattern 185 = .ok (.iconst 0, 1) := by decide +kernel
theorem d_Mo_pattern_186 : decode b_Mo_pattern 186 = .ok (.istore 6, 2) := by decide +kernel
theorem d_Mo_pattern_188 : decode b_Mo_pattern 188 = .ok (.iload 6, 2) := by decide +kernel
theorem d_Mo_pattern_190 : decode b_Mo_pattern 190 = .ok (.iload 4, 2) := by decide +kernel
theorem d_Mo_pattern_192 : decode b_Mo_pattern 192 = .ok (.if_icmp .gt 28, 3) := by decide +kernel
theorem d_Mo_pattern_195 : decode b_Mo_pattern 195 = .ok (.aload_n 0, 1) := by decide +kernel
theorem d_Mo_pattern_196 : decode b_Mo_pattern 196 = .ok (.getfield 41, 3) := by decide +kernel
theorem d_Mo_pattern_199 : decode b_Mo_pattern 199 = .ok (.bipush 13, 2) := by decide +kernel
theorem d_Mo_pattern_201 : decode b_Mo_pattern 201 = .ok (.iload_n 3, 1) := by decide +kernel
theorem d_Mo_pattern_202 : decode b_Mo_pattern 202 = .ok (.imul, 1) := by decide +kernel
theorem d_Mo_pattern_203 : decode b_Mo_pattern 203 = .ok (.iload 6, 2) := by decide +kernel
theorem d_Mo_pattern_205 : decode b_Mo_pattern 205 = .ok (.iadd, 1) := by decide +kernel
theorem d_Mo_pattern_206 : decode b_Mo_pattern 206 = .ok (.aload_n 0, 1) := by decide +kernel
theorem d_Mo_pattern_207 : decode b_Mo_pattern 207 = .ok (.getfield 29, 3) := by decide +kernel
theorem d_Mo_pattern_210 : decode b_Mo_pattern 210 = .ok (.iload 6, 2) := by decide +kernel
theorem d_Mo_pattern_212 : decode b_Mo_pattern 212 = .ok (.iaload, 1) := by decide +kernel
theorem d_Mo_pattern_213 : decode b_Mo_pattern 213 = .ok (.iastore, 1) := by decide +kernel
theorem d_Mo_pattern_214 : decode b_Mo_pattern 214 = .ok (.iinc 6 1, 3) := by decide +kernel
theorem d_Mo_pattern_217 : decode b_Mo_pattern 217 = .ok (.goto (-29), 3) := by decide +kernel
theorem d_Mo_pattern_220 : decode b_Mo_pattern 220 = .ok (.iload_n 3, 1) := by decide +kernel
theorem d_Mo_pattern_221 : decode b_Mo_pattern 221 = .ok (.ireturn, 1) := by decide +kernel
theorem d_Mo_isSame_0 : decode b_Mo_isSame 0 = .ok (.aload_n 0, 1) := by decide +kernel
theorem d_Mo_isSame_1 : decode b_Mo_isSame 1 = .ok (.getfield 32, 3) := by decide +kernel
theorem d_Mo_isSame_4 : decode b_Mo_isSame 4 = .ok (.iload_n 1, 1) := by decide +kernel
theorem d_Mo_isSame_5 : decode b_Mo_isSame 5 = .ok (.iaload, 1) := by decide +kernel
theorem d_Mo_isSame_6 : decode b_Mo_isSame 6 = .ok (.iload_n 2, 1) := by decide +kernel
theorem d_Mo_isSame_7 : decode b_Mo_isSame 7 = .ok (.if_icmp .ne 20, 3) := by decide +kernel
theorem d_Mo_isSame_10 : decode b_Mo_isSame 10 = .ok (.aload_n 0, 1) := by decide +kernel
theorem d_Mo_isSame_11 : decode b_Mo_isSame 11 = .ok (.getfield 35, 3) := by decide +kernel
theorem d_Mo_isSame_14 : decode b_Mo_isSame 14 = .ok (.iload_n 1, 1) := by decide +kernel
theorem d_Mo_isSame_15 : decode b_Mo_isSame 15 = .ok (.iaload, 1) := by decide +kernel
theorem d_Mo_isSame_16 : decode b_Mo_isSame 16 = .ok (.aload_n 0, 1) := by decide +kernel
theorem d_Mo_isSame_17 : decode b_Mo_isSame 17 = .ok (.getfield 77, 3) := by decide +kernel
theorem d_Mo_isSame_20 : decode b_Mo_isSame 20 = .ok (.if_icmp .ne 7, 3) := by decide +kernel
theorem d_Mo_isSame_23 : decode b_Mo_isSame 23 = .ok (.iconst 1, 1) := by decide +kernel
theorem d_Mo_isSame_24 : decode b_Mo_isSame 24 = .ok (.goto 4, 3) := by decide +kernel
theorem d_Mo_isSame_27 : decode b_Mo_isSame 27 = .ok (.iconst 0, 1) := by decide +kernel
theorem d_Mo_isSame_28 : decode b_Mo_isSame 28 = .ok (.istore_n 3, 1) := by decide +kernel
theorem d_Mo_isSame_29 : decode b_Mo_isSame 29 = .ok (.iconst 0, 1) := by decide +kernel
theorem d_Mo_isSame_30 : decode b_Mo_isSame 30 = .ok (.istore 4, 2) := by decide +kernel
theorem d_Mo_isSame_32 : decode b_Mo_isSame 32 = .ok (.iload 4, 2) := by decide +kernel
theorem d_Mo_isSame_34 : decode b_Mo_isSame 34 = .ok (.aload_n 0, 1) := by decide +kernel
theorem d_Mo_isSame_35 : decode b_Mo_isSame 35 = .ok (.getfield 77, 3) := by decide +kernel
theorem d_Mo_isSame_38 : decode b_Mo_isSame 38 = .ok (.if_icmp .ge 41, 3) := by decide +kernel
theorem d_Mo_isSame_41 : decode b_Mo_isSame 41 = .ok (.iload_n 3, 1) := by decide +kernel
theorem d_Mo_isSame_42 : decode b_Mo_isSame 42 = .ok (.ifCond .eq 37, 3) := by decide +kernel
theorem d_Mo_isSame_45 : decode b_Mo_isSame 45 = .ok (.aload_n 0, 1) := by decide +kernel
theorem d_Mo_isSame_46 : decode b_Mo_isSame 46 = .ok (.getfield 38, 3) := by decide +kernel
theorem d_Mo_isSame_49 : decode b_Mo_isSame 49 = .ok (.bipush 12, 2) := by decide +kernel
theorem d_Mo_isSame_51 : decode b_Mo_isSame 51 = .ok (.iload_n 1, 1) := by decide +kernel
theorem d_Mo_isSame_52 : decode b_Mo_isSame 52 = .ok (.imul, 1) := by decide +kernel
theorem d_Mo_isSame_53 : decode b_Mo_isSame 53 = .ok (.iload 4, 2) := by decide +kernel
theorem d_Mo_isSame_55 : decode b_Mo_isSame 55 = .ok (.iadd, 1) := by decide +kernel
theorem d_Mo_isSame_56 : decode b_Mo_isSame 56 = .ok (.iaload, 1) := by decide +kernel
theorem d_Mo_isSame_57 : decode b_Mo_isSame 57 = .ok (.aload_n 0, 1) := by decide +kernel
theorem d_Mo_isSame_58 : decode b_Mo_isSame 58 = .ok (.getfield 26, 3) := by decide +kernel
theorem d_Mo_isSame_61 : decode b_Mo_isSame 61 = .ok (.iload 4, 2) := by decide +kernel
theorem d_Mo_isSame_63 : decode b_Mo_isSame 63 = .ok (.iaload, 1) := by decide +kernel
theorem d_Mo_isSame_64 : decode b_Mo_isSame 64 = .ok (.if_icmp .ne 7, 3) := by decide +kernel
theorem d_Mo_isSame_67 : decode b_Mo_isSame 67 = .ok (.iconst 1, 1) := by decide +kernel
theorem d_Mo_isSame_68 : decode b_Mo_isSame 68 = .ok (.goto 4, 3) := by decide +kernel
theorem d_Mo_isSame_71 : decode b_Mo_isSame 71 = .ok (.iconst 0, 1) := by decide +kernel
theorem d_Mo_isSame_72 : decode b_Mo_isSame 72 = .ok (.istore_n 3, 1) := by decide +kernel
theorem d_Mo_isSame_73 : decode b_Mo_isSame 73 = .ok (.iinc 4 1, 3) := by decide +kernel
theorem d_Mo_isSame_76 : decode b_Mo_isSame 76 = .ok (.goto (-44), 3) := by decide +kernel
theorem d_Mo_isSame_79 : decode b_Mo_isSame 79 = .ok (.iload_n 3, 1) := by decide +kernel
theorem d_Mo_isSame_80 : decode b_Mo_isSame 80 = .ok (.ireturn, 1) := by decide +kernel
theorem d_Mo_isPattern_0 : decode b_Mo_isPattern 0 = .ok (.iconst 0, 1) := by decide +kernel
theorem d_Mo_isPattern_1 : decode b_Mo_isPattern 1 = .ok (.istore_n 1, 1) := by decide +kernel
theorem d_Mo_isPattern_2 : decode b_Mo_isPattern 2 = .ok (.iconst 0, 1) := by decide +kernel
theorem d_Mo_isPattern_3 : decode b_Mo_isPattern 3 = .ok (.istore_n 2, 1) := by decide +kernel
theorem d_Mo_isPattern_4 : decode b_Mo_isPattern 4 = .ok (.iconst 0, 1) := by decide +kernel
theorem d_Mo_isPattern_5 : decode b_Mo_isPattern 5 = .ok (.istore_n 3, 1) := by decide +kernel
theorem d_Mo_isPattern_6 : decode b_Mo_isPattern 6 = .ok (.iload_n 3, 1) := by decide +kernel
theorem d_Mo_isPattern_7 : decode b_Mo_isPattern 7 = .ok (.aload_n 0, 1) := by decide +kernel
theorem d_Mo_isPattern_8 : decode b_Mo_isPattern 8 = .ok (.getfield 77, 3) := by decide +kernel
theorem d_Mo_isPattern_11 : decode b_Mo_isPattern 11 = .ok (.if_icmp .ge 61, 3) := by decide +kernel
theorem d_Mo_isPattern_14 : decode b_Mo_isPattern 14 = .ok (.iload_n 1, 1) := by decide +kernel
theorem d_Mo_isPattern_15 : decode b_Mo_isPattern 15 = .ok (.ifCond .ne 12, 3) := by decide +kernel
theorem d_Mo_isPattern_18 : decode b_Mo_isPattern 18 = .ok (.aload_n 0, 1) := by decide +kernel
theorem d_Mo_isPattern_19 : decode b_Mo_isPattern 19 = .ok (.getfield 26, 3) := by decide +kernel
theorem d_Mo_isPattern_22 : decode b_Mo_isPattern 22 = .ok (.iload_n 3, 1) := by decide +kernel
theorem d_Mo_isPattern_23 : decode b_Mo_isPattern 23 = .ok (.iaload, 1) := by decide +kernel
theorem d_Mo_isPattern_24 : decode b_Mo_isPattern 24 = .ok (.ifCond .le 7, 3) := by decide +kernel
theorem d_Mo_isPattern_27 : decode b_Mo_isPattern 27 = .ok (.iconst 1, 1) := by decide +kernel
theorem d_Mo_isPattern_28 : decode b_Mo_isPattern 28 = .ok (.goto 4, 3) := by decide +kernel
theorem d_Mo_isPattern_31 : decode b_Mo_isPattern 31 = .ok (.iconst 0, 1) := by decide +kernel
theorem d_Mo_isPattern_32 : decode b_Mo_isPattern 32 = .ok (.istore_n 1, 1) := by decide +kernel
theorem d_Mo_isPattern_33 : decode b_Mo_isPattern 33 = .ok (.iload_n 2, 1) := by decide +kernel
theorem d_Mo_isPattern_34 : decode b_Mo_isPattern 34 = .ok (.ifCond .ne 26, 3) := by decide +kernel
theorem d_Mo_isPattern_37 : decode b_Mo_isPattern 37 = .ok (.aload_n 0, 1) := by decide +kernel
theorem d_Mo_isPattern_38 : decode b_Mo_isPattern 38 = .ok (.getfield 26, 3) := by decide +kernel
theorem d_Mo_isPattern_41 : decode b_Mo_isPattern 41 = .ok (.iload_n 3, 1) := by decide +kernel
theorem d_Mo_isPattern_42 : decode b_Mo_isPattern 42 = .ok (.iaload, 1) := by decide +kernel
theorem d_Mo_isPattern_43 : decode b_Mo_isPattern 43 = .ok (.ifCond .ne 21, 3) := by decide +kernel
theorem d_Mo_isPattern_46 : decode b_Mo_isPattern 46 = .ok (.iload_n 3, 1) := by decide +kernel
theorem d_Mo_isPattern_47 : decode b_Mo_isPattern 47 = .ok (.ifCond .le 17, 3) := by decide +kernel
theorem d_Mo_isPattern_50 : decode b_Mo_isPattern 50 = .ok (.iload_n 3, 1) := by decide +kernel
theorem d_Mo_isPattern_51 : decode b_Mo_isPattern 51 = .ok (.aload_n 0, 1) := by decide +kernel
theorem d_Mo_isPattern_52 : decode b_Mo_isPattern 52 = .ok (.getfield 77, 3) := by decide +kernel
theorem d_Mo_isPattern_55 : decode b_Mo_isPattern 55 = .ok (.iconst 1, 1) := by decide +kernel
theorem d_Mo_isPattern_56 : decode b_Mo_isPattern 56 = .ok (.isub, 1) := by decide +kernel
theorem d_Mo_isPattern_57 : decode b_Mo_isPattern 57 = .ok (.if_icmp .ge 7, 3) := by decide +kernel
theorem d_Mo_isPattern_60 : decode b_Mo_isPattern 60 = .ok (.iconst 1, 1) := by decide +kernel
theorem d_Mo_isPattern_61 : decode b_Mo_isPattern 61 = .ok (.goto 4, 3) := by decide +kernel
theorem d_Mo_isPattern_64 : decode b_Mo_isPattern 64 = .ok (.iconst 0, 1) := by decide +kernel
theorem d_Mo_isPattern_65 : decode b_Mo_isPattern 65 = .ok (.istore_n 2, 1) := by decide +kernel
theorem d_Mo_isPattern_66 : decode b_Mo_isPattern 66 = .ok (.iinc 3 1, 3) := by decide +kernel
theorem d_Mo_isPattern_69 : decode b_Mo_isPattern 69 = .ok (.goto (-63), 3) := by decide +kernel
theorem d_Mo_isPattern_72 : decode b_Mo_isPattern 72 = .ok (.iload_n 1, 1) := by decide +kernel
theorem d_Mo_isPattern_73 : decode b_Mo_isPattern 73 = .ok (.ifCond .eq 11, 3) := by decide +kernel
theorem d_Mo_isPattern_76 : decode b_Mo_isPattern 76 = .ok (.iload_n 2, 1) := by decide +kernel
theorem d_Mo_isPattern_77 : decode b_Mo_isPattern 77 = .ok (.ifCond .ne 7, 3) := by decide +kernel
theorem d_Mo_isPattern_80 : decode b_Mo_isPattern 80 = .ok (.iconst 1, 1) := by decide +kernel
theorem d_Mo_isPattern_81 : decode b_Mo_isPattern 81 = .ok (.goto 4, 3) := by decide +kernel
theorem d_Mo_isPattern_84 : decode b_Mo_isPattern 84 = .ok (.iconst 0, 1) := by decide +kernel
theorem d_Mo_isPattern_85 : decode b_Mo_isPattern 85 = .ok (.ireturn, 1) := by decide +kernel
theorem d_Mo_sign_0 : decode b_Mo_sign 0 = .ok (.iload_n 1, 1) := by decide +kernel
theorem d_Mo_sign_1 : decode b_Mo_sign 1 = .ok (.iconst 0, 1) := by decide +kernel
theorem d_Mo_sign_2 : decode b_Mo_sign 2 = .ok (.sipush 255, 3) := by decide +kernel
theorem d_Mo_sign_5 : decode b_Mo_sign 5 = .ok (.invokestatic 73, 3) := by decide +kernel
theorem d_Mo_sign_8 : decode b_Mo_sign 8 = .ok (.ifCond .ne 5, 3) := by decide +kernel
theorem d_Mo_sign_11 : decode b_Mo_sign 11 = .ok (.iconst (-1), 1) := by decide +kernel
theorem d_Mo_sign_12 : decode b_Mo_sign 12 = .ok (.ireturn, 1) := by decide +kernel
theorem d_Mo_sign_13 : decode b_Mo_sign 13 = .ok (.aload_n 0, 1) := by decide +kernel
theorem d_Mo_sign_14 : decode b_Mo_sign 14 = .ok (.getfield 94, 3) := by decide +kernel
theorem d_Mo_sign_17 : decode b_Mo_sign 17 = .ok (.bipush 30, 2) := by decide +kernel
theorem d_Mo_sign_19 : decode b_Mo_sign 19 = .ok (.if_icmp .ne 6, 3) := by decide +kernel
theorem d_Mo_sign_22 : decode b_Mo_sign 22 = .ok (.bipush (-2), 2) := by decide +kernel
theorem d_Mo_sign_24 : decode b_Mo_sign 24 = .ok (.ireturn, 1) := by decide +kernel
theorem d_Mo_sign_25 : decode b_Mo_sign 25 = .ok (.aload_n 0, 1) := by decide +kernel
theorem d_Mo_sign_26 : decode b_Mo_sign 26 = .ok (.getfield 56, 3) := by decide +kernel
theorem d_Mo_sign_29 : decode b_Mo_sign 29 = .ok (.aload_n 0, 1) := by decide +kernel
theorem d_Mo_sign_30 : decode b_Mo_sign 30 = .ok (.getfield 94, 3) := by decide +kernel
theorem d_Mo_sign_33 : decode b_Mo_sign 33 = .ok (.iload_n 1, 1) := by decide +kernel
theorem d_Mo_sign_34 : decode b_Mo_sign 34 = .ok (.iastore, 1) := by decide +kernel
theorem d_Mo_sign_35 : decode b_Mo_sign 35 = .ok (.aload_n 0, 1) := by decide +kernel
theorem d_Mo_sign_36 : decode b_Mo_sign 36 = .ok (.dup, 1) := by decide +kernel
theorem d_Mo_sign_37 : decode b_Mo_sign 37 = .ok (.getfield 94, 3) := by decide +kernel
theorem d_Mo_sign_40 : decode b_Mo_sign 40 = .ok (.iconst 1, 1) := by decide +kernel
theorem d_Mo_sign_41 : decode b_Mo_sign 41 = .ok (.iadd, 1) := by decide +kernel
theorem d_Mo_sign_42 : decode b_Mo_sign 42 = .ok (.putfield 94, 3) := by decide +kernel
theorem d_Mo_sign_45 : decode b_Mo_sign 45 = .ok (.aload_n 0, 1) := by decide +kernel
theorem d_Mo_sign_46 : decode b_Mo_sign 46 = .ok (.getfield 94, 3) := by decide +kernel
theorem d_Mo_sign_49 : decode b_Mo_sign 49 = .ok (.ireturn, 1) := by decide +kernel
theorem d_Mo_clear_0 : decode b_Mo_clear 0 = .ok (.aload_n 0, 1) := by decide +kernel
theorem d_Mo_clear_1 : decode b_Mo_clear 1 = .ok (.getfield 94, 3) := by decide +kernel
theorem d_Mo_clear_4 : decode b_Mo_clear 4 = .ok (.istore_n 1, 1) := by decide +kernel
theorem d_Mo_clear_5 : decode b_Mo_clear 5 = .ok (.aload_n 0, 1) := by decide +kernel
theorem d_Mo_clear_6 : decode b_Mo_clear 6 = .ok (.iconst 0, 1) := by decide +kernel
theorem d_Mo_clear_7 : decode b_Mo_clear 7 = .ok (.putfield 94, 3) := by decide +kernel
theorem d_Mo_clear_10 : decode b_Mo_clear 10 = .ok (.iload_n 1, 1) := by decide +kernel
theorem d_Mo_clear_11 : decode b_Mo_clear 11 = .ok (.ireturn, 1) := by decide +kernel
theorem d_Mo_exception_0 : decode b_Mo_exception 0 = .ok (.aload_n 0, 1) := by decide +kernel
theorem d_Mo_exception_1 : decode b_Mo_exception 1 = .ok (.iload_n 1, 1) := by decide +kernel
theorem d_Mo_exception_2 : decode b_Mo_exception 2 = .ok (.invokevirtual 69, 3) := by decide +kernel
theorem d_Mo_exception_5 : decode b_Mo_exception 5 = .ok (.ifCond .ne 5, 3) := by decide +kernel
theorem d_Mo_exception_8 : decode b_Mo_exception 8 = .ok (.iconst (-1), 1) := by decide +kernel
theorem d_Mo_exception_9 : decode b_Mo_exception 9 = .ok (.ireturn, 1) := by decide +kernel
theorem d_Mo_exception_10 : decode b_Mo_exception 10 = .ok (.aload_n 0, 1) := by decide +kernel
theorem d_Mo_exception_11 : decode b_Mo_exception 11 = .ok (.getfield 94, 3) := by decide +kernel
theorem d_Mo_exception_14 : decode b_Mo_exception 14 = .ok (.ifCond .eq 11, 3) := by decide +kernel
theorem d_Mo_exception_17 : decode b_Mo_exception 17 = .ok (.aload_n 0, 1) := by decide +kernel
theorem d_Mo_exception_18 : decode b_Mo_exception 18 = .ok (.iload_n 1, 1) := by decide +kernel
theorem d_Mo_exception_19 : decode b_Mo_exception 19 = .ok (.invokevirtual 100, 3) := by decide +kernel
theorem d_Mo_exception_22 : decode b_Mo_exception 22 = .ok (.ifCond .ne 6, 3) := by decide +kernel
theorem d_Mo_exception_25 : decode b_Mo_exception 25 = .ok (.bipush (-3), 2) := by decide +kernel
theorem d_Mo_exception_27 : decode b_Mo_exception 27 = .ok (.ireturn, 1) := by decide +kernel
theorem d_Mo_exception_28 : decode b_Mo_exception 28 = .ok (.aload_n 0, 1) := by decide +kernel
theorem d_Mo_exception_29 : decode b_Mo_exception 29 = .ok (.iload_n 1, 1) := by decide +kernel
theorem d_Mo_exception_30 : decode b_Mo_exception 30 = .ok (.invokevirtual 103, 3) := by decide +kernel
theorem d_Mo_exception_33 : decode b_Mo_exception 33 = .ok (.istore_n 3, 1) := by decide +kernel
theorem d_Mo_exception_34 : decode b_Mo_exception 34 = .ok (.iload_n 3, 1) := by decide +kernel
theorem d_Mo_exception_35 : decode b_Mo_exception 35 = .ok (.bipush 40, 2) := by decide +kernel
theorem d_Mo_exception_37 : decode b_Mo_exception 37 = .ok (.if_icmp .ne 6, 3) := by decide +kernel
theorem d_Mo_exception_40 : decode b_Mo_exception 40 = .ok (.bipush (-2), 2) := by decide +kernel
theorem d_Mo_exception_42 : decode b_Mo_exception 42 = .ok (.ireturn, 1) := by decide +kernel
theorem d_Mo_exception_43 : decode b_Mo_exception 43 = .ok (.iload_n 3, 1) := by decide +kernel
theorem d_Mo_exception_44 : decode b_Mo_exception 44 = .ok (.aload_n 0, 1) := by decide +kernel
theorem d_Mo_exception_45 : decode b_Mo_exception 45 = .ok (.getfield 97, 3) := by decide +kernel
theorem d_Mo_exception_48 : decode b_Mo_exception 48 = .ok (.if_icmp .ne 69, 3) := by decide +kernel
theorem d_Mo_exception_51 : decode b_Mo_exception 51 = .ok (.aload_n 0, 1) := by decide +kernel
theorem d_Mo_exception_52 : decode b_Mo_exception 52 = .ok (.getfield 44, 3) := by decide +kernel
theorem d_Mo_exception_55 : decode b_Mo_exception 55 = .ok (.iload_n 3, 1) := by decide +kernel
theorem d_Mo_exception_56 : decode b_Mo_exception 56 = .ok (.iload_n 1, 1) := by decide +kernel
theorem d_Mo_exception_57 : decode b_Mo_exception 57 = .ok (.iastore, 1) := by decide +kernel
theorem d_Mo_exception_58 : decode b_Mo_exception 58 = .ok (.aload_n 0, 1) := by decide +kernel
theorem d_Mo_exception_59 : decode b_Mo_exception 59 = .ok (.getfield 47, 3) := by decide +kernel
theorem d_Mo_exception_62 : decode b_Mo_exception 62 = .ok (.iload_n 3, 1) := by decide +kernel
theorem d_Mo_exception_63 : decode b_Mo_exception 63 = .ok (.aload_n 0, 1) := by decide +kernel
theorem d_Mo_exception_64 : decode b_Mo_exception 64 = .ok (.getfield 94, 3) := by decide +kernel
theorem d_Mo_exception_67 : decode b_Mo_exception 67 = .ok (.iastore, 1) := by decide +kernel
theorem d_Mo_exception_68 : decode b_Mo_exception 68 = .ok (.iconst 0, 1) := by decide +kernel
theorem d_Mo_exception_69 : decode b_Mo_exception 69 = .ok (.istore 4, 2) := by decide +kernel
theorem d_Mo_exception_71 : decode b_Mo_exception 71 = .ok (.iload 4, 2) := by decide +kernel
theorem d_Mo_exception_73 : decode b_Mo_exception 73 = .ok (.aload_n 0, 1) := by decide +kernel
theorem d_Mo_exception_74 : decode b_Mo_exception 74 = .ok (.getfield 94, 3) := by decide +kernel
theorem d_Mo_exception_77 : decode b_Mo_exception 77 = .ok (.if_icmp .ge 30, 3) := by decide +kernel
theorem d_Mo_exception_80 : decode b_Mo_exception 80 = .ok (.aload_n 0, 1) := by decide +kernel
theorem d_Mo_exception_81 : decode b_Mo_exception 81 = .ok (.getfield 50, 3) := by decide +kernel
theorem d_Mo_exception_84 : decode b_Mo_exception 84 = .ok (.bipush 30, 2) := by decide +kernel
theorem d_Mo_exception_86 : decode b_Mo_exception 86 = .ok (.iload_n 3, 1) := by decide +kernel
theorem d_Mo_exception_87 : decode b_Mo_exception 87 = .ok (.imul, 1) := by decide +kernel
theorem d_Mo_exception_88 : decode b_Mo_exception 88 = .ok (.iload 4, 2) := by decide +kernel
theorem d_Mo_exception_90 : decode b_Mo_exception 90 = .ok (.iadd, 1) := by decide +kernel
theorem d_Mo_exception_91 : decode b_Mo_exception 91 = .ok (.aload_n 0, 1) := by decide +kernel
theorem d_Mo_exception_92 : decode b_Mo_exception 92 = .ok (.getfield 59, 3) := by decide +kernel
theorem d_Mo_exception_95 : decode b_Mo_exception 95 = .ok (.iload 4, 2) := by decide +kernel
theorem d_Mo_exception_97 : decode b_Mo_exception 97 = .ok (.iconst 1, 1) := by decide +kernel
theorem d_Mo_exception_98 : decode b_Mo_exception 98 = .ok (.iadd, 1) := by decide +kernel
theorem d_Mo_exception_99 : decode b_Mo_exception 99 = .ok (.iaload, 1) := by decide +kernel
theorem d_Mo_exception_100 : decode b_Mo_exception 100 = .ok (.iastore, 1) := by decide +kernel
theorem d_Mo_exception_101 : decode b_Mo_exception 101 = .ok (.iinc 4 1, 3) := by decide +kernel
theorem d_Mo_exception_104 : decode b_Mo_exception 104 = .ok (.goto (-33), 3) := by decide +kernel
theorem d_Mo_exception_107 : decode b_Mo_exception 107 = .ok (.aload_n 0, 1) := by decide +kernel
theorem d_Mo_exception_108 : decode b_Mo_exception 108 = .ok (.dup, 1) := by decide +kernel
theorem d_Mo_exception_109 : decode b_Mo_exception 109 = .ok (.getfield 97, 3) := by decide +kernel
theorem d_Mo_exception_112 : decode b_Mo_exception 112 = .ok (.iconst 1, 1) := by decide +kernel
theorem d_Mo_exception_113 : decode b_Mo_exception 113 = .ok (.iadd, 1) := by decide +kernel
theorem d_Mo_exception_114 : decode b_Mo_exception 114 = .ok (.putfield 97, 3) := by decide +kernel
theorem d_Mo_exception_117 : decode b_Mo_exception 117 = .ok (.aload_n 0, 1) := by decide +kernel
theorem d_Mo_exception_118 : decode b_Mo_exception 118 = .ok (.getfield 53, 3) := by decide +kernel
theorem d_Mo_exception_121 : decode b_Mo_exception 121 = .ok (.iload_n 3, 1) := by decide +kernel
theorem d_Mo_exception_122 : decode b_Mo_exception 122 = .ok (.iload_n 2, 1) := by decide +kernel
theorem d_Mo_exception_123 : decode b_Mo_exception 123 = .ok (.iastore, 1) := by decide +kernel
theorem d_Mo_exception_124 : decode b_Mo_exception 124 = .ok (.iload_n 3, 1) := by decide +kernel
theorem d_Mo_exception_125 : decode b_Mo_exception 125 = .ok (.ireturn, 1) := by decide +kernel
theorem d_Mo_spell_0 : decode b_Mo_spell 0 = .ok (.iconst 1, 1) := by decide +kernel
theorem d_Mo_spell_1 : decode b_Mo_spell 1 = .ok (.istore_n 2, 1) := by decide +kernel
theorem d_Mo_spell_2 : decode b_Mo_spell 2 = .ok (.aload_n 0, 1) := by decide +kernel
theorem d_Mo_spell_3 : decode b_Mo_spell 3 = .ok (.getfield 59, 3) := by decide +kernel
theorem d_Mo_spell_6 : decode b_Mo_spell 6 = .ok (.iconst 0, 1) := by decide +kernel
theorem d_Mo_spell_7 : decode b_Mo_spell 7 = .ok (.iconst 0, 1) := by decide +kernel
theorem d_Mo_spell_8 : decode b_Mo_spell 8 = .ok (.iastore, 1) := by decide +kernel
theorem d_Mo_spell_9 : decode b_Mo_spell 9 = .ok (.aload_n 0, 1) := by decide +kernel
theorem d_Mo_spell_10 : decode b_Mo_spell 10 = .ok (.getfield 59, 3) := by decide +kernel
theorem d_Mo_spell_13 : decode b_Mo_spell 13 = .ok (.aload_n 0, 1) := by decide +kernel
theorem d_Mo_spell_14 : decode b_Mo_spell 14 = .ok (.getfield 94, 3) := by decide +kernel
theorem d_Mo_spell_17 : decode b_Mo_spell 17 = .ok (.iconst 1, 1) := by decide +kernel
theorem d_Mo_spell_18 : decode b_Mo_spell 18 = .ok (.iadd, 1) := by decide +kernel
theorem d_Mo_spell_19 : decode b_Mo_spell 19 = .ok (.iconst 0, 1) := by decide +kernel
theorem d_Mo_spell_20 : decode b_Mo_spell 20 = .ok (.iastore, 1) := by decide +kernel
theorem d_Mo_spell_21 : decode b_Mo_spell 21 = .ok (.iconst 0, 1) := by decide +kernel
theorem d_Mo_spell_22 : decode b_Mo_spell 22 = .ok (.istore_n 3, 1) := by decide +kernel
theorem d_Mo_spell_23 : decode b_Mo_spell 23 = .ok (.iload_n 3, 1) := by decide +kernel
theorem d_Mo_spell_24 : decode b_Mo_spell 24 = .ok (.aload_n 0, 1) := by decide +kernel
theorem d_Mo_spell_25 : decode b_Mo_spell 25 = .ok (.getfield 94, 3) := by decide +kernel
theorem d_Mo_spell_28 : decode b_Mo_spell 28 = .ok (.if_icmp .ge 55, 3) := by decide +kernel
theorem d_Mo_spell_31 : decode b_Mo_spell 31 = .ok (.aload_n 0, 1) := by decide +kernel
theorem d_Mo_spell_32 : decode b_Mo_spell 32 = .ok (.getfield 59, 3) := by decide +kernel
theorem d_Mo_spell_35 : decode b_Mo_spell 35 = .ok (.iload_n 3, 1) := by decide +kernel
theorem d_Mo_spell_36 : decode b_Mo_spell 36 = .ok (.iconst 1, 1) := by decide +kernel
theorem d_Mo_spell_37 : decode b_Mo_spell 37 = .ok (.iadd, 1) := by decide +kernel
theorem d_Mo_spell_38 : decode b_Mo_spell 38 = .ok (.aload_n 0, 1) := by decide +kernel
theorem d_Mo_spell_39 : decode b_Mo_spell 39 = .ok (.getfield 7, 3) := by decide +kernel
theorem d_Mo_spell_42 : decode b_Mo_spell 42 = .ok (.sipush 256, 3) := by decide +kernel
theorem d_Mo_spell_45 : decode b_Mo_spell 45 = .ok (.iload_n 1, 1) := by decide +kernel
theorem d_Mo_spell_46 : decode b_Mo_spell 46 = .ok (.imul, 1) := by decide +kernel
theorem d_Mo_spell_47 : decode b_Mo_spell 47 = .ok (.aload_n 0, 1) := by decide +kernel
theorem d_Mo_spell_48 : decode b_Mo_spell 48 = .ok (.getfield 56, 3) := by decide +kernel
theorem d_Mo_spell_51 : decode b_Mo_spell 51 = .ok (.iload_n 3, 1) := by decide +kernel
theorem d_Mo_spell_52 : decode b_Mo_spell 52 = .ok (.iaload, 1) := by decide +kernel
theorem d_Mo_spell_53 : decode b_Mo_spell 53 = .ok (.iadd, 1) := by decide +kernel
theorem d_Mo_spell_54 : decode b_Mo_spell 54 = .ok (.iaload, 1) := by decide +kernel
theorem d_Mo_spell_55 : decode b_Mo_spell 55 = .ok (.iastore, 1) := by decide +kernel
theorem d_Mo_spell_56 : decode b_Mo_spell 56 = .ok (.iload_n 2, 1) := by decide +kernel
theorem d_Mo_spell_57 : decode b_Mo_spell 57 = .ok (.ifCond .eq 18, 3) := by decide +kernel
theorem d_Mo_spell_60 : decode b_Mo_spell 60 = .ok (.aload_n 0, 1) := by decide +kernel
theorem d_Mo_spell_61 : decode b_Mo_spell 61 = .ok (.getfield 59, 3) := by decide +kernel
theorem d_Mo_spell_64 : decode b_Mo_spell 64 = .ok (.iload_n 3, 1) := by decide +kernel
theorem d_Mo_spell_65 : decode b_Mo_spell 65 = .ok (.iconst 1, 1) := by decide +kernel
theorem d_Mo_spell_66 : decode b_Mo_spell 66 = .ok (.iadd, 1) := by decide +kernel
theorem d_Mo_spell_67 : decode b_Mo_spell 67 = .ok (.iaload, 1) := by decide +kernel
theorem d_Mo_spell_68 : decode b_Mo_spell 68 = .ok (.ifCond .le 7, 3) := by decide +kernel
theorem d_Mo_spell_71 : decode b_Mo_spell 71 = .ok (.iconst 1, 1) := by decide +kernel
theorem d_Mo_spell_72 : decode b_Mo_spell 72 = .ok (.goto 4, 3) := by decide +kernel
theorem d_Mo_spell_75 : decode b_Mo_spell 75 = .ok (.iconst 0, 1) := by decide +kernel
theorem d_Mo_spell_76 : decode b_Mo_spell 76 = .ok (.istore_n 2, 1) := by decide +kernel
theorem d_Mo_spell_77 : decode b_Mo_spell 77 = .ok (.iinc 3 1, 3) := by decide +kernel
theorem d_Mo_spell_80 : decode b_Mo_spell 80 = .ok (.goto (-57), 3) := by decide +kernel
theorem d_Mo_spell_83 : decode b_Mo_spell 83 = .ok (.iload_n 2, 1) := by decide +kernel
theorem d_Mo_spell_84 : decode b_Mo_spell 84 = .ok (.ireturn, 1) := by decide +kernel
theorem d_Mo_exceptionOf_0 : decode b_Mo_exceptionOf 0 = .ok (.iconst 0, 1) := by decide +kernel
theorem d_Mo_exceptionOf_1 : decode b_Mo_exceptionOf 1 = .ok (.istore_n 2, 1) := by decide +kernel
theorem d_Mo_exceptionOf_2 : decode b_Mo_exceptionOf 2 = .ok (.iconst 0, 1) := by decide +kernel
theorem d_Mo_exceptionOf_3 : decode b_Mo_exceptionOf 3 = .ok (.istore_n 3, 1) := by decide +kernel
theorem d_Mo_exceptionOf_4 : decode b_Mo_exceptionOf 4 = .ok (.iload_n 2, 1) := by decide +kernel
theorem d_Mo_exceptionOf_5 : decode b_Mo_exceptionOf 5 = .ok (.aload_n 0, 1) := by decide +kernel
theorem d_Mo_exceptionOf_6 : decode b_Mo_exceptionOf 6 = .ok (.getfield 97, 3) := by decide +kernel
theorem d_Mo_exceptionOf_9 : decode b_Mo_exceptionOf 9 = .ok (.if_icmp .ge 103, 3) := by decide +kernel
theorem d_Mo_exceptionOf_12 : decode b_Mo_exceptionOf 12 = .ok (.iload_n 3, 1) := by decide +kernel
theorem d_Mo_exceptionOf_13 : decode b_Mo_exceptionOf 13 = .ok (.ifCond .ne 99, 3) := by decide +kernel
theorem d_Mo_exceptionOf_16 : decode b_Mo_exceptionOf 16 = .ok (.aload_n 0, 1) := by decide +kernel
theorem d_Mo_exceptionOf_17 : decode b_Mo_exceptionOf 17 = .ok (.getfield 44, 3) := by decide +kernel
theorem d_Mo_exceptionOf_20 : decode b_Mo_exceptionOf 20 = .ok (.iload_n 2, 1) := by decide +kernel
theorem d_Mo_exceptionOf_21 : decode b_Mo_exceptionOf 21 = .ok (.iaload, 1) := by decide +kernel
theorem d_Mo_exceptionOf_22 : decode b_Mo_exceptionOf 22 = .ok (.iload_n 1, 1) := by decide +kernel
theorem d_Mo_exceptionOf_23 : decode b_Mo_exceptionOf 23 = .ok (.if_icmp .ne 20, 3) := by decide +kernel
theorem d_Mo_exceptionOf_26 : decode b_Mo_exceptionOf 26 = .ok (.aload_n 0, 1) := by decide +kernel
theorem d_Mo_exceptionOf_27 : decode b_Mo_exceptionOf 27 = .ok (.getfield 47, 3) := by decide +kernel
theorem d_Mo_exceptionOf_30 : decode b_Mo_exceptionOf 30 = .ok (.iload_n 2, 1) := by decide +kernel
theorem d_Mo_exceptionOf_31 : decode b_Mo_exceptionOf 31 = .ok (.iaload, 1) := by decide +kernel
theorem d_Mo_exceptionOf_32 : decode b_Mo_exceptionOf 32 = .ok (.aload_n 0, 1) := by decide +kernel
theorem d_Mo_exceptionOf_33 : decode b_Mo_exceptionOf 33 = .ok (.getfield 94, 3) := by decide +kernel
theorem d_Mo_exceptionOf_36 : decode b_Mo_exceptionOf 36 = .ok (.if_icmp .ne 7, 3) := by decide +kernel
theorem d_Mo_exceptionOf_39 : decode b_Mo_exceptionOf 39 = .ok (.iconst 1, 1) := by decide +kernel
theorem d_Mo_exceptionOf_40 : decode b_Mo_exceptionOf 40 = .ok (.goto 4, 3) := by decide +kernel
theorem d_Mo_exceptionOf_43 : decode b_Mo_exceptionOf 43 = .ok (.iconst 0, 1) := by decide +kernel
theorem d_Mo_exceptionOf_44 : decode b_Mo_exceptionOf 44 = .ok (.istore_n 3, 1) := by decide +kernel
theorem d_Mo_exceptionOf_45 : decode b_Mo_exceptionOf 45 = .ok (.iconst 0, 1) := by decide +kernel
theorem d_Mo_exceptionOf_46 : decode b_Mo_exceptionOf 46 = .ok (.istore 4, 2) := by decide +kernel
theorem d_Mo_exceptionOf_48 : decode b_Mo_exceptionOf 48 = .ok (.iload 4, 2) := by decide +kernel
theorem d_Mo_exceptionOf_50 : decode b_Mo_exceptionOf 50 = .ok (.aload_n 0, 1) := by decide +kernel
theorem d_Mo_exceptionOf_51 : decode b_Mo_exceptionOf 51 = .ok (.getfield 94, 3) := by decide +kernel
theorem d_Mo_exceptionOf_54 : decode b_Mo_exceptionOf 54 = .ok (.if_icmp .ge 43, 3) := by decide +kernel
theorem d_Mo_exceptionOf_57 : decode b_Mo_exceptionOf 57 = .ok (.iload_n 3, 1) := by decide +kernel
theorem d_Mo_exceptionOf_58 : decode b_Mo_exceptionOf 58 = .ok (.ifCond .eq 39, 3) := by decide +kernel
theorem d_Mo_exceptionOf_61 : decode b_Mo_exceptionOf 61 = .ok (.aload_n 0, 1) := by decide +kernel
theorem d_Mo_exceptionOf_62 : decode b_Mo_exceptionOf 62 = .ok (.getfield 50, 3) := by decide +kernel
theorem d_Mo_exceptionOf_65 : decode b_Mo_exceptionOf 65 = .ok (.bipush 30, 2) := by decide +kernel
theorem d_Mo_exceptionOf_67 : decode b_Mo_exceptionOf 67 = .ok (.iload_n 2, 1) := by decide +kernel
theorem d_Mo_exceptionOf_68 : decode b_Mo_exceptionOf 68 = .ok (.imul, 1) := by decide +kernel
theorem d_Mo_exceptionOf_69 : decode b_Mo_exceptionOf 69 = .ok (.iload 4, 2) := by decide +kernel
theorem d_Mo_exceptionOf_71 : decode b_Mo_exceptionOf 71 = .ok (.iadd, 1) := by decide +kernel
theorem d_Mo_exceptionOf_72 : decode b_Mo_exceptionOf 72 = .ok (.iaload, 1) := by decide +kernel
theorem d_Mo_exceptionOf_73 : decode b_Mo_exceptionOf 73 = .ok (.aload_n 0, 1) := by decide +kernel
theorem d_Mo_exceptionOf_74 : decode b_Mo_exceptionOf 74 = .ok (.getfield 59, 3) := by decide +kernel
theorem d_Mo_exceptionOf_77 : decode b_Mo_exceptionOf 77 = .ok (.iload 4, 2) := by decide +kernel
theorem d_Mo_exceptionOf_79 : decode b_Mo_exceptionOf 79 = .ok (.iconst 1, 1) := by decide +kernel
theorem d_Mo_exceptionOf_80 : decode b_Mo_exceptionOf 80 = .ok (.iadd, 1) := by decide +kernel
theorem d_Mo_exceptionOf_81 : decode b_Mo_exceptionOf 81 = .ok (.iaload, 1) := by decide +kernel
theorem d_Mo_exceptionOf_82 : decode b_Mo_exceptionOf 82 = .ok (.if_icmp .ne 7, 3) := by decide +kernel
theorem d_Mo_exceptionOf_85 : decode b_Mo_exceptionOf 85 = .ok (.iconst 1, 1) := by decide +kernel
theorem d_Mo_exceptionOf_86 : decode b_Mo_exceptionOf 86 = .ok (.goto 4, 3) := by decide +kernel
theorem d_Mo_exceptionOf_89 : decode b_Mo_exceptionOf 89 = .ok (.iconst 0, 1) := by decide +kernel
theorem d_Mo_exceptionOf_90 : decode b_Mo_exceptionOf 90 = .ok (.istore_n 3, 1) := by decide +kernel
theorem d_Mo_exceptionOf_91 : decode b_Mo_exceptionOf 91 = .ok (.iinc 4 1, 3) := by decide +kernel
theorem d_Mo_exceptionOf_94 : decode b_Mo_exceptionOf 94 = .ok (.goto (-46), 3) := by decide +kernel
theorem d_Mo_exceptionOf_97 : decode b_Mo_exceptionOf 97 = .ok (.iload_n 2, 1) := by decide +kernel
theorem d_Mo_exceptionOf_98 : decode b_Mo_exceptionOf 98 = .ok (.iload_n 3, 1) := by decide +kernel
theorem d_Mo_exceptionOf_99 : decode b_Mo_exceptionOf 99 = .ok (.ifCond .eq 7, 3) := by decide +kernel
theorem d_Mo_exceptionOf_102 : decode b_Mo_exceptionOf 102 = .ok (.iconst 0, 1) := by decide +kernel
theorem d_Mo_exceptionOf_103 : decode b_Mo_exceptionOf 103 = .ok (.goto 4, 3) := by decide +kernel
theorem d_Mo_exceptionOf_106 : decode b_Mo_exceptionOf 106 = .ok (.iconst 1, 1) := by decide +kernel
theorem d_Mo_exceptionOf_107 : decode b_Mo_exceptionOf 107 = .ok (.iadd, 1) := by decide +kernel
theorem d_Mo_exceptionOf_108 : decode b_Mo_exceptionOf 108 = .ok (.istore_n 2, 1) := by decide +kernel
theorem d_Mo_exceptionOf_109 : decode b_Mo_exceptionOf 109 = .ok (.goto (-105), 3) := by decide +kernel
theorem d_Mo_exceptionOf_112 : decode b_Mo_exceptionOf 112 = .ok (.iload_n 2, 1) := by decide +kernel
theorem d_Mo_exceptionOf_113 : decode b_Mo_exceptionOf 113 = .ok (.ireturn, 1) := by decide +kernel
theorem d_Mo_drop_0 : decode b_Mo_drop 0 = .ok (.iload_n 1, 1) := by decide +kernel
theorem d_Mo_drop_1 : decode b_Mo_drop 1 = .ok (.ifCond .lt 11, 3) := by decide +kernel
theorem d_Mo_drop_4 : decode b_Mo_drop 4 = .ok (.iload_n 1, 1) := by decide +kernel
theorem d_Mo_drop_5 : decode b_Mo_drop 5 = .ok (.aload_n 0, 1) := by decide +kernel
theorem d_Mo_drop_6 : decode b_Mo_drop 6 = .ok (.getfield 97, 3) := by decide +kernel
theorem d_Mo_drop_9 : decode b_Mo_drop 9 = .ok (.if_icmp .lt 5, 3) := by decide +kernel
theorem d_Mo_drop_12 : decode b_Mo_drop 12 = .ok (.iconst (-1), 1) := by decide +kernel
theorem d_Mo_drop_13 : decode b_Mo_drop 13 = .ok (.ireturn, 1) := by decide +kernel
theorem d_Mo_drop_14 : decode b_Mo_drop 14 = .ok (.aload_n 0, 1) := by decide +kernel
theorem d_Mo_drop_15 : decode b_Mo_drop 15 = .ok (.dup, 1) := by decide +kernel
theorem d_Mo_drop_16 : decode b_Mo_drop 16 = .ok (.getfield 97, 3) := by decide +kernel
theorem d_Mo_drop_19 : decode b_Mo_drop 19 = .ok (.iconst 1, 1) := by decide +kernel
theorem d_Mo_drop_20 : decode b_Mo_drop 20 = .ok (.isub, 1) := by decide +kernel
theorem d_Mo_drop_21 : decode b_Mo_drop 21 = .ok (.putfield 97, 3) := by decide +kernel
theorem d_Mo_drop_24 : decode b_Mo_drop 24 = .ok (.iload_n 1, 1) := by decide +kernel
theorem d_Mo_drop_25 : decode b_Mo_drop 25 = .ok (.istore_n 2, 1) := by decide +kernel
theorem d_Mo_drop_26 : decode b_Mo_drop 26 = .ok (.iload_n 2, 1) := by decide +kernel
theorem d_Mo_drop_27 : decode b_Mo_drop 27 = .ok (.aload_n 0, 1) := by decide +kernel
theorem d_Mo_drop_28 : decode b_Mo_drop 28 = .ok (.getfield 97, 3) := by decide +kernel
theorem d_Mo_drop_31 : decode b_Mo_drop 31 = .ok (.if_icmp .ge 90, 3) := by decide +kernel
theorem d_Mo_drop_34 : decode b_Mo_drop 34 = .ok (.aload_n 0, 1) := by decide +kernel
theorem d_Mo_drop_35 : decode b_Mo_drop 35 = .ok (.getfield 44, 3) := by decide +kernel
theorem d_Mo_drop_38 : decode b_Mo_drop 38 = .ok (.iload_n 2, 1) := by decide +kernel
theorem d_Mo_drop_39 : decode b_Mo_drop 39 = .ok (.aload_n 0, 1) := by decide +kernel
theorem d_Mo_drop_40 : decode b_Mo_drop 40 = .ok (.getfield 44, 3) := by decide +kernel
theorem d_Mo_drop_43 : decode b_Mo_drop 43 = .ok (.iload_n 2, 1) := by decide +kernel
theorem d_Mo_drop_44 : decode b_Mo_drop 44 = .ok (.iconst 1, 1) := by decide +kernel
theorem d_Mo_drop_45 : decode b_Mo_drop 45 = .ok (.iadd, 1) := by decide +kernel
theorem d_Mo_drop_46 : decode b_Mo_drop 46 = .ok (.iaload, 1) := by decide +kernel
theorem d_Mo_drop_47 : decode b_Mo_drop 47 = .ok (.iastore, 1) := by decide +kernel
theorem d_Mo_drop_48 : decode b_Mo_drop 48 = .ok (.aload_n 0, 1) := by decide +kernel
theorem d_Mo_drop_49 : decode b_Mo_drop 49 = .ok (.getfield 47, 3) := by decide +kernel
theorem d_Mo_drop_52 : decode b_Mo_drop 52 = .ok (.iload_n 2, 1) := by decide +kernel
theorem d_Mo_drop_53 : decode b_Mo_drop 53 = .ok (.aload_n 0, 1) := by decide +kernel
theorem d_Mo_drop_54 : decode b_Mo_drop 54 = .ok (.getfield 47, 3) := by decide +kernel
theorem d_Mo_drop_57 : decode b_Mo_drop 57 = .ok (.iload_n 2, 1) := by decide +kernel
theorem d_Mo_drop_58 : decode b_Mo_drop 58 = .ok (.iconst 1, 1) := by decide +kernel
theorem d_Mo_drop_59 : decode b_Mo_drop 59 = .ok (.iadd, 1) := by decide +kernel
theorem d_Mo_drop_60 : decode b_Mo_drop 60 = .ok (.iaload, 1) := by decide +kernel
theorem d_Mo_drop_61 : decode b_Mo_drop 61 = .ok (.iastore, 1) := by decide +kernel
theorem d_Mo_drop_62 : decode b_Mo_drop 62 = .ok (.aload_n 0, 1) := by decide +kernel
theorem d_Mo_drop_63 : decode b_Mo_drop 63 = .ok (.getfield 53, 3) := by decide +kernel
theorem d_Mo_drop_66 : decode b_Mo_drop 66 = .ok (.iload_n 2, 1) := by decide +kernel
theorem d_Mo_drop_67 : decode b_Mo_drop 67 = .ok (.aload_n 0, 1) := by decide +kernel
theorem d_Mo_drop_68 : decode b_Mo_drop 68 = .ok (.getfield 53, 3) := by decide +kernel
theorem d_Mo_drop_71 : decode b_Mo_drop 71 = .ok (.iload_n 2, 1) := by decide +kernel
theorem d_Mo_drop_72 : decode b_Mo_drop 72 = .ok (.iconst 1, 1) := by decide +kernel
theorem d_Mo_drop_73 : decode b_Mo_drop 73 = .ok (.iadd, 1) := by decide +kernel
theorem d_Mo_drop_74 : decode b_Mo_drop 74 = .ok (.iaload, 1) := by decide +kernel
theorem d_Mo_drop_75 : decode b_Mo_drop 75 = .ok (.iastore, 1) := by decide +kernel
theorem d_Mo_drop_76 : decode b_Mo_drop 76 = .ok (.iconst 0, 1) := by decide +kernel
theorem d_Mo_drop_77 : decode b_Mo_drop 77 = .ok (.istore_n 3, 1) := by decide +kernel
theorem d_Mo_drop_78 : decode b_Mo_drop 78 = .ok (.iload_n 3, 1) := by decide +kernel
theorem d_Mo_drop_79 : decode b_Mo_drop 79 = .ok (.bipush 30, 2) := by decide +kernel
theorem d_Mo_drop_81 : decode b_Mo_drop 81 = .ok (.if_icmp .ge 34, 3) := by decide +kernel
theorem d_Mo_drop_84 : decode b_Mo_drop 84 = .ok (.aload_n 0, 1) := by decide +kernel
theorem d_Mo_drop_85 : decode b_Mo_drop 85 = .ok (.getfield 50, 3) := by decide +kernel
theorem d_Mo_drop_88 : decode b_Mo_drop 88 = .ok (.bipush 30, 2) := by decide +kernel
theorem d_Mo_drop_90 : decode b_Mo_drop 90 = .ok (.iload_n 2, 1) := by decide +kernel
theorem d_Mo_drop_91 : decode b_Mo_drop 91 = .ok (.imul, 1) := by decide +kernel
theorem d_Mo_drop_92 : decode b_Mo_drop 92 = .ok (.iload_n 3, 1) := by decide +kernel
theorem d_Mo_drop_93 : decode b_Mo_drop 93 = .ok (.iadd, 1) := by decide +kernel
theorem d_Mo_drop_94 : decode b_Mo_drop 94 = .ok (.aload_n 0, 1) := by decide +kernel
theorem d_Mo_drop_95 : decode b_Mo_drop 95 = .ok (.getfield 50, 3) := by decide +kernel
theorem d_Mo_drop_98 : decode b_Mo_drop 98 = .ok (.bipush 30, 2) := by decide +kernel
theorem d_Mo_drop_100 : decode b_Mo_drop 100 = .ok (.iload_n 2, 1) := by decide +kernel
theorem d_Mo_drop_101 : decode b_Mo_drop 101 = .ok (.imul, 1) := by decide +kernel
theorem d_Mo_drop_102 : decode b_Mo_drop 102 = .ok (.bipush 30, 2) := by decide +kernel
theorem d_Mo_drop_104 : decode b_Mo_drop 104 = .ok (.iadd, 1) := by decide +kernel
theorem d_Mo_drop_105 : decode b_Mo_drop 105 = .ok (.iload_n 3, 1) := by decide +kernel
theorem d_Mo_drop_106 : decode b_Mo_drop 106 = .ok (.iadd, 1) := by decide +kernel
theorem d_Mo_drop_107 : decode b_Mo_drop 107 = .ok (.iaload, 1) := by decide +kernel
theorem d_Mo_drop_108 : decode b_Mo_drop 108 = .ok (.iastore, 1) := by decide +kernel
theorem d_Mo_drop_109 : decode b_Mo_drop 109 = .ok (.iinc 3 1, 3) := by decide +kernel
theorem d_Mo_drop_112 : decode b_Mo_drop 112 = .ok (.goto (-34), 3) := by decide +kernel
theorem d_Mo_drop_115 : decode b_Mo_drop 115 = .ok (.iinc 2 1, 3) := by decide +kernel
theorem d_Mo_drop_118 : decode b_Mo_drop 118 = .ok (.goto (-92), 3) := by decide +kernel
theorem d_Mo_drop_121 : decode b_Mo_drop 121 = .ok (.iconst 1, 1) := by decide +kernel
theorem d_Mo_drop_122 : decode b_Mo_drop 122 = .ok (.ireturn, 1) := by decide +kernel
theorem d_Mo_run_0 : decode b_Mo_run 0 = .ok (.aload_n 0, 1) := by decide +kernel
theorem d_Mo_run_1 : decode b_Mo_run 1 = .ok (.iload_n 1, 1) := by decide +kernel
theorem d_Mo_run_2 : decode b_Mo_run 2 = .ok (.invokevirtual 69, 3) := by decide +kernel
theorem d_Mo_run_5 : decode b_Mo_run 5 = .ok (.ifCond .ne 5, 3) := by decide +kernel
theorem d_Mo_run_8 : decode b_Mo_run 8 = .ok (.iconst (-1), 1) := by decide +kernel
theorem d_Mo_run_9 : decode b_Mo_run 9 = .ok (.ireturn, 1) := by decide +kernel
theorem d_Mo_run_10 : decode b_Mo_run 10 = .ok (.aload_n 0, 1) := by decide +kernel
theorem d_Mo_run_11 : decode b_Mo_run 11 = .ok (.iconst 0, 1) := by decide +kernel
theorem d_Mo_run_12 : decode b_Mo_run 12 = .ok (.putfield 110, 3) := by decide +kernel
theorem d_Mo_run_15 : decode b_Mo_run 15 = .ok (.aload_n 0, 1) := by decide +kernel
theorem d_Mo_run_16 : decode b_Mo_run 16 = .ok (.iload_n 1, 1) := by decide +kernel
theorem d_Mo_run_17 : decode b_Mo_run 17 = .ok (.invokevirtual 100, 3) := by decide +kernel
theorem d_Mo_run_20 : decode b_Mo_run 20 = .ok (.istore_n 2, 1) := by decide +kernel
theorem d_Mo_run_21 : decode b_Mo_run 21 = .ok (.aload_n 0, 1) := by decide +kernel
theorem d_Mo_run_22 : decode b_Mo_run 22 = .ok (.getfield 94, 3) := by decide +kernel
theorem d_Mo_run_25 : decode b_Mo_run 25 = .ok (.ifCond .le 36, 3) := by decide +kernel
theorem d_Mo_run_28 : decode b_Mo_run 28 = .ok (.aload_n 0, 1) := by decide +kernel
theorem d_Mo_run_29 : decode b_Mo_run 29 = .ok (.getfield 23, 3) := by decide +kernel
theorem d_Mo_run_32 : decode b_Mo_run 32 = .ok (.iload_n 1, 1) := by decide +kernel
theorem d_Mo_run_33 : decode b_Mo_run 33 = .ok (.baload, 1) := by decide +kernel
theorem d_Mo_run_34 : decode b_Mo_run 34 = .ok (.ifCond .eq 27, 3) := by decide +kernel
theorem d_Mo_run_37 : decode b_Mo_run 37 = .ok (.aload_n 0, 1) := by decide +kernel
theorem d_Mo_run_38 : decode b_Mo_run 38 = .ok (.getfield 13, 3) := by decide +kernel
theorem d_Mo_run_41 : decode b_Mo_run 41 = .ok (.sipush 256, 3) := by decide +kernel
theorem d_Mo_run_44 : decode b_Mo_run 44 = .ok (.iload_n 1, 1) := by decide +kernel
theorem d_Mo_run_45 : decode b_Mo_run 45 = .ok (.imul, 1) := by decide +kernel
theorem d_Mo_run_46 : decode b_Mo_run 46 = .ok (.aload_n 0, 1) := by decide +kernel
theorem d_Mo_run_47 : decode b_Mo_run 47 = .ok (.getfield 56, 3) := by decide +kernel
theorem d_Mo_run_50 : decode b_Mo_run 50 = .ok (.iconst 0, 1) := by decide +kernel
theorem d_Mo_run_51 : decode b_Mo_run 51 = .ok (.iaload, 1) := by decide +kernel
theorem d_Mo_run_52 : decode b_Mo_run 52 = .ok (.iadd, 1) := by decide +kernel
theorem d_Mo_run_53 : decode b_Mo_run 53 = .ok (.baload, 1) := by decide +kernel
theorem d_Mo_run_54 : decode b_Mo_run 54 = .ok (.ifCond .eq 7, 3) := by decide +kernel
theorem d_Mo_run_57 : decode b_Mo_run 57 = .ok (.iconst 1, 1) := by decide +kernel
theorem d_Mo_run_58 : decode b_Mo_run 58 = .ok (.goto 4, 3) := by decide +kernel
theorem d_Mo_run_61 : decode b_Mo_run 61 = .ok (.iconst 0, 1) := by decide +kernel
theorem d_Mo_run_62 : decode b_Mo_run 62 = .ok (.istore_n 3, 1) := by decide +kernel
theorem d_Mo_run_63 : decode b_Mo_run 63 = .ok (.aload_n 0, 1) := by decide +kernel
theorem d_Mo_run_64 : decode b_Mo_run 64 = .ok (.getfield 17, 3) := by decide +kernel
theorem d_Mo_run_67 : decode b_Mo_run 67 = .ok (.iload_n 1, 1) := by decide +kernel
theorem d_Mo_run_68 : decode b_Mo_run 68 = .ok (.iaload, 1) := by decide +kernel
theorem d_Mo_run_69 : decode b_Mo_run 69 = .ok (.iconst 1, 1) := by decide +kernel
theorem d_Mo_run_70 : decode b_Mo_run 70 = .ok (.if_icmp .ge 7, 3) := by decide +kernel
theorem d_Mo_run_73 : decode b_Mo_run 73 = .ok (.iconst 1, 1) := by decide +kernel
theorem d_Mo_run_74 : decode b_Mo_run 74 = .ok (.goto 9, 3) := by decide +kernel
theorem d_Mo_run_77 : decode b_Mo_run 77 = .ok (.aload_n 0, 1) := by decide +kernel
theorem d_Mo_run_78 : decode b_Mo_run 78 = .ok (.getfield 17, 3) := by decide +kernel
theorem d_Mo_run_81 : decode b_Mo_run 81 = .ok (.iload_n 1, 1) := by decide +kernel
theorem d_Mo_run_82 : decode b_Mo_run 82 = .ok (.iaload, 1) := by decide +kernel
theorem d_Mo_run_83 : decode b_Mo_run 83 = .ok (.istore 4, 2) := by decide +kernel
theorem d_Mo_run_85 : decode b_Mo_run 85 = .ok (.aload_n 0, 1) := by decide +kernel
theorem d_Mo_run_86 : decode b_Mo_run 86 = .ok (.getfield 94, 3) := by decide +kernel
theorem d_Mo_run_89 : decode b_Mo_run 89 = .ok (.aload_n 0, 1) := by decide +kernel
theorem d_Mo_run_90 : decode b_Mo_run 90 = .ok (.getfield 20, 3) := by decide +kernel
theorem d_Mo_run_93 : decode b_Mo_run 93 = .ok (.iload_n 1, 1) := by decide +kernel
theorem d_Mo_run_94 : decode b_Mo_run 94 = .ok (.iaload, 1) := by decide +kernel
theorem d_Mo_run_95 : decode b_Mo_run 95 = .ok (.iconst 1, 1) := by decide +kernel
theorem d_Mo_run_96 : decode b_Mo_run 96 = .ok (.if_icmp .ge 7, 3) := by decide +kernel
theorem d_Mo_run_99 : decode b_Mo_run 99 = .ok (.iconst 1, 1) := by decide +kernel
theorem d_Mo_run_100 : decode b_Mo_run 100 = .ok (.goto 9, 3) := by decide +kernel
theorem d_Mo_run_103 : decode b_Mo_run 103 = .ok (.aload_n 0, 1) := by decide +kernel
theorem d_Mo_run_104 : decode b_Mo_run 104 = .ok (.getfield 20, 3) := by decide +kernel
theorem d_Mo_run_107 : decode b_Mo_run 107 = .ok (.iload_n 1, 1) := by decide +kernel
theorem d_Mo_run_108 : decode b_Mo_run 108 = .ok (.iaload, 1) := by decide +kernel
theorem d_Mo_run_109 : decode b_Mo_run 109 = .ok (.isub, 1) := by decide +kernel
theorem d_Mo_run_110 : decode b_Mo_run 110 = .ok (.istore 5, 2) := by decide +kernel
theorem d_Mo_run_112 : decode b_Mo_run 112 = .ok (.iload 4, 2) := by decide +kernel
theorem d_Mo_run_114 : decode b_Mo_run 114 = .ok (.istore 6, 2) := by decide +kernel
theorem d_Mo_run_116 : decode b_Mo_run 116 = .ok (.iload 6, 2) := by decide +kernel
theorem d_Mo_run_118 : decode b_Mo_run 118 = .ok (.iload 5, 2) := by decide +kernel
theorem d_Mo_run_120 : decode b_Mo_run 120 = .ok (.if_icmp .gt 51, 3) := by decide +kernel
theorem d_Mo_run_123 : decode b_Mo_run 123 = .ok (.iload_n 2, 1) := by decide +kernel
theorem d_Mo_run_124 : decode b_Mo_run 124 = .ok (.ifCond .eq 47, 3) := by decide +kernel
theorem d_Mo_run_127 : decode b_Mo_run 127 = .ok (.iload_n 3, 1) := by decide +kernel
theorem d_Mo_run_128 : decode b_Mo_run 128 = .ok (.ifCond .ne 43, 3) := by decide +kernel
theorem d_Mo_run_131 : decode b_Mo_run 131 = .ok (.aload_n 0, 1) := by decide +kernel
theorem d_Mo_run_132 : decode b_Mo_run 132 = .ok (.iload_n 1, 1) := by decide +kernel
theorem d_Mo_run_133 : decode b_Mo_run 133 = .ok (.iload 6, 2) := by decide +kernel
theorem d_Mo_run_135 : decode b_Mo_run 135 = .ok (.invokevirtual 113, 3) := by decide +kernel
theorem d_Mo_run_138 : decode b_Mo_run 138 = .ok (.iconst 2, 1) := by decide +kernel
theorem d_Mo_run_139 : decode b_Mo_run 139 = .ok (.irem, 1) := by decide +kernel
theorem d_Mo_run_140 : decode b_Mo_run 140 = .ok (.iconst 1, 1) := by decide +kernel
theorem d_Mo_run_141 : decode b_Mo_run 141 = .ok (.if_icmp .ne 24, 3) := by decide +kernel
theorem d_Mo_run_144 : decode b_Mo_run 144 = .ok (.aload_n 0, 1) := by decide +kernel
theorem d_Mo_run_145 : decode b_Mo_run 145 = .ok (.getfield 62, 3) := by decide +kernel
theorem d_Mo_run_148 : decode b_Mo_run 148 = .ok (.aload_n 0, 1) := by decide +kernel
theorem d_Mo_run_149 : decode b_Mo_run 149 = .ok (.getfield 110, 3) := by decide +kernel
theorem d_Mo_run_152 : decode b_Mo_run 152 = .ok (.iload 6, 2) := by decide +kernel
theorem d_Mo_run_154 : decode b_Mo_run 154 = .ok (.iastore, 1) := by decide +kernel
theorem d_Mo_run_155 : decode b_Mo_run 155 = .ok (.aload_n 0, 1) := by decide +kernel
theorem d_Mo_run_156 : decode b_Mo_run 156 = .ok (.dup, 1) := by decide +kernel
theorem d_Mo_run_157 : decode b_Mo_run 157 = .ok (.getfield 110, 3) := by decide +kernel
theorem d_Mo_run_160 : decode b_Mo_run 160 = .ok (.iconst 1, 1) := by decide +kernel
theorem d_Mo_run_161 : decode b_Mo_run 161 = .ok (.iadd, 1) := by decide +kernel
theorem d_Mo_run_162 : decode b_Mo_run 162 = .ok (.putfield 110, 3) := by decide +kernel
theorem d_Mo_run_165 : decode b_Mo_run 165 = .ok (.iinc 6 1, 3) := by decide +kernel
theorem d_Mo_run_168 : decode b_Mo_run 168 = .ok (.goto (-52), 3) := by decide +kernel
theorem d_Mo_run_171 : decode b_Mo_run 171 = .ok (.aload_n 0, 1) := by decide +kernel
theorem d_Mo_run_172 : decode b_Mo_run 172 = .ok (.getfield 110, 3) := by decide +kernel
theorem d_Mo_run_175 : decode b_Mo_run 175 = .ok (.ireturn, 1) := by decide +kernel
theorem d_Mo_digitOf_0 : decode b_Mo_digitOf 0 = .ok (.aload_n 0, 1) := by decide +kernel
theorem d_Mo_digitOf_1 : decode b_Mo_digitOf 1 = .ok (.iload_n 1, 1) := by decide +kernel
theorem d_Mo_digitOf_2 : decode b_Mo_digitOf 2 = .ok (.invokevirtual 103, 3) := by decide +kernel
theorem d_Mo_digitOf_5 : decode b_Mo_digitOf 5 = .ok (.istore_n 3, 1) := by decide +kernel
theorem d_Mo_digitOf_6 : decode b_Mo_digitOf 6 = .ok (.iload_n 3, 1) := by decide +kernel
theorem d_Mo_digitOf_7 : decode b_Mo_digitOf 7 = .ok (.aload_n 0, 1) := by decide +kernel
theorem d_Mo_digitOf_8 : decode b_Mo_digitOf 8 = .ok (.getfield 97, 3) := by decide +kernel
theorem d_Mo_digitOf_11 : decode b_Mo_digitOf 11 = .ok (.if_icmp .ge 14, 3) := by decide +kernel
theorem d_Mo_digitOf_14 : decode b_Mo_digitOf 14 = .ok (.aload_n 0, 1) := by decide +kernel
theorem d_Mo_digitOf_15 : decode b_Mo_digitOf 15 = .ok (.getfield 53, 3) := by decide +kernel
theorem d_Mo_digitOf_18 : decode b_Mo_digitOf 18 = .ok (.iload_n 3, 1) := by decide +kernel
theorem d_Mo_digitOf_19 : decode b_Mo_digitOf 19 = .ok (.iaload, 1) := by decide +kernel
theorem d_Mo_digitOf_20 : decode b_Mo_digitOf 20 = .ok (.iload_n 2, 1) := by decide +kernel
theorem d_Mo_digitOf_21 : decode b_Mo_digitOf 21 = .ok (.ishr, 1) := by decide +kernel
theorem d_Mo_digitOf_22 : decode b_Mo_digitOf 22 = .ok (.iconst 1, 1) := by decide +kernel
theorem d_Mo_digitOf_23 : decode b_Mo_digitOf 23 = .ok (.iand, 1) := by decide +kernel
theorem d_Mo_digitOf_24 : decode b_Mo_digitOf 24 = .ok (.ireturn, 1) := by decide +kernel
theorem d_Mo_digitOf_25 : decode b_Mo_digitOf 25 = .ok (.iconst 0, 1) := by decide +kernel
theorem d_Mo_digitOf_26 : decode b_Mo_digitOf 26 = .ok (.istore 4, 2) := by decide +kernel
theorem d_Mo_digitOf_28 : decode b_Mo_digitOf 28 = .ok (.iconst 0, 1) := by decide +kernel
theorem d_Mo_digitOf_29 : decode b_Mo_digitOf 29 = .ok (.istore 5, 2) := by decide +kernel
theorem d_Mo_digitOf_31 : decode b_Mo_digitOf 31 = .ok (.iload 5, 2) := by decide +kernel
theorem d_Mo_digitOf_33 : decode b_Mo_digitOf 33 = .ok (.aload_n 0, 1) := by decide +kernel
theorem d_Mo_digitOf_34 : decode b_Mo_digitOf 34 = .ok (.getfield 80, 3) := by decide +kernel
theorem d_Mo_digitOf_37 : decode b_Mo_digitOf 37 = .ok (.if_icmp .ge 89, 3) := by decide +kernel
theorem d_Mo_digitOf_40 : decode b_Mo_digitOf 40 = .ok (.iconst 0, 1) := by decide +kernel
theorem d_Mo_digitOf_41 : decode b_Mo_digitOf 41 = .ok (.istore 6, 2) := by decide +kernel
theorem d_Mo_digitOf_43 : decode b_Mo_digitOf 43 = .ok (.iload 6, 2) := by decide +kernel
theorem d_Mo_digitOf_45 : decode b_Mo_digitOf 45 = .ok (.aload_n 0, 1) := by decide +kernel
theorem d_Mo_digitOf_46 : decode b_Mo_digitOf 46 = .ok (.getfield 35, 3) := by decide +kernel
theorem d_Mo_digitOf_49 : decode b_Mo_digitOf 49 = .ok (.iload 5, 2) := by decide +kernel
theorem d_Mo_digitOf_51 : decode b_Mo_digitOf 51 = .ok (.iaload, 1) := by decide +kernel
theorem d_Mo_digitOf_52 : decode b_Mo_digitOf 52 = .ok (.if_icmp .gt 68, 3) := by decide +kernel
theorem d_Mo_digitOf_55 : decode b_Mo_digitOf 55 = .ok (.aload_n 0, 1) := by decide +kernel
theorem d_Mo_digitOf_56 : decode b_Mo_digitOf 56 = .ok (.getfield 32, 3) := by decide +kernel
theorem d_Mo_digitOf_59 : decode b_Mo_digitOf 59 = .ok (.iload 5, 2) := by decide +kernel
theorem d_Mo_digitOf_61 : decode b_Mo_digitOf 61 = .ok (.iaload, 1) := by decide +kernel
theorem d_Mo_digitOf_62 : decode b_Mo_digitOf 62 = .ok (.iload_n 1, 1) := by decide +kernel
theorem d_Mo_digitOf_63 : decode b_Mo_digitOf 63 = .ok (.if_icmp .ne 57, 3) := by decide +kernel
theorem d_Mo_digitOf_66 : decode b_Mo_digitOf 66 = .ok (.aload_n 0, 1) := by decide +kernel
theorem d_Mo_digitOf_67 : decode b_Mo_digitOf 67 = .ok (.getfield 41, 3) := by decide +kernel
theorem d_Mo_digitOf_70 : decode b_Mo_digitOf 70 = .ok (.bipush 13, 2) := by decide +kernel
theorem d_Mo_digitOf_72 : decode b_Mo_digitOf 72 = .ok (.iload 5, 2) := by decide +kernel
theorem d_Mo_digitOf_74 : decode b_Mo_digitOf 74 = .ok (.imul, 1) := by decide +kernel
theorem d_Mo_digitOf_75 : decode b_Mo_digitOf 75 = .ok (.iload 6, 2) := by decide +kernel
theorem d_Mo_digitOf_77 : decode b_Mo_digitOf 77 = .ok (.iadd, 1) := by decide +kernel
theorem d_Mo_digitOf_78 : decode b_Mo_digitOf 78 = .ok (.iaload, 1) := by decide +kernel
theorem d_Mo_digitOf_79 : decode b_Mo_digitOf 79 = .ok (.iload 4, 2) := by decide +kernel
theorem d_Mo_digitOf_81 : decode b_Mo_digitOf 81 = .ok (.if_icmp .le 33, 3) := by decide +kernel
theorem d_Mo_digitOf_84 : decode b_Mo_digitOf 84 = .ok (.aload_n 0, 1) := by decide +kernel
theorem d_Mo_digitOf_85 : decode b_Mo_digitOf 85 = .ok (.iload 5, 2) := by decide +kernel
theorem d_Mo_digitOf_87 : decode b_Mo_digitOf 87 = .ok (.iload_n 2, 1) := by decide +kernel
theorem d_Mo_digitOf_88 : decode b_Mo_digitOf 88 = .ok (.iconst 1, 1) := by decide +kernel
theorem d_Mo_digitOf_89 : decode b_Mo_digitOf 89 = .ok (.iadd, 1) := by decide +kernel
theorem d_Mo_digitOf_90 : decode b_Mo_digitOf 90 = .ok (.iload 6, 2) := by decide +kernel
theorem d_Mo_digitOf_92 : decode b_Mo_digitOf 92 = .ok (.isub, 1) := by decide +kernel
theorem d_Mo_digitOf_93 : decode b_Mo_digitOf 93 = .ok (.invokevirtual 107, 3) := by decide +kernel
theorem d_Mo_digitOf_96 : decode b_Mo_digitOf 96 = .ok (.ifCond .eq 18, 3) := by decide +kernel
theorem d_Mo_digitOf_99 : decode b_Mo_digitOf 99 = .ok (.aload_n 0, 1) := by decide +kernel
theorem d_Mo_digitOf_100 : decode b_Mo_digitOf 100 = .ok (.getfield 41, 3) := by decide +kernel
theorem d_Mo_digitOf_103 : decode b_Mo_digitOf 103 = .ok (.bipush 13, 2) := by decide +kernel
theorem d_Mo_digitOf_105 : decode b_Mo_digitOf 105 = .ok (.iload 5, 2) := by decide +kernel
theorem d_Mo_digitOf_107 : decode b_Mo_digitOf 107 = .ok (.imul, 1) := by decide +kernel
theorem d_Mo_digitOf_108 : decode b_Mo_digitOf 108 = .ok (.iload 6, 2) := by decide +kernel
theorem d_Mo_digitOf_110 : decode b_Mo_digitOf 110 = .ok (.iadd, 1) := by decide +kernel
theorem d_Mo_digitOf_111 : decode b_Mo_digitOf 111 = .ok (.iaload, 1) := by decide +kernel
theorem d_Mo_digitOf_112 : decode b_Mo_digitOf 112 = .ok (.istore 4, 2) := by decide +kernel
theorem d_Mo_digitOf_114 : decode b_Mo_digitOf 114 = .ok (.iinc 6 1, 3) := by decide +kernel
theorem d_Mo_digitOf_117 : decode b_Mo_digitOf 117 = .ok (.goto (-74), 3) := by decide +kernel
theorem d_Mo_digitOf_120 : decode b_Mo_digitOf 120 = .ok (.iinc 5 1, 3) := by decide +kernel
theorem d_Mo_digitOf_123 : decode b_Mo_digitOf 123 = .ok (.goto (-92), 3) := by decide +kernel
theorem d_Mo_digitOf_126 : decode b_Mo_digitOf 126 = .ok (.iload 4, 2) := by decide +kernel
theorem d_Mo_digitOf_128 : decode b_Mo_digitOf 128 = .ok (.ireturn, 1) := by decide +kernel
theorem d_Mo_stands_0 : decode b_Mo_stands 0 = .ok (.iload_n 2, 1) := by decide +kernel
theorem d_Mo_stands_1 : decode b_Mo_stands 1 = .ok (.ifCond .lt 24, 3) := by decide +kernel
theorem d_Mo_stands_4 : decode b_Mo_stands 4 = .ok (.iload_n 2, 1) := by decide +kernel
theorem d_Mo_stands_5 : decode b_Mo_stands 5 = .ok (.aload_n 0, 1) := by decide +kernel
theorem d_Mo_stands_6 : decode b_Mo_stands 6 = .ok (.getfield 35, 3) := by decide +kernel
theorem d_Mo_stands_9 : decode b_Mo_stands 9 = .ok (.iload_n 1, 1) := by decide +kernel
theorem d_Mo_stands_10 : decode b_Mo_stands 10 = .ok (.iaload, 1) := by decide +kernel
theorem d_Mo_stands_11 : decode b_Mo_stands 11 = .ok (.iadd, 1) := by decide +kernel
theorem d_Mo_stands_12 : decode b_Mo_stands 12 = .ok (.aload_n 0, 1) := by decide +kernel
theorem d_Mo_stands_13 : decode b_Mo_stands 13 = .ok (.getfield 94, 3) := by decide +kernel
theorem d_Mo_stands_16 : decode b_Mo_stands 16 = .ok (.iconst 2, 1) := by decide +kernel
theorem d_Mo_stands_17 : decode b_Mo_stands 17 = .ok (.iadd, 1) := by decide +kernel
theorem d_Mo_stands_18 : decode b_Mo_stands 18 = .ok (.if_icmp .gt 7, 3) := by decide +kernel
theorem d_Mo_stands_21 : decode b_Mo_stands 21 = .ok (.iconst 1, 1) := by decide +kernel
theorem d_Mo_stands_22 : decode b_Mo_stands 22 = .ok (.goto 4, 3) := by decide +kernel
theorem d_Mo_stands_25 : decode b_Mo_stands 25 = .ok (.iconst 0, 1) := by decide +kernel
theorem d_Mo_stands_26 : decode b_Mo_stands 26 = .ok (.istore_n 3, 1) := by decide +kernel
theorem d_Mo_stands_27 : decode b_Mo_stands 27 = .ok (.iconst 0, 1) := by decide +kernel
theorem d_Mo_stands_28 : decode b_Mo_stands 28 = .ok (.istore 4, 2) := by decide +kernel
theorem d_Mo_stands_30 : decode b_Mo_stands 30 = .ok (.iload 4, 2) := by decide +kernel
theorem d_Mo_stands_32 : decode b_Mo_stands 32 = .ok (.aload_n 0, 1) := by decide +kernel
theorem d_Mo_stands_33 : decode b_Mo_stands 33 = .ok (.getfield 35, 3) := by decide +kernel
theorem d_Mo_stands_36 : decode b_Mo_stands 36 = .ok (.iload_n 1, 1) := by decide +kernel
theorem d_Mo_stands_37 : decode b_Mo_stands 37 = .ok (.iaload, 1) := by decide +kernel
theorem d_Mo_stands_38 : decode b_Mo_stands 38 = .ok (.if_icmp .ge 43, 3) := by decide +kernel
theorem d_Mo_stands_41 : decode b_Mo_stands 41 = .ok (.iload_n 3, 1) := by decide +kernel
theorem d_Mo_stands_42 : decode b_Mo_stands 42 = .ok (.ifCond .eq 39, 3) := by decide +kernel
theorem d_Mo_stands_45 : decode b_Mo_stands 45 = .ok (.aload_n 0, 1) := by decide +kernel
theorem d_Mo_stands_46 : decode b_Mo_stands 46 = .ok (.getfield 38, 3) := by decide +kernel
theorem d_Mo_stands_49 : decode b_Mo_stands 49 = .ok (.bipush 12, 2) := by decide +kernel
theorem d_Mo_stands_51 : decode b_Mo_stands 51 = .ok (.iload_n 1, 1) := by decide +kernel
theorem d_Mo_stands_52 : decode b_Mo_stands 52 = .ok (.imul, 1) := by decide +kernel
theorem d_Mo_stands_53 : decode b_Mo_stands 53 = .ok (.iload 4, 2) := by decide +kernel
theorem d_Mo_stands_55 : decode b_Mo_stands 55 = .ok (.iadd, 1) := by decide +kernel
theorem d_Mo_stands_56 : decode b_Mo_stands 56 = .ok (.iaload, 1) := by decide +kernel
theorem d_Mo_stands_57 : decode b_Mo_stands 57 = .ok (.aload_n 0, 1) := by decide +kernel
theorem d_Mo_stands_58 : decode b_Mo_stands 58 = .ok (.getfield 59, 3) := by decide +kernel
theorem d_Mo_stands_61 : decode b_Mo_stands 61 = .ok (.iload_n 2, 1) := by decide +kernel
theorem d_Mo_stands_62 : decode b_Mo_stands 62 = .ok (.iload 4, 2) := by decide +kernel
theorem d_Mo_stands_64 : decode b_Mo_stands 64 = .ok (.iadd, 1) := by decide +kernel
theorem d_Mo_stands_65 : decode b_Mo_stands 65 = .ok (.iaload, 1) := by decide +kernel
theorem d_Mo_stands_66 : decode b_Mo_stands 66 = .ok (.if_icmp .ne 7, 3) := by decide +kernel
theorem d_Mo_stands_69 : decode b_Mo_stands 69 = .ok (.iconst 1, 1) := by decide +kernel
theorem d_Mo_stands_70 : decode b_Mo_stands 70 = .ok (.goto 4, 3) := by decide +kernel
theorem d_Mo_stands_73 : decode b_Mo_stands 73 = .ok (.iconst 0, 1) := by decide +kernel
theorem d_Mo_stands_74 : decode b_Mo_stands 74 = .ok (.istore_n 3, 1) := by decide +kernel
theorem d_Mo_stands_75 : decode b_Mo_stands 75 = .ok (.iinc 4 1, 3) := by decide +kernel
theorem d_Mo_stands_78 : decode b_Mo_stands 78 = .ok (.goto (-48), 3) := by decide +kernel
theorem d_Mo_stands_81 : decode b_Mo_stands 81 = .ok (.iload_n 3, 1) := by decide +kernel
theorem d_Mo_stands_82 : decode b_Mo_stands 82 = .ok (.ireturn, 1) := by decide +kernel
theorem d_Mo_at_0 : decode b_Mo_at 0 = .ok (.iload_n 1, 1) := by decide +kernel
theorem d_Mo_at_1 : decode b_Mo_at 1 = .ok (.ifCond .lt 11, 3) := by decide +kernel
theorem d_Mo_at_4 : decode b_Mo_at 4 = .ok (.iload_n 1, 1) := by decide +kernel
theorem d_Mo_at_5 : decode b_Mo_at 5 = .ok (.aload_n 0, 1) := by decide +kernel
theorem d_Mo_at_6 : decode b_Mo_at 6 = .ok (.getfield 110, 3) := by decide +kernel
theorem d_Mo_at_9 : decode b_Mo_at 9 = .ok (.if_icmp .lt 7, 3) := by decide +kernel
theorem d_Mo_at_12 : decode b_Mo_at 12 = .ok (.iconst (-1), 1) := by decide +kernel
theorem d_Mo_at_13 : decode b_Mo_at 13 = .ok (.goto 9, 3) := by decide +kernel
theorem d_Mo_at_16 : decode b_Mo_at 16 = .ok (.aload_n 0, 1) := by decide +kernel
theorem d_Mo_at_17 : decode b_Mo_at 17 = .ok (.getfield 62, 3) := by decide +kernel
theorem d_Mo_at_20 : decode b_Mo_at 20 = .ok (.iload_n 1, 1) := by decide +kernel
theorem d_Mo_at_21 : decode b_Mo_at 21 = .ok (.iaload, 1) := by decide +kernel
theorem d_Mo_at_22 : decode b_Mo_at 22 = .ok (.ireturn, 1) := by decide +kernel
theorem d_Mo_digit_0 : decode b_Mo_digit 0 = .ok (.aload_n 0, 1) := by decide +kernel
theorem d_Mo_digit_1 : decode b_Mo_digit 1 = .ok (.iload_n 1, 1) := by decide +kernel
theorem d_Mo_digit_2 : decode b_Mo_digit 2 = .ok (.invokevirtual 69, 3) := by decide +kernel
theorem d_Mo_digit_5 : decode b_Mo_digit 5 = .ok (.ifCond .eq 15, 3) := by decide +kernel
theorem d_Mo_digit_8 : decode b_Mo_digit 8 = .ok (.iload_n 2, 1) := by decide +kernel
theorem d_Mo_digit_9 : decode b_Mo_digit 9 = .ok (.ifCond .lt 11, 3) := by decide +kernel
theorem d_Mo_digit_12 : decode b_Mo_digit 12 = .ok (.iload_n 2, 1) := by decide +kernel
theorem d_Mo_digit_13 : decode b_Mo_digit 13 = .ok (.aload_n 0, 1) := by decide +kernel
theorem d_Mo_digit_14 : decode b_Mo_digit 14 = .ok (.getfield 94, 3) := by decide +kernel
theorem d_Mo_digit_17 : decode b_Mo_digit 17 = .ok (.if_icmp .le 5, 3) := by decide +kernel
theorem d_Mo_digit_20 : decode b_Mo_digit 20 = .ok (.iconst (-1), 1) := by decide +kernel
theorem d_Mo_digit_21 : decode b_Mo_digit 21 = .ok (.ireturn, 1) := by decide +kernel
theorem d_Mo_digit_22 : decode b_Mo_digit 22 = .ok (.aload_n 0, 1) := by decide +kernel
theorem d_Mo_digit_23 : decode b_Mo_digit 23 = .ok (.iload_n 1, 1) := by decide +kernel
theorem d_Mo_digit_24 : decode b_Mo_digit 24 = .ok (.invokevirtual 100, 3) := by decide +kernel
theorem d_Mo_digit_27 : decode b_Mo_digit 27 = .ok (.ifCond .eq 12, 3) := by decide +kernel
theorem d_Mo_digit_30 : decode b_Mo_digit 30 = .ok (.aload_n 0, 1) := by decide +kernel
theorem d_Mo_digit_31 : decode b_Mo_digit 31 = .ok (.iload_n 1, 1) := by decide +kernel
theorem d_Mo_digit_32 : decode b_Mo_digit 32 = .ok (.iload_n 2, 1) := by decide +kernel
theorem d_Mo_digit_33 : decode b_Mo_digit 33 = .ok (.invokevirtual 113, 3) := by decide +kernel
theorem d_Mo_digit_36 : decode b_Mo_digit 36 = .ok (.goto 4, 3) := by decide +kernel
theorem d_Mo_digit_39 : decode b_Mo_digit 39 = .ok (.iconst 0, 1) := by decide +kernel
theorem d_Mo_digit_40 : decode b_Mo_digit 40 = .ok (.ireturn, 1) := by decide +kernel
theorem d_Mo_patterns_0 : decode b_Mo_patterns 0 = .ok (.aload_n 0, 1) := by decide +kernel
theorem d_Mo_patterns_1 : decode b_Mo_patterns 1 = .ok (.getfield 80, 3) := by decide +kernel
theorem d_Mo_patterns_4 : decode b_Mo_patterns 4 = .ok (.ireturn, 1) := by decide +kernel
theorem d_Mo_exceptions_0 : decode b_Mo_exceptions 0 = .ok (.aload_n 0, 1) := by decide +kernel
theorem d_Mo_exceptions_1 : decode b_Mo_exceptions 1 = .ok (.getfield 97, 3) := by decide +kernel
theorem d_Mo_exceptions_4 : decode b_Mo_exceptions 4 = .ok (.ireturn, 1) := by decide +kernel
