theorem d_HR_init_0 : decode b_HR_init 0 = .ok (.aload_n 0, 1) := by decide +kernel
theorem d_HR_init_1 : decode b_HR_init 1 = .ok (.invokespecial 1, 3) := by decide +kernel
theorem d_HR_init_4 : decode b_HR_init 4 = .ok (.aload_n 0, 1) := by decide +kernel
theorem d_HR_init_5 : decode b_HR_init 5 = .ok (.new 7, 3) := by decide +kernel
theorem d_HR_init_8 : decode b_HR_init 8 = .ok (.dup, 1) := by decide +kernel
theorem d_HR_init_9 : decode b_HR_init 9 = .ok (.invokespecial 9, 3) := by decide +kernel
theorem d_HR_init_12 : decode b_HR_init 12 = .ok (.putfield 10, 3) := by decide +kernel
theorem d_HR_init_15 : decode b_HR_init 15 = .ok (.aload_n 0, 1) := by decide +kernel
theorem d_HR_init_16 : decode b_HR_init 16 = .ok (.new 7, 3) := by decide +kernel
theorem d_HR_init_19 : decode b_HR_init 19 = .ok (.dup, 1) := by decide +kernel
theorem d_HR_init_20 : decode b_HR_init 20 = .ok (.invokespecial 9, 3) := by decide +kernel
theorem d_HR_init_23 : decode b_HR_init 23 = .ok (.putfield 16, 3) := by decide +kernel
theorem d_HR_init_26 : decode b_HR_init 26 = .ok (.aload_n 0, 1) := by decide +kernel
theorem d_HR_init_27 : decode b_HR_init 27 = .ok (.new 7, 3) := by decide +kernel
theorem d_HR_init_30 : decode b_HR_init 30 = .ok (.dup, 1) := by decide +kernel
theorem d_HR_init_31 : decode b_HR_init 31 = .ok (.invokespecial 9, 3) := by decide +kernel
theorem d_HR_init_34 : decode b_HR_init 34 = .ok (.putfield 19, 3) := by decide +kernel
theorem d_HR_init_37 : decode b_HR_init 37 = .ok (.aload_n 0, 1) := by decide +kernel
theorem d_HR_init_38 : decode b_HR_init 38 = .ok (.iconst 0, 1) := by decide +kernel
theorem d_HR_init_39 : decode b_HR_init 39 = .ok (.putfield 22, 3) := by decide +kernel
theorem d_HR_init_42 : decode b_HR_init 42 = .ok (.aload_n 0, 1) := by decide +kernel
theorem d_HR_init_43 : decode b_HR_init 43 = .ok (.bipush 12, 2) := by decide +kernel
theorem d_HR_init_45 : decode b_HR_init 45 = .ok (.newarray .int, 2) := by decide +kernel
theorem d_HR_init_47 : decode b_HR_init 47 = .ok (.putfield 26, 3) := by decide +kernel
theorem d_HR_init_50 : decode b_HR_init 50 = .ok (.aload_n 0, 1) := by decide +kernel
theorem d_HR_init_51 : decode b_HR_init 51 = .ok (.bipush 13, 2) := by decide +kernel
theorem d_HR_init_53 : decode b_HR_init 53 = .ok (.newarray .int, 2) := by decide +kernel
theorem d_HR_init_55 : decode b_HR_init 55 = .ok (.putfield 30, 3) := by decide +kernel
theorem d_HR_init_58 : decode b_HR_init 58 = .ok (.aload_n 0, 1) := by decide +kernel
theorem d_HR_init_59 : decode b_HR_init 59 = .ok (.iconst 0, 1) := by decide +kernel
theorem d_HR_init_60 : decode b_HR_init 60 = .ok (.putfield 33, 3) := by decide +kernel
theorem d_HR_init_63 : decode b_HR_init 63 = .ok (.aload_n 0, 1) := by decide +kernel
theorem d_HR_init_64 : decode b_HR_init 64 = .ok (.bipush 30, 2) := by decide +kernel
theorem d_HR_init_66 : decode b_HR_init 66 = .ok (.newarray .int, 2) := by decide +kernel
theorem d_HR_init_68 : decode b_HR_init 68 = .ok (.putfield 36, 3) := by decide +kernel
theorem d_HR_init_71 : decode b_HR_init 71 = .ok (.aload_n 0, 1) := by decide +kernel
theorem d_HR_init_72 : decode b_HR_init 72 = .ok (.iconst 0, 1) := by decide +kernel
theorem d_HR_init_73 : decode b_HR_init 73 = .ok (.putfield 39, 3) := by decide +kernel
theorem d_HR_init_76 : decode b_HR_init 76 = .ok (.aload_n 0, 1) := by decide +kernel
theorem d_HR_init_77 : decode b_HR_init 77 = .ok (.bipush 32, 2) := by decide +kernel
theorem d_HR_init_79 : decode b_HR_init 79 = .ok (.newarray .int, 2) := by decide +kernel
theorem d_HR_init_81 : decode b_HR_init 81 = .ok (.putfield 42, 3) := by decide +kernel
theorem d_HR_init_84 : decode b_HR_init 84 = .ok (.aload_n 0, 1) := by decide +kernel
theorem d_HR_init_85 : decode b_HR_init 85 = .ok (.bipush 33, 2) := by decide +kernel
theorem d_HR_init_87 : decode b_HR_init 87 = .ok (.newarray .int, 2) := by decide +kernel
theorem d_HR_init_89 : decode b_HR_init 89 = .ok (.putfield 45, 3) := by decide +kernel
theorem d_HR_init_92 : decode b_HR_init 92 = .ok (.aload_n 0, 1) := by decide +kernel
theorem d_HR_init_93 : decode b_HR_init 93 = .ok (.bipush 30, 2) := by decide +kernel
theorem d_HR_init_95 : decode b_HR_init 95 = .ok (.newarray .int, 2) := by decide +kernel
theorem d_HR_init_97 : decode b_HR_init 97 = .ok (.putfield 48, 3) := by decide +kernel
theorem d_HR_init_100 : decode b_HR_init 100 = .ok (.aload_n 0, 1) := by decide +kernel
theorem d_HR_init_101 : decode b_HR_init 101 = .ok (.iconst 0, 1) := by decide +kernel
theorem d_HR_init_102 : decode b_HR_init 102 = .ok (.putfield 51, 3) := by decide +kernel
theorem d_HR_init_105 : decode b_HR_init 105 = .ok (.return_, 1) := by decide +kernel
theorem d_HR_language_0 : decode b_HR_language 0 = .ok (.aload_n 0, 1) := by decide +kernel
theorem d_HR_language_1 : decode b_HR_language 1 = .ok (.getfield 10, 3) := by decide +kernel
theorem d_HR_language_4 : decode b_HR_language 4 = .ok (.invokevirtual 54, 3) := by decide +kernel
theorem d_HR_language_7 : decode b_HR_language 7 = .ok (.iconst 4, 1) := by decide +kernel
theorem d_HR_language_8 : decode b_HR_language 8 = .ok (.if_icmp .lt 6, 3) := by decide +kernel
theorem d_HR_language_11 : decode b_HR_language 11 = .ok (.bipush (-2), 2) := by decide +kernel
theorem d_HR_language_13 : decode b_HR_language 13 = .ok (.ireturn, 1) := by decide +kernel
theorem d_HR_language_14 : decode b_HR_language 14 = .ok (.aload_n 0, 1) := by decide +kernel
theorem d_HR_language_15 : decode b_HR_language 15 = .ok (.getfield 10, 3) := by decide +kernel
theorem d_HR_language_18 : decode b_HR_language 18 = .ok (.new 58, 3) := by decide +kernel
theorem d_HR_language_21 : decode b_HR_language 21 = .ok (.dup, 1) := by decide +kernel
theorem d_HR_language_22 : decode b_HR_language 22 = .ok (.invokespecial 60, 3) := by decide +kernel
theorem d_HR_language_25 : decode b_HR_language 25 = .ok (.invokevirtual 61, 3) := by decide +kernel
theorem d_HR_language_28 : decode b_HR_language 28 = .ok (.pop, 1) := by decide +kernel
theorem d_HR_language_29 : decode b_HR_language 29 = .ok (.aload_n 0, 1) := by decide +kernel
theorem d_HR_language_30 : decode b_HR_language 30 = .ok (.getfield 10, 3) := by decide +kernel
theorem d_HR_language_33 : decode b_HR_language 33 = .ok (.invokevirtual 54, 3) := by decide +kernel
theorem d_HR_language_36 : decode b_HR_language 36 = .ok (.iconst 1, 1) := by decide +kernel
theorem d_HR_language_37 : decode b_HR_language 37 = .ok (.isub, 1) := by decide +kernel
theorem d_HR_language_38 : decode b_HR_language 38 = .ok (.ireturn, 1) := by decide +kernel
theorem d_La_init_0 : decode b_La_init 0 = .ok (.aload_n 0, 1) := by decide +kernel
theorem d_La_init_1 : decode b_La_init 1 = .ok (.invokespecial 3, 3) := by decide +kernel
theorem d_La_init_4 : decode b_La_init 4 = .ok (.aload_n 0, 1) := by decide +kernel
theorem d_La_init_5 : decode b_La_init 5 = .ok (.sipush 256, 3) := by decide +kernel
theorem d_La_init_8 : decode b_La_init 8 = .ok (.newarray .int, 2) := by decide +kernel
theorem d_La_init_10 : decode b_La_init 10 = .ok (.putfield 9, 3) := by decide +kernel
theorem d_La_init_13 : decode b_La_init 13 = .ok (.aload_n 0, 1) := by decide +kernel
theorem d_La_init_14 : decode b_La_init 14 = .ok (.sipush 256, 3) := by decide +kernel
theorem d_La_init_17 : decode b_La_init 17 = .ok (.newarray .boolean, 2) := by decide +kernel
theorem d_La_init_19 : decode b_La_init 19 = .ok (.putfield 15, 3) := by decide +kernel
theorem d_La_init_22 : decode b_La_init 22 = .ok (.aload_n 0, 1) := by decide +kernel
theorem d_La_init_23 : decode b_La_init 23 = .ok (.iconst 2, 1) := by decide +kernel
theorem d_La_init_24 : decode b_La_init 24 = .ok (.putfield 19, 3) := by decide +kernel
theorem d_La_init_27 : decode b_La_init 27 = .ok (.aload_n 0, 1) := by decide +kernel
theorem d_La_init_28 : decode b_La_init 28 = .ok (.iconst 3, 1) := by decide +kernel
theorem d_La_init_29 : decode b_La_init 29 = .ok (.putfield 23, 3) := by decide +kernel
theorem d_La_init_32 : decode b_La_init 32 = .ok (.aload_n 0, 1) := by decide +kernel
theorem d_La_init_33 : decode b_La_init 33 = .ok (.iconst 0, 1) := by decide +kernel
theorem d_La_init_34 : decode b_La_init 34 = .ok (.putfield 26, 3) := by decide +kernel
theorem d_La_init_37 : decode b_La_init 37 = .ok (.return_, 1) := by decide +kernel
theorem d_HR_code_0 : decode b_HR_code 0 = .ok (.aload_n 0, 1) := by decide +kernel
theorem d_HR_code_1 : decode b_HR_code 1 = .ok (.iload_n 1, 1) := by decide +kernel
theorem d_HR_code_2 : decode b_HR_code 2 = .ok (.invokevirtual 65, 3) := by decide +kernel
theorem d_HR_code_5 : decode b_HR_code 5 = .ok (.ifCond .eq 17, 3) := by decide +kernel
theorem d_HR_code_8 : decode b_HR_code 8 = .ok (.iload_n 2, 1) := by decide +kernel
theorem d_HR_code_9 : decode b_HR_code 9 = .ok (.invokestatic 69, 3) := by decide +kernel
theorem d_HR_code_12 : decode b_HR_code 12 = .ok (.ifCond .eq 10, 3) := by decide +kernel
theorem d_HR_code_15 : decode b_HR_code 15 = .ok (.iload_n 3, 1) := by decide +kernel
theorem d_HR_code_16 : decode b_HR_code 16 = .ok (.invokestatic 72, 3) := by decide +kernel
theorem d_HR_code_19 : decode b_HR_code 19 = .ok (.ifCond .ne 5, 3) := by decide +kernel
theorem d_HR_code_22 : decode b_HR_code 22 = .ok (.iconst (-1), 1) := by decide +kernel
theorem d_HR_code_23 : decode b_HR_code 23 = .ok (.ireturn, 1) := by decide +kernel
theorem d_HR_code_24 : decode b_HR_code 24 = .ok (.aload_n 0, 1) := by decide +kernel
theorem d_HR_code_25 : decode b_HR_code 25 = .ok (.getfield 10, 3) := by decide +kernel
theorem d_HR_code_28 : decode b_HR_code 28 = .ok (.iload_n 1, 1) := by decide +kernel
theorem d_HR_code_29 : decode b_HR_code 29 = .ok (.invokevirtual 75, 3) := by decide +kernel
theorem d_HR_code_32 : decode b_HR_code 32 = .ok (.checkcast 58, 3) := by decide +kernel
theorem d_HR_code_35 : decode b_HR_code 35 = .ok (.astore 5, 2) := by decide +kernel
theorem d_HR_code_37 : decode b_HR_code 37 = .ok (.aload 5, 2) := by decide +kernel
theorem d_HR_code_39 : decode b_HR_code 39 = .ok (.getfield 79, 3) := by decide +kernel
theorem d_HR_code_42 : decode b_HR_code 42 = .ok (.iload_n 2, 1) := by decide +kernel
theorem d_HR_code_43 : decode b_HR_code 43 = .ok (.iload_n 3, 1) := by decide +kernel
theorem d_HR_code_44 : decode b_HR_code 44 = .ok (.iastore, 1) := by decide +kernel
theorem d_HR_code_45 : decode b_HR_code 45 = .ok (.aload 5, 2) := by decide +kernel
theorem d_HR_code_47 : decode b_HR_code 47 = .ok (.getfield 82, 3) := by decide +kernel
theorem d_HR_code_50 : decode b_HR_code 50 = .ok (.iload_n 2, 1) := by decide +kernel
theorem d_HR_code_51 : decode b_HR_code 51 = .ok (.iload 4, 2) := by decide +kernel
theorem d_HR_code_53 : decode b_HR_code 53 = .ok (.bastore, 1) := by decide +kernel
theorem d_HR_code_54 : decode b_HR_code 54 = .ok (.iconst 1, 1) := by decide +kernel
theorem d_HR_code_55 : decode b_HR_code 55 = .ok (.ireturn, 1) := by decide +kernel
theorem d_HR_isLanguage_0 : decode b_HR_isLanguage 0 = .ok (.iload_n 1, 1) := by decide +kernel
theorem d_HR_isLanguage_1 : decode b_HR_isLanguage 1 = .ok (.ifCond .lt 18, 3) := by decide +kernel
theorem d_HR_isLanguage_4 : decode b_HR_isLanguage 4 = .ok (.iload_n 1, 1) := by decide +kernel
theorem d_HR_isLanguage_5 : decode b_HR_isLanguage 5 = .ok (.aload_n 0, 1) := by decide +kernel
theorem d_HR_isLanguage_6 : decode b_HR_isLanguage 6 = .ok (.getfield 10, 3) := by decide +kernel
theorem d_HR_isLanguage_9 : decode b_HR_isLanguage 9 = .ok (.invokevirtual 54, 3) := by decide +kernel
theorem d_HR_isLanguage_12 : decode b_HR_isLanguage 12 = .ok (.if_icmp .ge 7, 3) := by decide +kernel
theorem d_HR_isLanguage_15 : decode b_HR_isLanguage 15 = .ok (.iconst 1, 1) := by decide +kernel
theorem d_HR_isLanguage_16 : decode b_HR_isLanguage 16 = .ok (.goto 4, 3) := by decide +kernel
theorem d_HR_isLanguage_19 : decode b_HR_isLanguage 19 = .ok (.iconst 0, 1) := by decide +kernel
theorem d_HR_isLanguage_20 : decode b_HR_isLanguage 20 = .ok (.ireturn, 1) := by decide +kernel
theorem d_HR_isSign_0 : decode b_HR_isSign 0 = .ok (.iload_n 0, 1) := by decide +kernel
theorem d_HR_isSign_1 : decode b_HR_isSign 1 = .ok (.ifCond .lt 14, 3) := by decide +kernel
theorem d_HR_isSign_4 : decode b_HR_isSign 4 = .ok (.iload_n 0, 1) := by decide +kernel
theorem d_HR_isSign_5 : decode b_HR_isSign 5 = .ok (.sipush 256, 3) := by decide +kernel
theorem d_HR_isSign_8 : decode b_HR_isSign 8 = .ok (.if_icmp .ge 7, 3) := by decide +kernel
theorem d_HR_isSign_11 : decode b_HR_isSign 11 = .ok (.iconst 1, 1) := by decide +kernel
theorem d_HR_isSign_12 : decode b_HR_isSign 12 = .ok (.goto 4, 3) := by decide +kernel
theorem d_HR_isSign_15 : decode b_HR_isSign 15 = .ok (.iconst 0, 1) := by decide +kernel
theorem d_HR_isSign_16 : decode b_HR_isSign 16 = .ok (.ireturn, 1) := by decide +kernel
theorem d_HR_isLetterOrZero_0 : decode b_HR_isLetterOrZero 0 = .ok (.iload_n 0, 1) := by decide +kernel
theorem d_HR_isLetterOrZero_1 : decode b_HR_isLetterOrZero 1 = .ok (.ifCond .lt 13, 3) := by decide +kernel
theorem d_HR_isLetterOrZero_4 : decode b_HR_isLetterOrZero 4 = .ok (.iload_n 0, 1) := by decide +kernel
theorem d_HR_isLetterOrZero_5 : decode b_HR_isLetterOrZero 5 = .ok (.bipush 30, 2) := by decide +kernel
theorem d_HR_isLetterOrZero_7 : decode b_HR_isLetterOrZero 7 = .ok (.if_icmp .gt 7, 3) := by decide +kernel
theorem d_HR_isLetterOrZero_10 : decode b_HR_isLetterOrZero 10 = .ok (.iconst 1, 1) := by decide +kernel
theorem d_HR_isLetterOrZero_11 : decode b_HR_isLetterOrZero 11 = .ok (.goto 4, 3) := by decide +kernel
theorem d_HR_isLetterOrZero_14 : decode b_HR_isLetterOrZero 14 = .ok (.iconst 0, 1) := by decide +kernel
theorem d_HR_isLetterOrZero_15 : decode b_HR_isLetterOrZero 15 = .ok (.ireturn, 1) := by decide +kernel
theorem d_HR_ends_0 : decode b_HR_ends 0 = .ok (.aload_n 0, 1) := by decide +kernel
theorem d_HR_ends_1 : decode b_HR_ends 1 = .ok (.iload_n 1, 1) := by decide +kernel
theorem d_HR_ends_2 : decode b_HR_ends 2 = .ok (.invokevirtual 65, 3) := by decide +kernel
theorem d_HR_ends_5 : decode b_HR_ends 5 = .ok (.ifCond .eq 17, 3) := by decide +kernel
theorem d_HR_ends_8 : decode b_HR_ends 8 = .ok (.iload_n 2, 1) := by decide +kernel
theorem d_HR_ends_9 : decode b_HR_ends 9 = .ok (.invokestatic 86, 3) := by decide +kernel
theorem d_HR_ends_12 : decode b_HR_ends 12 = .ok (.ifCond .eq 10, 3) := by decide +kernel
theorem d_HR_ends_15 : decode b_HR_ends 15 = .ok (.iload_n 3, 1) := by decide +kernel
theorem d_HR_ends_16 : decode b_HR_ends 16 = .ok (.invokestatic 86, 3) := by decide +kernel
theorem d_HR_ends_19 : decode b_HR_ends 19 = .ok (.ifCond .ne 5, 3) := by decide +kernel
theorem d_HR_ends_22 : decode b_HR_ends 22 = .ok (.iconst (-1), 1) := by decide +kernel
theorem d_HR_ends_23 : decode b_HR_ends 23 = .ok (.ireturn, 1) := by decide +kernel
theorem d_HR_ends_24 : decode b_HR_ends 24 = .ok (.aload_n 0, 1) := by decide +kernel
theorem d_HR_ends_25 : decode b_HR_ends 25 = .ok (.getfield 10, 3) := by decide +kernel
theorem d_HR_ends_28 : decode b_HR_ends 28 = .ok (.iload_n 1, 1) := by decide +kernel
theorem d_HR_ends_29 : decode b_HR_ends 29 = .ok (.invokevirtual 75, 3) := by decide +kernel
theorem d_HR_ends_32 : decode b_HR_ends 32 = .ok (.checkcast 58, 3) := by decide +kernel
theorem d_HR_ends_35 : decode b_HR_ends 35 = .ok (.astore 5, 2) := by decide +kernel
theorem d_HR_ends_37 : decode b_HR_ends 37 = .ok (.aload 5, 2) := by decide +kernel
theorem d_HR_ends_39 : decode b_HR_ends 39 = .ok (.iload_n 2, 1) := by decide +kernel
theorem d_HR_ends_40 : decode b_HR_ends 40 = .ok (.putfield 89, 3) := by decide +kernel
theorem d_HR_ends_43 : decode b_HR_ends 43 = .ok (.aload 5, 2) := by decide +kernel
theorem d_HR_ends_45 : decode b_HR_ends 45 = .ok (.iload_n 3, 1) := by decide +kernel
theorem d_HR_ends_46 : decode b_HR_ends 46 = .ok (.putfield 92, 3) := by decide +kernel
theorem d_HR_ends_49 : decode b_HR_ends 49 = .ok (.aload 5, 2) := by decide +kernel
theorem d_HR_ends_51 : decode b_HR_ends 51 = .ok (.iload 4, 2) := by decide +kernel
theorem d_HR_ends_53 : decode b_HR_ends 53 = .ok (.putfield 95, 3) := by decide +kernel
theorem d_HR_ends_56 : decode b_HR_ends 56 = .ok (.iconst 1, 1) := by decide +kernel
theorem d_HR_ends_57 : decode b_HR_ends 57 = .ok (.ireturn, 1) := by decide +kernel
theorem d_HR_isLeast_0 : decode b_HR_isLeast 0 = .ok (.iload_n 0, 1) := by decide +kernel
theorem d_HR_isLeast_1 : decode b_HR_isLeast 1 = .ok (.ifCond .lt 13, 3) := by decide +kernel
theorem d_HR_isLeast_4 : decode b_HR_isLeast 4 = .ok (.iload_n 0, 1) := by decide +kernel
theorem d_HR_isLeast_5 : decode b_HR_isLeast 5 = .ok (.bipush 20, 2) := by decide +kernel
theorem d_HR_isLeast_7 : decode b_HR_isLeast 7 = .ok (.if_icmp .gt 7, 3) := by decide +kernel
theorem d_HR_isLeast_10 : decode b_HR_isLeast 10 = .ok (.iconst 1, 1) := by decide +kernel
theorem d_HR_isLeast_11 : decode b_HR_isLeast 11 = .ok (.goto 4, 3) := by decide +kernel
theorem d_HR_isLeast_14 : decode b_HR_isLeast 14 = .ok (.iconst 0, 1) := by decide +kernel
theorem d_HR_isLeast_15 : decode b_HR_isLeast 15 = .ok (.ireturn, 1) := by decide +kernel
theorem d_HR_next_0 : decode b_HR_next 0 = .ok (.iload_n 1, 1) := by decide +kernel
theorem d_HR_next_1 : decode b_HR_next 1 = .ok (.invokestatic 72, 3) := by decide +kernel
theorem d_HR_next_4 : decode b_HR_next 4 = .ok (.ifCond .eq 10, 3) := by decide +kernel
theorem d_HR_next_7 : decode b_HR_next 7 = .ok (.iload_n 2, 1) := by decide +kernel
theorem d_HR_next_8 : decode b_HR_next 8 = .ok (.invokestatic 99, 3) := by decide +kernel
theorem d_HR_next_11 : decode b_HR_next 11 = .ok (.ifCond .ne 5, 3) := by decide +kernel
theorem d_HR_next_14 : decode b_HR_next 14 = .ok (.iconst (-1), 1) := by decide +kernel
theorem d_HR_next_15 : decode b_HR_next 15 = .ok (.ireturn, 1) := by decide +kernel
theorem d_HR_next_16 : decode b_HR_next 16 = .ok (.aload_n 0, 1) := by decide +kernel
theorem d_HR_next_17 : decode b_HR_next 17 = .ok (.getfield 33, 3) := by decide +kernel
theorem d_HR_next_20 : decode b_HR_next 20 = .ok (.bipush 12, 2) := by decide +kernel
theorem d_HR_next_22 : decode b_HR_next 22 = .ok (.if_icmp .lt 6, 3) := by decide +kernel
theorem d_HR_next_25 : decode b_HR_next 25 = .ok (.bipush (-2), 2) := by decide +kernel
theorem d_HR_next_27 : decode b_HR_next 27 = .ok (.ireturn, 1) := by decide +kernel
theorem d_HR_next_28 : decode b_HR_next 28 = .ok (.aload_n 0, 1) := by decide +kernel
theorem d_HR_next_29 : decode b_HR_next 29 = .ok (.getfield 26, 3) := by decide +kernel
theorem d_HR_next_32 : decode b_HR_next 32 = .ok (.aload_n 0, 1) := by decide +kernel
theorem d_HR_next_33 : decode b_HR_next 33 = .ok (.getfield 33, 3) := by decide +kernel
theorem d_HR_next_36 : decode b_HR_next 36 = .ok (.iload_n 1, 1) := by decide +kernel
theorem d_HR_next_37 : decode b_HR_next 37 = .ok (.iastore, 1) := by decide +kernel
theorem d_HR_next_38 : decode b_HR_next 38 = .ok (.aload_n 0, 1) := by decide +kernel
theorem d_HR_next_39 : decode b_HR_next 39 = .ok (.getfield 30, 3) := by decide +kernel
theorem d_HR_next_42 : decode b_HR_next 42 = .ok (.aload_n 0, 1) := by decide +kernel
theorem d_HR_next_43 : decode b_HR_next 43 = .ok (.getfield 33, 3) := by decide +kernel
theorem d_HR_next_46 : decode b_HR_next 46 = .ok (.iload_n 2, 1) := by decide +kernel
theorem d_HR_next_47 : decode b_HR_next 47 = .ok (.iastore, 1) := by decide +kernel
theorem d_HR_next_48 : decode b_HR_next 48 = .ok (.aload_n 0, 1) := by decide +kernel
theorem d_HR_next_49 : decode b_HR_next 49 = .ok (.dup, 1) := by decide +kernel
theorem d_HR_next_50 : decode b_HR_next 50 = .ok (.getfield 33, 3) := by decide +kernel
theorem d_HR_next_53 : decode b_HR_next 53 = .ok (.iconst 1, 1) := by decide +kernel
theorem d_HR_next_54 : decode b_HR_next 54 = .ok (.iadd, 1) := by decide +kernel
theorem d_HR_next_55 : decode b_HR_next 55 = .ok (.putfield 33, 3) := by decide +kernel
theorem d_HR_next_58 : decode b_HR_next 58 = .ok (.aload_n 0, 1) := by decide +kernel
theorem d_HR_next_59 : decode b_HR_next 59 = .ok (.getfield 33, 3) := by decide +kernel
theorem d_HR_next_62 : decode b_HR_next 62 = .ok (.ireturn, 1) := by decide +kernel
theorem d_HR_isDigit_0 : decode b_HR_isDigit 0 = .ok (.iload_n 0, 1) := by decide +kernel
theorem d_HR_isDigit_1 : decode b_HR_isDigit 1 = .ok (.ifCond .lt 13, 3) := by decide +kernel
theorem d_HR_isDigit_4 : decode b_HR_isDigit 4 = .ok (.iload_n 0, 1) := by decide +kernel
theorem d_HR_isDigit_5 : decode b_HR_isDigit 5 = .ok (.bipush 9, 2) := by decide +kernel
theorem d_HR_isDigit_7 : decode b_HR_isDigit 7 = .ok (.if_icmp .gt 7, 3) := by decide +kernel
theorem d_HR_isDigit_10 : decode b_HR_isDigit 10 = .ok (.iconst 1, 1) := by decide +kernel
theorem d_HR_isDigit_11 : decode b_HR_isDigit 11 = .ok (.goto 4, 3) := by decide +kernel
theorem d_HR_isDigit_14 : decode b_HR_isDigit 14 = .ok (.iconst 0, 1) := by decide +kernel
theorem d_HR_isDigit_15 : decode b_HR_isDigit 15 = .ok (.ireturn, 1) := by decide +kernel
theorem d_HR_pattern_0 : decode b_HR_pattern 0 = .ok (.aload_n 0, 1) := by decide +kernel
theorem d_HR_pattern_1 : decode b_HR_pattern 1 = .ok (.iload_n 1, 1) := by decide +kernel
theorem d_HR_pattern_2 : decode b_HR_pattern 2 = .ok (.invokevirtual 65, 3) := by decide +kernel
theorem d_HR_pattern_5 : decode b_HR_pattern 5 = .ok (.ifCond .eq 10, 3) := by decide +kernel
theorem d_HR_pattern_8 : decode b_HR_pattern 8 = .ok (.iload_n 2, 1) := by decide +kernel
theorem d_HR_pattern_9 : decode b_HR_pattern 9 = .ok (.invokestatic 99, 3) := by decide +kernel
theorem d_HR_pattern_12 : decode b_HR_pattern 12 = .ok (.ifCond .ne 5, 3) := by decide +kernel
theorem d_HR_pattern_15 : decode b_HR_pattern 15 = .ok (.iconst (-1), 1) := by decide +kernel
theorem d_HR_pattern_16 : decode b_HR_pattern 16 = .ok (.ireturn, 1) := by decide +kernel
theorem d_HR_pattern_17 : decode b_HR_pattern 17 = .ok (.aload_n 0, 1) := by decide +kernel
theorem d_HR_pattern_18 : decode b_HR_pattern 18 = .ok (.getfield 33, 3) := by decide +kernel
theorem d_HR_pattern_21 : decode b_HR_pattern 21 = .ok (.istore_n 3, 1) := by decide +kernel
theorem d_HR_pattern_22 : decode b_HR_pattern 22 = .ok (.aload_n 0, 1) := by decide +kernel
theorem d_HR_pattern_23 : decode b_HR_pattern 23 = .ok (.iconst 0, 1) := by decide +kernel
theorem d_HR_pattern_24 : decode b_HR_pattern 24 = .ok (.putfield 33, 3) := by decide +kernel
theorem d_HR_pattern_27 : decode b_HR_pattern 27 = .ok (.aload_n 0, 1) := by decide +kernel
theorem d_HR_pattern_28 : decode b_HR_pattern 28 = .ok (.iload_n 3, 1) := by decide +kernel
theorem d_HR_pattern_29 : decode b_HR_pattern 29 = .ok (.invokevirtual 102, 3) := by decide +kernel
theorem d_HR_pattern_32 : decode b_HR_pattern 32 = .ok (.ifCond .ne 6, 3) := by decide +kernel
theorem d_HR_pattern_35 : decode b_HR_pattern 35 = .ok (.bipush (-3), 2) := by decide +kernel
theorem d_HR_pattern_37 : decode b_HR_pattern 37 = .ok (.ireturn, 1) := by decide +kernel
theorem d_HR_pattern_38 : decode b_HR_pattern 38 = .ok (.aload_n 0, 1) := by decide +kernel
theorem d_HR_pattern_39 : decode b_HR_pattern 39 = .ok (.getfield 30, 3) := by decide +kernel
theorem d_HR_pattern_42 : decode b_HR_pattern 42 = .ok (.iload_n 3, 1) := by decide +kernel
theorem d_HR_pattern_43 : decode b_HR_pattern 43 = .ok (.iload_n 2, 1) := by decide +kernel
theorem d_HR_pattern_44 : decode b_HR_pattern 44 = .ok (.iastore, 1) := by decide +kernel
theorem d_HR_pattern_45 : decode b_HR_pattern 45 = .ok (.aload_n 0, 1) := by decide +kernel
theorem d_HR_pattern_46 : decode b_HR_pattern 46 = .ok (.iload_n 1, 1) := by decide +kernel
theorem d_HR_pattern_47 : decode b_HR_pattern 47 = .ok (.iload_n 3, 1) := by decide +kernel
theorem d_HR_pattern_48 : decode b_HR_pattern 48 = .ok (.invokevirtual 105, 3) := by decide +kernel
theorem d_HR_pattern_51 : decode b_HR_pattern 51 = .ok (.istore 4, 2) := by decide +kernel
theorem d_HR_pattern_53 : decode b_HR_pattern 53 = .ok (.iload 4, 2) := by decide +kernel
theorem d_HR_pattern_55 : decode b_HR_pattern 55 = .ok (.iconst (-1), 1) := by decide +kernel
theorem d_HR_pattern_56 : decode b_HR_pattern 56 = .ok (.if_icmp .eq 33, 3) := by decide +kernel
theorem d_HR_pattern_59 : decode b_HR_pattern 59 = .ok (.aload_n 0, 1) := by decide +kernel
theorem d_HR_pattern_60 : decode b_HR_pattern 60 = .ok (.getfield 30, 3) := by decide +kernel
theorem d_HR_pattern_63 : decode b_HR_pattern 63 = .ok (.iconst 0, 1) := by decide +kernel
theorem d_HR_pattern_64 : decode b_HR_pattern 64 = .ok (.aload_n 0, 1) := by decide +kernel
theorem d_HR_pattern_65 : decode b_HR_pattern 65 = .ok (.getfield 16, 3) := by decide +kernel
theorem d_HR_pattern_68 : decode b_HR_pattern 68 = .ok (.iload 4, 2) := by decide +kernel
theorem d_HR_pattern_70 : decode b_HR_pattern 70 = .ok (.invokevirtual 75, 3) := by decide +kernel
theorem d_HR_pattern_73 : decode b_HR_pattern 73 = .ok (.checkcast 109, 3) := by decide +kernel
theorem d_HR_pattern_76 : decode b_HR_pattern 76 = .ok (.getfield 111, 3) := by decide +kernel
theorem d_HR_pattern_79 : decode b_HR_pattern 79 = .ok (.iconst 0, 1) := by decide +kernel
theorem d_HR_pattern_80 : decode b_HR_pattern 80 = .ok (.iload_n 3, 1) := by decide +kernel
theorem d_HR_pattern_81 : decode b_HR_pattern 81 = .ok (.iconst 1, 1) := by decide +kernel
theorem d_HR_pattern_82 : decode b_HR_pattern 82 = .ok (.iadd, 1) := by decide +kernel
theorem d_HR_pattern_83 : decode b_HR_pattern 83 = .ok (.invokestatic 114, 3) := by decide +kernel
theorem d_HR_pattern_86 : decode b_HR_pattern 86 = .ok (.iload 4, 2) := by decide +kernel
theorem d_HR_pattern_88 : decode b_HR_pattern 88 = .ok (.ireturn, 1) := by decide +kernel
theorem d_HR_pattern_89 : decode b_HR_pattern 89 = .ok (.aload_n 0, 1) := by decide +kernel
theorem d_HR_pattern_90 : decode b_HR_pattern 90 = .ok (.iload_n 1, 1) := by decide +kernel
theorem d_HR_pattern_91 : decode b_HR_pattern 91 = .ok (.iload_n 3, 1) := by decide +kernel
theorem d_HR_pattern_92 : decode b_HR_pattern 92 = .ok (.invokevirtual 120, 3) := by decide +kernel
theorem d_HR_pattern_95 : decode b_HR_pattern 95 = .ok (.ireturn, 1) := by decide +kernel
theorem d_HR_isPatternRow_0 : decode b_HR_isPatternRow 0 = .ok (.iconst 0, 1) := by decide +kernel
theorem d_HR_isPatternRow_1 : decode b_HR_isPatternRow 1 = .ok (.istore_n 2, 1) := by decide +kernel
theorem d_HR_isPatternRow_2 : decode b_HR_isPatternRow 2 = .ok (.iconst 0, 1) := by decide +kernel
theorem d_HR_isPatternRow_3 : decode b_HR_isPatternRow 3 = .ok (.istore_n 3, 1) := by decide +kernel
theorem d_HR_isPatternRow_4 : decode b_HR_isPatternRow 4 = .ok (.iload_n 3, 1) := by decide +kernel
theorem d_HR_isPatternRow_5 : decode b_HR_isPatternRow 5 = .ok (.iload_n 1, 1) := by decide +kernel
theorem d_HR_isPatternRow_6 : decode b_HR_isPatternRow 6 = .ok (.if_icmp .ge 36, 3) := by decide +kernel
theorem d_HR_isPatternRow_9 : decode b_HR_isPatternRow 9 = .ok (.aload_n 0, 1) := by decide +kernel
theorem d_HR_isPatternRow_10 : decode b_HR_isPatternRow 10 = .ok (.getfield 26, 3) := by decide +kernel
theorem d_HR_isPatternRow_13 : decode b_HR_isPatternRow 13 = .ok (.iload_n 3, 1) := by decide +kernel
theorem d_HR_isPatternRow_14 : decode b_HR_isPatternRow 14 = .ok (.iaload, 1) := by decide +kernel
theorem d_HR_isPatternRow_15 : decode b_HR_isPatternRow 15 = .ok (.ifCond .eq 8, 3) := by decide +kernel
theorem d_HR_isPatternRow_18 : decode b_HR_isPatternRow 18 = .ok (.iconst 1, 1) := by decide +kernel
theorem d_HR_isPatternRow_19 : decode b_HR_isPatternRow 19 = .ok (.istore_n 2, 1) := by decide +kernel
theorem d_HR_isPatternRow_20 : decode b_HR_isPatternRow 20 = .ok (.goto 16, 3) := by decide +kernel
theorem d_HR_isPatternRow_23 : decode b_HR_isPatternRow 23 = .ok (.iload_n 3, 1) := by decide +kernel
theorem d_HR_isPatternRow_24 : decode b_HR_isPatternRow 24 = .ok (.ifCond .le 12, 3) := by decide +kernel
theorem d_HR_isPatternRow_27 : decode b_HR_isPatternRow 27 = .ok (.iload_n 3, 1) := by decide +kernel
theorem d_HR_isPatternRow_28 : decode b_HR_isPatternRow 28 = .ok (.iload_n 1, 1) := by decide +kernel
theorem d_HR_isPatternRow_29 : decode b_HR_isPatternRow 29 = .ok (.iconst 1, 1) := by decide +kernel
theorem d_HR_isPatternRow_30 : decode b_HR_isPatternRow 30 = .ok (.isub, 1) := by decide +kernel
theorem d_HR_isPatternRow_31 : decode b_HR_isPatternRow 31 = .ok (.if_icmp .ge 5, 3) := by decide +kernel
theorem d_HR_isPatternRow_34 : decode b_HR_isPatternRow 34 = .ok (.iconst 0, 1) := by decide +kernel
theorem d_HR_isPatternRow_35 : decode b_HR_isPatternRow 35 = .ok (.ireturn, 1) := by decide +kernel
theorem d_HR_isPatternRow_36 : decode b_HR_isPatternRow 36 = .ok (.iinc 3 1, 3) := by decide +kernel
theorem d_HR_isPatternRow_39 : decode b_HR_isPatternRow 39 = .ok (.goto (-35), 3) := by decide +kernel
theorem d_HR_isPatternRow_42 : decode b_HR_isPatternRow 42 = .ok (.iload_n 2, 1) := by decide +kernel
theorem d_HR_isPatternRow_43 : decode b_HR_isPatternRow 43 = .ok (.ireturn, 1) := by decide +kernel
theorem d_HR_patternWithMadeRow_0 : decode b_HR_patternWithMadeRow 0 = .ok (.iconst 0, 1) := by decide +kernel
theorem d_HR_patternWithMadeRow_1 : decode b_HR_patternWithMadeRow 1 = .ok (.istore_n 3, 1) := by decide +kernel
theorem d_HR_patternWithMadeRow_2 : decode b_HR_patternWithMadeRow 2 = .ok (.iload_n 3, 1) := by decide +kernel
theorem d_HR_patternWithMadeRow_3 : decode b_HR_patternWithMadeRow 3 = .ok (.aload_n 0, 1) := by decide +kernel
theorem d_HR_patternWithMadeRow_4 : decode b_HR_patternWithMadeRow 4 = .ok (.getfield 16, 3) := by decide +kernel
theorem d_HR_patternWithMadeRow_7 : decode b_HR_patternWithMadeRow 7 = .ok (.invokevirtual 54, 3) := by decide +kernel
theorem d_HR_patternWithMadeRow_10 : decode b_HR_patternWithMadeRow 10 = .ok (.if_icmp .ge 59, 3) := by decide +kernel
theorem d_HR_patternWithMadeRow_13 : decode b_HR_patternWithMadeRow 13 = .ok (.aload_n 0, 1) := by decide +kernel
theorem d_HR_patternWithMadeRow_14 : decode b_HR_patternWithMadeRow 14 = .ok (.getfield 16, 3) := by decide +kernel
theorem d_HR_patternWithMadeRow_17 : decode b_HR_patternWithMadeRow 17 = .ok (.iload_n 3, 1) := by decide +kernel
theorem d_HR_patternWithMadeRow_18 : decode b_HR_patternWithMadeRow 18 = .ok (.invokevirtual 75, 3) := by decide +kernel
theorem d_HR_patternWithMadeRow_21 : decode b_HR_patternWithMadeRow 21 = .ok (.checkcast 109, 3) := by decide +kernel
theorem d_HR_patternWithMadeRow_24 : decode b_HR_patternWithMadeRow 24 = .ok (.astore 4, 2) := by decide +kernel
theorem d_HR_patternWithMadeRow_26 : decode b_HR_patternWithMadeRow 26 = .ok (.aload 4, 2) := by decide +kernel
theorem d_HR_patternWithMadeRow_28 : decode b_HR_patternWithMadeRow 28 = .ok (.getfield 155, 3) := by decide +kernel
theorem d_HR_patternWithMadeRow_31 : decode b_HR_patternWithMadeRow 31 = .ok (.iload_n 1, 1) := by decide +kernel
theorem d_HR_patternWithMadeRow_32 : decode b_HR_patternWithMadeRow 32 = .ok (.if_icmp .ne 31, 3) := by decide +kernel
theorem d_HR_patternWithMadeRow_35 : decode b_HR_patternWithMadeRow 35 = .ok (.aload 4, 2) := by decide +kernel
theorem d_HR_patternWithMadeRow_37 : decode b_HR_patternWithMadeRow 37 = .ok (.getfield 158, 3) := by decide +kernel
theorem d_HR_patternWithMadeRow_40 : decode b_HR_patternWithMadeRow 40 = .ok (.arraylength, 1) := by decide +kernel
theorem d_HR_patternWithMadeRow_41 : decode b_HR_patternWithMadeRow 41 = .ok (.iload_n 2, 1) := by decide +kernel
theorem d_HR_patternWithMadeRow_42 : decode b_HR_patternWithMadeRow 42 = .ok (.if_icmp .ne 21, 3) := by decide +kernel
theorem d_HR_patternWithMadeRow_45 : decode b_HR_patternWithMadeRow 45 = .ok (.aload 4, 2) := by decide +kernel
theorem d_HR_patternWithMadeRow_47 : decode b_HR_patternWithMadeRow 47 = .ok (.getfield 158, 3) := by decide +kernel
theorem d_HR_patternWithMadeRow_50 : decode b_HR_patternWithMadeRow 50 = .ok (.aload_n 0, 1) := by decide +kernel
theorem d_HR_patternWithMadeRow_51 : decode b_HR_patternWithMadeRow 51 = .ok (.getfield 26, 3) := by decide +kernel
theorem d_HR_patternWithMadeRow_54 : decode b_HR_patternWithMadeRow 54 = .ok (.iconst 0, 1) := by decide +kernel
theorem d_HR_patternWithMadeRow_55 : decode b_HR_patternWithMadeRow 55 = .ok (.invokestatic 161, 3) := by decide +kernel
theorem d_HR_patternWithMadeRow_58 : decode b_HR_patternWithMadeRow 58 = .ok (.ifCond .eq 5, 3) := by decide +kernel
theorem d_HR_patternWithMadeRow_61 : decode b_HR_patternWithMadeRow 61 = .ok (.iload_n 3, 1) := by decide +kernel
theorem d_HR_patternWithMadeRow_62 : decode b_HR_patternWithMadeRow 62 = .ok (.ireturn, 1) := by decide +kernel
theorem d_HR_patternWithMadeRow_63 : decode b_HR_patternWithMadeRow 63 = .ok (.iinc 3 1, 3) := by decide +kernel
theorem d_HR_patternWithMadeRow_66 : decode b_HR_patternWithMadeRow 66 = .ok (.goto (-64), 3) := by decide +kernel
theorem d_HR_patternWithMadeRow_69 : decode b_HR_patternWithMadeRow 69 = .ok (.iconst (-1), 1) := by decide +kernel
theorem d_HR_patternWithMadeRow_70 : decode b_HR_patternWithMadeRow 70 = .ok (.ireturn, 1) := by decide +kernel
theorem d_HR_standsAt_0 : decode b_HR_standsAt 0 = .ok (.iload_n 2, 1) := by decide +kernel
theorem d_HR_standsAt_1 : decode b_HR_standsAt 1 = .ok (.ifCond .lt 12, 3) := by decide +kernel
theorem d_HR_standsAt_4 : decode b_HR_standsAt 4 = .ok (.iload_n 2, 1) := by decide +kernel
theorem d_HR_standsAt_5 : decode b_HR_standsAt 5 = .ok (.aload_n 1, 1) := by decide +kernel
theorem d_HR_standsAt_6 : decode b_HR_standsAt 6 = .ok (.arraylength, 1) := by decide +kernel
theorem d_HR_standsAt_7 : decode b_HR_standsAt 7 = .ok (.aload_n 0, 1) := by decide +kernel
theorem d_HR_standsAt_8 : decode b_HR_standsAt 8 = .ok (.arraylength, 1) := by decide +kernel
theorem d_HR_standsAt_9 : decode b_HR_standsAt 9 = .ok (.isub, 1) := by decide +kernel
theorem d_HR_standsAt_10 : decode b_HR_standsAt 10 = .ok (.if_icmp .le 5, 3) := by decide +kernel
theorem d_HR_standsAt_13 : decode b_HR_standsAt 13 = .ok (.iconst 0, 1) := by decide +kernel
theorem d_HR_standsAt_14 : decode b_HR_standsAt 14 = .ok (.ireturn, 1) := by decide +kernel
theorem d_HR_standsAt_15 : decode b_HR_standsAt 15 = .ok (.iconst 0, 1) := by decide +kernel
theorem d_HR_standsAt_16 : decode b_HR_standsAt 16 = .ok (.istore_n 3, 1) := by decide +kernel
theorem d_HR_standsAt_17 : decode b_HR_standsAt 17 = .ok (.iload_n 3, 1) := by decide +kernel
theorem d_HR_standsAt_18 : decode b_HR_standsAt 18 = .ok (.aload_n 0, 1) := by decide +kernel
theorem d_HR_standsAt_19 : decode b_HR_standsAt 19 = .ok (.arraylength, 1) := by decide +kernel
theorem d_HR_standsAt_20 : decode b_HR_standsAt 20 = .ok (.if_icmp .ge 22, 3) := by decide +kernel
theorem d_HR_standsAt_23 : decode b_HR_standsAt 23 = .ok (.aload_n 1, 1) := by decide +kernel
theorem d_HR_standsAt_24 : decode b_HR_standsAt 24 = .ok (.iload_n 2, 1) := by decide +kernel
theorem d_HR_standsAt_25 : decode b_HR_standsAt 25 = .ok (.iload_n 3, 1) := by decide +kernel
theorem d_HR_standsAt_26 : decode b_HR_standsAt 26 = .ok (.iadd, 1) := by decide +kernel
theorem d_HR_standsAt_27 : decode b_HR_standsAt 27 = .ok (.iaload, 1) := by decide +kernel
theorem d_HR_standsAt_28 : decode b_HR_standsAt 28 = .ok (.aload_n 0, 1) := by decide +kernel
theorem d_HR_standsAt_29 : decode b_HR_standsAt 29 = .ok (.iload_n 3, 1) := by decide +kernel
theorem d_HR_standsAt_30 : decode b_HR_standsAt 30 = .ok (.iaload, 1) := by decide +kernel
theorem d_HR_standsAt_31 : decode b_HR_standsAt 31 = .ok (.if_icmp .eq 5, 3) := by decide +kernel
theorem d_HR_standsAt_34 : decode b_HR_standsAt 34 = .ok (.iconst 0, 1) := by decide +kernel
theorem d_HR_standsAt_35 : decode b_HR_standsAt 35 = .ok (.ireturn, 1) := by decide +kernel
theorem d_HR_standsAt_36 : decode b_HR_standsAt 36 = .ok (.iinc 3 1, 3) := by decide +kernel
theorem d_HR_standsAt_39 : decode b_HR_standsAt 39 = .ok (.goto (-22), 3) := by decide +kernel
theorem d_HR_standsAt_42 : decode b_HR_standsAt 42 = .ok (.iconst 1, 1) := by decide +kernel
theorem d_HR_standsAt_43 : decode b_HR_standsAt 43 = .ok (.ireturn, 1) := by decide +kernel
theorem d_HR_addPattern_0 : decode b_HR_addPattern 0 = .ok (.aload_n 0, 1) := by decide +kernel
theorem d_HR_addPattern_1 : decode b_HR_addPattern 1 = .ok (.getfield 16, 3) := by decide +kernel
theorem d_HR_addPattern_4 : decode b_HR_addPattern 4 = .ok (.invokevirtual 54, 3) := by decide +kernel
theorem d_HR_addPattern_7 : decode b_HR_addPattern 7 = .ok (.sipush 150, 3) := by decide +kernel
theorem d_HR_addPattern_10 : decode b_HR_addPattern 10 = .ok (.if_icmp .ge 15, 3) := by decide +kernel
theorem d_HR_addPattern_13 : decode b_HR_addPattern 13 = .ok (.iload_n 2, 1) := by decide +kernel
theorem d_HR_addPattern_14 : decode b_HR_addPattern 14 = .ok (.sipush 900, 3) := by decide +kernel
theorem d_HR_addPattern_17 : decode b_HR_addPattern 17 = .ok (.aload_n 0, 1) := by decide +kernel
theorem d_HR_addPattern_18 : decode b_HR_addPattern 18 = .ok (.getfield 22, 3) := by decide +kernel
theorem d_HR_addPattern_21 : decode b_HR_addPattern 21 = .ok (.isub, 1) := by decide +kernel
theorem d_HR_addPattern_22 : decode b_HR_addPattern 22 = .ok (.if_icmp .le 6, 3) := by decide +kernel
theorem d_HR_addPattern_25 : decode b_HR_addPattern 25 = .ok (.bipush (-2), 2) := by decide +kernel
theorem d_HR_addPattern_27 : decode b_HR_addPattern 27 = .ok (.ireturn, 1) := by decide +kernel
theorem d_HR_addPattern_28 : decode b_HR_addPattern 28 = .ok (.aload_n 0, 1) := by decide +kernel
theorem d_HR_addPattern_29 : decode b_HR_addPattern 29 = .ok (.getfield 26, 3) := by decide +kernel
theorem d_HR_addPattern_32 : decode b_HR_addPattern 32 = .ok (.iload_n 2, 1) := by decide +kernel
theorem d_HR_addPattern_33 : decode b_HR_addPattern 33 = .ok (.invokestatic 165, 3) := by decide +kernel
theorem d_HR_addPattern_36 : decode b_HR_addPattern 36 = .ok (.astore_n 3, 1) := by decide +kernel
theorem d_HR_addPattern_37 : decode b_HR_addPattern 37 = .ok (.aload_n 0, 1) := by decide +kernel
theorem d_HR_addPattern_38 : decode b_HR_addPattern 38 = .ok (.getfield 30, 3) := by decide +kernel
theorem d_HR_addPattern_41 : decode b_HR_addPattern 41 = .ok (.iload_n 2, 1) := by decide +kernel
theorem d_HR_addPattern_42 : decode b_HR_addPattern 42 = .ok (.iconst 1, 1) := by decide +kernel
theorem d_HR_addPattern_43 : decode b_HR_addPattern 43 = .ok (.iadd, 1) := by decide +kernel
theorem d_HR_addPattern_44 : decode b_HR_addPattern 44 = .ok (.invokestatic 165, 3) := by decide +kernel
theorem d_HR_addPattern_47 : decode b_HR_addPattern 47 = .ok (.astore 4, 2) := by decide +kernel
theorem d_HR_addPattern_49 : decode b_HR_addPattern 49 = .ok (.aload_n 0, 1) := by decide +kernel
theorem d_HR_addPattern_50 : decode b_HR_addPattern 50 = .ok (.getfield 16, 3) := by decide +kernel
theorem d_HR_addPattern_53 : decode b_HR_addPattern 53 = .ok (.new 109, 3) := by decide +kernel
theorem d_HR_addPattern_56 : decode b_HR_addPattern 56 = .ok (.dup, 1) := by decide +kernel
theorem d_HR_addPattern_57 : decode b_HR_addPattern 57 = .ok (.iload_n 1, 1) := by decide +kernel
theorem d_HR_addPattern_58 : decode b_HR_addPattern 58 = .ok (.aload_n 3, 1) := by decide +kernel
theorem d_HR_addPattern_59 : decode b_HR_addPattern 59 = .ok (.aload 4, 2) := by decide +kernel
theorem d_HR_addPattern_61 : decode b_HR_addPattern 61 = .ok (.invokespecial 169, 3) := by decide +kernel
theorem d_HR_addPattern_64 : decode b_HR_addPattern 64 = .ok (.invokevirtual 61, 3) := by decide +kernel
theorem d_HR_addPattern_67 : decode b_HR_addPattern 67 = .ok (.pop, 1) := by decide +kernel
theorem d_HR_addPattern_68 : decode b_HR_addPattern 68 = .ok (.aload_n 0, 1) := by decide +kernel
theorem d_HR_addPattern_69 : decode b_HR_addPattern 69 = .ok (.dup, 1) := by decide +kernel
theorem d_HR_addPattern_70 : decode b_HR_addPattern 70 = .ok (.getfield 22, 3) := by decide +kernel
theorem d_HR_addPattern_73 : decode b_HR_addPattern 73 = .ok (.iload_n 2, 1) := by decide +kernel
theorem d_HR_addPattern_74 : decode b_HR_addPattern 74 = .ok (.iadd, 1) := by decide +kernel
theorem d_HR_addPattern_75 : decode b_HR_addPattern 75 = .ok (.putfield 22, 3) := by decide +kernel
theorem d_HR_addPattern_78 : decode b_HR_addPattern 78 = .ok (.aload_n 0, 1) := by decide +kernel
theorem d_HR_addPattern_79 : decode b_HR_addPattern 79 = .ok (.getfield 16, 3) := by decide +kernel
theorem d_HR_addPattern_82 : decode b_HR_addPattern 82 = .ok (.invokevirtual 54, 3) := by decide +kernel
theorem d_HR_addPattern_85 : decode b_HR_addPattern 85 = .ok (.iconst 1, 1) := by decide +kernel
theorem d_HR_addPattern_86 : decode b_HR_addPattern 86 = .ok (.isub, 1) := by decide +kernel
theorem d_HR_addPattern_87 : decode b_HR_addPattern 87 = .ok (.ireturn, 1) := by decide +kernel
theorem d_Pa_init_0 : decode b_Pa_init 0 = .ok (.aload_n 0, 1) := by decide +kernel
theorem d_Pa_init_1 : decode b_Pa_init 1 = .ok (.invokespecial 1, 3) := by decide +kernel
theorem d_Pa_init_4 : decode b_Pa_init 4 = .ok (.aload_n 0, 1) := by decide +kernel
theorem d_Pa_init_5 : decode b_Pa_init 5 = .ok (.iload_n 1, 1) := by decide +kernel
theorem d_Pa_init_6 : decode b_Pa_init 6 = .ok (.putfield 7, 3) := by decide +kernel
theorem d_Pa_init_9 : decode b_Pa_init 9 = .ok (.aload_n 0, 1) := by decide +kernel
theorem d_Pa_init_10 : decode b_Pa_init 10 = .ok (.aload_n 2, 1) := by decide +kernel
theorem d_Pa_init_11 : decode b_Pa_init 11 = .ok (.putfield 13, 3) := by decide +kernel
theorem d_Pa_init_14 : decode b_Pa_init 14 = .ok (.aload_n 0, 1) := by decide +kernel
theorem d_Pa_init_15 : decode b_Pa_init 15 = .ok (.aload_n 3, 1) := by decide +kernel
theorem d_Pa_init_16 : decode b_Pa_init 16 = .ok (.putfield 17, 3) := by decide +kernel
theorem d_Pa_init_19 : decode b_Pa_init 19 = .ok (.return_, 1) := by decide +kernel
theorem d_HR_sign_0 : decode b_HR_sign 0 = .ok (.iload_n 1, 1) := by decide +kernel
theorem d_HR_sign_1 : decode b_HR_sign 1 = .ok (.invokestatic 69, 3) := by decide +kernel
theorem d_HR_sign_4 : decode b_HR_sign 4 = .ok (.ifCond .ne 5, 3) := by decide +kernel
theorem d_HR_sign_7 : decode b_HR_sign 7 = .ok (.iconst (-1), 1) := by decide +kernel
theorem d_HR_sign_8 : decode b_HR_sign 8 = .ok (.ireturn, 1) := by decide +kernel
theorem d_HR_sign_9 : decode b_HR_sign 9 = .ok (.aload_n 0, 1) := by decide +kernel
theorem d_HR_sign_10 : decode b_HR_sign 10 = .ok (.getfield 39, 3) := by decide +kernel
theorem d_HR_sign_13 : decode b_HR_sign 13 = .ok (.bipush 30, 2) := by decide +kernel
theorem d_HR_sign_15 : decode b_HR_sign 15 = .ok (.if_icmp .lt 6, 3) := by decide +kernel
theorem d_HR_sign_18 : decode b_HR_sign 18 = .ok (.bipush (-2), 2) := by decide +kernel
theorem d_HR_sign_20 : decode b_HR_sign 20 = .ok (.ireturn, 1) := by decide +kernel
theorem d_HR_sign_21 : decode b_HR_sign 21 = .ok (.aload_n 0, 1) := by decide +kernel
theorem d_HR_sign_22 : decode b_HR_sign 22 = .ok (.getfield 36, 3) := by decide +kernel
theorem d_HR_sign_25 : decode b_HR_sign 25 = .ok (.aload_n 0, 1) := by decide +kernel
theorem d_HR_sign_26 : decode b_HR_sign 26 = .ok (.getfield 39, 3) := by decide +kernel
theorem d_HR_sign_29 : decode b_HR_sign 29 = .ok (.iload_n 1, 1) := by decide +kernel
theorem d_HR_sign_30 : decode b_HR_sign 30 = .ok (.iastore, 1) := by decide +kernel
theorem d_HR_sign_31 : decode b_HR_sign 31 = .ok (.aload_n 0, 1) := by decide +kernel
theorem d_HR_sign_32 : decode b_HR_sign 32 = .ok (.dup, 1) := by decide +kernel
theorem d_HR_sign_33 : decode b_HR_sign 33 = .ok (.getfield 39, 3) := by decide +kernel
theorem d_HR_sign_36 : decode b_HR_sign 36 = .ok (.iconst 1, 1) := by decide +kernel
theorem d_HR_sign_37 : decode b_HR_sign 37 = .ok (.iadd, 1) := by decide +kernel
theorem d_HR_sign_38 : decode b_HR_sign 38 = .ok (.putfield 39, 3) := by decide +kernel
theorem d_HR_sign_41 : decode b_HR_sign 41 = .ok (.aload_n 0, 1) := by decide +kernel
theorem d_HR_sign_42 : decode b_HR_sign 42 = .ok (.getfield 39, 3) := by decide +kernel
theorem d_HR_sign_45 : decode b_HR_sign 45 = .ok (.ireturn, 1) := by decide +kernel
theorem d_HR_clear_0 : decode b_HR_clear 0 = .ok (.aload_n 0, 1) := by decide +kernel
theorem d_HR_clear_1 : decode b_HR_clear 1 = .ok (.getfield 39, 3) := by decide +kernel
theorem d_HR_clear_4 : decode b_HR_clear 4 = .ok (.istore_n 1, 1) := by decide +kernel
theorem d_HR_clear_5 : decode b_HR_clear 5 = .ok (.aload_n 0, 1) := by decide +kernel
theorem d_HR_clear_6 : decode b_HR_clear 6 = .ok (.iconst 0, 1) := by decide +kernel
theorem d_HR_clear_7 : decode b_HR_clear 7 = .ok (.putfield 39, 3) := by decide +kernel
theorem d_HR_clear_10 : decode b_HR_clear 10 = .ok (.iload_n 1, 1) := by decide +kernel
theorem d_HR_clear_11 : decode b_HR_clear 11 = .ok (.ireturn, 1) := by decide +kernel
theorem d_HR_exception_0 : decode b_HR_exception 0 = .ok (.aload_n 0, 1) := by decide +kernel
theorem d_HR_exception_1 : decode b_HR_exception 1 = .ok (.iload_n 1, 1) := by decide +kernel
theorem d_HR_exception_2 : decode b_HR_exception 2 = .ok (.invokevirtual 65, 3) := by decide +kernel
theorem d_HR_exception_5 : decode b_HR_exception 5 = .ok (.ifCond .ne 5, 3) := by decide +kernel
theorem d_HR_exception_8 : decode b_HR_exception 8 = .ok (.iconst (-1), 1) := by decide +kernel
theorem d_HR_exception_9 : decode b_HR_exception 9 = .ok (.ireturn, 1) := by decide +kernel
theorem d_HR_exception_10 : decode b_HR_exception 10 = .ok (.aload_n 0, 1) := by decide +kernel
theorem d_HR_exception_11 : decode b_HR_exception 11 = .ok (.getfield 39, 3) := by decide +kernel
theorem d_HR_exception_14 : decode b_HR_exception 14 = .ok (.ifCond .eq 21, 3) := by decide +kernel
theorem d_HR_exception_17 : decode b_HR_exception 17 = .ok (.aload_n 0, 1) := by decide +kernel
theorem d_HR_exception_18 : decode b_HR_exception 18 = .ok (.aload_n 0, 1) := by decide +kernel
theorem d_HR_exception_19 : decode b_HR_exception 19 = .ok (.getfield 10, 3) := by decide +kernel
theorem d_HR_exception_22 : decode b_HR_exception 22 = .ok (.iload_n 1, 1) := by decide +kernel
theorem d_HR_exception_23 : decode b_HR_exception 23 = .ok (.invokevirtual 75, 3) := by decide +kernel
theorem d_HR_exception_26 : decode b_HR_exception 26 = .ok (.checkcast 58, 3) := by decide +kernel
theorem d_HR_exception_29 : decode b_HR_exception 29 = .ok (.invokevirtual 123, 3) := by decide +kernel
theorem d_HR_exception_32 : decode b_HR_exception 32 = .ok (.ifCond .ne 6, 3) := by decide +kernel
theorem d_HR_exception_35 : decode b_HR_exception 35 = .ok (.bipush (-3), 2) := by decide +kernel
theorem d_HR_exception_37 : decode b_HR_exception 37 = .ok (.ireturn, 1) := by decide +kernel
theorem d_HR_exception_38 : decode b_HR_exception 38 = .ok (.aload_n 0, 1) := by decide +kernel
theorem d_HR_exception_39 : decode b_HR_exception 39 = .ok (.iload_n 1, 1) := by decide +kernel
theorem d_HR_exception_40 : decode b_HR_exception 40 = .ok (.invokevirtual 127, 3) := by decide +kernel
theorem d_HR_exception_43 : decode b_HR_exception 43 = .ok (.istore_n 3, 1) := by decide +kernel
theorem d_HR_exception_44 : decode b_HR_exception 44 = .ok (.iload_n 3, 1) := by decide +kernel
theorem d_HR_exception_45 : decode b_HR_exception 45 = .ok (.iconst (-1), 1) := by decide +kernel
theorem d_HR_exception_46 : decode b_HR_exception 46 = .ok (.if_icmp .eq 20, 3) := by decide +kernel
theorem d_HR_exception_49 : decode b_HR_exception 49 = .ok (.aload_n 0, 1) := by decide +kernel
theorem d_HR_exception_50 : decode b_HR_exception 50 = .ok (.getfield 19, 3) := by decide +kernel
theorem d_HR_exception_53 : decode b_HR_exception 53 = .ok (.iload_n 3, 1) := by decide +kernel
theorem d_HR_exception_54 : decode b_HR_exception 54 = .ok (.invokevirtual 75, 3) := by decide +kernel
theorem d_HR_exception_57 : decode b_HR_exception 57 = .ok (.checkcast 131, 3) := by decide +kernel
theorem d_HR_exception_60 : decode b_HR_exception 60 = .ok (.iload_n 2, 1) := by decide +kernel
theorem d_HR_exception_61 : decode b_HR_exception 61 = .ok (.putfield 133, 3) := by decide +kernel
theorem d_HR_exception_64 : decode b_HR_exception 64 = .ok (.iload_n 3, 1) := by decide +kernel
theorem d_HR_exception_65 : decode b_HR_exception 65 = .ok (.ireturn, 1) := by decide +kernel
theorem d_HR_exception_66 : decode b_HR_exception 66 = .ok (.aload_n 0, 1) := by decide +kernel
theorem d_HR_exception_67 : decode b_HR_exception 67 = .ok (.getfield 19, 3) := by decide +kernel
theorem d_HR_exception_70 : decode b_HR_exception 70 = .ok (.invokevirtual 54, 3) := by decide +kernel
theorem d_HR_exception_73 : decode b_HR_exception 73 = .ok (.bipush 40, 2) := by decide +kernel
theorem d_HR_exception_75 : decode b_HR_exception 75 = .ok (.if_icmp .lt 6, 3) := by decide +kernel
theorem d_HR_exception_78 : decode b_HR_exception 78 = .ok (.bipush (-2), 2) := by decide +kernel
theorem d_HR_exception_80 : decode b_HR_exception 80 = .ok (.ireturn, 1) := by decide +kernel
theorem d_HR_exception_81 : decode b_HR_exception 81 = .ok (.aload_n 0, 1) := by decide +kernel
theorem d_HR_exception_82 : decode b_HR_exception 82 = .ok (.getfield 19, 3) := by decide +kernel
theorem d_HR_exception_85 : decode b_HR_exception 85 = .ok (.new 131, 3) := by decide +kernel
theorem d_HR_exception_88 : decode b_HR_exception 88 = .ok (.dup, 1) := by decide +kernel
theorem d_HR_exception_89 : decode b_HR_exception 89 = .ok (.iload_n 1, 1) := by decide +kernel
theorem d_HR_exception_90 : decode b_HR_exception 90 = .ok (.aload_n 0, 1) := by decide +kernel
theorem d_HR_exception_91 : decode b_HR_exception 91 = .ok (.getfield 42, 3) := by decide +kernel
theorem d_HR_exception_94 : decode b_HR_exception 94 = .ok (.iconst 1, 1) := by decide +kernel
theorem d_HR_exception_95 : decode b_HR_exception 95 = .ok (.aload_n 0, 1) := by decide +kernel
theorem d_HR_exception_96 : decode b_HR_exception 96 = .ok (.getfield 39, 3) := by decide +kernel
theorem d_HR_exception_99 : decode b_HR_exception 99 = .ok (.iconst 1, 1) := by decide +kernel
theorem d_HR_exception_100 : decode b_HR_exception 100 = .ok (.iadd, 1) := by decide +kernel
theorem d_HR_exception_101 : decode b_HR_exception 101 = .ok (.invokestatic 136, 3) := by decide +kernel
theorem d_HR_exception_104 : decode b_HR_exception 104 = .ok (.iload_n 2, 1) := by decide +kernel
theorem d_HR_exception_105 : decode b_HR_exception 105 = .ok (.invokespecial 142, 3) := by decide +kernel
theorem d_HR_exception_108 : decode b_HR_exception 108 = .ok (.invokevirtual 61, 3) := by decide +kernel
theorem d_HR_exception_111 : decode b_HR_exception 111 = .ok (.pop, 1) := by decide +kernel
theorem d_HR_exception_112 : decode b_HR_exception 112 = .ok (.aload_n 0, 1) := by decide +kernel
theorem d_HR_exception_113 : decode b_HR_exception 113 = .ok (.getfield 19, 3) := by decide +kernel
theorem d_HR_exception_116 : decode b_HR_exception 116 = .ok (.invokevirtual 54, 3) := by decide +kernel
theorem d_HR_exception_119 : decode b_HR_exception 119 = .ok (.iconst 1, 1) := by decide +kernel
theorem d_HR_exception_120 : decode b_HR_exception 120 = .ok (.isub, 1) := by decide +kernel
theorem d_HR_exception_121 : decode b_HR_exception 121 = .ok (.ireturn, 1) := by decide +kernel
theorem d_HR_spellWord_0 : decode b_HR_spellWord 0 = .ok (.aload_n 0, 1) := by decide +kernel
theorem d_HR_spellWord_1 : decode b_HR_spellWord 1 = .ok (.getfield 42, 3) := by decide +kernel
theorem d_HR_spellWord_4 : decode b_HR_spellWord 4 = .ok (.iconst 0, 1) := by decide +kernel
theorem d_HR_spellWord_5 : decode b_HR_spellWord 5 = .ok (.iconst 0, 1) := by decide +kernel
theorem d_HR_spellWord_6 : decode b_HR_spellWord 6 = .ok (.iastore, 1) := by decide +kernel
theorem d_HR_spellWord_7 : decode b_HR_spellWord 7 = .ok (.iconst 0, 1) := by decide +kernel
theorem d_HR_spellWord_8 : decode b_HR_spellWord 8 = .ok (.istore_n 2, 1) := by decide +kernel
theorem d_HR_spellWord_9 : decode b_HR_spellWord 9 = .ok (.iload_n 2, 1) := by decide +kernel
theorem d_HR_spellWord_10 : decode b_HR_spellWord 10 = .ok (.aload_n 0, 1) := by decide +kernel
theorem d_HR_spellWord_11 : decode b_HR_spellWord 11 = .ok (.getfield 39, 3) := by decide +kernel
theorem d_HR_spellWord_14 : decode b_HR_spellWord 14 = .ok (.if_icmp .ge 36, 3) := by decide +kernel
theorem d_HR_spellWord_17 : decode b_HR_spellWord 17 = .ok (.aload_n 1, 1) := by decide +kernel
theorem d_HR_spellWord_18 : decode b_HR_spellWord 18 = .ok (.getfield 79, 3) := by decide +kernel
theorem d_HR_spellWord_21 : decode b_HR_spellWord 21 = .ok (.aload_n 0, 1) := by decide +kernel
theorem d_HR_spellWord_22 : decode b_HR_spellWord 22 = .ok (.getfield 36, 3) := by decide +kernel
theorem d_HR_spellWord_25 : decode b_HR_spellWord 25 = .ok (.iload_n 2, 1) := by decide +kernel
theorem d_HR_spellWord_26 : decode b_HR_spellWord 26 = .ok (.iaload, 1) := by decide +kernel
theorem d_HR_spellWord_27 : decode b_HR_spellWord 27 = .ok (.iaload, 1) := by decide +kernel
theorem d_HR_spellWord_28 : decode b_HR_spellWord 28 = .ok (.istore_n 3, 1) := by decide +kernel
theorem d_HR_spellWord_29 : decode b_HR_spellWord 29 = .ok (.iload_n 3, 1) := by decide +kernel
theorem d_HR_spellWord_30 : decode b_HR_spellWord 30 = .ok (.ifCond .ne 5, 3) := by decide +kernel
theorem d_HR_spellWord_33 : decode b_HR_spellWord 33 = .ok (.iconst 0, 1) := by decide +kernel
theorem d_HR_spellWord_34 : decode b_HR_spellWord 34 = .ok (.ireturn, 1) := by decide +kernel
theorem d_HR_spellWord_35 : decode b_HR_spellWord 35 = .ok (.aload_n 0, 1) := by decide +kernel
theorem d_HR_spellWord_36 : decode b_HR_spellWord 36 = .ok (.getfield 42, 3) := by decide +kernel
theorem d_HR_spellWord_39 : decode b_HR_spellWord 39 = .ok (.iload_n 2, 1) := by decide +kernel
theorem d_HR_spellWord_40 : decode b_HR_spellWord 40 = .ok (.iconst 1, 1) := by decide +kernel
theorem d_HR_spellWord_41 : decode b_HR_spellWord 41 = .ok (.iadd, 1) := by decide +kernel
theorem d_HR_spellWord_42 : decode b_HR_spellWord 42 = .ok (.iload_n 3, 1) := by decide +kernel
theorem d_HR_spellWord_43 : decode b_HR_spellWord 43 = .ok (.iastore, 1) := by decide +kernel
theorem d_HR_spellWord_44 : decode b_HR_spellWord 44 = .ok (.iinc 2 1, 3) := by decide +kernel
theorem d_HR_spellWord_47 : decode b_HR_spellWord 47 = .ok (.goto (-38), 3) := by decide +kernel
theorem d_HR_spellWord_50 : decode b_HR_spellWord 50 = .ok (.aload_n 0, 1) := by decide +kernel
theorem d_HR_spellWord_51 : decode b_HR_spellWord 51 = .ok (.getfield 42, 3) := by decide +kernel
theorem d_HR_spellWord_54 : decode b_HR_spellWord 54 = .ok (.aload_n 0, 1) := by decide +kernel
theorem d_HR_spellWord_55 : decode b_HR_spellWord 55 = .ok (.getfield 39, 3) := by decide +kernel
theorem d_HR_spellWord_58 : decode b_HR_spellWord 58 = .ok (.iconst 1, 1) := by decide +kernel
theorem d_HR_spellWord_59 : decode b_HR_spellWord 59 = .ok (.iadd, 1) := by decide +kernel
theorem d_HR_spellWord_60 : decode b_HR_spellWord 60 = .ok (.iconst 0, 1) := by decide +kernel
theorem d_HR_spellWord_61 : decode b_HR_spellWord 61 = .ok (.iastore, 1) := by decide +kernel
theorem d_HR_spellWord_62 : decode b_HR_spellWord 62 = .ok (.iconst 1, 1) := by decide +kernel
theorem d_HR_spellWord_63 : decode b_HR_spellWord 63 = .ok (.ireturn, 1) := by decide +kernel
theorem d_HR_exceptionWithWordsLetters_0 : decode b_HR_exceptionWithWordsLetters 0 = .ok (.iconst 0, 1) := by decide +kernel
theorem d_HR_exceptionWithWordsLetters_1 : decode b_HR_exceptionWithWordsLetters 1 = .ok (.istore_n 2, 1) := by decide +kernel
theorem d_HR_exceptionWithWordsLetters_2 : decode b_HR_exceptionWithWordsLetters 2 = .ok (.iload_n 2, 1) := by decide +kernel
theorem d_HR_exceptionWithWordsLetters_3 : decode b_HR_exceptionWithWordsLetters 3 = .ok (.aload_n 0, 1) := by decide +kernel
theorem d_HR_exceptionWithWordsLetters_4 : decode b_HR_exceptionWithWordsLetters 4 = .ok (.getfield 19, 3) := by decide +kernel
theorem d_HR_exceptionWithWordsLetters_7 : decode b_HR_exceptionWithWordsLetters 7 = .ok (.invokevirtual 54, 3) := by decide +kernel
theorem d_HR_exceptionWithWordsLetters_10 : decode b_HR_exceptionWithWordsLetters 10 = .ok (.if_icmp .ge 58, 3) := by decide +kernel
theorem d_HR_exceptionWithWordsLetters_13 : decode b_HR_exceptionWithWordsLetters 13 = .ok (.aload_n 0, 1) := by decide +kernel
theorem d_HR_exceptionWithWordsLetters_14 : decode b_HR_exceptionWithWordsLetters 14 = .ok (.getfield 19, 3) := by decide +kernel
theorem d_HR_exceptionWithWordsLetters_17 : decode b_HR_exceptionWithWordsLetters 17 = .ok (.iload_n 2, 1) := by decide +kernel
theorem d_HR_exceptionWithWordsLetters_18 : decode b_HR_exceptionWithWordsLetters 18 = .ok (.invokevirtual 75, 3) := by decide +kernel
theorem d_HR_exceptionWithWordsLetters_21 : decode b_HR_exceptionWithWordsLetters 21 = .ok (.checkcast 131, 3) := by decide +kernel
theorem d_HR_exceptionWithWordsLetters_24 : decode b_HR_exceptionWithWordsLetters 24 = .ok (.astore_n 3, 1) := by decide +kernel
theorem d_HR_exceptionWithWordsLetters_25 : decode b_HR_exceptionWithWordsLetters 25 = .ok (.aload_n 3, 1) := by decide +kernel
theorem d_HR_exceptionWithWordsLetters_26 : decode b_HR_exceptionWithWordsLetters 26 = .ok (.getfield 172, 3) := by decide +kernel
theorem d_HR_exceptionWithWordsLetters_29 : decode b_HR_exceptionWithWordsLetters 29 = .ok (.iload_n 1, 1) := by decide +kernel
theorem d_HR_exceptionWithWordsLetters_30 : decode b_HR_exceptionWithWordsLetters 30 = .ok (.if_icmp .ne 32, 3) := by decide +kernel
theorem d_HR_exceptionWithWordsLetters_33 : decode b_HR_exceptionWithWordsLetters 33 = .ok (.aload_n 3, 1) := by decide +kernel
theorem d_HR_exceptionWithWordsLetters_34 : decode b_HR_exceptionWithWordsLetters 34 = .ok (.getfield 173, 3) := by decide +kernel
theorem d_HR_exceptionWithWordsLetters_37 : decode b_HR_exceptionWithWordsLetters 37 = .ok (.arraylength, 1) := by decide +kernel
theorem d_HR_exceptionWithWordsLetters_38 : decode b_HR_exceptionWithWordsLetters 38 = .ok (.aload_n 0, 1) := by decide +kernel
theorem d_HR_exceptionWithWordsLetters_39 : decode b_HR_exceptionWithWordsLetters 39 = .ok (.getfield 39, 3) := by decide +kernel
theorem d_HR_exceptionWithWordsLetters_42 : decode b_HR_exceptionWithWordsLetters 42 = .ok (.if_icmp .ne 20, 3) := by decide +kernel
theorem d_HR_exceptionWithWordsLetters_45 : decode b_HR_exceptionWithWordsLetters 45 = .ok (.aload_n 3, 1) := by decide +kernel
theorem d_HR_exceptionWithWordsLetters_46 : decode b_HR_exceptionWithWordsLetters 46 = .ok (.getfield 173, 3) := by decide +kernel
theorem d_HR_exceptionWithWordsLetters_49 : decode b_HR_exceptionWithWordsLetters 49 = .ok (.aload_n 0, 1) := by decide +kernel
theorem d_HR_exceptionWithWordsLetters_50 : decode b_HR_exceptionWithWordsLetters 50 = .ok (.getfield 42, 3) := by decide +kernel
theorem d_HR_exceptionWithWordsLetters_53 : decode b_HR_exceptionWithWordsLetters 53 = .ok (.iconst 1, 1) := by decide +kernel
theorem d_HR_exceptionWithWordsLetters_54 : decode b_HR_exceptionWithWordsLetters 54 = .ok (.invokestatic 161, 3) := by decide +kernel
theorem d_HR_exceptionWithWordsLetters_57 : decode b_HR_exceptionWithWordsLetters 57 = .ok (.ifCond .eq 5, 3) := by decide +kernel
theorem d_HR_exceptionWithWordsLetters_60 : decode b_HR_exceptionWithWordsLetters 60 = .ok (.iload_n 2, 1) := by decide +kernel
theorem d_HR_exceptionWithWordsLetters_61 : decode b_HR_exceptionWithWordsLetters 61 = .ok (.ireturn, 1) := by decide +kernel
theorem d_HR_exceptionWithWordsLetters_62 : decode b_HR_exceptionWithWordsLetters 62 = .ok (.iinc 2 1, 3) := by decide +kernel
theorem d_HR_exceptionWithWordsLetters_65 : decode b_HR_exceptionWithWordsLetters 65 = .ok (.goto (-63), 3) := by decide +kernel
theorem d_HR_exceptionWithWordsLetters_68 : decode b_HR_exceptionWithWordsLetters 68 = .ok (.iconst (-1), 1) := by decide +kernel
theorem d_HR_exceptionWithWordsLetters_69 : decode b_HR_exceptionWithWordsLetters 69 = .ok (.ireturn, 1) := by decide +kernel
theorem d_To_init_0 : decode b_To_init 0 = .ok (.aload_n 0, 1) := by decide +kernel
theorem d_To_init_1 : decode b_To_init 1 = .ok (.invokespecial 1, 3) := by decide +kernel
theorem d_To_init_4 : decode b_To_init 4 = .ok (.aload_n 0, 1) := by decide +kernel
theorem d_To_init_5 : decode b_To_init 5 = .ok (.iload_n 1, 1) := by decide +kernel
theorem d_To_init_6 : decode b_To_init 6 = .ok (.putfield 7, 3) := by decide +kernel
theorem d_To_init_9 : decode b_To_init 9 = .ok (.aload_n 0, 1) := by decide +kernel
theorem d_To_init_10 : decode b_To_init 10 = .ok (.aload_n 2, 1) := by decide +kernel
theorem d_To_init_11 : decode b_To_init 11 = .ok (.putfield 13, 3) := by decide +kernel
theorem d_To_init_14 : decode b_To_init 14 = .ok (.aload_n 0, 1) := by decide +kernel
theorem d_To_init_15 : decode b_To_init 15 = .ok (.iload_n 3, 1) := by decide +kernel
theorem d_To_init_16 : decode b_To_init 16 = .ok (.putfield 17, 3) := by decide +kernel
theorem d_To_init_19 : decode b_To_init 19 = .ok (.return_, 1) := by decide +kernel
theorem d_HR_drop_0 : decode b_HR_drop 0 = .ok (.iload_n 1, 1) := by decide +kernel
theorem d_HR_drop_1 : decode b_HR_drop 1 = .ok (.ifCond .lt 14, 3) := by decide +kernel
theorem d_HR_drop_4 : decode b_HR_drop 4 = .ok (.iload_n 1, 1) := by decide +kernel
theorem d_HR_drop_5 : decode b_HR_drop 5 = .ok (.aload_n 0, 1) := by decide +kernel
theorem d_HR_drop_6 : decode b_HR_drop 6 = .ok (.getfield 19, 3) := by decide +kernel
theorem d_HR_drop_9 : decode b_HR_drop 9 = .ok (.invokevirtual 54, 3) := by decide +kernel
theorem d_HR_drop_12 : decode b_HR_drop 12 = .ok (.if_icmp .lt 5, 3) := by decide +kernel
theorem d_HR_drop_15 : decode b_HR_drop 15 = .ok (.iconst (-1), 1) := by decide +kernel
theorem d_HR_drop_16 : decode b_HR_drop 16 = .ok (.ireturn, 1) := by decide +kernel
theorem d_HR_drop_17 : decode b_HR_drop 17 = .ok (.aload_n 0, 1) := by decide +kernel
theorem d_HR_drop_18 : decode b_HR_drop 18 = .ok (.getfield 19, 3) := by decide +kernel
theorem d_HR_drop_21 : decode b_HR_drop 21 = .ok (.iload_n 1, 1) := by decide +kernel
theorem d_HR_drop_22 : decode b_HR_drop 22 = .ok (.invokevirtual 145, 3) := by decide +kernel
theorem d_HR_drop_25 : decode b_HR_drop 25 = .ok (.pop, 1) := by decide +kernel
theorem d_HR_drop_26 : decode b_HR_drop 26 = .ok (.iconst 1, 1) := by decide +kernel
theorem d_HR_drop_27 : decode b_HR_drop 27 = .ok (.ireturn, 1) := by decide +kernel
theorem d_HR_run_0 : decode b_HR_run 0 = .ok (.aload_n 0, 1) := by decide +kernel
theorem d_HR_run_1 : decode b_HR_run 1 = .ok (.iload_n 1, 1) := by decide +kernel
theorem d_HR_run_2 : decode b_HR_run 2 = .ok (.invokevirtual 65, 3) := by decide +kernel
theorem d_HR_run_5 : decode b_HR_run 5 = .ok (.ifCond .ne 5, 3) := by decide +kernel
theorem d_HR_run_8 : decode b_HR_run 8 = .ok (.iconst (-1), 1) := by decide +kernel
theorem d_HR_run_9 : decode b_HR_run 9 = .ok (.ireturn, 1) := by decide +kernel
theorem d_HR_run_10 : decode b_HR_run 10 = .ok (.aload_n 0, 1) := by decide +kernel
theorem d_HR_run_11 : decode b_HR_run 11 = .ok (.iconst 0, 1) := by decide +kernel
theorem d_HR_run_12 : decode b_HR_run 12 = .ok (.putfield 51, 3) := by decide +kernel
theorem d_HR_run_15 : decode b_HR_run 15 = .ok (.aload_n 0, 1) := by decide +kernel
theorem d_HR_run_16 : decode b_HR_run 16 = .ok (.getfield 10, 3) := by decide +kernel
theorem d_HR_run_19 : decode b_HR_run 19 = .ok (.iload_n 1, 1) := by decide +kernel
theorem d_HR_run_20 : decode b_HR_run 20 = .ok (.invokevirtual 75, 3) := by decide +kernel
theorem d_HR_run_23 : decode b_HR_run 23 = .ok (.checkcast 58, 3) := by decide +kernel
theorem d_HR_run_26 : decode b_HR_run 26 = .ok (.astore_n 2, 1) := by decide +kernel
theorem d_HR_run_27 : decode b_HR_run 27 = .ok (.aload_n 0, 1) := by decide +kernel
theorem d_HR_run_28 : decode b_HR_run 28 = .ok (.aload_n 2, 1) := by decide +kernel
theorem d_HR_run_29 : decode b_HR_run 29 = .ok (.invokevirtual 148, 3) := by decide +kernel
theorem d_HR_run_32 : decode b_HR_run 32 = .ok (.ifCond .ne 11, 3) := by decide +kernel
theorem d_HR_run_35 : decode b_HR_run 35 = .ok (.aload_n 0, 1) := by decide +kernel
theorem d_HR_run_36 : decode b_HR_run 36 = .ok (.aload_n 2, 1) := by decide +kernel
theorem d_HR_run_37 : decode b_HR_run 37 = .ok (.invokevirtual 123, 3) := by decide +kernel
theorem d_HR_run_40 : decode b_HR_run 40 = .ok (.ifCond .ne 5, 3) := by decide +kernel
theorem d_HR_run_43 : decode b_HR_run 43 = .ok (.iconst 0, 1) := by decide +kernel
theorem d_HR_run_44 : decode b_HR_run 44 = .ok (.ireturn, 1) := by decide +kernel
theorem d_HR_run_45 : decode b_HR_run 45 = .ok (.aload_n 0, 1) := by decide +kernel
theorem d_HR_run_46 : decode b_HR_run 46 = .ok (.iload_n 1, 1) := by decide +kernel
theorem d_HR_run_47 : decode b_HR_run 47 = .ok (.invokevirtual 151, 3) := by decide +kernel
theorem d_HR_run_50 : decode b_HR_run 50 = .ok (.iconst 1, 1) := by decide +kernel
theorem d_HR_run_51 : decode b_HR_run 51 = .ok (.istore_n 3, 1) := by decide +kernel
theorem d_HR_run_52 : decode b_HR_run 52 = .ok (.iload_n 3, 1) := by decide +kernel
theorem d_HR_run_53 : decode b_HR_run 53 = .ok (.aload_n 0, 1) := by decide +kernel
theorem d_HR_run_54 : decode b_HR_run 54 = .ok (.getfield 39, 3) := by decide +kernel
theorem d_HR_run_57 : decode b_HR_run 57 = .ok (.if_icmp .ge 76, 3) := by decide +kernel
theorem d_HR_run_60 : decode b_HR_run 60 = .ok (.iload_n 3, 1) := by decide +kernel
theorem d_HR_run_61 : decode b_HR_run 61 = .ok (.aload_n 2, 1) := by decide +kernel
theorem d_HR_run_62 : decode b_HR_run 62 = .ok (.getfield 89, 3) := by decide +kernel
theorem d_HR_run_65 : decode b_HR_run 65 = .ok (.if_icmp .lt 20, 3) := by decide +kernel
theorem d_HR_run_68 : decode b_HR_run 68 = .ok (.iload_n 3, 1) := by decide +kernel
theorem d_HR_run_69 : decode b_HR_run 69 = .ok (.aload_n 0, 1) := by decide +kernel
theorem d_HR_run_70 : decode b_HR_run 70 = .ok (.getfield 39, 3) := by decide +kernel
theorem d_HR_run_73 : decode b_HR_run 73 = .ok (.aload_n 2, 1) := by decide +kernel
theorem d_HR_run_74 : decode b_HR_run 74 = .ok (.getfield 92, 3) := by decide +kernel
theorem d_HR_run_77 : decode b_HR_run 77 = .ok (.isub, 1) := by decide +kernel
theorem d_HR_run_78 : decode b_HR_run 78 = .ok (.if_icmp .gt 7, 3) := by decide +kernel
theorem d_HR_run_81 : decode b_HR_run 81 = .ok (.iconst 1, 1) := by decide +kernel
theorem d_HR_run_82 : decode b_HR_run 82 = .ok (.goto 4, 3) := by decide +kernel
theorem d_HR_run_85 : decode b_HR_run 85 = .ok (.iconst 0, 1) := by decide +kernel
theorem d_HR_run_86 : decode b_HR_run 86 = .ok (.istore 4, 2) := by decide +kernel
theorem d_HR_run_88 : decode b_HR_run 88 = .ok (.iload 4, 2) := by decide +kernel
theorem d_HR_run_90 : decode b_HR_run 90 = .ok (.ifCond .eq 37, 3) := by decide +kernel
theorem d_HR_run_93 : decode b_HR_run 93 = .ok (.aload_n 0, 1) := by decide +kernel
theorem d_HR_run_94 : decode b_HR_run 94 = .ok (.getfield 45, 3) := by decide +kernel
theorem d_HR_run_97 : decode b_HR_run 97 = .ok (.iload_n 3, 1) := by decide +kernel
theorem d_HR_run_98 : decode b_HR_run 98 = .ok (.iconst 1, 1) := by decide +kernel
theorem d_HR_run_99 : decode b_HR_run 99 = .ok (.iadd, 1) := by decide +kernel
theorem d_HR_run_100 : decode b_HR_run 100 = .ok (.iaload, 1) := by decide +kernel
theorem d_HR_run_101 : decode b_HR_run 101 = .ok (.iconst 2, 1) := by decide +kernel
theorem d_HR_run_102 : decode b_HR_run 102 = .ok (.irem, 1) := by decide +kernel
theorem d_HR_run_103 : decode b_HR_run 103 = .ok (.iconst 1, 1) := by decide +kernel
theorem d_HR_run_104 : decode b_HR_run 104 = .ok (.if_icmp .ne 23, 3) := by decide +kernel
theorem d_HR_run_107 : decode b_HR_run 107 = .ok (.aload_n 0, 1) := by decide +kernel
theorem d_HR_run_108 : decode b_HR_run 108 = .ok (.getfield 48, 3) := by decide +kernel
theorem d_HR_run_111 : decode b_HR_run 111 = .ok (.aload_n 0, 1) := by decide +kernel
theorem d_HR_run_112 : decode b_HR_run 112 = .ok (.getfield 51, 3) := by decide +kernel
theorem d_HR_run_115 : decode b_HR_run 115 = .ok (.iload_n 3, 1) := by decide +kernel
theorem d_HR_run_116 : decode b_HR_run 116 = .ok (.iastore, 1) := by decide +kernel
theorem d_HR_run_117 : decode b_HR_run 117 = .ok (.aload_n 0, 1) := by decide +kernel
theorem d_HR_run_118 : decode b_HR_run 118 = .ok (.dup, 1) := by decide +kernel
theorem d_HR_run_119 : decode b_HR_run 119 = .ok (.getfield 51, 3) := by decide +kernel
theorem d_HR_run_122 : decode b_HR_run 122 = .ok (.iconst 1, 1) := by decide +kernel
theorem d_HR_run_123 : decode b_HR_run 123 = .ok (.iadd, 1) := by decide +kernel
theorem d_HR_run_124 : decode b_HR_run 124 = .ok (.putfield 51, 3) := by decide +kernel
theorem d_HR_run_127 : decode b_HR_run 127 = .ok (.iinc 3 1, 3) := by decide +kernel
theorem d_HR_run_130 : decode b_HR_run 130 = .ok (.goto (-78), 3) := by decide +kernel
theorem d_HR_run_133 : decode b_HR_run 133 = .ok (.aload_n 0, 1) := by decide +kernel
theorem d_HR_run_134 : decode b_HR_run 134 = .ok (.getfield 51, 3) := by decide +kernel
theorem d_HR_run_137 : decode b_HR_run 137 = .ok (.ireturn, 1) := by decide +kernel
theorem d_HR_staysWhole_0 : decode b_HR_staysWhole 0 = .ok (.aload_n 0, 1) := by decide +kernel
theorem d_HR_staysWhole_1 : decode b_HR_staysWhole 1 = .ok (.getfield 39, 3) := by decide +kernel
theorem d_HR_staysWhole_4 : decode b_HR_staysWhole 4 = .ok (.ifCond .le 28, 3) := by decide +kernel
theorem d_HR_staysWhole_7 : decode b_HR_staysWhole 7 = .ok (.aload_n 1, 1) := by decide +kernel
theorem d_HR_staysWhole_8 : decode b_HR_staysWhole 8 = .ok (.getfield 95, 3) := by decide +kernel
theorem d_HR_staysWhole_11 : decode b_HR_staysWhole 11 = .ok (.ifCond .eq 21, 3) := by decide +kernel
theorem d_HR_staysWhole_14 : decode b_HR_staysWhole 14 = .ok (.aload_n 1, 1) := by decide +kernel
theorem d_HR_staysWhole_15 : decode b_HR_staysWhole 15 = .ok (.getfield 82, 3) := by decide +kernel
theorem d_HR_staysWhole_18 : decode b_HR_staysWhole 18 = .ok (.aload_n 0, 1) := by decide +kernel
theorem d_HR_staysWhole_19 : decode b_HR_staysWhole 19 = .ok (.getfield 36, 3) := by decide +kernel
theorem d_HR_staysWhole_22 : decode b_HR_staysWhole 22 = .ok (.iconst 0, 1) := by decide +kernel
theorem d_HR_staysWhole_23 : decode b_HR_staysWhole 23 = .ok (.iaload, 1) := by decide +kernel
theorem d_HR_staysWhole_24 : decode b_HR_staysWhole 24 = .ok (.baload, 1) := by decide +kernel
theorem d_HR_staysWhole_25 : decode b_HR_staysWhole 25 = .ok (.ifCond .eq 7, 3) := by decide +kernel
theorem d_HR_staysWhole_28 : decode b_HR_staysWhole 28 = .ok (.iconst 1, 1) := by decide +kernel
theorem d_HR_staysWhole_29 : decode b_HR_staysWhole 29 = .ok (.goto 4, 3) := by decide +kernel
theorem d_HR_staysWhole_32 : decode b_HR_staysWhole 32 = .ok (.iconst 0, 1) := by decide +kernel
theorem d_HR_staysWhole_33 : decode b_HR_staysWhole 33 = .ok (.ireturn, 1) := by decide +kernel
theorem d_HR_findRowDigits_0 : decode b_HR_findRowDigits 0 = .ok (.aload_n 0, 1) := by decide +kernel
theorem d_HR_findRowDigits_1 : decode b_HR_findRowDigits 1 = .ok (.getfield 45, 3) := by decide +kernel
theorem d_HR_findRowDigits_4 : decode b_HR_findRowDigits 4 = .ok (.iconst 0, 1) := by decide +kernel
theorem d_HR_findRowDigits_5 : decode b_HR_findRowDigits 5 = .ok (.invokestatic 174, 3) := by decide +kernel
theorem d_HR_findRowDigits_8 : decode b_HR_findRowDigits 8 = .ok (.aload_n 0, 1) := by decide +kernel
theorem d_HR_findRowDigits_9 : decode b_HR_findRowDigits 9 = .ok (.iload_n 1, 1) := by decide +kernel
theorem d_HR_findRowDigits_10 : decode b_HR_findRowDigits 10 = .ok (.invokevirtual 127, 3) := by decide +kernel
theorem d_HR_findRowDigits_13 : decode b_HR_findRowDigits 13 = .ok (.istore_n 2, 1) := by decide +kernel
theorem d_HR_findRowDigits_14 : decode b_HR_findRowDigits 14 = .ok (.iload_n 2, 1) := by decide +kernel
theorem d_HR_findRowDigits_15 : decode b_HR_findRowDigits 15 = .ok (.iconst (-1), 1) := by decide +kernel
theorem d_HR_findRowDigits_16 : decode b_HR_findRowDigits 16 = .ok (.if_icmp .eq 22, 3) := by decide +kernel
theorem d_HR_findRowDigits_19 : decode b_HR_findRowDigits 19 = .ok (.aload_n 0, 1) := by decide +kernel
theorem d_HR_findRowDigits_20 : decode b_HR_findRowDigits 20 = .ok (.aload_n 0, 1) := by decide +kernel
theorem d_HR_findRowDigits_21 : decode b_HR_findRowDigits 21 = .ok (.getfield 19, 3) := by decide +kernel
theorem d_HR_findRowDigits_24 : decode b_HR_findRowDigits 24 = .ok (.iload_n 2, 1) := by decide +kernel
theorem d_HR_findRowDigits_25 : decode b_HR_findRowDigits 25 = .ok (.invokevirtual 75, 3) := by decide +kernel
theorem d_HR_findRowDigits_28 : decode b_HR_findRowDigits 28 = .ok (.checkcast 131, 3) := by decide +kernel
theorem d_HR_findRowDigits_31 : decode b_HR_findRowDigits 31 = .ok (.getfield 133, 3) := by decide +kernel
theorem d_HR_findRowDigits_34 : decode b_HR_findRowDigits 34 = .ok (.invokevirtual 178, 3) := by decide +kernel
theorem d_HR_findRowDigits_37 : decode b_HR_findRowDigits 37 = .ok (.return_, 1) := by decide +kernel
theorem d_HR_findRowDigits_38 : decode b_HR_findRowDigits 38 = .ok (.iconst 0, 1) := by decide +kernel
theorem d_HR_findRowDigits_39 : decode b_HR_findRowDigits 39 = .ok (.istore_n 3, 1) := by decide +kernel
theorem d_HR_findRowDigits_40 : decode b_HR_findRowDigits 40 = .ok (.iload_n 3, 1) := by decide +kernel
theorem d_HR_findRowDigits_41 : decode b_HR_findRowDigits 41 = .ok (.aload_n 0, 1) := by decide +kernel
theorem d_HR_findRowDigits_42 : decode b_HR_findRowDigits 42 = .ok (.getfield 16, 3) := by decide +kernel
theorem d_HR_findRowDigits_45 : decode b_HR_findRowDigits 45 = .ok (.invokevirtual 54, 3) := by decide +kernel
theorem d_HR_findRowDigits_48 : decode b_HR_findRowDigits 48 = .ok (.if_icmp .ge 37, 3) := by decide +kernel
theorem d_HR_findRowDigits_51 : decode b_HR_findRowDigits 51 = .ok (.aload_n 0, 1) := by decide +kernel
theorem d_HR_findRowDigits_52 : decode b_HR_findRowDigits 52 = .ok (.getfield 16, 3) := by decide +kernel
theorem d_HR_findRowDigits_55 : decode b_HR_findRowDigits 55 = .ok (.iload_n 3, 1) := by decide +kernel
theorem d_HR_findRowDigits_56 : decode b_HR_findRowDigits 56 = .ok (.invokevirtual 75, 3) := by decide +kernel
theorem d_HR_findRowDigits_59 : decode b_HR_findRowDigits 59 = .ok (.checkcast 109, 3) := by decide +kernel
theorem d_HR_findRowDigits_62 : decode b_HR_findRowDigits 62 = .ok (.astore 4, 2) := by decide +kernel
theorem d_HR_findRowDigits_64 : decode b_HR_findRowDigits 64 = .ok (.aload 4, 2) := by decide +kernel
theorem d_HR_findRowDigits_66 : decode b_HR_findRowDigits 66 = .ok (.getfield 155, 3) := by decide +kernel
theorem d_HR_findRowDigits_69 : decode b_HR_findRowDigits 69 = .ok (.iload_n 1, 1) := by decide +kernel
theorem d_HR_findRowDigits_70 : decode b_HR_findRowDigits 70 = .ok (.if_icmp .ne 9, 3) := by decide +kernel
theorem d_HR_findRowDigits_73 : decode b_HR_findRowDigits 73 = .ok (.aload_n 0, 1) := by decide +kernel
theorem d_HR_findRowDigits_74 : decode b_HR_findRowDigits 74 = .ok (.aload 4, 2) := by decide +kernel
theorem d_HR_findRowDigits_76 : decode b_HR_findRowDigits 76 = .ok (.invokevirtual 181, 3) := by decide +kernel
theorem d_HR_findRowDigits_79 : decode b_HR_findRowDigits 79 = .ok (.iinc 3 1, 3) := by decide +kernel
theorem d_HR_findRowDigits_82 : decode b_HR_findRowDigits 82 = .ok (.goto (-42), 3) := by decide +kernel
theorem d_HR_findRowDigits_85 : decode b_HR_findRowDigits 85 = .ok (.return_, 1) := by decide +kernel
theorem d_HR_takeToldPlaces_0 : decode b_HR_takeToldPlaces 0 = .ok (.iconst 0, 1) := by decide +kernel
theorem d_HR_takeToldPlaces_1 : decode b_HR_takeToldPlaces 1 = .ok (.istore_n 2, 1) := by decide +kernel
theorem d_HR_takeToldPlaces_2 : decode b_HR_takeToldPlaces 2 = .ok (.iload_n 2, 1) := by decide +kernel
theorem d_HR_takeToldPlaces_3 : decode b_HR_takeToldPlaces 3 = .ok (.aload_n 0, 1) := by decide +kernel
theorem d_HR_takeToldPlaces_4 : decode b_HR_takeToldPlaces 4 = .ok (.getfield 39, 3) := by decide +kernel
theorem d_HR_takeToldPlaces_7 : decode b_HR_takeToldPlaces 7 = .ok (.if_icmp .gt 22, 3) := by decide +kernel
theorem d_HR_takeToldPlaces_10 : decode b_HR_takeToldPlaces 10 = .ok (.aload_n 0, 1) := by decide +kernel
theorem d_HR_takeToldPlaces_11 : decode b_HR_takeToldPlaces 11 = .ok (.getfield 45, 3) := by decide +kernel
theorem d_HR_takeToldPlaces_14 : decode b_HR_takeToldPlaces 14 = .ok (.iload_n 2, 1) := by decide +kernel
theorem d_HR_takeToldPlaces_15 : decode b_HR_takeToldPlaces 15 = .ok (.iconst 1, 1) := by decide +kernel
theorem d_HR_takeToldPlaces_16 : decode b_HR_takeToldPlaces 16 = .ok (.iadd, 1) := by decide +kernel
theorem d_HR_takeToldPlaces_17 : decode b_HR_takeToldPlaces 17 = .ok (.iload_n 1, 1) := by decide +kernel
theorem d_HR_takeToldPlaces_18 : decode b_HR_takeToldPlaces 18 = .ok (.iload_n 2, 1) := by decide +kernel
theorem d_HR_takeToldPlaces_19 : decode b_HR_takeToldPlaces 19 = .ok (.iushr, 1) := by decide +kernel
theorem d_HR_takeToldPlaces_20 : decode b_HR_takeToldPlaces 20 = .ok (.iconst 1, 1) := by decide +kernel
theorem d_HR_takeToldPlaces_21 : decode b_HR_takeToldPlaces 21 = .ok (.iand, 1) := by decide +kernel
theorem d_HR_takeToldPlaces_22 : decode b_HR_takeToldPlaces 22 = .ok (.iastore, 1) := by decide +kernel
theorem d_HR_takeToldPlaces_23 : decode b_HR_takeToldPlaces 23 = .ok (.iinc 2 1, 3) := by decide +kernel
theorem d_HR_takeToldPlaces_26 : decode b_HR_takeToldPlaces 26 = .ok (.goto (-24), 3) := by decide +kernel
theorem d_HR_takeToldPlaces_29 : decode b_HR_takeToldPlaces 29 = .ok (.return_, 1) := by decide +kernel
theorem d_HR_layOverRow_0 : decode b_HR_layOverRow 0 = .ok (.aload_n 0, 1) := by decide +kernel
theorem d_HR_layOverRow_1 : decode b_HR_layOverRow 1 = .ok (.getfield 39, 3) := by decide +kernel
theorem d_HR_layOverRow_4 : decode b_HR_layOverRow 4 = .ok (.iconst 2, 1) := by decide +kernel
theorem d_HR_layOverRow_5 : decode b_HR_layOverRow 5 = .ok (.iadd, 1) := by decide +kernel
theorem d_HR_layOverRow_6 : decode b_HR_layOverRow 6 = .ok (.aload_n 1, 1) := by decide +kernel
theorem d_HR_layOverRow_7 : decode b_HR_layOverRow 7 = .ok (.getfield 158, 3) := by decide +kernel
theorem d_HR_layOverRow_10 : decode b_HR_layOverRow 10 = .ok (.arraylength, 1) := by decide +kernel
theorem d_HR_layOverRow_11 : decode b_HR_layOverRow 11 = .ok (.isub, 1) := by decide +kernel
theorem d_HR_layOverRow_12 : decode b_HR_layOverRow 12 = .ok (.istore_n 2, 1) := by decide +kernel
theorem d_HR_layOverRow_13 : decode b_HR_layOverRow 13 = .ok (.iconst 0, 1) := by decide +kernel
theorem d_HR_layOverRow_14 : decode b_HR_layOverRow 14 = .ok (.istore_n 3, 1) := by decide +kernel
theorem d_HR_layOverRow_15 : decode b_HR_layOverRow 15 = .ok (.iload_n 3, 1) := by decide +kernel
theorem d_HR_layOverRow_16 : decode b_HR_layOverRow 16 = .ok (.iload_n 2, 1) := by decide +kernel
theorem d_HR_layOverRow_17 : decode b_HR_layOverRow 17 = .ok (.if_icmp .gt 33, 3) := by decide +kernel
theorem d_HR_layOverRow_20 : decode b_HR_layOverRow 20 = .ok (.aload_n 1, 1) := by decide +kernel
theorem d_HR_layOverRow_21 : decode b_HR_layOverRow 21 = .ok (.getfield 158, 3) := by decide +kernel
theorem d_HR_layOverRow_24 : decode b_HR_layOverRow 24 = .ok (.aload_n 0, 1) := by decide +kernel
theorem d_HR_layOverRow_25 : decode b_HR_layOverRow 25 = .ok (.getfield 42, 3) := by decide +kernel
theorem d_HR_layOverRow_28 : decode b_HR_layOverRow 28 = .ok (.iload_n 3, 1) := by decide +kernel
theorem d_HR_layOverRow_29 : decode b_HR_layOverRow 29 = .ok (.invokestatic 161, 3) := by decide +kernel
theorem d_HR_layOverRow_32 : decode b_HR_layOverRow 32 = .ok (.ifCond .eq 12, 3) := by decide +kernel
theorem d_HR_layOverRow_35 : decode b_HR_layOverRow 35 = .ok (.aload_n 0, 1) := by decide +kernel
theorem d_HR_layOverRow_36 : decode b_HR_layOverRow 36 = .ok (.aload_n 1, 1) := by decide +kernel
theorem d_HR_layOverRow_37 : decode b_HR_layOverRow 37 = .ok (.getfield 111, 3) := by decide +kernel
theorem d_HR_layOverRow_40 : decode b_HR_layOverRow 40 = .ok (.iload_n 3, 1) := by decide +kernel
theorem d_HR_layOverRow_41 : decode b_HR_layOverRow 41 = .ok (.invokevirtual 185, 3) := by decide +kernel
theorem d_HR_layOverRow_44 : decode b_HR_layOverRow 44 = .ok (.iinc 3 1, 3) := by decide +kernel
theorem d_HR_layOverRow_47 : decode b_HR_layOverRow 47 = .ok (.goto (-32), 3) := by decide +kernel
theorem d_HR_layOverRow_50 : decode b_HR_layOverRow 50 = .ok (.return_, 1) := by decide +kernel
theorem d_HR_raiseDigits_0 : decode b_HR_raiseDigits 0 = .ok (.iconst 0, 1) := by decide +kernel
theorem d_HR_raiseDigits_1 : decode b_HR_raiseDigits 1 = .ok (.istore_n 3, 1) := by decide +kernel
theorem d_HR_raiseDigits_2 : decode b_HR_raiseDigits 2 = .ok (.iload_n 3, 1) := by decide +kernel
theorem d_HR_raiseDigits_3 : decode b_HR_raiseDigits 3 = .ok (.aload_n 1, 1) := by decide +kernel
theorem d_HR_raiseDigits_4 : decode b_HR_raiseDigits 4 = .ok (.arraylength, 1) := by decide +kernel
theorem d_HR_raiseDigits_5 : decode b_HR_raiseDigits 5 = .ok (.if_icmp .ge 31, 3) := by decide +kernel
theorem d_HR_raiseDigits_8 : decode b_HR_raiseDigits 8 = .ok (.aload_n 0, 1) := by decide +kernel
theorem d_HR_raiseDigits_9 : decode b_HR_raiseDigits 9 = .ok (.getfield 45, 3) := by decide +kernel
theorem d_HR_raiseDigits_12 : decode b_HR_raiseDigits 12 = .ok (.iload_n 2, 1) := by decide +kernel
theorem d_HR_raiseDigits_13 : decode b_HR_raiseDigits 13 = .ok (.iload_n 3, 1) := by decide +kernel
theorem d_HR_raiseDigits_14 : decode b_HR_raiseDigits 14 = .ok (.iadd, 1) := by decide +kernel
theorem d_HR_raiseDigits_15 : decode b_HR_raiseDigits 15 = .ok (.aload_n 0, 1) := by decide +kernel
theorem d_HR_raiseDigits_16 : decode b_HR_raiseDigits 16 = .ok (.getfield 45, 3) := by decide +kernel
theorem d_HR_raiseDigits_19 : decode b_HR_raiseDigits 19 = .ok (.iload_n 2, 1) := by decide +kernel
theorem d_HR_raiseDigits_20 : decode b_HR_raiseDigits 20 = .ok (.iload_n 3, 1) := by decide +kernel
theorem d_HR_raiseDigits_21 : decode b_HR_raiseDigits 21 = .ok (.iadd, 1) := by decide +kernel
theorem d_HR_raiseDigits_22 : decode b_HR_raiseDigits 22 = .ok (.iaload, 1) := by decide +kernel
theorem d_HR_raiseDigits_23 : decode b_HR_raiseDigits 23 = .ok (.aload_n 1, 1) := by decide +kernel
theorem d_HR_raiseDigits_24 : decode b_HR_raiseDigits 24 = .ok (.iload_n 3, 1) := by decide +kernel
theorem d_HR_raiseDigits_25 : decode b_HR_raiseDigits 25 = .ok (.iaload, 1) := by decide +kernel
theorem d_HR_raiseDigits_26 : decode b_HR_raiseDigits 26 = .ok (.invokestatic 188, 3) := by decide +kernel
theorem d_HR_raiseDigits_29 : decode b_HR_raiseDigits 29 = .ok (.iastore, 1) := by decide +kernel
theorem d_HR_raiseDigits_30 : decode b_HR_raiseDigits 30 = .ok (.iinc 3 1, 3) := by decide +kernel
theorem d_HR_raiseDigits_33 : decode b_HR_raiseDigits 33 = .ok (.goto (-31), 3) := by decide +kernel
theorem d_HR_raiseDigits_36 : decode b_HR_raiseDigits 36 = .ok (.return_, 1) := by decide +kernel
theorem d_HR_at_0 : decode b_HR_at 0 = .ok (.iload_n 1, 1) := by decide +kernel
theorem d_HR_at_1 : decode b_HR_at 1 = .ok (.ifCond .lt 11, 3) := by decide +kernel
theorem d_HR_at_4 : decode b_HR_at 4 = .ok (.iload_n 1, 1) := by decide +kernel
theorem d_HR_at_5 : decode b_HR_at 5 = .ok (.aload_n 0, 1) := by decide +kernel
theorem d_HR_at_6 : decode b_HR_at 6 = .ok (.getfield 51, 3) := by decide +kernel
theorem d_HR_at_9 : decode b_HR_at 9 = .ok (.if_icmp .lt 5, 3) := by decide +kernel
theorem d_HR_at_12 : decode b_HR_at 12 = .ok (.iconst (-1), 1) := by decide +kernel
theorem d_HR_at_13 : decode b_HR_at 13 = .ok (.ireturn, 1) := by decide +kernel
theorem d_HR_at_14 : decode b_HR_at 14 = .ok (.aload_n 0, 1) := by decide +kernel
theorem d_HR_at_15 : decode b_HR_at 15 = .ok (.getfield 48, 3) := by decide +kernel
theorem d_HR_at_18 : decode b_HR_at 18 = .ok (.iload_n 1, 1) := by decide +kernel
theorem d_HR_at_19 : decode b_HR_at 19 = .ok (.iaload, 1) := by decide +kernel
theorem d_HR_at_20 : decode b_HR_at 20 = .ok (.ireturn, 1) := by decide +kernel
theorem d_HR_digit_0 : decode b_HR_digit 0 = .ok (.aload_n 0, 1) := by decide +kernel
theorem d_HR_digit_1 : decode b_HR_digit 1 = .ok (.iload_n 1, 1) := by decide +kernel
theorem d_HR_digit_2 : decode b_HR_digit 2 = .ok (.invokevirtual 65, 3) := by decide +kernel
theorem d_HR_digit_5 : decode b_HR_digit 5 = .ok (.ifCond .eq 15, 3) := by decide +kernel
theorem d_HR_digit_8 : decode b_HR_digit 8 = .ok (.iload_n 2, 1) := by decide +kernel
theorem d_HR_digit_9 : decode b_HR_digit 9 = .ok (.ifCond .lt 11, 3) := by decide +kernel
theorem d_HR_digit_12 : decode b_HR_digit 12 = .ok (.iload_n 2, 1) := by decide +kernel
theorem d_HR_digit_13 : decode b_HR_digit 13 = .ok (.aload_n 0, 1) := by decide +kernel
theorem d_HR_digit_14 : decode b_HR_digit 14 = .ok (.getfield 39, 3) := by decide +kernel
theorem d_HR_digit_17 : decode b_HR_digit 17 = .ok (.if_icmp .le 5, 3) := by decide +kernel
theorem d_HR_digit_20 : decode b_HR_digit 20 = .ok (.iconst (-1), 1) := by decide +kernel
theorem d_HR_digit_21 : decode b_HR_digit 21 = .ok (.ireturn, 1) := by decide +kernel
theorem d_HR_digit_22 : decode b_HR_digit 22 = .ok (.aload_n 0, 1) := by decide +kernel
theorem d_HR_digit_23 : decode b_HR_digit 23 = .ok (.aload_n 0, 1) := by decide +kernel
theorem d_HR_digit_24 : decode b_HR_digit 24 = .ok (.getfield 10, 3) := by decide +kernel
theorem d_HR_digit_27 : decode b_HR_digit 27 = .ok (.iload_n 1, 1) := by decide +kernel
theorem d_HR_digit_28 : decode b_HR_digit 28 = .ok (.invokevirtual 75, 3) := by decide +kernel
theorem d_HR_digit_31 : decode b_HR_digit 31 = .ok (.checkcast 58, 3) := by decide +kernel
theorem d_HR_digit_34 : decode b_HR_digit 34 = .ok (.invokevirtual 123, 3) := by decide +kernel
theorem d_HR_digit_37 : decode b_HR_digit 37 = .ok (.ifCond .ne 5, 3) := by decide +kernel
theorem d_HR_digit_40 : decode b_HR_digit 40 = .ok (.iconst 0, 1) := by decide +kernel
theorem d_HR_digit_41 : decode b_HR_digit 41 = .ok (.ireturn, 1) := by decide +kernel
theorem d_HR_digit_42 : decode b_HR_digit 42 = .ok (.aload_n 0, 1) := by decide +kernel
theorem d_HR_digit_43 : decode b_HR_digit 43 = .ok (.iload_n 1, 1) := by decide +kernel
theorem d_HR_digit_44 : decode b_HR_digit 44 = .ok (.invokevirtual 151, 3) := by decide +kernel
theorem d_HR_digit_47 : decode b_HR_digit 47 = .ok (.aload_n 0, 1) := by decide +kernel
theorem d_HR_digit_48 : decode b_HR_digit 48 = .ok (.getfield 45, 3) := by decide +kernel
theorem d_HR_digit_51 : decode b_HR_digit 51 = .ok (.iload_n 2, 1) := by decide +kernel
theorem d_HR_digit_52 : decode b_HR_digit 52 = .ok (.iconst 1, 1) := by decide +kernel
theorem d_HR_digit_53 : decode b_HR_digit 53 = .ok (.iadd, 1) := by decide +kernel
theorem d_HR_digit_54 : decode b_HR_digit 54 = .ok (.iaload, 1) := by decide +kernel
theorem d_HR_digit_55 : decode b_HR_digit 55 = .ok (.ireturn, 1) := by decide +kernel
theorem d_HR_patterns_0 : decode b_HR_patterns 0 = .ok (.aload_n 0, 1) := by decide +kernel
theorem d_HR_patterns_1 : decode b_HR_patterns 1 = .ok (.getfield 16, 3) := by decide +kernel
theorem d_HR_patterns_4 : decode b_HR_patterns 4 = .ok (.invokevirtual 54, 3) := by decide +kernel
theorem d_HR_patterns_7 : decode b_HR_patterns 7 = .ok (.ireturn, 1) := by decide +kernel
theorem d_HR_exceptions_0 : decode b_HR_exceptions 0 = .ok (.aload_n 0, 1) := by decide +kernel
theorem d_HR_exceptions_1 : decode b_HR_exceptions 1 = .ok (.getfield 19, 3) := by decide +kernel
theorem d_HR_exceptions_4 : decode b_HR_exceptions 4 = .ok (.invokevirtual 54, 3) := by decide +kernel
theorem d_HR_exceptions_7 : decode b_HR_exceptions 7 = .ok (.ireturn, 1) := by decide +kernel
