theorem dX2_init_0 : decode cX2_init 0 = .ok (.aload_n 0, 1) := by decide +kernel
theorem dX2_init_1 : decode cX2_init 1 = .ok (.invokespecial 1, 3) := by decide +kernel
theorem dX2_init_4 : decode cX2_init 4 = .ok (.aload_n 0, 1) := by decide +kernel
theorem dX2_init_5 : decode cX2_init 5 = .ok (.iconst 4, 1) := by decide +kernel
theorem dX2_init_6 : decode cX2_init 6 = .ok (.anewarray 9, 3) := by decide +kernel
theorem dX2_init_9 : decode cX2_init 9 = .ok (.putfield 11, 3) := by decide +kernel
theorem dX2_init_12 : decode cX2_init 12 = .ok (.iconst 0, 1) := by decide +kernel
theorem dX2_init_13 : decode cX2_init 13 = .ok (.istore_n 1, 1) := by decide +kernel
theorem dX2_init_14 : decode cX2_init 14 = .ok (.iload_n 1, 1) := by decide +kernel
theorem dX2_init_15 : decode cX2_init 15 = .ok (.iconst 4, 1) := by decide +kernel
theorem dX2_init_16 : decode cX2_init 16 = .ok (.if_icmp .ge 22, 3) := by decide +kernel
theorem dX2_init_19 : decode cX2_init 19 = .ok (.aload_n 0, 1) := by decide +kernel
theorem dX2_init_20 : decode cX2_init 20 = .ok (.getfield 11, 3) := by decide +kernel
theorem dX2_init_23 : decode cX2_init 23 = .ok (.iload_n 1, 1) := by decide +kernel
theorem dX2_init_24 : decode cX2_init 24 = .ok (.new 9, 3) := by decide +kernel
theorem dX2_init_27 : decode cX2_init 27 = .ok (.dup, 1) := by decide +kernel
theorem dX2_init_28 : decode cX2_init 28 = .ok (.invokespecial 15, 3) := by decide +kernel
theorem dX2_init_31 : decode cX2_init 31 = .ok (.aastore, 1) := by decide +kernel
theorem dX2_init_32 : decode cX2_init 32 = .ok (.iinc 1 1, 3) := by decide +kernel
theorem dX2_init_35 : decode cX2_init 35 = .ok (.goto (-21), 3) := by decide +kernel
theorem dX2_init_38 : decode cX2_init 38 = .ok (.aload_n 0, 1) := by decide +kernel
theorem dX2_init_39 : decode cX2_init 39 = .ok (.bipush 10, 2) := by decide +kernel
theorem dX2_init_41 : decode cX2_init 41 = .ok (.newarray .int, 2) := by decide +kernel
theorem dX2_init_43 : decode cX2_init 43 = .ok (.putfield 16, 3) := by decide +kernel
theorem dX2_init_46 : decode cX2_init 46 = .ok (.aload_n 0, 1) := by decide +kernel
theorem dX2_init_47 : decode cX2_init 47 = .ok (.getfield 16, 3) := by decide +kernel
theorem dX2_init_50 : decode cX2_init 50 = .ok (.bipush 8, 2) := by decide +kernel
theorem dX2_init_52 : decode cX2_init 52 = .ok (.bipush 16, 2) := by decide +kernel
theorem dX2_init_54 : decode cX2_init 54 = .ok (.iastore, 1) := by decide +kernel
theorem dX2_init_55 : decode cX2_init 55 = .ok (.aload_n 0, 1) := by decide +kernel
theorem dX2_init_56 : decode cX2_init 56 = .ok (.getfield 16, 3) := by decide +kernel
theorem dX2_init_59 : decode cX2_init 59 = .ok (.bipush 9, 2) := by decide +kernel
theorem dX2_init_61 : decode cX2_init 61 = .ok (.bipush 16, 2) := by decide +kernel
theorem dX2_init_63 : decode cX2_init 63 = .ok (.iastore, 1) := by decide +kernel
theorem dX2_init_64 : decode cX2_init 64 = .ok (.aload_n 0, 1) := by decide +kernel
theorem dX2_init_65 : decode cX2_init 65 = .ok (.new 20, 3) := by decide +kernel
theorem dX2_init_68 : decode cX2_init 68 = .ok (.dup, 1) := by decide +kernel
theorem dX2_init_69 : decode cX2_init 69 = .ok (.invokespecial 22, 3) := by decide +kernel
theorem dX2_init_72 : decode cX2_init 72 = .ok (.putfield 23, 3) := by decide +kernel
theorem dX2_init_75 : decode cX2_init 75 = .ok (.aload_n 0, 1) := by decide +kernel
theorem dX2_init_76 : decode cX2_init 76 = .ok (.new 20, 3) := by decide +kernel
theorem dX2_init_79 : decode cX2_init 79 = .ok (.dup, 1) := by decide +kernel
theorem dX2_init_80 : decode cX2_init 80 = .ok (.invokespecial 22, 3) := by decide +kernel
theorem dX2_init_83 : decode cX2_init 83 = .ok (.putfield 27, 3) := by decide +kernel
theorem dX2_init_86 : decode cX2_init 86 = .ok (.aload_n 0, 1) := by decide +kernel
theorem dX2_init_87 : decode cX2_init 87 = .ok (.aload_n 0, 1) := by decide +kernel
theorem dX2_init_88 : decode cX2_init 88 = .ok (.getfield 11, 3) := by decide +kernel
theorem dX2_init_91 : decode cX2_init 91 = .ok (.iconst 0, 1) := by decide +kernel
theorem dX2_init_92 : decode cX2_init 92 = .ok (.aaload, 1) := by decide +kernel
theorem dX2_init_93 : decode cX2_init 93 = .ok (.putfield 30, 3) := by decide +kernel
theorem dX2_init_96 : decode cX2_init 96 = .ok (.aload_n 0, 1) := by decide +kernel
theorem dX2_init_97 : decode cX2_init 97 = .ok (.aconst_null, 1) := by decide +kernel
theorem dX2_init_98 : decode cX2_init 98 = .ok (.putfield 34, 3) := by decide +kernel
theorem dX2_init_101 : decode cX2_init 101 = .ok (.aload_n 0, 1) := by decide +kernel
theorem dX2_init_102 : decode cX2_init 102 = .ok (.aconst_null, 1) := by decide +kernel
theorem dX2_init_103 : decode cX2_init 103 = .ok (.putfield 37, 3) := by decide +kernel
theorem dX2_init_106 : decode cX2_init 106 = .ok (.aload_n 0, 1) := by decide +kernel
theorem dX2_init_107 : decode cX2_init 107 = .ok (.iconst 3, 1) := by decide +kernel
theorem dX2_init_108 : decode cX2_init 108 = .ok (.putfield 40, 3) := by decide +kernel
theorem dX2_init_111 : decode cX2_init 111 = .ok (.return_, 1) := by decide +kernel
theorem dX2_form_0 : decode cX2_form 0 = .ok (.iload_n 2, 1) := by decide +kernel
theorem dX2_form_1 : decode cX2_form 1 = .ok (.iload_n 3, 1) := by decide +kernel
theorem dX2_form_2 : decode cX2_form 2 = .ok (.invokestatic 44, 3) := by decide +kernel
theorem dX2_form_5 : decode cX2_form 5 = .ok (.istore 4, 2) := by decide +kernel
theorem dX2_form_7 : decode cX2_form 7 = .ok (.iload_n 1, 1) := by decide +kernel
theorem dX2_form_8 : decode cX2_form 8 = .ok (.invokestatic 48, 3) := by decide +kernel
theorem dX2_form_11 : decode cX2_form 11 = .ok (.ifCond .eq 9, 3) := by decide +kernel
theorem dX2_form_14 : decode cX2_form 14 = .ok (.iload 4, 2) := by decide +kernel
theorem dX2_form_16 : decode cX2_form 16 = .ok (.iconst (-1), 1) := by decide +kernel
theorem dX2_form_17 : decode cX2_form 17 = .ok (.if_icmp .ne 5, 3) := by decide +kernel
theorem dX2_form_20 : decode cX2_form 20 = .ok (.iconst (-1), 1) := by decide +kernel
theorem dX2_form_21 : decode cX2_form 21 = .ok (.ireturn, 1) := by decide +kernel
theorem dX2_form_22 : decode cX2_form 22 = .ok (.aload_n 0, 1) := by decide +kernel
theorem dX2_form_23 : decode cX2_form 23 = .ok (.getfield 11, 3) := by decide +kernel
theorem dX2_form_26 : decode cX2_form 26 = .ok (.iload_n 1, 1) := by decide +kernel
theorem dX2_form_27 : decode cX2_form 27 = .ok (.aaload, 1) := by decide +kernel
theorem dX2_form_28 : decode cX2_form 28 = .ok (.iload_n 2, 1) := by decide +kernel
theorem dX2_form_29 : decode cX2_form 29 = .ok (.iload_n 3, 1) := by decide +kernel
theorem dX2_form_30 : decode cX2_form 30 = .ok (.iload 4, 2) := by decide +kernel
theorem dX2_form_32 : decode cX2_form 32 = .ok (.invokevirtual 52, 3) := by decide +kernel
theorem dX2_form_35 : decode cX2_form 35 = .ok (.iload 4, 2) := by decide +kernel
theorem dX2_form_37 : decode cX2_form 37 = .ok (.ireturn, 1) := by decide +kernel
theorem dX2_put_0 : decode cX2_put 0 = .ok (.iload_n 1, 1) := by decide +kernel
theorem dX2_put_1 : decode cX2_put 1 = .ok (.invokestatic 48, 3) := by decide +kernel
theorem dX2_put_4 : decode cX2_put 4 = .ok (.ifCond .eq 16, 3) := by decide +kernel
theorem dX2_put_7 : decode cX2_put 7 = .ok (.aload_n 0, 1) := by decide +kernel
theorem dX2_put_8 : decode cX2_put 8 = .ok (.getfield 11, 3) := by decide +kernel
theorem dX2_put_11 : decode cX2_put 11 = .ok (.iload_n 1, 1) := by decide +kernel
theorem dX2_put_12 : decode cX2_put 12 = .ok (.aaload, 1) := by decide +kernel
theorem dX2_put_13 : decode cX2_put 13 = .ok (.iload_n 2, 1) := by decide +kernel
theorem dX2_put_14 : decode cX2_put 14 = .ok (.invokevirtual 56, 3) := by decide +kernel
theorem dX2_put_17 : decode cX2_put 17 = .ok (.ifCond .ne 5, 3) := by decide +kernel
theorem dX2_put_20 : decode cX2_put 20 = .ok (.iconst 0, 1) := by decide +kernel
theorem dX2_put_21 : decode cX2_put 21 = .ok (.ireturn, 1) := by decide +kernel
theorem dX2_put_22 : decode cX2_put 22 = .ok (.aload_n 0, 1) := by decide +kernel
theorem dX2_put_23 : decode cX2_put 23 = .ok (.getfield 11, 3) := by decide +kernel
theorem dX2_put_26 : decode cX2_put 26 = .ok (.iload_n 1, 1) := by decide +kernel
theorem dX2_put_27 : decode cX2_put 27 = .ok (.aaload, 1) := by decide +kernel
theorem dX2_put_28 : decode cX2_put 28 = .ok (.iload_n 2, 1) := by decide +kernel
theorem dX2_put_29 : decode cX2_put 29 = .ok (.iload_n 3, 1) := by decide +kernel
theorem dX2_put_30 : decode cX2_put 30 = .ok (.invokevirtual 59, 3) := by decide +kernel
theorem dX2_put_33 : decode cX2_put 33 = .ok (.iconst 1, 1) := by decide +kernel
theorem dX2_put_34 : decode cX2_put 34 = .ok (.ireturn, 1) := by decide +kernel
theorem dX2_word_0 : decode cX2_word 0 = .ok (.iload_n 1, 1) := by decide +kernel
theorem dX2_word_1 : decode cX2_word 1 = .ok (.invokestatic 48, 3) := by decide +kernel
theorem dX2_word_4 : decode cX2_word 4 = .ok (.ifCond .eq 16, 3) := by decide +kernel
theorem dX2_word_7 : decode cX2_word 7 = .ok (.aload_n 0, 1) := by decide +kernel
theorem dX2_word_8 : decode cX2_word 8 = .ok (.getfield 11, 3) := by decide +kernel
theorem dX2_word_11 : decode cX2_word 11 = .ok (.iload_n 1, 1) := by decide +kernel
theorem dX2_word_12 : decode cX2_word 12 = .ok (.aaload, 1) := by decide +kernel
theorem dX2_word_13 : decode cX2_word 13 = .ok (.iload_n 2, 1) := by decide +kernel
theorem dX2_word_14 : decode cX2_word 14 = .ok (.invokevirtual 56, 3) := by decide +kernel
theorem dX2_word_17 : decode cX2_word 17 = .ok (.ifCond .ne 5, 3) := by decide +kernel
theorem dX2_word_20 : decode cX2_word 20 = .ok (.iconst (-1), 1) := by decide +kernel
theorem dX2_word_21 : decode cX2_word 21 = .ok (.ireturn, 1) := by decide +kernel
theorem dX2_word_22 : decode cX2_word 22 = .ok (.aload_n 0, 1) := by decide +kernel
theorem dX2_word_23 : decode cX2_word 23 = .ok (.getfield 11, 3) := by decide +kernel
theorem dX2_word_26 : decode cX2_word 26 = .ok (.iload_n 1, 1) := by decide +kernel
theorem dX2_word_27 : decode cX2_word 27 = .ok (.aaload, 1) := by decide +kernel
theorem dX2_word_28 : decode cX2_word 28 = .ok (.getfield 63, 3) := by decide +kernel
theorem dX2_word_31 : decode cX2_word 31 = .ok (.iload_n 2, 1) := by decide +kernel
theorem dX2_word_32 : decode cX2_word 32 = .ok (.iaload, 1) := by decide +kernel
theorem dX2_word_33 : decode cX2_word 33 = .ok (.ireturn, 1) := by decide +kernel
theorem dX2_bit_0 : decode cX2_bit 0 = .ok (.iload_n 1, 1) := by decide +kernel
theorem dX2_bit_1 : decode cX2_bit 1 = .ok (.invokestatic 48, 3) := by decide +kernel
theorem dX2_bit_4 : decode cX2_bit 4 = .ok (.ifCond .eq 17, 3) := by decide +kernel
theorem dX2_bit_7 : decode cX2_bit 7 = .ok (.aload_n 0, 1) := by decide +kernel
theorem dX2_bit_8 : decode cX2_bit 8 = .ok (.getfield 11, 3) := by decide +kernel
theorem dX2_bit_11 : decode cX2_bit 11 = .ok (.iload_n 1, 1) := by decide +kernel
theorem dX2_bit_12 : decode cX2_bit 12 = .ok (.aaload, 1) := by decide +kernel
theorem dX2_bit_13 : decode cX2_bit 13 = .ok (.iload_n 2, 1) := by decide +kernel
theorem dX2_bit_14 : decode cX2_bit 14 = .ok (.iload_n 3, 1) := by decide +kernel
theorem dX2_bit_15 : decode cX2_bit 15 = .ok (.invokevirtual 66, 3) := by decide +kernel
theorem dX2_bit_18 : decode cX2_bit 18 = .ok (.ifCond .ne 5, 3) := by decide +kernel
theorem dX2_bit_21 : decode cX2_bit 21 = .ok (.iconst (-1), 1) := by decide +kernel
theorem dX2_bit_22 : decode cX2_bit 22 = .ok (.ireturn, 1) := by decide +kernel
theorem dX2_bit_23 : decode cX2_bit 23 = .ok (.aload_n 0, 1) := by decide +kernel
theorem dX2_bit_24 : decode cX2_bit 24 = .ok (.getfield 11, 3) := by decide +kernel
theorem dX2_bit_27 : decode cX2_bit 27 = .ok (.iload_n 1, 1) := by decide +kernel
theorem dX2_bit_28 : decode cX2_bit 28 = .ok (.aaload, 1) := by decide +kernel
theorem dX2_bit_29 : decode cX2_bit 29 = .ok (.iload_n 2, 1) := by decide +kernel
theorem dX2_bit_30 : decode cX2_bit 30 = .ok (.iload_n 3, 1) := by decide +kernel
theorem dX2_bit_31 : decode cX2_bit 31 = .ok (.invokevirtual 70, 3) := by decide +kernel
theorem dX2_bit_34 : decode cX2_bit 34 = .ok (.ireturn, 1) := by decide +kernel
theorem dX2_count_0 : decode cX2_count 0 = .ok (.iload_n 1, 1) := by decide +kernel
theorem dX2_count_1 : decode cX2_count 1 = .ok (.invokestatic 48, 3) := by decide +kernel
theorem dX2_count_4 : decode cX2_count 4 = .ok (.ifCond .eq 15, 3) := by decide +kernel
theorem dX2_count_7 : decode cX2_count 7 = .ok (.aload_n 0, 1) := by decide +kernel
theorem dX2_count_8 : decode cX2_count 8 = .ok (.getfield 11, 3) := by decide +kernel
theorem dX2_count_11 : decode cX2_count 11 = .ok (.iload_n 1, 1) := by decide +kernel
theorem dX2_count_12 : decode cX2_count 12 = .ok (.aaload, 1) := by decide +kernel
theorem dX2_count_13 : decode cX2_count 13 = .ok (.invokevirtual 73, 3) := by decide +kernel
theorem dX2_count_16 : decode cX2_count 16 = .ok (.goto 4, 3) := by decide +kernel
theorem dX2_count_19 : decode cX2_count 19 = .ok (.iconst (-1), 1) := by decide +kernel
theorem dX2_count_20 : decode cX2_count 20 = .ok (.ireturn, 1) := by decide +kernel
theorem dX2_same_0 : decode cX2_same 0 = .ok (.iload_n 1, 1) := by decide +kernel
theorem dX2_same_1 : decode cX2_same 1 = .ok (.invokestatic 48, 3) := by decide +kernel
theorem dX2_same_4 : decode cX2_same 4 = .ok (.ifCond .eq 32, 3) := by decide +kernel
theorem dX2_same_7 : decode cX2_same 7 = .ok (.iload_n 2, 1) := by decide +kernel
theorem dX2_same_8 : decode cX2_same 8 = .ok (.invokestatic 48, 3) := by decide +kernel
theorem dX2_same_11 : decode cX2_same 11 = .ok (.ifCond .eq 25, 3) := by decide +kernel
theorem dX2_same_14 : decode cX2_same 14 = .ok (.aload_n 0, 1) := by decide +kernel
theorem dX2_same_15 : decode cX2_same 15 = .ok (.getfield 11, 3) := by decide +kernel
theorem dX2_same_18 : decode cX2_same 18 = .ok (.iload_n 1, 1) := by decide +kernel
theorem dX2_same_19 : decode cX2_same 19 = .ok (.aaload, 1) := by decide +kernel
theorem dX2_same_20 : decode cX2_same 20 = .ok (.aload_n 0, 1) := by decide +kernel
theorem dX2_same_21 : decode cX2_same 21 = .ok (.getfield 11, 3) := by decide +kernel
theorem dX2_same_24 : decode cX2_same 24 = .ok (.iload_n 2, 1) := by decide +kernel
theorem dX2_same_25 : decode cX2_same 25 = .ok (.aaload, 1) := by decide +kernel
theorem dX2_same_26 : decode cX2_same 26 = .ok (.invokevirtual 77, 3) := by decide +kernel
theorem dX2_same_29 : decode cX2_same 29 = .ok (.ifCond .eq 7, 3) := by decide +kernel
theorem dX2_same_32 : decode cX2_same 32 = .ok (.iconst 1, 1) := by decide +kernel
theorem dX2_same_33 : decode cX2_same 33 = .ok (.goto 4, 3) := by decide +kernel
theorem dX2_same_36 : decode cX2_same 36 = .ok (.iconst 0, 1) := by decide +kernel
theorem dX2_same_37 : decode cX2_same 37 = .ok (.ireturn, 1) := by decide +kernel
theorem dX2_forms_0 : decode cX2_forms 0 = .ok (.iload_n 1, 1) := by decide +kernel
theorem dX2_forms_1 : decode cX2_forms 1 = .ok (.invokestatic 48, 3) := by decide +kernel
theorem dX2_forms_4 : decode cX2_forms 4 = .ok (.ifCond .eq 17, 3) := by decide +kernel
theorem dX2_forms_7 : decode cX2_forms 7 = .ok (.iload_n 2, 1) := by decide +kernel
theorem dX2_forms_8 : decode cX2_forms 8 = .ok (.invokestatic 81, 3) := by decide +kernel
theorem dX2_forms_11 : decode cX2_forms 11 = .ok (.ifCond .eq 10, 3) := by decide +kernel
theorem dX2_forms_14 : decode cX2_forms 14 = .ok (.iload_n 3, 1) := by decide +kernel
theorem dX2_forms_15 : decode cX2_forms 15 = .ok (.invokestatic 81, 3) := by decide +kernel
theorem dX2_forms_18 : decode cX2_forms 18 = .ok (.ifCond .ne 5, 3) := by decide +kernel
theorem dX2_forms_21 : decode cX2_forms 21 = .ok (.iconst 0, 1) := by decide +kernel
theorem dX2_forms_22 : decode cX2_forms 22 = .ok (.ireturn, 1) := by decide +kernel
theorem dX2_forms_23 : decode cX2_forms 23 = .ok (.aload_n 0, 1) := by decide +kernel
theorem dX2_forms_24 : decode cX2_forms 24 = .ok (.iload_n 3, 1) := by decide +kernel
theorem dX2_forms_25 : decode cX2_forms 25 = .ok (.invokevirtual 84, 3) := by decide +kernel
theorem dX2_forms_28 : decode cX2_forms 28 = .ok (.astore 4, 2) := by decide +kernel
theorem dX2_forms_30 : decode cX2_forms 30 = .ok (.aload 4, 2) := by decide +kernel
theorem dX2_forms_32 : decode cX2_forms 32 = .ok (.invokestatic 88, 3) := by decide +kernel
theorem dX2_forms_35 : decode cX2_forms 35 = .ok (.ifCond .ne 5, 3) := by decide +kernel
theorem dX2_forms_38 : decode cX2_forms 38 = .ok (.iconst 0, 1) := by decide +kernel
theorem dX2_forms_39 : decode cX2_forms 39 = .ok (.ireturn, 1) := by decide +kernel
theorem dX2_forms_40 : decode cX2_forms 40 = .ok (.aload_n 0, 1) := by decide +kernel
theorem dX2_forms_41 : decode cX2_forms 41 = .ok (.aload_n 0, 1) := by decide +kernel
theorem dX2_forms_42 : decode cX2_forms 42 = .ok (.getfield 11, 3) := by decide +kernel
theorem dX2_forms_45 : decode cX2_forms 45 = .ok (.iload_n 1, 1) := by decide +kernel
theorem dX2_forms_46 : decode cX2_forms 46 = .ok (.aaload, 1) := by decide +kernel
theorem dX2_forms_47 : decode cX2_forms 47 = .ok (.putfield 30, 3) := by decide +kernel
theorem dX2_forms_50 : decode cX2_forms 50 = .ok (.aload_n 0, 1) := by decide +kernel
theorem dX2_forms_51 : decode cX2_forms 51 = .ok (.aload_n 0, 1) := by decide +kernel
theorem dX2_forms_52 : decode cX2_forms 52 = .ok (.iload_n 2, 1) := by decide +kernel
theorem dX2_forms_53 : decode cX2_forms 53 = .ok (.invokevirtual 84, 3) := by decide +kernel
theorem dX2_forms_56 : decode cX2_forms 56 = .ok (.putfield 34, 3) := by decide +kernel
theorem dX2_forms_59 : decode cX2_forms 59 = .ok (.aload_n 0, 1) := by decide +kernel
theorem dX2_forms_60 : decode cX2_forms 60 = .ok (.aload 4, 2) := by decide +kernel
theorem dX2_forms_62 : decode cX2_forms 62 = .ok (.putfield 37, 3) := by decide +kernel
theorem dX2_forms_65 : decode cX2_forms 65 = .ok (.iconst 1, 1) := by decide +kernel
theorem dX2_forms_66 : decode cX2_forms 66 = .ok (.ireturn, 1) := by decide +kernel
theorem dX2_rule_0 : decode cX2_rule 0 = .ok (.iload_n 1, 1) := by decide +kernel
theorem dX2_rule_1 : decode cX2_rule 1 = .ok (.ifCond .lt 9, 3) := by decide +kernel
theorem dX2_rule_4 : decode cX2_rule 4 = .ok (.iload_n 1, 1) := by decide +kernel
theorem dX2_rule_5 : decode cX2_rule 5 = .ok (.bipush 16, 2) := by decide +kernel
theorem dX2_rule_7 : decode cX2_rule 7 = .ok (.if_icmp .lt 5, 3) := by decide +kernel
theorem dX2_rule_10 : decode cX2_rule 10 = .ok (.iconst 0, 1) := by decide +kernel
theorem dX2_rule_11 : decode cX2_rule 11 = .ok (.ireturn, 1) := by decide +kernel
theorem dX2_rule_12 : decode cX2_rule 12 = .ok (.aload_n 0, 1) := by decide +kernel
theorem dX2_rule_13 : decode cX2_rule 13 = .ok (.iload_n 1, 1) := by decide +kernel
theorem dX2_rule_14 : decode cX2_rule 14 = .ok (.putfield 40, 3) := by decide +kernel
theorem dX2_rule_17 : decode cX2_rule 17 = .ok (.iconst 1, 1) := by decide +kernel
theorem dX2_rule_18 : decode cX2_rule 18 = .ok (.ireturn, 1) := by decide +kernel
theorem dX2_set_0 : decode cX2_set 0 = .ok (.iload_n 1, 1) := by decide +kernel
theorem dX2_set_1 : decode cX2_set 1 = .ok (.invokestatic 91, 3) := by decide +kernel
theorem dX2_set_4 : decode cX2_set 4 = .ok (.ifCond .eq 17, 3) := by decide +kernel
theorem dX2_set_7 : decode cX2_set 7 = .ok (.iload_n 2, 1) := by decide +kernel
theorem dX2_set_8 : decode cX2_set 8 = .ok (.invokestatic 94, 3) := by decide +kernel
theorem dX2_set_11 : decode cX2_set 11 = .ok (.ifCond .eq 10, 3) := by decide +kernel
theorem dX2_set_14 : decode cX2_set 14 = .ok (.iload_n 3, 1) := by decide +kernel
theorem dX2_set_15 : decode cX2_set 15 = .ok (.invokestatic 94, 3) := by decide +kernel
theorem dX2_set_18 : decode cX2_set 18 = .ok (.ifCond .ne 5, 3) := by decide +kernel
theorem dX2_set_21 : decode cX2_set 21 = .ok (.iconst 0, 1) := by decide +kernel
theorem dX2_set_22 : decode cX2_set 22 = .ok (.ireturn, 1) := by decide +kernel
theorem dX2_set_23 : decode cX2_set 23 = .ok (.aload_n 0, 1) := by decide +kernel
theorem dX2_set_24 : decode cX2_set 24 = .ok (.getfield 16, 3) := by decide +kernel
theorem dX2_set_27 : decode cX2_set 27 = .ok (.iconst 2, 1) := by decide +kernel
theorem dX2_set_28 : decode cX2_set 28 = .ok (.iload_n 1, 1) := by decide +kernel
theorem dX2_set_29 : decode cX2_set 29 = .ok (.imul, 1) := by decide +kernel
theorem dX2_set_30 : decode cX2_set 30 = .ok (.iconst 0, 1) := by decide +kernel
theorem dX2_set_31 : decode cX2_set 31 = .ok (.iadd, 1) := by decide +kernel
theorem dX2_set_32 : decode cX2_set 32 = .ok (.iload_n 2, 1) := by decide +kernel
theorem dX2_set_33 : decode cX2_set 33 = .ok (.iastore, 1) := by decide +kernel
theorem dX2_set_34 : decode cX2_set 34 = .ok (.aload_n 0, 1) := by decide +kernel
theorem dX2_set_35 : decode cX2_set 35 = .ok (.getfield 16, 3) := by decide +kernel
theorem dX2_set_38 : decode cX2_set 38 = .ok (.iconst 2, 1) := by decide +kernel
theorem dX2_set_39 : decode cX2_set 39 = .ok (.iload_n 1, 1) := by decide +kernel
theorem dX2_set_40 : decode cX2_set 40 = .ok (.imul, 1) := by decide +kernel
theorem dX2_set_41 : decode cX2_set 41 = .ok (.iconst 1, 1) := by decide +kernel
theorem dX2_set_42 : decode cX2_set 42 = .ok (.iadd, 1) := by decide +kernel
theorem dX2_set_43 : decode cX2_set 43 = .ok (.iload_n 3, 1) := by decide +kernel
theorem dX2_set_44 : decode cX2_set 44 = .ok (.iastore, 1) := by decide +kernel
theorem dX2_set_45 : decode cX2_set 45 = .ok (.iconst 1, 1) := by decide +kernel
theorem dX2_set_46 : decode cX2_set 46 = .ok (.ireturn, 1) := by decide +kernel
theorem dX2_order_0 : decode cX2_order 0 = .ok (.iload_n 1, 1) := by decide +kernel
theorem dX2_order_1 : decode cX2_order 1 = .ok (.invokestatic 91, 3) := by decide +kernel
theorem dX2_order_4 : decode cX2_order 4 = .ok (.ifCond .eq 24, 3) := by decide +kernel
theorem dX2_order_7 : decode cX2_order 7 = .ok (.aload_n 0, 1) := by decide +kernel
theorem dX2_order_8 : decode cX2_order 8 = .ok (.getfield 16, 3) := by decide +kernel
theorem dX2_order_11 : decode cX2_order 11 = .ok (.iconst 2, 1) := by decide +kernel
theorem dX2_order_12 : decode cX2_order 12 = .ok (.iload_n 1, 1) := by decide +kernel
theorem dX2_order_13 : decode cX2_order 13 = .ok (.imul, 1) := by decide +kernel
theorem dX2_order_14 : decode cX2_order 14 = .ok (.iload_n 2, 1) := by decide +kernel
theorem dX2_order_15 : decode cX2_order 15 = .ok (.ifCond .eq 7, 3) := by decide +kernel
theorem dX2_order_18 : decode cX2_order 18 = .ok (.iconst 1, 1) := by decide +kernel
theorem dX2_order_19 : decode cX2_order 19 = .ok (.goto 4, 3) := by decide +kernel
theorem dX2_order_22 : decode cX2_order 22 = .ok (.iconst 0, 1) := by decide +kernel
theorem dX2_order_23 : decode cX2_order 23 = .ok (.iadd, 1) := by decide +kernel
theorem dX2_order_24 : decode cX2_order 24 = .ok (.iaload, 1) := by decide +kernel
theorem dX2_order_25 : decode cX2_order 25 = .ok (.goto 4, 3) := by decide +kernel
theorem dX2_order_28 : decode cX2_order 28 = .ok (.iconst 0, 1) := by decide +kernel
theorem dX2_order_29 : decode cX2_order 29 = .ok (.ireturn, 1) := by decide +kernel
theorem dX2_copy_0 : decode cX2_copy 0 = .ok (.aload_n 0, 1) := by decide +kernel
theorem dX2_copy_1 : decode cX2_copy 1 = .ok (.getfield 37, 3) := by decide +kernel
theorem dX2_copy_4 : decode cX2_copy 4 = .ok (.invokestatic 88, 3) := by decide +kernel
theorem dX2_copy_7 : decode cX2_copy 7 = .ok (.ifCond .eq 10, 3) := by decide +kernel
theorem dX2_copy_10 : decode cX2_copy 10 = .ok (.aload_n 0, 1) := by decide +kernel
theorem dX2_copy_11 : decode cX2_copy 11 = .ok (.invokevirtual 97, 3) := by decide +kernel
theorem dX2_copy_14 : decode cX2_copy 14 = .ok (.goto 4, 3) := by decide +kernel
theorem dX2_copy_17 : decode cX2_copy 17 = .ok (.iconst (-1), 1) := by decide +kernel
theorem dX2_copy_18 : decode cX2_copy 18 = .ok (.ireturn, 1) := by decide +kernel
theorem dX2_line_0 : decode cX2_line 0 = .ok (.iload_n 1, 1) := by decide +kernel
theorem dX2_line_1 : decode cX2_line 1 = .ok (.invokestatic 100, 3) := by decide +kernel
theorem dX2_line_4 : decode cX2_line 4 = .ok (.ifCond .eq 20, 3) := by decide +kernel
theorem dX2_line_7 : decode cX2_line 7 = .ok (.iload_n 2, 1) := by decide +kernel
theorem dX2_line_8 : decode cX2_line 8 = .ok (.invokestatic 100, 3) := by decide +kernel
theorem dX2_line_11 : decode cX2_line 11 = .ok (.ifCond .eq 13, 3) := by decide +kernel
theorem dX2_line_14 : decode cX2_line 14 = .ok (.aload_n 0, 1) := by decide +kernel
theorem dX2_line_15 : decode cX2_line 15 = .ok (.getfield 37, 3) := by decide +kernel
theorem dX2_line_18 : decode cX2_line 18 = .ok (.invokestatic 88, 3) := by decide +kernel
theorem dX2_line_21 : decode cX2_line 21 = .ok (.ifCond .ne 5, 3) := by decide +kernel
theorem dX2_line_24 : decode cX2_line 24 = .ok (.iconst (-1), 1) := by decide +kernel
theorem dX2_line_25 : decode cX2_line 25 = .ok (.ireturn, 1) := by decide +kernel
theorem dX2_line_26 : decode cX2_line 26 = .ok (.iload_n 1, 1) := by decide +kernel
theorem dX2_line_27 : decode cX2_line 27 = .ok (.invokestatic 103, 3) := by decide +kernel
theorem dX2_line_30 : decode cX2_line 30 = .ok (.iload_n 2, 1) := by decide +kernel
theorem dX2_line_31 : decode cX2_line 31 = .ok (.invokestatic 103, 3) := by decide +kernel
theorem dX2_line_34 : decode cX2_line 34 = .ok (.if_icmp .le 11, 3) := by decide +kernel
theorem dX2_line_37 : decode cX2_line 37 = .ok (.aload_n 0, 1) := by decide +kernel
theorem dX2_line_38 : decode cX2_line 38 = .ok (.iconst 0, 1) := by decide +kernel
theorem dX2_line_39 : decode cX2_line 39 = .ok (.iload_n 1, 1) := by decide +kernel
theorem dX2_line_40 : decode cX2_line 40 = .ok (.iload_n 2, 1) := by decide +kernel
theorem dX2_line_41 : decode cX2_line 41 = .ok (.invokevirtual 109, 3) := by decide +kernel
theorem dX2_line_44 : decode cX2_line 44 = .ok (.ireturn, 1) := by decide +kernel
theorem dX2_line_45 : decode cX2_line 45 = .ok (.aload_n 0, 1) := by decide +kernel
theorem dX2_line_46 : decode cX2_line 46 = .ok (.iconst 1, 1) := by decide +kernel
theorem dX2_line_47 : decode cX2_line 47 = .ok (.iload_n 2, 1) := by decide +kernel
theorem dX2_line_48 : decode cX2_line 48 = .ok (.iload_n 1, 1) := by decide +kernel
theorem dX2_line_49 : decode cX2_line 49 = .ok (.invokevirtual 109, 3) := by decide +kernel
theorem dX2_line_52 : decode cX2_line 52 = .ok (.ireturn, 1) := by decide +kernel
theorem dX2_isForm_0 : decode cX2_isForm 0 = .ok (.iload_n 0, 1) := by decide +kernel
theorem dX2_isForm_1 : decode cX2_isForm 1 = .ok (.ifCond .lt 12, 3) := by decide +kernel
theorem dX2_isForm_4 : decode cX2_isForm 4 = .ok (.iload_n 0, 1) := by decide +kernel
theorem dX2_isForm_5 : decode cX2_isForm 5 = .ok (.iconst 4, 1) := by decide +kernel
theorem dX2_isForm_6 : decode cX2_isForm 6 = .ok (.if_icmp .ge 7, 3) := by decide +kernel
theorem dX2_isForm_9 : decode cX2_isForm 9 = .ok (.iconst 1, 1) := by decide +kernel
theorem dX2_isForm_10 : decode cX2_isForm 10 = .ok (.goto 4, 3) := by decide +kernel
theorem dX2_isForm_13 : decode cX2_isForm 13 = .ok (.iconst 0, 1) := by decide +kernel
theorem dX2_isForm_14 : decode cX2_isForm 14 = .ok (.ireturn, 1) := by decide +kernel
theorem dX2_isFormOrNone_0 : decode cX2_isFormOrNone 0 = .ok (.iload_n 0, 1) := by decide +kernel
theorem dX2_isFormOrNone_1 : decode cX2_isFormOrNone 1 = .ok (.iconst (-1), 1) := by decide +kernel
theorem dX2_isFormOrNone_2 : decode cX2_isFormOrNone 2 = .ok (.if_icmp .eq 10, 3) := by decide +kernel
theorem dX2_isFormOrNone_5 : decode cX2_isFormOrNone 5 = .ok (.iload_n 0, 1) := by decide +kernel
theorem dX2_isFormOrNone_6 : decode cX2_isFormOrNone 6 = .ok (.invokestatic 48, 3) := by decide +kernel
theorem dX2_isFormOrNone_9 : decode cX2_isFormOrNone 9 = .ok (.ifCond .eq 7, 3) := by decide +kernel
theorem dX2_isFormOrNone_12 : decode cX2_isFormOrNone 12 = .ok (.iconst 1, 1) := by decide +kernel
theorem dX2_isFormOrNone_13 : decode cX2_isFormOrNone 13 = .ok (.goto 4, 3) := by decide +kernel
theorem dX2_isFormOrNone_16 : decode cX2_isFormOrNone 16 = .ok (.iconst 0, 1) := by decide +kernel
theorem dX2_isFormOrNone_17 : decode cX2_isFormOrNone 17 = .ok (.ireturn, 1) := by decide +kernel
theorem dX2_formOrNull_0 : decode cX2_formOrNull 0 = .ok (.iload_n 1, 1) := by decide +kernel
theorem dX2_formOrNull_1 : decode cX2_formOrNull 1 = .ok (.invokestatic 48, 3) := by decide +kernel
theorem dX2_formOrNull_4 : decode cX2_formOrNull 4 = .ok (.ifCond .eq 12, 3) := by decide +kernel
theorem dX2_formOrNull_7 : decode cX2_formOrNull 7 = .ok (.aload_n 0, 1) := by decide +kernel
theorem dX2_formOrNull_8 : decode cX2_formOrNull 8 = .ok (.getfield 11, 3) := by decide +kernel
theorem dX2_formOrNull_11 : decode cX2_formOrNull 11 = .ok (.iload_n 1, 1) := by decide +kernel
theorem dX2_formOrNull_12 : decode cX2_formOrNull 12 = .ok (.aaload, 1) := by decide +kernel
theorem dX2_formOrNull_13 : decode cX2_formOrNull 13 = .ok (.goto 4, 3) := by decide +kernel
theorem dX2_formOrNull_16 : decode cX2_formOrNull 16 = .ok (.aconst_null, 1) := by decide +kernel
theorem dX2_formOrNull_17 : decode cX2_formOrNull 17 = .ok (.areturn, 1) := by decide +kernel
theorem dX2_fitsAsPattern_0 : decode cX2_fitsAsPattern 0 = .ok (.aload_n 0, 1) := by decide +kernel
theorem dX2_fitsAsPattern_1 : decode cX2_fitsAsPattern 1 = .ok (.ifnull 21, 3) := by decide +kernel
theorem dX2_fitsAsPattern_4 : decode cX2_fitsAsPattern 4 = .ok (.aload_n 0, 1) := by decide +kernel
theorem dX2_fitsAsPattern_5 : decode cX2_fitsAsPattern 5 = .ok (.getfield 113, 3) := by decide +kernel
theorem dX2_fitsAsPattern_8 : decode cX2_fitsAsPattern 8 = .ok (.bipush 16, 2) := by decide +kernel
theorem dX2_fitsAsPattern_10 : decode cX2_fitsAsPattern 10 = .ok (.if_icmp .ne 16, 3) := by decide +kernel
theorem dX2_fitsAsPattern_13 : decode cX2_fitsAsPattern 13 = .ok (.aload_n 0, 1) := by decide +kernel
theorem dX2_fitsAsPattern_14 : decode cX2_fitsAsPattern 14 = .ok (.getfield 116, 3) := by decide +kernel
theorem dX2_fitsAsPattern_17 : decode cX2_fitsAsPattern 17 = .ok (.bipush 16, 2) := by decide +kernel
theorem dX2_fitsAsPattern_19 : decode cX2_fitsAsPattern 19 = .ok (.if_icmp .ne 7, 3) := by decide +kernel
theorem dX2_fitsAsPattern_22 : decode cX2_fitsAsPattern 22 = .ok (.iconst 1, 1) := by decide +kernel
theorem dX2_fitsAsPattern_23 : decode cX2_fitsAsPattern 23 = .ok (.goto 4, 3) := by decide +kernel
theorem dX2_fitsAsPattern_26 : decode cX2_fitsAsPattern 26 = .ok (.iconst 0, 1) := by decide +kernel
theorem dX2_fitsAsPattern_27 : decode cX2_fitsAsPattern 27 = .ok (.ireturn, 1) := by decide +kernel
theorem dX2_isPair_0 : decode cX2_isPair 0 = .ok (.iload_n 0, 1) := by decide +kernel
theorem dX2_isPair_1 : decode cX2_isPair 1 = .ok (.ifCond .lt 12, 3) := by decide +kernel
theorem dX2_isPair_4 : decode cX2_isPair 4 = .ok (.iload_n 0, 1) := by decide +kernel
theorem dX2_isPair_5 : decode cX2_isPair 5 = .ok (.iconst 5, 1) := by decide +kernel
theorem dX2_isPair_6 : decode cX2_isPair 6 = .ok (.if_icmp .ge 7, 3) := by decide +kernel
theorem dX2_isPair_9 : decode cX2_isPair 9 = .ok (.iconst 1, 1) := by decide +kernel
theorem dX2_isPair_10 : decode cX2_isPair 10 = .ok (.goto 4, 3) := by decide +kernel
theorem dX2_isPair_13 : decode cX2_isPair 13 = .ok (.iconst 0, 1) := by decide +kernel
theorem dX2_isPair_14 : decode cX2_isPair 14 = .ok (.ireturn, 1) := by decide +kernel
theorem dX2_isNumber_0 : decode cX2_isNumber 0 = .ok (.iload_n 0, 1) := by decide +kernel
theorem dX2_isNumber_1 : decode cX2_isNumber 1 = .ok (.sipush (-32768), 3) := by decide +kernel
theorem dX2_isNumber_4 : decode cX2_isNumber 4 = .ok (.if_icmp .lt 14, 3) := by decide +kernel
theorem dX2_isNumber_7 : decode cX2_isNumber 7 = .ok (.iload_n 0, 1) := by decide +kernel
theorem dX2_isNumber_8 : decode cX2_isNumber 8 = .ok (.sipush 32767, 3) := by decide +kernel
theorem dX2_isNumber_11 : decode cX2_isNumber 11 = .ok (.if_icmp .gt 7, 3) := by decide +kernel
theorem dX2_isNumber_14 : decode cX2_isNumber 14 = .ok (.iconst 1, 1) := by decide +kernel
theorem dX2_isNumber_15 : decode cX2_isNumber 15 = .ok (.goto 4, 3) := by decide +kernel
theorem dX2_isNumber_18 : decode cX2_isNumber 18 = .ok (.iconst 0, 1) := by decide +kernel
theorem dX2_isNumber_19 : decode cX2_isNumber 19 = .ok (.ireturn, 1) := by decide +kernel
theorem dX2_isWay_0 : decode cX2_isWay 0 = .ok (.iload_n 0, 1) := by decide +kernel
theorem dX2_isWay_1 : decode cX2_isWay 1 = .ok (.sipush (-2000), 3) := by decide +kernel
theorem dX2_isWay_4 : decode cX2_isWay 4 = .ok (.if_icmp .lt 14, 3) := by decide +kernel
theorem dX2_isWay_7 : decode cX2_isWay 7 = .ok (.iload_n 0, 1) := by decide +kernel
theorem dX2_isWay_8 : decode cX2_isWay 8 = .ok (.sipush 2000, 3) := by decide +kernel
theorem dX2_isWay_11 : decode cX2_isWay 11 = .ok (.if_icmp .gt 7, 3) := by decide +kernel
theorem dX2_isWay_14 : decode cX2_isWay 14 = .ok (.iconst 1, 1) := by decide +kernel
theorem dX2_isWay_15 : decode cX2_isWay 15 = .ok (.goto 4, 3) := by decide +kernel
theorem dX2_isWay_18 : decode cX2_isWay 18 = .ok (.iconst 0, 1) := by decide +kernel
theorem dX2_isWay_19 : decode cX2_isWay 19 = .ok (.ireturn, 1) := by decide +kernel
theorem dX2_signOf_0 : decode cX2_signOf 0 = .ok (.iload_n 0, 1) := by decide +kernel
theorem dX2_signOf_1 : decode cX2_signOf 1 = .ok (.ifCond .le 7, 3) := by decide +kernel
theorem dX2_signOf_4 : decode cX2_signOf 4 = .ok (.iconst 1, 1) := by decide +kernel
theorem dX2_signOf_5 : decode cX2_signOf 5 = .ok (.goto 12, 3) := by decide +kernel
theorem dX2_signOf_8 : decode cX2_signOf 8 = .ok (.iload_n 0, 1) := by decide +kernel
theorem dX2_signOf_9 : decode cX2_signOf 9 = .ok (.ifCond .ge 7, 3) := by decide +kernel
theorem dX2_signOf_12 : decode cX2_signOf 12 = .ok (.iconst (-1), 1) := by decide +kernel
theorem dX2_signOf_13 : decode cX2_signOf 13 = .ok (.goto 4, 3) := by decide +kernel
theorem dX2_signOf_16 : decode cX2_signOf 16 = .ok (.iconst 0, 1) := by decide +kernel
theorem dX2_signOf_17 : decode cX2_signOf 17 = .ok (.ireturn, 1) := by decide +kernel
theorem dX2_wordsNeeded_0 : decode cX2_wordsNeeded 0 = .ok (.iload_n 0, 1) := by decide +kernel
theorem dX2_wordsNeeded_1 : decode cX2_wordsNeeded 1 = .ok (.iconst 1, 1) := by decide +kernel
theorem dX2_wordsNeeded_2 : decode cX2_wordsNeeded 2 = .ok (.if_icmp .lt 21, 3) := by decide +kernel
theorem dX2_wordsNeeded_5 : decode cX2_wordsNeeded 5 = .ok (.iload_n 1, 1) := by decide +kernel
theorem dX2_wordsNeeded_6 : decode cX2_wordsNeeded 6 = .ok (.iconst 1, 1) := by decide +kernel
theorem dX2_wordsNeeded_7 : decode cX2_wordsNeeded 7 = .ok (.if_icmp .lt 16, 3) := by decide +kernel
theorem dX2_wordsNeeded_10 : decode cX2_wordsNeeded 10 = .ok (.iload_n 0, 1) := by decide +kernel
theorem dX2_wordsNeeded_11 : decode cX2_wordsNeeded 11 = .ok (.ldc 119, 2) := by decide +kernel
theorem dX2_wordsNeeded_13 : decode cX2_wordsNeeded 13 = .ok (.if_icmp .gt 10, 3) := by decide +kernel
theorem dX2_wordsNeeded_16 : decode cX2_wordsNeeded 16 = .ok (.iload_n 1, 1) := by decide +kernel
theorem dX2_wordsNeeded_17 : decode cX2_wordsNeeded 17 = .ok (.sipush 4000, 3) := by decide +kernel
theorem dX2_wordsNeeded_20 : decode cX2_wordsNeeded 20 = .ok (.if_icmp .le 5, 3) := by decide +kernel
theorem dX2_wordsNeeded_23 : decode cX2_wordsNeeded 23 = .ok (.iconst (-1), 1) := by decide +kernel
theorem dX2_wordsNeeded_24 : decode cX2_wordsNeeded 24 = .ok (.ireturn, 1) := by decide +kernel
theorem dX2_wordsNeeded_25 : decode cX2_wordsNeeded 25 = .ok (.iload_n 0, 1) := by decide +kernel
theorem dX2_wordsNeeded_26 : decode cX2_wordsNeeded 26 = .ok (.invokestatic 120, 3) := by decide +kernel
theorem dX2_wordsNeeded_29 : decode cX2_wordsNeeded 29 = .ok (.iload_n 1, 1) := by decide +kernel
theorem dX2_wordsNeeded_30 : decode cX2_wordsNeeded 30 = .ok (.imul, 1) := by decide +kernel
theorem dX2_wordsNeeded_31 : decode cX2_wordsNeeded 31 = .ok (.istore_n 2, 1) := by decide +kernel
theorem dX2_wordsNeeded_32 : decode cX2_wordsNeeded 32 = .ok (.iload_n 2, 1) := by decide +kernel
theorem dX2_wordsNeeded_33 : decode cX2_wordsNeeded 33 = .ok (.sipush 4000, 3) := by decide +kernel
theorem dX2_wordsNeeded_36 : decode cX2_wordsNeeded 36 = .ok (.if_icmp .le 7, 3) := by decide +kernel
theorem dX2_wordsNeeded_39 : decode cX2_wordsNeeded 39 = .ok (.iconst (-1), 1) := by decide +kernel
theorem dX2_wordsNeeded_40 : decode cX2_wordsNeeded 40 = .ok (.goto 4, 3) := by decide +kernel
theorem dX2_wordsNeeded_43 : decode cX2_wordsNeeded 43 = .ok (.iload_n 2, 1) := by decide +kernel
theorem dX2_wordsNeeded_44 : decode cX2_wordsNeeded 44 = .ok (.ireturn, 1) := by decide +kernel
theorem dX2_wordsPerRow_0 : decode cX2_wordsPerRow 0 = .ok (.iload_n 0, 1) := by decide +kernel
theorem dX2_wordsPerRow_1 : decode cX2_wordsPerRow 1 = .ok (.bipush 16, 2) := by decide +kernel
theorem dX2_wordsPerRow_3 : decode cX2_wordsPerRow 3 = .ok (.iadd, 1) := by decide +kernel
theorem dX2_wordsPerRow_4 : decode cX2_wordsPerRow 4 = .ok (.iconst 1, 1) := by decide +kernel
theorem dX2_wordsPerRow_5 : decode cX2_wordsPerRow 5 = .ok (.isub, 1) := by decide +kernel
theorem dX2_wordsPerRow_6 : decode cX2_wordsPerRow 6 = .ok (.bipush 16, 2) := by decide +kernel
theorem dX2_wordsPerRow_8 : decode cX2_wordsPerRow 8 = .ok (.idiv, 1) := by decide +kernel
theorem dX2_wordsPerRow_9 : decode cX2_wordsPerRow 9 = .ok (.ireturn, 1) := by decide +kernel
theorem dX2_spanMask_0 : decode cX2_spanMask 0 = .ok (.iload_n 1, 1) := by decide +kernel
theorem dX2_spanMask_1 : decode cX2_spanMask 1 = .ok (.iload_n 0, 1) := by decide +kernel
theorem dX2_spanMask_2 : decode cX2_spanMask 2 = .ok (.bipush 16, 2) := by decide +kernel
theorem dX2_spanMask_4 : decode cX2_spanMask 4 = .ok (.imul, 1) := by decide +kernel
theorem dX2_spanMask_5 : decode cX2_spanMask 5 = .ok (.isub, 1) := by decide +kernel
theorem dX2_spanMask_6 : decode cX2_spanMask 6 = .ok (.iconst 0, 1) := by decide +kernel
theorem dX2_spanMask_7 : decode cX2_spanMask 7 = .ok (.invokestatic 123, 3) := by decide +kernel
theorem dX2_spanMask_10 : decode cX2_spanMask 10 = .ok (.istore_n 3, 1) := by decide +kernel
theorem dX2_spanMask_11 : decode cX2_spanMask 11 = .ok (.iload_n 2, 1) := by decide +kernel
theorem dX2_spanMask_12 : decode cX2_spanMask 12 = .ok (.iload_n 0, 1) := by decide +kernel
theorem dX2_spanMask_13 : decode cX2_spanMask 13 = .ok (.bipush 16, 2) := by decide +kernel
theorem dX2_spanMask_15 : decode cX2_spanMask 15 = .ok (.imul, 1) := by decide +kernel
theorem dX2_spanMask_16 : decode cX2_spanMask 16 = .ok (.isub, 1) := by decide +kernel
theorem dX2_spanMask_17 : decode cX2_spanMask 17 = .ok (.bipush 16, 2) := by decide +kernel
theorem dX2_spanMask_19 : decode cX2_spanMask 19 = .ok (.invokestatic 126, 3) := by decide +kernel
theorem dX2_spanMask_22 : decode cX2_spanMask 22 = .ok (.istore 4, 2) := by decide +kernel
theorem dX2_spanMask_24 : decode cX2_spanMask 24 = .ok (.ldc 129, 2) := by decide +kernel
theorem dX2_spanMask_26 : decode cX2_spanMask 26 = .ok (.iload_n 3, 1) := by decide +kernel
theorem dX2_spanMask_27 : decode cX2_spanMask 27 = .ok (.iushr, 1) := by decide +kernel
theorem dX2_spanMask_28 : decode cX2_spanMask 28 = .ok (.ldc 129, 2) := by decide +kernel
theorem dX2_spanMask_30 : decode cX2_spanMask 30 = .ok (.iload 4, 2) := by decide +kernel
theorem dX2_spanMask_32 : decode cX2_spanMask 32 = .ok (.iushr, 1) := by decide +kernel
theorem dX2_spanMask_33 : decode cX2_spanMask 33 = .ok (.iconst (-1), 1) := by decide +kernel
theorem dX2_spanMask_34 : decode cX2_spanMask 34 = .ok (.ixor, 1) := by decide +kernel
theorem dX2_spanMask_35 : decode cX2_spanMask 35 = .ok (.iand, 1) := by decide +kernel
theorem dX2_spanMask_36 : decode cX2_spanMask 36 = .ok (.ireturn, 1) := by decide +kernel
theorem dX2_drawAlong_0 : decode cX2_drawAlong 0 = .ok (.iload_n 2, 1) := by decide +kernel
theorem dX2_drawAlong_1 : decode cX2_drawAlong 1 = .ok (.invokestatic 103, 3) := by decide +kernel
theorem dX2_drawAlong_4 : decode cX2_drawAlong 4 = .ok (.istore 4, 2) := by decide +kernel
theorem dX2_drawAlong_6 : decode cX2_drawAlong 6 = .ok (.iload 4, 2) := by decide +kernel
theorem dX2_drawAlong_8 : decode cX2_drawAlong 8 = .ok (.iconst 2, 1) := by decide +kernel
theorem dX2_drawAlong_9 : decode cX2_drawAlong 9 = .ok (.idiv, 1) := by decide +kernel
theorem dX2_drawAlong_10 : decode cX2_drawAlong 10 = .ok (.istore 5, 2) := by decide +kernel
theorem dX2_drawAlong_12 : decode cX2_drawAlong 12 = .ok (.aload_n 0, 1) := by decide +kernel
theorem dX2_drawAlong_13 : decode cX2_drawAlong 13 = .ok (.invokevirtual 97, 3) := by decide +kernel
theorem dX2_drawAlong_16 : decode cX2_drawAlong 16 = .ok (.istore 6, 2) := by decide +kernel
theorem dX2_drawAlong_18 : decode cX2_drawAlong 18 = .ok (.iconst 1, 1) := by decide +kernel
theorem dX2_drawAlong_19 : decode cX2_drawAlong 19 = .ok (.istore 7, 2) := by decide +kernel
theorem dX2_drawAlong_21 : decode cX2_drawAlong 21 = .ok (.iload 7, 2) := by decide +kernel
theorem dX2_drawAlong_23 : decode cX2_drawAlong 23 = .ok (.iload 4, 2) := by decide +kernel
theorem dX2_drawAlong_25 : decode cX2_drawAlong 25 = .ok (.if_icmp .gt 78, 3) := by decide +kernel
theorem dX2_drawAlong_28 : decode cX2_drawAlong 28 = .ok (.aload_n 0, 1) := by decide +kernel
theorem dX2_drawAlong_29 : decode cX2_drawAlong 29 = .ok (.iload_n 1, 1) := by decide +kernel
theorem dX2_drawAlong_30 : decode cX2_drawAlong 30 = .ok (.iload_n 2, 1) := by decide +kernel
theorem dX2_drawAlong_31 : decode cX2_drawAlong 31 = .ok (.invokestatic 130, 3) := by decide +kernel
theorem dX2_drawAlong_34 : decode cX2_drawAlong 34 = .ok (.invokevirtual 133, 3) := by decide +kernel
theorem dX2_drawAlong_37 : decode cX2_drawAlong 37 = .ok (.ifCond .ne 6, 3) := by decide +kernel
theorem dX2_drawAlong_40 : decode cX2_drawAlong 40 = .ok (.iload 6, 2) := by decide +kernel
theorem dX2_drawAlong_42 : decode cX2_drawAlong 42 = .ok (.ireturn, 1) := by decide +kernel
theorem dX2_drawAlong_43 : decode cX2_drawAlong 43 = .ok (.iload 5, 2) := by decide +kernel
theorem dX2_drawAlong_45 : decode cX2_drawAlong 45 = .ok (.iload_n 3, 1) := by decide +kernel
theorem dX2_drawAlong_46 : decode cX2_drawAlong 46 = .ok (.invokestatic 103, 3) := by decide +kernel
theorem dX2_drawAlong_49 : decode cX2_drawAlong 49 = .ok (.isub, 1) := by decide +kernel
theorem dX2_drawAlong_50 : decode cX2_drawAlong 50 = .ok (.istore 5, 2) := by decide +kernel
theorem dX2_drawAlong_52 : decode cX2_drawAlong 52 = .ok (.iload 5, 2) := by decide +kernel
theorem dX2_drawAlong_54 : decode cX2_drawAlong 54 = .ok (.ifCond .ge 27, 3) := by decide +kernel
theorem dX2_drawAlong_57 : decode cX2_drawAlong 57 = .ok (.aload_n 0, 1) := by decide +kernel
theorem dX2_drawAlong_58 : decode cX2_drawAlong 58 = .ok (.iconst 1, 1) := by decide +kernel
theorem dX2_drawAlong_59 : decode cX2_drawAlong 59 = .ok (.iload_n 1, 1) := by decide +kernel
theorem dX2_drawAlong_60 : decode cX2_drawAlong 60 = .ok (.isub, 1) := by decide +kernel
theorem dX2_drawAlong_61 : decode cX2_drawAlong 61 = .ok (.iload_n 3, 1) := by decide +kernel
theorem dX2_drawAlong_62 : decode cX2_drawAlong 62 = .ok (.invokestatic 130, 3) := by decide +kernel
theorem dX2_drawAlong_65 : decode cX2_drawAlong 65 = .ok (.invokevirtual 133, 3) := by decide +kernel
theorem dX2_drawAlong_68 : decode cX2_drawAlong 68 = .ok (.ifCond .ne 6, 3) := by decide +kernel
theorem dX2_drawAlong_71 : decode cX2_drawAlong 71 = .ok (.iload 6, 2) := by decide +kernel
theorem dX2_drawAlong_73 : decode cX2_drawAlong 73 = .ok (.ireturn, 1) := by decide +kernel
theorem dX2_drawAlong_74 : decode cX2_drawAlong 74 = .ok (.iload 5, 2) := by decide +kernel
theorem dX2_drawAlong_76 : decode cX2_drawAlong 76 = .ok (.iload 4, 2) := by decide +kernel
theorem dX2_drawAlong_78 : decode cX2_drawAlong 78 = .ok (.iadd, 1) := by decide +kernel
theorem dX2_drawAlong_79 : decode cX2_drawAlong 79 = .ok (.istore 5, 2) := by decide +kernel
theorem dX2_drawAlong_81 : decode cX2_drawAlong 81 = .ok (.iload 7, 2) := by decide +kernel
theorem dX2_drawAlong_83 : decode cX2_drawAlong 83 = .ok (.iload 4, 2) := by decide +kernel
theorem dX2_drawAlong_85 : decode cX2_drawAlong 85 = .ok (.if_icmp .ge 12, 3) := by decide +kernel
theorem dX2_drawAlong_88 : decode cX2_drawAlong 88 = .ok (.iload 6, 2) := by decide +kernel
theorem dX2_drawAlong_90 : decode cX2_drawAlong 90 = .ok (.aload_n 0, 1) := by decide +kernel
theorem dX2_drawAlong_91 : decode cX2_drawAlong 91 = .ok (.invokevirtual 97, 3) := by decide +kernel
theorem dX2_drawAlong_94 : decode cX2_drawAlong 94 = .ok (.iadd, 1) := by decide +kernel
theorem dX2_drawAlong_95 : decode cX2_drawAlong 95 = .ok (.istore 6, 2) := by decide +kernel
theorem dX2_drawAlong_97 : decode cX2_drawAlong 97 = .ok (.iinc 7 1, 3) := by decide +kernel
theorem dX2_drawAlong_100 : decode cX2_drawAlong 100 = .ok (.goto (-79), 3) := by decide +kernel
theorem dX2_drawAlong_103 : decode cX2_drawAlong 103 = .ok (.iload 6, 2) := by decide +kernel
theorem dX2_drawAlong_105 : decode cX2_drawAlong 105 = .ok (.ireturn, 1) := by decide +kernel
theorem dX2_moveTo_0 : decode cX2_moveTo 0 = .ok (.aload_n 0, 1) := by decide +kernel
theorem dX2_moveTo_1 : decode cX2_moveTo 1 = .ok (.getfield 16, 3) := by decide +kernel
theorem dX2_moveTo_4 : decode cX2_moveTo 4 = .ok (.iconst 0, 1) := by decide +kernel
theorem dX2_moveTo_5 : decode cX2_moveTo 5 = .ok (.iload_n 1, 1) := by decide +kernel
theorem dX2_moveTo_6 : decode cX2_moveTo 6 = .ok (.iadd, 1) := by decide +kernel
theorem dX2_moveTo_7 : decode cX2_moveTo 7 = .ok (.iaload, 1) := by decide +kernel
theorem dX2_moveTo_8 : decode cX2_moveTo 8 = .ok (.iload_n 2, 1) := by decide +kernel
theorem dX2_moveTo_9 : decode cX2_moveTo 9 = .ok (.iadd, 1) := by decide +kernel
theorem dX2_moveTo_10 : decode cX2_moveTo 10 = .ok (.istore_n 3, 1) := by decide +kernel
theorem dX2_moveTo_11 : decode cX2_moveTo 11 = .ok (.iload_n 3, 1) := by decide +kernel
theorem dX2_moveTo_12 : decode cX2_moveTo 12 = .ok (.invokestatic 94, 3) := by decide +kernel
theorem dX2_moveTo_15 : decode cX2_moveTo 15 = .ok (.ifCond .ne 5, 3) := by decide +kernel
theorem dX2_moveTo_18 : decode cX2_moveTo 18 = .ok (.iconst 0, 1) := by decide +kernel
theorem dX2_moveTo_19 : decode cX2_moveTo 19 = .ok (.ireturn, 1) := by decide +kernel
theorem dX2_moveTo_20 : decode cX2_moveTo 20 = .ok (.aload_n 0, 1) := by decide +kernel
theorem dX2_moveTo_21 : decode cX2_moveTo 21 = .ok (.getfield 16, 3) := by decide +kernel
theorem dX2_moveTo_24 : decode cX2_moveTo 24 = .ok (.iconst 0, 1) := by decide +kernel
theorem dX2_moveTo_25 : decode cX2_moveTo 25 = .ok (.iload_n 1, 1) := by decide +kernel
theorem dX2_moveTo_26 : decode cX2_moveTo 26 = .ok (.iadd, 1) := by decide +kernel
theorem dX2_moveTo_27 : decode cX2_moveTo 27 = .ok (.iload_n 3, 1) := by decide +kernel
theorem dX2_moveTo_28 : decode cX2_moveTo 28 = .ok (.iastore, 1) := by decide +kernel
theorem dX2_moveTo_29 : decode cX2_moveTo 29 = .ok (.iconst 1, 1) := by decide +kernel
theorem dX2_moveTo_30 : decode cX2_moveTo 30 = .ok (.ireturn, 1) := by decide +kernel
theorem dX2_copyBits_0 : decode cX2_copyBits 0 = .ok (.aload_n 0, 1) := by decide +kernel
theorem dX2_copyBits_1 : decode cX2_copyBits 1 = .ok (.aload_n 0, 1) := by decide +kernel
theorem dX2_copyBits_2 : decode cX2_copyBits 2 = .ok (.getfield 23, 3) := by decide +kernel
theorem dX2_copyBits_5 : decode cX2_copyBits 5 = .ok (.iconst 0, 1) := by decide +kernel
theorem dX2_copyBits_6 : decode cX2_copyBits 6 = .ok (.invokevirtual 136, 3) := by decide +kernel
theorem dX2_copyBits_9 : decode cX2_copyBits 9 = .ok (.aload_n 0, 1) := by decide +kernel
theorem dX2_copyBits_10 : decode cX2_copyBits 10 = .ok (.aload_n 0, 1) := by decide +kernel
theorem dX2_copyBits_11 : decode cX2_copyBits 11 = .ok (.getfield 27, 3) := by decide +kernel
theorem dX2_copyBits_14 : decode cX2_copyBits 14 = .ok (.iconst 1, 1) := by decide +kernel
theorem dX2_copyBits_15 : decode cX2_copyBits 15 = .ok (.invokevirtual 136, 3) := by decide +kernel
theorem dX2_copyBits_18 : decode cX2_copyBits 18 = .ok (.aload_n 0, 1) := by decide +kernel
theorem dX2_copyBits_19 : decode cX2_copyBits 19 = .ok (.getfield 23, 3) := by decide +kernel
theorem dX2_copyBits_22 : decode cX2_copyBits 22 = .ok (.invokevirtual 140, 3) := by decide +kernel
theorem dX2_copyBits_25 : decode cX2_copyBits 25 = .ok (.istore_n 1, 1) := by decide +kernel
theorem dX2_copyBits_26 : decode cX2_copyBits 26 = .ok (.aload_n 0, 1) := by decide +kernel
theorem dX2_copyBits_27 : decode cX2_copyBits 27 = .ok (.getfield 27, 3) := by decide +kernel
theorem dX2_copyBits_30 : decode cX2_copyBits 30 = .ok (.invokevirtual 140, 3) := by decide +kernel
theorem dX2_copyBits_33 : decode cX2_copyBits 33 = .ok (.istore_n 2, 1) := by decide +kernel
theorem dX2_copyBits_34 : decode cX2_copyBits 34 = .ok (.iload_n 1, 1) := by decide +kernel
theorem dX2_copyBits_35 : decode cX2_copyBits 35 = .ok (.ifCond .eq 7, 3) := by decide +kernel
theorem dX2_copyBits_38 : decode cX2_copyBits 38 = .ok (.iload_n 2, 1) := by decide +kernel
theorem dX2_copyBits_39 : decode cX2_copyBits 39 = .ok (.ifCond .ne 5, 3) := by decide +kernel
theorem dX2_copyBits_42 : decode cX2_copyBits 42 = .ok (.iconst 0, 1) := by decide +kernel
theorem dX2_copyBits_43 : decode cX2_copyBits 43 = .ok (.ireturn, 1) := by decide +kernel
theorem dX2_copyBits_44 : decode cX2_copyBits 44 = .ok (.aload_n 0, 1) := by decide +kernel
theorem dX2_copyBits_45 : decode cX2_copyBits 45 = .ok (.getfield 27, 3) := by decide +kernel
theorem dX2_copyBits_48 : decode cX2_copyBits 48 = .ok (.getfield 143, 3) := by decide +kernel
theorem dX2_copyBits_51 : decode cX2_copyBits 51 = .ok (.ifCond .ge 7, 3) := by decide +kernel
theorem dX2_copyBits_54 : decode cX2_copyBits 54 = .ok (.iconst 1, 1) := by decide +kernel
theorem dX2_copyBits_55 : decode cX2_copyBits 55 = .ok (.goto 4, 3) := by decide +kernel
theorem dX2_copyBits_58 : decode cX2_copyBits 58 = .ok (.iconst 0, 1) := by decide +kernel
theorem dX2_copyBits_59 : decode cX2_copyBits 59 = .ok (.istore_n 3, 1) := by decide +kernel
theorem dX2_copyBits_60 : decode cX2_copyBits 60 = .ok (.iconst 0, 1) := by decide +kernel
theorem dX2_copyBits_61 : decode cX2_copyBits 61 = .ok (.istore 4, 2) := by decide +kernel
theorem dX2_copyBits_63 : decode cX2_copyBits 63 = .ok (.iload 4, 2) := by decide +kernel
theorem dX2_copyBits_65 : decode cX2_copyBits 65 = .ok (.iload_n 2, 1) := by decide +kernel
theorem dX2_copyBits_66 : decode cX2_copyBits 66 = .ok (.if_icmp .ge 42, 3) := by decide +kernel
theorem dX2_copyBits_69 : decode cX2_copyBits 69 = .ok (.aload_n 0, 1) := by decide +kernel
theorem dX2_copyBits_70 : decode cX2_copyBits 70 = .ok (.iload_n 3, 1) := by decide +kernel
theorem dX2_copyBits_71 : decode cX2_copyBits 71 = .ok (.ifCond .eq 18, 3) := by decide +kernel
theorem dX2_copyBits_74 : decode cX2_copyBits 74 = .ok (.aload_n 0, 1) := by decide +kernel
theorem dX2_copyBits_75 : decode cX2_copyBits 75 = .ok (.getfield 27, 3) := by decide +kernel
theorem dX2_copyBits_78 : decode cX2_copyBits 78 = .ok (.getfield 146, 3) := by decide +kernel
theorem dX2_copyBits_81 : decode cX2_copyBits 81 = .ok (.iconst 1, 1) := by decide +kernel
theorem dX2_copyBits_82 : decode cX2_copyBits 82 = .ok (.isub, 1) := by decide +kernel
theorem dX2_copyBits_83 : decode cX2_copyBits 83 = .ok (.iload 4, 2) := by decide +kernel
theorem dX2_copyBits_85 : decode cX2_copyBits 85 = .ok (.isub, 1) := by decide +kernel
theorem dX2_copyBits_86 : decode cX2_copyBits 86 = .ok (.goto 13, 3) := by decide +kernel
theorem dX2_copyBits_89 : decode cX2_copyBits 89 = .ok (.aload_n 0, 1) := by decide +kernel
theorem dX2_copyBits_90 : decode cX2_copyBits 90 = .ok (.getfield 27, 3) := by decide +kernel
theorem dX2_copyBits_93 : decode cX2_copyBits 93 = .ok (.getfield 149, 3) := by decide +kernel
theorem dX2_copyBits_96 : decode cX2_copyBits 96 = .ok (.iload 4, 2) := by decide +kernel
theorem dX2_copyBits_98 : decode cX2_copyBits 98 = .ok (.iadd, 1) := by decide +kernel
theorem dX2_copyBits_99 : decode cX2_copyBits 99 = .ok (.invokevirtual 152, 3) := by decide +kernel
theorem dX2_copyBits_102 : decode cX2_copyBits 102 = .ok (.iinc 4 1, 3) := by decide +kernel
theorem dX2_copyBits_105 : decode cX2_copyBits 105 = .ok (.goto (-42), 3) := by decide +kernel
theorem dX2_copyBits_108 : decode cX2_copyBits 108 = .ok (.iload_n 1, 1) := by decide +kernel
theorem dX2_copyBits_109 : decode cX2_copyBits 109 = .ok (.iload_n 2, 1) := by decide +kernel
theorem dX2_copyBits_110 : decode cX2_copyBits 110 = .ok (.imul, 1) := by decide +kernel
theorem dX2_copyBits_111 : decode cX2_copyBits 111 = .ok (.ireturn, 1) := by decide +kernel
theorem dX2_findReach_0 : decode cX2_findReach 0 = .ok (.aload_n 1, 1) := by decide +kernel
theorem dX2_findReach_1 : decode cX2_findReach 1 = .ok (.aload_n 0, 1) := by decide +kernel
theorem dX2_findReach_2 : decode cX2_findReach 2 = .ok (.getfield 16, 3) := by decide +kernel
theorem dX2_findReach_5 : decode cX2_findReach 5 = .ok (.iconst 0, 1) := by decide +kernel
theorem dX2_findReach_6 : decode cX2_findReach 6 = .ok (.iload_n 2, 1) := by decide +kernel
theorem dX2_findReach_7 : decode cX2_findReach 7 = .ok (.iadd, 1) := by decide +kernel
theorem dX2_findReach_8 : decode cX2_findReach 8 = .ok (.iaload, 1) := by decide +kernel
theorem dX2_findReach_9 : decode cX2_findReach 9 = .ok (.aload_n 0, 1) := by decide +kernel
theorem dX2_findReach_10 : decode cX2_findReach 10 = .ok (.getfield 16, 3) := by decide +kernel
theorem dX2_findReach_13 : decode cX2_findReach 13 = .ok (.iconst 2, 1) := by decide +kernel
theorem dX2_findReach_14 : decode cX2_findReach 14 = .ok (.iload_n 2, 1) := by decide +kernel
theorem dX2_findReach_15 : decode cX2_findReach 15 = .ok (.iadd, 1) := by decide +kernel
theorem dX2_findReach_16 : decode cX2_findReach 16 = .ok (.iaload, 1) := by decide +kernel
theorem dX2_findReach_17 : decode cX2_findReach 17 = .ok (.aload_n 0, 1) := by decide +kernel
theorem dX2_findReach_18 : decode cX2_findReach 18 = .ok (.getfield 16, 3) := by decide +kernel
theorem dX2_findReach_21 : decode cX2_findReach 21 = .ok (.iconst 4, 1) := by decide +kernel
theorem dX2_findReach_22 : decode cX2_findReach 22 = .ok (.iload_n 2, 1) := by decide +kernel
theorem dX2_findReach_23 : decode cX2_findReach 23 = .ok (.iadd, 1) := by decide +kernel
theorem dX2_findReach_24 : decode cX2_findReach 24 = .ok (.iaload, 1) := by decide +kernel
theorem dX2_findReach_25 : decode cX2_findReach 25 = .ok (.invokevirtual 156, 3) := by decide +kernel
theorem dX2_findReach_28 : decode cX2_findReach 28 = .ok (.aload_n 1, 1) := by decide +kernel
theorem dX2_findReach_29 : decode cX2_findReach 29 = .ok (.aload_n 0, 1) := by decide +kernel
theorem dX2_findReach_30 : decode cX2_findReach 30 = .ok (.getfield 16, 3) := by decide +kernel
theorem dX2_findReach_33 : decode cX2_findReach 33 = .ok (.bipush 6, 2) := by decide +kernel
theorem dX2_findReach_35 : decode cX2_findReach 35 = .ok (.iload_n 2, 1) := by decide +kernel
theorem dX2_findReach_36 : decode cX2_findReach 36 = .ok (.iadd, 1) := by decide +kernel
theorem dX2_findReach_37 : decode cX2_findReach 37 = .ok (.iaload, 1) := by decide +kernel
theorem dX2_findReach_38 : decode cX2_findReach 38 = .ok (.aload_n 0, 1) := by decide +kernel
theorem dX2_findReach_39 : decode cX2_findReach 39 = .ok (.getfield 16, 3) := by decide +kernel
theorem dX2_findReach_42 : decode cX2_findReach 42 = .ok (.bipush 8, 2) := by decide +kernel
theorem dX2_findReach_44 : decode cX2_findReach 44 = .ok (.iload_n 2, 1) := by decide +kernel
theorem dX2_findReach_45 : decode cX2_findReach 45 = .ok (.iadd, 1) := by decide +kernel
theorem dX2_findReach_46 : decode cX2_findReach 46 = .ok (.iaload, 1) := by decide +kernel
theorem dX2_findReach_47 : decode cX2_findReach 47 = .ok (.invokevirtual 159, 3) := by decide +kernel
theorem dX2_findReach_50 : decode cX2_findReach 50 = .ok (.aload_n 1, 1) := by decide +kernel
theorem dX2_findReach_51 : decode cX2_findReach 51 = .ok (.iconst 0, 1) := by decide +kernel
theorem dX2_findReach_52 : decode cX2_findReach 52 = .ok (.aload_n 0, 1) := by decide +kernel
theorem dX2_findReach_53 : decode cX2_findReach 53 = .ok (.getfield 30, 3) := by decide +kernel
theorem dX2_findReach_56 : decode cX2_findReach 56 = .ok (.iload_n 2, 1) := by decide +kernel
theorem dX2_findReach_57 : decode cX2_findReach 57 = .ok (.invokevirtual 162, 3) := by decide +kernel
theorem dX2_findReach_60 : decode cX2_findReach 60 = .ok (.invokevirtual 159, 3) := by decide +kernel
theorem dX2_findReach_63 : decode cX2_findReach 63 = .ok (.aload_n 0, 1) := by decide +kernel
theorem dX2_findReach_64 : decode cX2_findReach 64 = .ok (.getfield 34, 3) := by decide +kernel
theorem dX2_findReach_67 : decode cX2_findReach 67 = .ok (.ifnull 20, 3) := by decide +kernel
theorem dX2_findReach_70 : decode cX2_findReach 70 = .ok (.aload_n 1, 1) := by decide +kernel
theorem dX2_findReach_71 : decode cX2_findReach 71 = .ok (.aload_n 1, 1) := by decide +kernel
theorem dX2_findReach_72 : decode cX2_findReach 72 = .ok (.getfield 143, 3) := by decide +kernel
theorem dX2_findReach_75 : decode cX2_findReach 75 = .ok (.ineg, 1) := by decide +kernel
theorem dX2_findReach_76 : decode cX2_findReach 76 = .ok (.aload_n 0, 1) := by decide +kernel
theorem dX2_findReach_77 : decode cX2_findReach 77 = .ok (.getfield 34, 3) := by decide +kernel
theorem dX2_findReach_80 : decode cX2_findReach 80 = .ok (.iload_n 2, 1) := by decide +kernel
theorem dX2_findReach_81 : decode cX2_findReach 81 = .ok (.invokevirtual 162, 3) := by decide +kernel
theorem dX2_findReach_84 : decode cX2_findReach 84 = .ok (.invokevirtual 159, 3) := by decide +kernel
theorem dX2_findReach_87 : decode cX2_findReach 87 = .ok (.return_, 1) := by decide +kernel
theorem dX2_copyRow_0 : decode cX2_copyRow 0 = .ok (.aload_n 0, 1) := by decide +kernel
theorem dX2_copyRow_1 : decode cX2_copyRow 1 = .ok (.getfield 23, 3) := by decide +kernel
theorem dX2_copyRow_4 : decode cX2_copyRow 4 = .ok (.getfield 143, 3) := by decide +kernel
theorem dX2_copyRow_7 : decode cX2_copyRow 7 = .ok (.ifCond .ge 7, 3) := by decide +kernel
theorem dX2_copyRow_10 : decode cX2_copyRow 10 = .ok (.iconst 1, 1) := by decide +kernel
theorem dX2_copyRow_11 : decode cX2_copyRow 11 = .ok (.goto 4, 3) := by decide +kernel
theorem dX2_copyRow_14 : decode cX2_copyRow 14 = .ok (.iconst 0, 1) := by decide +kernel
theorem dX2_copyRow_15 : decode cX2_copyRow 15 = .ok (.istore_n 2, 1) := by decide +kernel
theorem dX2_copyRow_16 : decode cX2_copyRow 16 = .ok (.aload_n 0, 1) := by decide +kernel
theorem dX2_copyRow_17 : decode cX2_copyRow 17 = .ok (.getfield 23, 3) := by decide +kernel
theorem dX2_copyRow_20 : decode cX2_copyRow 20 = .ok (.getfield 149, 3) := by decide +kernel
theorem dX2_copyRow_23 : decode cX2_copyRow 23 = .ok (.bipush 16, 2) := by decide +kernel
theorem dX2_copyRow_25 : decode cX2_copyRow 25 = .ok (.idiv, 1) := by decide +kernel
theorem dX2_copyRow_26 : decode cX2_copyRow 26 = .ok (.istore_n 3, 1) := by decide +kernel
theorem dX2_copyRow_27 : decode cX2_copyRow 27 = .ok (.aload_n 0, 1) := by decide +kernel
theorem dX2_copyRow_28 : decode cX2_copyRow 28 = .ok (.getfield 23, 3) := by decide +kernel
theorem dX2_copyRow_31 : decode cX2_copyRow 31 = .ok (.getfield 146, 3) := by decide +kernel
theorem dX2_copyRow_34 : decode cX2_copyRow 34 = .ok (.iconst 1, 1) := by decide +kernel
theorem dX2_copyRow_35 : decode cX2_copyRow 35 = .ok (.isub, 1) := by decide +kernel
theorem dX2_copyRow_36 : decode cX2_copyRow 36 = .ok (.bipush 16, 2) := by decide +kernel
theorem dX2_copyRow_38 : decode cX2_copyRow 38 = .ok (.idiv, 1) := by decide +kernel
theorem dX2_copyRow_39 : decode cX2_copyRow 39 = .ok (.istore 4, 2) := by decide +kernel
theorem dX2_copyRow_41 : decode cX2_copyRow 41 = .ok (.iconst 0, 1) := by decide +kernel
theorem dX2_copyRow_42 : decode cX2_copyRow 42 = .ok (.istore 5, 2) := by decide +kernel
theorem dX2_copyRow_44 : decode cX2_copyRow 44 = .ok (.iload 5, 2) := by decide +kernel
theorem dX2_copyRow_46 : decode cX2_copyRow 46 = .ok (.iload 4, 2) := by decide +kernel
theorem dX2_copyRow_48 : decode cX2_copyRow 48 = .ok (.iload_n 3, 1) := by decide +kernel
theorem dX2_copyRow_49 : decode cX2_copyRow 49 = .ok (.isub, 1) := by decide +kernel
theorem dX2_copyRow_50 : decode cX2_copyRow 50 = .ok (.if_icmp .gt 108, 3) := by decide +kernel
theorem dX2_copyRow_53 : decode cX2_copyRow 53 = .ok (.iload_n 2, 1) := by decide +kernel
theorem dX2_copyRow_54 : decode cX2_copyRow 54 = .ok (.ifCond .eq 11, 3) := by decide +kernel
theorem dX2_copyRow_57 : decode cX2_copyRow 57 = .ok (.iload 4, 2) := by decide +kernel
theorem dX2_copyRow_59 : decode cX2_copyRow 59 = .ok (.iload 5, 2) := by decide +kernel
theorem dX2_copyRow_61 : decode cX2_copyRow 61 = .ok (.isub, 1) := by decide +kernel
theorem dX2_copyRow_62 : decode cX2_copyRow 62 = .ok (.goto 7, 3) := by decide +kernel
theorem dX2_copyRow_65 : decode cX2_copyRow 65 = .ok (.iload_n 3, 1) := by decide +kernel
theorem dX2_copyRow_66 : decode cX2_copyRow 66 = .ok (.iload 5, 2) := by decide +kernel
theorem dX2_copyRow_68 : decode cX2_copyRow 68 = .ok (.iadd, 1) := by decide +kernel
theorem dX2_copyRow_69 : decode cX2_copyRow 69 = .ok (.istore 6, 2) := by decide +kernel
theorem dX2_copyRow_71 : decode cX2_copyRow 71 = .ok (.iload_n 1, 1) := by decide +kernel
theorem dX2_copyRow_72 : decode cX2_copyRow 72 = .ok (.aload_n 0, 1) := by decide +kernel
theorem dX2_copyRow_73 : decode cX2_copyRow 73 = .ok (.getfield 30, 3) := by decide +kernel
theorem dX2_copyRow_76 : decode cX2_copyRow 76 = .ok (.getfield 165, 3) := by decide +kernel
theorem dX2_copyRow_79 : decode cX2_copyRow 79 = .ok (.imul, 1) := by decide +kernel
theorem dX2_copyRow_80 : decode cX2_copyRow 80 = .ok (.iload 6, 2) := by decide +kernel
theorem dX2_copyRow_82 : decode cX2_copyRow 82 = .ok (.iadd, 1) := by decide +kernel
theorem dX2_copyRow_83 : decode cX2_copyRow 83 = .ok (.istore 7, 2) := by decide +kernel
theorem dX2_copyRow_85 : decode cX2_copyRow 85 = .ok (.aload_n 0, 1) := by decide +kernel
theorem dX2_copyRow_86 : decode cX2_copyRow 86 = .ok (.getfield 30, 3) := by decide +kernel
theorem dX2_copyRow_89 : decode cX2_copyRow 89 = .ok (.getfield 63, 3) := by decide +kernel
theorem dX2_copyRow_92 : decode cX2_copyRow 92 = .ok (.iload 7, 2) := by decide +kernel
theorem dX2_copyRow_94 : decode cX2_copyRow 94 = .ok (.iaload, 1) := by decide +kernel
theorem dX2_copyRow_95 : decode cX2_copyRow 95 = .ok (.istore 8, 2) := by decide +kernel
theorem dX2_copyRow_97 : decode cX2_copyRow 97 = .ok (.iload 6, 2) := by decide +kernel
theorem dX2_copyRow_99 : decode cX2_copyRow 99 = .ok (.aload_n 0, 1) := by decide +kernel
theorem dX2_copyRow_100 : decode cX2_copyRow 100 = .ok (.getfield 23, 3) := by decide +kernel
theorem dX2_copyRow_103 : decode cX2_copyRow 103 = .ok (.getfield 149, 3) := by decide +kernel
theorem dX2_copyRow_106 : decode cX2_copyRow 106 = .ok (.aload_n 0, 1) := by decide +kernel
theorem dX2_copyRow_107 : decode cX2_copyRow 107 = .ok (.getfield 23, 3) := by decide +kernel
theorem dX2_copyRow_110 : decode cX2_copyRow 110 = .ok (.getfield 146, 3) := by decide +kernel
theorem dX2_copyRow_113 : decode cX2_copyRow 113 = .ok (.invokestatic 168, 3) := by decide +kernel
theorem dX2_copyRow_116 : decode cX2_copyRow 116 = .ok (.istore 9, 2) := by decide +kernel
theorem dX2_copyRow_118 : decode cX2_copyRow 118 = .ok (.aload_n 0, 1) := by decide +kernel
theorem dX2_copyRow_119 : decode cX2_copyRow 119 = .ok (.getfield 30, 3) := by decide +kernel
theorem dX2_copyRow_122 : decode cX2_copyRow 122 = .ok (.getfield 63, 3) := by decide +kernel
theorem dX2_copyRow_125 : decode cX2_copyRow 125 = .ok (.iload 7, 2) := by decide +kernel
theorem dX2_copyRow_127 : decode cX2_copyRow 127 = .ok (.iload 8, 2) := by decide +kernel
theorem dX2_copyRow_129 : decode cX2_copyRow 129 = .ok (.iload 9, 2) := by decide +kernel
theorem dX2_copyRow_131 : decode cX2_copyRow 131 = .ok (.iconst (-1), 1) := by decide +kernel
theorem dX2_copyRow_132 : decode cX2_copyRow 132 = .ok (.ixor, 1) := by decide +kernel
theorem dX2_copyRow_133 : decode cX2_copyRow 133 = .ok (.iand, 1) := by decide +kernel
theorem dX2_copyRow_134 : decode cX2_copyRow 134 = .ok (.aload_n 0, 1) := by decide +kernel
theorem dX2_copyRow_135 : decode cX2_copyRow 135 = .ok (.aload_n 0, 1) := by decide +kernel
theorem dX2_copyRow_136 : decode cX2_copyRow 136 = .ok (.iload 6, 2) := by decide +kernel
theorem dX2_copyRow_138 : decode cX2_copyRow 138 = .ok (.iload_n 1, 1) := by decide +kernel
theorem dX2_copyRow_139 : decode cX2_copyRow 139 = .ok (.invokevirtual 171, 3) := by decide +kernel
theorem dX2_copyRow_142 : decode cX2_copyRow 142 = .ok (.iload 8, 2) := by decide +kernel
theorem dX2_copyRow_144 : decode cX2_copyRow 144 = .ok (.invokevirtual 174, 3) := by decide +kernel
theorem dX2_copyRow_147 : decode cX2_copyRow 147 = .ok (.iload 9, 2) := by decide +kernel
theorem dX2_copyRow_149 : decode cX2_copyRow 149 = .ok (.iand, 1) := by decide +kernel
theorem dX2_copyRow_150 : decode cX2_copyRow 150 = .ok (.ior, 1) := by decide +kernel
theorem dX2_copyRow_151 : decode cX2_copyRow 151 = .ok (.iastore, 1) := by decide +kernel
theorem dX2_copyRow_152 : decode cX2_copyRow 152 = .ok (.iinc 5 1, 3) := by decide +kernel
theorem dX2_copyRow_155 : decode cX2_copyRow 155 = .ok (.goto (-111), 3) := by decide +kernel
theorem dX2_copyRow_158 : decode cX2_copyRow 158 = .ok (.return_, 1) := by decide +kernel
theorem dX2_incoming_0 : decode cX2_incoming 0 = .ok (.ldc 129, 2) := by decide +kernel
theorem dX2_incoming_2 : decode cX2_incoming 2 = .ok (.istore_n 3, 1) := by decide +kernel
theorem dX2_incoming_3 : decode cX2_incoming 3 = .ok (.aload_n 0, 1) := by decide +kernel
theorem dX2_incoming_4 : decode cX2_incoming 4 = .ok (.getfield 34, 3) := by decide +kernel
theorem dX2_incoming_7 : decode cX2_incoming 7 = .ok (.ifnull 32, 3) := by decide +kernel
theorem dX2_incoming_10 : decode cX2_incoming 10 = .ok (.aload_n 0, 1) := by decide +kernel
theorem dX2_incoming_11 : decode cX2_incoming 11 = .ok (.getfield 34, 3) := by decide +kernel
theorem dX2_incoming_14 : decode cX2_incoming 14 = .ok (.iload_n 1, 1) := by decide +kernel
theorem dX2_incoming_15 : decode cX2_incoming 15 = .ok (.bipush 16, 2) := by decide +kernel
theorem dX2_incoming_17 : decode cX2_incoming 17 = .ok (.imul, 1) := by decide +kernel
theorem dX2_incoming_18 : decode cX2_incoming 18 = .ok (.aload_n 0, 1) := by decide +kernel
theorem dX2_incoming_19 : decode cX2_incoming 19 = .ok (.getfield 23, 3) := by decide +kernel
theorem dX2_incoming_22 : decode cX2_incoming 22 = .ok (.getfield 143, 3) := by decide +kernel
theorem dX2_incoming_25 : decode cX2_incoming 25 = .ok (.iadd, 1) := by decide +kernel
theorem dX2_incoming_26 : decode cX2_incoming 26 = .ok (.iload_n 2, 1) := by decide +kernel
theorem dX2_incoming_27 : decode cX2_incoming 27 = .ok (.aload_n 0, 1) := by decide +kernel
theorem dX2_incoming_28 : decode cX2_incoming 28 = .ok (.getfield 27, 3) := by decide +kernel
theorem dX2_incoming_31 : decode cX2_incoming 31 = .ok (.getfield 143, 3) := by decide +kernel
theorem dX2_incoming_34 : decode cX2_incoming 34 = .ok (.iadd, 1) := by decide +kernel
theorem dX2_incoming_35 : decode cX2_incoming 35 = .ok (.invokevirtual 177, 3) := by decide +kernel
theorem dX2_incoming_38 : decode cX2_incoming 38 = .ok (.istore_n 3, 1) := by decide +kernel
theorem dX2_incoming_39 : decode cX2_incoming 39 = .ok (.aload_n 0, 1) := by decide +kernel
theorem dX2_incoming_40 : decode cX2_incoming 40 = .ok (.getfield 37, 3) := by decide +kernel
theorem dX2_incoming_43 : decode cX2_incoming 43 = .ok (.ifnull 18, 3) := by decide +kernel
theorem dX2_incoming_46 : decode cX2_incoming 46 = .ok (.iload_n 3, 1) := by decide +kernel
theorem dX2_incoming_47 : decode cX2_incoming 47 = .ok (.aload_n 0, 1) := by decide +kernel
theorem dX2_incoming_48 : decode cX2_incoming 48 = .ok (.getfield 37, 3) := by decide +kernel
theorem dX2_incoming_51 : decode cX2_incoming 51 = .ok (.getfield 63, 3) := by decide +kernel
theorem dX2_incoming_54 : decode cX2_incoming 54 = .ok (.iload_n 2, 1) := by decide +kernel
theorem dX2_incoming_55 : decode cX2_incoming 55 = .ok (.bipush 16, 2) := by decide +kernel
theorem dX2_incoming_57 : decode cX2_incoming 57 = .ok (.irem, 1) := by decide +kernel
theorem dX2_incoming_58 : decode cX2_incoming 58 = .ok (.iaload, 1) := by decide +kernel
theorem dX2_incoming_59 : decode cX2_incoming 59 = .ok (.iand, 1) := by decide +kernel
theorem dX2_incoming_60 : decode cX2_incoming 60 = .ok (.istore_n 3, 1) := by decide +kernel
theorem dX2_incoming_61 : decode cX2_incoming 61 = .ok (.iload_n 3, 1) := by decide +kernel
theorem dX2_incoming_62 : decode cX2_incoming 62 = .ok (.ireturn, 1) := by decide +kernel
theorem dX2_byRule_0 : decode cX2_byRule 0 = .ok (.iconst 0, 1) := by decide +kernel
theorem dX2_byRule_1 : decode cX2_byRule 1 = .ok (.istore_n 3, 1) := by decide +kernel
theorem dX2_byRule_2 : decode cX2_byRule 2 = .ok (.aload_n 0, 1) := by decide +kernel
theorem dX2_byRule_3 : decode cX2_byRule 3 = .ok (.getfield 40, 3) := by decide +kernel
theorem dX2_byRule_6 : decode cX2_byRule 6 = .ok (.iconst 1, 1) := by decide +kernel
theorem dX2_byRule_7 : decode cX2_byRule 7 = .ok (.iand, 1) := by decide +kernel
theorem dX2_byRule_8 : decode cX2_byRule 8 = .ok (.ifCond .eq 9, 3) := by decide +kernel
theorem dX2_byRule_11 : decode cX2_byRule 11 = .ok (.iload_n 3, 1) := by decide +kernel
theorem dX2_byRule_12 : decode cX2_byRule 12 = .ok (.iload_n 1, 1) := by decide +kernel
theorem dX2_byRule_13 : decode cX2_byRule 13 = .ok (.iload_n 2, 1) := by decide +kernel
theorem dX2_byRule_14 : decode cX2_byRule 14 = .ok (.iand, 1) := by decide +kernel
theorem dX2_byRule_15 : decode cX2_byRule 15 = .ok (.ior, 1) := by decide +kernel
theorem dX2_byRule_16 : decode cX2_byRule 16 = .ok (.istore_n 3, 1) := by decide +kernel
theorem dX2_byRule_17 : decode cX2_byRule 17 = .ok (.aload_n 0, 1) := by decide +kernel
theorem dX2_byRule_18 : decode cX2_byRule 18 = .ok (.getfield 40, 3) := by decide +kernel
theorem dX2_byRule_21 : decode cX2_byRule 21 = .ok (.iconst 2, 1) := by decide +kernel
theorem dX2_byRule_22 : decode cX2_byRule 22 = .ok (.iand, 1) := by decide +kernel
theorem dX2_byRule_23 : decode cX2_byRule 23 = .ok (.ifCond .eq 11, 3) := by decide +kernel
theorem dX2_byRule_26 : decode cX2_byRule 26 = .ok (.iload_n 3, 1) := by decide +kernel
theorem dX2_byRule_27 : decode cX2_byRule 27 = .ok (.iload_n 1, 1) := by decide +kernel
theorem dX2_byRule_28 : decode cX2_byRule 28 = .ok (.iload_n 2, 1) := by decide +kernel
theorem dX2_byRule_29 : decode cX2_byRule 29 = .ok (.iconst (-1), 1) := by decide +kernel
theorem dX2_byRule_30 : decode cX2_byRule 30 = .ok (.ixor, 1) := by decide +kernel
theorem dX2_byRule_31 : decode cX2_byRule 31 = .ok (.iand, 1) := by decide +kernel
theorem dX2_byRule_32 : decode cX2_byRule 32 = .ok (.ior, 1) := by decide +kernel
theorem dX2_byRule_33 : decode cX2_byRule 33 = .ok (.istore_n 3, 1) := by decide +kernel
theorem dX2_byRule_34 : decode cX2_byRule 34 = .ok (.aload_n 0, 1) := by decide +kernel
theorem dX2_byRule_35 : decode cX2_byRule 35 = .ok (.getfield 40, 3) := by decide +kernel
theorem dX2_byRule_38 : decode cX2_byRule 38 = .ok (.iconst 4, 1) := by decide +kernel
theorem dX2_byRule_39 : decode cX2_byRule 39 = .ok (.iand, 1) := by decide +kernel
theorem dX2_byRule_40 : decode cX2_byRule 40 = .ok (.ifCond .eq 11, 3) := by decide +kernel
theorem dX2_byRule_43 : decode cX2_byRule 43 = .ok (.iload_n 3, 1) := by decide +kernel
theorem dX2_byRule_44 : decode cX2_byRule 44 = .ok (.iload_n 1, 1) := by decide +kernel
theorem dX2_byRule_45 : decode cX2_byRule 45 = .ok (.iconst (-1), 1) := by decide +kernel
theorem dX2_byRule_46 : decode cX2_byRule 46 = .ok (.ixor, 1) := by decide +kernel
theorem dX2_byRule_47 : decode cX2_byRule 47 = .ok (.iload_n 2, 1) := by decide +kernel
theorem dX2_byRule_48 : decode cX2_byRule 48 = .ok (.iand, 1) := by decide +kernel
theorem dX2_byRule_49 : decode cX2_byRule 49 = .ok (.ior, 1) := by decide +kernel
theorem dX2_byRule_50 : decode cX2_byRule 50 = .ok (.istore_n 3, 1) := by decide +kernel
theorem dX2_byRule_51 : decode cX2_byRule 51 = .ok (.aload_n 0, 1) := by decide +kernel
theorem dX2_byRule_52 : decode cX2_byRule 52 = .ok (.getfield 40, 3) := by decide +kernel
theorem dX2_byRule_55 : decode cX2_byRule 55 = .ok (.bipush 8, 2) := by decide +kernel
theorem dX2_byRule_57 : decode cX2_byRule 57 = .ok (.iand, 1) := by decide +kernel
theorem dX2_byRule_58 : decode cX2_byRule 58 = .ok (.ifCond .eq 13, 3) := by decide +kernel
theorem dX2_byRule_61 : decode cX2_byRule 61 = .ok (.iload_n 3, 1) := by decide +kernel
theorem dX2_byRule_62 : decode cX2_byRule 62 = .ok (.iload_n 1, 1) := by decide +kernel
theorem dX2_byRule_63 : decode cX2_byRule 63 = .ok (.iconst (-1), 1) := by decide +kernel
theorem dX2_byRule_64 : decode cX2_byRule 64 = .ok (.ixor, 1) := by decide +kernel
theorem dX2_byRule_65 : decode cX2_byRule 65 = .ok (.iload_n 2, 1) := by decide +kernel
theorem dX2_byRule_66 : decode cX2_byRule 66 = .ok (.iconst (-1), 1) := by decide +kernel
theorem dX2_byRule_67 : decode cX2_byRule 67 = .ok (.ixor, 1) := by decide +kernel
theorem dX2_byRule_68 : decode cX2_byRule 68 = .ok (.iand, 1) := by decide +kernel
theorem dX2_byRule_69 : decode cX2_byRule 69 = .ok (.ior, 1) := by decide +kernel
theorem dX2_byRule_70 : decode cX2_byRule 70 = .ok (.istore_n 3, 1) := by decide +kernel
theorem dX2_byRule_71 : decode cX2_byRule 71 = .ok (.iload_n 3, 1) := by decide +kernel
theorem dX2_byRule_72 : decode cX2_byRule 72 = .ok (.ireturn, 1) := by decide +kernel
