theorem dX3_init_0 : decode cX3_init 0 = .ok (.aload_n 0, 1) := by decide +kernel
theorem dX3_init_1 : decode cX3_init 1 = .ok (.invokespecial 1, 3) := by decide +kernel
theorem dX3_init_4 : decode cX3_init 4 = .ok (.aload_n 0, 1) := by decide +kernel
theorem dX3_init_5 : decode cX3_init 5 = .ok (.iconst 4, 1) := by decide +kernel
theorem dX3_init_6 : decode cX3_init 6 = .ok (.newarray .int, 2) := by decide +kernel
theorem dX3_init_8 : decode cX3_init 8 = .ok (.putfield 7, 3) := by decide +kernel
theorem dX3_init_11 : decode cX3_init 11 = .ok (.aload_n 0, 1) := by decide +kernel
theorem dX3_init_12 : decode cX3_init 12 = .ok (.iconst 4, 1) := by decide +kernel
theorem dX3_init_13 : decode cX3_init 13 = .ok (.newarray .int, 2) := by decide +kernel
theorem dX3_init_15 : decode cX3_init 15 = .ok (.putfield 13, 3) := by decide +kernel
theorem dX3_init_18 : decode cX3_init 18 = .ok (.aload_n 0, 1) := by decide +kernel
theorem dX3_init_19 : decode cX3_init 19 = .ok (.sipush 16000, 3) := by decide +kernel
theorem dX3_init_22 : decode cX3_init 22 = .ok (.newarray .int, 2) := by decide +kernel
theorem dX3_init_24 : decode cX3_init 24 = .ok (.putfield 16, 3) := by decide +kernel
theorem dX3_init_27 : decode cX3_init 27 = .ok (.aload_n 0, 1) := by decide +kernel
theorem dX3_init_28 : decode cX3_init 28 = .ok (.sipush 4000, 3) := by decide +kernel
theorem dX3_init_31 : decode cX3_init 31 = .ok (.newarray .int, 2) := by decide +kernel
theorem dX3_init_33 : decode cX3_init 33 = .ok (.putfield 19, 3) := by decide +kernel
theorem dX3_init_36 : decode cX3_init 36 = .ok (.aload_n 0, 1) := by decide +kernel
theorem dX3_init_37 : decode cX3_init 37 = .ok (.bipush 16, 2) := by decide +kernel
theorem dX3_init_39 : decode cX3_init 39 = .ok (.newarray .int, 2) := by decide +kernel
theorem dX3_init_41 : decode cX3_init 41 = .ok (.putfield 22, 3) := by decide +kernel
theorem dX3_init_44 : decode cX3_init 44 = .ok (.aload_n 0, 1) := by decide +kernel
theorem dX3_init_45 : decode cX3_init 45 = .ok (.iconst (-1), 1) := by decide +kernel
theorem dX3_init_46 : decode cX3_init 46 = .ok (.putfield 25, 3) := by decide +kernel
theorem dX3_init_49 : decode cX3_init 49 = .ok (.aload_n 0, 1) := by decide +kernel
theorem dX3_init_50 : decode cX3_init 50 = .ok (.iconst (-1), 1) := by decide +kernel
theorem dX3_init_51 : decode cX3_init 51 = .ok (.putfield 29, 3) := by decide +kernel
theorem dX3_init_54 : decode cX3_init 54 = .ok (.aload_n 0, 1) := by decide +kernel
theorem dX3_init_55 : decode cX3_init 55 = .ok (.iconst 3, 1) := by decide +kernel
theorem dX3_init_56 : decode cX3_init 56 = .ok (.putfield 32, 3) := by decide +kernel
theorem dX3_init_59 : decode cX3_init 59 = .ok (.aload_n 0, 1) := by decide +kernel
theorem dX3_init_60 : decode cX3_init 60 = .ok (.bipush 10, 2) := by decide +kernel
theorem dX3_init_62 : decode cX3_init 62 = .ok (.newarray .int, 2) := by decide +kernel
theorem dX3_init_64 : decode cX3_init 64 = .ok (.putfield 35, 3) := by decide +kernel
theorem dX3_init_67 : decode cX3_init 67 = .ok (.iconst 0, 1) := by decide +kernel
theorem dX3_init_68 : decode cX3_init 68 = .ok (.istore_n 1, 1) := by decide +kernel
theorem dX3_init_69 : decode cX3_init 69 = .ok (.iload_n 1, 1) := by decide +kernel
theorem dX3_init_70 : decode cX3_init 70 = .ok (.iconst 4, 1) := by decide +kernel
theorem dX3_init_71 : decode cX3_init 71 = .ok (.if_icmp .ge 25, 3) := by decide +kernel
theorem dX3_init_74 : decode cX3_init 74 = .ok (.aload_n 0, 1) := by decide +kernel
theorem dX3_init_75 : decode cX3_init 75 = .ok (.getfield 7, 3) := by decide +kernel
theorem dX3_init_78 : decode cX3_init 78 = .ok (.iload_n 1, 1) := by decide +kernel
theorem dX3_init_79 : decode cX3_init 79 = .ok (.bipush 16, 2) := by decide +kernel
theorem dX3_init_81 : decode cX3_init 81 = .ok (.iastore, 1) := by decide +kernel
theorem dX3_init_82 : decode cX3_init 82 = .ok (.aload_n 0, 1) := by decide +kernel
theorem dX3_init_83 : decode cX3_init 83 = .ok (.getfield 13, 3) := by decide +kernel
theorem dX3_init_86 : decode cX3_init 86 = .ok (.iload_n 1, 1) := by decide +kernel
theorem dX3_init_87 : decode cX3_init 87 = .ok (.bipush 16, 2) := by decide +kernel
theorem dX3_init_89 : decode cX3_init 89 = .ok (.iastore, 1) := by decide +kernel
theorem dX3_init_90 : decode cX3_init 90 = .ok (.iinc 1 1, 3) := by decide +kernel
theorem dX3_init_93 : decode cX3_init 93 = .ok (.goto (-24), 3) := by decide +kernel
theorem dX3_init_96 : decode cX3_init 96 = .ok (.aload_n 0, 1) := by decide +kernel
theorem dX3_init_97 : decode cX3_init 97 = .ok (.getfield 35, 3) := by decide +kernel
theorem dX3_init_100 : decode cX3_init 100 = .ok (.bipush 8, 2) := by decide +kernel
theorem dX3_init_102 : decode cX3_init 102 = .ok (.bipush 16, 2) := by decide +kernel
theorem dX3_init_104 : decode cX3_init 104 = .ok (.iastore, 1) := by decide +kernel
theorem dX3_init_105 : decode cX3_init 105 = .ok (.aload_n 0, 1) := by decide +kernel
theorem dX3_init_106 : decode cX3_init 106 = .ok (.getfield 35, 3) := by decide +kernel
theorem dX3_init_109 : decode cX3_init 109 = .ok (.bipush 9, 2) := by decide +kernel
theorem dX3_init_111 : decode cX3_init 111 = .ok (.bipush 16, 2) := by decide +kernel
theorem dX3_init_113 : decode cX3_init 113 = .ok (.iastore, 1) := by decide +kernel
theorem dX3_init_114 : decode cX3_init 114 = .ok (.return_, 1) := by decide +kernel
theorem dX3_isForm_0 : decode cX3_isForm 0 = .ok (.iload_n 0, 1) := by decide +kernel
theorem dX3_isForm_1 : decode cX3_isForm 1 = .ok (.ifCond .lt 12, 3) := by decide +kernel
theorem dX3_isForm_4 : decode cX3_isForm 4 = .ok (.iload_n 0, 1) := by decide +kernel
theorem dX3_isForm_5 : decode cX3_isForm 5 = .ok (.iconst 4, 1) := by decide +kernel
theorem dX3_isForm_6 : decode cX3_isForm 6 = .ok (.if_icmp .ge 7, 3) := by decide +kernel
theorem dX3_isForm_9 : decode cX3_isForm 9 = .ok (.iconst 1, 1) := by decide +kernel
theorem dX3_isForm_10 : decode cX3_isForm 10 = .ok (.goto 4, 3) := by decide +kernel
theorem dX3_isForm_13 : decode cX3_isForm 13 = .ok (.iconst 0, 1) := by decide +kernel
theorem dX3_isForm_14 : decode cX3_isForm 14 = .ok (.ireturn, 1) := by decide +kernel
theorem dX3_perRow_0 : decode cX3_perRow 0 = .ok (.aload_n 0, 1) := by decide +kernel
theorem dX3_perRow_1 : decode cX3_perRow 1 = .ok (.getfield 7, 3) := by decide +kernel
theorem dX3_perRow_4 : decode cX3_perRow 4 = .ok (.iload_n 1, 1) := by decide +kernel
theorem dX3_perRow_5 : decode cX3_perRow 5 = .ok (.iaload, 1) := by decide +kernel
theorem dX3_perRow_6 : decode cX3_perRow 6 = .ok (.bipush 15, 2) := by decide +kernel
theorem dX3_perRow_8 : decode cX3_perRow 8 = .ok (.iadd, 1) := by decide +kernel
theorem dX3_perRow_9 : decode cX3_perRow 9 = .ok (.bipush 16, 2) := by decide +kernel
theorem dX3_perRow_11 : decode cX3_perRow 11 = .ok (.idiv, 1) := by decide +kernel
theorem dX3_perRow_12 : decode cX3_perRow 12 = .ok (.ireturn, 1) := by decide +kernel
theorem dX3_form_0 : decode cX3_form 0 = .ok (.iload_n 1, 1) := by decide +kernel
theorem dX3_form_1 : decode cX3_form 1 = .ok (.invokestatic 38, 3) := by decide +kernel
theorem dX3_form_4 : decode cX3_form 4 = .ok (.ifCond .eq 33, 3) := by decide +kernel
theorem dX3_form_7 : decode cX3_form 7 = .ok (.iload_n 2, 1) := by decide +kernel
theorem dX3_form_8 : decode cX3_form 8 = .ok (.iconst 1, 1) := by decide +kernel
theorem dX3_form_9 : decode cX3_form 9 = .ok (.if_icmp .lt 28, 3) := by decide +kernel
theorem dX3_form_12 : decode cX3_form 12 = .ok (.iload_n 3, 1) := by decide +kernel
theorem dX3_form_13 : decode cX3_form 13 = .ok (.iconst 1, 1) := by decide +kernel
theorem dX3_form_14 : decode cX3_form 14 = .ok (.if_icmp .lt 23, 3) := by decide +kernel
theorem dX3_form_17 : decode cX3_form 17 = .ok (.iload_n 2, 1) := by decide +kernel
theorem dX3_form_18 : decode cX3_form 18 = .ok (.i2l, 1) := by decide +kernel
theorem dX3_form_19 : decode cX3_form 19 = .ok (.ldc2_w 42, 3) := by decide +kernel
theorem dX3_form_22 : decode cX3_form 22 = .ok (.ladd, 1) := by decide +kernel
theorem dX3_form_23 : decode cX3_form 23 = .ok (.ldc2_w 44, 3) := by decide +kernel
theorem dX3_form_26 : decode cX3_form 26 = .ok (.ldiv, 1) := by decide +kernel
theorem dX3_form_27 : decode cX3_form 27 = .ok (.iload_n 3, 1) := by decide +kernel
theorem dX3_form_28 : decode cX3_form 28 = .ok (.i2l, 1) := by decide +kernel
theorem dX3_form_29 : decode cX3_form 29 = .ok (.lmul, 1) := by decide +kernel
theorem dX3_form_30 : decode cX3_form 30 = .ok (.ldc2_w 46, 3) := by decide +kernel
theorem dX3_form_33 : decode cX3_form 33 = .ok (.lcmp, 1) := by decide +kernel
theorem dX3_form_34 : decode cX3_form 34 = .ok (.ifCond .le 5, 3) := by decide +kernel
theorem dX3_form_37 : decode cX3_form 37 = .ok (.iconst (-1), 1) := by decide +kernel
theorem dX3_form_38 : decode cX3_form 38 = .ok (.ireturn, 1) := by decide +kernel
theorem dX3_form_39 : decode cX3_form 39 = .ok (.aload_n 0, 1) := by decide +kernel
theorem dX3_form_40 : decode cX3_form 40 = .ok (.getfield 7, 3) := by decide +kernel
theorem dX3_form_43 : decode cX3_form 43 = .ok (.iload_n 1, 1) := by decide +kernel
theorem dX3_form_44 : decode cX3_form 44 = .ok (.iload_n 2, 1) := by decide +kernel
theorem dX3_form_45 : decode cX3_form 45 = .ok (.iastore, 1) := by decide +kernel
theorem dX3_form_46 : decode cX3_form 46 = .ok (.aload_n 0, 1) := by decide +kernel
theorem dX3_form_47 : decode cX3_form 47 = .ok (.getfield 13, 3) := by decide +kernel
theorem dX3_form_50 : decode cX3_form 50 = .ok (.iload_n 1, 1) := by decide +kernel
theorem dX3_form_51 : decode cX3_form 51 = .ok (.iload_n 3, 1) := by decide +kernel
theorem dX3_form_52 : decode cX3_form 52 = .ok (.iastore, 1) := by decide +kernel
theorem dX3_form_53 : decode cX3_form 53 = .ok (.iconst 0, 1) := by decide +kernel
theorem dX3_form_54 : decode cX3_form 54 = .ok (.istore 4, 2) := by decide +kernel
theorem dX3_form_56 : decode cX3_form 56 = .ok (.iload 4, 2) := by decide +kernel
theorem dX3_form_58 : decode cX3_form 58 = .ok (.sipush 4000, 3) := by decide +kernel
theorem dX3_form_61 : decode cX3_form 61 = .ok (.if_icmp .ge 23, 3) := by decide +kernel
theorem dX3_form_64 : decode cX3_form 64 = .ok (.aload_n 0, 1) := by decide +kernel
theorem dX3_form_65 : decode cX3_form 65 = .ok (.getfield 16, 3) := by decide +kernel
theorem dX3_form_68 : decode cX3_form 68 = .ok (.sipush 4000, 3) := by decide +kernel
theorem dX3_form_71 : decode cX3_form 71 = .ok (.iload_n 1, 1) := by decide +kernel
theorem dX3_form_72 : decode cX3_form 72 = .ok (.imul, 1) := by decide +kernel
theorem dX3_form_73 : decode cX3_form 73 = .ok (.iload 4, 2) := by decide +kernel
theorem dX3_form_75 : decode cX3_form 75 = .ok (.iadd, 1) := by decide +kernel
theorem dX3_form_76 : decode cX3_form 76 = .ok (.iconst 0, 1) := by decide +kernel
theorem dX3_form_77 : decode cX3_form 77 = .ok (.iastore, 1) := by decide +kernel
theorem dX3_form_78 : decode cX3_form 78 = .ok (.iinc 4 1, 3) := by decide +kernel
theorem dX3_form_81 : decode cX3_form 81 = .ok (.goto (-25), 3) := by decide +kernel
theorem dX3_form_84 : decode cX3_form 84 = .ok (.aload_n 0, 1) := by decide +kernel
theorem dX3_form_85 : decode cX3_form 85 = .ok (.iload_n 1, 1) := by decide +kernel
theorem dX3_form_86 : decode cX3_form 86 = .ok (.invokevirtual 48, 3) := by decide +kernel
theorem dX3_form_89 : decode cX3_form 89 = .ok (.iload_n 3, 1) := by decide +kernel
theorem dX3_form_90 : decode cX3_form 90 = .ok (.imul, 1) := by decide +kernel
theorem dX3_form_91 : decode cX3_form 91 = .ok (.ireturn, 1) := by decide +kernel
theorem dX3_isWord_0 : decode cX3_isWord 0 = .ok (.iload_n 1, 1) := by decide +kernel
theorem dX3_isWord_1 : decode cX3_isWord 1 = .ok (.invokestatic 38, 3) := by decide +kernel
theorem dX3_isWord_4 : decode cX3_isWord 4 = .ok (.ifCond .eq 27, 3) := by decide +kernel
theorem dX3_isWord_7 : decode cX3_isWord 7 = .ok (.iload_n 2, 1) := by decide +kernel
theorem dX3_isWord_8 : decode cX3_isWord 8 = .ok (.ifCond .lt 23, 3) := by decide +kernel
theorem dX3_isWord_11 : decode cX3_isWord 11 = .ok (.iload_n 2, 1) := by decide +kernel
theorem dX3_isWord_12 : decode cX3_isWord 12 = .ok (.aload_n 0, 1) := by decide +kernel
theorem dX3_isWord_13 : decode cX3_isWord 13 = .ok (.iload_n 1, 1) := by decide +kernel
theorem dX3_isWord_14 : decode cX3_isWord 14 = .ok (.invokevirtual 48, 3) := by decide +kernel
theorem dX3_isWord_17 : decode cX3_isWord 17 = .ok (.aload_n 0, 1) := by decide +kernel
theorem dX3_isWord_18 : decode cX3_isWord 18 = .ok (.getfield 13, 3) := by decide +kernel
theorem dX3_isWord_21 : decode cX3_isWord 21 = .ok (.iload_n 1, 1) := by decide +kernel
theorem dX3_isWord_22 : decode cX3_isWord 22 = .ok (.iaload, 1) := by decide +kernel
theorem dX3_isWord_23 : decode cX3_isWord 23 = .ok (.imul, 1) := by decide +kernel
theorem dX3_isWord_24 : decode cX3_isWord 24 = .ok (.if_icmp .ge 7, 3) := by decide +kernel
theorem dX3_isWord_27 : decode cX3_isWord 27 = .ok (.iconst 1, 1) := by decide +kernel
theorem dX3_isWord_28 : decode cX3_isWord 28 = .ok (.goto 4, 3) := by decide +kernel
theorem dX3_isWord_31 : decode cX3_isWord 31 = .ok (.iconst 0, 1) := by decide +kernel
theorem dX3_isWord_32 : decode cX3_isWord 32 = .ok (.ireturn, 1) := by decide +kernel
theorem dX3_put_0 : decode cX3_put 0 = .ok (.aload_n 0, 1) := by decide +kernel
theorem dX3_put_1 : decode cX3_put 1 = .ok (.iload_n 1, 1) := by decide +kernel
theorem dX3_put_2 : decode cX3_put 2 = .ok (.iload_n 2, 1) := by decide +kernel
theorem dX3_put_3 : decode cX3_put 3 = .ok (.invokevirtual 52, 3) := by decide +kernel
theorem dX3_put_6 : decode cX3_put 6 = .ok (.ifCond .ne 5, 3) := by decide +kernel
theorem dX3_put_9 : decode cX3_put 9 = .ok (.iconst 0, 1) := by decide +kernel
theorem dX3_put_10 : decode cX3_put 10 = .ok (.ireturn, 1) := by decide +kernel
theorem dX3_put_11 : decode cX3_put 11 = .ok (.aload_n 0, 1) := by decide +kernel
theorem dX3_put_12 : decode cX3_put 12 = .ok (.getfield 7, 3) := by decide +kernel
theorem dX3_put_15 : decode cX3_put 15 = .ok (.iload_n 1, 1) := by decide +kernel
theorem dX3_put_16 : decode cX3_put 16 = .ok (.iaload, 1) := by decide +kernel
theorem dX3_put_17 : decode cX3_put 17 = .ok (.bipush 16, 2) := by decide +kernel
theorem dX3_put_19 : decode cX3_put 19 = .ok (.iload_n 2, 1) := by decide +kernel
theorem dX3_put_20 : decode cX3_put 20 = .ok (.aload_n 0, 1) := by decide +kernel
theorem dX3_put_21 : decode cX3_put 21 = .ok (.iload_n 1, 1) := by decide +kernel
theorem dX3_put_22 : decode cX3_put 22 = .ok (.invokevirtual 48, 3) := by decide +kernel
theorem dX3_put_25 : decode cX3_put 25 = .ok (.irem, 1) := by decide +kernel
theorem dX3_put_26 : decode cX3_put 26 = .ok (.imul, 1) := by decide +kernel
theorem dX3_put_27 : decode cX3_put 27 = .ok (.isub, 1) := by decide +kernel
theorem dX3_put_28 : decode cX3_put 28 = .ok (.istore 4, 2) := by decide +kernel
theorem dX3_put_30 : decode cX3_put 30 = .ok (.iload_n 3, 1) := by decide +kernel
theorem dX3_put_31 : decode cX3_put 31 = .ok (.ldc 56, 2) := by decide +kernel
theorem dX3_put_33 : decode cX3_put 33 = .ok (.iand, 1) := by decide +kernel
theorem dX3_put_34 : decode cX3_put 34 = .ok (.istore 5, 2) := by decide +kernel
theorem dX3_put_36 : decode cX3_put 36 = .ok (.iconst 0, 1) := by decide +kernel
theorem dX3_put_37 : decode cX3_put 37 = .ok (.istore 6, 2) := by decide +kernel
theorem dX3_put_39 : decode cX3_put 39 = .ok (.iload 6, 2) := by decide +kernel
theorem dX3_put_41 : decode cX3_put 41 = .ok (.bipush 16, 2) := by decide +kernel
theorem dX3_put_43 : decode cX3_put 43 = .ok (.if_icmp .ge 33, 3) := by decide +kernel
theorem dX3_put_46 : decode cX3_put 46 = .ok (.iload 6, 2) := by decide +kernel
theorem dX3_put_48 : decode cX3_put 48 = .ok (.iload 4, 2) := by decide +kernel
theorem dX3_put_50 : decode cX3_put 50 = .ok (.if_icmp .ge 8, 3) := by decide +kernel
theorem dX3_put_53 : decode cX3_put 53 = .ok (.iload 5, 2) := by decide +kernel
theorem dX3_put_55 : decode cX3_put 55 = .ok (.goto 13, 3) := by decide +kernel
theorem dX3_put_58 : decode cX3_put 58 = .ok (.iload 5, 2) := by decide +kernel
theorem dX3_put_60 : decode cX3_put 60 = .ok (.ldc 57, 2) := by decide +kernel
theorem dX3_put_62 : decode cX3_put 62 = .ok (.iload 6, 2) := by decide +kernel
theorem dX3_put_64 : decode cX3_put 64 = .ok (.ishr, 1) := by decide +kernel
theorem dX3_put_65 : decode cX3_put 65 = .ok (.iconst (-1), 1) := by decide +kernel
theorem dX3_put_66 : decode cX3_put 66 = .ok (.ixor, 1) := by decide +kernel
theorem dX3_put_67 : decode cX3_put 67 = .ok (.iand, 1) := by decide +kernel
theorem dX3_put_68 : decode cX3_put 68 = .ok (.istore 5, 2) := by decide +kernel
theorem dX3_put_70 : decode cX3_put 70 = .ok (.iinc 6 1, 3) := by decide +kernel
theorem dX3_put_73 : decode cX3_put 73 = .ok (.goto (-34), 3) := by decide +kernel
theorem dX3_put_76 : decode cX3_put 76 = .ok (.aload_n 0, 1) := by decide +kernel
theorem dX3_put_77 : decode cX3_put 77 = .ok (.getfield 16, 3) := by decide +kernel
theorem dX3_put_80 : decode cX3_put 80 = .ok (.sipush 4000, 3) := by decide +kernel
theorem dX3_put_83 : decode cX3_put 83 = .ok (.iload_n 1, 1) := by decide +kernel
theorem dX3_put_84 : decode cX3_put 84 = .ok (.imul, 1) := by decide +kernel
theorem dX3_put_85 : decode cX3_put 85 = .ok (.iload_n 2, 1) := by decide +kernel
theorem dX3_put_86 : decode cX3_put 86 = .ok (.iadd, 1) := by decide +kernel
theorem dX3_put_87 : decode cX3_put 87 = .ok (.iload 5, 2) := by decide +kernel
theorem dX3_put_89 : decode cX3_put 89 = .ok (.iastore, 1) := by decide +kernel
theorem dX3_put_90 : decode cX3_put 90 = .ok (.iconst 1, 1) := by decide +kernel
theorem dX3_put_91 : decode cX3_put 91 = .ok (.ireturn, 1) := by decide +kernel
theorem dX3_word_0 : decode cX3_word 0 = .ok (.aload_n 0, 1) := by decide +kernel
theorem dX3_word_1 : decode cX3_word 1 = .ok (.iload_n 1, 1) := by decide +kernel
theorem dX3_word_2 : decode cX3_word 2 = .ok (.iload_n 2, 1) := by decide +kernel
theorem dX3_word_3 : decode cX3_word 3 = .ok (.invokevirtual 52, 3) := by decide +kernel
theorem dX3_word_6 : decode cX3_word 6 = .ok (.ifCond .eq 18, 3) := by decide +kernel
theorem dX3_word_9 : decode cX3_word 9 = .ok (.aload_n 0, 1) := by decide +kernel
theorem dX3_word_10 : decode cX3_word 10 = .ok (.getfield 16, 3) := by decide +kernel
theorem dX3_word_13 : decode cX3_word 13 = .ok (.sipush 4000, 3) := by decide +kernel
theorem dX3_word_16 : decode cX3_word 16 = .ok (.iload_n 1, 1) := by decide +kernel
theorem dX3_word_17 : decode cX3_word 17 = .ok (.imul, 1) := by decide +kernel
theorem dX3_word_18 : decode cX3_word 18 = .ok (.iload_n 2, 1) := by decide +kernel
theorem dX3_word_19 : decode cX3_word 19 = .ok (.iadd, 1) := by decide +kernel
theorem dX3_word_20 : decode cX3_word 20 = .ok (.iaload, 1) := by decide +kernel
theorem dX3_word_21 : decode cX3_word 21 = .ok (.goto 4, 3) := by decide +kernel
theorem dX3_word_24 : decode cX3_word 24 = .ok (.iconst (-1), 1) := by decide +kernel
theorem dX3_word_25 : decode cX3_word 25 = .ok (.ireturn, 1) := by decide +kernel
theorem dX3_isBit_0 : decode cX3_isBit 0 = .ok (.lload_n 2, 1) := by decide +kernel
theorem dX3_isBit_1 : decode cX3_isBit 1 = .ok (.lconst 0, 1) := by decide +kernel
theorem dX3_isBit_2 : decode cX3_isBit 2 = .ok (.lcmp, 1) := by decide +kernel
theorem dX3_isBit_3 : decode cX3_isBit 3 = .ok (.ifCond .lt 39, 3) := by decide +kernel
theorem dX3_isBit_6 : decode cX3_isBit 6 = .ok (.lload_n 2, 1) := by decide +kernel
theorem dX3_isBit_7 : decode cX3_isBit 7 = .ok (.aload_n 0, 1) := by decide +kernel
theorem dX3_isBit_8 : decode cX3_isBit 8 = .ok (.getfield 7, 3) := by decide +kernel
theorem dX3_isBit_11 : decode cX3_isBit 11 = .ok (.iload_n 1, 1) := by decide +kernel
theorem dX3_isBit_12 : decode cX3_isBit 12 = .ok (.iaload, 1) := by decide +kernel
theorem dX3_isBit_13 : decode cX3_isBit 13 = .ok (.i2l, 1) := by decide +kernel
theorem dX3_isBit_14 : decode cX3_isBit 14 = .ok (.lcmp, 1) := by decide +kernel
theorem dX3_isBit_15 : decode cX3_isBit 15 = .ok (.ifCond .ge 27, 3) := by decide +kernel
theorem dX3_isBit_18 : decode cX3_isBit 18 = .ok (.lload 4, 2) := by decide +kernel
theorem dX3_isBit_20 : decode cX3_isBit 20 = .ok (.lconst 0, 1) := by decide +kernel
theorem dX3_isBit_21 : decode cX3_isBit 21 = .ok (.lcmp, 1) := by decide +kernel
theorem dX3_isBit_22 : decode cX3_isBit 22 = .ok (.ifCond .lt 20, 3) := by decide +kernel
theorem dX3_isBit_25 : decode cX3_isBit 25 = .ok (.lload 4, 2) := by decide +kernel
theorem dX3_isBit_27 : decode cX3_isBit 27 = .ok (.aload_n 0, 1) := by decide +kernel
theorem dX3_isBit_28 : decode cX3_isBit 28 = .ok (.getfield 13, 3) := by decide +kernel
theorem dX3_isBit_31 : decode cX3_isBit 31 = .ok (.iload_n 1, 1) := by decide +kernel
theorem dX3_isBit_32 : decode cX3_isBit 32 = .ok (.iaload, 1) := by decide +kernel
theorem dX3_isBit_33 : decode cX3_isBit 33 = .ok (.i2l, 1) := by decide +kernel
theorem dX3_isBit_34 : decode cX3_isBit 34 = .ok (.lcmp, 1) := by decide +kernel
theorem dX3_isBit_35 : decode cX3_isBit 35 = .ok (.ifCond .ge 7, 3) := by decide +kernel
theorem dX3_isBit_38 : decode cX3_isBit 38 = .ok (.iconst 1, 1) := by decide +kernel
theorem dX3_isBit_39 : decode cX3_isBit 39 = .ok (.goto 4, 3) := by decide +kernel
theorem dX3_isBit_42 : decode cX3_isBit 42 = .ok (.iconst 0, 1) := by decide +kernel
theorem dX3_isBit_43 : decode cX3_isBit 43 = .ok (.ireturn, 1) := by decide +kernel
theorem dX3_bitAt_0 : decode cX3_bitAt 0 = .ok (.aload_n 0, 1) := by decide +kernel
theorem dX3_bitAt_1 : decode cX3_bitAt 1 = .ok (.getfield 16, 3) := by decide +kernel
theorem dX3_bitAt_4 : decode cX3_bitAt 4 = .ok (.sipush 4000, 3) := by decide +kernel
theorem dX3_bitAt_7 : decode cX3_bitAt 7 = .ok (.iload_n 1, 1) := by decide +kernel
theorem dX3_bitAt_8 : decode cX3_bitAt 8 = .ok (.imul, 1) := by decide +kernel
theorem dX3_bitAt_9 : decode cX3_bitAt 9 = .ok (.aload_n 0, 1) := by decide +kernel
theorem dX3_bitAt_10 : decode cX3_bitAt 10 = .ok (.iload_n 1, 1) := by decide +kernel
theorem dX3_bitAt_11 : decode cX3_bitAt 11 = .ok (.invokevirtual 48, 3) := by decide +kernel
theorem dX3_bitAt_14 : decode cX3_bitAt 14 = .ok (.iload_n 3, 1) := by decide +kernel
theorem dX3_bitAt_15 : decode cX3_bitAt 15 = .ok (.imul, 1) := by decide +kernel
theorem dX3_bitAt_16 : decode cX3_bitAt 16 = .ok (.iadd, 1) := by decide +kernel
theorem dX3_bitAt_17 : decode cX3_bitAt 17 = .ok (.iload_n 2, 1) := by decide +kernel
theorem dX3_bitAt_18 : decode cX3_bitAt 18 = .ok (.bipush 16, 2) := by decide +kernel
theorem dX3_bitAt_20 : decode cX3_bitAt 20 = .ok (.idiv, 1) := by decide +kernel
theorem dX3_bitAt_21 : decode cX3_bitAt 21 = .ok (.iadd, 1) := by decide +kernel
theorem dX3_bitAt_22 : decode cX3_bitAt 22 = .ok (.iaload, 1) := by decide +kernel
theorem dX3_bitAt_23 : decode cX3_bitAt 23 = .ok (.bipush 15, 2) := by decide +kernel
theorem dX3_bitAt_25 : decode cX3_bitAt 25 = .ok (.iload_n 2, 1) := by decide +kernel
theorem dX3_bitAt_26 : decode cX3_bitAt 26 = .ok (.bipush 16, 2) := by decide +kernel
theorem dX3_bitAt_28 : decode cX3_bitAt 28 = .ok (.irem, 1) := by decide +kernel
theorem dX3_bitAt_29 : decode cX3_bitAt 29 = .ok (.isub, 1) := by decide +kernel
theorem dX3_bitAt_30 : decode cX3_bitAt 30 = .ok (.ishr, 1) := by decide +kernel
theorem dX3_bitAt_31 : decode cX3_bitAt 31 = .ok (.iconst 1, 1) := by decide +kernel
theorem dX3_bitAt_32 : decode cX3_bitAt 32 = .ok (.iand, 1) := by decide +kernel
theorem dX3_bitAt_33 : decode cX3_bitAt 33 = .ok (.ireturn, 1) := by decide +kernel
theorem dX3_bit_0 : decode cX3_bit 0 = .ok (.iload_n 1, 1) := by decide +kernel
theorem dX3_bit_1 : decode cX3_bit 1 = .ok (.invokestatic 38, 3) := by decide +kernel
theorem dX3_bit_4 : decode cX3_bit 4 = .ok (.ifCond .eq 25, 3) := by decide +kernel
theorem dX3_bit_7 : decode cX3_bit 7 = .ok (.aload_n 0, 1) := by decide +kernel
theorem dX3_bit_8 : decode cX3_bit 8 = .ok (.iload_n 1, 1) := by decide +kernel
theorem dX3_bit_9 : decode cX3_bit 9 = .ok (.iload_n 2, 1) := by decide +kernel
theorem dX3_bit_10 : decode cX3_bit 10 = .ok (.i2l, 1) := by decide +kernel
theorem dX3_bit_11 : decode cX3_bit 11 = .ok (.iload_n 3, 1) := by decide +kernel
theorem dX3_bit_12 : decode cX3_bit 12 = .ok (.i2l, 1) := by decide +kernel
theorem dX3_bit_13 : decode cX3_bit 13 = .ok (.invokevirtual 58, 3) := by decide +kernel
theorem dX3_bit_16 : decode cX3_bit 16 = .ok (.ifCond .eq 13, 3) := by decide +kernel
theorem dX3_bit_19 : decode cX3_bit 19 = .ok (.aload_n 0, 1) := by decide +kernel
theorem dX3_bit_20 : decode cX3_bit 20 = .ok (.iload_n 1, 1) := by decide +kernel
theorem dX3_bit_21 : decode cX3_bit 21 = .ok (.iload_n 2, 1) := by decide +kernel
theorem dX3_bit_22 : decode cX3_bit 22 = .ok (.iload_n 3, 1) := by decide +kernel
theorem dX3_bit_23 : decode cX3_bit 23 = .ok (.invokevirtual 62, 3) := by decide +kernel
theorem dX3_bit_26 : decode cX3_bit 26 = .ok (.goto 4, 3) := by decide +kernel
theorem dX3_bit_29 : decode cX3_bit 29 = .ok (.iconst (-1), 1) := by decide +kernel
theorem dX3_bit_30 : decode cX3_bit 30 = .ok (.ireturn, 1) := by decide +kernel
theorem dX3_count_0 : decode cX3_count 0 = .ok (.iload_n 1, 1) := by decide +kernel
theorem dX3_count_1 : decode cX3_count 1 = .ok (.invokestatic 38, 3) := by decide +kernel
theorem dX3_count_4 : decode cX3_count 4 = .ok (.ifCond .ne 5, 3) := by decide +kernel
theorem dX3_count_7 : decode cX3_count 7 = .ok (.iconst (-1), 1) := by decide +kernel
theorem dX3_count_8 : decode cX3_count 8 = .ok (.ireturn, 1) := by decide +kernel
theorem dX3_count_9 : decode cX3_count 9 = .ok (.iconst 0, 1) := by decide +kernel
theorem dX3_count_10 : decode cX3_count 10 = .ok (.istore_n 2, 1) := by decide +kernel
theorem dX3_count_11 : decode cX3_count 11 = .ok (.iconst 0, 1) := by decide +kernel
theorem dX3_count_12 : decode cX3_count 12 = .ok (.istore_n 3, 1) := by decide +kernel
theorem dX3_count_13 : decode cX3_count 13 = .ok (.iload_n 3, 1) := by decide +kernel
theorem dX3_count_14 : decode cX3_count 14 = .ok (.aload_n 0, 1) := by decide +kernel
theorem dX3_count_15 : decode cX3_count 15 = .ok (.iload_n 1, 1) := by decide +kernel
theorem dX3_count_16 : decode cX3_count 16 = .ok (.invokevirtual 48, 3) := by decide +kernel
theorem dX3_count_19 : decode cX3_count 19 = .ok (.aload_n 0, 1) := by decide +kernel
theorem dX3_count_20 : decode cX3_count 20 = .ok (.getfield 13, 3) := by decide +kernel
theorem dX3_count_23 : decode cX3_count 23 = .ok (.iload_n 1, 1) := by decide +kernel
theorem dX3_count_24 : decode cX3_count 24 = .ok (.iaload, 1) := by decide +kernel
theorem dX3_count_25 : decode cX3_count 25 = .ok (.imul, 1) := by decide +kernel
theorem dX3_count_26 : decode cX3_count 26 = .ok (.if_icmp .ge 45, 3) := by decide +kernel
theorem dX3_count_29 : decode cX3_count 29 = .ok (.iconst 0, 1) := by decide +kernel
theorem dX3_count_30 : decode cX3_count 30 = .ok (.istore 4, 2) := by decide +kernel
theorem dX3_count_32 : decode cX3_count 32 = .ok (.iload 4, 2) := by decide +kernel
theorem dX3_count_34 : decode cX3_count 34 = .ok (.bipush 16, 2) := by decide +kernel
theorem dX3_count_36 : decode cX3_count 36 = .ok (.if_icmp .ge 29, 3) := by decide +kernel
theorem dX3_count_39 : decode cX3_count 39 = .ok (.iload_n 2, 1) := by decide +kernel
theorem dX3_count_40 : decode cX3_count 40 = .ok (.aload_n 0, 1) := by decide +kernel
theorem dX3_count_41 : decode cX3_count 41 = .ok (.getfield 16, 3) := by decide +kernel
theorem dX3_count_44 : decode cX3_count 44 = .ok (.sipush 4000, 3) := by decide +kernel
theorem dX3_count_47 : decode cX3_count 47 = .ok (.iload_n 1, 1) := by decide +kernel
theorem dX3_count_48 : decode cX3_count 48 = .ok (.imul, 1) := by decide +kernel
theorem dX3_count_49 : decode cX3_count 49 = .ok (.iload_n 3, 1) := by decide +kernel
theorem dX3_count_50 : decode cX3_count 50 = .ok (.iadd, 1) := by decide +kernel
theorem dX3_count_51 : decode cX3_count 51 = .ok (.iaload, 1) := by decide +kernel
theorem dX3_count_52 : decode cX3_count 52 = .ok (.iload 4, 2) := by decide +kernel
theorem dX3_count_54 : decode cX3_count 54 = .ok (.ishr, 1) := by decide +kernel
theorem dX3_count_55 : decode cX3_count 55 = .ok (.iconst 1, 1) := by decide +kernel
theorem dX3_count_56 : decode cX3_count 56 = .ok (.iand, 1) := by decide +kernel
theorem dX3_count_57 : decode cX3_count 57 = .ok (.iadd, 1) := by decide +kernel
theorem dX3_count_58 : decode cX3_count 58 = .ok (.istore_n 2, 1) := by decide +kernel
theorem dX3_count_59 : decode cX3_count 59 = .ok (.iinc 4 1, 3) := by decide +kernel
theorem dX3_count_62 : decode cX3_count 62 = .ok (.goto (-30), 3) := by decide +kernel
theorem dX3_count_65 : decode cX3_count 65 = .ok (.iinc 3 1, 3) := by decide +kernel
theorem dX3_count_68 : decode cX3_count 68 = .ok (.goto (-55), 3) := by decide +kernel
theorem dX3_count_71 : decode cX3_count 71 = .ok (.iload_n 2, 1) := by decide +kernel
theorem dX3_count_72 : decode cX3_count 72 = .ok (.ireturn, 1) := by decide +kernel
theorem dX3_same_0 : decode cX3_same 0 = .ok (.iload_n 1, 1) := by decide +kernel
theorem dX3_same_1 : decode cX3_same 1 = .ok (.invokestatic 38, 3) := by decide +kernel
theorem dX3_same_4 : decode cX3_same 4 = .ok (.ifCond .eq 40, 3) := by decide +kernel
theorem dX3_same_7 : decode cX3_same 7 = .ok (.iload_n 2, 1) := by decide +kernel
theorem dX3_same_8 : decode cX3_same 8 = .ok (.invokestatic 38, 3) := by decide +kernel
theorem dX3_same_11 : decode cX3_same 11 = .ok (.ifCond .eq 33, 3) := by decide +kernel
theorem dX3_same_14 : decode cX3_same 14 = .ok (.aload_n 0, 1) := by decide +kernel
theorem dX3_same_15 : decode cX3_same 15 = .ok (.getfield 7, 3) := by decide +kernel
theorem dX3_same_18 : decode cX3_same 18 = .ok (.iload_n 1, 1) := by decide +kernel
theorem dX3_same_19 : decode cX3_same 19 = .ok (.iaload, 1) := by decide +kernel
theorem dX3_same_20 : decode cX3_same 20 = .ok (.aload_n 0, 1) := by decide +kernel
theorem dX3_same_21 : decode cX3_same 21 = .ok (.getfield 7, 3) := by decide +kernel
theorem dX3_same_24 : decode cX3_same 24 = .ok (.iload_n 2, 1) := by decide +kernel
theorem dX3_same_25 : decode cX3_same 25 = .ok (.iaload, 1) := by decide +kernel
theorem dX3_same_26 : decode cX3_same 26 = .ok (.if_icmp .ne 18, 3) := by decide +kernel
theorem dX3_same_29 : decode cX3_same 29 = .ok (.aload_n 0, 1) := by decide +kernel
theorem dX3_same_30 : decode cX3_same 30 = .ok (.getfield 13, 3) := by decide +kernel
theorem dX3_same_33 : decode cX3_same 33 = .ok (.iload_n 1, 1) := by decide +kernel
theorem dX3_same_34 : decode cX3_same 34 = .ok (.iaload, 1) := by decide +kernel
theorem dX3_same_35 : decode cX3_same 35 = .ok (.aload_n 0, 1) := by decide +kernel
theorem dX3_same_36 : decode cX3_same 36 = .ok (.getfield 13, 3) := by decide +kernel
theorem dX3_same_39 : decode cX3_same 39 = .ok (.iload_n 2, 1) := by decide +kernel
theorem dX3_same_40 : decode cX3_same 40 = .ok (.iaload, 1) := by decide +kernel
theorem dX3_same_41 : decode cX3_same 41 = .ok (.if_icmp .eq 5, 3) := by decide +kernel
theorem dX3_same_44 : decode cX3_same 44 = .ok (.iconst 0, 1) := by decide +kernel
theorem dX3_same_45 : decode cX3_same 45 = .ok (.ireturn, 1) := by decide +kernel
theorem dX3_same_46 : decode cX3_same 46 = .ok (.iconst 1, 1) := by decide +kernel
theorem dX3_same_47 : decode cX3_same 47 = .ok (.istore_n 3, 1) := by decide +kernel
theorem dX3_same_48 : decode cX3_same 48 = .ok (.iconst 0, 1) := by decide +kernel
theorem dX3_same_49 : decode cX3_same 49 = .ok (.istore 4, 2) := by decide +kernel
theorem dX3_same_51 : decode cX3_same 51 = .ok (.iload 4, 2) := by decide +kernel
theorem dX3_same_53 : decode cX3_same 53 = .ok (.aload_n 0, 1) := by decide +kernel
theorem dX3_same_54 : decode cX3_same 54 = .ok (.iload_n 1, 1) := by decide +kernel
theorem dX3_same_55 : decode cX3_same 55 = .ok (.invokevirtual 48, 3) := by decide +kernel
theorem dX3_same_58 : decode cX3_same 58 = .ok (.aload_n 0, 1) := by decide +kernel
theorem dX3_same_59 : decode cX3_same 59 = .ok (.getfield 13, 3) := by decide +kernel
theorem dX3_same_62 : decode cX3_same 62 = .ok (.iload_n 1, 1) := by decide +kernel
theorem dX3_same_63 : decode cX3_same 63 = .ok (.iaload, 1) := by decide +kernel
theorem dX3_same_64 : decode cX3_same 64 = .ok (.imul, 1) := by decide +kernel
theorem dX3_same_65 : decode cX3_same 65 = .ok (.if_icmp .ge 48, 3) := by decide +kernel
theorem dX3_same_68 : decode cX3_same 68 = .ok (.iload_n 3, 1) := by decide +kernel
theorem dX3_same_69 : decode cX3_same 69 = .ok (.ifCond .eq 36, 3) := by decide +kernel
theorem dX3_same_72 : decode cX3_same 72 = .ok (.aload_n 0, 1) := by decide +kernel
theorem dX3_same_73 : decode cX3_same 73 = .ok (.getfield 16, 3) := by decide +kernel
theorem dX3_same_76 : decode cX3_same 76 = .ok (.sipush 4000, 3) := by decide +kernel
theorem dX3_same_79 : decode cX3_same 79 = .ok (.iload_n 1, 1) := by decide +kernel
theorem dX3_same_80 : decode cX3_same 80 = .ok (.imul, 1) := by decide +kernel
theorem dX3_same_81 : decode cX3_same 81 = .ok (.iload 4, 2) := by decide +kernel
theorem dX3_same_83 : decode cX3_same 83 = .ok (.iadd, 1) := by decide +kernel
theorem dX3_same_84 : decode cX3_same 84 = .ok (.iaload, 1) := by decide +kernel
theorem dX3_same_85 : decode cX3_same 85 = .ok (.aload_n 0, 1) := by decide +kernel
theorem dX3_same_86 : decode cX3_same 86 = .ok (.getfield 16, 3) := by decide +kernel
theorem dX3_same_89 : decode cX3_same 89 = .ok (.sipush 4000, 3) := by decide +kernel
theorem dX3_same_92 : decode cX3_same 92 = .ok (.iload_n 2, 1) := by decide +kernel
theorem dX3_same_93 : decode cX3_same 93 = .ok (.imul, 1) := by decide +kernel
theorem dX3_same_94 : decode cX3_same 94 = .ok (.iload 4, 2) := by decide +kernel
theorem dX3_same_96 : decode cX3_same 96 = .ok (.iadd, 1) := by decide +kernel
theorem dX3_same_97 : decode cX3_same 97 = .ok (.iaload, 1) := by decide +kernel
theorem dX3_same_98 : decode cX3_same 98 = .ok (.if_icmp .ne 7, 3) := by decide +kernel
theorem dX3_same_101 : decode cX3_same 101 = .ok (.iconst 1, 1) := by decide +kernel
theorem dX3_same_102 : decode cX3_same 102 = .ok (.goto 4, 3) := by decide +kernel
theorem dX3_same_105 : decode cX3_same 105 = .ok (.iconst 0, 1) := by decide +kernel
theorem dX3_same_106 : decode cX3_same 106 = .ok (.istore_n 3, 1) := by decide +kernel
theorem dX3_same_107 : decode cX3_same 107 = .ok (.iinc 4 1, 3) := by decide +kernel
theorem dX3_same_110 : decode cX3_same 110 = .ok (.goto (-59), 3) := by decide +kernel
theorem dX3_same_113 : decode cX3_same 113 = .ok (.iload_n 3, 1) := by decide +kernel
theorem dX3_same_114 : decode cX3_same 114 = .ok (.ireturn, 1) := by decide +kernel
theorem dX3_isPattern_0 : decode cX3_isPattern 0 = .ok (.aload_n 0, 1) := by decide +kernel
theorem dX3_isPattern_1 : decode cX3_isPattern 1 = .ok (.getfield 7, 3) := by decide +kernel
theorem dX3_isPattern_4 : decode cX3_isPattern 4 = .ok (.iload_n 1, 1) := by decide +kernel
theorem dX3_isPattern_5 : decode cX3_isPattern 5 = .ok (.iaload, 1) := by decide +kernel
theorem dX3_isPattern_6 : decode cX3_isPattern 6 = .ok (.bipush 16, 2) := by decide +kernel
theorem dX3_isPattern_8 : decode cX3_isPattern 8 = .ok (.if_icmp .ne 18, 3) := by decide +kernel
theorem dX3_isPattern_11 : decode cX3_isPattern 11 = .ok (.aload_n 0, 1) := by decide +kernel
theorem dX3_isPattern_12 : decode cX3_isPattern 12 = .ok (.getfield 13, 3) := by decide +kernel
theorem dX3_isPattern_15 : decode cX3_isPattern 15 = .ok (.iload_n 1, 1) := by decide +kernel
theorem dX3_isPattern_16 : decode cX3_isPattern 16 = .ok (.iaload, 1) := by decide +kernel
theorem dX3_isPattern_17 : decode cX3_isPattern 17 = .ok (.bipush 16, 2) := by decide +kernel
theorem dX3_isPattern_19 : decode cX3_isPattern 19 = .ok (.if_icmp .ne 7, 3) := by decide +kernel
theorem dX3_isPattern_22 : decode cX3_isPattern 22 = .ok (.iconst 1, 1) := by decide +kernel
theorem dX3_isPattern_23 : decode cX3_isPattern 23 = .ok (.goto 4, 3) := by decide +kernel
theorem dX3_isPattern_26 : decode cX3_isPattern 26 = .ok (.iconst 0, 1) := by decide +kernel
theorem dX3_isPattern_27 : decode cX3_isPattern 27 = .ok (.ireturn, 1) := by decide +kernel
theorem dX3_forms_0 : decode cX3_forms 0 = .ok (.iload_n 1, 1) := by decide +kernel
theorem dX3_forms_1 : decode cX3_forms 1 = .ok (.invokestatic 38, 3) := by decide +kernel
theorem dX3_forms_4 : decode cX3_forms 4 = .ok (.ifCond .eq 35, 3) := by decide +kernel
theorem dX3_forms_7 : decode cX3_forms 7 = .ok (.iload_n 2, 1) := by decide +kernel
theorem dX3_forms_8 : decode cX3_forms 8 = .ok (.iconst (-1), 1) := by decide +kernel
theorem dX3_forms_9 : decode cX3_forms 9 = .ok (.if_icmp .eq 10, 3) := by decide +kernel
theorem dX3_forms_12 : decode cX3_forms 12 = .ok (.iload_n 2, 1) := by decide +kernel
theorem dX3_forms_13 : decode cX3_forms 13 = .ok (.invokestatic 38, 3) := by decide +kernel
theorem dX3_forms_16 : decode cX3_forms 16 = .ok (.ifCond .eq 23, 3) := by decide +kernel
theorem dX3_forms_19 : decode cX3_forms 19 = .ok (.iload_n 3, 1) := by decide +kernel
theorem dX3_forms_20 : decode cX3_forms 20 = .ok (.iconst (-1), 1) := by decide +kernel
theorem dX3_forms_21 : decode cX3_forms 21 = .ok (.if_icmp .eq 20, 3) := by decide +kernel
theorem dX3_forms_24 : decode cX3_forms 24 = .ok (.iload_n 3, 1) := by decide +kernel
theorem dX3_forms_25 : decode cX3_forms 25 = .ok (.invokestatic 38, 3) := by decide +kernel
theorem dX3_forms_28 : decode cX3_forms 28 = .ok (.ifCond .eq 11, 3) := by decide +kernel
theorem dX3_forms_31 : decode cX3_forms 31 = .ok (.aload_n 0, 1) := by decide +kernel
theorem dX3_forms_32 : decode cX3_forms 32 = .ok (.iload_n 3, 1) := by decide +kernel
theorem dX3_forms_33 : decode cX3_forms 33 = .ok (.invokevirtual 66, 3) := by decide +kernel
theorem dX3_forms_36 : decode cX3_forms 36 = .ok (.ifCond .ne 5, 3) := by decide +kernel
theorem dX3_forms_39 : decode cX3_forms 39 = .ok (.iconst 0, 1) := by decide +kernel
theorem dX3_forms_40 : decode cX3_forms 40 = .ok (.ireturn, 1) := by decide +kernel
theorem dX3_forms_41 : decode cX3_forms 41 = .ok (.aload_n 0, 1) := by decide +kernel
theorem dX3_forms_42 : decode cX3_forms 42 = .ok (.iload_n 1, 1) := by decide +kernel
theorem dX3_forms_43 : decode cX3_forms 43 = .ok (.putfield 69, 3) := by decide +kernel
theorem dX3_forms_46 : decode cX3_forms 46 = .ok (.aload_n 0, 1) := by decide +kernel
theorem dX3_forms_47 : decode cX3_forms 47 = .ok (.iload_n 2, 1) := by decide +kernel
theorem dX3_forms_48 : decode cX3_forms 48 = .ok (.putfield 25, 3) := by decide +kernel
theorem dX3_forms_51 : decode cX3_forms 51 = .ok (.aload_n 0, 1) := by decide +kernel
theorem dX3_forms_52 : decode cX3_forms 52 = .ok (.iload_n 3, 1) := by decide +kernel
theorem dX3_forms_53 : decode cX3_forms 53 = .ok (.putfield 29, 3) := by decide +kernel
theorem dX3_forms_56 : decode cX3_forms 56 = .ok (.iconst 1, 1) := by decide +kernel
theorem dX3_forms_57 : decode cX3_forms 57 = .ok (.ireturn, 1) := by decide +kernel
theorem dX3_rule_0 : decode cX3_rule 0 = .ok (.iload_n 1, 1) := by decide +kernel
theorem dX3_rule_1 : decode cX3_rule 1 = .ok (.ifCond .lt 9, 3) := by decide +kernel
theorem dX3_rule_4 : decode cX3_rule 4 = .ok (.iload_n 1, 1) := by decide +kernel
theorem dX3_rule_5 : decode cX3_rule 5 = .ok (.bipush 15, 2) := by decide +kernel
theorem dX3_rule_7 : decode cX3_rule 7 = .ok (.if_icmp .le 5, 3) := by decide +kernel
theorem dX3_rule_10 : decode cX3_rule 10 = .ok (.iconst 0, 1) := by decide +kernel
theorem dX3_rule_11 : decode cX3_rule 11 = .ok (.ireturn, 1) := by decide +kernel
theorem dX3_rule_12 : decode cX3_rule 12 = .ok (.aload_n 0, 1) := by decide +kernel
theorem dX3_rule_13 : decode cX3_rule 13 = .ok (.iload_n 1, 1) := by decide +kernel
theorem dX3_rule_14 : decode cX3_rule 14 = .ok (.putfield 32, 3) := by decide +kernel
theorem dX3_rule_17 : decode cX3_rule 17 = .ok (.iconst 1, 1) := by decide +kernel
theorem dX3_rule_18 : decode cX3_rule 18 = .ok (.ireturn, 1) := by decide +kernel
theorem dX3_isNumber_0 : decode cX3_isNumber 0 = .ok (.iload_n 0, 1) := by decide +kernel
theorem dX3_isNumber_1 : decode cX3_isNumber 1 = .ok (.sipush (-32768), 3) := by decide +kernel
theorem dX3_isNumber_4 : decode cX3_isNumber 4 = .ok (.if_icmp .lt 13, 3) := by decide +kernel
theorem dX3_isNumber_7 : decode cX3_isNumber 7 = .ok (.iload_n 0, 1) := by decide +kernel
theorem dX3_isNumber_8 : decode cX3_isNumber 8 = .ok (.ldc 57, 2) := by decide +kernel
theorem dX3_isNumber_10 : decode cX3_isNumber 10 = .ok (.if_icmp .ge 7, 3) := by decide +kernel
theorem dX3_isNumber_13 : decode cX3_isNumber 13 = .ok (.iconst 1, 1) := by decide +kernel
theorem dX3_isNumber_14 : decode cX3_isNumber 14 = .ok (.goto 4, 3) := by decide +kernel
theorem dX3_isNumber_17 : decode cX3_isNumber 17 = .ok (.iconst 0, 1) := by decide +kernel
theorem dX3_isNumber_18 : decode cX3_isNumber 18 = .ok (.ireturn, 1) := by decide +kernel
theorem dX3_set_0 : decode cX3_set 0 = .ok (.iload_n 1, 1) := by decide +kernel
theorem dX3_set_1 : decode cX3_set 1 = .ok (.ifCond .lt 22, 3) := by decide +kernel
theorem dX3_set_4 : decode cX3_set 4 = .ok (.iload_n 1, 1) := by decide +kernel
theorem dX3_set_5 : decode cX3_set 5 = .ok (.iconst 4, 1) := by decide +kernel
theorem dX3_set_6 : decode cX3_set 6 = .ok (.if_icmp .gt 17, 3) := by decide +kernel
theorem dX3_set_9 : decode cX3_set 9 = .ok (.iload_n 2, 1) := by decide +kernel
theorem dX3_set_10 : decode cX3_set 10 = .ok (.invokestatic 72, 3) := by decide +kernel
theorem dX3_set_13 : decode cX3_set 13 = .ok (.ifCond .eq 10, 3) := by decide +kernel
theorem dX3_set_16 : decode cX3_set 16 = .ok (.iload_n 3, 1) := by decide +kernel
theorem dX3_set_17 : decode cX3_set 17 = .ok (.invokestatic 72, 3) := by decide +kernel
theorem dX3_set_20 : decode cX3_set 20 = .ok (.ifCond .ne 5, 3) := by decide +kernel
theorem dX3_set_23 : decode cX3_set 23 = .ok (.iconst 0, 1) := by decide +kernel
theorem dX3_set_24 : decode cX3_set 24 = .ok (.ireturn, 1) := by decide +kernel
theorem dX3_set_25 : decode cX3_set 25 = .ok (.aload_n 0, 1) := by decide +kernel
theorem dX3_set_26 : decode cX3_set 26 = .ok (.getfield 35, 3) := by decide +kernel
theorem dX3_set_29 : decode cX3_set 29 = .ok (.iconst 2, 1) := by decide +kernel
theorem dX3_set_30 : decode cX3_set 30 = .ok (.iload_n 1, 1) := by decide +kernel
theorem dX3_set_31 : decode cX3_set 31 = .ok (.imul, 1) := by decide +kernel
theorem dX3_set_32 : decode cX3_set 32 = .ok (.iload_n 2, 1) := by decide +kernel
theorem dX3_set_33 : decode cX3_set 33 = .ok (.iastore, 1) := by decide +kernel
theorem dX3_set_34 : decode cX3_set 34 = .ok (.aload_n 0, 1) := by decide +kernel
theorem dX3_set_35 : decode cX3_set 35 = .ok (.getfield 35, 3) := by decide +kernel
theorem dX3_set_38 : decode cX3_set 38 = .ok (.iconst 2, 1) := by decide +kernel
theorem dX3_set_39 : decode cX3_set 39 = .ok (.iload_n 1, 1) := by decide +kernel
theorem dX3_set_40 : decode cX3_set 40 = .ok (.imul, 1) := by decide +kernel
theorem dX3_set_41 : decode cX3_set 41 = .ok (.iconst 1, 1) := by decide +kernel
theorem dX3_set_42 : decode cX3_set 42 = .ok (.iadd, 1) := by decide +kernel
theorem dX3_set_43 : decode cX3_set 43 = .ok (.iload_n 3, 1) := by decide +kernel
theorem dX3_set_44 : decode cX3_set 44 = .ok (.iastore, 1) := by decide +kernel
theorem dX3_set_45 : decode cX3_set 45 = .ok (.iconst 1, 1) := by decide +kernel
theorem dX3_set_46 : decode cX3_set 46 = .ok (.ireturn, 1) := by decide +kernel
theorem dX3_order_0 : decode cX3_order 0 = .ok (.iload_n 1, 1) := by decide +kernel
theorem dX3_order_1 : decode cX3_order 1 = .ok (.ifCond .lt 8, 3) := by decide +kernel
theorem dX3_order_4 : decode cX3_order 4 = .ok (.iload_n 1, 1) := by decide +kernel
theorem dX3_order_5 : decode cX3_order 5 = .ok (.iconst 4, 1) := by decide +kernel
theorem dX3_order_6 : decode cX3_order 6 = .ok (.if_icmp .le 7, 3) := by decide +kernel
theorem dX3_order_9 : decode cX3_order 9 = .ok (.iconst 0, 1) := by decide +kernel
theorem dX3_order_10 : decode cX3_order 10 = .ok (.goto 21, 3) := by decide +kernel
theorem dX3_order_13 : decode cX3_order 13 = .ok (.aload_n 0, 1) := by decide +kernel
theorem dX3_order_14 : decode cX3_order 14 = .ok (.getfield 35, 3) := by decide +kernel
theorem dX3_order_17 : decode cX3_order 17 = .ok (.iconst 2, 1) := by decide +kernel
theorem dX3_order_18 : decode cX3_order 18 = .ok (.iload_n 1, 1) := by decide +kernel
theorem dX3_order_19 : decode cX3_order 19 = .ok (.imul, 1) := by decide +kernel
theorem dX3_order_20 : decode cX3_order 20 = .ok (.iload_n 2, 1) := by decide +kernel
theorem dX3_order_21 : decode cX3_order 21 = .ok (.ifCond .eq 7, 3) := by decide +kernel
theorem dX3_order_24 : decode cX3_order 24 = .ok (.iconst 1, 1) := by decide +kernel
theorem dX3_order_25 : decode cX3_order 25 = .ok (.goto 4, 3) := by decide +kernel
theorem dX3_order_28 : decode cX3_order 28 = .ok (.iconst 0, 1) := by decide +kernel
theorem dX3_order_29 : decode cX3_order 29 = .ok (.iadd, 1) := by decide +kernel
theorem dX3_order_30 : decode cX3_order 30 = .ok (.iaload, 1) := by decide +kernel
theorem dX3_order_31 : decode cX3_order 31 = .ok (.ireturn, 1) := by decide +kernel
theorem dX3_greatest_0 : decode cX3_greatest 0 = .ok (.iload_n 0, 1) := by decide +kernel
theorem dX3_greatest_1 : decode cX3_greatest 1 = .ok (.iload_n 1, 1) := by decide +kernel
theorem dX3_greatest_2 : decode cX3_greatest 2 = .ok (.if_icmp .le 7, 3) := by decide +kernel
theorem dX3_greatest_5 : decode cX3_greatest 5 = .ok (.iload_n 0, 1) := by decide +kernel
theorem dX3_greatest_6 : decode cX3_greatest 6 = .ok (.goto 4, 3) := by decide +kernel
theorem dX3_greatest_9 : decode cX3_greatest 9 = .ok (.iload_n 1, 1) := by decide +kernel
theorem dX3_greatest_10 : decode cX3_greatest 10 = .ok (.istore_n 3, 1) := by decide +kernel
theorem dX3_greatest_11 : decode cX3_greatest 11 = .ok (.iload_n 3, 1) := by decide +kernel
theorem dX3_greatest_12 : decode cX3_greatest 12 = .ok (.iload_n 2, 1) := by decide +kernel
theorem dX3_greatest_13 : decode cX3_greatest 13 = .ok (.if_icmp .le 7, 3) := by decide +kernel
theorem dX3_greatest_16 : decode cX3_greatest 16 = .ok (.iload_n 3, 1) := by decide +kernel
theorem dX3_greatest_17 : decode cX3_greatest 17 = .ok (.goto 4, 3) := by decide +kernel
theorem dX3_greatest_20 : decode cX3_greatest 20 = .ok (.iload_n 2, 1) := by decide +kernel
theorem dX3_greatest_21 : decode cX3_greatest 21 = .ok (.ireturn, 1) := by decide +kernel
theorem dX3_least_0 : decode cX3_least 0 = .ok (.iload_n 0, 1) := by decide +kernel
theorem dX3_least_1 : decode cX3_least 1 = .ok (.iload_n 1, 1) := by decide +kernel
theorem dX3_least_2 : decode cX3_least 2 = .ok (.if_icmp .ge 7, 3) := by decide +kernel
theorem dX3_least_5 : decode cX3_least 5 = .ok (.iload_n 0, 1) := by decide +kernel
theorem dX3_least_6 : decode cX3_least 6 = .ok (.goto 4, 3) := by decide +kernel
theorem dX3_least_9 : decode cX3_least 9 = .ok (.iload_n 1, 1) := by decide +kernel
theorem dX3_least_10 : decode cX3_least 10 = .ok (.istore_n 3, 1) := by decide +kernel
theorem dX3_least_11 : decode cX3_least 11 = .ok (.iload_n 3, 1) := by decide +kernel
theorem dX3_least_12 : decode cX3_least 12 = .ok (.iload_n 2, 1) := by decide +kernel
theorem dX3_least_13 : decode cX3_least 13 = .ok (.if_icmp .ge 7, 3) := by decide +kernel
theorem dX3_least_16 : decode cX3_least 16 = .ok (.iload_n 3, 1) := by decide +kernel
theorem dX3_least_17 : decode cX3_least 17 = .ok (.goto 4, 3) := by decide +kernel
theorem dX3_least_20 : decode cX3_least 20 = .ok (.iload_n 2, 1) := by decide +kernel
theorem dX3_least_21 : decode cX3_least 21 = .ok (.ireturn, 1) := by decide +kernel
theorem dX3_keep_0 : decode cX3_keep 0 = .ok (.iconst 0, 1) := by decide +kernel
theorem dX3_keep_1 : decode cX3_keep 1 = .ok (.istore_n 1, 1) := by decide +kernel
theorem dX3_keep_2 : decode cX3_keep 2 = .ok (.iload_n 1, 1) := by decide +kernel
theorem dX3_keep_3 : decode cX3_keep 3 = .ok (.bipush 16, 2) := by decide +kernel
theorem dX3_keep_5 : decode cX3_keep 5 = .ok (.if_icmp .ge 38, 3) := by decide +kernel
theorem dX3_keep_8 : decode cX3_keep 8 = .ok (.aload_n 0, 1) := by decide +kernel
theorem dX3_keep_9 : decode cX3_keep 9 = .ok (.getfield 29, 3) := by decide +kernel
theorem dX3_keep_12 : decode cX3_keep 12 = .ok (.iconst (-1), 1) := by decide +kernel
theorem dX3_keep_13 : decode cX3_keep 13 = .ok (.if_icmp .eq 30, 3) := by decide +kernel
theorem dX3_keep_16 : decode cX3_keep 16 = .ok (.aload_n 0, 1) := by decide +kernel
theorem dX3_keep_17 : decode cX3_keep 17 = .ok (.getfield 22, 3) := by decide +kernel
theorem dX3_keep_20 : decode cX3_keep 20 = .ok (.iload_n 1, 1) := by decide +kernel
theorem dX3_keep_21 : decode cX3_keep 21 = .ok (.aload_n 0, 1) := by decide +kernel
theorem dX3_keep_22 : decode cX3_keep 22 = .ok (.getfield 16, 3) := by decide +kernel
theorem dX3_keep_25 : decode cX3_keep 25 = .ok (.sipush 4000, 3) := by decide +kernel
theorem dX3_keep_28 : decode cX3_keep 28 = .ok (.aload_n 0, 1) := by decide +kernel
theorem dX3_keep_29 : decode cX3_keep 29 = .ok (.getfield 29, 3) := by decide +kernel
theorem dX3_keep_32 : decode cX3_keep 32 = .ok (.imul, 1) := by decide +kernel
theorem dX3_keep_33 : decode cX3_keep 33 = .ok (.iload_n 1, 1) := by decide +kernel
theorem dX3_keep_34 : decode cX3_keep 34 = .ok (.iadd, 1) := by decide +kernel
theorem dX3_keep_35 : decode cX3_keep 35 = .ok (.iaload, 1) := by decide +kernel
theorem dX3_keep_36 : decode cX3_keep 36 = .ok (.iastore, 1) := by decide +kernel
theorem dX3_keep_37 : decode cX3_keep 37 = .ok (.iinc 1 1, 3) := by decide +kernel
theorem dX3_keep_40 : decode cX3_keep 40 = .ok (.goto (-38), 3) := by decide +kernel
theorem dX3_keep_43 : decode cX3_keep 43 = .ok (.iconst 0, 1) := by decide +kernel
theorem dX3_keep_44 : decode cX3_keep 44 = .ok (.istore_n 1, 1) := by decide +kernel
theorem dX3_keep_45 : decode cX3_keep 45 = .ok (.iload_n 1, 1) := by decide +kernel
theorem dX3_keep_46 : decode cX3_keep 46 = .ok (.sipush 4000, 3) := by decide +kernel
theorem dX3_keep_49 : decode cX3_keep 49 = .ok (.if_icmp .ge 41, 3) := by decide +kernel
theorem dX3_keep_52 : decode cX3_keep 52 = .ok (.aload_n 0, 1) := by decide +kernel
theorem dX3_keep_53 : decode cX3_keep 53 = .ok (.getfield 25, 3) := by decide +kernel
theorem dX3_keep_56 : decode cX3_keep 56 = .ok (.aload_n 0, 1) := by decide +kernel
theorem dX3_keep_57 : decode cX3_keep 57 = .ok (.getfield 69, 3) := by decide +kernel
theorem dX3_keep_60 : decode cX3_keep 60 = .ok (.if_icmp .ne 30, 3) := by decide +kernel
theorem dX3_keep_63 : decode cX3_keep 63 = .ok (.aload_n 0, 1) := by decide +kernel
theorem dX3_keep_64 : decode cX3_keep 64 = .ok (.getfield 19, 3) := by decide +kernel
theorem dX3_keep_67 : decode cX3_keep 67 = .ok (.iload_n 1, 1) := by decide +kernel
theorem dX3_keep_68 : decode cX3_keep 68 = .ok (.aload_n 0, 1) := by decide +kernel
theorem dX3_keep_69 : decode cX3_keep 69 = .ok (.getfield 16, 3) := by decide +kernel
theorem dX3_keep_72 : decode cX3_keep 72 = .ok (.sipush 4000, 3) := by decide +kernel
theorem dX3_keep_75 : decode cX3_keep 75 = .ok (.aload_n 0, 1) := by decide +kernel
theorem dX3_keep_76 : decode cX3_keep 76 = .ok (.getfield 25, 3) := by decide +kernel
theorem dX3_keep_79 : decode cX3_keep 79 = .ok (.imul, 1) := by decide +kernel
theorem dX3_keep_80 : decode cX3_keep 80 = .ok (.iload_n 1, 1) := by decide +kernel
theorem dX3_keep_81 : decode cX3_keep 81 = .ok (.iadd, 1) := by decide +kernel
theorem dX3_keep_82 : decode cX3_keep 82 = .ok (.iaload, 1) := by decide +kernel
theorem dX3_keep_83 : decode cX3_keep 83 = .ok (.iastore, 1) := by decide +kernel
theorem dX3_keep_84 : decode cX3_keep 84 = .ok (.iinc 1 1, 3) := by decide +kernel
theorem dX3_keep_87 : decode cX3_keep 87 = .ok (.goto (-42), 3) := by decide +kernel
theorem dX3_keep_90 : decode cX3_keep 90 = .ok (.return_, 1) := by decide +kernel
theorem dX3_sourceBit_0 : decode cX3_sourceBit 0 = .ok (.aload_n 0, 1) := by decide +kernel
theorem dX3_sourceBit_1 : decode cX3_sourceBit 1 = .ok (.aload_n 0, 1) := by decide +kernel
theorem dX3_sourceBit_2 : decode cX3_sourceBit 2 = .ok (.getfield 25, 3) := by decide +kernel
theorem dX3_sourceBit_5 : decode cX3_sourceBit 5 = .ok (.invokevirtual 48, 3) := by decide +kernel
theorem dX3_sourceBit_8 : decode cX3_sourceBit 8 = .ok (.iload_n 2, 1) := by decide +kernel
theorem dX3_sourceBit_9 : decode cX3_sourceBit 9 = .ok (.imul, 1) := by decide +kernel
theorem dX3_sourceBit_10 : decode cX3_sourceBit 10 = .ok (.iload_n 1, 1) := by decide +kernel
theorem dX3_sourceBit_11 : decode cX3_sourceBit 11 = .ok (.bipush 16, 2) := by decide +kernel
theorem dX3_sourceBit_13 : decode cX3_sourceBit 13 = .ok (.idiv, 1) := by decide +kernel
theorem dX3_sourceBit_14 : decode cX3_sourceBit 14 = .ok (.iadd, 1) := by decide +kernel
theorem dX3_sourceBit_15 : decode cX3_sourceBit 15 = .ok (.istore_n 3, 1) := by decide +kernel
theorem dX3_sourceBit_16 : decode cX3_sourceBit 16 = .ok (.aload_n 0, 1) := by decide +kernel
theorem dX3_sourceBit_17 : decode cX3_sourceBit 17 = .ok (.getfield 25, 3) := by decide +kernel
theorem dX3_sourceBit_20 : decode cX3_sourceBit 20 = .ok (.aload_n 0, 1) := by decide +kernel
theorem dX3_sourceBit_21 : decode cX3_sourceBit 21 = .ok (.getfield 69, 3) := by decide +kernel
theorem dX3_sourceBit_24 : decode cX3_sourceBit 24 = .ok (.if_icmp .ne 12, 3) := by decide +kernel
theorem dX3_sourceBit_27 : decode cX3_sourceBit 27 = .ok (.aload_n 0, 1) := by decide +kernel
theorem dX3_sourceBit_28 : decode cX3_sourceBit 28 = .ok (.getfield 19, 3) := by decide +kernel
theorem dX3_sourceBit_31 : decode cX3_sourceBit 31 = .ok (.iload_n 3, 1) := by decide +kernel
theorem dX3_sourceBit_32 : decode cX3_sourceBit 32 = .ok (.iaload, 1) := by decide +kernel
theorem dX3_sourceBit_33 : decode cX3_sourceBit 33 = .ok (.goto 18, 3) := by decide +kernel
theorem dX3_sourceBit_36 : decode cX3_sourceBit 36 = .ok (.aload_n 0, 1) := by decide +kernel
theorem dX3_sourceBit_37 : decode cX3_sourceBit 37 = .ok (.getfield 16, 3) := by decide +kernel
theorem dX3_sourceBit_40 : decode cX3_sourceBit 40 = .ok (.sipush 4000, 3) := by decide +kernel
theorem dX3_sourceBit_43 : decode cX3_sourceBit 43 = .ok (.aload_n 0, 1) := by decide +kernel
theorem dX3_sourceBit_44 : decode cX3_sourceBit 44 = .ok (.getfield 25, 3) := by decide +kernel
theorem dX3_sourceBit_47 : decode cX3_sourceBit 47 = .ok (.imul, 1) := by decide +kernel
theorem dX3_sourceBit_48 : decode cX3_sourceBit 48 = .ok (.iload_n 3, 1) := by decide +kernel
theorem dX3_sourceBit_49 : decode cX3_sourceBit 49 = .ok (.iadd, 1) := by decide +kernel
theorem dX3_sourceBit_50 : decode cX3_sourceBit 50 = .ok (.iaload, 1) := by decide +kernel
theorem dX3_sourceBit_51 : decode cX3_sourceBit 51 = .ok (.istore 4, 2) := by decide +kernel
theorem dX3_sourceBit_53 : decode cX3_sourceBit 53 = .ok (.iload 4, 2) := by decide +kernel
theorem dX3_sourceBit_55 : decode cX3_sourceBit 55 = .ok (.bipush 15, 2) := by decide +kernel
theorem dX3_sourceBit_57 : decode cX3_sourceBit 57 = .ok (.iload_n 1, 1) := by decide +kernel
theorem dX3_sourceBit_58 : decode cX3_sourceBit 58 = .ok (.bipush 16, 2) := by decide +kernel
theorem dX3_sourceBit_60 : decode cX3_sourceBit 60 = .ok (.irem, 1) := by decide +kernel
theorem dX3_sourceBit_61 : decode cX3_sourceBit 61 = .ok (.isub, 1) := by decide +kernel
theorem dX3_sourceBit_62 : decode cX3_sourceBit 62 = .ok (.ishr, 1) := by decide +kernel
theorem dX3_sourceBit_63 : decode cX3_sourceBit 63 = .ok (.iconst 1, 1) := by decide +kernel
theorem dX3_sourceBit_64 : decode cX3_sourceBit 64 = .ok (.iand, 1) := by decide +kernel
theorem dX3_sourceBit_65 : decode cX3_sourceBit 65 = .ok (.ireturn, 1) := by decide +kernel
theorem dX3_copyBit_0 : decode cX3_copyBit 0 = .ok (.aload_n 0, 1) := by decide +kernel
theorem dX3_copyBit_1 : decode cX3_copyBit 1 = .ok (.getfield 25, 3) := by decide +kernel
theorem dX3_copyBit_4 : decode cX3_copyBit 4 = .ok (.iconst (-1), 1) := by decide +kernel
theorem dX3_copyBit_5 : decode cX3_copyBit 5 = .ok (.if_icmp .ne 7, 3) := by decide +kernel
theorem dX3_copyBit_8 : decode cX3_copyBit 8 = .ok (.iconst 1, 1) := by decide +kernel
theorem dX3_copyBit_9 : decode cX3_copyBit 9 = .ok (.goto 10, 3) := by decide +kernel
theorem dX3_copyBit_12 : decode cX3_copyBit 12 = .ok (.aload_n 0, 1) := by decide +kernel
theorem dX3_copyBit_13 : decode cX3_copyBit 13 = .ok (.iload_n 3, 1) := by decide +kernel
theorem dX3_copyBit_14 : decode cX3_copyBit 14 = .ok (.iload 4, 2) := by decide +kernel
theorem dX3_copyBit_16 : decode cX3_copyBit 16 = .ok (.invokevirtual 75, 3) := by decide +kernel
theorem dX3_copyBit_19 : decode cX3_copyBit 19 = .ok (.istore 5, 2) := by decide +kernel
theorem dX3_copyBit_21 : decode cX3_copyBit 21 = .ok (.aload_n 0, 1) := by decide +kernel
theorem dX3_copyBit_22 : decode cX3_copyBit 22 = .ok (.getfield 29, 3) := by decide +kernel
theorem dX3_copyBit_25 : decode cX3_copyBit 25 = .ok (.iconst (-1), 1) := by decide +kernel
theorem dX3_copyBit_26 : decode cX3_copyBit 26 = .ok (.if_icmp .eq 29, 3) := by decide +kernel
theorem dX3_copyBit_29 : decode cX3_copyBit 29 = .ok (.aload_n 0, 1) := by decide +kernel
theorem dX3_copyBit_30 : decode cX3_copyBit 30 = .ok (.getfield 22, 3) := by decide +kernel
theorem dX3_copyBit_33 : decode cX3_copyBit 33 = .ok (.iload_n 2, 1) := by decide +kernel
theorem dX3_copyBit_34 : decode cX3_copyBit 34 = .ok (.bipush 15, 2) := by decide +kernel
theorem dX3_copyBit_36 : decode cX3_copyBit 36 = .ok (.iand, 1) := by decide +kernel
theorem dX3_copyBit_37 : decode cX3_copyBit 37 = .ok (.iaload, 1) := by decide +kernel
theorem dX3_copyBit_38 : decode cX3_copyBit 38 = .ok (.bipush 15, 2) := by decide +kernel
theorem dX3_copyBit_40 : decode cX3_copyBit 40 = .ok (.iload_n 1, 1) := by decide +kernel
theorem dX3_copyBit_41 : decode cX3_copyBit 41 = .ok (.bipush 15, 2) := by decide +kernel
theorem dX3_copyBit_43 : decode cX3_copyBit 43 = .ok (.iand, 1) := by decide +kernel
theorem dX3_copyBit_44 : decode cX3_copyBit 44 = .ok (.isub, 1) := by decide +kernel
theorem dX3_copyBit_45 : decode cX3_copyBit 45 = .ok (.ishr, 1) := by decide +kernel
theorem dX3_copyBit_46 : decode cX3_copyBit 46 = .ok (.iconst 1, 1) := by decide +kernel
theorem dX3_copyBit_47 : decode cX3_copyBit 47 = .ok (.iand, 1) := by decide +kernel
theorem dX3_copyBit_48 : decode cX3_copyBit 48 = .ok (.ifCond .ne 7, 3) := by decide +kernel
theorem dX3_copyBit_51 : decode cX3_copyBit 51 = .ok (.iconst 0, 1) := by decide +kernel
theorem dX3_copyBit_52 : decode cX3_copyBit 52 = .ok (.goto 5, 3) := by decide +kernel
theorem dX3_copyBit_55 : decode cX3_copyBit 55 = .ok (.iload 5, 2) := by decide +kernel
theorem dX3_copyBit_57 : decode cX3_copyBit 57 = .ok (.istore 5, 2) := by decide +kernel
theorem dX3_copyBit_59 : decode cX3_copyBit 59 = .ok (.aload_n 0, 1) := by decide +kernel
theorem dX3_copyBit_60 : decode cX3_copyBit 60 = .ok (.aload_n 0, 1) := by decide +kernel
theorem dX3_copyBit_61 : decode cX3_copyBit 61 = .ok (.getfield 69, 3) := by decide +kernel
theorem dX3_copyBit_64 : decode cX3_copyBit 64 = .ok (.iload_n 1, 1) := by decide +kernel
theorem dX3_copyBit_65 : decode cX3_copyBit 65 = .ok (.iload_n 2, 1) := by decide +kernel
theorem dX3_copyBit_66 : decode cX3_copyBit 66 = .ok (.invokevirtual 62, 3) := by decide +kernel
theorem dX3_copyBit_69 : decode cX3_copyBit 69 = .ok (.istore 6, 2) := by decide +kernel
theorem dX3_copyBit_71 : decode cX3_copyBit 71 = .ok (.aload_n 0, 1) := by decide +kernel
theorem dX3_copyBit_72 : decode cX3_copyBit 72 = .ok (.getfield 32, 3) := by decide +kernel
theorem dX3_copyBit_75 : decode cX3_copyBit 75 = .ok (.iconst 1, 1) := by decide +kernel
theorem dX3_copyBit_76 : decode cX3_copyBit 76 = .ok (.iload 5, 2) := by decide +kernel
theorem dX3_copyBit_78 : decode cX3_copyBit 78 = .ok (.isub, 1) := by decide +kernel
theorem dX3_copyBit_79 : decode cX3_copyBit 79 = .ok (.iconst 2, 1) := by decide +kernel
theorem dX3_copyBit_80 : decode cX3_copyBit 80 = .ok (.imul, 1) := by decide +kernel
theorem dX3_copyBit_81 : decode cX3_copyBit 81 = .ok (.iconst 1, 1) := by decide +kernel
theorem dX3_copyBit_82 : decode cX3_copyBit 82 = .ok (.iadd, 1) := by decide +kernel
theorem dX3_copyBit_83 : decode cX3_copyBit 83 = .ok (.iload 6, 2) := by decide +kernel
theorem dX3_copyBit_85 : decode cX3_copyBit 85 = .ok (.isub, 1) := by decide +kernel
theorem dX3_copyBit_86 : decode cX3_copyBit 86 = .ok (.ishr, 1) := by decide +kernel
theorem dX3_copyBit_87 : decode cX3_copyBit 87 = .ok (.iconst 1, 1) := by decide +kernel
theorem dX3_copyBit_88 : decode cX3_copyBit 88 = .ok (.iand, 1) := by decide +kernel
theorem dX3_copyBit_89 : decode cX3_copyBit 89 = .ok (.istore 7, 2) := by decide +kernel
theorem dX3_copyBit_91 : decode cX3_copyBit 91 = .ok (.sipush 4000, 3) := by decide +kernel
theorem dX3_copyBit_94 : decode cX3_copyBit 94 = .ok (.aload_n 0, 1) := by decide +kernel
theorem dX3_copyBit_95 : decode cX3_copyBit 95 = .ok (.getfield 69, 3) := by decide +kernel
theorem dX3_copyBit_98 : decode cX3_copyBit 98 = .ok (.imul, 1) := by decide +kernel
theorem dX3_copyBit_99 : decode cX3_copyBit 99 = .ok (.aload_n 0, 1) := by decide +kernel
theorem dX3_copyBit_100 : decode cX3_copyBit 100 = .ok (.aload_n 0, 1) := by decide +kernel
theorem dX3_copyBit_101 : decode cX3_copyBit 101 = .ok (.getfield 69, 3) := by decide +kernel
theorem dX3_copyBit_104 : decode cX3_copyBit 104 = .ok (.invokevirtual 48, 3) := by decide +kernel
theorem dX3_copyBit_107 : decode cX3_copyBit 107 = .ok (.iload_n 2, 1) := by decide +kernel
theorem dX3_copyBit_108 : decode cX3_copyBit 108 = .ok (.imul, 1) := by decide +kernel
theorem dX3_copyBit_109 : decode cX3_copyBit 109 = .ok (.iadd, 1) := by decide +kernel
theorem dX3_copyBit_110 : decode cX3_copyBit 110 = .ok (.iload_n 1, 1) := by decide +kernel
theorem dX3_copyBit_111 : decode cX3_copyBit 111 = .ok (.bipush 16, 2) := by decide +kernel
theorem dX3_copyBit_113 : decode cX3_copyBit 113 = .ok (.idiv, 1) := by decide +kernel
theorem dX3_copyBit_114 : decode cX3_copyBit 114 = .ok (.iadd, 1) := by decide +kernel
theorem dX3_copyBit_115 : decode cX3_copyBit 115 = .ok (.istore 8, 2) := by decide +kernel
theorem dX3_copyBit_117 : decode cX3_copyBit 117 = .ok (.ldc 57, 2) := by decide +kernel
theorem dX3_copyBit_119 : decode cX3_copyBit 119 = .ok (.iload_n 1, 1) := by decide +kernel
theorem dX3_copyBit_120 : decode cX3_copyBit 120 = .ok (.bipush 16, 2) := by decide +kernel
theorem dX3_copyBit_122 : decode cX3_copyBit 122 = .ok (.irem, 1) := by decide +kernel
theorem dX3_copyBit_123 : decode cX3_copyBit 123 = .ok (.ishr, 1) := by decide +kernel
theorem dX3_copyBit_124 : decode cX3_copyBit 124 = .ok (.istore 9, 2) := by decide +kernel
theorem dX3_copyBit_126 : decode cX3_copyBit 126 = .ok (.aload_n 0, 1) := by decide +kernel
theorem dX3_copyBit_127 : decode cX3_copyBit 127 = .ok (.getfield 16, 3) := by decide +kernel
theorem dX3_copyBit_130 : decode cX3_copyBit 130 = .ok (.iload 8, 2) := by decide +kernel
theorem dX3_copyBit_132 : decode cX3_copyBit 132 = .ok (.iload 7, 2) := by decide +kernel
theorem dX3_copyBit_134 : decode cX3_copyBit 134 = .ok (.iconst 1, 1) := by decide +kernel
theorem dX3_copyBit_135 : decode cX3_copyBit 135 = .ok (.if_icmp .ne 16, 3) := by decide +kernel
theorem dX3_copyBit_138 : decode cX3_copyBit 138 = .ok (.aload_n 0, 1) := by decide +kernel
theorem dX3_copyBit_139 : decode cX3_copyBit 139 = .ok (.getfield 16, 3) := by decide +kernel
theorem dX3_copyBit_142 : decode cX3_copyBit 142 = .ok (.iload 8, 2) := by decide +kernel
theorem dX3_copyBit_144 : decode cX3_copyBit 144 = .ok (.iaload, 1) := by decide +kernel
theorem dX3_copyBit_145 : decode cX3_copyBit 145 = .ok (.iload 9, 2) := by decide +kernel
theorem dX3_copyBit_147 : decode cX3_copyBit 147 = .ok (.ior, 1) := by decide +kernel
theorem dX3_copyBit_148 : decode cX3_copyBit 148 = .ok (.goto 15, 3) := by decide +kernel
theorem dX3_copyBit_151 : decode cX3_copyBit 151 = .ok (.aload_n 0, 1) := by decide +kernel
theorem dX3_copyBit_152 : decode cX3_copyBit 152 = .ok (.getfield 16, 3) := by decide +kernel
theorem dX3_copyBit_155 : decode cX3_copyBit 155 = .ok (.iload 8, 2) := by decide +kernel
theorem dX3_copyBit_157 : decode cX3_copyBit 157 = .ok (.iaload, 1) := by decide +kernel
theorem dX3_copyBit_158 : decode cX3_copyBit 158 = .ok (.iload 9, 2) := by decide +kernel
theorem dX3_copyBit_160 : decode cX3_copyBit 160 = .ok (.iconst (-1), 1) := by decide +kernel
theorem dX3_copyBit_161 : decode cX3_copyBit 161 = .ok (.ixor, 1) := by decide +kernel
theorem dX3_copyBit_162 : decode cX3_copyBit 162 = .ok (.iand, 1) := by decide +kernel
theorem dX3_copyBit_163 : decode cX3_copyBit 163 = .ok (.iastore, 1) := by decide +kernel
theorem dX3_copyBit_164 : decode cX3_copyBit 164 = .ok (.return_, 1) := by decide +kernel
theorem dX3_copyAll_0 : decode cX3_copyAll 0 = .ok (.aload_n 0, 1) := by decide +kernel
theorem dX3_copyAll_1 : decode cX3_copyAll 1 = .ok (.invokevirtual 79, 3) := by decide +kernel
theorem dX3_copyAll_4 : decode cX3_copyAll 4 = .ok (.iconst 0, 1) := by decide +kernel
theorem dX3_copyAll_5 : decode cX3_copyAll 5 = .ok (.aload_n 0, 1) := by decide +kernel
theorem dX3_copyAll_6 : decode cX3_copyAll 6 = .ok (.getfield 35, 3) := by decide +kernel
theorem dX3_copyAll_9 : decode cX3_copyAll 9 = .ok (.bipush 6, 2) := by decide +kernel
theorem dX3_copyAll_11 : decode cX3_copyAll 11 = .ok (.iaload, 1) := by decide +kernel
theorem dX3_copyAll_12 : decode cX3_copyAll 12 = .ok (.aload_n 0, 1) := by decide +kernel
theorem dX3_copyAll_13 : decode cX3_copyAll 13 = .ok (.getfield 35, 3) := by decide +kernel
theorem dX3_copyAll_16 : decode cX3_copyAll 16 = .ok (.iconst 0, 1) := by decide +kernel
theorem dX3_copyAll_17 : decode cX3_copyAll 17 = .ok (.iaload, 1) := by decide +kernel
theorem dX3_copyAll_18 : decode cX3_copyAll 18 = .ok (.isub, 1) := by decide +kernel
theorem dX3_copyAll_19 : decode cX3_copyAll 19 = .ok (.aload_n 0, 1) := by decide +kernel
theorem dX3_copyAll_20 : decode cX3_copyAll 20 = .ok (.getfield 35, 3) := by decide +kernel
theorem dX3_copyAll_23 : decode cX3_copyAll 23 = .ok (.iconst 0, 1) := by decide +kernel
theorem dX3_copyAll_24 : decode cX3_copyAll 24 = .ok (.iaload, 1) := by decide +kernel
theorem dX3_copyAll_25 : decode cX3_copyAll 25 = .ok (.ineg, 1) := by decide +kernel
theorem dX3_copyAll_26 : decode cX3_copyAll 26 = .ok (.invokestatic 82, 3) := by decide +kernel
theorem dX3_copyAll_29 : decode cX3_copyAll 29 = .ok (.istore_n 1, 1) := by decide +kernel
theorem dX3_copyAll_30 : decode cX3_copyAll 30 = .ok (.iconst 0, 1) := by decide +kernel
theorem dX3_copyAll_31 : decode cX3_copyAll 31 = .ok (.aload_n 0, 1) := by decide +kernel
theorem dX3_copyAll_32 : decode cX3_copyAll 32 = .ok (.getfield 35, 3) := by decide +kernel
theorem dX3_copyAll_35 : decode cX3_copyAll 35 = .ok (.bipush 7, 2) := by decide +kernel
theorem dX3_copyAll_37 : decode cX3_copyAll 37 = .ok (.iaload, 1) := by decide +kernel
theorem dX3_copyAll_38 : decode cX3_copyAll 38 = .ok (.aload_n 0, 1) := by decide +kernel
theorem dX3_copyAll_39 : decode cX3_copyAll 39 = .ok (.getfield 35, 3) := by decide +kernel
theorem dX3_copyAll_42 : decode cX3_copyAll 42 = .ok (.iconst 1, 1) := by decide +kernel
theorem dX3_copyAll_43 : decode cX3_copyAll 43 = .ok (.iaload, 1) := by decide +kernel
theorem dX3_copyAll_44 : decode cX3_copyAll 44 = .ok (.isub, 1) := by decide +kernel
theorem dX3_copyAll_45 : decode cX3_copyAll 45 = .ok (.aload_n 0, 1) := by decide +kernel
theorem dX3_copyAll_46 : decode cX3_copyAll 46 = .ok (.getfield 35, 3) := by decide +kernel
theorem dX3_copyAll_49 : decode cX3_copyAll 49 = .ok (.iconst 1, 1) := by decide +kernel
theorem dX3_copyAll_50 : decode cX3_copyAll 50 = .ok (.iaload, 1) := by decide +kernel
theorem dX3_copyAll_51 : decode cX3_copyAll 51 = .ok (.ineg, 1) := by decide +kernel
theorem dX3_copyAll_52 : decode cX3_copyAll 52 = .ok (.invokestatic 82, 3) := by decide +kernel
theorem dX3_copyAll_55 : decode cX3_copyAll 55 = .ok (.istore_n 2, 1) := by decide +kernel
theorem dX3_copyAll_56 : decode cX3_copyAll 56 = .ok (.aload_n 0, 1) := by decide +kernel
theorem dX3_copyAll_57 : decode cX3_copyAll 57 = .ok (.getfield 35, 3) := by decide +kernel
theorem dX3_copyAll_60 : decode cX3_copyAll 60 = .ok (.iconst 2, 1) := by decide +kernel
theorem dX3_copyAll_61 : decode cX3_copyAll 61 = .ok (.iaload, 1) := by decide +kernel
theorem dX3_copyAll_62 : decode cX3_copyAll 62 = .ok (.aload_n 0, 1) := by decide +kernel
theorem dX3_copyAll_63 : decode cX3_copyAll 63 = .ok (.getfield 35, 3) := by decide +kernel
theorem dX3_copyAll_66 : decode cX3_copyAll 66 = .ok (.bipush 6, 2) := by decide +kernel
theorem dX3_copyAll_68 : decode cX3_copyAll 68 = .ok (.iaload, 1) := by decide +kernel
theorem dX3_copyAll_69 : decode cX3_copyAll 69 = .ok (.aload_n 0, 1) := by decide +kernel
theorem dX3_copyAll_70 : decode cX3_copyAll 70 = .ok (.getfield 35, 3) := by decide +kernel
theorem dX3_copyAll_73 : decode cX3_copyAll 73 = .ok (.bipush 8, 2) := by decide +kernel
theorem dX3_copyAll_75 : decode cX3_copyAll 75 = .ok (.iaload, 1) := by decide +kernel
theorem dX3_copyAll_76 : decode cX3_copyAll 76 = .ok (.iadd, 1) := by decide +kernel
theorem dX3_copyAll_77 : decode cX3_copyAll 77 = .ok (.aload_n 0, 1) := by decide +kernel
theorem dX3_copyAll_78 : decode cX3_copyAll 78 = .ok (.getfield 35, 3) := by decide +kernel
theorem dX3_copyAll_81 : decode cX3_copyAll 81 = .ok (.iconst 0, 1) := by decide +kernel
theorem dX3_copyAll_82 : decode cX3_copyAll 82 = .ok (.iaload, 1) := by decide +kernel
theorem dX3_copyAll_83 : decode cX3_copyAll 83 = .ok (.isub, 1) := by decide +kernel
theorem dX3_copyAll_84 : decode cX3_copyAll 84 = .ok (.aload_n 0, 1) := by decide +kernel
theorem dX3_copyAll_85 : decode cX3_copyAll 85 = .ok (.getfield 7, 3) := by decide +kernel
theorem dX3_copyAll_88 : decode cX3_copyAll 88 = .ok (.aload_n 0, 1) := by decide +kernel
theorem dX3_copyAll_89 : decode cX3_copyAll 89 = .ok (.getfield 69, 3) := by decide +kernel
theorem dX3_copyAll_92 : decode cX3_copyAll 92 = .ok (.iaload, 1) := by decide +kernel
theorem dX3_copyAll_93 : decode cX3_copyAll 93 = .ok (.aload_n 0, 1) := by decide +kernel
theorem dX3_copyAll_94 : decode cX3_copyAll 94 = .ok (.getfield 35, 3) := by decide +kernel
theorem dX3_copyAll_97 : decode cX3_copyAll 97 = .ok (.iconst 0, 1) := by decide +kernel
theorem dX3_copyAll_98 : decode cX3_copyAll 98 = .ok (.iaload, 1) := by decide +kernel
theorem dX3_copyAll_99 : decode cX3_copyAll 99 = .ok (.isub, 1) := by decide +kernel
theorem dX3_copyAll_100 : decode cX3_copyAll 100 = .ok (.invokestatic 85, 3) := by decide +kernel
theorem dX3_copyAll_103 : decode cX3_copyAll 103 = .ok (.istore_n 3, 1) := by decide +kernel
theorem dX3_copyAll_104 : decode cX3_copyAll 104 = .ok (.aload_n 0, 1) := by decide +kernel
theorem dX3_copyAll_105 : decode cX3_copyAll 105 = .ok (.getfield 35, 3) := by decide +kernel
theorem dX3_copyAll_108 : decode cX3_copyAll 108 = .ok (.iconst 3, 1) := by decide +kernel
theorem dX3_copyAll_109 : decode cX3_copyAll 109 = .ok (.iaload, 1) := by decide +kernel
theorem dX3_copyAll_110 : decode cX3_copyAll 110 = .ok (.aload_n 0, 1) := by decide +kernel
theorem dX3_copyAll_111 : decode cX3_copyAll 111 = .ok (.getfield 35, 3) := by decide +kernel
theorem dX3_copyAll_114 : decode cX3_copyAll 114 = .ok (.bipush 7, 2) := by decide +kernel
theorem dX3_copyAll_116 : decode cX3_copyAll 116 = .ok (.iaload, 1) := by decide +kernel
theorem dX3_copyAll_117 : decode cX3_copyAll 117 = .ok (.aload_n 0, 1) := by decide +kernel
theorem dX3_copyAll_118 : decode cX3_copyAll 118 = .ok (.getfield 35, 3) := by decide +kernel
theorem dX3_copyAll_121 : decode cX3_copyAll 121 = .ok (.bipush 9, 2) := by decide +kernel
theorem dX3_copyAll_123 : decode cX3_copyAll 123 = .ok (.iaload, 1) := by decide +kernel
theorem dX3_copyAll_124 : decode cX3_copyAll 124 = .ok (.iadd, 1) := by decide +kernel
theorem dX3_copyAll_125 : decode cX3_copyAll 125 = .ok (.aload_n 0, 1) := by decide +kernel
theorem dX3_copyAll_126 : decode cX3_copyAll 126 = .ok (.getfield 35, 3) := by decide +kernel
theorem dX3_copyAll_129 : decode cX3_copyAll 129 = .ok (.iconst 1, 1) := by decide +kernel
theorem dX3_copyAll_130 : decode cX3_copyAll 130 = .ok (.iaload, 1) := by decide +kernel
theorem dX3_copyAll_131 : decode cX3_copyAll 131 = .ok (.isub, 1) := by decide +kernel
theorem dX3_copyAll_132 : decode cX3_copyAll 132 = .ok (.aload_n 0, 1) := by decide +kernel
theorem dX3_copyAll_133 : decode cX3_copyAll 133 = .ok (.getfield 13, 3) := by decide +kernel
theorem dX3_copyAll_136 : decode cX3_copyAll 136 = .ok (.aload_n 0, 1) := by decide +kernel
theorem dX3_copyAll_137 : decode cX3_copyAll 137 = .ok (.getfield 69, 3) := by decide +kernel
theorem dX3_copyAll_140 : decode cX3_copyAll 140 = .ok (.iaload, 1) := by decide +kernel
theorem dX3_copyAll_141 : decode cX3_copyAll 141 = .ok (.aload_n 0, 1) := by decide +kernel
theorem dX3_copyAll_142 : decode cX3_copyAll 142 = .ok (.getfield 35, 3) := by decide +kernel
theorem dX3_copyAll_145 : decode cX3_copyAll 145 = .ok (.iconst 1, 1) := by decide +kernel
theorem dX3_copyAll_146 : decode cX3_copyAll 146 = .ok (.iaload, 1) := by decide +kernel
theorem dX3_copyAll_147 : decode cX3_copyAll 147 = .ok (.isub, 1) := by decide +kernel
theorem dX3_copyAll_148 : decode cX3_copyAll 148 = .ok (.invokestatic 85, 3) := by decide +kernel
theorem dX3_copyAll_151 : decode cX3_copyAll 151 = .ok (.istore 4, 2) := by decide +kernel
theorem dX3_copyAll_153 : decode cX3_copyAll 153 = .ok (.aload_n 0, 1) := by decide +kernel
theorem dX3_copyAll_154 : decode cX3_copyAll 154 = .ok (.getfield 25, 3) := by decide +kernel
theorem dX3_copyAll_157 : decode cX3_copyAll 157 = .ok (.iconst (-1), 1) := by decide +kernel
theorem dX3_copyAll_158 : decode cX3_copyAll 158 = .ok (.if_icmp .eq 76, 3) := by decide +kernel
theorem dX3_copyAll_161 : decode cX3_copyAll 161 = .ok (.iload_n 1, 1) := by decide +kernel
theorem dX3_copyAll_162 : decode cX3_copyAll 162 = .ok (.aload_n 0, 1) := by decide +kernel
theorem dX3_copyAll_163 : decode cX3_copyAll 163 = .ok (.getfield 35, 3) := by decide +kernel
theorem dX3_copyAll_166 : decode cX3_copyAll 166 = .ok (.iconst 4, 1) := by decide +kernel
theorem dX3_copyAll_167 : decode cX3_copyAll 167 = .ok (.iaload, 1) := by decide +kernel
theorem dX3_copyAll_168 : decode cX3_copyAll 168 = .ok (.ineg, 1) := by decide +kernel
theorem dX3_copyAll_169 : decode cX3_copyAll 169 = .ok (.iload_n 1, 1) := by decide +kernel
theorem dX3_copyAll_170 : decode cX3_copyAll 170 = .ok (.invokestatic 82, 3) := by decide +kernel
theorem dX3_copyAll_173 : decode cX3_copyAll 173 = .ok (.istore_n 1, 1) := by decide +kernel
theorem dX3_copyAll_174 : decode cX3_copyAll 174 = .ok (.iload_n 2, 1) := by decide +kernel
theorem dX3_copyAll_175 : decode cX3_copyAll 175 = .ok (.aload_n 0, 1) := by decide +kernel
theorem dX3_copyAll_176 : decode cX3_copyAll 176 = .ok (.getfield 35, 3) := by decide +kernel
theorem dX3_copyAll_179 : decode cX3_copyAll 179 = .ok (.iconst 5, 1) := by decide +kernel
theorem dX3_copyAll_180 : decode cX3_copyAll 180 = .ok (.iaload, 1) := by decide +kernel
theorem dX3_copyAll_181 : decode cX3_copyAll 181 = .ok (.ineg, 1) := by decide +kernel
theorem dX3_copyAll_182 : decode cX3_copyAll 182 = .ok (.iload_n 2, 1) := by decide +kernel
theorem dX3_copyAll_183 : decode cX3_copyAll 183 = .ok (.invokestatic 82, 3) := by decide +kernel
theorem dX3_copyAll_186 : decode cX3_copyAll 186 = .ok (.istore_n 2, 1) := by decide +kernel
theorem dX3_copyAll_187 : decode cX3_copyAll 187 = .ok (.iload_n 3, 1) := by decide +kernel
theorem dX3_copyAll_188 : decode cX3_copyAll 188 = .ok (.aload_n 0, 1) := by decide +kernel
theorem dX3_copyAll_189 : decode cX3_copyAll 189 = .ok (.getfield 7, 3) := by decide +kernel
theorem dX3_copyAll_192 : decode cX3_copyAll 192 = .ok (.aload_n 0, 1) := by decide +kernel
theorem dX3_copyAll_193 : decode cX3_copyAll 193 = .ok (.getfield 25, 3) := by decide +kernel
theorem dX3_copyAll_196 : decode cX3_copyAll 196 = .ok (.iaload, 1) := by decide +kernel
theorem dX3_copyAll_197 : decode cX3_copyAll 197 = .ok (.aload_n 0, 1) := by decide +kernel
theorem dX3_copyAll_198 : decode cX3_copyAll 198 = .ok (.getfield 35, 3) := by decide +kernel
theorem dX3_copyAll_201 : decode cX3_copyAll 201 = .ok (.iconst 4, 1) := by decide +kernel
theorem dX3_copyAll_202 : decode cX3_copyAll 202 = .ok (.iaload, 1) := by decide +kernel
theorem dX3_copyAll_203 : decode cX3_copyAll 203 = .ok (.isub, 1) := by decide +kernel
theorem dX3_copyAll_204 : decode cX3_copyAll 204 = .ok (.iload_n 3, 1) := by decide +kernel
theorem dX3_copyAll_205 : decode cX3_copyAll 205 = .ok (.invokestatic 85, 3) := by decide +kernel
theorem dX3_copyAll_208 : decode cX3_copyAll 208 = .ok (.istore_n 3, 1) := by decide +kernel
theorem dX3_copyAll_209 : decode cX3_copyAll 209 = .ok (.iload 4, 2) := by decide +kernel
theorem dX3_copyAll_211 : decode cX3_copyAll 211 = .ok (.aload_n 0, 1) := by decide +kernel
theorem dX3_copyAll_212 : decode cX3_copyAll 212 = .ok (.getfield 13, 3) := by decide +kernel
theorem dX3_copyAll_215 : decode cX3_copyAll 215 = .ok (.aload_n 0, 1) := by decide +kernel
theorem dX3_copyAll_216 : decode cX3_copyAll 216 = .ok (.getfield 25, 3) := by decide +kernel
theorem dX3_copyAll_219 : decode cX3_copyAll 219 = .ok (.iaload, 1) := by decide +kernel
theorem dX3_copyAll_220 : decode cX3_copyAll 220 = .ok (.aload_n 0, 1) := by decide +kernel
theorem dX3_copyAll_221 : decode cX3_copyAll 221 = .ok (.getfield 35, 3) := by decide +kernel
theorem dX3_copyAll_224 : decode cX3_copyAll 224 = .ok (.iconst 5, 1) := by decide +kernel
theorem dX3_copyAll_225 : decode cX3_copyAll 225 = .ok (.iaload, 1) := by decide +kernel
theorem dX3_copyAll_226 : decode cX3_copyAll 226 = .ok (.isub, 1) := by decide +kernel
theorem dX3_copyAll_227 : decode cX3_copyAll 227 = .ok (.iload 4, 2) := by decide +kernel
theorem dX3_copyAll_229 : decode cX3_copyAll 229 = .ok (.invokestatic 85, 3) := by decide +kernel
theorem dX3_copyAll_232 : decode cX3_copyAll 232 = .ok (.istore 4, 2) := by decide +kernel
theorem dX3_copyAll_234 : decode cX3_copyAll 234 = .ok (.iconst 0, 1) := by decide +kernel
theorem dX3_copyAll_235 : decode cX3_copyAll 235 = .ok (.istore 5, 2) := by decide +kernel
theorem dX3_copyAll_237 : decode cX3_copyAll 237 = .ok (.iload_n 2, 1) := by decide +kernel
theorem dX3_copyAll_238 : decode cX3_copyAll 238 = .ok (.istore 6, 2) := by decide +kernel
theorem dX3_copyAll_240 : decode cX3_copyAll 240 = .ok (.iload 6, 2) := by decide +kernel
theorem dX3_copyAll_242 : decode cX3_copyAll 242 = .ok (.iload 4, 2) := by decide +kernel
theorem dX3_copyAll_244 : decode cX3_copyAll 244 = .ok (.if_icmp .ge 67, 3) := by decide +kernel
theorem dX3_copyAll_247 : decode cX3_copyAll 247 = .ok (.iload_n 1, 1) := by decide +kernel
theorem dX3_copyAll_248 : decode cX3_copyAll 248 = .ok (.istore 7, 2) := by decide +kernel
theorem dX3_copyAll_250 : decode cX3_copyAll 250 = .ok (.iload 7, 2) := by decide +kernel
theorem dX3_copyAll_252 : decode cX3_copyAll 252 = .ok (.iload_n 3, 1) := by decide +kernel
theorem dX3_copyAll_253 : decode cX3_copyAll 253 = .ok (.if_icmp .ge 52, 3) := by decide +kernel
theorem dX3_copyAll_256 : decode cX3_copyAll 256 = .ok (.aload_n 0, 1) := by decide +kernel
theorem dX3_copyAll_257 : decode cX3_copyAll 257 = .ok (.aload_n 0, 1) := by decide +kernel
theorem dX3_copyAll_258 : decode cX3_copyAll 258 = .ok (.getfield 35, 3) := by decide +kernel
theorem dX3_copyAll_261 : decode cX3_copyAll 261 = .ok (.iconst 0, 1) := by decide +kernel
theorem dX3_copyAll_262 : decode cX3_copyAll 262 = .ok (.iaload, 1) := by decide +kernel
theorem dX3_copyAll_263 : decode cX3_copyAll 263 = .ok (.iload 7, 2) := by decide +kernel
theorem dX3_copyAll_265 : decode cX3_copyAll 265 = .ok (.iadd, 1) := by decide +kernel
theorem dX3_copyAll_266 : decode cX3_copyAll 266 = .ok (.aload_n 0, 1) := by decide +kernel
theorem dX3_copyAll_267 : decode cX3_copyAll 267 = .ok (.getfield 35, 3) := by decide +kernel
theorem dX3_copyAll_270 : decode cX3_copyAll 270 = .ok (.iconst 1, 1) := by decide +kernel
theorem dX3_copyAll_271 : decode cX3_copyAll 271 = .ok (.iaload, 1) := by decide +kernel
theorem dX3_copyAll_272 : decode cX3_copyAll 272 = .ok (.iload 6, 2) := by decide +kernel
theorem dX3_copyAll_274 : decode cX3_copyAll 274 = .ok (.iadd, 1) := by decide +kernel
theorem dX3_copyAll_275 : decode cX3_copyAll 275 = .ok (.aload_n 0, 1) := by decide +kernel
theorem dX3_copyAll_276 : decode cX3_copyAll 276 = .ok (.getfield 35, 3) := by decide +kernel
theorem dX3_copyAll_279 : decode cX3_copyAll 279 = .ok (.iconst 4, 1) := by decide +kernel
theorem dX3_copyAll_280 : decode cX3_copyAll 280 = .ok (.iaload, 1) := by decide +kernel
theorem dX3_copyAll_281 : decode cX3_copyAll 281 = .ok (.iload 7, 2) := by decide +kernel
theorem dX3_copyAll_283 : decode cX3_copyAll 283 = .ok (.iadd, 1) := by decide +kernel
theorem dX3_copyAll_284 : decode cX3_copyAll 284 = .ok (.aload_n 0, 1) := by decide +kernel
theorem dX3_copyAll_285 : decode cX3_copyAll 285 = .ok (.getfield 35, 3) := by decide +kernel
theorem dX3_copyAll_288 : decode cX3_copyAll 288 = .ok (.iconst 5, 1) := by decide +kernel
theorem dX3_copyAll_289 : decode cX3_copyAll 289 = .ok (.iaload, 1) := by decide +kernel
theorem dX3_copyAll_290 : decode cX3_copyAll 290 = .ok (.iload 6, 2) := by decide +kernel
theorem dX3_copyAll_292 : decode cX3_copyAll 292 = .ok (.iadd, 1) := by decide +kernel
theorem dX3_copyAll_293 : decode cX3_copyAll 293 = .ok (.invokevirtual 88, 3) := by decide +kernel
theorem dX3_copyAll_296 : decode cX3_copyAll 296 = .ok (.iinc 5 1, 3) := by decide +kernel
theorem dX3_copyAll_299 : decode cX3_copyAll 299 = .ok (.iinc 7 1, 3) := by decide +kernel
theorem dX3_copyAll_302 : decode cX3_copyAll 302 = .ok (.goto (-52), 3) := by decide +kernel
theorem dX3_copyAll_305 : decode cX3_copyAll 305 = .ok (.iinc 6 1, 3) := by decide +kernel
theorem dX3_copyAll_308 : decode cX3_copyAll 308 = .ok (.goto (-68), 3) := by decide +kernel
theorem dX3_copyAll_311 : decode cX3_copyAll 311 = .ok (.iload 5, 2) := by decide +kernel
theorem dX3_copyAll_313 : decode cX3_copyAll 313 = .ok (.ireturn, 1) := by decide +kernel
theorem dX3_lacksPattern_0 : decode cX3_lacksPattern 0 = .ok (.aload_n 0, 1) := by decide +kernel
theorem dX3_lacksPattern_1 : decode cX3_lacksPattern 1 = .ok (.getfield 29, 3) := by decide +kernel
theorem dX3_lacksPattern_4 : decode cX3_lacksPattern 4 = .ok (.iconst (-1), 1) := by decide +kernel
theorem dX3_lacksPattern_5 : decode cX3_lacksPattern 5 = .ok (.if_icmp .eq 18, 3) := by decide +kernel
theorem dX3_lacksPattern_8 : decode cX3_lacksPattern 8 = .ok (.aload_n 0, 1) := by decide +kernel
theorem dX3_lacksPattern_9 : decode cX3_lacksPattern 9 = .ok (.aload_n 0, 1) := by decide +kernel
theorem dX3_lacksPattern_10 : decode cX3_lacksPattern 10 = .ok (.getfield 29, 3) := by decide +kernel
theorem dX3_lacksPattern_13 : decode cX3_lacksPattern 13 = .ok (.invokevirtual 66, 3) := by decide +kernel
theorem dX3_lacksPattern_16 : decode cX3_lacksPattern 16 = .ok (.ifCond .ne 7, 3) := by decide +kernel
theorem dX3_lacksPattern_19 : decode cX3_lacksPattern 19 = .ok (.iconst 1, 1) := by decide +kernel
theorem dX3_lacksPattern_20 : decode cX3_lacksPattern 20 = .ok (.goto 4, 3) := by decide +kernel
theorem dX3_lacksPattern_23 : decode cX3_lacksPattern 23 = .ok (.iconst 0, 1) := by decide +kernel
theorem dX3_lacksPattern_24 : decode cX3_lacksPattern 24 = .ok (.ireturn, 1) := by decide +kernel
theorem dX3_copy_0 : decode cX3_copy 0 = .ok (.aload_n 0, 1) := by decide +kernel
theorem dX3_copy_1 : decode cX3_copy 1 = .ok (.invokevirtual 92, 3) := by decide +kernel
theorem dX3_copy_4 : decode cX3_copy 4 = .ok (.ifCond .eq 7, 3) := by decide +kernel
theorem dX3_copy_7 : decode cX3_copy 7 = .ok (.iconst (-1), 1) := by decide +kernel
theorem dX3_copy_8 : decode cX3_copy 8 = .ok (.goto 7, 3) := by decide +kernel
theorem dX3_copy_11 : decode cX3_copy 11 = .ok (.aload_n 0, 1) := by decide +kernel
theorem dX3_copy_12 : decode cX3_copy 12 = .ok (.invokevirtual 96, 3) := by decide +kernel
theorem dX3_copy_15 : decode cX3_copy 15 = .ok (.ireturn, 1) := by decide +kernel
theorem dX3_sign_0 : decode cX3_sign 0 = .ok (.iload_n 0, 1) := by decide +kernel
theorem dX3_sign_1 : decode cX3_sign 1 = .ok (.ifCond .le 7, 3) := by decide +kernel
theorem dX3_sign_4 : decode cX3_sign 4 = .ok (.iconst 1, 1) := by decide +kernel
theorem dX3_sign_5 : decode cX3_sign 5 = .ok (.goto 12, 3) := by decide +kernel
theorem dX3_sign_8 : decode cX3_sign 8 = .ok (.iload_n 0, 1) := by decide +kernel
theorem dX3_sign_9 : decode cX3_sign 9 = .ok (.ifCond .ge 7, 3) := by decide +kernel
theorem dX3_sign_12 : decode cX3_sign 12 = .ok (.iconst (-1), 1) := by decide +kernel
theorem dX3_sign_13 : decode cX3_sign 13 = .ok (.goto 4, 3) := by decide +kernel
theorem dX3_sign_16 : decode cX3_sign 16 = .ok (.iconst 0, 1) := by decide +kernel
theorem dX3_sign_17 : decode cX3_sign 17 = .ok (.ireturn, 1) := by decide +kernel
theorem dX3_line_0 : decode cX3_line 0 = .ok (.iload_n 1, 1) := by decide +kernel
theorem dX3_line_1 : decode cX3_line 1 = .ok (.sipush (-2000), 3) := by decide +kernel
theorem dX3_line_4 : decode cX3_line 4 = .ok (.if_icmp .lt 31, 3) := by decide +kernel
theorem dX3_line_7 : decode cX3_line 7 = .ok (.iload_n 1, 1) := by decide +kernel
theorem dX3_line_8 : decode cX3_line 8 = .ok (.sipush 2000, 3) := by decide +kernel
theorem dX3_line_11 : decode cX3_line 11 = .ok (.if_icmp .gt 24, 3) := by decide +kernel
theorem dX3_line_14 : decode cX3_line 14 = .ok (.iload_n 2, 1) := by decide +kernel
theorem dX3_line_15 : decode cX3_line 15 = .ok (.sipush (-2000), 3) := by decide +kernel
theorem dX3_line_18 : decode cX3_line 18 = .ok (.if_icmp .lt 17, 3) := by decide +kernel
theorem dX3_line_21 : decode cX3_line 21 = .ok (.iload_n 2, 1) := by decide +kernel
theorem dX3_line_22 : decode cX3_line 22 = .ok (.sipush 2000, 3) := by decide +kernel
theorem dX3_line_25 : decode cX3_line 25 = .ok (.if_icmp .gt 10, 3) := by decide +kernel
theorem dX3_line_28 : decode cX3_line 28 = .ok (.aload_n 0, 1) := by decide +kernel
theorem dX3_line_29 : decode cX3_line 29 = .ok (.invokevirtual 92, 3) := by decide +kernel
theorem dX3_line_32 : decode cX3_line 32 = .ok (.ifCond .eq 5, 3) := by decide +kernel
theorem dX3_line_35 : decode cX3_line 35 = .ok (.iconst (-1), 1) := by decide +kernel
theorem dX3_line_36 : decode cX3_line 36 = .ok (.ireturn, 1) := by decide +kernel
theorem dX3_line_37 : decode cX3_line 37 = .ok (.aload_n 0, 1) := by decide +kernel
theorem dX3_line_38 : decode cX3_line 38 = .ok (.invokevirtual 96, 3) := by decide +kernel
theorem dX3_line_41 : decode cX3_line 41 = .ok (.istore_n 3, 1) := by decide +kernel
theorem dX3_line_42 : decode cX3_line 42 = .ok (.iload_n 1, 1) := by decide +kernel
theorem dX3_line_43 : decode cX3_line 43 = .ok (.iload_n 1, 1) := by decide +kernel
theorem dX3_line_44 : decode cX3_line 44 = .ok (.invokestatic 100, 3) := by decide +kernel
theorem dX3_line_47 : decode cX3_line 47 = .ok (.imul, 1) := by decide +kernel
theorem dX3_line_48 : decode cX3_line 48 = .ok (.istore 4, 2) := by decide +kernel
theorem dX3_line_50 : decode cX3_line 50 = .ok (.iload_n 2, 1) := by decide +kernel
theorem dX3_line_51 : decode cX3_line 51 = .ok (.iload_n 2, 1) := by decide +kernel
theorem dX3_line_52 : decode cX3_line 52 = .ok (.invokestatic 100, 3) := by decide +kernel
theorem dX3_line_55 : decode cX3_line 55 = .ok (.imul, 1) := by decide +kernel
theorem dX3_line_56 : decode cX3_line 56 = .ok (.istore 5, 2) := by decide +kernel
theorem dX3_line_58 : decode cX3_line 58 = .ok (.iload 4, 2) := by decide +kernel
theorem dX3_line_60 : decode cX3_line 60 = .ok (.iload 5, 2) := by decide +kernel
theorem dX3_line_62 : decode cX3_line 62 = .ok (.if_icmp .le 7, 3) := by decide +kernel
theorem dX3_line_65 : decode cX3_line 65 = .ok (.iconst 1, 1) := by decide +kernel
theorem dX3_line_66 : decode cX3_line 66 = .ok (.goto 4, 3) := by decide +kernel
theorem dX3_line_69 : decode cX3_line 69 = .ok (.iconst 0, 1) := by decide +kernel
theorem dX3_line_70 : decode cX3_line 70 = .ok (.istore 6, 2) := by decide +kernel
theorem dX3_line_72 : decode cX3_line 72 = .ok (.iload 6, 2) := by decide +kernel
theorem dX3_line_74 : decode cX3_line 74 = .ok (.ifCond .eq 8, 3) := by decide +kernel
theorem dX3_line_77 : decode cX3_line 77 = .ok (.iload 4, 2) := by decide +kernel
theorem dX3_line_79 : decode cX3_line 79 = .ok (.goto 5, 3) := by decide +kernel
theorem dX3_line_82 : decode cX3_line 82 = .ok (.iload 5, 2) := by decide +kernel
theorem dX3_line_84 : decode cX3_line 84 = .ok (.istore 7, 2) := by decide +kernel
theorem dX3_line_86 : decode cX3_line 86 = .ok (.iload 6, 2) := by decide +kernel
theorem dX3_line_88 : decode cX3_line 88 = .ok (.ifCond .eq 8, 3) := by decide +kernel
theorem dX3_line_91 : decode cX3_line 91 = .ok (.iload 5, 2) := by decide +kernel
theorem dX3_line_93 : decode cX3_line 93 = .ok (.goto 5, 3) := by decide +kernel
theorem dX3_line_96 : decode cX3_line 96 = .ok (.iload 4, 2) := by decide +kernel
theorem dX3_line_98 : decode cX3_line 98 = .ok (.istore 8, 2) := by decide +kernel
theorem dX3_line_100 : decode cX3_line 100 = .ok (.iload 6, 2) := by decide +kernel
theorem dX3_line_102 : decode cX3_line 102 = .ok (.ifCond .eq 7, 3) := by decide +kernel
theorem dX3_line_105 : decode cX3_line 105 = .ok (.iconst 0, 1) := by decide +kernel
theorem dX3_line_106 : decode cX3_line 106 = .ok (.goto 4, 3) := by decide +kernel
theorem dX3_line_109 : decode cX3_line 109 = .ok (.iconst 1, 1) := by decide +kernel
theorem dX3_line_110 : decode cX3_line 110 = .ok (.istore 9, 2) := by decide +kernel
theorem dX3_line_112 : decode cX3_line 112 = .ok (.iload 6, 2) := by decide +kernel
theorem dX3_line_114 : decode cX3_line 114 = .ok (.ifCond .eq 7, 3) := by decide +kernel
theorem dX3_line_117 : decode cX3_line 117 = .ok (.iload_n 1, 1) := by decide +kernel
theorem dX3_line_118 : decode cX3_line 118 = .ok (.goto 4, 3) := by decide +kernel
theorem dX3_line_121 : decode cX3_line 121 = .ok (.iload_n 2, 1) := by decide +kernel
theorem dX3_line_122 : decode cX3_line 122 = .ok (.invokestatic 100, 3) := by decide +kernel
theorem dX3_line_125 : decode cX3_line 125 = .ok (.istore 10, 2) := by decide +kernel
theorem dX3_line_127 : decode cX3_line 127 = .ok (.iload 6, 2) := by decide +kernel
theorem dX3_line_129 : decode cX3_line 129 = .ok (.ifCond .eq 7, 3) := by decide +kernel
theorem dX3_line_132 : decode cX3_line 132 = .ok (.iload_n 2, 1) := by decide +kernel
theorem dX3_line_133 : decode cX3_line 133 = .ok (.goto 4, 3) := by decide +kernel
theorem dX3_line_136 : decode cX3_line 136 = .ok (.iload_n 1, 1) := by decide +kernel
theorem dX3_line_137 : decode cX3_line 137 = .ok (.invokestatic 100, 3) := by decide +kernel
theorem dX3_line_140 : decode cX3_line 140 = .ok (.istore 11, 2) := by decide +kernel
theorem dX3_line_142 : decode cX3_line 142 = .ok (.iload 7, 2) := by decide +kernel
theorem dX3_line_144 : decode cX3_line 144 = .ok (.iconst 2, 1) := by decide +kernel
theorem dX3_line_145 : decode cX3_line 145 = .ok (.idiv, 1) := by decide +kernel
theorem dX3_line_146 : decode cX3_line 146 = .ok (.istore 12, 2) := by decide +kernel
theorem dX3_line_148 : decode cX3_line 148 = .ok (.iconst 1, 1) := by decide +kernel
theorem dX3_line_149 : decode cX3_line 149 = .ok (.istore 13, 2) := by decide +kernel
theorem dX3_line_151 : decode cX3_line 151 = .ok (.iload 13, 2) := by decide +kernel
theorem dX3_line_153 : decode cX3_line 153 = .ok (.iload 7, 2) := by decide +kernel
theorem dX3_line_155 : decode cX3_line 155 = .ok (.if_icmp .gt 110, 3) := by decide +kernel
theorem dX3_line_158 : decode cX3_line 158 = .ok (.aload_n 0, 1) := by decide +kernel
theorem dX3_line_159 : decode cX3_line 159 = .ok (.getfield 35, 3) := by decide +kernel
theorem dX3_line_162 : decode cX3_line 162 = .ok (.iload 9, 2) := by decide +kernel
theorem dX3_line_164 : decode cX3_line 164 = .ok (.iaload, 1) := by decide +kernel
theorem dX3_line_165 : decode cX3_line 165 = .ok (.iload 10, 2) := by decide +kernel
theorem dX3_line_167 : decode cX3_line 167 = .ok (.iadd, 1) := by decide +kernel
theorem dX3_line_168 : decode cX3_line 168 = .ok (.invokestatic 72, 3) := by decide +kernel
theorem dX3_line_171 : decode cX3_line 171 = .ok (.ifCond .ne 5, 3) := by decide +kernel
theorem dX3_line_174 : decode cX3_line 174 = .ok (.iload_n 3, 1) := by decide +kernel
theorem dX3_line_175 : decode cX3_line 175 = .ok (.ireturn, 1) := by decide +kernel
theorem dX3_line_176 : decode cX3_line 176 = .ok (.aload_n 0, 1) := by decide +kernel
theorem dX3_line_177 : decode cX3_line 177 = .ok (.getfield 35, 3) := by decide +kernel
theorem dX3_line_180 : decode cX3_line 180 = .ok (.iload 9, 2) := by decide +kernel
theorem dX3_line_182 : decode cX3_line 182 = .ok (.dup2, 1) := by decide +kernel
theorem dX3_line_183 : decode cX3_line 183 = .ok (.iaload, 1) := by decide +kernel
theorem dX3_line_184 : decode cX3_line 184 = .ok (.iload 10, 2) := by decide +kernel
theorem dX3_line_186 : decode cX3_line 186 = .ok (.iadd, 1) := by decide +kernel
theorem dX3_line_187 : decode cX3_line 187 = .ok (.iastore, 1) := by decide +kernel
theorem dX3_line_188 : decode cX3_line 188 = .ok (.iload 12, 2) := by decide +kernel
theorem dX3_line_190 : decode cX3_line 190 = .ok (.iload 8, 2) := by decide +kernel
theorem dX3_line_192 : decode cX3_line 192 = .ok (.isub, 1) := by decide +kernel
theorem dX3_line_193 : decode cX3_line 193 = .ok (.istore 12, 2) := by decide +kernel
theorem dX3_line_195 : decode cX3_line 195 = .ok (.iload 12, 2) := by decide +kernel
theorem dX3_line_197 : decode cX3_line 197 = .ok (.ifCond .ge 44, 3) := by decide +kernel
theorem dX3_line_200 : decode cX3_line 200 = .ok (.aload_n 0, 1) := by decide +kernel
theorem dX3_line_201 : decode cX3_line 201 = .ok (.getfield 35, 3) := by decide +kernel
theorem dX3_line_204 : decode cX3_line 204 = .ok (.iconst 1, 1) := by decide +kernel
theorem dX3_line_205 : decode cX3_line 205 = .ok (.iload 9, 2) := by decide +kernel
theorem dX3_line_207 : decode cX3_line 207 = .ok (.isub, 1) := by decide +kernel
theorem dX3_line_208 : decode cX3_line 208 = .ok (.iaload, 1) := by decide +kernel
theorem dX3_line_209 : decode cX3_line 209 = .ok (.iload 11, 2) := by decide +kernel
theorem dX3_line_211 : decode cX3_line 211 = .ok (.iadd, 1) := by decide +kernel
theorem dX3_line_212 : decode cX3_line 212 = .ok (.invokestatic 72, 3) := by decide +kernel
theorem dX3_line_215 : decode cX3_line 215 = .ok (.ifCond .ne 5, 3) := by decide +kernel
theorem dX3_line_218 : decode cX3_line 218 = .ok (.iload_n 3, 1) := by decide +kernel
theorem dX3_line_219 : decode cX3_line 219 = .ok (.ireturn, 1) := by decide +kernel
theorem dX3_line_220 : decode cX3_line 220 = .ok (.aload_n 0, 1) := by decide +kernel
theorem dX3_line_221 : decode cX3_line 221 = .ok (.getfield 35, 3) := by decide +kernel
theorem dX3_line_224 : decode cX3_line 224 = .ok (.iconst 1, 1) := by decide +kernel
theorem dX3_line_225 : decode cX3_line 225 = .ok (.iload 9, 2) := by decide +kernel
theorem dX3_line_227 : decode cX3_line 227 = .ok (.isub, 1) := by decide +kernel
theorem dX3_line_228 : decode cX3_line 228 = .ok (.dup2, 1) := by decide +kernel
theorem dX3_line_229 : decode cX3_line 229 = .ok (.iaload, 1) := by decide +kernel
theorem dX3_line_230 : decode cX3_line 230 = .ok (.iload 11, 2) := by decide +kernel
theorem dX3_line_232 : decode cX3_line 232 = .ok (.iadd, 1) := by decide +kernel
theorem dX3_line_233 : decode cX3_line 233 = .ok (.iastore, 1) := by decide +kernel
theorem dX3_line_234 : decode cX3_line 234 = .ok (.iload 12, 2) := by decide +kernel
theorem dX3_line_236 : decode cX3_line 236 = .ok (.iload 7, 2) := by decide +kernel
theorem dX3_line_238 : decode cX3_line 238 = .ok (.iadd, 1) := by decide +kernel
theorem dX3_line_239 : decode cX3_line 239 = .ok (.istore 12, 2) := by decide +kernel
theorem dX3_line_241 : decode cX3_line 241 = .ok (.iload_n 3, 1) := by decide +kernel
theorem dX3_line_242 : decode cX3_line 242 = .ok (.iload 13, 2) := by decide +kernel
theorem dX3_line_244 : decode cX3_line 244 = .ok (.iload 7, 2) := by decide +kernel
theorem dX3_line_246 : decode cX3_line 246 = .ok (.if_icmp .ge 10, 3) := by decide +kernel
theorem dX3_line_249 : decode cX3_line 249 = .ok (.aload_n 0, 1) := by decide +kernel
theorem dX3_line_250 : decode cX3_line 250 = .ok (.invokevirtual 96, 3) := by decide +kernel
theorem dX3_line_253 : decode cX3_line 253 = .ok (.goto 4, 3) := by decide +kernel
theorem dX3_line_256 : decode cX3_line 256 = .ok (.iconst 0, 1) := by decide +kernel
theorem dX3_line_257 : decode cX3_line 257 = .ok (.iadd, 1) := by decide +kernel
theorem dX3_line_258 : decode cX3_line 258 = .ok (.istore_n 3, 1) := by decide +kernel
theorem dX3_line_259 : decode cX3_line 259 = .ok (.iinc 13 1, 3) := by decide +kernel
theorem dX3_line_262 : decode cX3_line 262 = .ok (.goto (-111), 3) := by decide +kernel
theorem dX3_line_265 : decode cX3_line 265 = .ok (.iload_n 3, 1) := by decide +kernel
theorem dX3_line_266 : decode cX3_line 266 = .ok (.ireturn, 1) := by decide +kernel
