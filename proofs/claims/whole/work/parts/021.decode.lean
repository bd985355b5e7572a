theorem dX0_init_0 : decode cX0_init 0 = .ok (.aload_n 0, 1) := by decide +kernel
theorem dX0_init_1 : decode cX0_init 1 = .ok (.invokespecial 3, 3) := by decide +kernel
theorem dX0_init_4 : decode cX0_init 4 = .ok (.aload_n 0, 1) := by decide +kernel
theorem dX0_init_5 : decode cX0_init 5 = .ok (.bipush 16, 2) := by decide +kernel
theorem dX0_init_7 : decode cX0_init 7 = .ok (.putfield 9, 3) := by decide +kernel
theorem dX0_init_10 : decode cX0_init 10 = .ok (.aload_n 0, 1) := by decide +kernel
theorem dX0_init_11 : decode cX0_init 11 = .ok (.bipush 16, 2) := by decide +kernel
theorem dX0_init_13 : decode cX0_init 13 = .ok (.putfield 15, 3) := by decide +kernel
theorem dX0_init_16 : decode cX0_init 16 = .ok (.aload_n 0, 1) := by decide +kernel
theorem dX0_init_17 : decode cX0_init 17 = .ok (.iconst 1, 1) := by decide +kernel
theorem dX0_init_18 : decode cX0_init 18 = .ok (.putfield 18, 3) := by decide +kernel
theorem dX0_init_21 : decode cX0_init 21 = .ok (.aload_n 0, 1) := by decide +kernel
theorem dX0_init_22 : decode cX0_init 22 = .ok (.bipush 16, 2) := by decide +kernel
theorem dX0_init_24 : decode cX0_init 24 = .ok (.newarray .int, 2) := by decide +kernel
theorem dX0_init_26 : decode cX0_init 26 = .ok (.putfield 21, 3) := by decide +kernel
theorem dX0_init_29 : decode cX0_init 29 = .ok (.return_, 1) := by decide +kernel
theorem dX0_lengthAlong_0 : decode cX0_lengthAlong 0 = .ok (.iload_n 1, 1) := by decide +kernel
theorem dX0_lengthAlong_1 : decode cX0_lengthAlong 1 = .ok (.ifCond .ne 10, 3) := by decide +kernel
theorem dX0_lengthAlong_4 : decode cX0_lengthAlong 4 = .ok (.aload_n 0, 1) := by decide +kernel
theorem dX0_lengthAlong_5 : decode cX0_lengthAlong 5 = .ok (.getfield 9, 3) := by decide +kernel
theorem dX0_lengthAlong_8 : decode cX0_lengthAlong 8 = .ok (.goto 7, 3) := by decide +kernel
theorem dX0_lengthAlong_11 : decode cX0_lengthAlong 11 = .ok (.aload_n 0, 1) := by decide +kernel
theorem dX0_lengthAlong_12 : decode cX0_lengthAlong 12 = .ok (.getfield 15, 3) := by decide +kernel
theorem dX0_lengthAlong_15 : decode cX0_lengthAlong 15 = .ok (.ireturn, 1) := by decide +kernel
theorem dX0_wordCount_0 : decode cX0_wordCount 0 = .ok (.aload_n 0, 1) := by decide +kernel
theorem dX0_wordCount_1 : decode cX0_wordCount 1 = .ok (.getfield 18, 3) := by decide +kernel
theorem dX0_wordCount_4 : decode cX0_wordCount 4 = .ok (.aload_n 0, 1) := by decide +kernel
theorem dX0_wordCount_5 : decode cX0_wordCount 5 = .ok (.getfield 15, 3) := by decide +kernel
theorem dX0_wordCount_8 : decode cX0_wordCount 8 = .ok (.imul, 1) := by decide +kernel
theorem dX0_wordCount_9 : decode cX0_wordCount 9 = .ok (.ireturn, 1) := by decide +kernel
theorem dX0_hasWord_0 : decode cX0_hasWord 0 = .ok (.iload_n 1, 1) := by decide +kernel
theorem dX0_hasWord_1 : decode cX0_hasWord 1 = .ok (.ifCond .lt 15, 3) := by decide +kernel
theorem dX0_hasWord_4 : decode cX0_hasWord 4 = .ok (.iload_n 1, 1) := by decide +kernel
theorem dX0_hasWord_5 : decode cX0_hasWord 5 = .ok (.aload_n 0, 1) := by decide +kernel
theorem dX0_hasWord_6 : decode cX0_hasWord 6 = .ok (.invokevirtual 25, 3) := by decide +kernel
theorem dX0_hasWord_9 : decode cX0_hasWord 9 = .ok (.if_icmp .ge 7, 3) := by decide +kernel
theorem dX0_hasWord_12 : decode cX0_hasWord 12 = .ok (.iconst 1, 1) := by decide +kernel
theorem dX0_hasWord_13 : decode cX0_hasWord 13 = .ok (.goto 4, 3) := by decide +kernel
theorem dX0_hasWord_16 : decode cX0_hasWord 16 = .ok (.iconst 0, 1) := by decide +kernel
theorem dX0_hasWord_17 : decode cX0_hasWord 17 = .ok (.ireturn, 1) := by decide +kernel
theorem dX0_hasBit_0 : decode cX0_hasBit 0 = .ok (.iload_n 1, 1) := by decide +kernel
theorem dX0_hasBit_1 : decode cX0_hasBit 1 = .ok (.ifCond .lt 27, 3) := by decide +kernel
theorem dX0_hasBit_4 : decode cX0_hasBit 4 = .ok (.iload_n 1, 1) := by decide +kernel
theorem dX0_hasBit_5 : decode cX0_hasBit 5 = .ok (.aload_n 0, 1) := by decide +kernel
theorem dX0_hasBit_6 : decode cX0_hasBit 6 = .ok (.getfield 9, 3) := by decide +kernel
theorem dX0_hasBit_9 : decode cX0_hasBit 9 = .ok (.if_icmp .ge 19, 3) := by decide +kernel
theorem dX0_hasBit_12 : decode cX0_hasBit 12 = .ok (.iload_n 2, 1) := by decide +kernel
theorem dX0_hasBit_13 : decode cX0_hasBit 13 = .ok (.ifCond .lt 15, 3) := by decide +kernel
theorem dX0_hasBit_16 : decode cX0_hasBit 16 = .ok (.iload_n 2, 1) := by decide +kernel
theorem dX0_hasBit_17 : decode cX0_hasBit 17 = .ok (.aload_n 0, 1) := by decide +kernel
theorem dX0_hasBit_18 : decode cX0_hasBit 18 = .ok (.getfield 15, 3) := by decide +kernel
theorem dX0_hasBit_21 : decode cX0_hasBit 21 = .ok (.if_icmp .ge 7, 3) := by decide +kernel
theorem dX0_hasBit_24 : decode cX0_hasBit 24 = .ok (.iconst 1, 1) := by decide +kernel
theorem dX0_hasBit_25 : decode cX0_hasBit 25 = .ok (.goto 4, 3) := by decide +kernel
theorem dX0_hasBit_28 : decode cX0_hasBit 28 = .ok (.iconst 0, 1) := by decide +kernel
theorem dX0_hasBit_29 : decode cX0_hasBit 29 = .ok (.ireturn, 1) := by decide +kernel
theorem dX0_becomeBlank_0 : decode cX0_becomeBlank 0 = .ok (.aload_n 0, 1) := by decide +kernel
theorem dX0_becomeBlank_1 : decode cX0_becomeBlank 1 = .ok (.getfield 21, 3) := by decide +kernel
theorem dX0_becomeBlank_4 : decode cX0_becomeBlank 4 = .ok (.arraylength, 1) := by decide +kernel
theorem dX0_becomeBlank_5 : decode cX0_becomeBlank 5 = .ok (.iload_n 3, 1) := by decide +kernel
theorem dX0_becomeBlank_6 : decode cX0_becomeBlank 6 = .ok (.if_icmp .ge 29, 3) := by decide +kernel
theorem dX0_becomeBlank_9 : decode cX0_becomeBlank 9 = .ok (.aload_n 0, 1) := by decide +kernel
theorem dX0_becomeBlank_10 : decode cX0_becomeBlank 10 = .ok (.iload_n 3, 1) := by decide +kernel
theorem dX0_becomeBlank_11 : decode cX0_becomeBlank 11 = .ok (.iconst 2, 1) := by decide +kernel
theorem dX0_becomeBlank_12 : decode cX0_becomeBlank 12 = .ok (.aload_n 0, 1) := by decide +kernel
theorem dX0_becomeBlank_13 : decode cX0_becomeBlank 13 = .ok (.getfield 21, 3) := by decide +kernel
theorem dX0_becomeBlank_16 : decode cX0_becomeBlank 16 = .ok (.arraylength, 1) := by decide +kernel
theorem dX0_becomeBlank_17 : decode cX0_becomeBlank 17 = .ok (.imul, 1) := by decide +kernel
theorem dX0_becomeBlank_18 : decode cX0_becomeBlank 18 = .ok (.invokestatic 29, 3) := by decide +kernel
theorem dX0_becomeBlank_21 : decode cX0_becomeBlank 21 = .ok (.sipush 4000, 3) := by decide +kernel
theorem dX0_becomeBlank_24 : decode cX0_becomeBlank 24 = .ok (.invokestatic 35, 3) := by decide +kernel
theorem dX0_becomeBlank_27 : decode cX0_becomeBlank 27 = .ok (.newarray .int, 2) := by decide +kernel
theorem dX0_becomeBlank_29 : decode cX0_becomeBlank 29 = .ok (.putfield 21, 3) := by decide +kernel
theorem dX0_becomeBlank_32 : decode cX0_becomeBlank 32 = .ok (.goto 11, 3) := by decide +kernel
theorem dX0_becomeBlank_35 : decode cX0_becomeBlank 35 = .ok (.aload_n 0, 1) := by decide +kernel
theorem dX0_becomeBlank_36 : decode cX0_becomeBlank 36 = .ok (.getfield 21, 3) := by decide +kernel
theorem dX0_becomeBlank_39 : decode cX0_becomeBlank 39 = .ok (.iconst 0, 1) := by decide +kernel
theorem dX0_becomeBlank_40 : decode cX0_becomeBlank 40 = .ok (.invokestatic 38, 3) := by decide +kernel
theorem dX0_becomeBlank_43 : decode cX0_becomeBlank 43 = .ok (.aload_n 0, 1) := by decide +kernel
theorem dX0_becomeBlank_44 : decode cX0_becomeBlank 44 = .ok (.iload_n 1, 1) := by decide +kernel
theorem dX0_becomeBlank_45 : decode cX0_becomeBlank 45 = .ok (.putfield 9, 3) := by decide +kernel
theorem dX0_becomeBlank_48 : decode cX0_becomeBlank 48 = .ok (.aload_n 0, 1) := by decide +kernel
theorem dX0_becomeBlank_49 : decode cX0_becomeBlank 49 = .ok (.iload_n 2, 1) := by decide +kernel
theorem dX0_becomeBlank_50 : decode cX0_becomeBlank 50 = .ok (.putfield 15, 3) := by decide +kernel
theorem dX0_becomeBlank_53 : decode cX0_becomeBlank 53 = .ok (.aload_n 0, 1) := by decide +kernel
theorem dX0_becomeBlank_54 : decode cX0_becomeBlank 54 = .ok (.iload_n 1, 1) := by decide +kernel
theorem dX0_becomeBlank_55 : decode cX0_becomeBlank 55 = .ok (.invokestatic 44, 3) := by decide +kernel
theorem dX0_becomeBlank_58 : decode cX0_becomeBlank 58 = .ok (.putfield 18, 3) := by decide +kernel
theorem dX0_becomeBlank_61 : decode cX0_becomeBlank 61 = .ok (.return_, 1) := by decide +kernel
theorem dX0_writeWord_0 : decode cX0_writeWord 0 = .ok (.aload_n 0, 1) := by decide +kernel
theorem dX0_writeWord_1 : decode cX0_writeWord 1 = .ok (.getfield 21, 3) := by decide +kernel
theorem dX0_writeWord_4 : decode cX0_writeWord 4 = .ok (.iload_n 1, 1) := by decide +kernel
theorem dX0_writeWord_5 : decode cX0_writeWord 5 = .ok (.iload_n 2, 1) := by decide +kernel
theorem dX0_writeWord_6 : decode cX0_writeWord 6 = .ok (.iload_n 1, 1) := by decide +kernel
theorem dX0_writeWord_7 : decode cX0_writeWord 7 = .ok (.aload_n 0, 1) := by decide +kernel
theorem dX0_writeWord_8 : decode cX0_writeWord 8 = .ok (.getfield 18, 3) := by decide +kernel
theorem dX0_writeWord_11 : decode cX0_writeWord 11 = .ok (.irem, 1) := by decide +kernel
theorem dX0_writeWord_12 : decode cX0_writeWord 12 = .ok (.iconst 0, 1) := by decide +kernel
theorem dX0_writeWord_13 : decode cX0_writeWord 13 = .ok (.aload_n 0, 1) := by decide +kernel
theorem dX0_writeWord_14 : decode cX0_writeWord 14 = .ok (.getfield 9, 3) := by decide +kernel
theorem dX0_writeWord_17 : decode cX0_writeWord 17 = .ok (.invokestatic 48, 3) := by decide +kernel
theorem dX0_writeWord_20 : decode cX0_writeWord 20 = .ok (.iand, 1) := by decide +kernel
theorem dX0_writeWord_21 : decode cX0_writeWord 21 = .ok (.iastore, 1) := by decide +kernel
theorem dX0_writeWord_22 : decode cX0_writeWord 22 = .ok (.return_, 1) := by decide +kernel
theorem dX0_bitAt_0 : decode cX0_bitAt 0 = .ok (.aload_n 0, 1) := by decide +kernel
theorem dX0_bitAt_1 : decode cX0_bitAt 1 = .ok (.getfield 21, 3) := by decide +kernel
theorem dX0_bitAt_4 : decode cX0_bitAt 4 = .ok (.iload_n 2, 1) := by decide +kernel
theorem dX0_bitAt_5 : decode cX0_bitAt 5 = .ok (.aload_n 0, 1) := by decide +kernel
theorem dX0_bitAt_6 : decode cX0_bitAt 6 = .ok (.getfield 18, 3) := by decide +kernel
theorem dX0_bitAt_9 : decode cX0_bitAt 9 = .ok (.imul, 1) := by decide +kernel
theorem dX0_bitAt_10 : decode cX0_bitAt 10 = .ok (.iload_n 1, 1) := by decide +kernel
theorem dX0_bitAt_11 : decode cX0_bitAt 11 = .ok (.bipush 16, 2) := by decide +kernel
theorem dX0_bitAt_13 : decode cX0_bitAt 13 = .ok (.idiv, 1) := by decide +kernel
theorem dX0_bitAt_14 : decode cX0_bitAt 14 = .ok (.iadd, 1) := by decide +kernel
theorem dX0_bitAt_15 : decode cX0_bitAt 15 = .ok (.iaload, 1) := by decide +kernel
theorem dX0_bitAt_16 : decode cX0_bitAt 16 = .ok (.istore_n 3, 1) := by decide +kernel
theorem dX0_bitAt_17 : decode cX0_bitAt 17 = .ok (.iload_n 3, 1) := by decide +kernel
theorem dX0_bitAt_18 : decode cX0_bitAt 18 = .ok (.bipush 15, 2) := by decide +kernel
theorem dX0_bitAt_20 : decode cX0_bitAt 20 = .ok (.iload_n 1, 1) := by decide +kernel
theorem dX0_bitAt_21 : decode cX0_bitAt 21 = .ok (.bipush 16, 2) := by decide +kernel
theorem dX0_bitAt_23 : decode cX0_bitAt 23 = .ok (.irem, 1) := by decide +kernel
theorem dX0_bitAt_24 : decode cX0_bitAt 24 = .ok (.isub, 1) := by decide +kernel
theorem dX0_bitAt_25 : decode cX0_bitAt 25 = .ok (.iushr, 1) := by decide +kernel
theorem dX0_bitAt_26 : decode cX0_bitAt 26 = .ok (.iconst 1, 1) := by decide +kernel
theorem dX0_bitAt_27 : decode cX0_bitAt 27 = .ok (.iand, 1) := by decide +kernel
theorem dX0_bitAt_28 : decode cX0_bitAt 28 = .ok (.ireturn, 1) := by decide +kernel
theorem dX0_ones_0 : decode cX0_ones 0 = .ok (.iconst 0, 1) := by decide +kernel
theorem dX0_ones_1 : decode cX0_ones 1 = .ok (.istore_n 1, 1) := by decide +kernel
theorem dX0_ones_2 : decode cX0_ones 2 = .ok (.iconst 0, 1) := by decide +kernel
theorem dX0_ones_3 : decode cX0_ones 3 = .ok (.istore_n 2, 1) := by decide +kernel
theorem dX0_ones_4 : decode cX0_ones 4 = .ok (.iload_n 2, 1) := by decide +kernel
theorem dX0_ones_5 : decode cX0_ones 5 = .ok (.aload_n 0, 1) := by decide +kernel
theorem dX0_ones_6 : decode cX0_ones 6 = .ok (.invokevirtual 25, 3) := by decide +kernel
theorem dX0_ones_9 : decode cX0_ones 9 = .ok (.if_icmp .ge 21, 3) := by decide +kernel
theorem dX0_ones_12 : decode cX0_ones 12 = .ok (.iload_n 1, 1) := by decide +kernel
theorem dX0_ones_13 : decode cX0_ones 13 = .ok (.aload_n 0, 1) := by decide +kernel
theorem dX0_ones_14 : decode cX0_ones 14 = .ok (.getfield 21, 3) := by decide +kernel
theorem dX0_ones_17 : decode cX0_ones 17 = .ok (.iload_n 2, 1) := by decide +kernel
theorem dX0_ones_18 : decode cX0_ones 18 = .ok (.iaload, 1) := by decide +kernel
theorem dX0_ones_19 : decode cX0_ones 19 = .ok (.invokestatic 52, 3) := by decide +kernel
theorem dX0_ones_22 : decode cX0_ones 22 = .ok (.iadd, 1) := by decide +kernel
theorem dX0_ones_23 : decode cX0_ones 23 = .ok (.istore_n 1, 1) := by decide +kernel
theorem dX0_ones_24 : decode cX0_ones 24 = .ok (.iinc 2 1, 3) := by decide +kernel
theorem dX0_ones_27 : decode cX0_ones 27 = .ok (.goto (-23), 3) := by decide +kernel
theorem dX0_ones_30 : decode cX0_ones 30 = .ok (.iload_n 1, 1) := by decide +kernel
theorem dX0_ones_31 : decode cX0_ones 31 = .ok (.ireturn, 1) := by decide +kernel
theorem dX0_looksLike_0 : decode cX0_looksLike 0 = .ok (.aload_n 0, 1) := by decide +kernel
theorem dX0_looksLike_1 : decode cX0_looksLike 1 = .ok (.getfield 9, 3) := by decide +kernel
theorem dX0_looksLike_4 : decode cX0_looksLike 4 = .ok (.aload_n 1, 1) := by decide +kernel
theorem dX0_looksLike_5 : decode cX0_looksLike 5 = .ok (.getfield 9, 3) := by decide +kernel
theorem dX0_looksLike_8 : decode cX0_looksLike 8 = .ok (.if_icmp .ne 14, 3) := by decide +kernel
theorem dX0_looksLike_11 : decode cX0_looksLike 11 = .ok (.aload_n 0, 1) := by decide +kernel
theorem dX0_looksLike_12 : decode cX0_looksLike 12 = .ok (.getfield 15, 3) := by decide +kernel
theorem dX0_looksLike_15 : decode cX0_looksLike 15 = .ok (.aload_n 1, 1) := by decide +kernel
theorem dX0_looksLike_16 : decode cX0_looksLike 16 = .ok (.getfield 15, 3) := by decide +kernel
theorem dX0_looksLike_19 : decode cX0_looksLike 19 = .ok (.if_icmp .eq 5, 3) := by decide +kernel
theorem dX0_looksLike_22 : decode cX0_looksLike 22 = .ok (.iconst 0, 1) := by decide +kernel
theorem dX0_looksLike_23 : decode cX0_looksLike 23 = .ok (.ireturn, 1) := by decide +kernel
theorem dX0_looksLike_24 : decode cX0_looksLike 24 = .ok (.iconst 0, 1) := by decide +kernel
theorem dX0_looksLike_25 : decode cX0_looksLike 25 = .ok (.istore_n 2, 1) := by decide +kernel
theorem dX0_looksLike_26 : decode cX0_looksLike 26 = .ok (.iload_n 2, 1) := by decide +kernel
theorem dX0_looksLike_27 : decode cX0_looksLike 27 = .ok (.aload_n 0, 1) := by decide +kernel
theorem dX0_looksLike_28 : decode cX0_looksLike 28 = .ok (.invokevirtual 25, 3) := by decide +kernel
theorem dX0_looksLike_31 : decode cX0_looksLike 31 = .ok (.if_icmp .ge 26, 3) := by decide +kernel
theorem dX0_looksLike_34 : decode cX0_looksLike 34 = .ok (.aload_n 0, 1) := by decide +kernel
theorem dX0_looksLike_35 : decode cX0_looksLike 35 = .ok (.getfield 21, 3) := by decide +kernel
theorem dX0_looksLike_38 : decode cX0_looksLike 38 = .ok (.iload_n 2, 1) := by decide +kernel
theorem dX0_looksLike_39 : decode cX0_looksLike 39 = .ok (.iaload, 1) := by decide +kernel
theorem dX0_looksLike_40 : decode cX0_looksLike 40 = .ok (.aload_n 1, 1) := by decide +kernel
theorem dX0_looksLike_41 : decode cX0_looksLike 41 = .ok (.getfield 21, 3) := by decide +kernel
theorem dX0_looksLike_44 : decode cX0_looksLike 44 = .ok (.iload_n 2, 1) := by decide +kernel
theorem dX0_looksLike_45 : decode cX0_looksLike 45 = .ok (.iaload, 1) := by decide +kernel
theorem dX0_looksLike_46 : decode cX0_looksLike 46 = .ok (.if_icmp .eq 5, 3) := by decide +kernel
theorem dX0_looksLike_49 : decode cX0_looksLike 49 = .ok (.iconst 0, 1) := by decide +kernel
theorem dX0_looksLike_50 : decode cX0_looksLike 50 = .ok (.ireturn, 1) := by decide +kernel
theorem dX0_looksLike_51 : decode cX0_looksLike 51 = .ok (.iinc 2 1, 3) := by decide +kernel
theorem dX0_looksLike_54 : decode cX0_looksLike 54 = .ok (.goto (-28), 3) := by decide +kernel
theorem dX0_looksLike_57 : decode cX0_looksLike 57 = .ok (.iconst 1, 1) := by decide +kernel
theorem dX0_looksLike_58 : decode cX0_looksLike 58 = .ok (.ireturn, 1) := by decide +kernel
theorem dX0_bitsFrom_0 : decode cX0_bitsFrom 0 = .ok (.iload_n 1, 1) := by decide +kernel
theorem dX0_bitsFrom_1 : decode cX0_bitsFrom 1 = .ok (.bipush 16, 2) := by decide +kernel
theorem dX0_bitsFrom_3 : decode cX0_bitsFrom 3 = .ok (.invokestatic 57, 3) := by decide +kernel
theorem dX0_bitsFrom_6 : decode cX0_bitsFrom 6 = .ok (.istore_n 3, 1) := by decide +kernel
theorem dX0_bitsFrom_7 : decode cX0_bitsFrom 7 = .ok (.aload_n 0, 1) := by decide +kernel
theorem dX0_bitsFrom_8 : decode cX0_bitsFrom 8 = .ok (.iload_n 3, 1) := by decide +kernel
theorem dX0_bitsFrom_9 : decode cX0_bitsFrom 9 = .ok (.iload_n 2, 1) := by decide +kernel
theorem dX0_bitsFrom_10 : decode cX0_bitsFrom 10 = .ok (.invokevirtual 60, 3) := by decide +kernel
theorem dX0_bitsFrom_13 : decode cX0_bitsFrom 13 = .ok (.bipush 16, 2) := by decide +kernel
theorem dX0_bitsFrom_15 : decode cX0_bitsFrom 15 = .ok (.ishl, 1) := by decide +kernel
theorem dX0_bitsFrom_16 : decode cX0_bitsFrom 16 = .ok (.aload_n 0, 1) := by decide +kernel
theorem dX0_bitsFrom_17 : decode cX0_bitsFrom 17 = .ok (.iload_n 3, 1) := by decide +kernel
theorem dX0_bitsFrom_18 : decode cX0_bitsFrom 18 = .ok (.iconst 1, 1) := by decide +kernel
theorem dX0_bitsFrom_19 : decode cX0_bitsFrom 19 = .ok (.iadd, 1) := by decide +kernel
theorem dX0_bitsFrom_20 : decode cX0_bitsFrom 20 = .ok (.iload_n 2, 1) := by decide +kernel
theorem dX0_bitsFrom_21 : decode cX0_bitsFrom 21 = .ok (.invokevirtual 60, 3) := by decide +kernel
theorem dX0_bitsFrom_24 : decode cX0_bitsFrom 24 = .ok (.ior, 1) := by decide +kernel
theorem dX0_bitsFrom_25 : decode cX0_bitsFrom 25 = .ok (.istore 4, 2) := by decide +kernel
theorem dX0_bitsFrom_27 : decode cX0_bitsFrom 27 = .ok (.iload 4, 2) := by decide +kernel
theorem dX0_bitsFrom_29 : decode cX0_bitsFrom 29 = .ok (.bipush 16, 2) := by decide +kernel
theorem dX0_bitsFrom_31 : decode cX0_bitsFrom 31 = .ok (.iload_n 1, 1) := by decide +kernel
theorem dX0_bitsFrom_32 : decode cX0_bitsFrom 32 = .ok (.bipush 16, 2) := by decide +kernel
theorem dX0_bitsFrom_34 : decode cX0_bitsFrom 34 = .ok (.invokestatic 63, 3) := by decide +kernel
theorem dX0_bitsFrom_37 : decode cX0_bitsFrom 37 = .ok (.isub, 1) := by decide +kernel
theorem dX0_bitsFrom_38 : decode cX0_bitsFrom 38 = .ok (.iushr, 1) := by decide +kernel
theorem dX0_bitsFrom_39 : decode cX0_bitsFrom 39 = .ok (.ldc 66, 2) := by decide +kernel
theorem dX0_bitsFrom_41 : decode cX0_bitsFrom 41 = .ok (.iand, 1) := by decide +kernel
theorem dX0_bitsFrom_42 : decode cX0_bitsFrom 42 = .ok (.ireturn, 1) := by decide +kernel
theorem dX0_wordInRow_0 : decode cX0_wordInRow 0 = .ok (.iload_n 1, 1) := by decide +kernel
theorem dX0_wordInRow_1 : decode cX0_wordInRow 1 = .ok (.ifCond .lt 39, 3) := by decide +kernel
theorem dX0_wordInRow_4 : decode cX0_wordInRow 4 = .ok (.iload_n 1, 1) := by decide +kernel
theorem dX0_wordInRow_5 : decode cX0_wordInRow 5 = .ok (.aload_n 0, 1) := by decide +kernel
theorem dX0_wordInRow_6 : decode cX0_wordInRow 6 = .ok (.getfield 18, 3) := by decide +kernel
theorem dX0_wordInRow_9 : decode cX0_wordInRow 9 = .ok (.if_icmp .ge 31, 3) := by decide +kernel
theorem dX0_wordInRow_12 : decode cX0_wordInRow 12 = .ok (.iload_n 2, 1) := by decide +kernel
theorem dX0_wordInRow_13 : decode cX0_wordInRow 13 = .ok (.ifCond .lt 27, 3) := by decide +kernel
theorem dX0_wordInRow_16 : decode cX0_wordInRow 16 = .ok (.iload_n 2, 1) := by decide +kernel
theorem dX0_wordInRow_17 : decode cX0_wordInRow 17 = .ok (.aload_n 0, 1) := by decide +kernel
theorem dX0_wordInRow_18 : decode cX0_wordInRow 18 = .ok (.getfield 15, 3) := by decide +kernel
theorem dX0_wordInRow_21 : decode cX0_wordInRow 21 = .ok (.if_icmp .ge 19, 3) := by decide +kernel
theorem dX0_wordInRow_24 : decode cX0_wordInRow 24 = .ok (.aload_n 0, 1) := by decide +kernel
theorem dX0_wordInRow_25 : decode cX0_wordInRow 25 = .ok (.getfield 21, 3) := by decide +kernel
theorem dX0_wordInRow_28 : decode cX0_wordInRow 28 = .ok (.iload_n 2, 1) := by decide +kernel
theorem dX0_wordInRow_29 : decode cX0_wordInRow 29 = .ok (.aload_n 0, 1) := by decide +kernel
theorem dX0_wordInRow_30 : decode cX0_wordInRow 30 = .ok (.getfield 18, 3) := by decide +kernel
theorem dX0_wordInRow_33 : decode cX0_wordInRow 33 = .ok (.imul, 1) := by decide +kernel
theorem dX0_wordInRow_34 : decode cX0_wordInRow 34 = .ok (.iload_n 1, 1) := by decide +kernel
theorem dX0_wordInRow_35 : decode cX0_wordInRow 35 = .ok (.iadd, 1) := by decide +kernel
theorem dX0_wordInRow_36 : decode cX0_wordInRow 36 = .ok (.iaload, 1) := by decide +kernel
theorem dX0_wordInRow_37 : decode cX0_wordInRow 37 = .ok (.goto 4, 3) := by decide +kernel
theorem dX0_wordInRow_40 : decode cX0_wordInRow 40 = .ok (.iconst 0, 1) := by decide +kernel
theorem dX0_wordInRow_41 : decode cX0_wordInRow 41 = .ok (.ireturn, 1) := by decide +kernel
theorem dX1_init_0 : decode cX1_init 0 = .ok (.aload_n 0, 1) := by decide +kernel
theorem dX1_init_1 : decode cX1_init 1 = .ok (.invokespecial 1, 3) := by decide +kernel
theorem dX1_init_4 : decode cX1_init 4 = .ok (.return_, 1) := by decide +kernel
theorem dX1_begin_0 : decode cX1_begin 0 = .ok (.aload_n 0, 1) := by decide +kernel
theorem dX1_begin_1 : decode cX1_begin 1 = .ok (.iload_n 1, 1) := by decide +kernel
theorem dX1_begin_2 : decode cX1_begin 2 = .ok (.putfield 7, 3) := by decide +kernel
theorem dX1_begin_5 : decode cX1_begin 5 = .ok (.aload_n 0, 1) := by decide +kernel
theorem dX1_begin_6 : decode cX1_begin 6 = .ok (.iload_n 1, 1) := by decide +kernel
theorem dX1_begin_7 : decode cX1_begin 7 = .ok (.iload_n 2, 1) := by decide +kernel
theorem dX1_begin_8 : decode cX1_begin 8 = .ok (.iadd, 1) := by decide +kernel
theorem dX1_begin_9 : decode cX1_begin 9 = .ok (.putfield 13, 3) := by decide +kernel
theorem dX1_begin_12 : decode cX1_begin 12 = .ok (.aload_n 0, 1) := by decide +kernel
theorem dX1_begin_13 : decode cX1_begin 13 = .ok (.iload_n 3, 1) := by decide +kernel
theorem dX1_begin_14 : decode cX1_begin 14 = .ok (.iload_n 1, 1) := by decide +kernel
theorem dX1_begin_15 : decode cX1_begin 15 = .ok (.isub, 1) := by decide +kernel
theorem dX1_begin_16 : decode cX1_begin 16 = .ok (.putfield 16, 3) := by decide +kernel
theorem dX1_begin_19 : decode cX1_begin 19 = .ok (.return_, 1) := by decide +kernel
theorem dX1_narrow_0 : decode cX1_narrow 0 = .ok (.aload_n 0, 1) := by decide +kernel
theorem dX1_narrow_1 : decode cX1_narrow 1 = .ok (.aload_n 0, 1) := by decide +kernel
theorem dX1_narrow_2 : decode cX1_narrow 2 = .ok (.getfield 7, 3) := by decide +kernel
theorem dX1_narrow_5 : decode cX1_narrow 5 = .ok (.iload_n 1, 1) := by decide +kernel
theorem dX1_narrow_6 : decode cX1_narrow 6 = .ok (.invokestatic 19, 3) := by decide +kernel
theorem dX1_narrow_9 : decode cX1_narrow 9 = .ok (.putfield 7, 3) := by decide +kernel
theorem dX1_narrow_12 : decode cX1_narrow 12 = .ok (.aload_n 0, 1) := by decide +kernel
theorem dX1_narrow_13 : decode cX1_narrow 13 = .ok (.aload_n 0, 1) := by decide +kernel
theorem dX1_narrow_14 : decode cX1_narrow 14 = .ok (.getfield 13, 3) := by decide +kernel
theorem dX1_narrow_17 : decode cX1_narrow 17 = .ok (.iload_n 1, 1) := by decide +kernel
theorem dX1_narrow_18 : decode cX1_narrow 18 = .ok (.iload_n 2, 1) := by decide +kernel
theorem dX1_narrow_19 : decode cX1_narrow 19 = .ok (.iadd, 1) := by decide +kernel
theorem dX1_narrow_20 : decode cX1_narrow 20 = .ok (.invokestatic 25, 3) := by decide +kernel
theorem dX1_narrow_23 : decode cX1_narrow 23 = .ok (.putfield 13, 3) := by decide +kernel
theorem dX1_narrow_26 : decode cX1_narrow 26 = .ok (.return_, 1) := by decide +kernel
theorem dX1_length_0 : decode cX1_length 0 = .ok (.aload_n 0, 1) := by decide +kernel
theorem dX1_length_1 : decode cX1_length 1 = .ok (.getfield 13, 3) := by decide +kernel
theorem dX1_length_4 : decode cX1_length 4 = .ok (.aload_n 0, 1) := by decide +kernel
theorem dX1_length_5 : decode cX1_length 5 = .ok (.getfield 7, 3) := by decide +kernel
theorem dX1_length_8 : decode cX1_length 8 = .ok (.isub, 1) := by decide +kernel
theorem dX1_length_9 : decode cX1_length 9 = .ok (.iconst 0, 1) := by decide +kernel
theorem dX1_length_10 : decode cX1_length 10 = .ok (.invokestatic 19, 3) := by decide +kernel
theorem dX1_length_13 : decode cX1_length 13 = .ok (.ireturn, 1) := by decide +kernel
theorem dJ6_bitCount_0 : decode cJ6_bitCount 0 = .ok (.iload_n 0, 1) := by decide +kernel
theorem dJ6_bitCount_1 : decode cJ6_bitCount 1 = .ok (.iload_n 0, 1) := by decide +kernel
theorem dJ6_bitCount_2 : decode cJ6_bitCount 2 = .ok (.iconst 1, 1) := by decide +kernel
theorem dJ6_bitCount_3 : decode cJ6_bitCount 3 = .ok (.iushr, 1) := by decide +kernel
theorem dJ6_bitCount_4 : decode cJ6_bitCount 4 = .ok (.ldc_w 265, 3) := by decide +kernel
theorem dJ6_bitCount_7 : decode cJ6_bitCount 7 = .ok (.iand, 1) := by decide +kernel
theorem dJ6_bitCount_8 : decode cJ6_bitCount 8 = .ok (.isub, 1) := by decide +kernel
theorem dJ6_bitCount_9 : decode cJ6_bitCount 9 = .ok (.istore_n 0, 1) := by decide +kernel
theorem dJ6_bitCount_10 : decode cJ6_bitCount 10 = .ok (.iload_n 0, 1) := by decide +kernel
theorem dJ6_bitCount_11 : decode cJ6_bitCount 11 = .ok (.ldc_w 266, 3) := by decide +kernel
theorem dJ6_bitCount_14 : decode cJ6_bitCount 14 = .ok (.iand, 1) := by decide +kernel
theorem dJ6_bitCount_15 : decode cJ6_bitCount 15 = .ok (.iload_n 0, 1) := by decide +kernel
theorem dJ6_bitCount_16 : decode cJ6_bitCount 16 = .ok (.iconst 2, 1) := by decide +kernel
theorem dJ6_bitCount_17 : decode cJ6_bitCount 17 = .ok (.iushr, 1) := by decide +kernel
theorem dJ6_bitCount_18 : decode cJ6_bitCount 18 = .ok (.ldc_w 266, 3) := by decide +kernel
theorem dJ6_bitCount_21 : decode cJ6_bitCount 21 = .ok (.iand, 1) := by decide +kernel
theorem dJ6_bitCount_22 : decode cJ6_bitCount 22 = .ok (.iadd, 1) := by decide +kernel
theorem dJ6_bitCount_23 : decode cJ6_bitCount 23 = .ok (.istore_n 0, 1) := by decide +kernel
theorem dJ6_bitCount_24 : decode cJ6_bitCount 24 = .ok (.iload_n 0, 1) := by decide +kernel
theorem dJ6_bitCount_25 : decode cJ6_bitCount 25 = .ok (.iload_n 0, 1) := by decide +kernel
theorem dJ6_bitCount_26 : decode cJ6_bitCount 26 = .ok (.iconst 4, 1) := by decide +kernel
theorem dJ6_bitCount_27 : decode cJ6_bitCount 27 = .ok (.iushr, 1) := by decide +kernel
theorem dJ6_bitCount_28 : decode cJ6_bitCount 28 = .ok (.iadd, 1) := by decide +kernel
theorem dJ6_bitCount_29 : decode cJ6_bitCount 29 = .ok (.ldc_w 267, 3) := by decide +kernel
theorem dJ6_bitCount_32 : decode cJ6_bitCount 32 = .ok (.iand, 1) := by decide +kernel
theorem dJ6_bitCount_33 : decode cJ6_bitCount 33 = .ok (.istore_n 0, 1) := by decide +kernel
theorem dJ6_bitCount_34 : decode cJ6_bitCount 34 = .ok (.iload_n 0, 1) := by decide +kernel
theorem dJ6_bitCount_35 : decode cJ6_bitCount 35 = .ok (.iload_n 0, 1) := by decide +kernel
theorem dJ6_bitCount_36 : decode cJ6_bitCount 36 = .ok (.bipush 8, 2) := by decide +kernel
theorem dJ6_bitCount_38 : decode cJ6_bitCount 38 = .ok (.iushr, 1) := by decide +kernel
theorem dJ6_bitCount_39 : decode cJ6_bitCount 39 = .ok (.iadd, 1) := by decide +kernel
theorem dJ6_bitCount_40 : decode cJ6_bitCount 40 = .ok (.istore_n 0, 1) := by decide +kernel
theorem dJ6_bitCount_41 : decode cJ6_bitCount 41 = .ok (.iload_n 0, 1) := by decide +kernel
theorem dJ6_bitCount_42 : decode cJ6_bitCount 42 = .ok (.iload_n 0, 1) := by decide +kernel
theorem dJ6_bitCount_43 : decode cJ6_bitCount 43 = .ok (.bipush 16, 2) := by decide +kernel
theorem dJ6_bitCount_45 : decode cJ6_bitCount 45 = .ok (.iushr, 1) := by decide +kernel
theorem dJ6_bitCount_46 : decode cJ6_bitCount 46 = .ok (.iadd, 1) := by decide +kernel
theorem dJ6_bitCount_47 : decode cJ6_bitCount 47 = .ok (.istore_n 0, 1) := by decide +kernel
theorem dJ6_bitCount_48 : decode cJ6_bitCount 48 = .ok (.iload_n 0, 1) := by decide +kernel
theorem dJ6_bitCount_49 : decode cJ6_bitCount 49 = .ok (.bipush 63, 2) := by decide +kernel
theorem dJ6_bitCount_51 : decode cJ6_bitCount 51 = .ok (.iand, 1) := by decide +kernel
theorem dJ6_bitCount_52 : decode cJ6_bitCount 52 = .ok (.ireturn, 1) := by decide +kernel
theorem dJ9_floorDiv_0 : decode cJ9_floorDiv 0 = .ok (.iload_n 0, 1) := by decide +kernel
theorem dJ9_floorDiv_1 : decode cJ9_floorDiv 1 = .ok (.iload_n 1, 1) := by decide +kernel
theorem dJ9_floorDiv_2 : decode cJ9_floorDiv 2 = .ok (.idiv, 1) := by decide +kernel
theorem dJ9_floorDiv_3 : decode cJ9_floorDiv 3 = .ok (.istore_n 2, 1) := by decide +kernel
theorem dJ9_floorDiv_4 : decode cJ9_floorDiv 4 = .ok (.iload_n 0, 1) := by decide +kernel
theorem dJ9_floorDiv_5 : decode cJ9_floorDiv 5 = .ok (.iload_n 1, 1) := by decide +kernel
theorem dJ9_floorDiv_6 : decode cJ9_floorDiv 6 = .ok (.ixor, 1) := by decide +kernel
theorem dJ9_floorDiv_7 : decode cJ9_floorDiv 7 = .ok (.ifCond .ge 14, 3) := by decide +kernel
theorem dJ9_floorDiv_10 : decode cJ9_floorDiv 10 = .ok (.iload_n 2, 1) := by decide +kernel
theorem dJ9_floorDiv_11 : decode cJ9_floorDiv 11 = .ok (.iload_n 1, 1) := by decide +kernel
theorem dJ9_floorDiv_12 : decode cJ9_floorDiv 12 = .ok (.imul, 1) := by decide +kernel
theorem dJ9_floorDiv_13 : decode cJ9_floorDiv 13 = .ok (.iload_n 0, 1) := by decide +kernel
theorem dJ9_floorDiv_14 : decode cJ9_floorDiv 14 = .ok (.if_icmp .eq 7, 3) := by decide +kernel
theorem dJ9_floorDiv_17 : decode cJ9_floorDiv 17 = .ok (.iload_n 2, 1) := by decide +kernel
theorem dJ9_floorDiv_18 : decode cJ9_floorDiv 18 = .ok (.iconst 1, 1) := by decide +kernel
theorem dJ9_floorDiv_19 : decode cJ9_floorDiv 19 = .ok (.isub, 1) := by decide +kernel
theorem dJ9_floorDiv_20 : decode cJ9_floorDiv 20 = .ok (.ireturn, 1) := by decide +kernel
theorem dJ9_floorDiv_21 : decode cJ9_floorDiv 21 = .ok (.iload_n 2, 1) := by decide +kernel
theorem dJ9_floorDiv_22 : decode cJ9_floorDiv 22 = .ok (.ireturn, 1) := by decide +kernel
theorem dJ9_floorMod_0 : decode cJ9_floorMod 0 = .ok (.iload_n 0, 1) := by decide +kernel
theorem dJ9_floorMod_1 : decode cJ9_floorMod 1 = .ok (.iload_n 1, 1) := by decide +kernel
theorem dJ9_floorMod_2 : decode cJ9_floorMod 2 = .ok (.irem, 1) := by decide +kernel
theorem dJ9_floorMod_3 : decode cJ9_floorMod 3 = .ok (.istore_n 2, 1) := by decide +kernel
theorem dJ9_floorMod_4 : decode cJ9_floorMod 4 = .ok (.iload_n 0, 1) := by decide +kernel
theorem dJ9_floorMod_5 : decode cJ9_floorMod 5 = .ok (.iload_n 1, 1) := by decide +kernel
theorem dJ9_floorMod_6 : decode cJ9_floorMod 6 = .ok (.ixor, 1) := by decide +kernel
theorem dJ9_floorMod_7 : decode cJ9_floorMod 7 = .ok (.ifCond .ge 11, 3) := by decide +kernel
theorem dJ9_floorMod_10 : decode cJ9_floorMod 10 = .ok (.iload_n 2, 1) := by decide +kernel
theorem dJ9_floorMod_11 : decode cJ9_floorMod 11 = .ok (.ifCond .eq 7, 3) := by decide +kernel
theorem dJ9_floorMod_14 : decode cJ9_floorMod 14 = .ok (.iload_n 2, 1) := by decide +kernel
theorem dJ9_floorMod_15 : decode cJ9_floorMod 15 = .ok (.iload_n 1, 1) := by decide +kernel
theorem dJ9_floorMod_16 : decode cJ9_floorMod 16 = .ok (.iadd, 1) := by decide +kernel
theorem dJ9_floorMod_17 : decode cJ9_floorMod 17 = .ok (.ireturn, 1) := by decide +kernel
theorem dJ9_floorMod_18 : decode cJ9_floorMod 18 = .ok (.iload_n 2, 1) := by decide +kernel
theorem dJ9_floorMod_19 : decode cJ9_floorMod 19 = .ok (.ireturn, 1) := by decide +kernel
theorem dJ7_fill_0 : decode cJ7_fill 0 = .ok (.iconst 0, 1) := by decide +kernel
theorem dJ7_fill_1 : decode cJ7_fill 1 = .ok (.istore_n 2, 1) := by decide +kernel
theorem dJ7_fill_2 : decode cJ7_fill 2 = .ok (.aload_n 0, 1) := by decide +kernel
theorem dJ7_fill_3 : decode cJ7_fill 3 = .ok (.arraylength, 1) := by decide +kernel
theorem dJ7_fill_4 : decode cJ7_fill 4 = .ok (.istore_n 3, 1) := by decide +kernel
theorem dJ7_fill_5 : decode cJ7_fill 5 = .ok (.iload_n 2, 1) := by decide +kernel
theorem dJ7_fill_6 : decode cJ7_fill 6 = .ok (.iload_n 3, 1) := by decide +kernel
theorem dJ7_fill_7 : decode cJ7_fill 7 = .ok (.if_icmp .ge 13, 3) := by decide +kernel
theorem dJ7_fill_10 : decode cJ7_fill 10 = .ok (.aload_n 0, 1) := by decide +kernel
theorem dJ7_fill_11 : decode cJ7_fill 11 = .ok (.iload_n 2, 1) := by decide +kernel
theorem dJ7_fill_12 : decode cJ7_fill 12 = .ok (.iload_n 1, 1) := by decide +kernel
theorem dJ7_fill_13 : decode cJ7_fill 13 = .ok (.iastore, 1) := by decide +kernel
theorem dJ7_fill_14 : decode cJ7_fill 14 = .ok (.iinc 2 1, 3) := by decide +kernel
theorem dJ7_fill_17 : decode cJ7_fill 17 = .ok (.goto (-12), 3) := by decide +kernel
theorem dJ7_fill_20 : decode cJ7_fill 20 = .ok (.return_, 1) := by decide +kernel
