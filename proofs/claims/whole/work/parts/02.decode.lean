theorem dX0_init_0 : decode cX0_init 0 = .ok (.aload_n 0, 1) := by decide +kernel
theorem dX0_init_1 : decode cX0_init 1 = .ok (.invokespecial 3, 3) := by decide +kernel
theorem dX0_init_4 : decode cX0_init 4 = .ok (.aload_n 0, 1) := by decide +kernel
theorem dX0_init_5 : decode cX0_init 5 = .ok (.bipush 48, 2) := by decide +kernel
theorem dX0_init_7 : decode cX0_init 7 = .ok (.newarray .int, 2) := by decide +kernel
theorem dX0_init_9 : decode cX0_init 9 = .ok (.putfield 9, 3) := by decide +kernel
theorem dX0_init_12 : decode cX0_init 12 = .ok (.aload_n 0, 1) := by decide +kernel
theorem dX0_init_13 : decode cX0_init 13 = .ok (.bipush 48, 2) := by decide +kernel
theorem dX0_init_15 : decode cX0_init 15 = .ok (.newarray .long, 2) := by decide +kernel
theorem dX0_init_17 : decode cX0_init 17 = .ok (.putfield 15, 3) := by decide +kernel
theorem dX0_init_20 : decode cX0_init 20 = .ok (.aload_n 0, 1) := by decide +kernel
theorem dX0_init_21 : decode cX0_init 21 = .ok (.bipush 48, 2) := by decide +kernel
theorem dX0_init_23 : decode cX0_init 23 = .ok (.newarray .int, 2) := by decide +kernel
theorem dX0_init_25 : decode cX0_init 25 = .ok (.putfield 19, 3) := by decide +kernel
theorem dX0_init_28 : decode cX0_init 28 = .ok (.aload_n 0, 1) := by decide +kernel
theorem dX0_init_29 : decode cX0_init 29 = .ok (.iconst 0, 1) := by decide +kernel
theorem dX0_init_30 : decode cX0_init 30 = .ok (.putfield 22, 3) := by decide +kernel
theorem dX0_init_33 : decode cX0_init 33 = .ok (.return_, 1) := by decide +kernel
theorem dX0_clear_0 : decode cX0_clear 0 = .ok (.aload_n 0, 1) := by decide +kernel
theorem dX0_clear_1 : decode cX0_clear 1 = .ok (.iconst 0, 1) := by decide +kernel
theorem dX0_clear_2 : decode cX0_clear 2 = .ok (.putfield 22, 3) := by decide +kernel
theorem dX0_clear_5 : decode cX0_clear 5 = .ok (.return_, 1) := by decide +kernel
theorem dX0_add_0 : decode cX0_add 0 = .ok (.aload_n 0, 1) := by decide +kernel
theorem dX0_add_1 : decode cX0_add 1 = .ok (.getfield 22, 3) := by decide +kernel
theorem dX0_add_4 : decode cX0_add 4 = .ok (.ifCond .lt 59, 3) := by decide +kernel
theorem dX0_add_7 : decode cX0_add 7 = .ok (.aload_n 0, 1) := by decide +kernel
theorem dX0_add_8 : decode cX0_add 8 = .ok (.getfield 22, 3) := by decide +kernel
theorem dX0_add_11 : decode cX0_add 11 = .ok (.bipush 48, 2) := by decide +kernel
theorem dX0_add_13 : decode cX0_add 13 = .ok (.if_icmp .ge 50, 3) := by decide +kernel
theorem dX0_add_16 : decode cX0_add 16 = .ok (.aload_n 0, 1) := by decide +kernel
theorem dX0_add_17 : decode cX0_add 17 = .ok (.getfield 9, 3) := by decide +kernel
theorem dX0_add_20 : decode cX0_add 20 = .ok (.aload_n 0, 1) := by decide +kernel
theorem dX0_add_21 : decode cX0_add 21 = .ok (.getfield 22, 3) := by decide +kernel
theorem dX0_add_24 : decode cX0_add 24 = .ok (.iload_n 1, 1) := by decide +kernel
theorem dX0_add_25 : decode cX0_add 25 = .ok (.invokestatic 26, 3) := by decide +kernel
theorem dX0_add_28 : decode cX0_add 28 = .ok (.aload_n 0, 1) := by decide +kernel
theorem dX0_add_29 : decode cX0_add 29 = .ok (.getfield 15, 3) := by decide +kernel
theorem dX0_add_32 : decode cX0_add 32 = .ok (.aload_n 0, 1) := by decide +kernel
theorem dX0_add_33 : decode cX0_add 33 = .ok (.getfield 22, 3) := by decide +kernel
theorem dX0_add_36 : decode cX0_add 36 = .ok (.lload_n 2, 1) := by decide +kernel
theorem dX0_add_37 : decode cX0_add 37 = .ok (.invokestatic 30, 3) := by decide +kernel
theorem dX0_add_40 : decode cX0_add 40 = .ok (.aload_n 0, 1) := by decide +kernel
theorem dX0_add_41 : decode cX0_add 41 = .ok (.getfield 19, 3) := by decide +kernel
theorem dX0_add_44 : decode cX0_add 44 = .ok (.aload_n 0, 1) := by decide +kernel
theorem dX0_add_45 : decode cX0_add 45 = .ok (.getfield 22, 3) := by decide +kernel
theorem dX0_add_48 : decode cX0_add 48 = .ok (.iload 4, 2) := by decide +kernel
theorem dX0_add_50 : decode cX0_add 50 = .ok (.invokestatic 26, 3) := by decide +kernel
theorem dX0_add_53 : decode cX0_add 53 = .ok (.aload_n 0, 1) := by decide +kernel
theorem dX0_add_54 : decode cX0_add 54 = .ok (.dup, 1) := by decide +kernel
theorem dX0_add_55 : decode cX0_add 55 = .ok (.getfield 22, 3) := by decide +kernel
theorem dX0_add_58 : decode cX0_add 58 = .ok (.iconst 1, 1) := by decide +kernel
theorem dX0_add_59 : decode cX0_add 59 = .ok (.iadd, 1) := by decide +kernel
theorem dX0_add_60 : decode cX0_add 60 = .ok (.putfield 22, 3) := by decide +kernel
theorem dX0_add_63 : decode cX0_add 63 = .ok (.return_, 1) := by decide +kernel
theorem dX0_skipToHere_0 : decode cX0_skipToHere 0 = .ok (.aload_n 0, 1) := by decide +kernel
theorem dX0_skipToHere_1 : decode cX0_skipToHere 1 = .ok (.getfield 15, 3) := by decide +kernel
theorem dX0_skipToHere_4 : decode cX0_skipToHere 4 = .ok (.iload_n 1, 1) := by decide +kernel
theorem dX0_skipToHere_5 : decode cX0_skipToHere 5 = .ok (.aload_n 0, 1) := by decide +kernel
theorem dX0_skipToHere_6 : decode cX0_skipToHere 6 = .ok (.getfield 22, 3) := by decide +kernel
theorem dX0_skipToHere_9 : decode cX0_skipToHere 9 = .ok (.iload_n 1, 1) := by decide +kernel
theorem dX0_skipToHere_10 : decode cX0_skipToHere 10 = .ok (.isub, 1) := by decide +kernel
theorem dX0_skipToHere_11 : decode cX0_skipToHere 11 = .ok (.iconst 1, 1) := by decide +kernel
theorem dX0_skipToHere_12 : decode cX0_skipToHere 12 = .ok (.isub, 1) := by decide +kernel
theorem dX0_skipToHere_13 : decode cX0_skipToHere 13 = .ok (.i2l, 1) := by decide +kernel
theorem dX0_skipToHere_14 : decode cX0_skipToHere 14 = .ok (.invokestatic 30, 3) := by decide +kernel
theorem dX0_skipToHere_17 : decode cX0_skipToHere 17 = .ok (.return_, 1) := by decide +kernel
theorem dX0_stepAt_0 : decode cX0_stepAt 0 = .ok (.aload_n 0, 1) := by decide +kernel
theorem dX0_stepAt_1 : decode cX0_stepAt 1 = .ok (.getfield 9, 3) := by decide +kernel
theorem dX0_stepAt_4 : decode cX0_stepAt 4 = .ok (.iload_n 1, 1) := by decide +kernel
theorem dX0_stepAt_5 : decode cX0_stepAt 5 = .ok (.invokestatic 33, 3) := by decide +kernel
theorem dX0_stepAt_8 : decode cX0_stepAt 8 = .ok (.ireturn, 1) := by decide +kernel
theorem dX0_withAt_0 : decode cX0_withAt 0 = .ok (.aload_n 0, 1) := by decide +kernel
theorem dX0_withAt_1 : decode cX0_withAt 1 = .ok (.getfield 15, 3) := by decide +kernel
theorem dX0_withAt_4 : decode cX0_withAt 4 = .ok (.iload_n 1, 1) := by decide +kernel
theorem dX0_withAt_5 : decode cX0_withAt 5 = .ok (.invokestatic 37, 3) := by decide +kernel
theorem dX0_withAt_8 : decode cX0_withAt 8 = .ok (.lreturn, 1) := by decide +kernel
theorem dX0_skipAt_0 : decode cX0_skipAt 0 = .ok (.lconst 0, 1) := by decide +kernel
theorem dX0_skipAt_1 : decode cX0_skipAt 1 = .ok (.ldc2_w 40, 3) := by decide +kernel
theorem dX0_skipAt_4 : decode cX0_skipAt 4 = .ok (.aload_n 0, 1) := by decide +kernel
theorem dX0_skipAt_5 : decode cX0_skipAt 5 = .ok (.getfield 15, 3) := by decide +kernel
theorem dX0_skipAt_8 : decode cX0_skipAt 8 = .ok (.iload_n 1, 1) := by decide +kernel
theorem dX0_skipAt_9 : decode cX0_skipAt 9 = .ok (.invokestatic 37, 3) := by decide +kernel
theorem dX0_skipAt_12 : decode cX0_skipAt 12 = .ok (.invokestatic 42, 3) := by decide +kernel
theorem dX0_skipAt_15 : decode cX0_skipAt 15 = .ok (.invokestatic 48, 3) := by decide +kernel
theorem dX0_skipAt_18 : decode cX0_skipAt 18 = .ok (.l2i, 1) := by decide +kernel
theorem dX0_skipAt_19 : decode cX0_skipAt 19 = .ok (.ireturn, 1) := by decide +kernel
theorem dX0_isNameAt_0 : decode cX0_isNameAt 0 = .ok (.aload_n 0, 1) := by decide +kernel
theorem dX0_isNameAt_1 : decode cX0_isNameAt 1 = .ok (.getfield 9, 3) := by decide +kernel
theorem dX0_isNameAt_4 : decode cX0_isNameAt 4 = .ok (.iload_n 1, 1) := by decide +kernel
theorem dX0_isNameAt_5 : decode cX0_isNameAt 5 = .ok (.invokestatic 33, 3) := by decide +kernel
theorem dX0_isNameAt_8 : decode cX0_isNameAt 8 = .ok (.istore_n 2, 1) := by decide +kernel
theorem dX0_isNameAt_9 : decode cX0_isNameAt 9 = .ok (.iload_n 2, 1) := by decide +kernel
theorem dX0_isNameAt_10 : decode cX0_isNameAt 10 = .ok (.iconst 3, 1) := by decide +kernel
theorem dX0_isNameAt_11 : decode cX0_isNameAt 11 = .ok (.if_icmp .eq 8, 3) := by decide +kernel
theorem dX0_isNameAt_14 : decode cX0_isNameAt 14 = .ok (.iload_n 2, 1) := by decide +kernel
theorem dX0_isNameAt_15 : decode cX0_isNameAt 15 = .ok (.iconst 2, 1) := by decide +kernel
theorem dX0_isNameAt_16 : decode cX0_isNameAt 16 = .ok (.if_icmp .ne 7, 3) := by decide +kernel
theorem dX0_isNameAt_19 : decode cX0_isNameAt 19 = .ok (.iconst 1, 1) := by decide +kernel
theorem dX0_isNameAt_20 : decode cX0_isNameAt 20 = .ok (.goto 4, 3) := by decide +kernel
theorem dX0_isNameAt_23 : decode cX0_isNameAt 23 = .ok (.iconst 0, 1) := by decide +kernel
theorem dX0_isNameAt_24 : decode cX0_isNameAt 24 = .ok (.ireturn, 1) := by decide +kernel
theorem dX0_placeAt_0 : decode cX0_placeAt 0 = .ok (.aload_n 0, 1) := by decide +kernel
theorem dX0_placeAt_1 : decode cX0_placeAt 1 = .ok (.getfield 19, 3) := by decide +kernel
theorem dX0_placeAt_4 : decode cX0_placeAt 4 = .ok (.iload_n 1, 1) := by decide +kernel
theorem dX0_placeAt_5 : decode cX0_placeAt 5 = .ok (.invokestatic 33, 3) := by decide +kernel
theorem dX0_placeAt_8 : decode cX0_placeAt 8 = .ok (.ireturn, 1) := by decide +kernel
theorem dX0_resolve_0 : decode cX0_resolve 0 = .ok (.aload_n 0, 1) := by decide +kernel
theorem dX0_resolve_1 : decode cX0_resolve 1 = .ok (.getfield 15, 3) := by decide +kernel
theorem dX0_resolve_4 : decode cX0_resolve 4 = .ok (.iload_n 1, 1) := by decide +kernel
theorem dX0_resolve_5 : decode cX0_resolve 5 = .ok (.iload_n 2, 1) := by decide +kernel
theorem dX0_resolve_6 : decode cX0_resolve 6 = .ok (.i2l, 1) := by decide +kernel
theorem dX0_resolve_7 : decode cX0_resolve 7 = .ok (.invokestatic 30, 3) := by decide +kernel
theorem dX0_resolve_10 : decode cX0_resolve 10 = .ok (.return_, 1) := by decide +kernel
theorem dX0_names_0 : decode cX0_names 0 = .ok (.iconst 0, 1) := by decide +kernel
theorem dX0_names_1 : decode cX0_names 1 = .ok (.istore_n 2, 1) := by decide +kernel
theorem dX0_names_2 : decode cX0_names 2 = .ok (.iload_n 2, 1) := by decide +kernel
theorem dX0_names_3 : decode cX0_names 3 = .ok (.aload_n 0, 1) := by decide +kernel
theorem dX0_names_4 : decode cX0_names 4 = .ok (.getfield 22, 3) := by decide +kernel
theorem dX0_names_7 : decode cX0_names 7 = .ok (.if_icmp .ge 37, 3) := by decide +kernel
theorem dX0_names_10 : decode cX0_names 10 = .ok (.aload_n 0, 1) := by decide +kernel
theorem dX0_names_11 : decode cX0_names 11 = .ok (.getfield 9, 3) := by decide +kernel
theorem dX0_names_14 : decode cX0_names 14 = .ok (.iload_n 2, 1) := by decide +kernel
theorem dX0_names_15 : decode cX0_names 15 = .ok (.invokestatic 33, 3) := by decide +kernel
theorem dX0_names_18 : decode cX0_names 18 = .ok (.iconst 3, 1) := by decide +kernel
theorem dX0_names_19 : decode cX0_names 19 = .ok (.if_icmp .ne 19, 3) := by decide +kernel
theorem dX0_names_22 : decode cX0_names 22 = .ok (.aload_n 0, 1) := by decide +kernel
theorem dX0_names_23 : decode cX0_names 23 = .ok (.getfield 15, 3) := by decide +kernel
theorem dX0_names_26 : decode cX0_names 26 = .ok (.iload_n 2, 1) := by decide +kernel
theorem dX0_names_27 : decode cX0_names 27 = .ok (.invokestatic 37, 3) := by decide +kernel
theorem dX0_names_30 : decode cX0_names 30 = .ok (.iload_n 1, 1) := by decide +kernel
theorem dX0_names_31 : decode cX0_names 31 = .ok (.i2l, 1) := by decide +kernel
theorem dX0_names_32 : decode cX0_names 32 = .ok (.lcmp, 1) := by decide +kernel
theorem dX0_names_33 : decode cX0_names 33 = .ok (.ifCond .ne 5, 3) := by decide +kernel
theorem dX0_names_36 : decode cX0_names 36 = .ok (.iconst 1, 1) := by decide +kernel
theorem dX0_names_37 : decode cX0_names 37 = .ok (.ireturn, 1) := by decide +kernel
theorem dX0_names_38 : decode cX0_names 38 = .ok (.iinc 2 1, 3) := by decide +kernel
theorem dX0_names_41 : decode cX0_names 41 = .ok (.goto (-39), 3) := by decide +kernel
theorem dX0_names_44 : decode cX0_names 44 = .ok (.iconst 0, 1) := by decide +kernel
theorem dX0_names_45 : decode cX0_names 45 = .ok (.ireturn, 1) := by decide +kernel
theorem dX1_init_0 : decode cX1_init 0 = .ok (.aload_n 0, 1) := by decide +kernel
theorem dX1_init_1 : decode cX1_init 1 = .ok (.invokespecial 3, 3) := by decide +kernel
theorem dX1_init_4 : decode cX1_init 4 = .ok (.aload_n 0, 1) := by decide +kernel
theorem dX1_init_5 : decode cX1_init 5 = .ok (.sipush 400, 3) := by decide +kernel
theorem dX1_init_8 : decode cX1_init 8 = .ok (.newarray .long, 2) := by decide +kernel
theorem dX1_init_10 : decode cX1_init 10 = .ok (.putfield 11, 3) := by decide +kernel
theorem dX1_init_13 : decode cX1_init 13 = .ok (.aload_n 0, 1) := by decide +kernel
theorem dX1_init_14 : decode cX1_init 14 = .ok (.iconst 0, 1) := by decide +kernel
theorem dX1_init_15 : decode cX1_init 15 = .ok (.putfield 15, 3) := by decide +kernel
theorem dX1_init_18 : decode cX1_init 18 = .ok (.return_, 1) := by decide +kernel
theorem dX1_clear_0 : decode cX1_clear 0 = .ok (.aload_n 0, 1) := by decide +kernel
theorem dX1_clear_1 : decode cX1_clear 1 = .ok (.iconst 0, 1) := by decide +kernel
theorem dX1_clear_2 : decode cX1_clear 2 = .ok (.putfield 15, 3) := by decide +kernel
theorem dX1_clear_5 : decode cX1_clear 5 = .ok (.return_, 1) := by decide +kernel
theorem dX1_note_0 : decode cX1_note 0 = .ok (.aload_n 0, 1) := by decide +kernel
theorem dX1_note_1 : decode cX1_note 1 = .ok (.getfield 15, 3) := by decide +kernel
theorem dX1_note_4 : decode cX1_note 4 = .ok (.ifCond .lt 76, 3) := by decide +kernel
theorem dX1_note_7 : decode cX1_note 7 = .ok (.aload_n 0, 1) := by decide +kernel
theorem dX1_note_8 : decode cX1_note 8 = .ok (.getfield 15, 3) := by decide +kernel
theorem dX1_note_11 : decode cX1_note 11 = .ok (.bipush 100, 2) := by decide +kernel
theorem dX1_note_13 : decode cX1_note 13 = .ok (.if_icmp .ge 67, 3) := by decide +kernel
theorem dX1_note_16 : decode cX1_note 16 = .ok (.aload_n 0, 1) := by decide +kernel
theorem dX1_note_17 : decode cX1_note 17 = .ok (.getfield 11, 3) := by decide +kernel
theorem dX1_note_20 : decode cX1_note 20 = .ok (.iconst 4, 1) := by decide +kernel
theorem dX1_note_21 : decode cX1_note 21 = .ok (.aload_n 0, 1) := by decide +kernel
theorem dX1_note_22 : decode cX1_note 22 = .ok (.getfield 15, 3) := by decide +kernel
theorem dX1_note_25 : decode cX1_note 25 = .ok (.imul, 1) := by decide +kernel
theorem dX1_note_26 : decode cX1_note 26 = .ok (.lload_n 1, 1) := by decide +kernel
theorem dX1_note_27 : decode cX1_note 27 = .ok (.invokestatic 19, 3) := by decide +kernel
theorem dX1_note_30 : decode cX1_note 30 = .ok (.aload_n 0, 1) := by decide +kernel
theorem dX1_note_31 : decode cX1_note 31 = .ok (.getfield 11, 3) := by decide +kernel
theorem dX1_note_34 : decode cX1_note 34 = .ok (.iconst 4, 1) := by decide +kernel
theorem dX1_note_35 : decode cX1_note 35 = .ok (.aload_n 0, 1) := by decide +kernel
theorem dX1_note_36 : decode cX1_note 36 = .ok (.getfield 15, 3) := by decide +kernel
theorem dX1_note_39 : decode cX1_note 39 = .ok (.imul, 1) := by decide +kernel
theorem dX1_note_40 : decode cX1_note 40 = .ok (.iconst 1, 1) := by decide +kernel
theorem dX1_note_41 : decode cX1_note 41 = .ok (.iadd, 1) := by decide +kernel
theorem dX1_note_42 : decode cX1_note 42 = .ok (.lload_n 3, 1) := by decide +kernel
theorem dX1_note_43 : decode cX1_note 43 = .ok (.invokestatic 19, 3) := by decide +kernel
theorem dX1_note_46 : decode cX1_note 46 = .ok (.aload_n 0, 1) := by decide +kernel
theorem dX1_note_47 : decode cX1_note 47 = .ok (.getfield 11, 3) := by decide +kernel
theorem dX1_note_50 : decode cX1_note 50 = .ok (.iconst 4, 1) := by decide +kernel
theorem dX1_note_51 : decode cX1_note 51 = .ok (.aload_n 0, 1) := by decide +kernel
theorem dX1_note_52 : decode cX1_note 52 = .ok (.getfield 15, 3) := by decide +kernel
theorem dX1_note_55 : decode cX1_note 55 = .ok (.imul, 1) := by decide +kernel
theorem dX1_note_56 : decode cX1_note 56 = .ok (.iconst 2, 1) := by decide +kernel
theorem dX1_note_57 : decode cX1_note 57 = .ok (.iadd, 1) := by decide +kernel
theorem dX1_note_58 : decode cX1_note 58 = .ok (.lload 5, 2) := by decide +kernel
theorem dX1_note_60 : decode cX1_note 60 = .ok (.invokestatic 19, 3) := by decide +kernel
theorem dX1_note_63 : decode cX1_note 63 = .ok (.aload_n 0, 1) := by decide +kernel
theorem dX1_note_64 : decode cX1_note 64 = .ok (.getfield 11, 3) := by decide +kernel
theorem dX1_note_67 : decode cX1_note 67 = .ok (.iconst 4, 1) := by decide +kernel
theorem dX1_note_68 : decode cX1_note 68 = .ok (.aload_n 0, 1) := by decide +kernel
theorem dX1_note_69 : decode cX1_note 69 = .ok (.getfield 15, 3) := by decide +kernel
theorem dX1_note_72 : decode cX1_note 72 = .ok (.imul, 1) := by decide +kernel
theorem dX1_note_73 : decode cX1_note 73 = .ok (.iconst 3, 1) := by decide +kernel
theorem dX1_note_74 : decode cX1_note 74 = .ok (.iadd, 1) := by decide +kernel
theorem dX1_note_75 : decode cX1_note 75 = .ok (.lload 7, 2) := by decide +kernel
theorem dX1_note_77 : decode cX1_note 77 = .ok (.invokestatic 19, 3) := by decide +kernel
theorem dX1_note_80 : decode cX1_note 80 = .ok (.aload_n 0, 1) := by decide +kernel
theorem dX1_note_81 : decode cX1_note 81 = .ok (.dup, 1) := by decide +kernel
theorem dX1_note_82 : decode cX1_note 82 = .ok (.getfield 15, 3) := by decide +kernel
theorem dX1_note_85 : decode cX1_note 85 = .ok (.iconst 1, 1) := by decide +kernel
theorem dX1_note_86 : decode cX1_note 86 = .ok (.iadd, 1) := by decide +kernel
theorem dX1_note_87 : decode cX1_note 87 = .ok (.putfield 15, 3) := by decide +kernel
theorem dX1_note_90 : decode cX1_note 90 = .ok (.return_, 1) := by decide +kernel
theorem dX1_keeps_0 : decode cX1_keeps 0 = .ok (.iload_n 1, 1) := by decide +kernel
theorem dX1_keeps_1 : decode cX1_keeps 1 = .ok (.ifCond .lt 21, 3) := by decide +kernel
theorem dX1_keeps_4 : decode cX1_keeps 4 = .ok (.iload_n 1, 1) := by decide +kernel
theorem dX1_keeps_5 : decode cX1_keeps 5 = .ok (.aload_n 0, 1) := by decide +kernel
theorem dX1_keeps_6 : decode cX1_keeps 6 = .ok (.getfield 15, 3) := by decide +kernel
theorem dX1_keeps_9 : decode cX1_keeps 9 = .ok (.if_icmp .ge 13, 3) := by decide +kernel
theorem dX1_keeps_12 : decode cX1_keeps 12 = .ok (.iload_n 1, 1) := by decide +kernel
theorem dX1_keeps_13 : decode cX1_keeps 13 = .ok (.bipush 100, 2) := by decide +kernel
theorem dX1_keeps_15 : decode cX1_keeps 15 = .ok (.if_icmp .ge 7, 3) := by decide +kernel
theorem dX1_keeps_18 : decode cX1_keeps 18 = .ok (.iconst 1, 1) := by decide +kernel
theorem dX1_keeps_19 : decode cX1_keeps 19 = .ok (.goto 4, 3) := by decide +kernel
theorem dX1_keeps_22 : decode cX1_keeps 22 = .ok (.iconst 0, 1) := by decide +kernel
theorem dX1_keeps_23 : decode cX1_keeps 23 = .ok (.ireturn, 1) := by decide +kernel
theorem dX1_told_0 : decode cX1_told 0 = .ok (.aload_n 0, 1) := by decide +kernel
theorem dX1_told_1 : decode cX1_told 1 = .ok (.getfield 11, 3) := by decide +kernel
theorem dX1_told_4 : decode cX1_told 4 = .ok (.iconst 4, 1) := by decide +kernel
theorem dX1_told_5 : decode cX1_told 5 = .ok (.iload_n 1, 1) := by decide +kernel
theorem dX1_told_6 : decode cX1_told 6 = .ok (.imul, 1) := by decide +kernel
theorem dX1_told_7 : decode cX1_told 7 = .ok (.iload_n 2, 1) := by decide +kernel
theorem dX1_told_8 : decode cX1_told 8 = .ok (.iadd, 1) := by decide +kernel
theorem dX1_told_9 : decode cX1_told 9 = .ok (.invokestatic 23, 3) := by decide +kernel
theorem dX1_told_12 : decode cX1_told 12 = .ok (.lreturn, 1) := by decide +kernel
theorem dX2_init_0 : decode cX2_init 0 = .ok (.aload_n 0, 1) := by decide +kernel
theorem dX2_init_1 : decode cX2_init 1 = .ok (.invokespecial 3, 3) := by decide +kernel
theorem dX2_init_4 : decode cX2_init 4 = .ok (.aload_n 0, 1) := by decide +kernel
theorem dX2_init_5 : decode cX2_init 5 = .ok (.new 9, 3) := by decide +kernel
theorem dX2_init_8 : decode cX2_init 8 = .ok (.dup, 1) := by decide +kernel
theorem dX2_init_9 : decode cX2_init 9 = .ok (.invokespecial 11, 3) := by decide +kernel
theorem dX2_init_12 : decode cX2_init 12 = .ok (.putfield 12, 3) := by decide +kernel
theorem dX2_init_15 : decode cX2_init 15 = .ok (.aload_n 0, 1) := by decide +kernel
theorem dX2_init_16 : decode cX2_init 16 = .ok (.sipush 200, 3) := by decide +kernel
theorem dX2_init_19 : decode cX2_init 19 = .ok (.newarray .long, 2) := by decide +kernel
theorem dX2_init_21 : decode cX2_init 21 = .ok (.putfield 18, 3) := by decide +kernel
theorem dX2_init_24 : decode cX2_init 24 = .ok (.aload_n 0, 1) := by decide +kernel
theorem dX2_init_25 : decode cX2_init 25 = .ok (.bipush 25, 2) := by decide +kernel
theorem dX2_init_27 : decode cX2_init 27 = .ok (.newarray .int, 2) := by decide +kernel
theorem dX2_init_29 : decode cX2_init 29 = .ok (.putfield 22, 3) := by decide +kernel
theorem dX2_init_32 : decode cX2_init 32 = .ok (.aload_n 0, 1) := by decide +kernel
theorem dX2_init_33 : decode cX2_init 33 = .ok (.lconst 0, 1) := by decide +kernel
theorem dX2_init_34 : decode cX2_init 34 = .ok (.putfield 26, 3) := by decide +kernel
theorem dX2_init_37 : decode cX2_init 37 = .ok (.aload_n 0, 1) := by decide +kernel
theorem dX2_init_38 : decode cX2_init 38 = .ok (.lconst 0, 1) := by decide +kernel
theorem dX2_init_39 : decode cX2_init 39 = .ok (.putfield 30, 3) := by decide +kernel
theorem dX2_init_42 : decode cX2_init 42 = .ok (.aload_n 0, 1) := by decide +kernel
theorem dX2_init_43 : decode cX2_init 43 = .ok (.iconst 0, 1) := by decide +kernel
theorem dX2_init_44 : decode cX2_init 44 = .ok (.putfield 33, 3) := by decide +kernel
theorem dX2_init_47 : decode cX2_init 47 = .ok (.aload_n 0, 1) := by decide +kernel
theorem dX2_init_48 : decode cX2_init 48 = .ok (.iconst 0, 1) := by decide +kernel
theorem dX2_init_49 : decode cX2_init 49 = .ok (.putfield 37, 3) := by decide +kernel
theorem dX2_init_52 : decode cX2_init 52 = .ok (.aload_n 0, 1) := by decide +kernel
theorem dX2_init_53 : decode cX2_init 53 = .ok (.lconst 0, 1) := by decide +kernel
theorem dX2_init_54 : decode cX2_init 54 = .ok (.putfield 40, 3) := by decide +kernel
theorem dX2_init_57 : decode cX2_init 57 = .ok (.aload_n 0, 1) := by decide +kernel
theorem dX2_init_58 : decode cX2_init 58 = .ok (.iconst 0, 1) := by decide +kernel
theorem dX2_init_59 : decode cX2_init 59 = .ok (.putfield 43, 3) := by decide +kernel
theorem dX2_init_62 : decode cX2_init 62 = .ok (.return_, 1) := by decide +kernel
theorem dX2_putToSleep_0 : decode cX2_putToSleep 0 = .ok (.aload_n 0, 1) := by decide +kernel
theorem dX2_putToSleep_1 : decode cX2_putToSleep 1 = .ok (.iconst 0, 1) := by decide +kernel
theorem dX2_putToSleep_2 : decode cX2_putToSleep 2 = .ok (.putfield 43, 3) := by decide +kernel
theorem dX2_putToSleep_5 : decode cX2_putToSleep 5 = .ok (.iconst 0, 1) := by decide +kernel
theorem dX2_putToSleep_6 : decode cX2_putToSleep 6 = .ok (.istore_n 1, 1) := by decide +kernel
theorem dX2_putToSleep_7 : decode cX2_putToSleep 7 = .ok (.iload_n 1, 1) := by decide +kernel
theorem dX2_putToSleep_8 : decode cX2_putToSleep 8 = .ok (.aload_n 0, 1) := by decide +kernel
theorem dX2_putToSleep_9 : decode cX2_putToSleep 9 = .ok (.getfield 22, 3) := by decide +kernel
theorem dX2_putToSleep_12 : decode cX2_putToSleep 12 = .ok (.arraylength, 1) := by decide +kernel
theorem dX2_putToSleep_13 : decode cX2_putToSleep 13 = .ok (.if_icmp .ge 16, 3) := by decide +kernel
theorem dX2_putToSleep_16 : decode cX2_putToSleep 16 = .ok (.aload_n 0, 1) := by decide +kernel
theorem dX2_putToSleep_17 : decode cX2_putToSleep 17 = .ok (.getfield 22, 3) := by decide +kernel
theorem dX2_putToSleep_20 : decode cX2_putToSleep 20 = .ok (.iload_n 1, 1) := by decide +kernel
theorem dX2_putToSleep_21 : decode cX2_putToSleep 21 = .ok (.iconst 0, 1) := by decide +kernel
theorem dX2_putToSleep_22 : decode cX2_putToSleep 22 = .ok (.iastore, 1) := by decide +kernel
theorem dX2_putToSleep_23 : decode cX2_putToSleep 23 = .ok (.iinc 1 1, 3) := by decide +kernel
theorem dX2_putToSleep_26 : decode cX2_putToSleep 26 = .ok (.goto (-19), 3) := by decide +kernel
theorem dX2_putToSleep_29 : decode cX2_putToSleep 29 = .ok (.return_, 1) := by decide +kernel
theorem dX2_entriesInAll_0 : decode cX2_entriesInAll 0 = .ok (.lconst 0, 1) := by decide +kernel
theorem dX2_entriesInAll_1 : decode cX2_entriesInAll 1 = .ok (.ldc2_w 47, 3) := by decide +kernel
theorem dX2_entriesInAll_4 : decode cX2_entriesInAll 4 = .ok (.aload_n 0, 1) := by decide +kernel
theorem dX2_entriesInAll_5 : decode cX2_entriesInAll 5 = .ok (.getfield 30, 3) := by decide +kernel
theorem dX2_entriesInAll_8 : decode cX2_entriesInAll 8 = .ok (.invokestatic 49, 3) := by decide +kernel
theorem dX2_entriesInAll_11 : decode cX2_entriesInAll 11 = .ok (.invokestatic 55, 3) := by decide +kernel
theorem dX2_entriesInAll_14 : decode cX2_entriesInAll 14 = .ok (.l2i, 1) := by decide +kernel
theorem dX2_entriesInAll_15 : decode cX2_entriesInAll 15 = .ok (.ireturn, 1) := by decide +kernel
theorem dX2_rowsInAll_0 : decode cX2_rowsInAll 0 = .ok (.aload_n 0, 1) := by decide +kernel
theorem dX2_rowsInAll_1 : decode cX2_rowsInAll 1 = .ok (.invokevirtual 58, 3) := by decide +kernel
theorem dX2_rowsInAll_4 : decode cX2_rowsInAll 4 = .ok (.bipush 8, 2) := by decide +kernel
theorem dX2_rowsInAll_6 : decode cX2_rowsInAll 6 = .ok (.iadd, 1) := by decide +kernel
theorem dX2_rowsInAll_7 : decode cX2_rowsInAll 7 = .ok (.iconst 1, 1) := by decide +kernel
theorem dX2_rowsInAll_8 : decode cX2_rowsInAll 8 = .ok (.isub, 1) := by decide +kernel
theorem dX2_rowsInAll_9 : decode cX2_rowsInAll 9 = .ok (.bipush 8, 2) := by decide +kernel
theorem dX2_rowsInAll_11 : decode cX2_rowsInAll 11 = .ok (.idiv, 1) := by decide +kernel
theorem dX2_rowsInAll_12 : decode cX2_rowsInAll 12 = .ok (.ireturn, 1) := by decide +kernel
theorem dX2_endOfRow_0 : decode cX2_endOfRow 0 = .ok (.aload_n 0, 1) := by decide +kernel
theorem dX2_endOfRow_1 : decode cX2_endOfRow 1 = .ok (.invokevirtual 58, 3) := by decide +kernel
theorem dX2_endOfRow_4 : decode cX2_endOfRow 4 = .ok (.bipush 8, 2) := by decide +kernel
theorem dX2_endOfRow_6 : decode cX2_endOfRow 6 = .ok (.iload_n 1, 1) := by decide +kernel
theorem dX2_endOfRow_7 : decode cX2_endOfRow 7 = .ok (.imul, 1) := by decide +kernel
theorem dX2_endOfRow_8 : decode cX2_endOfRow 8 = .ok (.bipush 8, 2) := by decide +kernel
theorem dX2_endOfRow_10 : decode cX2_endOfRow 10 = .ok (.iadd, 1) := by decide +kernel
theorem dX2_endOfRow_11 : decode cX2_endOfRow 11 = .ok (.invokestatic 62, 3) := by decide +kernel
theorem dX2_endOfRow_14 : decode cX2_endOfRow 14 = .ok (.ireturn, 1) := by decide +kernel
theorem dX2_clearEntries_0 : decode cX2_clearEntries 0 = .ok (.iconst 0, 1) := by decide +kernel
theorem dX2_clearEntries_1 : decode cX2_clearEntries 1 = .ok (.istore_n 1, 1) := by decide +kernel
theorem dX2_clearEntries_2 : decode cX2_clearEntries 2 = .ok (.iload_n 1, 1) := by decide +kernel
theorem dX2_clearEntries_3 : decode cX2_clearEntries 3 = .ok (.aload_n 0, 1) := by decide +kernel
theorem dX2_clearEntries_4 : decode cX2_clearEntries 4 = .ok (.getfield 18, 3) := by decide +kernel
theorem dX2_clearEntries_7 : decode cX2_clearEntries 7 = .ok (.arraylength, 1) := by decide +kernel
theorem dX2_clearEntries_8 : decode cX2_clearEntries 8 = .ok (.if_icmp .ge 16, 3) := by decide +kernel
theorem dX2_clearEntries_11 : decode cX2_clearEntries 11 = .ok (.aload_n 0, 1) := by decide +kernel
theorem dX2_clearEntries_12 : decode cX2_clearEntries 12 = .ok (.getfield 18, 3) := by decide +kernel
theorem dX2_clearEntries_15 : decode cX2_clearEntries 15 = .ok (.iload_n 1, 1) := by decide +kernel
theorem dX2_clearEntries_16 : decode cX2_clearEntries 16 = .ok (.lconst 0, 1) := by decide +kernel
theorem dX2_clearEntries_17 : decode cX2_clearEntries 17 = .ok (.lastore, 1) := by decide +kernel
theorem dX2_clearEntries_18 : decode cX2_clearEntries 18 = .ok (.iinc 1 1, 3) := by decide +kernel
theorem dX2_clearEntries_21 : decode cX2_clearEntries 21 = .ok (.goto (-19), 3) := by decide +kernel
theorem dX2_clearEntries_24 : decode cX2_clearEntries 24 = .ok (.return_, 1) := by decide +kernel
theorem dX2_readyEntries_0 : decode cX2_readyEntries 0 = .ok (.aload_n 0, 1) := by decide +kernel
theorem dX2_readyEntries_1 : decode cX2_readyEntries 1 = .ok (.getfield 43, 3) := by decide +kernel
theorem dX2_readyEntries_4 : decode cX2_readyEntries 4 = .ok (.iconst 2, 1) := by decide +kernel
theorem dX2_readyEntries_5 : decode cX2_readyEntries 5 = .ok (.if_icmp .eq 5, 3) := by decide +kernel
theorem dX2_readyEntries_8 : decode cX2_readyEntries 8 = .ok (.iconst 0, 1) := by decide +kernel
theorem dX2_readyEntries_9 : decode cX2_readyEntries 9 = .ok (.ireturn, 1) := by decide +kernel
theorem dX2_readyEntries_10 : decode cX2_readyEntries 10 = .ok (.aload_n 0, 1) := by decide +kernel
theorem dX2_readyEntries_11 : decode cX2_readyEntries 11 = .ok (.getfield 33, 3) := by decide +kernel
theorem dX2_readyEntries_14 : decode cX2_readyEntries 14 = .ok (.ifCond .ne 8, 3) := by decide +kernel
theorem dX2_readyEntries_17 : decode cX2_readyEntries 17 = .ok (.aload_n 0, 1) := by decide +kernel
theorem dX2_readyEntries_18 : decode cX2_readyEntries 18 = .ok (.invokevirtual 58, 3) := by decide +kernel
theorem dX2_readyEntries_21 : decode cX2_readyEntries 21 = .ok (.ireturn, 1) := by decide +kernel
theorem dX2_readyEntries_22 : decode cX2_readyEntries 22 = .ok (.iconst 0, 1) := by decide +kernel
theorem dX2_readyEntries_23 : decode cX2_readyEntries 23 = .ok (.istore_n 1, 1) := by decide +kernel
theorem dX2_readyEntries_24 : decode cX2_readyEntries 24 = .ok (.iconst 0, 1) := by decide +kernel
theorem dX2_readyEntries_25 : decode cX2_readyEntries 25 = .ok (.istore_n 2, 1) := by decide +kernel
theorem dX2_readyEntries_26 : decode cX2_readyEntries 26 = .ok (.iload_n 2, 1) := by decide +kernel
theorem dX2_readyEntries_27 : decode cX2_readyEntries 27 = .ok (.aload_n 0, 1) := by decide +kernel
theorem dX2_readyEntries_28 : decode cX2_readyEntries 28 = .ok (.invokevirtual 65, 3) := by decide +kernel
theorem dX2_readyEntries_31 : decode cX2_readyEntries 31 = .ok (.if_icmp .ge 34, 3) := by decide +kernel
theorem dX2_readyEntries_34 : decode cX2_readyEntries 34 = .ok (.aload_n 0, 1) := by decide +kernel
theorem dX2_readyEntries_35 : decode cX2_readyEntries 35 = .ok (.getfield 22, 3) := by decide +kernel
theorem dX2_readyEntries_38 : decode cX2_readyEntries 38 = .ok (.iload_n 2, 1) := by decide +kernel
theorem dX2_readyEntries_39 : decode cX2_readyEntries 39 = .ok (.invokestatic 68, 3) := by decide +kernel
theorem dX2_readyEntries_42 : decode cX2_readyEntries 42 = .ok (.iconst 2, 1) := by decide +kernel
theorem dX2_readyEntries_43 : decode cX2_readyEntries 43 = .ok (.if_icmp .ne 16, 3) := by decide +kernel
theorem dX2_readyEntries_46 : decode cX2_readyEntries 46 = .ok (.iload_n 1, 1) := by decide +kernel
theorem dX2_readyEntries_47 : decode cX2_readyEntries 47 = .ok (.aload_n 0, 1) := by decide +kernel
theorem dX2_readyEntries_48 : decode cX2_readyEntries 48 = .ok (.iload_n 2, 1) := by decide +kernel
theorem dX2_readyEntries_49 : decode cX2_readyEntries 49 = .ok (.invokevirtual 72, 3) := by decide +kernel
theorem dX2_readyEntries_52 : decode cX2_readyEntries 52 = .ok (.bipush 8, 2) := by decide +kernel
theorem dX2_readyEntries_54 : decode cX2_readyEntries 54 = .ok (.iload_n 2, 1) := by decide +kernel
theorem dX2_readyEntries_55 : decode cX2_readyEntries 55 = .ok (.imul, 1) := by decide +kernel
theorem dX2_readyEntries_56 : decode cX2_readyEntries 56 = .ok (.isub, 1) := by decide +kernel
theorem dX2_readyEntries_57 : decode cX2_readyEntries 57 = .ok (.iadd, 1) := by decide +kernel
theorem dX2_readyEntries_58 : decode cX2_readyEntries 58 = .ok (.istore_n 1, 1) := by decide +kernel
theorem dX2_readyEntries_59 : decode cX2_readyEntries 59 = .ok (.iinc 2 1, 3) := by decide +kernel
theorem dX2_readyEntries_62 : decode cX2_readyEntries 62 = .ok (.goto (-36), 3) := by decide +kernel
theorem dX2_readyEntries_65 : decode cX2_readyEntries 65 = .ok (.iload_n 1, 1) := by decide +kernel
theorem dX2_readyEntries_66 : decode cX2_readyEntries 66 = .ok (.ireturn, 1) := by decide +kernel
theorem dX3_init_0 : decode cX3_init 0 = .ok (.aload_n 0, 1) := by decide +kernel
theorem dX3_init_1 : decode cX3_init 1 = .ok (.invokespecial 3, 3) := by decide +kernel
theorem dX3_init_4 : decode cX3_init 4 = .ok (.aload_n 0, 1) := by decide +kernel
theorem dX3_init_5 : decode cX3_init 5 = .ok (.sipush 900, 3) := by decide +kernel
theorem dX3_init_8 : decode cX3_init 8 = .ok (.newarray .byte, 2) := by decide +kernel
theorem dX3_init_10 : decode cX3_init 10 = .ok (.putfield 9, 3) := by decide +kernel
theorem dX3_init_13 : decode cX3_init 13 = .ok (.aload_n 0, 1) := by decide +kernel
theorem dX3_init_14 : decode cX3_init 14 = .ok (.iconst 0, 1) := by decide +kernel
theorem dX3_init_15 : decode cX3_init 15 = .ok (.putfield 15, 3) := by decide +kernel
theorem dX3_init_18 : decode cX3_init 18 = .ok (.return_, 1) := by decide +kernel
theorem dX3_append_0 : decode cX3_append 0 = .ok (.lload_n 1, 1) := by decide +kernel
theorem dX3_append_1 : decode cX3_append 1 = .ok (.invokestatic 19, 3) := by decide +kernel
theorem dX3_append_4 : decode cX3_append 4 = .ok (.istore_n 3, 1) := by decide +kernel
theorem dX3_append_5 : decode cX3_append 5 = .ok (.aload_n 0, 1) := by decide +kernel
theorem dX3_append_6 : decode cX3_append 6 = .ok (.getfield 15, 3) := by decide +kernel
theorem dX3_append_9 : decode cX3_append 9 = .ok (.iload_n 3, 1) := by decide +kernel
theorem dX3_append_10 : decode cX3_append 10 = .ok (.iadd, 1) := by decide +kernel
theorem dX3_append_11 : decode cX3_append 11 = .ok (.sipush 900, 3) := by decide +kernel
theorem dX3_append_14 : decode cX3_append 14 = .ok (.if_icmp .le 5, 3) := by decide +kernel
theorem dX3_append_17 : decode cX3_append 17 = .ok (.iconst 0, 1) := by decide +kernel
theorem dX3_append_18 : decode cX3_append 18 = .ok (.ireturn, 1) := by decide +kernel
theorem dX3_append_19 : decode cX3_append 19 = .ok (.iconst 0, 1) := by decide +kernel
theorem dX3_append_20 : decode cX3_append 20 = .ok (.istore 4, 2) := by decide +kernel
theorem dX3_append_22 : decode cX3_append 22 = .ok (.iload 4, 2) := by decide +kernel
theorem dX3_append_24 : decode cX3_append 24 = .ok (.iload_n 3, 1) := by decide +kernel
theorem dX3_append_25 : decode cX3_append 25 = .ok (.if_icmp .ge 29, 3) := by decide +kernel
theorem dX3_append_28 : decode cX3_append 28 = .ok (.aload_n 0, 1) := by decide +kernel
theorem dX3_append_29 : decode cX3_append 29 = .ok (.aload_n 0, 1) := by decide +kernel
theorem dX3_append_30 : decode cX3_append 30 = .ok (.getfield 15, 3) := by decide +kernel
theorem dX3_append_33 : decode cX3_append 33 = .ok (.iload 4, 2) := by decide +kernel
theorem dX3_append_35 : decode cX3_append 35 = .ok (.iadd, 1) := by decide +kernel
theorem dX3_append_36 : decode cX3_append 36 = .ok (.lload_n 1, 1) := by decide +kernel
theorem dX3_append_37 : decode cX3_append 37 = .ok (.bipush 8, 2) := by decide +kernel
theorem dX3_append_39 : decode cX3_append 39 = .ok (.iload 4, 2) := by decide +kernel
theorem dX3_append_41 : decode cX3_append 41 = .ok (.imul, 1) := by decide +kernel
theorem dX3_append_42 : decode cX3_append 42 = .ok (.lushr, 1) := by decide +kernel
theorem dX3_append_43 : decode cX3_append 43 = .ok (.l2i, 1) := by decide +kernel
theorem dX3_append_44 : decode cX3_append 44 = .ok (.i2b, 1) := by decide +kernel
theorem dX3_append_45 : decode cX3_append 45 = .ok (.invokevirtual 23, 3) := by decide +kernel
theorem dX3_append_48 : decode cX3_append 48 = .ok (.iinc 4 1, 3) := by decide +kernel
theorem dX3_append_51 : decode cX3_append 51 = .ok (.goto (-29), 3) := by decide +kernel
theorem dX3_append_54 : decode cX3_append 54 = .ok (.aload_n 0, 1) := by decide +kernel
theorem dX3_append_55 : decode cX3_append 55 = .ok (.dup, 1) := by decide +kernel
theorem dX3_append_56 : decode cX3_append 56 = .ok (.getfield 15, 3) := by decide +kernel
theorem dX3_append_59 : decode cX3_append 59 = .ok (.iload_n 3, 1) := by decide +kernel
theorem dX3_append_60 : decode cX3_append 60 = .ok (.iadd, 1) := by decide +kernel
theorem dX3_append_61 : decode cX3_append 61 = .ok (.putfield 15, 3) := by decide +kernel
theorem dX3_append_64 : decode cX3_append 64 = .ok (.iconst 1, 1) := by decide +kernel
theorem dX3_append_65 : decode cX3_append 65 = .ok (.ireturn, 1) := by decide +kernel
theorem dX3_bytesIn_0 : decode cX3_bytesIn 0 = .ok (.iconst 0, 1) := by decide +kernel
theorem dX3_bytesIn_1 : decode cX3_bytesIn 1 = .ok (.istore_n 2, 1) := by decide +kernel
theorem dX3_bytesIn_2 : decode cX3_bytesIn 2 = .ok (.iload_n 2, 1) := by decide +kernel
theorem dX3_bytesIn_3 : decode cX3_bytesIn 3 = .ok (.bipush 8, 2) := by decide +kernel
theorem dX3_bytesIn_5 : decode cX3_bytesIn 5 = .ok (.if_icmp .ge 24, 3) := by decide +kernel
theorem dX3_bytesIn_8 : decode cX3_bytesIn 8 = .ok (.lload_n 0, 1) := by decide +kernel
theorem dX3_bytesIn_9 : decode cX3_bytesIn 9 = .ok (.bipush 8, 2) := by decide +kernel
theorem dX3_bytesIn_11 : decode cX3_bytesIn 11 = .ok (.iload_n 2, 1) := by decide +kernel
theorem dX3_bytesIn_12 : decode cX3_bytesIn 12 = .ok (.imul, 1) := by decide +kernel
theorem dX3_bytesIn_13 : decode cX3_bytesIn 13 = .ok (.lushr, 1) := by decide +kernel
theorem dX3_bytesIn_14 : decode cX3_bytesIn 14 = .ok (.ldc2_w 27, 3) := by decide +kernel
theorem dX3_bytesIn_17 : decode cX3_bytesIn 17 = .ok (.land, 1) := by decide +kernel
theorem dX3_bytesIn_18 : decode cX3_bytesIn 18 = .ok (.lconst 0, 1) := by decide +kernel
theorem dX3_bytesIn_19 : decode cX3_bytesIn 19 = .ok (.lcmp, 1) := by decide +kernel
theorem dX3_bytesIn_20 : decode cX3_bytesIn 20 = .ok (.ifCond .eq 9, 3) := by decide +kernel
theorem dX3_bytesIn_23 : decode cX3_bytesIn 23 = .ok (.iinc 2 1, 3) := by decide +kernel
theorem dX3_bytesIn_26 : decode cX3_bytesIn 26 = .ok (.goto (-24), 3) := by decide +kernel
theorem dX3_bytesIn_29 : decode cX3_bytesIn 29 = .ok (.iload_n 2, 1) := by decide +kernel
theorem dX3_bytesIn_30 : decode cX3_bytesIn 30 = .ok (.ireturn, 1) := by decide +kernel
theorem dX3_putByte_0 : decode cX3_putByte 0 = .ok (.iload_n 1, 1) := by decide +kernel
theorem dX3_putByte_1 : decode cX3_putByte 1 = .ok (.ifCond .lt 19, 3) := by decide +kernel
theorem dX3_putByte_4 : decode cX3_putByte 4 = .ok (.iload_n 1, 1) := by decide +kernel
theorem dX3_putByte_5 : decode cX3_putByte 5 = .ok (.aload_n 0, 1) := by decide +kernel
theorem dX3_putByte_6 : decode cX3_putByte 6 = .ok (.getfield 9, 3) := by decide +kernel
theorem dX3_putByte_9 : decode cX3_putByte 9 = .ok (.arraylength, 1) := by decide +kernel
theorem dX3_putByte_10 : decode cX3_putByte 10 = .ok (.if_icmp .ge 10, 3) := by decide +kernel
theorem dX3_putByte_13 : decode cX3_putByte 13 = .ok (.aload_n 0, 1) := by decide +kernel
theorem dX3_putByte_14 : decode cX3_putByte 14 = .ok (.getfield 9, 3) := by decide +kernel
theorem dX3_putByte_17 : decode cX3_putByte 17 = .ok (.iload_n 1, 1) := by decide +kernel
theorem dX3_putByte_18 : decode cX3_putByte 18 = .ok (.iload_n 2, 1) := by decide +kernel
theorem dX3_putByte_19 : decode cX3_putByte 19 = .ok (.bastore, 1) := by decide +kernel
theorem dX3_putByte_20 : decode cX3_putByte 20 = .ok (.return_, 1) := by decide +kernel
theorem dX3_byteAt_0 : decode cX3_byteAt 0 = .ok (.iload_n 1, 1) := by decide +kernel
theorem dX3_byteAt_1 : decode cX3_byteAt 1 = .ok (.ifCond .lt 33, 3) := by decide +kernel
theorem dX3_byteAt_4 : decode cX3_byteAt 4 = .ok (.iload_n 1, 1) := by decide +kernel
theorem dX3_byteAt_5 : decode cX3_byteAt 5 = .ok (.aload_n 0, 1) := by decide +kernel
theorem dX3_byteAt_6 : decode cX3_byteAt 6 = .ok (.getfield 15, 3) := by decide +kernel
theorem dX3_byteAt_9 : decode cX3_byteAt 9 = .ok (.if_icmp .ge 25, 3) := by decide +kernel
theorem dX3_byteAt_12 : decode cX3_byteAt 12 = .ok (.iload_n 1, 1) := by decide +kernel
theorem dX3_byteAt_13 : decode cX3_byteAt 13 = .ok (.aload_n 0, 1) := by decide +kernel
theorem dX3_byteAt_14 : decode cX3_byteAt 14 = .ok (.getfield 9, 3) := by decide +kernel
theorem dX3_byteAt_17 : decode cX3_byteAt 17 = .ok (.arraylength, 1) := by decide +kernel
theorem dX3_byteAt_18 : decode cX3_byteAt 18 = .ok (.if_icmp .ge 16, 3) := by decide +kernel
theorem dX3_byteAt_21 : decode cX3_byteAt 21 = .ok (.aload_n 0, 1) := by decide +kernel
theorem dX3_byteAt_22 : decode cX3_byteAt 22 = .ok (.getfield 9, 3) := by decide +kernel
theorem dX3_byteAt_25 : decode cX3_byteAt 25 = .ok (.iload_n 1, 1) := by decide +kernel
theorem dX3_byteAt_26 : decode cX3_byteAt 26 = .ok (.baload, 1) := by decide +kernel
theorem dX3_byteAt_27 : decode cX3_byteAt 27 = .ok (.sipush 255, 3) := by decide +kernel
theorem dX3_byteAt_30 : decode cX3_byteAt 30 = .ok (.iand, 1) := by decide +kernel
theorem dX3_byteAt_31 : decode cX3_byteAt 31 = .ok (.goto 4, 3) := by decide +kernel
theorem dX3_byteAt_34 : decode cX3_byteAt 34 = .ok (.iconst 0, 1) := by decide +kernel
theorem dX3_byteAt_35 : decode cX3_byteAt 35 = .ok (.ireturn, 1) := by decide +kernel
theorem dX3_empty_0 : decode cX3_empty 0 = .ok (.aload_n 0, 1) := by decide +kernel
theorem dX3_empty_1 : decode cX3_empty 1 = .ok (.iconst 0, 1) := by decide +kernel
theorem dX3_empty_2 : decode cX3_empty 2 = .ok (.putfield 15, 3) := by decide +kernel
theorem dX3_empty_5 : decode cX3_empty 5 = .ok (.return_, 1) := by decide +kernel
theorem dX4_init_0 : decode cX4_init 0 = .ok (.aload_n 0, 1) := by decide +kernel
theorem dX4_init_1 : decode cX4_init 1 = .ok (.invokespecial 3, 3) := by decide +kernel
theorem dX4_init_4 : decode cX4_init 4 = .ok (.aload_n 0, 1) := by decide +kernel
theorem dX4_init_5 : decode cX4_init 5 = .ok (.bipush 12, 2) := by decide +kernel
theorem dX4_init_7 : decode cX4_init 7 = .ok (.anewarray 9, 3) := by decide +kernel
theorem dX4_init_10 : decode cX4_init 10 = .ok (.putfield 11, 3) := by decide +kernel
theorem dX4_init_13 : decode cX4_init 13 = .ok (.iconst 0, 1) := by decide +kernel
theorem dX4_init_14 : decode cX4_init 14 = .ok (.istore_n 1, 1) := by decide +kernel
theorem dX4_init_15 : decode cX4_init 15 = .ok (.iload_n 1, 1) := by decide +kernel
theorem dX4_init_16 : decode cX4_init 16 = .ok (.aload_n 0, 1) := by decide +kernel
theorem dX4_init_17 : decode cX4_init 17 = .ok (.getfield 11, 3) := by decide +kernel
theorem dX4_init_20 : decode cX4_init 20 = .ok (.arraylength, 1) := by decide +kernel
theorem dX4_init_21 : decode cX4_init 21 = .ok (.if_icmp .ge 22, 3) := by decide +kernel
theorem dX4_init_24 : decode cX4_init 24 = .ok (.aload_n 0, 1) := by decide +kernel
theorem dX4_init_25 : decode cX4_init 25 = .ok (.getfield 11, 3) := by decide +kernel
theorem dX4_init_28 : decode cX4_init 28 = .ok (.iload_n 1, 1) := by decide +kernel
theorem dX4_init_29 : decode cX4_init 29 = .ok (.new 9, 3) := by decide +kernel
theorem dX4_init_32 : decode cX4_init 32 = .ok (.dup, 1) := by decide +kernel
theorem dX4_init_33 : decode cX4_init 33 = .ok (.invokespecial 17, 3) := by decide +kernel
theorem dX4_init_36 : decode cX4_init 36 = .ok (.aastore, 1) := by decide +kernel
theorem dX4_init_37 : decode cX4_init 37 = .ok (.iinc 1 1, 3) := by decide +kernel
theorem dX4_init_40 : decode cX4_init 40 = .ok (.goto (-25), 3) := by decide +kernel
theorem dX4_init_43 : decode cX4_init 43 = .ok (.aload_n 0, 1) := by decide +kernel
theorem dX4_init_44 : decode cX4_init 44 = .ok (.iconst 0, 1) := by decide +kernel
theorem dX4_init_45 : decode cX4_init 45 = .ok (.putfield 18, 3) := by decide +kernel
theorem dX4_init_48 : decode cX4_init 48 = .ok (.return_, 1) := by decide +kernel
theorem dX4_slotAt_0 : decode cX4_slotAt 0 = .ok (.iload_n 1, 1) := by decide +kernel
theorem dX4_slotAt_1 : decode cX4_slotAt 1 = .ok (.ifCond .lt 21, 3) := by decide +kernel
theorem dX4_slotAt_4 : decode cX4_slotAt 4 = .ok (.iload_n 1, 1) := by decide +kernel
theorem dX4_slotAt_5 : decode cX4_slotAt 5 = .ok (.aload_n 0, 1) := by decide +kernel
theorem dX4_slotAt_6 : decode cX4_slotAt 6 = .ok (.getfield 11, 3) := by decide +kernel
theorem dX4_slotAt_9 : decode cX4_slotAt 9 = .ok (.arraylength, 1) := by decide +kernel
theorem dX4_slotAt_10 : decode cX4_slotAt 10 = .ok (.if_icmp .ge 12, 3) := by decide +kernel
theorem dX4_slotAt_13 : decode cX4_slotAt 13 = .ok (.aload_n 0, 1) := by decide +kernel
theorem dX4_slotAt_14 : decode cX4_slotAt 14 = .ok (.getfield 11, 3) := by decide +kernel
theorem dX4_slotAt_17 : decode cX4_slotAt 17 = .ok (.iload_n 1, 1) := by decide +kernel
theorem dX4_slotAt_18 : decode cX4_slotAt 18 = .ok (.aaload, 1) := by decide +kernel
theorem dX4_slotAt_19 : decode cX4_slotAt 19 = .ok (.goto 4, 3) := by decide +kernel
theorem dX4_slotAt_22 : decode cX4_slotAt 22 = .ok (.aconst_null, 1) := by decide +kernel
theorem dX4_slotAt_23 : decode cX4_slotAt 23 = .ok (.areturn, 1) := by decide +kernel
theorem dX4_tableAt_0 : decode cX4_tableAt 0 = .ok (.iload_n 1, 1) := by decide +kernel
theorem dX4_tableAt_1 : decode cX4_tableAt 1 = .ok (.aload_n 0, 1) := by decide +kernel
theorem dX4_tableAt_2 : decode cX4_tableAt 2 = .ok (.getfield 18, 3) := by decide +kernel
theorem dX4_tableAt_5 : decode cX4_tableAt 5 = .ok (.if_icmp .ge 11, 3) := by decide +kernel
theorem dX4_tableAt_8 : decode cX4_tableAt 8 = .ok (.aload_n 0, 1) := by decide +kernel
theorem dX4_tableAt_9 : decode cX4_tableAt 9 = .ok (.iload_n 1, 1) := by decide +kernel
theorem dX4_tableAt_10 : decode cX4_tableAt 10 = .ok (.invokevirtual 22, 3) := by decide +kernel
theorem dX4_tableAt_13 : decode cX4_tableAt 13 = .ok (.goto 4, 3) := by decide +kernel
theorem dX4_tableAt_16 : decode cX4_tableAt 16 = .ok (.aconst_null, 1) := by decide +kernel
theorem dX4_tableAt_17 : decode cX4_tableAt 17 = .ok (.areturn, 1) := by decide +kernel
theorem dX4_numberOf_0 : decode cX4_numberOf 0 = .ok (.iconst 0, 1) := by decide +kernel
theorem dX4_numberOf_1 : decode cX4_numberOf 1 = .ok (.istore_n 3, 1) := by decide +kernel
theorem dX4_numberOf_2 : decode cX4_numberOf 2 = .ok (.iload_n 3, 1) := by decide +kernel
theorem dX4_numberOf_3 : decode cX4_numberOf 3 = .ok (.aload_n 0, 1) := by decide +kernel
theorem dX4_numberOf_4 : decode cX4_numberOf 4 = .ok (.getfield 18, 3) := by decide +kernel
theorem dX4_numberOf_7 : decode cX4_numberOf 7 = .ok (.if_icmp .ge 33, 3) := by decide +kernel
theorem dX4_numberOf_10 : decode cX4_numberOf 10 = .ok (.aload_n 0, 1) := by decide +kernel
theorem dX4_numberOf_11 : decode cX4_numberOf 11 = .ok (.iload_n 3, 1) := by decide +kernel
theorem dX4_numberOf_12 : decode cX4_numberOf 12 = .ok (.invokevirtual 22, 3) := by decide +kernel
theorem dX4_numberOf_15 : decode cX4_numberOf 15 = .ok (.astore 4, 2) := by decide +kernel
theorem dX4_numberOf_17 : decode cX4_numberOf 17 = .ok (.aload 4, 2) := by decide +kernel
theorem dX4_numberOf_19 : decode cX4_numberOf 19 = .ok (.ifnull 15, 3) := by decide +kernel
theorem dX4_numberOf_22 : decode cX4_numberOf 22 = .ok (.aload 4, 2) := by decide +kernel
theorem dX4_numberOf_24 : decode cX4_numberOf 24 = .ok (.getfield 26, 3) := by decide +kernel
theorem dX4_numberOf_27 : decode cX4_numberOf 27 = .ok (.lload_n 1, 1) := by decide +kernel
theorem dX4_numberOf_28 : decode cX4_numberOf 28 = .ok (.lcmp, 1) := by decide +kernel
theorem dX4_numberOf_29 : decode cX4_numberOf 29 = .ok (.ifCond .ne 5, 3) := by decide +kernel
theorem dX4_numberOf_32 : decode cX4_numberOf 32 = .ok (.iload_n 3, 1) := by decide +kernel
theorem dX4_numberOf_33 : decode cX4_numberOf 33 = .ok (.ireturn, 1) := by decide +kernel
theorem dX4_numberOf_34 : decode cX4_numberOf 34 = .ok (.iinc 3 1, 3) := by decide +kernel
theorem dX4_numberOf_37 : decode cX4_numberOf 37 = .ok (.goto (-35), 3) := by decide +kernel
theorem dX4_numberOf_40 : decode cX4_numberOf 40 = .ok (.bipush (-9), 2) := by decide +kernel
theorem dX4_numberOf_42 : decode cX4_numberOf 42 = .ok (.ireturn, 1) := by decide +kernel
theorem dX4_sizeOf_0 : decode cX4_sizeOf 0 = .ok (.aload_n 0, 1) := by decide +kernel
theorem dX4_sizeOf_1 : decode cX4_sizeOf 1 = .ok (.iload_n 1, 1) := by decide +kernel
theorem dX4_sizeOf_2 : decode cX4_sizeOf 2 = .ok (.invokevirtual 30, 3) := by decide +kernel
theorem dX4_sizeOf_5 : decode cX4_sizeOf 5 = .ok (.astore_n 2, 1) := by decide +kernel
theorem dX4_sizeOf_6 : decode cX4_sizeOf 6 = .ok (.aload_n 2, 1) := by decide +kernel
theorem dX4_sizeOf_7 : decode cX4_sizeOf 7 = .ok (.ifnonnull 7, 3) := by decide +kernel
theorem dX4_sizeOf_10 : decode cX4_sizeOf 10 = .ok (.lconst 0, 1) := by decide +kernel
theorem dX4_sizeOf_11 : decode cX4_sizeOf 11 = .ok (.goto 7, 3) := by decide +kernel
theorem dX4_sizeOf_14 : decode cX4_sizeOf 14 = .ok (.aload_n 2, 1) := by decide +kernel
theorem dX4_sizeOf_15 : decode cX4_sizeOf 15 = .ok (.getfield 33, 3) := by decide +kernel
theorem dX4_sizeOf_18 : decode cX4_sizeOf 18 = .ok (.lreturn, 1) := by decide +kernel
theorem dX4_putToSleep_0 : decode cX4_putToSleep 0 = .ok (.iconst 0, 1) := by decide +kernel
theorem dX4_putToSleep_1 : decode cX4_putToSleep 1 = .ok (.istore_n 1, 1) := by decide +kernel
theorem dX4_putToSleep_2 : decode cX4_putToSleep 2 = .ok (.iload_n 1, 1) := by decide +kernel
theorem dX4_putToSleep_3 : decode cX4_putToSleep 3 = .ok (.aload_n 0, 1) := by decide +kernel
theorem dX4_putToSleep_4 : decode cX4_putToSleep 4 = .ok (.getfield 18, 3) := by decide +kernel
theorem dX4_putToSleep_7 : decode cX4_putToSleep 7 = .ok (.if_icmp .ge 23, 3) := by decide +kernel
theorem dX4_putToSleep_10 : decode cX4_putToSleep 10 = .ok (.aload_n 0, 1) := by decide +kernel
theorem dX4_putToSleep_11 : decode cX4_putToSleep 11 = .ok (.iload_n 1, 1) := by decide +kernel
theorem dX4_putToSleep_12 : decode cX4_putToSleep 12 = .ok (.invokevirtual 22, 3) := by decide +kernel
theorem dX4_putToSleep_15 : decode cX4_putToSleep 15 = .ok (.astore_n 2, 1) := by decide +kernel
theorem dX4_putToSleep_16 : decode cX4_putToSleep 16 = .ok (.aload_n 2, 1) := by decide +kernel
theorem dX4_putToSleep_17 : decode cX4_putToSleep 17 = .ok (.ifnull 7, 3) := by decide +kernel
theorem dX4_putToSleep_20 : decode cX4_putToSleep 20 = .ok (.aload_n 2, 1) := by decide +kernel
theorem dX4_putToSleep_21 : decode cX4_putToSleep 21 = .ok (.invokevirtual 36, 3) := by decide +kernel
theorem dX4_putToSleep_24 : decode cX4_putToSleep 24 = .ok (.iinc 1 1, 3) := by decide +kernel
theorem dX4_putToSleep_27 : decode cX4_putToSleep 27 = .ok (.goto (-25), 3) := by decide +kernel
theorem dX4_putToSleep_30 : decode cX4_putToSleep 30 = .ok (.return_, 1) := by decide +kernel
theorem dX4_howManyAre_0 : decode cX4_howManyAre 0 = .ok (.iconst 0, 1) := by decide +kernel
theorem dX4_howManyAre_1 : decode cX4_howManyAre 1 = .ok (.istore_n 2, 1) := by decide +kernel
theorem dX4_howManyAre_2 : decode cX4_howManyAre 2 = .ok (.iconst 0, 1) := by decide +kernel
theorem dX4_howManyAre_3 : decode cX4_howManyAre 3 = .ok (.istore_n 3, 1) := by decide +kernel
theorem dX4_howManyAre_4 : decode cX4_howManyAre 4 = .ok (.iload_n 3, 1) := by decide +kernel
theorem dX4_howManyAre_5 : decode cX4_howManyAre 5 = .ok (.aload_n 0, 1) := by decide +kernel
theorem dX4_howManyAre_6 : decode cX4_howManyAre 6 = .ok (.getfield 18, 3) := by decide +kernel
theorem dX4_howManyAre_9 : decode cX4_howManyAre 9 = .ok (.if_icmp .ge 33, 3) := by decide +kernel
theorem dX4_howManyAre_12 : decode cX4_howManyAre 12 = .ok (.aload_n 0, 1) := by decide +kernel
theorem dX4_howManyAre_13 : decode cX4_howManyAre 13 = .ok (.iload_n 3, 1) := by decide +kernel
theorem dX4_howManyAre_14 : decode cX4_howManyAre 14 = .ok (.invokevirtual 22, 3) := by decide +kernel
theorem dX4_howManyAre_17 : decode cX4_howManyAre 17 = .ok (.astore 4, 2) := by decide +kernel
theorem dX4_howManyAre_19 : decode cX4_howManyAre 19 = .ok (.aload 4, 2) := by decide +kernel
theorem dX4_howManyAre_21 : decode cX4_howManyAre 21 = .ok (.ifnull 15, 3) := by decide +kernel
theorem dX4_howManyAre_24 : decode cX4_howManyAre 24 = .ok (.aload 4, 2) := by decide +kernel
theorem dX4_howManyAre_26 : decode cX4_howManyAre 26 = .ok (.getfield 39, 3) := by decide +kernel
theorem dX4_howManyAre_29 : decode cX4_howManyAre 29 = .ok (.iload_n 1, 1) := by decide +kernel
theorem dX4_howManyAre_30 : decode cX4_howManyAre 30 = .ok (.if_icmp .ne 6, 3) := by decide +kernel
theorem dX4_howManyAre_33 : decode cX4_howManyAre 33 = .ok (.iinc 2 1, 3) := by decide +kernel
theorem dX4_howManyAre_36 : decode cX4_howManyAre 36 = .ok (.iinc 3 1, 3) := by decide +kernel
theorem dX4_howManyAre_39 : decode cX4_howManyAre 39 = .ok (.goto (-35), 3) := by decide +kernel
theorem dX4_howManyAre_42 : decode cX4_howManyAre 42 = .ok (.iload_n 2, 1) := by decide +kernel
theorem dX4_howManyAre_43 : decode cX4_howManyAre 43 = .ok (.ireturn, 1) := by decide +kernel
theorem dX4_readyEntries_0 : decode cX4_readyEntries 0 = .ok (.iconst 0, 1) := by decide +kernel
theorem dX4_readyEntries_1 : decode cX4_readyEntries 1 = .ok (.istore_n 1, 1) := by decide +kernel
theorem dX4_readyEntries_2 : decode cX4_readyEntries 2 = .ok (.iconst 0, 1) := by decide +kernel
theorem dX4_readyEntries_3 : decode cX4_readyEntries 3 = .ok (.istore_n 2, 1) := by decide +kernel
theorem dX4_readyEntries_4 : decode cX4_readyEntries 4 = .ok (.iload_n 2, 1) := by decide +kernel
theorem dX4_readyEntries_5 : decode cX4_readyEntries 5 = .ok (.aload_n 0, 1) := by decide +kernel
theorem dX4_readyEntries_6 : decode cX4_readyEntries 6 = .ok (.getfield 18, 3) := by decide +kernel
theorem dX4_readyEntries_9 : decode cX4_readyEntries 9 = .ok (.if_icmp .ge 26, 3) := by decide +kernel
theorem dX4_readyEntries_12 : decode cX4_readyEntries 12 = .ok (.aload_n 0, 1) := by decide +kernel
theorem dX4_readyEntries_13 : decode cX4_readyEntries 13 = .ok (.iload_n 2, 1) := by decide +kernel
theorem dX4_readyEntries_14 : decode cX4_readyEntries 14 = .ok (.invokevirtual 22, 3) := by decide +kernel
theorem dX4_readyEntries_17 : decode cX4_readyEntries 17 = .ok (.astore_n 3, 1) := by decide +kernel
theorem dX4_readyEntries_18 : decode cX4_readyEntries 18 = .ok (.aload_n 3, 1) := by decide +kernel
theorem dX4_readyEntries_19 : decode cX4_readyEntries 19 = .ok (.ifnull 10, 3) := by decide +kernel
theorem dX4_readyEntries_22 : decode cX4_readyEntries 22 = .ok (.iload_n 1, 1) := by decide +kernel
theorem dX4_readyEntries_23 : decode cX4_readyEntries 23 = .ok (.aload_n 3, 1) := by decide +kernel
theorem dX4_readyEntries_24 : decode cX4_readyEntries 24 = .ok (.invokevirtual 42, 3) := by decide +kernel
theorem dX4_readyEntries_27 : decode cX4_readyEntries 27 = .ok (.iadd, 1) := by decide +kernel
theorem dX4_readyEntries_28 : decode cX4_readyEntries 28 = .ok (.istore_n 1, 1) := by decide +kernel
theorem dX4_readyEntries_29 : decode cX4_readyEntries 29 = .ok (.iinc 2 1, 3) := by decide +kernel
theorem dX4_readyEntries_32 : decode cX4_readyEntries 32 = .ok (.goto (-28), 3) := by decide +kernel
theorem dX4_readyEntries_35 : decode cX4_readyEntries 35 = .ok (.iload_n 1, 1) := by decide +kernel
theorem dX4_readyEntries_36 : decode cX4_readyEntries 36 = .ok (.ireturn, 1) := by decide +kernel
theorem dX5_init_0 : decode cX5_init 0 = .ok (.aload_n 0, 1) := by decide +kernel
theorem dX5_init_1 : decode cX5_init 1 = .ok (.invokespecial 3, 3) := by decide +kernel
theorem dX5_init_4 : decode cX5_init 4 = .ok (.aload_n 0, 1) := by decide +kernel
theorem dX5_init_5 : decode cX5_init 5 = .ok (.new 9, 3) := by decide +kernel
theorem dX5_init_8 : decode cX5_init 8 = .ok (.dup, 1) := by decide +kernel
theorem dX5_init_9 : decode cX5_init 9 = .ok (.aload_n 1, 1) := by decide +kernel
theorem dX5_init_10 : decode cX5_init 10 = .ok (.invokespecial 11, 3) := by decide +kernel
theorem dX5_init_13 : decode cX5_init 13 = .ok (.putfield 14, 3) := by decide +kernel
theorem dX5_init_16 : decode cX5_init 16 = .ok (.aload_n 0, 1) := by decide +kernel
theorem dX5_init_17 : decode cX5_init 17 = .ok (.aconst_null, 1) := by decide +kernel
theorem dX5_init_18 : decode cX5_init 18 = .ok (.putfield 20, 3) := by decide +kernel
theorem dX5_init_21 : decode cX5_init 21 = .ok (.aload_n 0, 1) := by decide +kernel
theorem dX5_init_22 : decode cX5_init 22 = .ok (.iconst 0, 1) := by decide +kernel
theorem dX5_init_23 : decode cX5_init 23 = .ok (.putfield 24, 3) := by decide +kernel
theorem dX5_init_26 : decode cX5_init 26 = .ok (.aload_n 0, 1) := by decide +kernel
theorem dX5_init_27 : decode cX5_init 27 = .ok (.bipush (-9), 2) := by decide +kernel
theorem dX5_init_29 : decode cX5_init 29 = .ok (.putfield 28, 3) := by decide +kernel
theorem dX5_init_32 : decode cX5_init 32 = .ok (.aload_n 0, 1) := by decide +kernel
theorem dX5_init_33 : decode cX5_init 33 = .ok (.bipush (-9), 2) := by decide +kernel
theorem dX5_init_35 : decode cX5_init 35 = .ok (.putfield 31, 3) := by decide +kernel
theorem dX5_init_38 : decode cX5_init 38 = .ok (.return_, 1) := by decide +kernel
theorem dX5_parse_0 : decode cX5_parse 0 = .ok (.aload_n 0, 1) := by decide +kernel
theorem dX5_parse_1 : decode cX5_parse 1 = .ok (.bipush (-9), 2) := by decide +kernel
theorem dX5_parse_3 : decode cX5_parse 3 = .ok (.putfield 28, 3) := by decide +kernel
theorem dX5_parse_6 : decode cX5_parse 6 = .ok (.aload_n 0, 1) := by decide +kernel
theorem dX5_parse_7 : decode cX5_parse 7 = .ok (.bipush (-9), 2) := by decide +kernel
theorem dX5_parse_9 : decode cX5_parse 9 = .ok (.putfield 31, 3) := by decide +kernel
theorem dX5_parse_12 : decode cX5_parse 12 = .ok (.aload_n 1, 1) := by decide +kernel
theorem dX5_parse_13 : decode cX5_parse 13 = .ok (.iconst 0, 1) := by decide +kernel
theorem dX5_parse_14 : decode cX5_parse 14 = .ok (.putfield 34, 3) := by decide +kernel
theorem dX5_parse_17 : decode cX5_parse 17 = .ok (.aload_n 0, 1) := by decide +kernel
theorem dX5_parse_18 : decode cX5_parse 18 = .ok (.getfield 14, 3) := by decide +kernel
theorem dX5_parse_21 : decode cX5_parse 21 = .ok (.invokevirtual 39, 3) := by decide +kernel
theorem dX5_parse_24 : decode cX5_parse 24 = .ok (.iconst 1, 1) := by decide +kernel
theorem dX5_parse_25 : decode cX5_parse 25 = .ok (.istore_n 2, 1) := by decide +kernel
theorem dX5_parse_26 : decode cX5_parse 26 = .ok (.iconst 0, 1) := by decide +kernel
theorem dX5_parse_27 : decode cX5_parse 27 = .ok (.istore_n 3, 1) := by decide +kernel
theorem dX5_parse_28 : decode cX5_parse 28 = .ok (.iload_n 3, 1) := by decide +kernel
theorem dX5_parse_29 : decode cX5_parse 29 = .ok (.bipush 12, 2) := by decide +kernel
theorem dX5_parse_31 : decode cX5_parse 31 = .ok (.if_icmp .ge 63, 3) := by decide +kernel
theorem dX5_parse_34 : decode cX5_parse 34 = .ok (.iload_n 2, 1) := by decide +kernel
theorem dX5_parse_35 : decode cX5_parse 35 = .ok (.ifCond .eq 59, 3) := by decide +kernel
theorem dX5_parse_38 : decode cX5_parse 38 = .ok (.aload_n 1, 1) := by decide +kernel
theorem dX5_parse_39 : decode cX5_parse 39 = .ok (.iload_n 3, 1) := by decide +kernel
theorem dX5_parse_40 : decode cX5_parse 40 = .ok (.invokevirtual 42, 3) := by decide +kernel
theorem dX5_parse_43 : decode cX5_parse 43 = .ok (.astore 4, 2) := by decide +kernel
theorem dX5_parse_45 : decode cX5_parse 45 = .ok (.aload 4, 2) := by decide +kernel
theorem dX5_parse_47 : decode cX5_parse 47 = .ok (.ifnull 13, 3) := by decide +kernel
theorem dX5_parse_50 : decode cX5_parse 50 = .ok (.aload_n 0, 1) := by decide +kernel
theorem dX5_parse_51 : decode cX5_parse 51 = .ok (.aload_n 1, 1) := by decide +kernel
theorem dX5_parse_52 : decode cX5_parse 52 = .ok (.aload 4, 2) := by decide +kernel
theorem dX5_parse_54 : decode cX5_parse 54 = .ok (.invokevirtual 46, 3) := by decide +kernel
theorem dX5_parse_57 : decode cX5_parse 57 = .ok (.ifCond .ne 8, 3) := by decide +kernel
theorem dX5_parse_60 : decode cX5_parse 60 = .ok (.aload_n 0, 1) := by decide +kernel
theorem dX5_parse_61 : decode cX5_parse 61 = .ok (.getfield 28, 3) := by decide +kernel
theorem dX5_parse_64 : decode cX5_parse 64 = .ok (.ireturn, 1) := by decide +kernel
theorem dX5_parse_65 : decode cX5_parse 65 = .ok (.aload_n 1, 1) := by decide +kernel
theorem dX5_parse_66 : decode cX5_parse 66 = .ok (.iload_n 3, 1) := by decide +kernel
theorem dX5_parse_67 : decode cX5_parse 67 = .ok (.iconst 1, 1) := by decide +kernel
theorem dX5_parse_68 : decode cX5_parse 68 = .ok (.iadd, 1) := by decide +kernel
theorem dX5_parse_69 : decode cX5_parse 69 = .ok (.putfield 34, 3) := by decide +kernel
theorem dX5_parse_72 : decode cX5_parse 72 = .ok (.aload_n 0, 1) := by decide +kernel
theorem dX5_parse_73 : decode cX5_parse 73 = .ok (.getfield 14, 3) := by decide +kernel
theorem dX5_parse_76 : decode cX5_parse 76 = .ok (.getfield 50, 3) := by decide +kernel
theorem dX5_parse_79 : decode cX5_parse 79 = .ok (.ifCond .eq 7, 3) := by decide +kernel
theorem dX5_parse_82 : decode cX5_parse 82 = .ok (.iconst 1, 1) := by decide +kernel
theorem dX5_parse_83 : decode cX5_parse 83 = .ok (.goto 4, 3) := by decide +kernel
theorem dX5_parse_86 : decode cX5_parse 86 = .ok (.iconst 0, 1) := by decide +kernel
theorem dX5_parse_87 : decode cX5_parse 87 = .ok (.istore_n 2, 1) := by decide +kernel
theorem dX5_parse_88 : decode cX5_parse 88 = .ok (.iinc 3 1, 3) := by decide +kernel
theorem dX5_parse_91 : decode cX5_parse 91 = .ok (.goto (-63), 3) := by decide +kernel
theorem dX5_parse_94 : decode cX5_parse 94 = .ok (.iload_n 2, 1) := by decide +kernel
theorem dX5_parse_95 : decode cX5_parse 95 = .ok (.ifCond .eq 11, 3) := by decide +kernel
theorem dX5_parse_98 : decode cX5_parse 98 = .ok (.aload_n 0, 1) := by decide +kernel
theorem dX5_parse_99 : decode cX5_parse 99 = .ok (.getfield 14, 3) := by decide +kernel
theorem dX5_parse_102 : decode cX5_parse 102 = .ok (.getfield 53, 3) := by decide +kernel
theorem dX5_parse_105 : decode cX5_parse 105 = .ok (.ireturn, 1) := by decide +kernel
theorem dX5_parse_106 : decode cX5_parse 106 = .ok (.aload_n 0, 1) := by decide +kernel
theorem dX5_parse_107 : decode cX5_parse 107 = .ok (.aload_n 1, 1) := by decide +kernel
theorem dX5_parse_108 : decode cX5_parse 108 = .ok (.invokevirtual 56, 3) := by decide +kernel
theorem dX5_parse_111 : decode cX5_parse 111 = .ok (.aload_n 0, 1) := by decide +kernel
theorem dX5_parse_112 : decode cX5_parse 112 = .ok (.getfield 31, 3) := by decide +kernel
theorem dX5_parse_115 : decode cX5_parse 115 = .ok (.ireturn, 1) := by decide +kernel
theorem dX5_faultHere_0 : decode cX5_faultHere 0 = .ok (.aload_n 0, 1) := by decide +kernel
theorem dX5_faultHere_1 : decode cX5_faultHere 1 = .ok (.aload_n 0, 1) := by decide +kernel
theorem dX5_faultHere_2 : decode cX5_faultHere 2 = .ok (.getfield 14, 3) := by decide +kernel
theorem dX5_faultHere_5 : decode cX5_faultHere 5 = .ok (.getfield 53, 3) := by decide +kernel
theorem dX5_faultHere_8 : decode cX5_faultHere 8 = .ok (.putfield 28, 3) := by decide +kernel
theorem dX5_faultHere_11 : decode cX5_faultHere 11 = .ok (.iconst 0, 1) := by decide +kernel
theorem dX5_faultHere_12 : decode cX5_faultHere 12 = .ok (.ireturn, 1) := by decide +kernel
theorem dX5_noteNameFault_0 : decode cX5_noteNameFault 0 = .ok (.aload_n 0, 1) := by decide +kernel
theorem dX5_noteNameFault_1 : decode cX5_noteNameFault 1 = .ok (.getfield 31, 3) := by decide +kernel
theorem dX5_noteNameFault_4 : decode cX5_noteNameFault 4 = .ok (.bipush (-9), 2) := by decide +kernel
theorem dX5_noteNameFault_6 : decode cX5_noteNameFault 6 = .ok (.if_icmp .eq 11, 3) := by decide +kernel
theorem dX5_noteNameFault_9 : decode cX5_noteNameFault 9 = .ok (.iload_n 1, 1) := by decide +kernel
theorem dX5_noteNameFault_10 : decode cX5_noteNameFault 10 = .ok (.aload_n 0, 1) := by decide +kernel
theorem dX5_noteNameFault_11 : decode cX5_noteNameFault 11 = .ok (.getfield 31, 3) := by decide +kernel
theorem dX5_noteNameFault_14 : decode cX5_noteNameFault 14 = .ok (.if_icmp .ge 8, 3) := by decide +kernel
theorem dX5_noteNameFault_17 : decode cX5_noteNameFault 17 = .ok (.aload_n 0, 1) := by decide +kernel
theorem dX5_noteNameFault_18 : decode cX5_noteNameFault 18 = .ok (.iload_n 1, 1) := by decide +kernel
theorem dX5_noteNameFault_19 : decode cX5_noteNameFault 19 = .ok (.putfield 31, 3) := by decide +kernel
theorem dX5_noteNameFault_22 : decode cX5_noteNameFault 22 = .ok (.return_, 1) := by decide +kernel
theorem dX5_expect_0 : decode cX5_expect 0 = .ok (.aload_n 0, 1) := by decide +kernel
theorem dX5_expect_1 : decode cX5_expect 1 = .ok (.getfield 14, 3) := by decide +kernel
theorem dX5_expect_4 : decode cX5_expect 4 = .ok (.getfield 50, 3) := by decide +kernel
theorem dX5_expect_7 : decode cX5_expect 7 = .ok (.iload_n 1, 1) := by decide +kernel
theorem dX5_expect_8 : decode cX5_expect 8 = .ok (.if_icmp .eq 8, 3) := by decide +kernel
theorem dX5_expect_11 : decode cX5_expect 11 = .ok (.aload_n 0, 1) := by decide +kernel
theorem dX5_expect_12 : decode cX5_expect 12 = .ok (.invokevirtual 60, 3) := by decide +kernel
theorem dX5_expect_15 : decode cX5_expect 15 = .ok (.ireturn, 1) := by decide +kernel
theorem dX5_expect_16 : decode cX5_expect 16 = .ok (.aload_n 0, 1) := by decide +kernel
theorem dX5_expect_17 : decode cX5_expect 17 = .ok (.getfield 14, 3) := by decide +kernel
theorem dX5_expect_20 : decode cX5_expect 20 = .ok (.invokevirtual 64, 3) := by decide +kernel
theorem dX5_expect_23 : decode cX5_expect 23 = .ok (.iconst 1, 1) := by decide +kernel
theorem dX5_expect_24 : decode cX5_expect 24 = .ok (.ireturn, 1) := by decide +kernel
theorem dX5_takeTable_0 : decode cX5_takeTable 0 = .ok (.aload_n 0, 1) := by decide +kernel
theorem dX5_takeTable_1 : decode cX5_takeTable 1 = .ok (.iconst 4, 1) := by decide +kernel
theorem dX5_takeTable_2 : decode cX5_takeTable 2 = .ok (.invokevirtual 67, 3) := by decide +kernel
theorem dX5_takeTable_5 : decode cX5_takeTable 5 = .ok (.ifCond .ne 5, 3) := by decide +kernel
theorem dX5_takeTable_8 : decode cX5_takeTable 8 = .ok (.iconst 0, 1) := by decide +kernel
theorem dX5_takeTable_9 : decode cX5_takeTable 9 = .ok (.ireturn, 1) := by decide +kernel
theorem dX5_takeTable_10 : decode cX5_takeTable 10 = .ok (.aload_n 0, 1) := by decide +kernel
theorem dX5_takeTable_11 : decode cX5_takeTable 11 = .ok (.getfield 14, 3) := by decide +kernel
theorem dX5_takeTable_14 : decode cX5_takeTable 14 = .ok (.getfield 50, 3) := by decide +kernel
theorem dX5_takeTable_17 : decode cX5_takeTable 17 = .ok (.iconst 2, 1) := by decide +kernel
theorem dX5_takeTable_18 : decode cX5_takeTable 18 = .ok (.if_icmp .ne 30, 3) := by decide +kernel
theorem dX5_takeTable_21 : decode cX5_takeTable 21 = .ok (.aload_n 1, 1) := by decide +kernel
theorem dX5_takeTable_22 : decode cX5_takeTable 22 = .ok (.aload_n 0, 1) := by decide +kernel
theorem dX5_takeTable_23 : decode cX5_takeTable 23 = .ok (.getfield 14, 3) := by decide +kernel
theorem dX5_takeTable_26 : decode cX5_takeTable 26 = .ok (.getfield 71, 3) := by decide +kernel
theorem dX5_takeTable_29 : decode cX5_takeTable 29 = .ok (.invokevirtual 75, 3) := by decide +kernel
theorem dX5_takeTable_32 : decode cX5_takeTable 32 = .ok (.bipush (-9), 2) := by decide +kernel
theorem dX5_takeTable_34 : decode cX5_takeTable 34 = .ok (.if_icmp .eq 14, 3) := by decide +kernel
theorem dX5_takeTable_37 : decode cX5_takeTable 37 = .ok (.aload_n 0, 1) := by decide +kernel
theorem dX5_takeTable_38 : decode cX5_takeTable 38 = .ok (.aload_n 0, 1) := by decide +kernel
theorem dX5_takeTable_39 : decode cX5_takeTable 39 = .ok (.getfield 14, 3) := by decide +kernel
theorem dX5_takeTable_42 : decode cX5_takeTable 42 = .ok (.getfield 53, 3) := by decide +kernel
theorem dX5_takeTable_45 : decode cX5_takeTable 45 = .ok (.invokevirtual 79, 3) := by decide +kernel
theorem dX5_takeTable_48 : decode cX5_takeTable 48 = .ok (.aload_n 2, 1) := by decide +kernel
theorem dX5_takeTable_49 : decode cX5_takeTable 49 = .ok (.aload_n 0, 1) := by decide +kernel
theorem dX5_takeTable_50 : decode cX5_takeTable 50 = .ok (.getfield 14, 3) := by decide +kernel
theorem dX5_takeTable_53 : decode cX5_takeTable 53 = .ok (.getfield 71, 3) := by decide +kernel
theorem dX5_takeTable_56 : decode cX5_takeTable 56 = .ok (.putfield 83, 3) := by decide +kernel
theorem dX5_takeTable_59 : decode cX5_takeTable 59 = .ok (.aload_n 2, 1) := by decide +kernel
theorem dX5_takeTable_60 : decode cX5_takeTable 60 = .ok (.getfield 88, 3) := by decide +kernel
theorem dX5_takeTable_63 : decode cX5_takeTable 63 = .ok (.invokevirtual 89, 3) := by decide +kernel
theorem dX5_takeTable_66 : decode cX5_takeTable 66 = .ok (.aload_n 0, 1) := by decide +kernel
theorem dX5_takeTable_67 : decode cX5_takeTable 67 = .ok (.aload_n 2, 1) := by decide +kernel
theorem dX5_takeTable_68 : decode cX5_takeTable 68 = .ok (.getfield 88, 3) := by decide +kernel
theorem dX5_takeTable_71 : decode cX5_takeTable 71 = .ok (.putfield 20, 3) := by decide +kernel
theorem dX5_takeTable_74 : decode cX5_takeTable 74 = .ok (.aload_n 0, 1) := by decide +kernel
theorem dX5_takeTable_75 : decode cX5_takeTable 75 = .ok (.iconst 0, 1) := by decide +kernel
theorem dX5_takeTable_76 : decode cX5_takeTable 76 = .ok (.putfield 24, 3) := by decide +kernel
theorem dX5_takeTable_79 : decode cX5_takeTable 79 = .ok (.aload_n 0, 1) := by decide +kernel
theorem dX5_takeTable_80 : decode cX5_takeTable 80 = .ok (.iconst 2, 1) := by decide +kernel
theorem dX5_takeTable_81 : decode cX5_takeTable 81 = .ok (.invokevirtual 67, 3) := by decide +kernel
theorem dX5_takeTable_84 : decode cX5_takeTable 84 = .ok (.ifCond .eq 67, 3) := by decide +kernel
theorem dX5_takeTable_87 : decode cX5_takeTable 87 = .ok (.aload_n 0, 1) := by decide +kernel
theorem dX5_takeTable_88 : decode cX5_takeTable 88 = .ok (.bipush 91, 2) := by decide +kernel
theorem dX5_takeTable_90 : decode cX5_takeTable 90 = .ok (.invokevirtual 67, 3) := by decide +kernel
theorem dX5_takeTable_93 : decode cX5_takeTable 93 = .ok (.ifCond .eq 58, 3) := by decide +kernel
theorem dX5_takeTable_96 : decode cX5_takeTable 96 = .ok (.aload_n 0, 1) := by decide +kernel
theorem dX5_takeTable_97 : decode cX5_takeTable 97 = .ok (.aload_n 1, 1) := by decide +kernel
theorem dX5_takeTable_98 : decode cX5_takeTable 98 = .ok (.aload_n 2, 1) := by decide +kernel
theorem dX5_takeTable_99 : decode cX5_takeTable 99 = .ok (.invokevirtual 94, 3) := by decide +kernel
theorem dX5_takeTable_102 : decode cX5_takeTable 102 = .ok (.ifCond .eq 49, 3) := by decide +kernel
theorem dX5_takeTable_105 : decode cX5_takeTable 105 = .ok (.aload_n 0, 1) := by decide +kernel
theorem dX5_takeTable_106 : decode cX5_takeTable 106 = .ok (.bipush 93, 2) := by decide +kernel
theorem dX5_takeTable_108 : decode cX5_takeTable 108 = .ok (.invokevirtual 67, 3) := by decide +kernel
theorem dX5_takeTable_111 : decode cX5_takeTable 111 = .ok (.ifCond .eq 40, 3) := by decide +kernel
theorem dX5_takeTable_114 : decode cX5_takeTable 114 = .ok (.aload_n 0, 1) := by decide +kernel
theorem dX5_takeTable_115 : decode cX5_takeTable 115 = .ok (.aload_n 2, 1) := by decide +kernel
theorem dX5_takeTable_116 : decode cX5_takeTable 116 = .ok (.invokevirtual 97, 3) := by decide +kernel
theorem dX5_takeTable_119 : decode cX5_takeTable 119 = .ok (.ifCond .eq 32, 3) := by decide +kernel
theorem dX5_takeTable_122 : decode cX5_takeTable 122 = .ok (.aload_n 0, 1) := by decide +kernel
theorem dX5_takeTable_123 : decode cX5_takeTable 123 = .ok (.bipush 61, 2) := by decide +kernel
theorem dX5_takeTable_125 : decode cX5_takeTable 125 = .ok (.invokevirtual 67, 3) := by decide +kernel
theorem dX5_takeTable_128 : decode cX5_takeTable 128 = .ok (.ifCond .eq 23, 3) := by decide +kernel
theorem dX5_takeTable_131 : decode cX5_takeTable 131 = .ok (.aload_n 0, 1) := by decide +kernel
theorem dX5_takeTable_132 : decode cX5_takeTable 132 = .ok (.iconst 0, 1) := by decide +kernel
theorem dX5_takeTable_133 : decode cX5_takeTable 133 = .ok (.invokevirtual 101, 3) := by decide +kernel
theorem dX5_takeTable_136 : decode cX5_takeTable 136 = .ok (.ifCond .eq 15, 3) := by decide +kernel
theorem dX5_takeTable_139 : decode cX5_takeTable 139 = .ok (.aload_n 0, 1) := by decide +kernel
theorem dX5_takeTable_140 : decode cX5_takeTable 140 = .ok (.aload_n 2, 1) := by decide +kernel
theorem dX5_takeTable_141 : decode cX5_takeTable 141 = .ok (.invokevirtual 104, 3) := by decide +kernel
theorem dX5_takeTable_144 : decode cX5_takeTable 144 = .ok (.ifCond .eq 7, 3) := by decide +kernel
theorem dX5_takeTable_147 : decode cX5_takeTable 147 = .ok (.iconst 1, 1) := by decide +kernel
theorem dX5_takeTable_148 : decode cX5_takeTable 148 = .ok (.goto 4, 3) := by decide +kernel
theorem dX5_takeTable_151 : decode cX5_takeTable 151 = .ok (.iconst 0, 1) := by decide +kernel
theorem dX5_takeTable_152 : decode cX5_takeTable 152 = .ok (.ireturn, 1) := by decide +kernel
theorem dX5_takeSize_0 : decode cX5_takeSize 0 = .ok (.lconst 0, 1) := by decide +kernel
theorem dX5_takeSize_1 : decode cX5_takeSize 1 = .ok (.lstore_n 3, 1) := by decide +kernel
theorem dX5_takeSize_2 : decode cX5_takeSize 2 = .ok (.bipush 43, 2) := by decide +kernel
theorem dX5_takeSize_4 : decode cX5_takeSize 4 = .ok (.istore 5, 2) := by decide +kernel
theorem dX5_takeSize_6 : decode cX5_takeSize 6 = .ok (.iconst 0, 1) := by decide +kernel
theorem dX5_takeSize_7 : decode cX5_takeSize 7 = .ok (.istore 6, 2) := by decide +kernel
theorem dX5_takeSize_9 : decode cX5_takeSize 9 = .ok (.iload 6, 2) := by decide +kernel
theorem dX5_takeSize_11 : decode cX5_takeSize 11 = .ok (.bipush 8, 2) := by decide +kernel
theorem dX5_takeSize_13 : decode cX5_takeSize 13 = .ok (.if_icmp .ge 158, 3) := by decide +kernel
theorem dX5_takeSize_16 : decode cX5_takeSize 16 = .ok (.aload_n 0, 1) := by decide +kernel
theorem dX5_takeSize_17 : decode cX5_takeSize 17 = .ok (.getfield 14, 3) := by decide +kernel
theorem dX5_takeSize_20 : decode cX5_takeSize 20 = .ok (.getfield 50, 3) := by decide +kernel
theorem dX5_takeSize_23 : decode cX5_takeSize 23 = .ok (.bipush 35, 2) := by decide +kernel
theorem dX5_takeSize_25 : decode cX5_takeSize 25 = .ok (.if_icmp .ne 7, 3) := by decide +kernel
theorem dX5_takeSize_28 : decode cX5_takeSize 28 = .ok (.iconst 1, 1) := by decide +kernel
theorem dX5_takeSize_29 : decode cX5_takeSize 29 = .ok (.goto 4, 3) := by decide +kernel
theorem dX5_takeSize_32 : decode cX5_takeSize 32 = .ok (.iconst 0, 1) := by decide +kernel
theorem dX5_takeSize_33 : decode cX5_takeSize 33 = .ok (.istore 7, 2) := by decide +kernel
theorem dX5_takeSize_35 : decode cX5_takeSize 35 = .ok (.iload 7, 2) := by decide +kernel
theorem dX5_takeSize_37 : decode cX5_takeSize 37 = .ok (.ifCond .eq 10, 3) := by decide +kernel
theorem dX5_takeSize_40 : decode cX5_takeSize 40 = .ok (.aload_n 0, 1) := by decide +kernel
theorem dX5_takeSize_41 : decode cX5_takeSize 41 = .ok (.getfield 14, 3) := by decide +kernel
theorem dX5_takeSize_44 : decode cX5_takeSize 44 = .ok (.invokevirtual 64, 3) := by decide +kernel
theorem dX5_takeSize_47 : decode cX5_takeSize 47 = .ok (.iload 7, 2) := by decide +kernel
theorem dX5_takeSize_49 : decode cX5_takeSize 49 = .ok (.ifCond .eq 11, 3) := by decide +kernel
theorem dX5_takeSize_52 : decode cX5_takeSize 52 = .ok (.aload_n 0, 1) := by decide +kernel
theorem dX5_takeSize_53 : decode cX5_takeSize 53 = .ok (.aload_n 1, 1) := by decide +kernel
theorem dX5_takeSize_54 : decode cX5_takeSize 54 = .ok (.invokevirtual 107, 3) := by decide +kernel
theorem dX5_takeSize_57 : decode cX5_takeSize 57 = .ok (.goto 10, 3) := by decide +kernel
theorem dX5_takeSize_60 : decode cX5_takeSize 60 = .ok (.aload_n 0, 1) := by decide +kernel
theorem dX5_takeSize_61 : decode cX5_takeSize 61 = .ok (.getfield 14, 3) := by decide +kernel
theorem dX5_takeSize_64 : decode cX5_takeSize 64 = .ok (.getfield 71, 3) := by decide +kernel
theorem dX5_takeSize_67 : decode cX5_takeSize 67 = .ok (.lstore 8, 2) := by decide +kernel
theorem dX5_takeSize_69 : decode cX5_takeSize 69 = .ok (.aload_n 0, 1) := by decide +kernel
theorem dX5_takeSize_70 : decode cX5_takeSize 70 = .ok (.iload 7, 2) := by decide +kernel
theorem dX5_takeSize_72 : decode cX5_takeSize 72 = .ok (.ifCond .eq 7, 3) := by decide +kernel
theorem dX5_takeSize_75 : decode cX5_takeSize 75 = .ok (.iconst 2, 1) := by decide +kernel
theorem dX5_takeSize_76 : decode cX5_takeSize 76 = .ok (.goto 4, 3) := by decide +kernel
theorem dX5_takeSize_79 : decode cX5_takeSize 79 = .ok (.iconst 1, 1) := by decide +kernel
theorem dX5_takeSize_80 : decode cX5_takeSize 80 = .ok (.invokevirtual 67, 3) := by decide +kernel
theorem dX5_takeSize_83 : decode cX5_takeSize 83 = .ok (.ifCond .ne 5, 3) := by decide +kernel
theorem dX5_takeSize_86 : decode cX5_takeSize 86 = .ok (.iconst 0, 1) := by decide +kernel
theorem dX5_takeSize_87 : decode cX5_takeSize 87 = .ok (.ireturn, 1) := by decide +kernel
theorem dX5_takeSize_88 : decode cX5_takeSize 88 = .ok (.iload 5, 2) := by decide +kernel
theorem dX5_takeSize_90 : decode cX5_takeSize 90 = .ok (.bipush 43, 2) := by decide +kernel
theorem dX5_takeSize_92 : decode cX5_takeSize 92 = .ok (.if_icmp .ne 10, 3) := by decide +kernel
theorem dX5_takeSize_95 : decode cX5_takeSize 95 = .ok (.lload_n 3, 1) := by decide +kernel
theorem dX5_takeSize_96 : decode cX5_takeSize 96 = .ok (.lload 8, 2) := by decide +kernel
theorem dX5_takeSize_98 : decode cX5_takeSize 98 = .ok (.ladd, 1) := by decide +kernel
theorem dX5_takeSize_99 : decode cX5_takeSize 99 = .ok (.goto 21, 3) := by decide +kernel
theorem dX5_takeSize_102 : decode cX5_takeSize 102 = .ok (.iload 5, 2) := by decide +kernel
theorem dX5_takeSize_104 : decode cX5_takeSize 104 = .ok (.bipush 45, 2) := by decide +kernel
theorem dX5_takeSize_106 : decode cX5_takeSize 106 = .ok (.if_icmp .ne 10, 3) := by decide +kernel
theorem dX5_takeSize_109 : decode cX5_takeSize 109 = .ok (.lload_n 3, 1) := by decide +kernel
theorem dX5_takeSize_110 : decode cX5_takeSize 110 = .ok (.lload 8, 2) := by decide +kernel
theorem dX5_takeSize_112 : decode cX5_takeSize 112 = .ok (.lsub, 1) := by decide +kernel
theorem dX5_takeSize_113 : decode cX5_takeSize 113 = .ok (.goto 7, 3) := by decide +kernel
theorem dX5_takeSize_116 : decode cX5_takeSize 116 = .ok (.lload_n 3, 1) := by decide +kernel
theorem dX5_takeSize_117 : decode cX5_takeSize 117 = .ok (.lload 8, 2) := by decide +kernel
theorem dX5_takeSize_119 : decode cX5_takeSize 119 = .ok (.lmul, 1) := by decide +kernel
theorem dX5_takeSize_120 : decode cX5_takeSize 120 = .ok (.lstore_n 3, 1) := by decide +kernel
theorem dX5_takeSize_121 : decode cX5_takeSize 121 = .ok (.aload_n 0, 1) := by decide +kernel
theorem dX5_takeSize_122 : decode cX5_takeSize 122 = .ok (.getfield 14, 3) := by decide +kernel
theorem dX5_takeSize_125 : decode cX5_takeSize 125 = .ok (.getfield 50, 3) := by decide +kernel
theorem dX5_takeSize_128 : decode cX5_takeSize 128 = .ok (.istore 5, 2) := by decide +kernel
theorem dX5_takeSize_130 : decode cX5_takeSize 130 = .ok (.iload 5, 2) := by decide +kernel
theorem dX5_takeSize_132 : decode cX5_takeSize 132 = .ok (.bipush 43, 2) := by decide +kernel
theorem dX5_takeSize_134 : decode cX5_takeSize 134 = .ok (.if_icmp .eq 24, 3) := by decide +kernel
theorem dX5_takeSize_137 : decode cX5_takeSize 137 = .ok (.iload 5, 2) := by decide +kernel
theorem dX5_takeSize_139 : decode cX5_takeSize 139 = .ok (.bipush 45, 2) := by decide +kernel
theorem dX5_takeSize_141 : decode cX5_takeSize 141 = .ok (.if_icmp .eq 17, 3) := by decide +kernel
theorem dX5_takeSize_144 : decode cX5_takeSize 144 = .ok (.iload 5, 2) := by decide +kernel
theorem dX5_takeSize_146 : decode cX5_takeSize 146 = .ok (.bipush 42, 2) := by decide +kernel
theorem dX5_takeSize_148 : decode cX5_takeSize 148 = .ok (.if_icmp .eq 10, 3) := by decide +kernel
theorem dX5_takeSize_151 : decode cX5_takeSize 151 = .ok (.aload_n 2, 1) := by decide +kernel
theorem dX5_takeSize_152 : decode cX5_takeSize 152 = .ok (.lload_n 3, 1) := by decide +kernel
theorem dX5_takeSize_153 : decode cX5_takeSize 153 = .ok (.putfield 111, 3) := by decide +kernel
theorem dX5_takeSize_156 : decode cX5_takeSize 156 = .ok (.iconst 1, 1) := by decide +kernel
theorem dX5_takeSize_157 : decode cX5_takeSize 157 = .ok (.ireturn, 1) := by decide +kernel
theorem dX5_takeSize_158 : decode cX5_takeSize 158 = .ok (.aload_n 0, 1) := by decide +kernel
theorem dX5_takeSize_159 : decode cX5_takeSize 159 = .ok (.getfield 14, 3) := by decide +kernel
theorem dX5_takeSize_162 : decode cX5_takeSize 162 = .ok (.invokevirtual 64, 3) := by decide +kernel
theorem dX5_takeSize_165 : decode cX5_takeSize 165 = .ok (.iinc 6 1, 3) := by decide +kernel
theorem dX5_takeSize_168 : decode cX5_takeSize 168 = .ok (.goto (-159), 3) := by decide +kernel
theorem dX5_takeSize_171 : decode cX5_takeSize 171 = .ok (.aload_n 0, 1) := by decide +kernel
theorem dX5_takeSize_172 : decode cX5_takeSize 172 = .ok (.invokevirtual 60, 3) := by decide +kernel
theorem dX5_takeSize_175 : decode cX5_takeSize 175 = .ok (.ireturn, 1) := by decide +kernel
theorem dX5_sizeToldAhead_0 : decode cX5_sizeToldAhead 0 = .ok (.aload_n 1, 1) := by decide +kernel
theorem dX5_sizeToldAhead_1 : decode cX5_sizeToldAhead 1 = .ok (.aload_n 0, 1) := by decide +kernel
theorem dX5_sizeToldAhead_2 : decode cX5_sizeToldAhead 2 = .ok (.getfield 14, 3) := by decide +kernel
theorem dX5_sizeToldAhead_5 : decode cX5_sizeToldAhead 5 = .ok (.getfield 71, 3) := by decide +kernel
theorem dX5_sizeToldAhead_8 : decode cX5_sizeToldAhead 8 = .ok (.invokevirtual 75, 3) := by decide +kernel
theorem dX5_sizeToldAhead_11 : decode cX5_sizeToldAhead 11 = .ok (.istore_n 2, 1) := by decide +kernel
theorem dX5_sizeToldAhead_12 : decode cX5_sizeToldAhead 12 = .ok (.aload_n 0, 1) := by decide +kernel
theorem dX5_sizeToldAhead_13 : decode cX5_sizeToldAhead 13 = .ok (.getfield 14, 3) := by decide +kernel
theorem dX5_sizeToldAhead_16 : decode cX5_sizeToldAhead 16 = .ok (.getfield 50, 3) := by decide +kernel
theorem dX5_sizeToldAhead_19 : decode cX5_sizeToldAhead 19 = .ok (.iconst 2, 1) := by decide +kernel
theorem dX5_sizeToldAhead_20 : decode cX5_sizeToldAhead 20 = .ok (.if_icmp .ne 20, 3) := by decide +kernel
theorem dX5_sizeToldAhead_23 : decode cX5_sizeToldAhead 23 = .ok (.iload_n 2, 1) := by decide +kernel
theorem dX5_sizeToldAhead_24 : decode cX5_sizeToldAhead 24 = .ok (.bipush (-9), 2) := by decide +kernel
theorem dX5_sizeToldAhead_26 : decode cX5_sizeToldAhead 26 = .ok (.if_icmp .ne 14, 3) := by decide +kernel
theorem dX5_sizeToldAhead_29 : decode cX5_sizeToldAhead 29 = .ok (.aload_n 0, 1) := by decide +kernel
theorem dX5_sizeToldAhead_30 : decode cX5_sizeToldAhead 30 = .ok (.aload_n 0, 1) := by decide +kernel
theorem dX5_sizeToldAhead_31 : decode cX5_sizeToldAhead 31 = .ok (.getfield 14, 3) := by decide +kernel
theorem dX5_sizeToldAhead_34 : decode cX5_sizeToldAhead 34 = .ok (.getfield 53, 3) := by decide +kernel
theorem dX5_sizeToldAhead_37 : decode cX5_sizeToldAhead 37 = .ok (.invokevirtual 79, 3) := by decide +kernel
theorem dX5_sizeToldAhead_40 : decode cX5_sizeToldAhead 40 = .ok (.aload_n 1, 1) := by decide +kernel
theorem dX5_sizeToldAhead_41 : decode cX5_sizeToldAhead 41 = .ok (.iload_n 2, 1) := by decide +kernel
theorem dX5_sizeToldAhead_42 : decode cX5_sizeToldAhead 42 = .ok (.invokevirtual 114, 3) := by decide +kernel
theorem dX5_sizeToldAhead_45 : decode cX5_sizeToldAhead 45 = .ok (.lreturn, 1) := by decide +kernel
theorem dX5_takeManner_0 : decode cX5_takeManner 0 = .ok (.aload_n 1, 1) := by decide +kernel
theorem dX5_takeManner_1 : decode cX5_takeManner 1 = .ok (.aload_n 0, 1) := by decide +kernel
theorem dX5_takeManner_2 : decode cX5_takeManner 2 = .ok (.getfield 14, 3) := by decide +kernel
theorem dX5_takeManner_5 : decode cX5_takeManner 5 = .ok (.getfield 50, 3) := by decide +kernel
theorem dX5_takeManner_8 : decode cX5_takeManner 8 = .ok (.bipush 6, 2) := by decide +kernel
theorem dX5_takeManner_10 : decode cX5_takeManner 10 = .ok (.if_icmp .ne 7, 3) := by decide +kernel
theorem dX5_takeManner_13 : decode cX5_takeManner 13 = .ok (.iconst 1, 1) := by decide +kernel
theorem dX5_takeManner_14 : decode cX5_takeManner 14 = .ok (.goto 4, 3) := by decide +kernel
theorem dX5_takeManner_17 : decode cX5_takeManner 17 = .ok (.iconst 0, 1) := by decide +kernel
theorem dX5_takeManner_18 : decode cX5_takeManner 18 = .ok (.putfield 118, 3) := by decide +kernel
theorem dX5_takeManner_21 : decode cX5_takeManner 21 = .ok (.aload_n 1, 1) := by decide +kernel
theorem dX5_takeManner_22 : decode cX5_takeManner 22 = .ok (.getfield 118, 3) := by decide +kernel
theorem dX5_takeManner_25 : decode cX5_takeManner 25 = .ok (.ifCond .eq 12, 3) := by decide +kernel
theorem dX5_takeManner_28 : decode cX5_takeManner 28 = .ok (.aload_n 0, 1) := by decide +kernel
theorem dX5_takeManner_29 : decode cX5_takeManner 29 = .ok (.bipush 6, 2) := by decide +kernel
theorem dX5_takeManner_31 : decode cX5_takeManner 31 = .ok (.invokevirtual 67, 3) := by decide +kernel
theorem dX5_takeManner_34 : decode cX5_takeManner 34 = .ok (.goto 8, 3) := by decide +kernel
theorem dX5_takeManner_37 : decode cX5_takeManner 37 = .ok (.aload_n 0, 1) := by decide +kernel
theorem dX5_takeManner_38 : decode cX5_takeManner 38 = .ok (.iconst 5, 1) := by decide +kernel
theorem dX5_takeManner_39 : decode cX5_takeManner 39 = .ok (.invokevirtual 67, 3) := by decide +kernel
theorem dX5_takeManner_42 : decode cX5_takeManner 42 = .ok (.ireturn, 1) := by decide +kernel
theorem dX5_takeEnd_0 : decode cX5_takeEnd 0 = .ok (.aload_n 1, 1) := by decide +kernel
theorem dX5_takeEnd_1 : decode cX5_takeEnd 1 = .ok (.aload_n 0, 1) := by decide +kernel
theorem dX5_takeEnd_2 : decode cX5_takeEnd 2 = .ok (.getfield 14, 3) := by decide +kernel
theorem dX5_takeEnd_5 : decode cX5_takeEnd 5 = .ok (.getfield 50, 3) := by decide +kernel
theorem dX5_takeEnd_8 : decode cX5_takeEnd 8 = .ok (.bipush 7, 2) := by decide +kernel
theorem dX5_takeEnd_10 : decode cX5_takeEnd 10 = .ok (.if_icmp .ne 7, 3) := by decide +kernel
theorem dX5_takeEnd_13 : decode cX5_takeEnd 13 = .ok (.iconst 1, 1) := by decide +kernel
theorem dX5_takeEnd_14 : decode cX5_takeEnd 14 = .ok (.goto 4, 3) := by decide +kernel
theorem dX5_takeEnd_17 : decode cX5_takeEnd 17 = .ok (.iconst 0, 1) := by decide +kernel
theorem dX5_takeEnd_18 : decode cX5_takeEnd 18 = .ok (.putfield 122, 3) := by decide +kernel
theorem dX5_takeEnd_21 : decode cX5_takeEnd 21 = .ok (.aload_n 1, 1) := by decide +kernel
theorem dX5_takeEnd_22 : decode cX5_takeEnd 22 = .ok (.getfield 122, 3) := by decide +kernel
theorem dX5_takeEnd_25 : decode cX5_takeEnd 25 = .ok (.ifCond .eq 75, 3) := by decide +kernel
theorem dX5_takeEnd_28 : decode cX5_takeEnd 28 = .ok (.aload_n 0, 1) := by decide +kernel
theorem dX5_takeEnd_29 : decode cX5_takeEnd 29 = .ok (.getfield 14, 3) := by decide +kernel
theorem dX5_takeEnd_32 : decode cX5_takeEnd 32 = .ok (.invokevirtual 64, 3) := by decide +kernel
theorem dX5_takeEnd_35 : decode cX5_takeEnd 35 = .ok (.aload_n 0, 1) := by decide +kernel
theorem dX5_takeEnd_36 : decode cX5_takeEnd 36 = .ok (.getfield 14, 3) := by decide +kernel
theorem dX5_takeEnd_39 : decode cX5_takeEnd 39 = .ok (.getfield 50, 3) := by decide +kernel
theorem dX5_takeEnd_42 : decode cX5_takeEnd 42 = .ok (.bipush 45, 2) := by decide +kernel
theorem dX5_takeEnd_44 : decode cX5_takeEnd 44 = .ok (.if_icmp .ne 7, 3) := by decide +kernel
theorem dX5_takeEnd_47 : decode cX5_takeEnd 47 = .ok (.iconst 1, 1) := by decide +kernel
theorem dX5_takeEnd_48 : decode cX5_takeEnd 48 = .ok (.goto 4, 3) := by decide +kernel
theorem dX5_takeEnd_51 : decode cX5_takeEnd 51 = .ok (.iconst 0, 1) := by decide +kernel
theorem dX5_takeEnd_52 : decode cX5_takeEnd 52 = .ok (.istore_n 2, 1) := by decide +kernel
theorem dX5_takeEnd_53 : decode cX5_takeEnd 53 = .ok (.iload_n 2, 1) := by decide +kernel
theorem dX5_takeEnd_54 : decode cX5_takeEnd 54 = .ok (.ifCond .eq 10, 3) := by decide +kernel
theorem dX5_takeEnd_57 : decode cX5_takeEnd 57 = .ok (.aload_n 0, 1) := by decide +kernel
theorem dX5_takeEnd_58 : decode cX5_takeEnd 58 = .ok (.getfield 14, 3) := by decide +kernel
theorem dX5_takeEnd_61 : decode cX5_takeEnd 61 = .ok (.invokevirtual 64, 3) := by decide +kernel
theorem dX5_takeEnd_64 : decode cX5_takeEnd 64 = .ok (.aload_n 1, 1) := by decide +kernel
theorem dX5_takeEnd_65 : decode cX5_takeEnd 65 = .ok (.iload_n 2, 1) := by decide +kernel
theorem dX5_takeEnd_66 : decode cX5_takeEnd 66 = .ok (.ifCond .eq 14, 3) := by decide +kernel
theorem dX5_takeEnd_69 : decode cX5_takeEnd 69 = .ok (.aload_n 0, 1) := by decide +kernel
theorem dX5_takeEnd_70 : decode cX5_takeEnd 70 = .ok (.getfield 14, 3) := by decide +kernel
theorem dX5_takeEnd_73 : decode cX5_takeEnd 73 = .ok (.getfield 71, 3) := by decide +kernel
theorem dX5_takeEnd_76 : decode cX5_takeEnd 76 = .ok (.lneg, 1) := by decide +kernel
theorem dX5_takeEnd_77 : decode cX5_takeEnd 77 = .ok (.goto 10, 3) := by decide +kernel
theorem dX5_takeEnd_80 : decode cX5_takeEnd 80 = .ok (.aload_n 0, 1) := by decide +kernel
theorem dX5_takeEnd_81 : decode cX5_takeEnd 81 = .ok (.getfield 14, 3) := by decide +kernel
theorem dX5_takeEnd_84 : decode cX5_takeEnd 84 = .ok (.getfield 71, 3) := by decide +kernel
theorem dX5_takeEnd_87 : decode cX5_takeEnd 87 = .ok (.putfield 125, 3) := by decide +kernel
theorem dX5_takeEnd_90 : decode cX5_takeEnd 90 = .ok (.aload_n 0, 1) := by decide +kernel
theorem dX5_takeEnd_91 : decode cX5_takeEnd 91 = .ok (.iconst 1, 1) := by decide +kernel
theorem dX5_takeEnd_92 : decode cX5_takeEnd 92 = .ok (.invokevirtual 67, 3) := by decide +kernel
theorem dX5_takeEnd_95 : decode cX5_takeEnd 95 = .ok (.ifCond .ne 5, 3) := by decide +kernel
theorem dX5_takeEnd_98 : decode cX5_takeEnd 98 = .ok (.iconst 0, 1) := by decide +kernel
theorem dX5_takeEnd_99 : decode cX5_takeEnd 99 = .ok (.ireturn, 1) := by decide +kernel
theorem dX5_takeEnd_100 : decode cX5_takeEnd 100 = .ok (.aload_n 0, 1) := by decide +kernel
theorem dX5_takeEnd_101 : decode cX5_takeEnd 101 = .ok (.bipush 59, 2) := by decide +kernel
theorem dX5_takeEnd_103 : decode cX5_takeEnd 103 = .ok (.invokevirtual 67, 3) := by decide +kernel
theorem dX5_takeEnd_106 : decode cX5_takeEnd 106 = .ok (.ireturn, 1) := by decide +kernel
theorem dX5_addStep_0 : decode cX5_addStep 0 = .ok (.aload_n 0, 1) := by decide +kernel
theorem dX5_addStep_1 : decode cX5_addStep 1 = .ok (.getfield 20, 3) := by decide +kernel
theorem dX5_addStep_4 : decode cX5_addStep 4 = .ok (.ifnull 14, 3) := by decide +kernel
theorem dX5_addStep_7 : decode cX5_addStep 7 = .ok (.aload_n 0, 1) := by decide +kernel
theorem dX5_addStep_8 : decode cX5_addStep 8 = .ok (.getfield 20, 3) := by decide +kernel
theorem dX5_addStep_11 : decode cX5_addStep 11 = .ok (.iload_n 1, 1) := by decide +kernel
theorem dX5_addStep_12 : decode cX5_addStep 12 = .ok (.lload_n 2, 1) := by decide +kernel
theorem dX5_addStep_13 : decode cX5_addStep 13 = .ok (.iload 4, 2) := by decide +kernel
theorem dX5_addStep_15 : decode cX5_addStep 15 = .ok (.invokevirtual 128, 3) := by decide +kernel
theorem dX5_addStep_18 : decode cX5_addStep 18 = .ok (.return_, 1) := by decide +kernel
theorem dX5_takeSum_0 : decode cX5_takeSum 0 = .ok (.aload_n 0, 1) := by decide +kernel
theorem dX5_takeSum_1 : decode cX5_takeSum 1 = .ok (.iload_n 1, 1) := by decide +kernel
theorem dX5_takeSum_2 : decode cX5_takeSum 2 = .ok (.invokevirtual 132, 3) := by decide +kernel
theorem dX5_takeSum_5 : decode cX5_takeSum 5 = .ok (.ifCond .ne 5, 3) := by decide +kernel
theorem dX5_takeSum_8 : decode cX5_takeSum 8 = .ok (.iconst 0, 1) := by decide +kernel
theorem dX5_takeSum_9 : decode cX5_takeSum 9 = .ok (.ireturn, 1) := by decide +kernel
theorem dX5_takeSum_10 : decode cX5_takeSum 10 = .ok (.iconst 0, 1) := by decide +kernel
theorem dX5_takeSum_11 : decode cX5_takeSum 11 = .ok (.istore_n 2, 1) := by decide +kernel
theorem dX5_takeSum_12 : decode cX5_takeSum 12 = .ok (.iload_n 2, 1) := by decide +kernel
theorem dX5_takeSum_13 : decode cX5_takeSum 13 = .ok (.sipush 900, 3) := by decide +kernel
theorem dX5_takeSum_16 : decode cX5_takeSum 16 = .ok (.if_icmp .ge 66, 3) := by decide +kernel
theorem dX5_takeSum_19 : decode cX5_takeSum 19 = .ok (.aload_n 0, 1) := by decide +kernel
theorem dX5_takeSum_20 : decode cX5_takeSum 20 = .ok (.getfield 14, 3) := by decide +kernel
theorem dX5_takeSum_23 : decode cX5_takeSum 23 = .ok (.getfield 50, 3) := by decide +kernel
theorem dX5_takeSum_26 : decode cX5_takeSum 26 = .ok (.bipush 43, 2) := by decide +kernel
theorem dX5_takeSum_28 : decode cX5_takeSum 28 = .ok (.if_icmp .eq 15, 3) := by decide +kernel
theorem dX5_takeSum_31 : decode cX5_takeSum 31 = .ok (.aload_n 0, 1) := by decide +kernel
theorem dX5_takeSum_32 : decode cX5_takeSum 32 = .ok (.getfield 14, 3) := by decide +kernel
theorem dX5_takeSum_35 : decode cX5_takeSum 35 = .ok (.getfield 50, 3) := by decide +kernel
theorem dX5_takeSum_38 : decode cX5_takeSum 38 = .ok (.bipush 45, 2) := by decide +kernel
theorem dX5_takeSum_40 : decode cX5_takeSum 40 = .ok (.if_icmp .ne 42, 3) := by decide +kernel
theorem dX5_takeSum_43 : decode cX5_takeSum 43 = .ok (.aload_n 0, 1) := by decide +kernel
theorem dX5_takeSum_44 : decode cX5_takeSum 44 = .ok (.getfield 14, 3) := by decide +kernel
theorem dX5_takeSum_47 : decode cX5_takeSum 47 = .ok (.getfield 50, 3) := by decide +kernel
theorem dX5_takeSum_50 : decode cX5_takeSum 50 = .ok (.istore_n 3, 1) := by decide +kernel
theorem dX5_takeSum_51 : decode cX5_takeSum 51 = .ok (.aload_n 0, 1) := by decide +kernel
theorem dX5_takeSum_52 : decode cX5_takeSum 52 = .ok (.getfield 14, 3) := by decide +kernel
theorem dX5_takeSum_55 : decode cX5_takeSum 55 = .ok (.invokevirtual 64, 3) := by decide +kernel
theorem dX5_takeSum_58 : decode cX5_takeSum 58 = .ok (.aload_n 0, 1) := by decide +kernel
theorem dX5_takeSum_59 : decode cX5_takeSum 59 = .ok (.iload_n 1, 1) := by decide +kernel
theorem dX5_takeSum_60 : decode cX5_takeSum 60 = .ok (.invokevirtual 132, 3) := by decide +kernel
theorem dX5_takeSum_63 : decode cX5_takeSum 63 = .ok (.ifCond .ne 5, 3) := by decide +kernel
theorem dX5_takeSum_66 : decode cX5_takeSum 66 = .ok (.iconst 0, 1) := by decide +kernel
theorem dX5_takeSum_67 : decode cX5_takeSum 67 = .ok (.ireturn, 1) := by decide +kernel
theorem dX5_takeSum_68 : decode cX5_takeSum 68 = .ok (.aload_n 0, 1) := by decide +kernel
theorem dX5_takeSum_69 : decode cX5_takeSum 69 = .ok (.iload_n 3, 1) := by decide +kernel
theorem dX5_takeSum_70 : decode cX5_takeSum 70 = .ok (.lconst 0, 1) := by decide +kernel
theorem dX5_takeSum_71 : decode cX5_takeSum 71 = .ok (.bipush (-9), 2) := by decide +kernel
theorem dX5_takeSum_73 : decode cX5_takeSum 73 = .ok (.invokevirtual 135, 3) := by decide +kernel
theorem dX5_takeSum_76 : decode cX5_takeSum 76 = .ok (.iinc 2 1, 3) := by decide +kernel
theorem dX5_takeSum_79 : decode cX5_takeSum 79 = .ok (.goto (-67), 3) := by decide +kernel
theorem dX5_takeSum_82 : decode cX5_takeSum 82 = .ok (.iconst 1, 1) := by decide +kernel
theorem dX5_takeSum_83 : decode cX5_takeSum 83 = .ok (.ireturn, 1) := by decide +kernel
theorem dX5_takeProduct_0 : decode cX5_takeProduct 0 = .ok (.aload_n 0, 1) := by decide +kernel
theorem dX5_takeProduct_1 : decode cX5_takeProduct 1 = .ok (.iload_n 1, 1) := by decide +kernel
theorem dX5_takeProduct_2 : decode cX5_takeProduct 2 = .ok (.invokevirtual 138, 3) := by decide +kernel
theorem dX5_takeProduct_5 : decode cX5_takeProduct 5 = .ok (.ifCond .ne 5, 3) := by decide +kernel
theorem dX5_takeProduct_8 : decode cX5_takeProduct 8 = .ok (.iconst 0, 1) := by decide +kernel
theorem dX5_takeProduct_9 : decode cX5_takeProduct 9 = .ok (.ireturn, 1) := by decide +kernel
theorem dX5_takeProduct_10 : decode cX5_takeProduct 10 = .ok (.iconst 0, 1) := by decide +kernel
theorem dX5_takeProduct_11 : decode cX5_takeProduct 11 = .ok (.istore_n 2, 1) := by decide +kernel
theorem dX5_takeProduct_12 : decode cX5_takeProduct 12 = .ok (.iload_n 2, 1) := by decide +kernel
theorem dX5_takeProduct_13 : decode cX5_takeProduct 13 = .ok (.sipush 900, 3) := by decide +kernel
theorem dX5_takeProduct_16 : decode cX5_takeProduct 16 = .ok (.if_icmp .ge 55, 3) := by decide +kernel
theorem dX5_takeProduct_19 : decode cX5_takeProduct 19 = .ok (.aload_n 0, 1) := by decide +kernel
theorem dX5_takeProduct_20 : decode cX5_takeProduct 20 = .ok (.getfield 14, 3) := by decide +kernel
theorem dX5_takeProduct_23 : decode cX5_takeProduct 23 = .ok (.getfield 50, 3) := by decide +kernel
theorem dX5_takeProduct_26 : decode cX5_takeProduct 26 = .ok (.invokestatic 141, 3) := by decide +kernel
theorem dX5_takeProduct_29 : decode cX5_takeProduct 29 = .ok (.ifCond .eq 42, 3) := by decide +kernel
theorem dX5_takeProduct_32 : decode cX5_takeProduct 32 = .ok (.aload_n 0, 1) := by decide +kernel
theorem dX5_takeProduct_33 : decode cX5_takeProduct 33 = .ok (.getfield 14, 3) := by decide +kernel
theorem dX5_takeProduct_36 : decode cX5_takeProduct 36 = .ok (.getfield 50, 3) := by decide +kernel
theorem dX5_takeProduct_39 : decode cX5_takeProduct 39 = .ok (.istore_n 3, 1) := by decide +kernel
theorem dX5_takeProduct_40 : decode cX5_takeProduct 40 = .ok (.aload_n 0, 1) := by decide +kernel
theorem dX5_takeProduct_41 : decode cX5_takeProduct 41 = .ok (.getfield 14, 3) := by decide +kernel
theorem dX5_takeProduct_44 : decode cX5_takeProduct 44 = .ok (.invokevirtual 64, 3) := by decide +kernel
theorem dX5_takeProduct_47 : decode cX5_takeProduct 47 = .ok (.aload_n 0, 1) := by decide +kernel
theorem dX5_takeProduct_48 : decode cX5_takeProduct 48 = .ok (.iload_n 1, 1) := by decide +kernel
theorem dX5_takeProduct_49 : decode cX5_takeProduct 49 = .ok (.invokevirtual 138, 3) := by decide +kernel
theorem dX5_takeProduct_52 : decode cX5_takeProduct 52 = .ok (.ifCond .ne 5, 3) := by decide +kernel
theorem dX5_takeProduct_55 : decode cX5_takeProduct 55 = .ok (.iconst 0, 1) := by decide +kernel
theorem dX5_takeProduct_56 : decode cX5_takeProduct 56 = .ok (.ireturn, 1) := by decide +kernel
theorem dX5_takeProduct_57 : decode cX5_takeProduct 57 = .ok (.aload_n 0, 1) := by decide +kernel
theorem dX5_takeProduct_58 : decode cX5_takeProduct 58 = .ok (.iload_n 3, 1) := by decide +kernel
theorem dX5_takeProduct_59 : decode cX5_takeProduct 59 = .ok (.lconst 0, 1) := by decide +kernel
theorem dX5_takeProduct_60 : decode cX5_takeProduct 60 = .ok (.bipush (-9), 2) := by decide +kernel
theorem dX5_takeProduct_62 : decode cX5_takeProduct 62 = .ok (.invokevirtual 135, 3) := by decide +kernel
theorem dX5_takeProduct_65 : decode cX5_takeProduct 65 = .ok (.iinc 2 1, 3) := by decide +kernel
theorem dX5_takeProduct_68 : decode cX5_takeProduct 68 = .ok (.goto (-56), 3) := by decide +kernel
theorem dX5_takeProduct_71 : decode cX5_takeProduct 71 = .ok (.iconst 1, 1) := by decide +kernel
theorem dX5_takeProduct_72 : decode cX5_takeProduct 72 = .ok (.ireturn, 1) := by decide +kernel
theorem dX5_isProductSign_0 : decode cX5_isProductSign 0 = .ok (.iload_n 0, 1) := by decide +kernel
theorem dX5_isProductSign_1 : decode cX5_isProductSign 1 = .ok (.bipush 42, 2) := by decide +kernel
theorem dX5_isProductSign_3 : decode cX5_isProductSign 3 = .ok (.if_icmp .eq 15, 3) := by decide +kernel
theorem dX5_isProductSign_6 : decode cX5_isProductSign 6 = .ok (.iload_n 0, 1) := by decide +kernel
theorem dX5_isProductSign_7 : decode cX5_isProductSign 7 = .ok (.bipush 47, 2) := by decide +kernel
theorem dX5_isProductSign_9 : decode cX5_isProductSign 9 = .ok (.if_icmp .eq 9, 3) := by decide +kernel
theorem dX5_isProductSign_12 : decode cX5_isProductSign 12 = .ok (.iload_n 0, 1) := by decide +kernel
theorem dX5_isProductSign_13 : decode cX5_isProductSign 13 = .ok (.bipush 37, 2) := by decide +kernel
theorem dX5_isProductSign_15 : decode cX5_isProductSign 15 = .ok (.if_icmp .ne 7, 3) := by decide +kernel
theorem dX5_isProductSign_18 : decode cX5_isProductSign 18 = .ok (.iconst 1, 1) := by decide +kernel
theorem dX5_isProductSign_19 : decode cX5_isProductSign 19 = .ok (.goto 4, 3) := by decide +kernel
theorem dX5_isProductSign_22 : decode cX5_isProductSign 22 = .ok (.iconst 0, 1) := by decide +kernel
theorem dX5_isProductSign_23 : decode cX5_isProductSign 23 = .ok (.ireturn, 1) := by decide +kernel
theorem dX5_takeUnit_0 : decode cX5_takeUnit 0 = .ok (.aload_n 0, 1) := by decide +kernel
theorem dX5_takeUnit_1 : decode cX5_takeUnit 1 = .ok (.getfield 24, 3) := by decide +kernel
theorem dX5_takeUnit_4 : decode cX5_takeUnit 4 = .ok (.bipush 24, 2) := by decide +kernel
theorem dX5_takeUnit_6 : decode cX5_takeUnit 6 = .ok (.if_icmp .ge 9, 3) := by decide +kernel
theorem dX5_takeUnit_9 : decode cX5_takeUnit 9 = .ok (.iload_n 1, 1) := by decide +kernel
theorem dX5_takeUnit_10 : decode cX5_takeUnit 10 = .ok (.bipush 10, 2) := by decide +kernel
theorem dX5_takeUnit_12 : decode cX5_takeUnit 12 = .ok (.if_icmp .le 8, 3) := by decide +kernel
theorem dX5_takeUnit_15 : decode cX5_takeUnit 15 = .ok (.aload_n 0, 1) := by decide +kernel
theorem dX5_takeUnit_16 : decode cX5_takeUnit 16 = .ok (.invokevirtual 60, 3) := by decide +kernel
theorem dX5_takeUnit_19 : decode cX5_takeUnit 19 = .ok (.ireturn, 1) := by decide +kernel
theorem dX5_takeUnit_20 : decode cX5_takeUnit 20 = .ok (.aload_n 0, 1) := by decide +kernel
theorem dX5_takeUnit_21 : decode cX5_takeUnit 21 = .ok (.dup, 1) := by decide +kernel
theorem dX5_takeUnit_22 : decode cX5_takeUnit 22 = .ok (.getfield 24, 3) := by decide +kernel
theorem dX5_takeUnit_25 : decode cX5_takeUnit 25 = .ok (.iconst 1, 1) := by decide +kernel
theorem dX5_takeUnit_26 : decode cX5_takeUnit 26 = .ok (.iadd, 1) := by decide +kernel
theorem dX5_takeUnit_27 : decode cX5_takeUnit 27 = .ok (.putfield 24, 3) := by decide +kernel
theorem dX5_takeUnit_30 : decode cX5_takeUnit 30 = .ok (.aload_n 0, 1) := by decide +kernel
theorem dX5_takeUnit_31 : decode cX5_takeUnit 31 = .ok (.getfield 14, 3) := by decide +kernel
theorem dX5_takeUnit_34 : decode cX5_takeUnit 34 = .ok (.getfield 50, 3) := by decide +kernel
theorem dX5_takeUnit_37 : decode cX5_takeUnit 37 = .ok (.lookupswitch 167 #[(1, 59), (2, 126), (8, 79), (35, 94), (40, 161), (45, 132)], 59) := by decide +kernel
theorem dX5_takeUnit_96 : decode cX5_takeUnit 96 = .ok (.aload_n 0, 1) := by decide +kernel
theorem dX5_takeUnit_97 : decode cX5_takeUnit 97 = .ok (.iconst 0, 1) := by decide +kernel
theorem dX5_takeUnit_98 : decode cX5_takeUnit 98 = .ok (.aload_n 0, 1) := by decide +kernel
theorem dX5_takeUnit_99 : decode cX5_takeUnit 99 = .ok (.getfield 14, 3) := by decide +kernel
theorem dX5_takeUnit_102 : decode cX5_takeUnit 102 = .ok (.getfield 71, 3) := by decide +kernel
theorem dX5_takeUnit_105 : decode cX5_takeUnit 105 = .ok (.bipush (-9), 2) := by decide +kernel
theorem dX5_takeUnit_107 : decode cX5_takeUnit 107 = .ok (.invokevirtual 135, 3) := by decide +kernel
theorem dX5_takeUnit_110 : decode cX5_takeUnit 110 = .ok (.aload_n 0, 1) := by decide +kernel
theorem dX5_takeUnit_111 : decode cX5_takeUnit 111 = .ok (.iconst 1, 1) := by decide +kernel
theorem dX5_takeUnit_112 : decode cX5_takeUnit 112 = .ok (.invokevirtual 67, 3) := by decide +kernel
theorem dX5_takeUnit_115 : decode cX5_takeUnit 115 = .ok (.ireturn, 1) := by decide +kernel
theorem dX5_takeUnit_116 : decode cX5_takeUnit 116 = .ok (.aload_n 0, 1) := by decide +kernel
theorem dX5_takeUnit_117 : decode cX5_takeUnit 117 = .ok (.iconst 1, 1) := by decide +kernel
theorem dX5_takeUnit_118 : decode cX5_takeUnit 118 = .ok (.lconst 0, 1) := by decide +kernel
theorem dX5_takeUnit_119 : decode cX5_takeUnit 119 = .ok (.bipush (-9), 2) := by decide +kernel
theorem dX5_takeUnit_121 : decode cX5_takeUnit 121 = .ok (.invokevirtual 135, 3) := by decide +kernel
theorem dX5_takeUnit_124 : decode cX5_takeUnit 124 = .ok (.aload_n 0, 1) := by decide +kernel
theorem dX5_takeUnit_125 : decode cX5_takeUnit 125 = .ok (.bipush 8, 2) := by decide +kernel
theorem dX5_takeUnit_127 : decode cX5_takeUnit 127 = .ok (.invokevirtual 67, 3) := by decide +kernel
theorem dX5_takeUnit_130 : decode cX5_takeUnit 130 = .ok (.ireturn, 1) := by decide +kernel
theorem dX5_takeUnit_131 : decode cX5_takeUnit 131 = .ok (.aload_n 0, 1) := by decide +kernel
theorem dX5_takeUnit_132 : decode cX5_takeUnit 132 = .ok (.getfield 14, 3) := by decide +kernel
theorem dX5_takeUnit_135 : decode cX5_takeUnit 135 = .ok (.invokevirtual 64, 3) := by decide +kernel
theorem dX5_takeUnit_138 : decode cX5_takeUnit 138 = .ok (.aload_n 0, 1) := by decide +kernel
theorem dX5_takeUnit_139 : decode cX5_takeUnit 139 = .ok (.iconst 2, 1) := by decide +kernel
theorem dX5_takeUnit_140 : decode cX5_takeUnit 140 = .ok (.aload_n 0, 1) := by decide +kernel
theorem dX5_takeUnit_141 : decode cX5_takeUnit 141 = .ok (.getfield 14, 3) := by decide +kernel
theorem dX5_takeUnit_144 : decode cX5_takeUnit 144 = .ok (.getfield 71, 3) := by decide +kernel
theorem dX5_takeUnit_147 : decode cX5_takeUnit 147 = .ok (.aload_n 0, 1) := by decide +kernel
theorem dX5_takeUnit_148 : decode cX5_takeUnit 148 = .ok (.getfield 14, 3) := by decide +kernel
theorem dX5_takeUnit_151 : decode cX5_takeUnit 151 = .ok (.getfield 53, 3) := by decide +kernel
theorem dX5_takeUnit_154 : decode cX5_takeUnit 154 = .ok (.invokevirtual 135, 3) := by decide +kernel
theorem dX5_takeUnit_157 : decode cX5_takeUnit 157 = .ok (.aload_n 0, 1) := by decide +kernel
theorem dX5_takeUnit_158 : decode cX5_takeUnit 158 = .ok (.iconst 2, 1) := by decide +kernel
theorem dX5_takeUnit_159 : decode cX5_takeUnit 159 = .ok (.invokevirtual 67, 3) := by decide +kernel
theorem dX5_takeUnit_162 : decode cX5_takeUnit 162 = .ok (.ireturn, 1) := by decide +kernel
theorem dX5_takeUnit_163 : decode cX5_takeUnit 163 = .ok (.aload_n 0, 1) := by decide +kernel
theorem dX5_takeUnit_164 : decode cX5_takeUnit 164 = .ok (.iload_n 1, 1) := by decide +kernel
theorem dX5_takeUnit_165 : decode cX5_takeUnit 165 = .ok (.invokevirtual 144, 3) := by decide +kernel
theorem dX5_takeUnit_168 : decode cX5_takeUnit 168 = .ok (.ireturn, 1) := by decide +kernel
theorem dX5_takeUnit_169 : decode cX5_takeUnit 169 = .ok (.aload_n 0, 1) := by decide +kernel
theorem dX5_takeUnit_170 : decode cX5_takeUnit 170 = .ok (.getfield 14, 3) := by decide +kernel
theorem dX5_takeUnit_173 : decode cX5_takeUnit 173 = .ok (.invokevirtual 64, 3) := by decide +kernel
theorem dX5_takeUnit_176 : decode cX5_takeUnit 176 = .ok (.aload_n 0, 1) := by decide +kernel
theorem dX5_takeUnit_177 : decode cX5_takeUnit 177 = .ok (.iload_n 1, 1) := by decide +kernel
theorem dX5_takeUnit_178 : decode cX5_takeUnit 178 = .ok (.iconst 1, 1) := by decide +kernel
theorem dX5_takeUnit_179 : decode cX5_takeUnit 179 = .ok (.iadd, 1) := by decide +kernel
theorem dX5_takeUnit_180 : decode cX5_takeUnit 180 = .ok (.invokevirtual 138, 3) := by decide +kernel
theorem dX5_takeUnit_183 : decode cX5_takeUnit 183 = .ok (.ifCond .ne 5, 3) := by decide +kernel
theorem dX5_takeUnit_186 : decode cX5_takeUnit 186 = .ok (.iconst 0, 1) := by decide +kernel
theorem dX5_takeUnit_187 : decode cX5_takeUnit 187 = .ok (.ireturn, 1) := by decide +kernel
theorem dX5_takeUnit_188 : decode cX5_takeUnit 188 = .ok (.aload_n 0, 1) := by decide +kernel
theorem dX5_takeUnit_189 : decode cX5_takeUnit 189 = .ok (.iconst 4, 1) := by decide +kernel
theorem dX5_takeUnit_190 : decode cX5_takeUnit 190 = .ok (.lconst 0, 1) := by decide +kernel
theorem dX5_takeUnit_191 : decode cX5_takeUnit 191 = .ok (.bipush (-9), 2) := by decide +kernel
theorem dX5_takeUnit_193 : decode cX5_takeUnit 193 = .ok (.invokevirtual 135, 3) := by decide +kernel
theorem dX5_takeUnit_196 : decode cX5_takeUnit 196 = .ok (.iconst 1, 1) := by decide +kernel
theorem dX5_takeUnit_197 : decode cX5_takeUnit 197 = .ok (.ireturn, 1) := by decide +kernel
theorem dX5_takeUnit_198 : decode cX5_takeUnit 198 = .ok (.aload_n 0, 1) := by decide +kernel
theorem dX5_takeUnit_199 : decode cX5_takeUnit 199 = .ok (.iload_n 1, 1) := by decide +kernel
theorem dX5_takeUnit_200 : decode cX5_takeUnit 200 = .ok (.invokevirtual 147, 3) := by decide +kernel
theorem dX5_takeUnit_203 : decode cX5_takeUnit 203 = .ok (.ireturn, 1) := by decide +kernel
theorem dX5_takeUnit_204 : decode cX5_takeUnit 204 = .ok (.aload_n 0, 1) := by decide +kernel
theorem dX5_takeUnit_205 : decode cX5_takeUnit 205 = .ok (.invokevirtual 60, 3) := by decide +kernel
theorem dX5_takeUnit_208 : decode cX5_takeUnit 208 = .ok (.ireturn, 1) := by decide +kernel
theorem dX5_takeEntry_0 : decode cX5_takeEntry 0 = .ok (.aload_n 0, 1) := by decide +kernel
theorem dX5_takeEntry_1 : decode cX5_takeEntry 1 = .ok (.getfield 14, 3) := by decide +kernel
theorem dX5_takeEntry_4 : decode cX5_takeEntry 4 = .ok (.getfield 71, 3) := by decide +kernel
theorem dX5_takeEntry_7 : decode cX5_takeEntry 7 = .ok (.lstore_n 2, 1) := by decide +kernel
theorem dX5_takeEntry_8 : decode cX5_takeEntry 8 = .ok (.aload_n 0, 1) := by decide +kernel
theorem dX5_takeEntry_9 : decode cX5_takeEntry 9 = .ok (.getfield 14, 3) := by decide +kernel
theorem dX5_takeEntry_12 : decode cX5_takeEntry 12 = .ok (.getfield 53, 3) := by decide +kernel
theorem dX5_takeEntry_15 : decode cX5_takeEntry 15 = .ok (.istore 4, 2) := by decide +kernel
theorem dX5_takeEntry_17 : decode cX5_takeEntry 17 = .ok (.aload_n 0, 1) := by decide +kernel
theorem dX5_takeEntry_18 : decode cX5_takeEntry 18 = .ok (.iconst 2, 1) := by decide +kernel
theorem dX5_takeEntry_19 : decode cX5_takeEntry 19 = .ok (.invokevirtual 67, 3) := by decide +kernel
theorem dX5_takeEntry_22 : decode cX5_takeEntry 22 = .ok (.ifCond .eq 31, 3) := by decide +kernel
theorem dX5_takeEntry_25 : decode cX5_takeEntry 25 = .ok (.aload_n 0, 1) := by decide +kernel
theorem dX5_takeEntry_26 : decode cX5_takeEntry 26 = .ok (.bipush 91, 2) := by decide +kernel
theorem dX5_takeEntry_28 : decode cX5_takeEntry 28 = .ok (.invokevirtual 67, 3) := by decide +kernel
theorem dX5_takeEntry_31 : decode cX5_takeEntry 31 = .ok (.ifCond .eq 22, 3) := by decide +kernel
theorem dX5_takeEntry_34 : decode cX5_takeEntry 34 = .ok (.aload_n 0, 1) := by decide +kernel
theorem dX5_takeEntry_35 : decode cX5_takeEntry 35 = .ok (.iload_n 1, 1) := by decide +kernel
theorem dX5_takeEntry_36 : decode cX5_takeEntry 36 = .ok (.iconst 1, 1) := by decide +kernel
theorem dX5_takeEntry_37 : decode cX5_takeEntry 37 = .ok (.iadd, 1) := by decide +kernel
theorem dX5_takeEntry_38 : decode cX5_takeEntry 38 = .ok (.invokevirtual 101, 3) := by decide +kernel
theorem dX5_takeEntry_41 : decode cX5_takeEntry 41 = .ok (.ifCond .eq 12, 3) := by decide +kernel
theorem dX5_takeEntry_44 : decode cX5_takeEntry 44 = .ok (.aload_n 0, 1) := by decide +kernel
theorem dX5_takeEntry_45 : decode cX5_takeEntry 45 = .ok (.bipush 93, 2) := by decide +kernel
theorem dX5_takeEntry_47 : decode cX5_takeEntry 47 = .ok (.invokevirtual 67, 3) := by decide +kernel
theorem dX5_takeEntry_50 : decode cX5_takeEntry 50 = .ok (.ifCond .ne 5, 3) := by decide +kernel
theorem dX5_takeEntry_53 : decode cX5_takeEntry 53 = .ok (.iconst 0, 1) := by decide +kernel
theorem dX5_takeEntry_54 : decode cX5_takeEntry 54 = .ok (.ireturn, 1) := by decide +kernel
theorem dX5_takeEntry_55 : decode cX5_takeEntry 55 = .ok (.aload_n 0, 1) := by decide +kernel
theorem dX5_takeEntry_56 : decode cX5_takeEntry 56 = .ok (.iconst 3, 1) := by decide +kernel
theorem dX5_takeEntry_57 : decode cX5_takeEntry 57 = .ok (.lload_n 2, 1) := by decide +kernel
theorem dX5_takeEntry_58 : decode cX5_takeEntry 58 = .ok (.iload 4, 2) := by decide +kernel
theorem dX5_takeEntry_60 : decode cX5_takeEntry 60 = .ok (.invokevirtual 135, 3) := by decide +kernel
theorem dX5_takeEntry_63 : decode cX5_takeEntry 63 = .ok (.iconst 1, 1) := by decide +kernel
theorem dX5_takeEntry_64 : decode cX5_takeEntry 64 = .ok (.ireturn, 1) := by decide +kernel
theorem dX5_takeGroup_0 : decode cX5_takeGroup 0 = .ok (.aload_n 0, 1) := by decide +kernel
theorem dX5_takeGroup_1 : decode cX5_takeGroup 1 = .ok (.bipush 40, 2) := by decide +kernel
theorem dX5_takeGroup_3 : decode cX5_takeGroup 3 = .ok (.invokevirtual 67, 3) := by decide +kernel
theorem dX5_takeGroup_6 : decode cX5_takeGroup 6 = .ok (.ifCond .eq 13, 3) := by decide +kernel
theorem dX5_takeGroup_9 : decode cX5_takeGroup 9 = .ok (.aload_n 0, 1) := by decide +kernel
theorem dX5_takeGroup_10 : decode cX5_takeGroup 10 = .ok (.iload_n 1, 1) := by decide +kernel
theorem dX5_takeGroup_11 : decode cX5_takeGroup 11 = .ok (.iconst 1, 1) := by decide +kernel
theorem dX5_takeGroup_12 : decode cX5_takeGroup 12 = .ok (.iadd, 1) := by decide +kernel
theorem dX5_takeGroup_13 : decode cX5_takeGroup 13 = .ok (.invokevirtual 101, 3) := by decide +kernel
theorem dX5_takeGroup_16 : decode cX5_takeGroup 16 = .ok (.ifCond .ne 5, 3) := by decide +kernel
theorem dX5_takeGroup_19 : decode cX5_takeGroup 19 = .ok (.iconst 0, 1) := by decide +kernel
theorem dX5_takeGroup_20 : decode cX5_takeGroup 20 = .ok (.ireturn, 1) := by decide +kernel
theorem dX5_takeGroup_21 : decode cX5_takeGroup 21 = .ok (.aload_n 0, 1) := by decide +kernel
theorem dX5_takeGroup_22 : decode cX5_takeGroup 22 = .ok (.getfield 14, 3) := by decide +kernel
theorem dX5_takeGroup_25 : decode cX5_takeGroup 25 = .ok (.getfield 50, 3) := by decide +kernel
theorem dX5_takeGroup_28 : decode cX5_takeGroup 28 = .ok (.bipush 60, 2) := by decide +kernel
theorem dX5_takeGroup_30 : decode cX5_takeGroup 30 = .ok (.if_icmp .ne 34, 3) := by decide +kernel
theorem dX5_takeGroup_33 : decode cX5_takeGroup 33 = .ok (.aload_n 0, 1) := by decide +kernel
theorem dX5_takeGroup_34 : decode cX5_takeGroup 34 = .ok (.getfield 14, 3) := by decide +kernel
theorem dX5_takeGroup_37 : decode cX5_takeGroup 37 = .ok (.invokevirtual 64, 3) := by decide +kernel
theorem dX5_takeGroup_40 : decode cX5_takeGroup 40 = .ok (.aload_n 0, 1) := by decide +kernel
theorem dX5_takeGroup_41 : decode cX5_takeGroup 41 = .ok (.iload_n 1, 1) := by decide +kernel
theorem dX5_takeGroup_42 : decode cX5_takeGroup 42 = .ok (.iconst 1, 1) := by decide +kernel
theorem dX5_takeGroup_43 : decode cX5_takeGroup 43 = .ok (.iadd, 1) := by decide +kernel
theorem dX5_takeGroup_44 : decode cX5_takeGroup 44 = .ok (.invokevirtual 101, 3) := by decide +kernel
theorem dX5_takeGroup_47 : decode cX5_takeGroup 47 = .ok (.ifCond .ne 5, 3) := by decide +kernel
theorem dX5_takeGroup_50 : decode cX5_takeGroup 50 = .ok (.iconst 0, 1) := by decide +kernel
theorem dX5_takeGroup_51 : decode cX5_takeGroup 51 = .ok (.ireturn, 1) := by decide +kernel
theorem dX5_takeGroup_52 : decode cX5_takeGroup 52 = .ok (.aload_n 0, 1) := by decide +kernel
theorem dX5_takeGroup_53 : decode cX5_takeGroup 53 = .ok (.bipush 60, 2) := by decide +kernel
theorem dX5_takeGroup_55 : decode cX5_takeGroup 55 = .ok (.lconst 0, 1) := by decide +kernel
theorem dX5_takeGroup_56 : decode cX5_takeGroup 56 = .ok (.bipush (-9), 2) := by decide +kernel
theorem dX5_takeGroup_58 : decode cX5_takeGroup 58 = .ok (.invokevirtual 135, 3) := by decide +kernel
theorem dX5_takeGroup_61 : decode cX5_takeGroup 61 = .ok (.goto 25, 3) := by decide +kernel
theorem dX5_takeGroup_64 : decode cX5_takeGroup 64 = .ok (.aload_n 0, 1) := by decide +kernel
theorem dX5_takeGroup_65 : decode cX5_takeGroup 65 = .ok (.getfield 14, 3) := by decide +kernel
theorem dX5_takeGroup_68 : decode cX5_takeGroup 68 = .ok (.getfield 50, 3) := by decide +kernel
theorem dX5_takeGroup_71 : decode cX5_takeGroup 71 = .ok (.bipush 63, 2) := by decide +kernel
theorem dX5_takeGroup_73 : decode cX5_takeGroup 73 = .ok (.if_icmp .ne 13, 3) := by decide +kernel
theorem dX5_takeGroup_76 : decode cX5_takeGroup 76 = .ok (.aload_n 0, 1) := by decide +kernel
theorem dX5_takeGroup_77 : decode cX5_takeGroup 77 = .ok (.iload_n 1, 1) := by decide +kernel
theorem dX5_takeGroup_78 : decode cX5_takeGroup 78 = .ok (.invokevirtual 150, 3) := by decide +kernel
theorem dX5_takeGroup_81 : decode cX5_takeGroup 81 = .ok (.ifCond .ne 5, 3) := by decide +kernel
theorem dX5_takeGroup_84 : decode cX5_takeGroup 84 = .ok (.iconst 0, 1) := by decide +kernel
theorem dX5_takeGroup_85 : decode cX5_takeGroup 85 = .ok (.ireturn, 1) := by decide +kernel
theorem dX5_takeGroup_86 : decode cX5_takeGroup 86 = .ok (.aload_n 0, 1) := by decide +kernel
theorem dX5_takeGroup_87 : decode cX5_takeGroup 87 = .ok (.bipush 41, 2) := by decide +kernel
theorem dX5_takeGroup_89 : decode cX5_takeGroup 89 = .ok (.invokevirtual 67, 3) := by decide +kernel
theorem dX5_takeGroup_92 : decode cX5_takeGroup 92 = .ok (.ireturn, 1) := by decide +kernel
theorem dX5_takeChoice_0 : decode cX5_takeChoice 0 = .ok (.aload_n 0, 1) := by decide +kernel
theorem dX5_takeChoice_1 : decode cX5_takeChoice 1 = .ok (.getfield 20, 3) := by decide +kernel
theorem dX5_takeChoice_4 : decode cX5_takeChoice 4 = .ok (.ifnull 12, 3) := by decide +kernel
theorem dX5_takeChoice_7 : decode cX5_takeChoice 7 = .ok (.aload_n 0, 1) := by decide +kernel
theorem dX5_takeChoice_8 : decode cX5_takeChoice 8 = .ok (.bipush 63, 2) := by decide +kernel
theorem dX5_takeChoice_10 : decode cX5_takeChoice 10 = .ok (.invokevirtual 67, 3) := by decide +kernel
theorem dX5_takeChoice_13 : decode cX5_takeChoice 13 = .ok (.ifCond .ne 5, 3) := by decide +kernel
theorem dX5_takeChoice_16 : decode cX5_takeChoice 16 = .ok (.iconst 0, 1) := by decide +kernel
theorem dX5_takeChoice_17 : decode cX5_takeChoice 17 = .ok (.ireturn, 1) := by decide +kernel
theorem dX5_takeChoice_18 : decode cX5_takeChoice 18 = .ok (.aload_n 0, 1) := by decide +kernel
theorem dX5_takeChoice_19 : decode cX5_takeChoice 19 = .ok (.getfield 20, 3) := by decide +kernel
theorem dX5_takeChoice_22 : decode cX5_takeChoice 22 = .ok (.getfield 153, 3) := by decide +kernel
theorem dX5_takeChoice_25 : decode cX5_takeChoice 25 = .ok (.istore_n 2, 1) := by decide +kernel
theorem dX5_takeChoice_26 : decode cX5_takeChoice 26 = .ok (.aload_n 0, 1) := by decide +kernel
theorem dX5_takeChoice_27 : decode cX5_takeChoice 27 = .ok (.getfield 20, 3) := by decide +kernel
theorem dX5_takeChoice_30 : decode cX5_takeChoice 30 = .ok (.bipush 6, 2) := by decide +kernel
theorem dX5_takeChoice_32 : decode cX5_takeChoice 32 = .ok (.lconst 0, 1) := by decide +kernel
theorem dX5_takeChoice_33 : decode cX5_takeChoice 33 = .ok (.bipush (-9), 2) := by decide +kernel
theorem dX5_takeChoice_35 : decode cX5_takeChoice 35 = .ok (.invokevirtual 128, 3) := by decide +kernel
theorem dX5_takeChoice_38 : decode cX5_takeChoice 38 = .ok (.aload_n 0, 1) := by decide +kernel
theorem dX5_takeChoice_39 : decode cX5_takeChoice 39 = .ok (.iload_n 1, 1) := by decide +kernel
theorem dX5_takeChoice_40 : decode cX5_takeChoice 40 = .ok (.iconst 1, 1) := by decide +kernel
theorem dX5_takeChoice_41 : decode cX5_takeChoice 41 = .ok (.iadd, 1) := by decide +kernel
theorem dX5_takeChoice_42 : decode cX5_takeChoice 42 = .ok (.invokevirtual 101, 3) := by decide +kernel
theorem dX5_takeChoice_45 : decode cX5_takeChoice 45 = .ok (.ifCond .eq 12, 3) := by decide +kernel
theorem dX5_takeChoice_48 : decode cX5_takeChoice 48 = .ok (.aload_n 0, 1) := by decide +kernel
theorem dX5_takeChoice_49 : decode cX5_takeChoice 49 = .ok (.bipush 58, 2) := by decide +kernel
theorem dX5_takeChoice_51 : decode cX5_takeChoice 51 = .ok (.invokevirtual 67, 3) := by decide +kernel
theorem dX5_takeChoice_54 : decode cX5_takeChoice 54 = .ok (.ifCond .ne 5, 3) := by decide +kernel
theorem dX5_takeChoice_57 : decode cX5_takeChoice 57 = .ok (.iconst 0, 1) := by decide +kernel
theorem dX5_takeChoice_58 : decode cX5_takeChoice 58 = .ok (.ireturn, 1) := by decide +kernel
theorem dX5_takeChoice_59 : decode cX5_takeChoice 59 = .ok (.aload_n 0, 1) := by decide +kernel
theorem dX5_takeChoice_60 : decode cX5_takeChoice 60 = .ok (.getfield 20, 3) := by decide +kernel
theorem dX5_takeChoice_63 : decode cX5_takeChoice 63 = .ok (.getfield 153, 3) := by decide +kernel
theorem dX5_takeChoice_66 : decode cX5_takeChoice 66 = .ok (.istore_n 3, 1) := by decide +kernel
theorem dX5_takeChoice_67 : decode cX5_takeChoice 67 = .ok (.aload_n 0, 1) := by decide +kernel
theorem dX5_takeChoice_68 : decode cX5_takeChoice 68 = .ok (.getfield 20, 3) := by decide +kernel
theorem dX5_takeChoice_71 : decode cX5_takeChoice 71 = .ok (.iconst 5, 1) := by decide +kernel
theorem dX5_takeChoice_72 : decode cX5_takeChoice 72 = .ok (.lconst 0, 1) := by decide +kernel
theorem dX5_takeChoice_73 : decode cX5_takeChoice 73 = .ok (.bipush (-9), 2) := by decide +kernel
theorem dX5_takeChoice_75 : decode cX5_takeChoice 75 = .ok (.invokevirtual 128, 3) := by decide +kernel
theorem dX5_takeChoice_78 : decode cX5_takeChoice 78 = .ok (.aload_n 0, 1) := by decide +kernel
theorem dX5_takeChoice_79 : decode cX5_takeChoice 79 = .ok (.getfield 20, 3) := by decide +kernel
theorem dX5_takeChoice_82 : decode cX5_takeChoice 82 = .ok (.iload_n 2, 1) := by decide +kernel
theorem dX5_takeChoice_83 : decode cX5_takeChoice 83 = .ok (.invokevirtual 156, 3) := by decide +kernel
theorem dX5_takeChoice_86 : decode cX5_takeChoice 86 = .ok (.aload_n 0, 1) := by decide +kernel
theorem dX5_takeChoice_87 : decode cX5_takeChoice 87 = .ok (.iload_n 1, 1) := by decide +kernel
theorem dX5_takeChoice_88 : decode cX5_takeChoice 88 = .ok (.iconst 1, 1) := by decide +kernel
theorem dX5_takeChoice_89 : decode cX5_takeChoice 89 = .ok (.iadd, 1) := by decide +kernel
theorem dX5_takeChoice_90 : decode cX5_takeChoice 90 = .ok (.invokevirtual 101, 3) := by decide +kernel
theorem dX5_takeChoice_93 : decode cX5_takeChoice 93 = .ok (.ifCond .ne 5, 3) := by decide +kernel
theorem dX5_takeChoice_96 : decode cX5_takeChoice 96 = .ok (.iconst 0, 1) := by decide +kernel
theorem dX5_takeChoice_97 : decode cX5_takeChoice 97 = .ok (.ireturn, 1) := by decide +kernel
theorem dX5_takeChoice_98 : decode cX5_takeChoice 98 = .ok (.aload_n 0, 1) := by decide +kernel
theorem dX5_takeChoice_99 : decode cX5_takeChoice 99 = .ok (.getfield 20, 3) := by decide +kernel
theorem dX5_takeChoice_102 : decode cX5_takeChoice 102 = .ok (.iload_n 3, 1) := by decide +kernel
theorem dX5_takeChoice_103 : decode cX5_takeChoice 103 = .ok (.invokevirtual 156, 3) := by decide +kernel
theorem dX5_takeChoice_106 : decode cX5_takeChoice 106 = .ok (.iconst 1, 1) := by decide +kernel
theorem dX5_takeChoice_107 : decode cX5_takeChoice 107 = .ok (.ireturn, 1) := by decide +kernel
theorem dX5_resolveNames_0 : decode cX5_resolveNames 0 = .ok (.iconst 0, 1) := by decide +kernel
theorem dX5_resolveNames_1 : decode cX5_resolveNames 1 = .ok (.istore_n 2, 1) := by decide +kernel
theorem dX5_resolveNames_2 : decode cX5_resolveNames 2 = .ok (.iload_n 2, 1) := by decide +kernel
theorem dX5_resolveNames_3 : decode cX5_resolveNames 3 = .ok (.aload_n 1, 1) := by decide +kernel
theorem dX5_resolveNames_4 : decode cX5_resolveNames 4 = .ok (.getfield 34, 3) := by decide +kernel
theorem dX5_resolveNames_7 : decode cX5_resolveNames 7 = .ok (.if_icmp .ge 28, 3) := by decide +kernel
theorem dX5_resolveNames_10 : decode cX5_resolveNames 10 = .ok (.aload_n 1, 1) := by decide +kernel
theorem dX5_resolveNames_11 : decode cX5_resolveNames 11 = .ok (.iload_n 2, 1) := by decide +kernel
theorem dX5_resolveNames_12 : decode cX5_resolveNames 12 = .ok (.invokevirtual 42, 3) := by decide +kernel
theorem dX5_resolveNames_15 : decode cX5_resolveNames 15 = .ok (.astore_n 3, 1) := by decide +kernel
theorem dX5_resolveNames_16 : decode cX5_resolveNames 16 = .ok (.aload_n 3, 1) := by decide +kernel
theorem dX5_resolveNames_17 : decode cX5_resolveNames 17 = .ok (.ifnull 12, 3) := by decide +kernel
theorem dX5_resolveNames_20 : decode cX5_resolveNames 20 = .ok (.aload_n 0, 1) := by decide +kernel
theorem dX5_resolveNames_21 : decode cX5_resolveNames 21 = .ok (.aload_n 3, 1) := by decide +kernel
theorem dX5_resolveNames_22 : decode cX5_resolveNames 22 = .ok (.getfield 88, 3) := by decide +kernel
theorem dX5_resolveNames_25 : decode cX5_resolveNames 25 = .ok (.aload_n 1, 1) := by decide +kernel
theorem dX5_resolveNames_26 : decode cX5_resolveNames 26 = .ok (.invokevirtual 159, 3) := by decide +kernel
theorem dX5_resolveNames_29 : decode cX5_resolveNames 29 = .ok (.iinc 2 1, 3) := by decide +kernel
theorem dX5_resolveNames_32 : decode cX5_resolveNames 32 = .ok (.goto (-30), 3) := by decide +kernel
theorem dX5_resolveNames_35 : decode cX5_resolveNames 35 = .ok (.return_, 1) := by decide +kernel
theorem dX5_resolveNamesIn_0 : decode cX5_resolveNamesIn 0 = .ok (.iconst 0, 1) := by decide +kernel
theorem dX5_resolveNamesIn_1 : decode cX5_resolveNamesIn 1 = .ok (.istore_n 3, 1) := by decide +kernel
theorem dX5_resolveNamesIn_2 : decode cX5_resolveNamesIn 2 = .ok (.iload_n 3, 1) := by decide +kernel
theorem dX5_resolveNamesIn_3 : decode cX5_resolveNamesIn 3 = .ok (.aload_n 1, 1) := by decide +kernel
theorem dX5_resolveNamesIn_4 : decode cX5_resolveNamesIn 4 = .ok (.getfield 153, 3) := by decide +kernel
theorem dX5_resolveNamesIn_7 : decode cX5_resolveNamesIn 7 = .ok (.if_icmp .ge 51, 3) := by decide +kernel
theorem dX5_resolveNamesIn_10 : decode cX5_resolveNamesIn 10 = .ok (.aload_n 1, 1) := by decide +kernel
theorem dX5_resolveNamesIn_11 : decode cX5_resolveNamesIn 11 = .ok (.iload_n 3, 1) := by decide +kernel
theorem dX5_resolveNamesIn_12 : decode cX5_resolveNamesIn 12 = .ok (.invokevirtual 163, 3) := by decide +kernel
theorem dX5_resolveNamesIn_15 : decode cX5_resolveNamesIn 15 = .ok (.ifCond .eq 37, 3) := by decide +kernel
theorem dX5_resolveNamesIn_18 : decode cX5_resolveNamesIn 18 = .ok (.aload_n 2, 1) := by decide +kernel
theorem dX5_resolveNamesIn_19 : decode cX5_resolveNamesIn 19 = .ok (.aload_n 1, 1) := by decide +kernel
theorem dX5_resolveNamesIn_20 : decode cX5_resolveNamesIn 20 = .ok (.iload_n 3, 1) := by decide +kernel
theorem dX5_resolveNamesIn_21 : decode cX5_resolveNamesIn 21 = .ok (.invokevirtual 166, 3) := by decide +kernel
theorem dX5_resolveNamesIn_24 : decode cX5_resolveNamesIn 24 = .ok (.invokevirtual 75, 3) := by decide +kernel
theorem dX5_resolveNamesIn_27 : decode cX5_resolveNamesIn 27 = .ok (.istore 4, 2) := by decide +kernel
theorem dX5_resolveNamesIn_29 : decode cX5_resolveNamesIn 29 = .ok (.iload 4, 2) := by decide +kernel
theorem dX5_resolveNamesIn_31 : decode cX5_resolveNamesIn 31 = .ok (.bipush (-9), 2) := by decide +kernel
theorem dX5_resolveNamesIn_33 : decode cX5_resolveNamesIn 33 = .ok (.if_icmp .ne 12, 3) := by decide +kernel
theorem dX5_resolveNamesIn_36 : decode cX5_resolveNamesIn 36 = .ok (.aload_n 0, 1) := by decide +kernel
theorem dX5_resolveNamesIn_37 : decode cX5_resolveNamesIn 37 = .ok (.aload_n 1, 1) := by decide +kernel
theorem dX5_resolveNamesIn_38 : decode cX5_resolveNamesIn 38 = .ok (.iload_n 3, 1) := by decide +kernel
theorem dX5_resolveNamesIn_39 : decode cX5_resolveNamesIn 39 = .ok (.invokevirtual 169, 3) := by decide +kernel
theorem dX5_resolveNamesIn_42 : decode cX5_resolveNamesIn 42 = .ok (.invokevirtual 79, 3) := by decide +kernel
theorem dX5_resolveNamesIn_45 : decode cX5_resolveNamesIn 45 = .ok (.aload_n 1, 1) := by decide +kernel
theorem dX5_resolveNamesIn_46 : decode cX5_resolveNamesIn 46 = .ok (.iload_n 3, 1) := by decide +kernel
theorem dX5_resolveNamesIn_47 : decode cX5_resolveNamesIn 47 = .ok (.iload 4, 2) := by decide +kernel
theorem dX5_resolveNamesIn_49 : decode cX5_resolveNamesIn 49 = .ok (.invokevirtual 173, 3) := by decide +kernel
theorem dX5_resolveNamesIn_52 : decode cX5_resolveNamesIn 52 = .ok (.iinc 3 1, 3) := by decide +kernel
theorem dX5_resolveNamesIn_55 : decode cX5_resolveNamesIn 55 = .ok (.goto (-53), 3) := by decide +kernel
theorem dX5_resolveNamesIn_58 : decode cX5_resolveNamesIn 58 = .ok (.return_, 1) := by decide +kernel
theorem dX6_init_0 : decode cX6_init 0 = .ok (.aload_n 0, 1) := by decide +kernel
theorem dX6_init_1 : decode cX6_init 1 = .ok (.invokespecial 3, 3) := by decide +kernel
theorem dX6_init_4 : decode cX6_init 4 = .ok (.aload_n 0, 1) := by decide +kernel
theorem dX6_init_5 : decode cX6_init 5 = .ok (.aload_n 1, 1) := by decide +kernel
theorem dX6_init_6 : decode cX6_init 6 = .ok (.putfield 9, 3) := by decide +kernel
theorem dX6_init_9 : decode cX6_init 9 = .ok (.aload_n 0, 1) := by decide +kernel
theorem dX6_init_10 : decode cX6_init 10 = .ok (.iconst 0, 1) := by decide +kernel
theorem dX6_init_11 : decode cX6_init 11 = .ok (.putfield 15, 3) := by decide +kernel
theorem dX6_init_14 : decode cX6_init 14 = .ok (.aload_n 0, 1) := by decide +kernel
theorem dX6_init_15 : decode cX6_init 15 = .ok (.iconst 0, 1) := by decide +kernel
theorem dX6_init_16 : decode cX6_init 16 = .ok (.putfield 19, 3) := by decide +kernel
theorem dX6_init_19 : decode cX6_init 19 = .ok (.aload_n 0, 1) := by decide +kernel
theorem dX6_init_20 : decode cX6_init 20 = .ok (.iconst 0, 1) := by decide +kernel
theorem dX6_init_21 : decode cX6_init 21 = .ok (.putfield 22, 3) := by decide +kernel
theorem dX6_init_24 : decode cX6_init 24 = .ok (.aload_n 0, 1) := by decide +kernel
theorem dX6_init_25 : decode cX6_init 25 = .ok (.lconst 0, 1) := by decide +kernel
theorem dX6_init_26 : decode cX6_init 26 = .ok (.putfield 25, 3) := by decide +kernel
theorem dX6_init_29 : decode cX6_init 29 = .ok (.return_, 1) := by decide +kernel
theorem dX6_start_0 : decode cX6_start 0 = .ok (.aload_n 0, 1) := by decide +kernel
theorem dX6_start_1 : decode cX6_start 1 = .ok (.iconst 0, 1) := by decide +kernel
theorem dX6_start_2 : decode cX6_start 2 = .ok (.putfield 15, 3) := by decide +kernel
theorem dX6_start_5 : decode cX6_start 5 = .ok (.aload_n 0, 1) := by decide +kernel
theorem dX6_start_6 : decode cX6_start 6 = .ok (.invokevirtual 29, 3) := by decide +kernel
theorem dX6_start_9 : decode cX6_start 9 = .ok (.return_, 1) := by decide +kernel
theorem dX6_advance_0 : decode cX6_advance 0 = .ok (.aload_n 0, 1) := by decide +kernel
theorem dX6_advance_1 : decode cX6_advance 1 = .ok (.invokevirtual 32, 3) := by decide +kernel
theorem dX6_advance_4 : decode cX6_advance 4 = .ok (.aload_n 0, 1) := by decide +kernel
theorem dX6_advance_5 : decode cX6_advance 5 = .ok (.aload_n 0, 1) := by decide +kernel
theorem dX6_advance_6 : decode cX6_advance 6 = .ok (.getfield 15, 3) := by decide +kernel
theorem dX6_advance_9 : decode cX6_advance 9 = .ok (.putfield 22, 3) := by decide +kernel
theorem dX6_advance_12 : decode cX6_advance 12 = .ok (.aload_n 0, 1) := by decide +kernel
theorem dX6_advance_13 : decode cX6_advance 13 = .ok (.lconst 0, 1) := by decide +kernel
theorem dX6_advance_14 : decode cX6_advance 14 = .ok (.putfield 25, 3) := by decide +kernel
theorem dX6_advance_17 : decode cX6_advance 17 = .ok (.aload_n 0, 1) := by decide +kernel
theorem dX6_advance_18 : decode cX6_advance 18 = .ok (.getfield 9, 3) := by decide +kernel
theorem dX6_advance_21 : decode cX6_advance 21 = .ok (.aload_n 0, 1) := by decide +kernel
theorem dX6_advance_22 : decode cX6_advance 22 = .ok (.getfield 15, 3) := by decide +kernel
theorem dX6_advance_25 : decode cX6_advance 25 = .ok (.invokevirtual 35, 3) := by decide +kernel
theorem dX6_advance_28 : decode cX6_advance 28 = .ok (.istore_n 1, 1) := by decide +kernel
theorem dX6_advance_29 : decode cX6_advance 29 = .ok (.iload_n 1, 1) := by decide +kernel
theorem dX6_advance_30 : decode cX6_advance 30 = .ok (.invokestatic 41, 3) := by decide +kernel
theorem dX6_advance_33 : decode cX6_advance 33 = .ok (.ifCond .eq 24, 3) := by decide +kernel
theorem dX6_advance_36 : decode cX6_advance 36 = .ok (.aload_n 0, 1) := by decide +kernel
theorem dX6_advance_37 : decode cX6_advance 37 = .ok (.aload_n 0, 1) := by decide +kernel
theorem dX6_advance_38 : decode cX6_advance 38 = .ok (.invokevirtual 45, 3) := by decide +kernel
theorem dX6_advance_41 : decode cX6_advance 41 = .ok (.bipush 6, 2) := by decide +kernel
theorem dX6_advance_43 : decode cX6_advance 43 = .ok (.if_icmp .le 7, 3) := by decide +kernel
theorem dX6_advance_46 : decode cX6_advance 46 = .ok (.iconst 3, 1) := by decide +kernel
theorem dX6_advance_47 : decode cX6_advance 47 = .ok (.goto 4, 3) := by decide +kernel
theorem dX6_advance_50 : decode cX6_advance 50 = .ok (.iconst 1, 1) := by decide +kernel
theorem dX6_advance_51 : decode cX6_advance 51 = .ok (.putfield 19, 3) := by decide +kernel
theorem dX6_advance_54 : decode cX6_advance 54 = .ok (.goto 70, 3) := by decide +kernel
theorem dX6_advance_57 : decode cX6_advance 57 = .ok (.iload_n 1, 1) := by decide +kernel
theorem dX6_advance_58 : decode cX6_advance 58 = .ok (.invokestatic 49, 3) := by decide +kernel
theorem dX6_advance_61 : decode cX6_advance 61 = .ok (.ifCond .eq 29, 3) := by decide +kernel
theorem dX6_advance_64 : decode cX6_advance 64 = .ok (.aload_n 0, 1) := by decide +kernel
theorem dX6_advance_65 : decode cX6_advance 65 = .ok (.aload_n 0, 1) := by decide +kernel
theorem dX6_advance_66 : decode cX6_advance 66 = .ok (.invokevirtual 52, 3) := by decide +kernel
theorem dX6_advance_69 : decode cX6_advance 69 = .ok (.iconst 5, 1) := by decide +kernel
theorem dX6_advance_70 : decode cX6_advance 70 = .ok (.if_icmp .le 7, 3) := by decide +kernel
theorem dX6_advance_73 : decode cX6_advance 73 = .ok (.iconst 3, 1) := by decide +kernel
theorem dX6_advance_74 : decode cX6_advance 74 = .ok (.goto 10, 3) := by decide +kernel
theorem dX6_advance_77 : decode cX6_advance 77 = .ok (.aload_n 0, 1) := by decide +kernel
theorem dX6_advance_78 : decode cX6_advance 78 = .ok (.getfield 25, 3) := by decide +kernel
theorem dX6_advance_81 : decode cX6_advance 81 = .ok (.invokestatic 55, 3) := by decide +kernel
theorem dX6_advance_84 : decode cX6_advance 84 = .ok (.putfield 19, 3) := by decide +kernel
theorem dX6_advance_87 : decode cX6_advance 87 = .ok (.goto 37, 3) := by decide +kernel
theorem dX6_advance_90 : decode cX6_advance 90 = .ok (.aload_n 0, 1) := by decide +kernel
theorem dX6_advance_91 : decode cX6_advance 91 = .ok (.iload_n 1, 1) := by decide +kernel
theorem dX6_advance_92 : decode cX6_advance 92 = .ok (.invokestatic 59, 3) := by decide +kernel
theorem dX6_advance_95 : decode cX6_advance 95 = .ok (.ifCond .eq 7, 3) := by decide +kernel
theorem dX6_advance_98 : decode cX6_advance 98 = .ok (.iload_n 1, 1) := by decide +kernel
theorem dX6_advance_99 : decode cX6_advance 99 = .ok (.goto 12, 3) := by decide +kernel
theorem dX6_advance_102 : decode cX6_advance 102 = .ok (.iload_n 1, 1) := by decide +kernel
theorem dX6_advance_103 : decode cX6_advance 103 = .ok (.ifCond .ne 7, 3) := by decide +kernel
theorem dX6_advance_106 : decode cX6_advance 106 = .ok (.iconst 0, 1) := by decide +kernel
theorem dX6_advance_107 : decode cX6_advance 107 = .ok (.goto 4, 3) := by decide +kernel
theorem dX6_advance_110 : decode cX6_advance 110 = .ok (.iconst 3, 1) := by decide +kernel
theorem dX6_advance_111 : decode cX6_advance 111 = .ok (.putfield 19, 3) := by decide +kernel
theorem dX6_advance_114 : decode cX6_advance 114 = .ok (.aload_n 0, 1) := by decide +kernel
theorem dX6_advance_115 : decode cX6_advance 115 = .ok (.dup, 1) := by decide +kernel
theorem dX6_advance_116 : decode cX6_advance 116 = .ok (.getfield 15, 3) := by decide +kernel
theorem dX6_advance_119 : decode cX6_advance 119 = .ok (.iconst 1, 1) := by decide +kernel
theorem dX6_advance_120 : decode cX6_advance 120 = .ok (.iadd, 1) := by decide +kernel
theorem dX6_advance_121 : decode cX6_advance 121 = .ok (.putfield 15, 3) := by decide +kernel
theorem dX6_advance_124 : decode cX6_advance 124 = .ok (.return_, 1) := by decide +kernel
theorem dX6_skipBlanks_0 : decode cX6_skipBlanks 0 = .ok (.aload_n 0, 1) := by decide +kernel
theorem dX6_skipBlanks_1 : decode cX6_skipBlanks 1 = .ok (.getfield 15, 3) := by decide +kernel
theorem dX6_skipBlanks_4 : decode cX6_skipBlanks 4 = .ok (.sipush 900, 3) := by decide +kernel
theorem dX6_skipBlanks_7 : decode cX6_skipBlanks 7 = .ok (.if_icmp .ge 48, 3) := by decide +kernel
theorem dX6_skipBlanks_10 : decode cX6_skipBlanks 10 = .ok (.aload_n 0, 1) := by decide +kernel
theorem dX6_skipBlanks_11 : decode cX6_skipBlanks 11 = .ok (.getfield 9, 3) := by decide +kernel
theorem dX6_skipBlanks_14 : decode cX6_skipBlanks 14 = .ok (.aload_n 0, 1) := by decide +kernel
theorem dX6_skipBlanks_15 : decode cX6_skipBlanks 15 = .ok (.getfield 15, 3) := by decide +kernel
theorem dX6_skipBlanks_18 : decode cX6_skipBlanks 18 = .ok (.invokevirtual 35, 3) := by decide +kernel
theorem dX6_skipBlanks_21 : decode cX6_skipBlanks 21 = .ok (.bipush 32, 2) := by decide +kernel
theorem dX6_skipBlanks_23 : decode cX6_skipBlanks 23 = .ok (.if_icmp .eq 19, 3) := by decide +kernel
theorem dX6_skipBlanks_26 : decode cX6_skipBlanks 26 = .ok (.aload_n 0, 1) := by decide +kernel
theorem dX6_skipBlanks_27 : decode cX6_skipBlanks 27 = .ok (.getfield 9, 3) := by decide +kernel
theorem dX6_skipBlanks_30 : decode cX6_skipBlanks 30 = .ok (.aload_n 0, 1) := by decide +kernel
theorem dX6_skipBlanks_31 : decode cX6_skipBlanks 31 = .ok (.getfield 15, 3) := by decide +kernel
theorem dX6_skipBlanks_34 : decode cX6_skipBlanks 34 = .ok (.invokevirtual 35, 3) := by decide +kernel
theorem dX6_skipBlanks_37 : decode cX6_skipBlanks 37 = .ok (.bipush 10, 2) := by decide +kernel
theorem dX6_skipBlanks_39 : decode cX6_skipBlanks 39 = .ok (.if_icmp .ne 16, 3) := by decide +kernel
theorem dX6_skipBlanks_42 : decode cX6_skipBlanks 42 = .ok (.aload_n 0, 1) := by decide +kernel
theorem dX6_skipBlanks_43 : decode cX6_skipBlanks 43 = .ok (.dup, 1) := by decide +kernel
theorem dX6_skipBlanks_44 : decode cX6_skipBlanks 44 = .ok (.getfield 15, 3) := by decide +kernel
theorem dX6_skipBlanks_47 : decode cX6_skipBlanks 47 = .ok (.iconst 1, 1) := by decide +kernel
theorem dX6_skipBlanks_48 : decode cX6_skipBlanks 48 = .ok (.iadd, 1) := by decide +kernel
theorem dX6_skipBlanks_49 : decode cX6_skipBlanks 49 = .ok (.putfield 15, 3) := by decide +kernel
theorem dX6_skipBlanks_52 : decode cX6_skipBlanks 52 = .ok (.goto (-52), 3) := by decide +kernel
theorem dX6_skipBlanks_55 : decode cX6_skipBlanks 55 = .ok (.return_, 1) := by decide +kernel
theorem dX6_takeDigits_0 : decode cX6_takeDigits 0 = .ok (.iconst 0, 1) := by decide +kernel
theorem dX6_takeDigits_1 : decode cX6_takeDigits 1 = .ok (.istore_n 1, 1) := by decide +kernel
theorem dX6_takeDigits_2 : decode cX6_takeDigits 2 = .ok (.iload_n 1, 1) := by decide +kernel
theorem dX6_takeDigits_3 : decode cX6_takeDigits 3 = .ok (.sipush 900, 3) := by decide +kernel
theorem dX6_takeDigits_6 : decode cX6_takeDigits 6 = .ok (.if_icmp .ge 64, 3) := by decide +kernel
theorem dX6_takeDigits_9 : decode cX6_takeDigits 9 = .ok (.aload_n 0, 1) := by decide +kernel
theorem dX6_takeDigits_10 : decode cX6_takeDigits 10 = .ok (.getfield 9, 3) := by decide +kernel
theorem dX6_takeDigits_13 : decode cX6_takeDigits 13 = .ok (.aload_n 0, 1) := by decide +kernel
theorem dX6_takeDigits_14 : decode cX6_takeDigits 14 = .ok (.getfield 15, 3) := by decide +kernel
theorem dX6_takeDigits_17 : decode cX6_takeDigits 17 = .ok (.invokevirtual 35, 3) := by decide +kernel
theorem dX6_takeDigits_20 : decode cX6_takeDigits 20 = .ok (.invokestatic 41, 3) := by decide +kernel
theorem dX6_takeDigits_23 : decode cX6_takeDigits 23 = .ok (.ifCond .eq 47, 3) := by decide +kernel
theorem dX6_takeDigits_26 : decode cX6_takeDigits 26 = .ok (.aload_n 0, 1) := by decide +kernel
theorem dX6_takeDigits_27 : decode cX6_takeDigits 27 = .ok (.aload_n 0, 1) := by decide +kernel
theorem dX6_takeDigits_28 : decode cX6_takeDigits 28 = .ok (.getfield 25, 3) := by decide +kernel
theorem dX6_takeDigits_31 : decode cX6_takeDigits 31 = .ok (.ldc2_w 62, 3) := by decide +kernel
theorem dX6_takeDigits_34 : decode cX6_takeDigits 34 = .ok (.lmul, 1) := by decide +kernel
theorem dX6_takeDigits_35 : decode cX6_takeDigits 35 = .ok (.aload_n 0, 1) := by decide +kernel
theorem dX6_takeDigits_36 : decode cX6_takeDigits 36 = .ok (.getfield 9, 3) := by decide +kernel
theorem dX6_takeDigits_39 : decode cX6_takeDigits 39 = .ok (.aload_n 0, 1) := by decide +kernel
theorem dX6_takeDigits_40 : decode cX6_takeDigits 40 = .ok (.getfield 15, 3) := by decide +kernel
theorem dX6_takeDigits_43 : decode cX6_takeDigits 43 = .ok (.invokevirtual 35, 3) := by decide +kernel
theorem dX6_takeDigits_46 : decode cX6_takeDigits 46 = .ok (.bipush 48, 2) := by decide +kernel
theorem dX6_takeDigits_48 : decode cX6_takeDigits 48 = .ok (.isub, 1) := by decide +kernel
theorem dX6_takeDigits_49 : decode cX6_takeDigits 49 = .ok (.i2l, 1) := by decide +kernel
theorem dX6_takeDigits_50 : decode cX6_takeDigits 50 = .ok (.ladd, 1) := by decide +kernel
theorem dX6_takeDigits_51 : decode cX6_takeDigits 51 = .ok (.putfield 25, 3) := by decide +kernel
theorem dX6_takeDigits_54 : decode cX6_takeDigits 54 = .ok (.aload_n 0, 1) := by decide +kernel
theorem dX6_takeDigits_55 : decode cX6_takeDigits 55 = .ok (.dup, 1) := by decide +kernel
theorem dX6_takeDigits_56 : decode cX6_takeDigits 56 = .ok (.getfield 15, 3) := by decide +kernel
theorem dX6_takeDigits_59 : decode cX6_takeDigits 59 = .ok (.iconst 1, 1) := by decide +kernel
theorem dX6_takeDigits_60 : decode cX6_takeDigits 60 = .ok (.iadd, 1) := by decide +kernel
theorem dX6_takeDigits_61 : decode cX6_takeDigits 61 = .ok (.putfield 15, 3) := by decide +kernel
theorem dX6_takeDigits_64 : decode cX6_takeDigits 64 = .ok (.iinc 1 1, 3) := by decide +kernel
theorem dX6_takeDigits_67 : decode cX6_takeDigits 67 = .ok (.goto (-65), 3) := by decide +kernel
theorem dX6_takeDigits_70 : decode cX6_takeDigits 70 = .ok (.iload_n 1, 1) := by decide +kernel
theorem dX6_takeDigits_71 : decode cX6_takeDigits 71 = .ok (.ireturn, 1) := by decide +kernel
theorem dX6_takeLetters_0 : decode cX6_takeLetters 0 = .ok (.iconst 0, 1) := by decide +kernel
theorem dX6_takeLetters_1 : decode cX6_takeLetters 1 = .ok (.istore_n 1, 1) := by decide +kernel
theorem dX6_takeLetters_2 : decode cX6_takeLetters 2 = .ok (.iload_n 1, 1) := by decide +kernel
theorem dX6_takeLetters_3 : decode cX6_takeLetters 3 = .ok (.sipush 900, 3) := by decide +kernel
theorem dX6_takeLetters_6 : decode cX6_takeLetters 6 = .ok (.if_icmp .ge 67, 3) := by decide +kernel
theorem dX6_takeLetters_9 : decode cX6_takeLetters 9 = .ok (.aload_n 0, 1) := by decide +kernel
theorem dX6_takeLetters_10 : decode cX6_takeLetters 10 = .ok (.getfield 9, 3) := by decide +kernel
theorem dX6_takeLetters_13 : decode cX6_takeLetters 13 = .ok (.aload_n 0, 1) := by decide +kernel
theorem dX6_takeLetters_14 : decode cX6_takeLetters 14 = .ok (.getfield 15, 3) := by decide +kernel
theorem dX6_takeLetters_17 : decode cX6_takeLetters 17 = .ok (.invokevirtual 35, 3) := by decide +kernel
theorem dX6_takeLetters_20 : decode cX6_takeLetters 20 = .ok (.invokestatic 49, 3) := by decide +kernel
theorem dX6_takeLetters_23 : decode cX6_takeLetters 23 = .ok (.ifCond .eq 50, 3) := by decide +kernel
theorem dX6_takeLetters_26 : decode cX6_takeLetters 26 = .ok (.iload_n 1, 1) := by decide +kernel
theorem dX6_takeLetters_27 : decode cX6_takeLetters 27 = .ok (.iconst 5, 1) := by decide +kernel
theorem dX6_takeLetters_28 : decode cX6_takeLetters 28 = .ok (.if_icmp .ge 29, 3) := by decide +kernel
theorem dX6_takeLetters_31 : decode cX6_takeLetters 31 = .ok (.aload_n 0, 1) := by decide +kernel
theorem dX6_takeLetters_32 : decode cX6_takeLetters 32 = .ok (.dup, 1) := by decide +kernel
theorem dX6_takeLetters_33 : decode cX6_takeLetters 33 = .ok (.getfield 25, 3) := by decide +kernel
theorem dX6_takeLetters_36 : decode cX6_takeLetters 36 = .ok (.aload_n 0, 1) := by decide +kernel
theorem dX6_takeLetters_37 : decode cX6_takeLetters 37 = .ok (.getfield 9, 3) := by decide +kernel
theorem dX6_takeLetters_40 : decode cX6_takeLetters 40 = .ok (.aload_n 0, 1) := by decide +kernel
theorem dX6_takeLetters_41 : decode cX6_takeLetters 41 = .ok (.getfield 15, 3) := by decide +kernel
theorem dX6_takeLetters_44 : decode cX6_takeLetters 44 = .ok (.invokevirtual 35, 3) := by decide +kernel
theorem dX6_takeLetters_47 : decode cX6_takeLetters 47 = .ok (.i2l, 1) := by decide +kernel
theorem dX6_takeLetters_48 : decode cX6_takeLetters 48 = .ok (.bipush 8, 2) := by decide +kernel
theorem dX6_takeLetters_50 : decode cX6_takeLetters 50 = .ok (.iload_n 1, 1) := by decide +kernel
theorem dX6_takeLetters_51 : decode cX6_takeLetters 51 = .ok (.imul, 1) := by decide +kernel
theorem dX6_takeLetters_52 : decode cX6_takeLetters 52 = .ok (.lshl, 1) := by decide +kernel
theorem dX6_takeLetters_53 : decode cX6_takeLetters 53 = .ok (.lor, 1) := by decide +kernel
theorem dX6_takeLetters_54 : decode cX6_takeLetters 54 = .ok (.putfield 25, 3) := by decide +kernel
theorem dX6_takeLetters_57 : decode cX6_takeLetters 57 = .ok (.aload_n 0, 1) := by decide +kernel
theorem dX6_takeLetters_58 : decode cX6_takeLetters 58 = .ok (.dup, 1) := by decide +kernel
theorem dX6_takeLetters_59 : decode cX6_takeLetters 59 = .ok (.getfield 15, 3) := by decide +kernel
theorem dX6_takeLetters_62 : decode cX6_takeLetters 62 = .ok (.iconst 1, 1) := by decide +kernel
theorem dX6_takeLetters_63 : decode cX6_takeLetters 63 = .ok (.iadd, 1) := by decide +kernel
theorem dX6_takeLetters_64 : decode cX6_takeLetters 64 = .ok (.putfield 15, 3) := by decide +kernel
theorem dX6_takeLetters_67 : decode cX6_takeLetters 67 = .ok (.iinc 1 1, 3) := by decide +kernel
theorem dX6_takeLetters_70 : decode cX6_takeLetters 70 = .ok (.goto (-68), 3) := by decide +kernel
theorem dX6_takeLetters_73 : decode cX6_takeLetters 73 = .ok (.iload_n 1, 1) := by decide +kernel
theorem dX6_takeLetters_74 : decode cX6_takeLetters 74 = .ok (.ireturn, 1) := by decide +kernel
theorem dX6_isDigit_0 : decode cX6_isDigit 0 = .ok (.iload_n 0, 1) := by decide +kernel
theorem dX6_isDigit_1 : decode cX6_isDigit 1 = .ok (.bipush 48, 2) := by decide +kernel
theorem dX6_isDigit_3 : decode cX6_isDigit 3 = .ok (.if_icmp .lt 13, 3) := by decide +kernel
theorem dX6_isDigit_6 : decode cX6_isDigit 6 = .ok (.iload_n 0, 1) := by decide +kernel
theorem dX6_isDigit_7 : decode cX6_isDigit 7 = .ok (.bipush 57, 2) := by decide +kernel
theorem dX6_isDigit_9 : decode cX6_isDigit 9 = .ok (.if_icmp .gt 7, 3) := by decide +kernel
theorem dX6_isDigit_12 : decode cX6_isDigit 12 = .ok (.iconst 1, 1) := by decide +kernel
theorem dX6_isDigit_13 : decode cX6_isDigit 13 = .ok (.goto 4, 3) := by decide +kernel
theorem dX6_isDigit_16 : decode cX6_isDigit 16 = .ok (.iconst 0, 1) := by decide +kernel
theorem dX6_isDigit_17 : decode cX6_isDigit 17 = .ok (.ireturn, 1) := by decide +kernel
theorem dX6_isLetter_0 : decode cX6_isLetter 0 = .ok (.iload_n 0, 1) := by decide +kernel
theorem dX6_isLetter_1 : decode cX6_isLetter 1 = .ok (.bipush 97, 2) := by decide +kernel
theorem dX6_isLetter_3 : decode cX6_isLetter 3 = .ok (.if_icmp .lt 13, 3) := by decide +kernel
theorem dX6_isLetter_6 : decode cX6_isLetter 6 = .ok (.iload_n 0, 1) := by decide +kernel
theorem dX6_isLetter_7 : decode cX6_isLetter 7 = .ok (.bipush 122, 2) := by decide +kernel
theorem dX6_isLetter_9 : decode cX6_isLetter 9 = .ok (.if_icmp .gt 7, 3) := by decide +kernel
theorem dX6_isLetter_12 : decode cX6_isLetter 12 = .ok (.iconst 1, 1) := by decide +kernel
theorem dX6_isLetter_13 : decode cX6_isLetter 13 = .ok (.goto 4, 3) := by decide +kernel
theorem dX6_isLetter_16 : decode cX6_isLetter 16 = .ok (.iconst 0, 1) := by decide +kernel
theorem dX6_isLetter_17 : decode cX6_isLetter 17 = .ok (.ireturn, 1) := by decide +kernel
theorem dX6_isSign_0 : decode cX6_isSign 0 = .ok (.iload_n 0, 1) := by decide +kernel
theorem dX6_isSign_1 : decode cX6_isSign 1 = .ok (.tableswitch 253 35 93 #[251, 253, 251, 253, 253, 251, 251, 251, 251, 253, 251, 253, 251, 253, 253, 253, 253, 253, 253, 253, 253, 253, 253, 251, 251, 251, 251, 253, 251, 253, 253, 253, 253, 253, 253, 253, 253, 253, 253, 253, 253, 253, 253, 253, 253, 253, 253, 253, 253, 253, 253, 253, 253, 253, 253, 253, 251, 253, 251], 251) := by decide +kernel
theorem dX6_isSign_252 : decode cX6_isSign 252 = .ok (.iconst 1, 1) := by decide +kernel
theorem dX6_isSign_253 : decode cX6_isSign 253 = .ok (.ireturn, 1) := by decide +kernel
theorem dX6_isSign_254 : decode cX6_isSign 254 = .ok (.iconst 0, 1) := by decide +kernel
theorem dX6_isSign_255 : decode cX6_isSign 255 = .ok (.ireturn, 1) := by decide +kernel
theorem dX6_kindOfWord_0 : decode cX6_kindOfWord 0 = .ok (.lload_n 0, 1) := by decide +kernel
theorem dX6_kindOfWord_1 : decode cX6_kindOfWord 1 = .ok (.ldc2_w 64, 3) := by decide +kernel
theorem dX6_kindOfWord_4 : decode cX6_kindOfWord 4 = .ok (.lcmp, 1) := by decide +kernel
theorem dX6_kindOfWord_5 : decode cX6_kindOfWord 5 = .ok (.ifCond .ne 5, 3) := by decide +kernel
theorem dX6_kindOfWord_8 : decode cX6_kindOfWord 8 = .ok (.iconst 4, 1) := by decide +kernel
theorem dX6_kindOfWord_9 : decode cX6_kindOfWord 9 = .ok (.ireturn, 1) := by decide +kernel
theorem dX6_kindOfWord_10 : decode cX6_kindOfWord 10 = .ok (.lload_n 0, 1) := by decide +kernel
theorem dX6_kindOfWord_11 : decode cX6_kindOfWord 11 = .ok (.ldc2_w 66, 3) := by decide +kernel
theorem dX6_kindOfWord_14 : decode cX6_kindOfWord 14 = .ok (.lcmp, 1) := by decide +kernel
theorem dX6_kindOfWord_15 : decode cX6_kindOfWord 15 = .ok (.ifCond .ne 5, 3) := by decide +kernel
theorem dX6_kindOfWord_18 : decode cX6_kindOfWord 18 = .ok (.iconst 5, 1) := by decide +kernel
theorem dX6_kindOfWord_19 : decode cX6_kindOfWord 19 = .ok (.ireturn, 1) := by decide +kernel
theorem dX6_kindOfWord_20 : decode cX6_kindOfWord 20 = .ok (.lload_n 0, 1) := by decide +kernel
theorem dX6_kindOfWord_21 : decode cX6_kindOfWord 21 = .ok (.ldc2_w 68, 3) := by decide +kernel
theorem dX6_kindOfWord_24 : decode cX6_kindOfWord 24 = .ok (.lcmp, 1) := by decide +kernel
theorem dX6_kindOfWord_25 : decode cX6_kindOfWord 25 = .ok (.ifCond .ne 6, 3) := by decide +kernel
theorem dX6_kindOfWord_28 : decode cX6_kindOfWord 28 = .ok (.bipush 6, 2) := by decide +kernel
theorem dX6_kindOfWord_30 : decode cX6_kindOfWord 30 = .ok (.ireturn, 1) := by decide +kernel
theorem dX6_kindOfWord_31 : decode cX6_kindOfWord 31 = .ok (.lload_n 0, 1) := by decide +kernel
theorem dX6_kindOfWord_32 : decode cX6_kindOfWord 32 = .ok (.ldc2_w 70, 3) := by decide +kernel
theorem dX6_kindOfWord_35 : decode cX6_kindOfWord 35 = .ok (.lcmp, 1) := by decide +kernel
theorem dX6_kindOfWord_36 : decode cX6_kindOfWord 36 = .ok (.ifCond .ne 6, 3) := by decide +kernel
theorem dX6_kindOfWord_39 : decode cX6_kindOfWord 39 = .ok (.bipush 7, 2) := by decide +kernel
theorem dX6_kindOfWord_41 : decode cX6_kindOfWord 41 = .ok (.ireturn, 1) := by decide +kernel
theorem dX6_kindOfWord_42 : decode cX6_kindOfWord 42 = .ok (.lload_n 0, 1) := by decide +kernel
theorem dX6_kindOfWord_43 : decode cX6_kindOfWord 43 = .ok (.ldc2_w 72, 3) := by decide +kernel
theorem dX6_kindOfWord_46 : decode cX6_kindOfWord 46 = .ok (.lcmp, 1) := by decide +kernel
theorem dX6_kindOfWord_47 : decode cX6_kindOfWord 47 = .ok (.ifCond .ne 8, 3) := by decide +kernel
theorem dX6_kindOfWord_50 : decode cX6_kindOfWord 50 = .ok (.bipush 8, 2) := by decide +kernel
theorem dX6_kindOfWord_52 : decode cX6_kindOfWord 52 = .ok (.goto 4, 3) := by decide +kernel
theorem dX6_kindOfWord_55 : decode cX6_kindOfWord 55 = .ok (.iconst 2, 1) := by decide +kernel
theorem dX6_kindOfWord_56 : decode cX6_kindOfWord 56 = .ok (.ireturn, 1) := by decide +kernel
theorem dX7_init_0 : decode cX7_init 0 = .ok (.aload_n 0, 1) := by decide +kernel
theorem dX7_init_1 : decode cX7_init 1 = .ok (.invokespecial 1, 3) := by decide +kernel
theorem dX7_init_4 : decode cX7_init 4 = .ok (.aload_n 0, 1) := by decide +kernel
theorem dX7_init_5 : decode cX7_init 5 = .ok (.lconst 0, 1) := by decide +kernel
theorem dX7_init_6 : decode cX7_init 6 = .ok (.putfield 7, 3) := by decide +kernel
theorem dX7_init_9 : decode cX7_init 9 = .ok (.aload_n 0, 1) := by decide +kernel
theorem dX7_init_10 : decode cX7_init 10 = .ok (.lconst 0, 1) := by decide +kernel
theorem dX7_init_11 : decode cX7_init 11 = .ok (.putfield 13, 3) := by decide +kernel
theorem dX7_init_14 : decode cX7_init 14 = .ok (.return_, 1) := by decide +kernel
theorem dX7_clear_0 : decode cX7_clear 0 = .ok (.aload_n 0, 1) := by decide +kernel
theorem dX7_clear_1 : decode cX7_clear 1 = .ok (.lconst 0, 1) := by decide +kernel
theorem dX7_clear_2 : decode cX7_clear 2 = .ok (.putfield 7, 3) := by decide +kernel
theorem dX7_clear_5 : decode cX7_clear 5 = .ok (.aload_n 0, 1) := by decide +kernel
theorem dX7_clear_6 : decode cX7_clear 6 = .ok (.lconst 0, 1) := by decide +kernel
theorem dX7_clear_7 : decode cX7_clear 7 = .ok (.putfield 13, 3) := by decide +kernel
theorem dX7_clear_10 : decode cX7_clear 10 = .ok (.return_, 1) := by decide +kernel
theorem dX7_add_0 : decode cX7_add 0 = .ok (.aload_n 0, 1) := by decide +kernel
theorem dX7_add_1 : decode cX7_add 1 = .ok (.getfield 7, 3) := by decide +kernel
theorem dX7_add_4 : decode cX7_add 4 = .ok (.lload_n 1, 1) := by decide +kernel
theorem dX7_add_5 : decode cX7_add 5 = .ok (.ladd, 1) := by decide +kernel
theorem dX7_add_6 : decode cX7_add 6 = .ok (.lstore_n 3, 1) := by decide +kernel
theorem dX7_add_7 : decode cX7_add 7 = .ok (.aload_n 0, 1) := by decide +kernel
theorem dX7_add_8 : decode cX7_add 8 = .ok (.getfield 7, 3) := by decide +kernel
theorem dX7_add_11 : decode cX7_add 11 = .ok (.lload_n 1, 1) := by decide +kernel
theorem dX7_add_12 : decode cX7_add 12 = .ok (.land, 1) := by decide +kernel
theorem dX7_add_13 : decode cX7_add 13 = .ok (.aload_n 0, 1) := by decide +kernel
theorem dX7_add_14 : decode cX7_add 14 = .ok (.getfield 7, 3) := by decide +kernel
theorem dX7_add_17 : decode cX7_add 17 = .ok (.lload_n 1, 1) := by decide +kernel
theorem dX7_add_18 : decode cX7_add 18 = .ok (.lor, 1) := by decide +kernel
theorem dX7_add_19 : decode cX7_add 19 = .ok (.lload_n 3, 1) := by decide +kernel
theorem dX7_add_20 : decode cX7_add 20 = .ok (.ldc2_w 16, 3) := by decide +kernel
theorem dX7_add_23 : decode cX7_add 23 = .ok (.lxor, 1) := by decide +kernel
theorem dX7_add_24 : decode cX7_add 24 = .ok (.land, 1) := by decide +kernel
theorem dX7_add_25 : decode cX7_add 25 = .ok (.lor, 1) := by decide +kernel
theorem dX7_add_26 : decode cX7_add 26 = .ok (.bipush 63, 2) := by decide +kernel
theorem dX7_add_28 : decode cX7_add 28 = .ok (.lushr, 1) := by decide +kernel
theorem dX7_add_29 : decode cX7_add 29 = .ok (.lstore 5, 2) := by decide +kernel
theorem dX7_add_31 : decode cX7_add 31 = .ok (.aload_n 0, 1) := by decide +kernel
theorem dX7_add_32 : decode cX7_add 32 = .ok (.lload_n 3, 1) := by decide +kernel
theorem dX7_add_33 : decode cX7_add 33 = .ok (.putfield 7, 3) := by decide +kernel
theorem dX7_add_36 : decode cX7_add 36 = .ok (.aload_n 0, 1) := by decide +kernel
theorem dX7_add_37 : decode cX7_add 37 = .ok (.dup, 1) := by decide +kernel
theorem dX7_add_38 : decode cX7_add 38 = .ok (.getfield 13, 3) := by decide +kernel
theorem dX7_add_41 : decode cX7_add 41 = .ok (.lload_n 1, 1) := by decide +kernel
theorem dX7_add_42 : decode cX7_add 42 = .ok (.bipush 63, 2) := by decide +kernel
theorem dX7_add_44 : decode cX7_add 44 = .ok (.lshr, 1) := by decide +kernel
theorem dX7_add_45 : decode cX7_add 45 = .ok (.lload 5, 2) := by decide +kernel
theorem dX7_add_47 : decode cX7_add 47 = .ok (.ladd, 1) := by decide +kernel
theorem dX7_add_48 : decode cX7_add 48 = .ok (.ladd, 1) := by decide +kernel
theorem dX7_add_49 : decode cX7_add 49 = .ok (.putfield 13, 3) := by decide +kernel
theorem dX7_add_52 : decode cX7_add 52 = .ok (.return_, 1) := by decide +kernel
theorem dX7_is_0 : decode cX7_is 0 = .ok (.aload_n 0, 1) := by decide +kernel
theorem dX7_is_1 : decode cX7_is 1 = .ok (.getfield 7, 3) := by decide +kernel
theorem dX7_is_4 : decode cX7_is 4 = .ok (.lload_n 1, 1) := by decide +kernel
theorem dX7_is_5 : decode cX7_is 5 = .ok (.lcmp, 1) := by decide +kernel
theorem dX7_is_6 : decode cX7_is 6 = .ok (.ifCond .ne 19, 3) := by decide +kernel
theorem dX7_is_9 : decode cX7_is 9 = .ok (.aload_n 0, 1) := by decide +kernel
theorem dX7_is_10 : decode cX7_is 10 = .ok (.getfield 13, 3) := by decide +kernel
theorem dX7_is_13 : decode cX7_is 13 = .ok (.lload_n 1, 1) := by decide +kernel
theorem dX7_is_14 : decode cX7_is 14 = .ok (.bipush 63, 2) := by decide +kernel
theorem dX7_is_16 : decode cX7_is 16 = .ok (.lshr, 1) := by decide +kernel
theorem dX7_is_17 : decode cX7_is 17 = .ok (.lcmp, 1) := by decide +kernel
theorem dX7_is_18 : decode cX7_is 18 = .ok (.ifCond .ne 7, 3) := by decide +kernel
theorem dX7_is_21 : decode cX7_is 21 = .ok (.iconst 1, 1) := by decide +kernel
theorem dX7_is_22 : decode cX7_is 22 = .ok (.goto 4, 3) := by decide +kernel
theorem dX7_is_25 : decode cX7_is 25 = .ok (.iconst 0, 1) := by decide +kernel
theorem dX7_is_26 : decode cX7_is 26 = .ok (.ireturn, 1) := by decide +kernel
theorem dX7_part_0 : decode cX7_part 0 = .ok (.iload_n 1, 1) := by decide +kernel
theorem dX7_part_1 : decode cX7_part 1 = .ok (.ifCond .ne 10, 3) := by decide +kernel
theorem dX7_part_4 : decode cX7_part 4 = .ok (.aload_n 0, 1) := by decide +kernel
theorem dX7_part_5 : decode cX7_part 5 = .ok (.getfield 7, 3) := by decide +kernel
theorem dX7_part_8 : decode cX7_part 8 = .ok (.goto 22, 3) := by decide +kernel
theorem dX7_part_11 : decode cX7_part 11 = .ok (.iload_n 1, 1) := by decide +kernel
theorem dX7_part_12 : decode cX7_part 12 = .ok (.iconst 1, 1) := by decide +kernel
theorem dX7_part_13 : decode cX7_part 13 = .ok (.if_icmp .ne 13, 3) := by decide +kernel
theorem dX7_part_16 : decode cX7_part 16 = .ok (.aload_n 0, 1) := by decide +kernel
theorem dX7_part_17 : decode cX7_part 17 = .ok (.getfield 7, 3) := by decide +kernel
theorem dX7_part_20 : decode cX7_part 20 = .ok (.bipush 32, 2) := by decide +kernel
theorem dX7_part_22 : decode cX7_part 22 = .ok (.lushr, 1) := by decide +kernel
theorem dX7_part_23 : decode cX7_part 23 = .ok (.goto 7, 3) := by decide +kernel
theorem dX7_part_26 : decode cX7_part 26 = .ok (.aload_n 0, 1) := by decide +kernel
theorem dX7_part_27 : decode cX7_part 27 = .ok (.getfield 13, 3) := by decide +kernel
theorem dX7_part_30 : decode cX7_part 30 = .ok (.lstore_n 2, 1) := by decide +kernel
theorem dX7_part_31 : decode cX7_part 31 = .ok (.lload_n 2, 1) := by decide +kernel
theorem dX7_part_32 : decode cX7_part 32 = .ok (.ldc2_w 18, 3) := by decide +kernel
theorem dX7_part_35 : decode cX7_part 35 = .ok (.land, 1) := by decide +kernel
theorem dX7_part_36 : decode cX7_part 36 = .ok (.lreturn, 1) := by decide +kernel
theorem dX8_init_0 : decode cX8_init 0 = .ok (.aload_n 0, 1) := by decide +kernel
theorem dX8_init_1 : decode cX8_init 1 = .ok (.invokespecial 3, 3) := by decide +kernel
theorem dX8_init_4 : decode cX8_init 4 = .ok (.aload_n 0, 1) := by decide +kernel
theorem dX8_init_5 : decode cX8_init 5 = .ok (.new 9, 3) := by decide +kernel
theorem dX8_init_8 : decode cX8_init 8 = .ok (.dup, 1) := by decide +kernel
theorem dX8_init_9 : decode cX8_init 9 = .ok (.invokespecial 11, 3) := by decide +kernel
theorem dX8_init_12 : decode cX8_init 12 = .ok (.putfield 12, 3) := by decide +kernel
theorem dX8_init_15 : decode cX8_init 15 = .ok (.aload_n 0, 1) := by decide +kernel
theorem dX8_init_16 : decode cX8_init 16 = .ok (.new 9, 3) := by decide +kernel
theorem dX8_init_19 : decode cX8_init 19 = .ok (.dup, 1) := by decide +kernel
theorem dX8_init_20 : decode cX8_init 20 = .ok (.invokespecial 11, 3) := by decide +kernel
theorem dX8_init_23 : decode cX8_init 23 = .ok (.putfield 18, 3) := by decide +kernel
theorem dX8_init_26 : decode cX8_init 26 = .ok (.aload_n 0, 1) := by decide +kernel
theorem dX8_init_27 : decode cX8_init 27 = .ok (.new 21, 3) := by decide +kernel
theorem dX8_init_30 : decode cX8_init 30 = .ok (.dup, 1) := by decide +kernel
theorem dX8_init_31 : decode cX8_init 31 = .ok (.invokespecial 23, 3) := by decide +kernel
theorem dX8_init_34 : decode cX8_init 34 = .ok (.putfield 24, 3) := by decide +kernel
theorem dX8_init_37 : decode cX8_init 37 = .ok (.aload_n 0, 1) := by decide +kernel
theorem dX8_init_38 : decode cX8_init 38 = .ok (.lconst 0, 1) := by decide +kernel
theorem dX8_init_39 : decode cX8_init 39 = .ok (.putfield 28, 3) := by decide +kernel
theorem dX8_init_42 : decode cX8_init 42 = .ok (.aload_n 0, 1) := by decide +kernel
theorem dX8_init_43 : decode cX8_init 43 = .ok (.new 21, 3) := by decide +kernel
theorem dX8_init_46 : decode cX8_init 46 = .ok (.dup, 1) := by decide +kernel
theorem dX8_init_47 : decode cX8_init 47 = .ok (.invokespecial 23, 3) := by decide +kernel
theorem dX8_init_50 : decode cX8_init 50 = .ok (.putfield 32, 3) := by decide +kernel
theorem dX8_init_53 : decode cX8_init 53 = .ok (.aload_n 0, 1) := by decide +kernel
theorem dX8_init_54 : decode cX8_init 54 = .ok (.aload_n 1, 1) := by decide +kernel
theorem dX8_init_55 : decode cX8_init 55 = .ok (.putfield 35, 3) := by decide +kernel
theorem dX8_init_58 : decode cX8_init 58 = .ok (.aload_n 0, 1) := by decide +kernel
theorem dX8_init_59 : decode cX8_init 59 = .ok (.sipush 288, 3) := by decide +kernel
theorem dX8_init_62 : decode cX8_init 62 = .ok (.newarray .long, 2) := by decide +kernel
theorem dX8_init_64 : decode cX8_init 64 = .ok (.putfield 39, 3) := by decide +kernel
theorem dX8_init_67 : decode cX8_init 67 = .ok (.aload_n 0, 1) := by decide +kernel
theorem dX8_init_68 : decode cX8_init 68 = .ok (.iconst 0, 1) := by decide +kernel
theorem dX8_init_69 : decode cX8_init 69 = .ok (.putfield 43, 3) := by decide +kernel
theorem dX8_init_72 : decode cX8_init 72 = .ok (.aload_n 0, 1) := by decide +kernel
theorem dX8_init_73 : decode cX8_init 73 = .ok (.iconst 0, 1) := by decide +kernel
theorem dX8_init_74 : decode cX8_init 74 = .ok (.putfield 47, 3) := by decide +kernel
theorem dX8_init_77 : decode cX8_init 77 = .ok (.aload_n 0, 1) := by decide +kernel
theorem dX8_init_78 : decode cX8_init 78 = .ok (.bipush 12, 2) := by decide +kernel
theorem dX8_init_80 : decode cX8_init 80 = .ok (.newarray .int, 2) := by decide +kernel
theorem dX8_init_82 : decode cX8_init 82 = .ok (.putfield 50, 3) := by decide +kernel
theorem dX8_init_85 : decode cX8_init 85 = .ok (.aload_n 0, 1) := by decide +kernel
theorem dX8_init_86 : decode cX8_init 86 = .ok (.iconst 0, 1) := by decide +kernel
theorem dX8_init_87 : decode cX8_init 87 = .ok (.putfield 54, 3) := by decide +kernel
theorem dX8_init_90 : decode cX8_init 90 = .ok (.aload_n 0, 1) := by decide +kernel
theorem dX8_init_91 : decode cX8_init 91 = .ok (.iconst 0, 1) := by decide +kernel
theorem dX8_init_92 : decode cX8_init 92 = .ok (.putfield 57, 3) := by decide +kernel
theorem dX8_init_95 : decode cX8_init 95 = .ok (.return_, 1) := by decide +kernel
theorem dX8_open_0 : decode cX8_open 0 = .ok (.aload_n 0, 1) := by decide +kernel
theorem dX8_open_1 : decode cX8_open 1 = .ok (.aload_n 1, 1) := by decide +kernel
theorem dX8_open_2 : decode cX8_open 2 = .ok (.putfield 35, 3) := by decide +kernel
theorem dX8_open_5 : decode cX8_open 5 = .ok (.aload_n 0, 1) := by decide +kernel
theorem dX8_open_6 : decode cX8_open 6 = .ok (.getfield 12, 3) := by decide +kernel
theorem dX8_open_9 : decode cX8_open 9 = .ok (.invokevirtual 61, 3) := by decide +kernel
theorem dX8_open_12 : decode cX8_open 12 = .ok (.aload_n 0, 1) := by decide +kernel
theorem dX8_open_13 : decode cX8_open 13 = .ok (.getfield 18, 3) := by decide +kernel
theorem dX8_open_16 : decode cX8_open 16 = .ok (.invokevirtual 61, 3) := by decide +kernel
theorem dX8_open_19 : decode cX8_open 19 = .ok (.aload_n 0, 1) := by decide +kernel
theorem dX8_open_20 : decode cX8_open 20 = .ok (.invokevirtual 64, 3) := by decide +kernel
theorem dX8_open_23 : decode cX8_open 23 = .ok (.return_, 1) := by decide +kernel
theorem dX8_startCall_0 : decode cX8_startCall 0 = .ok (.aload_n 0, 1) := by decide +kernel
theorem dX8_startCall_1 : decode cX8_startCall 1 = .ok (.iconst 0, 1) := by decide +kernel
theorem dX8_startCall_2 : decode cX8_startCall 2 = .ok (.putfield 43, 3) := by decide +kernel
theorem dX8_startCall_5 : decode cX8_startCall 5 = .ok (.aload_n 0, 1) := by decide +kernel
theorem dX8_startCall_6 : decode cX8_startCall 6 = .ok (.iconst 0, 1) := by decide +kernel
theorem dX8_startCall_7 : decode cX8_startCall 7 = .ok (.putfield 54, 3) := by decide +kernel
theorem dX8_startCall_10 : decode cX8_startCall 10 = .ok (.aload_n 0, 1) := by decide +kernel
theorem dX8_startCall_11 : decode cX8_startCall 11 = .ok (.iconst 0, 1) := by decide +kernel
theorem dX8_startCall_12 : decode cX8_startCall 12 = .ok (.putfield 57, 3) := by decide +kernel
theorem dX8_startCall_15 : decode cX8_startCall 15 = .ok (.return_, 1) := by decide +kernel
theorem dX8_reasonAt_0 : decode cX8_reasonAt 0 = .ok (.iload_n 1, 1) := by decide +kernel
theorem dX8_reasonAt_1 : decode cX8_reasonAt 1 = .ok (.ifCond .lt 11, 3) := by decide +kernel
theorem dX8_reasonAt_4 : decode cX8_reasonAt 4 = .ok (.iload_n 1, 1) := by decide +kernel
theorem dX8_reasonAt_5 : decode cX8_reasonAt 5 = .ok (.aload_n 0, 1) := by decide +kernel
theorem dX8_reasonAt_6 : decode cX8_reasonAt 6 = .ok (.getfield 54, 3) := by decide +kernel
theorem dX8_reasonAt_9 : decode cX8_reasonAt 9 = .ok (.if_icmp .lt 8, 3) := by decide +kernel
theorem dX8_reasonAt_12 : decode cX8_reasonAt 12 = .ok (.bipush (-9), 2) := by decide +kernel
theorem dX8_reasonAt_14 : decode cX8_reasonAt 14 = .ok (.goto 18, 3) := by decide +kernel
theorem dX8_reasonAt_17 : decode cX8_reasonAt 17 = .ok (.aload_n 0, 1) := by decide +kernel
theorem dX8_reasonAt_18 : decode cX8_reasonAt 18 = .ok (.getfield 50, 3) := by decide +kernel
theorem dX8_reasonAt_21 : decode cX8_reasonAt 21 = .ok (.aload_n 0, 1) := by decide +kernel
theorem dX8_reasonAt_22 : decode cX8_reasonAt 22 = .ok (.getfield 54, 3) := by decide +kernel
theorem dX8_reasonAt_25 : decode cX8_reasonAt 25 = .ok (.iconst 1, 1) := by decide +kernel
theorem dX8_reasonAt_26 : decode cX8_reasonAt 26 = .ok (.isub, 1) := by decide +kernel
theorem dX8_reasonAt_27 : decode cX8_reasonAt 27 = .ok (.iload_n 1, 1) := by decide +kernel
theorem dX8_reasonAt_28 : decode cX8_reasonAt 28 = .ok (.isub, 1) := by decide +kernel
theorem dX8_reasonAt_29 : decode cX8_reasonAt 29 = .ok (.invokestatic 67, 3) := by decide +kernel
theorem dX8_reasonAt_32 : decode cX8_reasonAt 32 = .ok (.ireturn, 1) := by decide +kernel
theorem dX8_askFor_0 : decode cX8_askFor 0 = .ok (.aload_n 0, 1) := by decide +kernel
theorem dX8_askFor_1 : decode cX8_askFor 1 = .ok (.iload_n 1, 1) := by decide +kernel
theorem dX8_askFor_2 : decode cX8_askFor 2 = .ok (.lload_n 2, 1) := by decide +kernel
theorem dX8_askFor_3 : decode cX8_askFor 3 = .ok (.bipush (-9), 2) := by decide +kernel
theorem dX8_askFor_5 : decode cX8_askFor 5 = .ok (.invokevirtual 71, 3) := by decide +kernel
theorem dX8_askFor_8 : decode cX8_askFor 8 = .ok (.ireturn, 1) := by decide +kernel
theorem dX8_addUp_0 : decode cX8_addUp 0 = .ok (.aload_n 0, 1) := by decide +kernel
theorem dX8_addUp_1 : decode cX8_addUp 1 = .ok (.getfield 24, 3) := by decide +kernel
theorem dX8_addUp_4 : decode cX8_addUp 4 = .ok (.invokevirtual 75, 3) := by decide +kernel
theorem dX8_addUp_7 : decode cX8_addUp 7 = .ok (.iload_n 2, 1) := by decide +kernel
theorem dX8_addUp_8 : decode cX8_addUp 8 = .ok (.i2l, 1) := by decide +kernel
theorem dX8_addUp_9 : decode cX8_addUp 9 = .ok (.lstore 4, 2) := by decide +kernel
theorem dX8_addUp_11 : decode cX8_addUp 11 = .ok (.lload 4, 2) := by decide +kernel
theorem dX8_addUp_13 : decode cX8_addUp 13 = .ok (.iload_n 3, 1) := by decide +kernel
theorem dX8_addUp_14 : decode cX8_addUp 14 = .ok (.i2l, 1) := by decide +kernel
theorem dX8_addUp_15 : decode cX8_addUp 15 = .ok (.lcmp, 1) := by decide +kernel
theorem dX8_addUp_16 : decode cX8_addUp 16 = .ok (.ifCond .gt 37, 3) := by decide +kernel
theorem dX8_addUp_19 : decode cX8_addUp 19 = .ok (.aload_n 0, 1) := by decide +kernel
theorem dX8_addUp_20 : decode cX8_addUp 20 = .ok (.iload_n 1, 1) := by decide +kernel
theorem dX8_addUp_21 : decode cX8_addUp 21 = .ok (.lload 4, 2) := by decide +kernel
theorem dX8_addUp_23 : decode cX8_addUp 23 = .ok (.bipush (-9), 2) := by decide +kernel
theorem dX8_addUp_25 : decode cX8_addUp 25 = .ok (.invokevirtual 71, 3) := by decide +kernel
theorem dX8_addUp_28 : decode cX8_addUp 28 = .ok (.ifCond .ne 5, 3) := by decide +kernel
theorem dX8_addUp_31 : decode cX8_addUp 31 = .ok (.iconst 0, 1) := by decide +kernel
theorem dX8_addUp_32 : decode cX8_addUp 32 = .ok (.ireturn, 1) := by decide +kernel
theorem dX8_addUp_33 : decode cX8_addUp 33 = .ok (.aload_n 0, 1) := by decide +kernel
theorem dX8_addUp_34 : decode cX8_addUp 34 = .ok (.getfield 24, 3) := by decide +kernel
theorem dX8_addUp_37 : decode cX8_addUp 37 = .ok (.aload_n 0, 1) := by decide +kernel
theorem dX8_addUp_38 : decode cX8_addUp 38 = .ok (.getfield 28, 3) := by decide +kernel
theorem dX8_addUp_41 : decode cX8_addUp 41 = .ok (.invokevirtual 76, 3) := by decide +kernel
theorem dX8_addUp_44 : decode cX8_addUp 44 = .ok (.lload 4, 2) := by decide +kernel
theorem dX8_addUp_46 : decode cX8_addUp 46 = .ok (.lconst 1, 1) := by decide +kernel
theorem dX8_addUp_47 : decode cX8_addUp 47 = .ok (.ladd, 1) := by decide +kernel
theorem dX8_addUp_48 : decode cX8_addUp 48 = .ok (.lstore 4, 2) := by decide +kernel
theorem dX8_addUp_50 : decode cX8_addUp 50 = .ok (.goto (-39), 3) := by decide +kernel
theorem dX8_addUp_53 : decode cX8_addUp 53 = .ok (.iconst 1, 1) := by decide +kernel
theorem dX8_addUp_54 : decode cX8_addUp 54 = .ok (.ireturn, 1) := by decide +kernel
theorem dX8_search_0 : decode cX8_search 0 = .ok (.aload_n 0, 1) := by decide +kernel
theorem dX8_search_1 : decode cX8_search 1 = .ok (.getfield 35, 3) := by decide +kernel
theorem dX8_search_4 : decode cX8_search 4 = .ok (.iload_n 1, 1) := by decide +kernel
theorem dX8_search_5 : decode cX8_search 5 = .ok (.invokevirtual 80, 3) := by decide +kernel
theorem dX8_search_8 : decode cX8_search 8 = .ok (.astore 4, 2) := by decide +kernel
theorem dX8_search_10 : decode cX8_search 10 = .ok (.aload 4, 2) := by decide +kernel
theorem dX8_search_12 : decode cX8_search 12 = .ok (.ifnull 15, 3) := by decide +kernel
theorem dX8_search_15 : decode cX8_search 15 = .ok (.aload_n 0, 1) := by decide +kernel
theorem dX8_search_16 : decode cX8_search 16 = .ok (.aload 4, 2) := by decide +kernel
theorem dX8_search_18 : decode cX8_search 18 = .ok (.iload_n 1, 1) := by decide +kernel
theorem dX8_search_19 : decode cX8_search 19 = .ok (.bipush (-9), 2) := by decide +kernel
theorem dX8_search_21 : decode cX8_search 21 = .ok (.invokevirtual 86, 3) := by decide +kernel
theorem dX8_search_24 : decode cX8_search 24 = .ok (.ifCond .ne 6, 3) := by decide +kernel
theorem dX8_search_27 : decode cX8_search 27 = .ok (.bipush (-10), 2) := by decide +kernel
theorem dX8_search_29 : decode cX8_search 29 = .ok (.ireturn, 1) := by decide +kernel
theorem dX8_search_30 : decode cX8_search 30 = .ok (.iconst 0, 1) := by decide +kernel
theorem dX8_search_31 : decode cX8_search 31 = .ok (.istore 5, 2) := by decide +kernel
theorem dX8_search_33 : decode cX8_search 33 = .ok (.iload 5, 2) := by decide +kernel
theorem dX8_search_35 : decode cX8_search 35 = .ok (.aload 4, 2) := by decide +kernel
theorem dX8_search_37 : decode cX8_search 37 = .ok (.invokevirtual 90, 3) := by decide +kernel
theorem dX8_search_40 : decode cX8_search 40 = .ok (.if_icmp .ge 37, 3) := by decide +kernel
theorem dX8_search_43 : decode cX8_search 43 = .ok (.aload_n 0, 1) := by decide +kernel
theorem dX8_search_44 : decode cX8_search 44 = .ok (.iload_n 1, 1) := by decide +kernel
theorem dX8_search_45 : decode cX8_search 45 = .ok (.iload 5, 2) := by decide +kernel
theorem dX8_search_47 : decode cX8_search 47 = .ok (.i2l, 1) := by decide +kernel
theorem dX8_search_48 : decode cX8_search 48 = .ok (.bipush (-9), 2) := by decide +kernel
theorem dX8_search_50 : decode cX8_search 50 = .ok (.invokevirtual 71, 3) := by decide +kernel
theorem dX8_search_53 : decode cX8_search 53 = .ok (.ifCond .ne 6, 3) := by decide +kernel
theorem dX8_search_56 : decode cX8_search 56 = .ok (.bipush (-10), 2) := by decide +kernel
theorem dX8_search_58 : decode cX8_search 58 = .ok (.ireturn, 1) := by decide +kernel
theorem dX8_search_59 : decode cX8_search 59 = .ok (.aload_n 0, 1) := by decide +kernel
theorem dX8_search_60 : decode cX8_search 60 = .ok (.getfield 28, 3) := by decide +kernel
theorem dX8_search_63 : decode cX8_search 63 = .ok (.lload_n 2, 1) := by decide +kernel
theorem dX8_search_64 : decode cX8_search 64 = .ok (.lcmp, 1) := by decide +kernel
theorem dX8_search_65 : decode cX8_search 65 = .ok (.ifCond .ne 6, 3) := by decide +kernel
theorem dX8_search_68 : decode cX8_search 68 = .ok (.iload 5, 2) := by decide +kernel
theorem dX8_search_70 : decode cX8_search 70 = .ok (.ireturn, 1) := by decide +kernel
theorem dX8_search_71 : decode cX8_search 71 = .ok (.iinc 5 1, 3) := by decide +kernel
theorem dX8_search_74 : decode cX8_search 74 = .ok (.goto (-41), 3) := by decide +kernel
theorem dX8_search_77 : decode cX8_search 77 = .ok (.bipush (-9), 2) := by decide +kernel
theorem dX8_search_79 : decode cX8_search 79 = .ok (.ireturn, 1) := by decide +kernel
theorem dX8_ask_0 : decode cX8_ask 0 = .ok (.aload_n 0, 1) := by decide +kernel
theorem dX8_ask_1 : decode cX8_ask 1 = .ok (.getfield 35, 3) := by decide +kernel
theorem dX8_ask_4 : decode cX8_ask 4 = .ok (.iload_n 1, 1) := by decide +kernel
theorem dX8_ask_5 : decode cX8_ask 5 = .ok (.invokevirtual 80, 3) := by decide +kernel
theorem dX8_ask_8 : decode cX8_ask 8 = .ok (.astore 5, 2) := by decide +kernel
theorem dX8_ask_10 : decode cX8_ask 10 = .ok (.aload 5, 2) := by decide +kernel
theorem dX8_ask_12 : decode cX8_ask 12 = .ok (.ifnull 15, 3) := by decide +kernel
theorem dX8_ask_15 : decode cX8_ask 15 = .ok (.aload_n 0, 1) := by decide +kernel
theorem dX8_ask_16 : decode cX8_ask 16 = .ok (.aload 5, 2) := by decide +kernel
theorem dX8_ask_18 : decode cX8_ask 18 = .ok (.iload_n 1, 1) := by decide +kernel
theorem dX8_ask_19 : decode cX8_ask 19 = .ok (.iload 4, 2) := by decide +kernel
theorem dX8_ask_21 : decode cX8_ask 21 = .ok (.invokevirtual 86, 3) := by decide +kernel
theorem dX8_ask_24 : decode cX8_ask 24 = .ok (.ifCond .ne 5, 3) := by decide +kernel
theorem dX8_ask_27 : decode cX8_ask 27 = .ok (.iconst 0, 1) := by decide +kernel
theorem dX8_ask_28 : decode cX8_ask 28 = .ok (.ireturn, 1) := by decide +kernel
theorem dX8_ask_29 : decode cX8_ask 29 = .ok (.lload_n 2, 1) := by decide +kernel
theorem dX8_ask_30 : decode cX8_ask 30 = .ok (.lconst 0, 1) := by decide +kernel
theorem dX8_ask_31 : decode cX8_ask 31 = .ok (.lcmp, 1) := by decide +kernel
theorem dX8_ask_32 : decode cX8_ask 32 = .ok (.ifCond .lt 14, 3) := by decide +kernel
theorem dX8_ask_35 : decode cX8_ask 35 = .ok (.lload_n 2, 1) := by decide +kernel
theorem dX8_ask_36 : decode cX8_ask 36 = .ok (.aload 5, 2) := by decide +kernel
theorem dX8_ask_38 : decode cX8_ask 38 = .ok (.invokevirtual 90, 3) := by decide +kernel
theorem dX8_ask_41 : decode cX8_ask 41 = .ok (.i2l, 1) := by decide +kernel
theorem dX8_ask_42 : decode cX8_ask 42 = .ok (.lcmp, 1) := by decide +kernel
theorem dX8_ask_43 : decode cX8_ask 43 = .ok (.ifCond .lt 9, 3) := by decide +kernel
theorem dX8_ask_46 : decode cX8_ask 46 = .ok (.aload_n 0, 1) := by decide +kernel
theorem dX8_ask_47 : decode cX8_ask 47 = .ok (.iconst 2, 1) := by decide +kernel
theorem dX8_ask_48 : decode cX8_ask 48 = .ok (.invokevirtual 96, 3) := by decide +kernel
theorem dX8_ask_51 : decode cX8_ask 51 = .ok (.ireturn, 1) := by decide +kernel
theorem dX8_ask_52 : decode cX8_ask 52 = .ok (.lload_n 2, 1) := by decide +kernel
theorem dX8_ask_53 : decode cX8_ask 53 = .ok (.l2i, 1) := by decide +kernel
theorem dX8_ask_54 : decode cX8_ask 54 = .ok (.istore 6, 2) := by decide +kernel
theorem dX8_ask_56 : decode cX8_ask 56 = .ok (.aload 5, 2) := by decide +kernel
theorem dX8_ask_58 : decode cX8_ask 58 = .ok (.getfield 100, 3) := by decide +kernel
theorem dX8_ask_61 : decode cX8_ask 61 = .ok (.iconst 1, 1) := by decide +kernel
theorem dX8_ask_62 : decode cX8_ask 62 = .ok (.if_icmp .ne 7, 3) := by decide +kernel
theorem dX8_ask_65 : decode cX8_ask 65 = .ok (.iconst 1, 1) := by decide +kernel
theorem dX8_ask_66 : decode cX8_ask 66 = .ok (.goto 4, 3) := by decide +kernel
theorem dX8_ask_69 : decode cX8_ask 69 = .ok (.iconst 0, 1) := by decide +kernel
theorem dX8_ask_70 : decode cX8_ask 70 = .ok (.istore 7, 2) := by decide +kernel
theorem dX8_ask_72 : decode cX8_ask 72 = .ok (.aload 5, 2) := by decide +kernel
theorem dX8_ask_74 : decode cX8_ask 74 = .ok (.getfield 103, 3) := by decide +kernel
theorem dX8_ask_77 : decode cX8_ask 77 = .ok (.ifCond .eq 52, 3) := by decide +kernel
theorem dX8_ask_80 : decode cX8_ask 80 = .ok (.iload 7, 2) := by decide +kernel
theorem dX8_ask_82 : decode cX8_ask 82 = .ok (.ifCond .ne 47, 3) := by decide +kernel
theorem dX8_ask_85 : decode cX8_ask 85 = .ok (.iload 6, 2) := by decide +kernel
theorem dX8_ask_87 : decode cX8_ask 87 = .ok (.bipush 8, 2) := by decide +kernel
theorem dX8_ask_89 : decode cX8_ask 89 = .ok (.idiv, 1) := by decide +kernel
theorem dX8_ask_90 : decode cX8_ask 90 = .ok (.istore 8, 2) := by decide +kernel
theorem dX8_ask_92 : decode cX8_ask 92 = .ok (.aload_n 0, 1) := by decide +kernel
theorem dX8_ask_93 : decode cX8_ask 93 = .ok (.aload 5, 2) := by decide +kernel
theorem dX8_ask_95 : decode cX8_ask 95 = .ok (.iload_n 1, 1) := by decide +kernel
theorem dX8_ask_96 : decode cX8_ask 96 = .ok (.iload 8, 2) := by decide +kernel
theorem dX8_ask_98 : decode cX8_ask 98 = .ok (.iload 4, 2) := by decide +kernel
theorem dX8_ask_100 : decode cX8_ask 100 = .ok (.invokevirtual 106, 3) := by decide +kernel
theorem dX8_ask_103 : decode cX8_ask 103 = .ok (.ifCond .ne 5, 3) := by decide +kernel
theorem dX8_ask_106 : decode cX8_ask 106 = .ok (.iconst 0, 1) := by decide +kernel
theorem dX8_ask_107 : decode cX8_ask 107 = .ok (.ireturn, 1) := by decide +kernel
theorem dX8_ask_108 : decode cX8_ask 108 = .ok (.aload 5, 2) := by decide +kernel
theorem dX8_ask_110 : decode cX8_ask 110 = .ok (.getfield 110, 3) := by decide +kernel
theorem dX8_ask_113 : decode cX8_ask 113 = .ok (.iload 8, 2) := by decide +kernel
theorem dX8_ask_115 : decode cX8_ask 115 = .ok (.invokestatic 67, 3) := by decide +kernel
theorem dX8_ask_118 : decode cX8_ask 118 = .ok (.iconst 1, 1) := by decide +kernel
theorem dX8_ask_119 : decode cX8_ask 119 = .ok (.if_icmp .ne 7, 3) := by decide +kernel
theorem dX8_ask_122 : decode cX8_ask 122 = .ok (.iconst 1, 1) := by decide +kernel
theorem dX8_ask_123 : decode cX8_ask 123 = .ok (.goto 4, 3) := by decide +kernel
theorem dX8_ask_126 : decode cX8_ask 126 = .ok (.iconst 0, 1) := by decide +kernel
theorem dX8_ask_127 : decode cX8_ask 127 = .ok (.istore 7, 2) := by decide +kernel
theorem dX8_ask_129 : decode cX8_ask 129 = .ok (.aload_n 0, 1) := by decide +kernel
theorem dX8_ask_130 : decode cX8_ask 130 = .ok (.aload 5, 2) := by decide +kernel
theorem dX8_ask_132 : decode cX8_ask 132 = .ok (.getfield 113, 3) := by decide +kernel
theorem dX8_ask_135 : decode cX8_ask 135 = .ok (.iload 6, 2) := by decide +kernel
theorem dX8_ask_137 : decode cX8_ask 137 = .ok (.invokestatic 116, 3) := by decide +kernel
theorem dX8_ask_140 : decode cX8_ask 140 = .ok (.putfield 28, 3) := by decide +kernel
theorem dX8_ask_143 : decode cX8_ask 143 = .ok (.iload 7, 2) := by decide +kernel
theorem dX8_ask_145 : decode cX8_ask 145 = .ok (.ifCond .eq 22, 3) := by decide +kernel
theorem dX8_ask_148 : decode cX8_ask 148 = .ok (.aload_n 0, 1) := by decide +kernel
theorem dX8_ask_149 : decode cX8_ask 149 = .ok (.getfield 18, 3) := by decide +kernel
theorem dX8_ask_152 : decode cX8_ask 152 = .ok (.iload_n 1, 1) := by decide +kernel
theorem dX8_ask_153 : decode cX8_ask 153 = .ok (.i2l, 1) := by decide +kernel
theorem dX8_ask_154 : decode cX8_ask 154 = .ok (.iload 6, 2) := by decide +kernel
theorem dX8_ask_156 : decode cX8_ask 156 = .ok (.i2l, 1) := by decide +kernel
theorem dX8_ask_157 : decode cX8_ask 157 = .ok (.iload 4, 2) := by decide +kernel
theorem dX8_ask_159 : decode cX8_ask 159 = .ok (.i2l, 1) := by decide +kernel
theorem dX8_ask_160 : decode cX8_ask 160 = .ok (.aload_n 0, 1) := by decide +kernel
theorem dX8_ask_161 : decode cX8_ask 161 = .ok (.getfield 28, 3) := by decide +kernel
theorem dX8_ask_164 : decode cX8_ask 164 = .ok (.invokevirtual 119, 3) := by decide +kernel
theorem dX8_ask_167 : decode cX8_ask 167 = .ok (.iconst 1, 1) := by decide +kernel
theorem dX8_ask_168 : decode cX8_ask 168 = .ok (.ireturn, 1) := by decide +kernel
theorem dX8_awaken_0 : decode cX8_awaken 0 = .ok (.aload_n 1, 1) := by decide +kernel
theorem dX8_awaken_1 : decode cX8_awaken 1 = .ok (.getfield 100, 3) := by decide +kernel
theorem dX8_awaken_4 : decode cX8_awaken 4 = .ok (.iconst 3, 1) := by decide +kernel
theorem dX8_awaken_5 : decode cX8_awaken 5 = .ok (.if_icmp .ne 10, 3) := by decide +kernel
theorem dX8_awaken_8 : decode cX8_awaken 8 = .ok (.aload_n 0, 1) := by decide +kernel
theorem dX8_awaken_9 : decode cX8_awaken 9 = .ok (.bipush 6, 2) := by decide +kernel
theorem dX8_awaken_11 : decode cX8_awaken 11 = .ok (.invokevirtual 96, 3) := by decide +kernel
theorem dX8_awaken_14 : decode cX8_awaken 14 = .ok (.ireturn, 1) := by decide +kernel
theorem dX8_awaken_15 : decode cX8_awaken 15 = .ok (.aload_n 1, 1) := by decide +kernel
theorem dX8_awaken_16 : decode cX8_awaken 16 = .ok (.getfield 100, 3) := by decide +kernel
theorem dX8_awaken_19 : decode cX8_awaken 19 = .ok (.ifCond .ne 13, 3) := by decide +kernel
theorem dX8_awaken_22 : decode cX8_awaken 22 = .ok (.aload_n 0, 1) := by decide +kernel
theorem dX8_awaken_23 : decode cX8_awaken 23 = .ok (.aload_n 1, 1) := by decide +kernel
theorem dX8_awaken_24 : decode cX8_awaken 24 = .ok (.iload_n 2, 1) := by decide +kernel
theorem dX8_awaken_25 : decode cX8_awaken 25 = .ok (.iload_n 3, 1) := by decide +kernel
theorem dX8_awaken_26 : decode cX8_awaken 26 = .ok (.invokevirtual 123, 3) := by decide +kernel
theorem dX8_awaken_29 : decode cX8_awaken 29 = .ok (.ifCond .eq 7, 3) := by decide +kernel
theorem dX8_awaken_32 : decode cX8_awaken 32 = .ok (.iconst 1, 1) := by decide +kernel
theorem dX8_awaken_33 : decode cX8_awaken 33 = .ok (.goto 4, 3) := by decide +kernel
theorem dX8_awaken_36 : decode cX8_awaken 36 = .ok (.iconst 0, 1) := by decide +kernel
theorem dX8_awaken_37 : decode cX8_awaken 37 = .ok (.ireturn, 1) := by decide +kernel
theorem dX8_awakenRow_0 : decode cX8_awakenRow 0 = .ok (.aload_n 1, 1) := by decide +kernel
theorem dX8_awakenRow_1 : decode cX8_awakenRow 1 = .ok (.getfield 110, 3) := by decide +kernel
theorem dX8_awakenRow_4 : decode cX8_awakenRow 4 = .ok (.iload_n 3, 1) := by decide +kernel
theorem dX8_awakenRow_5 : decode cX8_awakenRow 5 = .ok (.invokestatic 67, 3) := by decide +kernel
theorem dX8_awakenRow_8 : decode cX8_awakenRow 8 = .ok (.istore 5, 2) := by decide +kernel
theorem dX8_awakenRow_10 : decode cX8_awakenRow 10 = .ok (.iload 5, 2) := by decide +kernel
theorem dX8_awakenRow_12 : decode cX8_awakenRow 12 = .ok (.iconst 3, 1) := by decide +kernel
theorem dX8_awakenRow_13 : decode cX8_awakenRow 13 = .ok (.if_icmp .ne 10, 3) := by decide +kernel
theorem dX8_awakenRow_16 : decode cX8_awakenRow 16 = .ok (.aload_n 0, 1) := by decide +kernel
theorem dX8_awakenRow_17 : decode cX8_awakenRow 17 = .ok (.bipush 6, 2) := by decide +kernel
theorem dX8_awakenRow_19 : decode cX8_awakenRow 19 = .ok (.invokevirtual 96, 3) := by decide +kernel
theorem dX8_awakenRow_22 : decode cX8_awakenRow 22 = .ok (.ireturn, 1) := by decide +kernel
theorem dX8_awakenRow_23 : decode cX8_awakenRow 23 = .ok (.iload 5, 2) := by decide +kernel
theorem dX8_awakenRow_25 : decode cX8_awakenRow 25 = .ok (.ifCond .ne 15, 3) := by decide +kernel
theorem dX8_awakenRow_28 : decode cX8_awakenRow 28 = .ok (.aload_n 0, 1) := by decide +kernel
theorem dX8_awakenRow_29 : decode cX8_awakenRow 29 = .ok (.aload_n 1, 1) := by decide +kernel
theorem dX8_awakenRow_30 : decode cX8_awakenRow 30 = .ok (.iload_n 2, 1) := by decide +kernel
theorem dX8_awakenRow_31 : decode cX8_awakenRow 31 = .ok (.iload_n 3, 1) := by decide +kernel
theorem dX8_awakenRow_32 : decode cX8_awakenRow 32 = .ok (.iload 4, 2) := by decide +kernel
theorem dX8_awakenRow_34 : decode cX8_awakenRow 34 = .ok (.invokevirtual 126, 3) := by decide +kernel
theorem dX8_awakenRow_37 : decode cX8_awakenRow 37 = .ok (.ifCond .eq 7, 3) := by decide +kernel
theorem dX8_awakenRow_40 : decode cX8_awakenRow 40 = .ok (.iconst 1, 1) := by decide +kernel
theorem dX8_awakenRow_41 : decode cX8_awakenRow 41 = .ok (.goto 4, 3) := by decide +kernel
theorem dX8_awakenRow_44 : decode cX8_awakenRow 44 = .ok (.iconst 0, 1) := by decide +kernel
theorem dX8_awakenRow_45 : decode cX8_awakenRow 45 = .ok (.ireturn, 1) := by decide +kernel
theorem dX8_wake_0 : decode cX8_wake 0 = .ok (.aload_n 0, 1) := by decide +kernel
theorem dX8_wake_1 : decode cX8_wake 1 = .ok (.getfield 47, 3) := by decide +kernel
theorem dX8_wake_4 : decode cX8_wake 4 = .ok (.bipush 12, 2) := by decide +kernel
theorem dX8_wake_6 : decode cX8_wake 6 = .ok (.if_icmp .lt 10, 3) := by decide +kernel
theorem dX8_wake_9 : decode cX8_wake 9 = .ok (.aload_n 0, 1) := by decide +kernel
theorem dX8_wake_10 : decode cX8_wake 10 = .ok (.bipush 8, 2) := by decide +kernel
theorem dX8_wake_12 : decode cX8_wake 12 = .ok (.invokevirtual 96, 3) := by decide +kernel
theorem dX8_wake_15 : decode cX8_wake 15 = .ok (.ireturn, 1) := by decide +kernel
theorem dX8_wake_16 : decode cX8_wake 16 = .ok (.aload_n 0, 1) := by decide +kernel
theorem dX8_wake_17 : decode cX8_wake 17 = .ok (.dup, 1) := by decide +kernel
theorem dX8_wake_18 : decode cX8_wake 18 = .ok (.getfield 47, 3) := by decide +kernel
theorem dX8_wake_21 : decode cX8_wake 21 = .ok (.iconst 1, 1) := by decide +kernel
theorem dX8_wake_22 : decode cX8_wake 22 = .ok (.iadd, 1) := by decide +kernel
theorem dX8_wake_23 : decode cX8_wake 23 = .ok (.putfield 47, 3) := by decide +kernel
theorem dX8_wake_26 : decode cX8_wake 26 = .ok (.aload_n 1, 1) := by decide +kernel
theorem dX8_wake_27 : decode cX8_wake 27 = .ok (.iconst 1, 1) := by decide +kernel
theorem dX8_wake_28 : decode cX8_wake 28 = .ok (.putfield 100, 3) := by decide +kernel
theorem dX8_wake_31 : decode cX8_wake 31 = .ok (.aload_n 0, 1) := by decide +kernel
theorem dX8_wake_32 : decode cX8_wake 32 = .ok (.getfield 12, 3) := by decide +kernel
theorem dX8_wake_35 : decode cX8_wake 35 = .ok (.iload_n 2, 1) := by decide +kernel
theorem dX8_wake_36 : decode cX8_wake 36 = .ok (.i2l, 1) := by decide +kernel
theorem dX8_wake_37 : decode cX8_wake 37 = .ok (.ldc2_w 129, 3) := by decide +kernel
theorem dX8_wake_40 : decode cX8_wake 40 = .ok (.iload_n 3, 1) := by decide +kernel
theorem dX8_wake_41 : decode cX8_wake 41 = .ok (.i2l, 1) := by decide +kernel
theorem dX8_wake_42 : decode cX8_wake 42 = .ok (.lconst 0, 1) := by decide +kernel
theorem dX8_wake_43 : decode cX8_wake 43 = .ok (.invokevirtual 119, 3) := by decide +kernel
theorem dX8_wake_46 : decode cX8_wake 46 = .ok (.aload_n 0, 1) := by decide +kernel
theorem dX8_wake_47 : decode cX8_wake 47 = .ok (.aload_n 1, 1) := by decide +kernel
theorem dX8_wake_48 : decode cX8_wake 48 = .ok (.invokevirtual 131, 3) := by decide +kernel
theorem dX8_wake_51 : decode cX8_wake 51 = .ok (.ifCond .eq 24, 3) := by decide +kernel
theorem dX8_wake_54 : decode cX8_wake 54 = .ok (.aload_n 0, 1) := by decide +kernel
theorem dX8_wake_55 : decode cX8_wake 55 = .ok (.aload_n 1, 1) := by decide +kernel
theorem dX8_wake_56 : decode cX8_wake 56 = .ok (.iload_n 2, 1) := by decide +kernel
theorem dX8_wake_57 : decode cX8_wake 57 = .ok (.invokevirtual 135, 3) := by decide +kernel
theorem dX8_wake_60 : decode cX8_wake 60 = .ok (.ifCond .eq 15, 3) := by decide +kernel
theorem dX8_wake_63 : decode cX8_wake 63 = .ok (.aload_n 0, 1) := by decide +kernel
theorem dX8_wake_64 : decode cX8_wake 64 = .ok (.aload_n 1, 1) := by decide +kernel
theorem dX8_wake_65 : decode cX8_wake 65 = .ok (.invokevirtual 139, 3) := by decide +kernel
theorem dX8_wake_68 : decode cX8_wake 68 = .ok (.ifCond .eq 7, 3) := by decide +kernel
theorem dX8_wake_71 : decode cX8_wake 71 = .ok (.iconst 1, 1) := by decide +kernel
theorem dX8_wake_72 : decode cX8_wake 72 = .ok (.goto 4, 3) := by decide +kernel
theorem dX8_wake_75 : decode cX8_wake 75 = .ok (.iconst 0, 1) := by decide +kernel
theorem dX8_wake_76 : decode cX8_wake 76 = .ok (.istore 4, 2) := by decide +kernel
theorem dX8_wake_78 : decode cX8_wake 78 = .ok (.aload_n 0, 1) := by decide +kernel
theorem dX8_wake_79 : decode cX8_wake 79 = .ok (.dup, 1) := by decide +kernel
theorem dX8_wake_80 : decode cX8_wake 80 = .ok (.getfield 47, 3) := by decide +kernel
theorem dX8_wake_83 : decode cX8_wake 83 = .ok (.iconst 1, 1) := by decide +kernel
theorem dX8_wake_84 : decode cX8_wake 84 = .ok (.isub, 1) := by decide +kernel
theorem dX8_wake_85 : decode cX8_wake 85 = .ok (.putfield 47, 3) := by decide +kernel
theorem dX8_wake_88 : decode cX8_wake 88 = .ok (.aload_n 1, 1) := by decide +kernel
theorem dX8_wake_89 : decode cX8_wake 89 = .ok (.iload 4, 2) := by decide +kernel
theorem dX8_wake_91 : decode cX8_wake 91 = .ok (.ifCond .eq 7, 3) := by decide +kernel
theorem dX8_wake_94 : decode cX8_wake 94 = .ok (.iconst 2, 1) := by decide +kernel
theorem dX8_wake_95 : decode cX8_wake 95 = .ok (.goto 4, 3) := by decide +kernel
theorem dX8_wake_98 : decode cX8_wake 98 = .ok (.iconst 3, 1) := by decide +kernel
theorem dX8_wake_99 : decode cX8_wake 99 = .ok (.putfield 100, 3) := by decide +kernel
theorem dX8_wake_102 : decode cX8_wake 102 = .ok (.iload 4, 2) := by decide +kernel
theorem dX8_wake_104 : decode cX8_wake 104 = .ok (.ifCond .ne 10, 3) := by decide +kernel
theorem dX8_wake_107 : decode cX8_wake 107 = .ok (.aload_n 0, 1) := by decide +kernel
theorem dX8_wake_108 : decode cX8_wake 108 = .ok (.invokevirtual 142, 3) := by decide +kernel
theorem dX8_wake_111 : decode cX8_wake 111 = .ok (.ifCond .eq 7, 3) := by decide +kernel
theorem dX8_wake_114 : decode cX8_wake 114 = .ok (.iconst 1, 1) := by decide +kernel
theorem dX8_wake_115 : decode cX8_wake 115 = .ok (.goto 4, 3) := by decide +kernel
theorem dX8_wake_118 : decode cX8_wake 118 = .ok (.iconst 0, 1) := by decide +kernel
theorem dX8_wake_119 : decode cX8_wake 119 = .ok (.ireturn, 1) := by decide +kernel
theorem dX8_layOut_0 : decode cX8_layOut 0 = .ok (.aload_n 1, 1) := by decide +kernel
theorem dX8_layOut_1 : decode cX8_layOut 1 = .ok (.getfield 146, 3) := by decide +kernel
theorem dX8_layOut_4 : decode cX8_layOut 4 = .ok (.lconst 0, 1) := by decide +kernel
theorem dX8_layOut_5 : decode cX8_layOut 5 = .ok (.lcmp, 1) := by decide +kernel
theorem dX8_layOut_6 : decode cX8_layOut 6 = .ok (.ifCond .ge 9, 3) := by decide +kernel
theorem dX8_layOut_9 : decode cX8_layOut 9 = .ok (.aload_n 0, 1) := by decide +kernel
theorem dX8_layOut_10 : decode cX8_layOut 10 = .ok (.iconst 3, 1) := by decide +kernel
theorem dX8_layOut_11 : decode cX8_layOut 11 = .ok (.invokevirtual 96, 3) := by decide +kernel
theorem dX8_layOut_14 : decode cX8_layOut 14 = .ok (.ireturn, 1) := by decide +kernel
theorem dX8_layOut_15 : decode cX8_layOut 15 = .ok (.aload_n 1, 1) := by decide +kernel
theorem dX8_layOut_16 : decode cX8_layOut 16 = .ok (.getfield 146, 3) := by decide +kernel
theorem dX8_layOut_19 : decode cX8_layOut 19 = .ok (.ldc2_w 149, 3) := by decide +kernel
theorem dX8_layOut_22 : decode cX8_layOut 22 = .ok (.lcmp, 1) := by decide +kernel
theorem dX8_layOut_23 : decode cX8_layOut 23 = .ok (.ifCond .le 9, 3) := by decide +kernel
theorem dX8_layOut_26 : decode cX8_layOut 26 = .ok (.aload_n 0, 1) := by decide +kernel
theorem dX8_layOut_27 : decode cX8_layOut 27 = .ok (.iconst 4, 1) := by decide +kernel
theorem dX8_layOut_28 : decode cX8_layOut 28 = .ok (.invokevirtual 96, 3) := by decide +kernel
theorem dX8_layOut_31 : decode cX8_layOut 31 = .ok (.ireturn, 1) := by decide +kernel
theorem dX8_layOut_32 : decode cX8_layOut 32 = .ok (.aload_n 1, 1) := by decide +kernel
theorem dX8_layOut_33 : decode cX8_layOut 33 = .ok (.invokevirtual 151, 3) := by decide +kernel
theorem dX8_layOut_36 : decode cX8_layOut 36 = .ok (.iconst 1, 1) := by decide +kernel
theorem dX8_layOut_37 : decode cX8_layOut 37 = .ok (.ireturn, 1) := by decide +kernel
theorem dX8_fill_0 : decode cX8_fill 0 = .ok (.aload_n 1, 1) := by decide +kernel
theorem dX8_fill_1 : decode cX8_fill 1 = .ok (.getfield 103, 3) := by decide +kernel
theorem dX8_fill_4 : decode cX8_fill 4 = .ok (.ifCond .ne 15, 3) := by decide +kernel
theorem dX8_fill_7 : decode cX8_fill 7 = .ok (.aload_n 0, 1) := by decide +kernel
theorem dX8_fill_8 : decode cX8_fill 8 = .ok (.aload_n 1, 1) := by decide +kernel
theorem dX8_fill_9 : decode cX8_fill 9 = .ok (.iload_n 2, 1) := by decide +kernel
theorem dX8_fill_10 : decode cX8_fill 10 = .ok (.iconst 0, 1) := by decide +kernel
theorem dX8_fill_11 : decode cX8_fill 11 = .ok (.aload_n 1, 1) := by decide +kernel
theorem dX8_fill_12 : decode cX8_fill 12 = .ok (.invokevirtual 90, 3) := by decide +kernel
theorem dX8_fill_15 : decode cX8_fill 15 = .ok (.invokevirtual 154, 3) := by decide +kernel
theorem dX8_fill_18 : decode cX8_fill 18 = .ok (.ireturn, 1) := by decide +kernel
theorem dX8_fill_19 : decode cX8_fill 19 = .ok (.iconst 0, 1) := by decide +kernel
theorem dX8_fill_20 : decode cX8_fill 20 = .ok (.istore_n 3, 1) := by decide +kernel
theorem dX8_fill_21 : decode cX8_fill 21 = .ok (.aload_n 1, 1) := by decide +kernel
theorem dX8_fill_22 : decode cX8_fill 22 = .ok (.getfield 157, 3) := by decide +kernel
theorem dX8_fill_25 : decode cX8_fill 25 = .ok (.ifCond .eq 31, 3) := by decide +kernel
theorem dX8_fill_28 : decode cX8_fill 28 = .ok (.iload_n 3, 1) := by decide +kernel
theorem dX8_fill_29 : decode cX8_fill 29 = .ok (.aload_n 1, 1) := by decide +kernel
theorem dX8_fill_30 : decode cX8_fill 30 = .ok (.invokevirtual 160, 3) := by decide +kernel
theorem dX8_fill_33 : decode cX8_fill 33 = .ok (.if_icmp .ge 23, 3) := by decide +kernel
theorem dX8_fill_36 : decode cX8_fill 36 = .ok (.aload_n 0, 1) := by decide +kernel
theorem dX8_fill_37 : decode cX8_fill 37 = .ok (.aload_n 1, 1) := by decide +kernel
theorem dX8_fill_38 : decode cX8_fill 38 = .ok (.iload_n 2, 1) := by decide +kernel
theorem dX8_fill_39 : decode cX8_fill 39 = .ok (.iload_n 3, 1) := by decide +kernel
theorem dX8_fill_40 : decode cX8_fill 40 = .ok (.bipush (-9), 2) := by decide +kernel
theorem dX8_fill_42 : decode cX8_fill 42 = .ok (.invokevirtual 126, 3) := by decide +kernel
theorem dX8_fill_45 : decode cX8_fill 45 = .ok (.ifCond .ne 5, 3) := by decide +kernel
theorem dX8_fill_48 : decode cX8_fill 48 = .ok (.iconst 0, 1) := by decide +kernel
theorem dX8_fill_49 : decode cX8_fill 49 = .ok (.ireturn, 1) := by decide +kernel
theorem dX8_fill_50 : decode cX8_fill 50 = .ok (.iinc 3 1, 3) := by decide +kernel
theorem dX8_fill_53 : decode cX8_fill 53 = .ok (.goto (-32), 3) := by decide +kernel
theorem dX8_fill_56 : decode cX8_fill 56 = .ok (.iconst 1, 1) := by decide +kernel
theorem dX8_fill_57 : decode cX8_fill 57 = .ok (.ireturn, 1) := by decide +kernel
theorem dX8_keepsPromise_0 : decode cX8_keepsPromise 0 = .ok (.aload_n 1, 1) := by decide +kernel
theorem dX8_keepsPromise_1 : decode cX8_keepsPromise 1 = .ok (.getfield 157, 3) := by decide +kernel
theorem dX8_keepsPromise_4 : decode cX8_keepsPromise 4 = .ok (.ifCond .ne 5, 3) := by decide +kernel
theorem dX8_keepsPromise_7 : decode cX8_keepsPromise 7 = .ok (.iconst 1, 1) := by decide +kernel
theorem dX8_keepsPromise_8 : decode cX8_keepsPromise 8 = .ok (.ireturn, 1) := by decide +kernel
theorem dX8_keepsPromise_9 : decode cX8_keepsPromise 9 = .ok (.aload_n 0, 1) := by decide +kernel
theorem dX8_keepsPromise_10 : decode cX8_keepsPromise 10 = .ok (.getfield 32, 3) := by decide +kernel
theorem dX8_keepsPromise_13 : decode cX8_keepsPromise 13 = .ok (.invokevirtual 75, 3) := by decide +kernel
theorem dX8_keepsPromise_16 : decode cX8_keepsPromise 16 = .ok (.iconst 0, 1) := by decide +kernel
theorem dX8_keepsPromise_17 : decode cX8_keepsPromise 17 = .ok (.istore_n 2, 1) := by decide +kernel
theorem dX8_keepsPromise_18 : decode cX8_keepsPromise 18 = .ok (.iload_n 2, 1) := by decide +kernel
theorem dX8_keepsPromise_19 : decode cX8_keepsPromise 19 = .ok (.aload_n 1, 1) := by decide +kernel
theorem dX8_keepsPromise_20 : decode cX8_keepsPromise 20 = .ok (.invokevirtual 90, 3) := by decide +kernel
theorem dX8_keepsPromise_23 : decode cX8_keepsPromise 23 = .ok (.if_icmp .ge 24, 3) := by decide +kernel
theorem dX8_keepsPromise_26 : decode cX8_keepsPromise 26 = .ok (.aload_n 0, 1) := by decide +kernel
theorem dX8_keepsPromise_27 : decode cX8_keepsPromise 27 = .ok (.getfield 32, 3) := by decide +kernel
theorem dX8_keepsPromise_30 : decode cX8_keepsPromise 30 = .ok (.aload_n 1, 1) := by decide +kernel
theorem dX8_keepsPromise_31 : decode cX8_keepsPromise 31 = .ok (.getfield 113, 3) := by decide +kernel
theorem dX8_keepsPromise_34 : decode cX8_keepsPromise 34 = .ok (.iload_n 2, 1) := by decide +kernel
theorem dX8_keepsPromise_35 : decode cX8_keepsPromise 35 = .ok (.invokestatic 116, 3) := by decide +kernel
theorem dX8_keepsPromise_38 : decode cX8_keepsPromise 38 = .ok (.invokevirtual 76, 3) := by decide +kernel
theorem dX8_keepsPromise_41 : decode cX8_keepsPromise 41 = .ok (.iinc 2 1, 3) := by decide +kernel
theorem dX8_keepsPromise_44 : decode cX8_keepsPromise 44 = .ok (.goto (-26), 3) := by decide +kernel
theorem dX8_keepsPromise_47 : decode cX8_keepsPromise 47 = .ok (.aload_n 0, 1) := by decide +kernel
theorem dX8_keepsPromise_48 : decode cX8_keepsPromise 48 = .ok (.getfield 32, 3) := by decide +kernel
theorem dX8_keepsPromise_51 : decode cX8_keepsPromise 51 = .ok (.aload_n 1, 1) := by decide +kernel
theorem dX8_keepsPromise_52 : decode cX8_keepsPromise 52 = .ok (.getfield 163, 3) := by decide +kernel
theorem dX8_keepsPromise_55 : decode cX8_keepsPromise 55 = .ok (.invokevirtual 166, 3) := by decide +kernel
theorem dX8_keepsPromise_58 : decode cX8_keepsPromise 58 = .ok (.ifCond .ne 11, 3) := by decide +kernel
theorem dX8_keepsPromise_61 : decode cX8_keepsPromise 61 = .ok (.aload_n 0, 1) := by decide +kernel
theorem dX8_keepsPromise_62 : decode cX8_keepsPromise 62 = .ok (.iconst 5, 1) := by decide +kernel
theorem dX8_keepsPromise_63 : decode cX8_keepsPromise 63 = .ok (.invokevirtual 96, 3) := by decide +kernel
theorem dX8_keepsPromise_66 : decode cX8_keepsPromise 66 = .ok (.ifCond .eq 7, 3) := by decide +kernel
theorem dX8_keepsPromise_69 : decode cX8_keepsPromise 69 = .ok (.iconst 1, 1) := by decide +kernel
theorem dX8_keepsPromise_70 : decode cX8_keepsPromise 70 = .ok (.goto 4, 3) := by decide +kernel
theorem dX8_keepsPromise_73 : decode cX8_keepsPromise 73 = .ok (.iconst 0, 1) := by decide +kernel
theorem dX8_keepsPromise_74 : decode cX8_keepsPromise 74 = .ok (.ireturn, 1) := by decide +kernel
theorem dX8_makeRow_0 : decode cX8_makeRow 0 = .ok (.aload_n 0, 1) := by decide +kernel
theorem dX8_makeRow_1 : decode cX8_makeRow 1 = .ok (.getfield 47, 3) := by decide +kernel
theorem dX8_makeRow_4 : decode cX8_makeRow 4 = .ok (.bipush 12, 2) := by decide +kernel
theorem dX8_makeRow_6 : decode cX8_makeRow 6 = .ok (.if_icmp .lt 10, 3) := by decide +kernel
theorem dX8_makeRow_9 : decode cX8_makeRow 9 = .ok (.aload_n 0, 1) := by decide +kernel
theorem dX8_makeRow_10 : decode cX8_makeRow 10 = .ok (.bipush 8, 2) := by decide +kernel
theorem dX8_makeRow_12 : decode cX8_makeRow 12 = .ok (.invokevirtual 96, 3) := by decide +kernel
theorem dX8_makeRow_15 : decode cX8_makeRow 15 = .ok (.ireturn, 1) := by decide +kernel
theorem dX8_makeRow_16 : decode cX8_makeRow 16 = .ok (.aload_n 0, 1) := by decide +kernel
theorem dX8_makeRow_17 : decode cX8_makeRow 17 = .ok (.dup, 1) := by decide +kernel
theorem dX8_makeRow_18 : decode cX8_makeRow 18 = .ok (.getfield 47, 3) := by decide +kernel
theorem dX8_makeRow_21 : decode cX8_makeRow 21 = .ok (.iconst 1, 1) := by decide +kernel
theorem dX8_makeRow_22 : decode cX8_makeRow 22 = .ok (.iadd, 1) := by decide +kernel
theorem dX8_makeRow_23 : decode cX8_makeRow 23 = .ok (.putfield 47, 3) := by decide +kernel
theorem dX8_makeRow_26 : decode cX8_makeRow 26 = .ok (.aload_n 1, 1) := by decide +kernel
theorem dX8_makeRow_27 : decode cX8_makeRow 27 = .ok (.getfield 110, 3) := by decide +kernel
theorem dX8_makeRow_30 : decode cX8_makeRow 30 = .ok (.iload_n 3, 1) := by decide +kernel
theorem dX8_makeRow_31 : decode cX8_makeRow 31 = .ok (.iconst 1, 1) := by decide +kernel
theorem dX8_makeRow_32 : decode cX8_makeRow 32 = .ok (.invokestatic 170, 3) := by decide +kernel
theorem dX8_makeRow_35 : decode cX8_makeRow 35 = .ok (.aload_n 0, 1) := by decide +kernel
theorem dX8_makeRow_36 : decode cX8_makeRow 36 = .ok (.getfield 12, 3) := by decide +kernel
theorem dX8_makeRow_39 : decode cX8_makeRow 39 = .ok (.iload_n 2, 1) := by decide +kernel
theorem dX8_makeRow_40 : decode cX8_makeRow 40 = .ok (.i2l, 1) := by decide +kernel
theorem dX8_makeRow_41 : decode cX8_makeRow 41 = .ok (.iload_n 3, 1) := by decide +kernel
theorem dX8_makeRow_42 : decode cX8_makeRow 42 = .ok (.i2l, 1) := by decide +kernel
theorem dX8_makeRow_43 : decode cX8_makeRow 43 = .ok (.iload 4, 2) := by decide +kernel
theorem dX8_makeRow_45 : decode cX8_makeRow 45 = .ok (.i2l, 1) := by decide +kernel
theorem dX8_makeRow_46 : decode cX8_makeRow 46 = .ok (.lconst 0, 1) := by decide +kernel
theorem dX8_makeRow_47 : decode cX8_makeRow 47 = .ok (.invokevirtual 119, 3) := by decide +kernel
theorem dX8_makeRow_50 : decode cX8_makeRow 50 = .ok (.aload_n 0, 1) := by decide +kernel
theorem dX8_makeRow_51 : decode cX8_makeRow 51 = .ok (.aload_n 1, 1) := by decide +kernel
theorem dX8_makeRow_52 : decode cX8_makeRow 52 = .ok (.iload_n 2, 1) := by decide +kernel
theorem dX8_makeRow_53 : decode cX8_makeRow 53 = .ok (.bipush 8, 2) := by decide +kernel
theorem dX8_makeRow_55 : decode cX8_makeRow 55 = .ok (.iload_n 3, 1) := by decide +kernel
theorem dX8_makeRow_56 : decode cX8_makeRow 56 = .ok (.imul, 1) := by decide +kernel
theorem dX8_makeRow_57 : decode cX8_makeRow 57 = .ok (.aload_n 1, 1) := by decide +kernel
theorem dX8_makeRow_58 : decode cX8_makeRow 58 = .ok (.iload_n 3, 1) := by decide +kernel
theorem dX8_makeRow_59 : decode cX8_makeRow 59 = .ok (.invokevirtual 174, 3) := by decide +kernel
theorem dX8_makeRow_62 : decode cX8_makeRow 62 = .ok (.invokevirtual 154, 3) := by decide +kernel
theorem dX8_makeRow_65 : decode cX8_makeRow 65 = .ok (.istore 5, 2) := by decide +kernel
theorem dX8_makeRow_67 : decode cX8_makeRow 67 = .ok (.aload_n 0, 1) := by decide +kernel
theorem dX8_makeRow_68 : decode cX8_makeRow 68 = .ok (.dup, 1) := by decide +kernel
theorem dX8_makeRow_69 : decode cX8_makeRow 69 = .ok (.getfield 47, 3) := by decide +kernel
theorem dX8_makeRow_72 : decode cX8_makeRow 72 = .ok (.iconst 1, 1) := by decide +kernel
theorem dX8_makeRow_73 : decode cX8_makeRow 73 = .ok (.isub, 1) := by decide +kernel
theorem dX8_makeRow_74 : decode cX8_makeRow 74 = .ok (.putfield 47, 3) := by decide +kernel
theorem dX8_makeRow_77 : decode cX8_makeRow 77 = .ok (.aload_n 1, 1) := by decide +kernel
theorem dX8_makeRow_78 : decode cX8_makeRow 78 = .ok (.getfield 110, 3) := by decide +kernel
theorem dX8_makeRow_81 : decode cX8_makeRow 81 = .ok (.iload_n 3, 1) := by decide +kernel
theorem dX8_makeRow_82 : decode cX8_makeRow 82 = .ok (.iload 5, 2) := by decide +kernel
theorem dX8_makeRow_84 : decode cX8_makeRow 84 = .ok (.ifCond .eq 7, 3) := by decide +kernel
theorem dX8_makeRow_87 : decode cX8_makeRow 87 = .ok (.iconst 2, 1) := by decide +kernel
theorem dX8_makeRow_88 : decode cX8_makeRow 88 = .ok (.goto 4, 3) := by decide +kernel
theorem dX8_makeRow_91 : decode cX8_makeRow 91 = .ok (.iconst 3, 1) := by decide +kernel
theorem dX8_makeRow_92 : decode cX8_makeRow 92 = .ok (.invokestatic 170, 3) := by decide +kernel
theorem dX8_makeRow_95 : decode cX8_makeRow 95 = .ok (.iload 5, 2) := by decide +kernel
theorem dX8_makeRow_97 : decode cX8_makeRow 97 = .ok (.ifCond .ne 10, 3) := by decide +kernel
theorem dX8_makeRow_100 : decode cX8_makeRow 100 = .ok (.aload_n 0, 1) := by decide +kernel
theorem dX8_makeRow_101 : decode cX8_makeRow 101 = .ok (.invokevirtual 142, 3) := by decide +kernel
theorem dX8_makeRow_104 : decode cX8_makeRow 104 = .ok (.ifCond .eq 7, 3) := by decide +kernel
theorem dX8_makeRow_107 : decode cX8_makeRow 107 = .ok (.iconst 1, 1) := by decide +kernel
theorem dX8_makeRow_108 : decode cX8_makeRow 108 = .ok (.goto 4, 3) := by decide +kernel
theorem dX8_makeRow_111 : decode cX8_makeRow 111 = .ok (.iconst 0, 1) := by decide +kernel
theorem dX8_makeRow_112 : decode cX8_makeRow 112 = .ok (.ireturn, 1) := by decide +kernel
theorem dX8_makeEntries_0 : decode cX8_makeEntries 0 = .ok (.iload_n 3, 1) := by decide +kernel
theorem dX8_makeEntries_1 : decode cX8_makeEntries 1 = .ok (.istore 5, 2) := by decide +kernel
theorem dX8_makeEntries_3 : decode cX8_makeEntries 3 = .ok (.iload 5, 2) := by decide +kernel
theorem dX8_makeEntries_5 : decode cX8_makeEntries 5 = .ok (.iload 4, 2) := by decide +kernel
theorem dX8_makeEntries_7 : decode cX8_makeEntries 7 = .ok (.if_icmp .ge 38, 3) := by decide +kernel
theorem dX8_makeEntries_10 : decode cX8_makeEntries 10 = .ok (.aload_n 0, 1) := by decide +kernel
theorem dX8_makeEntries_11 : decode cX8_makeEntries 11 = .ok (.aload_n 1, 1) := by decide +kernel
theorem dX8_makeEntries_12 : decode cX8_makeEntries 12 = .ok (.getfield 178, 3) := by decide +kernel
theorem dX8_makeEntries_15 : decode cX8_makeEntries 15 = .ok (.iload_n 2, 1) := by decide +kernel
theorem dX8_makeEntries_16 : decode cX8_makeEntries 16 = .ok (.iload 5, 2) := by decide +kernel
theorem dX8_makeEntries_18 : decode cX8_makeEntries 18 = .ok (.invokevirtual 182, 3) := by decide +kernel
theorem dX8_makeEntries_21 : decode cX8_makeEntries 21 = .ok (.ifCond .ne 5, 3) := by decide +kernel
theorem dX8_makeEntries_24 : decode cX8_makeEntries 24 = .ok (.iconst 0, 1) := by decide +kernel
theorem dX8_makeEntries_25 : decode cX8_makeEntries 25 = .ok (.ireturn, 1) := by decide +kernel
theorem dX8_makeEntries_26 : decode cX8_makeEntries 26 = .ok (.aload_n 1, 1) := by decide +kernel
theorem dX8_makeEntries_27 : decode cX8_makeEntries 27 = .ok (.getfield 113, 3) := by decide +kernel
theorem dX8_makeEntries_30 : decode cX8_makeEntries 30 = .ok (.iload 5, 2) := by decide +kernel
theorem dX8_makeEntries_32 : decode cX8_makeEntries 32 = .ok (.aload_n 0, 1) := by decide +kernel
theorem dX8_makeEntries_33 : decode cX8_makeEntries 33 = .ok (.invokevirtual 186, 3) := by decide +kernel
theorem dX8_makeEntries_36 : decode cX8_makeEntries 36 = .ok (.invokestatic 190, 3) := by decide +kernel
theorem dX8_makeEntries_39 : decode cX8_makeEntries 39 = .ok (.iinc 5 1, 3) := by decide +kernel
theorem dX8_makeEntries_42 : decode cX8_makeEntries 42 = .ok (.goto (-39), 3) := by decide +kernel
theorem dX8_makeEntries_45 : decode cX8_makeEntries 45 = .ok (.iconst 1, 1) := by decide +kernel
theorem dX8_makeEntries_46 : decode cX8_makeEntries 46 = .ok (.ireturn, 1) := by decide +kernel
theorem dX8_workOut_0 : decode cX8_workOut 0 = .ok (.iconst 0, 1) := by decide +kernel
theorem dX8_workOut_1 : decode cX8_workOut 1 = .ok (.istore 4, 2) := by decide +kernel
theorem dX8_workOut_3 : decode cX8_workOut 3 = .ok (.iload 4, 2) := by decide +kernel
theorem dX8_workOut_5 : decode cX8_workOut 5 = .ok (.aload_n 1, 1) := by decide +kernel
theorem dX8_workOut_6 : decode cX8_workOut 6 = .ok (.getfield 193, 3) := by decide +kernel
theorem dX8_workOut_9 : decode cX8_workOut 9 = .ok (.if_icmp .ge 200, 3) := by decide +kernel
theorem dX8_workOut_12 : decode cX8_workOut 12 = .ok (.aload_n 1, 1) := by decide +kernel
theorem dX8_workOut_13 : decode cX8_workOut 13 = .ok (.iload 4, 2) := by decide +kernel
theorem dX8_workOut_15 : decode cX8_workOut 15 = .ok (.invokevirtual 198, 3) := by decide +kernel
theorem dX8_workOut_18 : decode cX8_workOut 18 = .ok (.istore 5, 2) := by decide +kernel
theorem dX8_workOut_20 : decode cX8_workOut 20 = .ok (.iload 5, 2) := by decide +kernel
theorem dX8_workOut_22 : decode cX8_workOut 22 = .ok (.tableswitch 170 0 6 #[42, 55, 64, 85, 117, 129, 143], 42) := by decide +kernel
theorem dX8_workOut_64 : decode cX8_workOut 64 = .ok (.aload_n 0, 1) := by decide +kernel
theorem dX8_workOut_65 : decode cX8_workOut 65 = .ok (.aload_n 1, 1) := by decide +kernel
theorem dX8_workOut_66 : decode cX8_workOut 66 = .ok (.iload 4, 2) := by decide +kernel
theorem dX8_workOut_68 : decode cX8_workOut 68 = .ok (.invokevirtual 201, 3) := by decide +kernel
theorem dX8_workOut_71 : decode cX8_workOut 71 = .ok (.invokevirtual 205, 3) := by decide +kernel
theorem dX8_workOut_74 : decode cX8_workOut 74 = .ok (.goto 129, 3) := by decide +kernel
theorem dX8_workOut_77 : decode cX8_workOut 77 = .ok (.aload_n 0, 1) := by decide +kernel
theorem dX8_workOut_78 : decode cX8_workOut 78 = .ok (.iload_n 3, 1) := by decide +kernel
theorem dX8_workOut_79 : decode cX8_workOut 79 = .ok (.i2l, 1) := by decide +kernel
theorem dX8_workOut_80 : decode cX8_workOut 80 = .ok (.invokevirtual 205, 3) := by decide +kernel
theorem dX8_workOut_83 : decode cX8_workOut 83 = .ok (.goto 120, 3) := by decide +kernel
theorem dX8_workOut_86 : decode cX8_workOut 86 = .ok (.aload_n 0, 1) := by decide +kernel
theorem dX8_workOut_87 : decode cX8_workOut 87 = .ok (.aload_n 0, 1) := by decide +kernel
theorem dX8_workOut_88 : decode cX8_workOut 88 = .ok (.getfield 35, 3) := by decide +kernel
theorem dX8_workOut_91 : decode cX8_workOut 91 = .ok (.aload_n 1, 1) := by decide +kernel
theorem dX8_workOut_92 : decode cX8_workOut 92 = .ok (.iload 4, 2) := by decide +kernel
theorem dX8_workOut_94 : decode cX8_workOut 94 = .ok (.invokevirtual 201, 3) := by decide +kernel
theorem dX8_workOut_97 : decode cX8_workOut 97 = .ok (.l2i, 1) := by decide +kernel
theorem dX8_workOut_98 : decode cX8_workOut 98 = .ok (.invokevirtual 208, 3) := by decide +kernel
theorem dX8_workOut_101 : decode cX8_workOut 101 = .ok (.invokevirtual 205, 3) := by decide +kernel
theorem dX8_workOut_104 : decode cX8_workOut 104 = .ok (.goto 99, 3) := by decide +kernel
theorem dX8_workOut_107 : decode cX8_workOut 107 = .ok (.aload_n 0, 1) := by decide +kernel
theorem dX8_workOut_108 : decode cX8_workOut 108 = .ok (.aload_n 1, 1) := by decide +kernel
theorem dX8_workOut_109 : decode cX8_workOut 109 = .ok (.iload 4, 2) := by decide +kernel
theorem dX8_workOut_111 : decode cX8_workOut 111 = .ok (.invokevirtual 201, 3) := by decide +kernel
theorem dX8_workOut_114 : decode cX8_workOut 114 = .ok (.l2i, 1) := by decide +kernel
theorem dX8_workOut_115 : decode cX8_workOut 115 = .ok (.aload_n 0, 1) := by decide +kernel
theorem dX8_workOut_116 : decode cX8_workOut 116 = .ok (.invokevirtual 186, 3) := by decide +kernel
theorem dX8_workOut_119 : decode cX8_workOut 119 = .ok (.iload_n 2, 1) := by decide +kernel
theorem dX8_workOut_120 : decode cX8_workOut 120 = .ok (.invokevirtual 71, 3) := by decide +kernel
theorem dX8_workOut_123 : decode cX8_workOut 123 = .ok (.ifCond .ne 5, 3) := by decide +kernel
theorem dX8_workOut_126 : decode cX8_workOut 126 = .ok (.iconst 0, 1) := by decide +kernel
theorem dX8_workOut_127 : decode cX8_workOut 127 = .ok (.ireturn, 1) := by decide +kernel
theorem dX8_workOut_128 : decode cX8_workOut 128 = .ok (.aload_n 0, 1) := by decide +kernel
theorem dX8_workOut_129 : decode cX8_workOut 129 = .ok (.aload_n 0, 1) := by decide +kernel
theorem dX8_workOut_130 : decode cX8_workOut 130 = .ok (.getfield 28, 3) := by decide +kernel
theorem dX8_workOut_133 : decode cX8_workOut 133 = .ok (.invokevirtual 205, 3) := by decide +kernel
theorem dX8_workOut_136 : decode cX8_workOut 136 = .ok (.goto 67, 3) := by decide +kernel
theorem dX8_workOut_139 : decode cX8_workOut 139 = .ok (.aload_n 0, 1) := by decide +kernel
theorem dX8_workOut_140 : decode cX8_workOut 140 = .ok (.aload_n 0, 1) := by decide +kernel
theorem dX8_workOut_141 : decode cX8_workOut 141 = .ok (.invokevirtual 186, 3) := by decide +kernel
theorem dX8_workOut_144 : decode cX8_workOut 144 = .ok (.lneg, 1) := by decide +kernel
theorem dX8_workOut_145 : decode cX8_workOut 145 = .ok (.invokevirtual 205, 3) := by decide +kernel
theorem dX8_workOut_148 : decode cX8_workOut 148 = .ok (.goto 55, 3) := by decide +kernel
theorem dX8_workOut_151 : decode cX8_workOut 151 = .ok (.iload 4, 2) := by decide +kernel
theorem dX8_workOut_153 : decode cX8_workOut 153 = .ok (.aload_n 1, 1) := by decide +kernel
theorem dX8_workOut_154 : decode cX8_workOut 154 = .ok (.iload 4, 2) := by decide +kernel
theorem dX8_workOut_156 : decode cX8_workOut 156 = .ok (.invokevirtual 211, 3) := by decide +kernel
theorem dX8_workOut_159 : decode cX8_workOut 159 = .ok (.iadd, 1) := by decide +kernel
theorem dX8_workOut_160 : decode cX8_workOut 160 = .ok (.istore 4, 2) := by decide +kernel
theorem dX8_workOut_162 : decode cX8_workOut 162 = .ok (.goto 41, 3) := by decide +kernel
theorem dX8_workOut_165 : decode cX8_workOut 165 = .ok (.iload 4, 2) := by decide +kernel
theorem dX8_workOut_167 : decode cX8_workOut 167 = .ok (.aload_n 0, 1) := by decide +kernel
theorem dX8_workOut_168 : decode cX8_workOut 168 = .ok (.invokevirtual 186, 3) := by decide +kernel
theorem dX8_workOut_171 : decode cX8_workOut 171 = .ok (.lconst 0, 1) := by decide +kernel
theorem dX8_workOut_172 : decode cX8_workOut 172 = .ok (.lcmp, 1) := by decide +kernel
theorem dX8_workOut_173 : decode cX8_workOut 173 = .ok (.ifCond .ne 12, 3) := by decide +kernel
theorem dX8_workOut_176 : decode cX8_workOut 176 = .ok (.aload_n 1, 1) := by decide +kernel
theorem dX8_workOut_177 : decode cX8_workOut 177 = .ok (.iload 4, 2) := by decide +kernel
theorem dX8_workOut_179 : decode cX8_workOut 179 = .ok (.invokevirtual 211, 3) := by decide +kernel
theorem dX8_workOut_182 : decode cX8_workOut 182 = .ok (.goto 4, 3) := by decide +kernel
theorem dX8_workOut_185 : decode cX8_workOut 185 = .ok (.iconst 0, 1) := by decide +kernel
theorem dX8_workOut_186 : decode cX8_workOut 186 = .ok (.iadd, 1) := by decide +kernel
theorem dX8_workOut_187 : decode cX8_workOut 187 = .ok (.istore 4, 2) := by decide +kernel
theorem dX8_workOut_189 : decode cX8_workOut 189 = .ok (.goto 14, 3) := by decide +kernel
theorem dX8_workOut_192 : decode cX8_workOut 192 = .ok (.aload_n 0, 1) := by decide +kernel
theorem dX8_workOut_193 : decode cX8_workOut 193 = .ok (.iload 5, 2) := by decide +kernel
theorem dX8_workOut_195 : decode cX8_workOut 195 = .ok (.invokevirtual 214, 3) := by decide +kernel
theorem dX8_workOut_198 : decode cX8_workOut 198 = .ok (.ifCond .ne 5, 3) := by decide +kernel
theorem dX8_workOut_201 : decode cX8_workOut 201 = .ok (.iconst 0, 1) := by decide +kernel
theorem dX8_workOut_202 : decode cX8_workOut 202 = .ok (.ireturn, 1) := by decide +kernel
theorem dX8_workOut_203 : decode cX8_workOut 203 = .ok (.iinc 4 1, 3) := by decide +kernel
theorem dX8_workOut_206 : decode cX8_workOut 206 = .ok (.goto (-203), 3) := by decide +kernel
theorem dX8_workOut_209 : decode cX8_workOut 209 = .ok (.iconst 1, 1) := by decide +kernel
theorem dX8_workOut_210 : decode cX8_workOut 210 = .ok (.ireturn, 1) := by decide +kernel
theorem dX8_workOutPair_0 : decode cX8_workOutPair 0 = .ok (.aload_n 0, 1) := by decide +kernel
theorem dX8_workOutPair_1 : decode cX8_workOutPair 1 = .ok (.invokevirtual 186, 3) := by decide +kernel
theorem dX8_workOutPair_4 : decode cX8_workOutPair 4 = .ok (.lstore_n 2, 1) := by decide +kernel
theorem dX8_workOutPair_5 : decode cX8_workOutPair 5 = .ok (.aload_n 0, 1) := by decide +kernel
theorem dX8_workOutPair_6 : decode cX8_workOutPair 6 = .ok (.invokevirtual 186, 3) := by decide +kernel
theorem dX8_workOutPair_9 : decode cX8_workOutPair 9 = .ok (.lstore 4, 2) := by decide +kernel
theorem dX8_workOutPair_11 : decode cX8_workOutPair 11 = .ok (.iload_n 1, 1) := by decide +kernel
theorem dX8_workOutPair_12 : decode cX8_workOutPair 12 = .ok (.lookupswitch 92 #[(42, 64), (43, 44), (45, 54), (60, 74)], 44) := by decide +kernel
theorem dX8_workOutPair_56 : decode cX8_workOutPair 56 = .ok (.aload_n 0, 1) := by decide +kernel
theorem dX8_workOutPair_57 : decode cX8_workOutPair 57 = .ok (.lload 4, 2) := by decide +kernel
theorem dX8_workOutPair_59 : decode cX8_workOutPair 59 = .ok (.lload_n 2, 1) := by decide +kernel
theorem dX8_workOutPair_60 : decode cX8_workOutPair 60 = .ok (.ladd, 1) := by decide +kernel
theorem dX8_workOutPair_61 : decode cX8_workOutPair 61 = .ok (.invokevirtual 205, 3) := by decide +kernel
theorem dX8_workOutPair_64 : decode cX8_workOutPair 64 = .ok (.iconst 1, 1) := by decide +kernel
theorem dX8_workOutPair_65 : decode cX8_workOutPair 65 = .ok (.ireturn, 1) := by decide +kernel
theorem dX8_workOutPair_66 : decode cX8_workOutPair 66 = .ok (.aload_n 0, 1) := by decide +kernel
theorem dX8_workOutPair_67 : decode cX8_workOutPair 67 = .ok (.lload 4, 2) := by decide +kernel
theorem dX8_workOutPair_69 : decode cX8_workOutPair 69 = .ok (.lload_n 2, 1) := by decide +kernel
theorem dX8_workOutPair_70 : decode cX8_workOutPair 70 = .ok (.lsub, 1) := by decide +kernel
theorem dX8_workOutPair_71 : decode cX8_workOutPair 71 = .ok (.invokevirtual 205, 3) := by decide +kernel
theorem dX8_workOutPair_74 : decode cX8_workOutPair 74 = .ok (.iconst 1, 1) := by decide +kernel
theorem dX8_workOutPair_75 : decode cX8_workOutPair 75 = .ok (.ireturn, 1) := by decide +kernel
theorem dX8_workOutPair_76 : decode cX8_workOutPair 76 = .ok (.aload_n 0, 1) := by decide +kernel
theorem dX8_workOutPair_77 : decode cX8_workOutPair 77 = .ok (.lload 4, 2) := by decide +kernel
theorem dX8_workOutPair_79 : decode cX8_workOutPair 79 = .ok (.lload_n 2, 1) := by decide +kernel
theorem dX8_workOutPair_80 : decode cX8_workOutPair 80 = .ok (.lmul, 1) := by decide +kernel
theorem dX8_workOutPair_81 : decode cX8_workOutPair 81 = .ok (.invokevirtual 205, 3) := by decide +kernel
theorem dX8_workOutPair_84 : decode cX8_workOutPair 84 = .ok (.iconst 1, 1) := by decide +kernel
theorem dX8_workOutPair_85 : decode cX8_workOutPair 85 = .ok (.ireturn, 1) := by decide +kernel
theorem dX8_workOutPair_86 : decode cX8_workOutPair 86 = .ok (.aload_n 0, 1) := by decide +kernel
theorem dX8_workOutPair_87 : decode cX8_workOutPair 87 = .ok (.lload 4, 2) := by decide +kernel
theorem dX8_workOutPair_89 : decode cX8_workOutPair 89 = .ok (.lload_n 2, 1) := by decide +kernel
theorem dX8_workOutPair_90 : decode cX8_workOutPair 90 = .ok (.lcmp, 1) := by decide +kernel
theorem dX8_workOutPair_91 : decode cX8_workOutPair 91 = .ok (.ifCond .ge 7, 3) := by decide +kernel
theorem dX8_workOutPair_94 : decode cX8_workOutPair 94 = .ok (.lconst 1, 1) := by decide +kernel
theorem dX8_workOutPair_95 : decode cX8_workOutPair 95 = .ok (.goto 4, 3) := by decide +kernel
theorem dX8_workOutPair_98 : decode cX8_workOutPair 98 = .ok (.lconst 0, 1) := by decide +kernel
theorem dX8_workOutPair_99 : decode cX8_workOutPair 99 = .ok (.invokevirtual 205, 3) := by decide +kernel
theorem dX8_workOutPair_102 : decode cX8_workOutPair 102 = .ok (.iconst 1, 1) := by decide +kernel
theorem dX8_workOutPair_103 : decode cX8_workOutPair 103 = .ok (.ireturn, 1) := by decide +kernel
theorem dX8_workOutPair_104 : decode cX8_workOutPair 104 = .ok (.lload_n 2, 1) := by decide +kernel
theorem dX8_workOutPair_105 : decode cX8_workOutPair 105 = .ok (.lconst 0, 1) := by decide +kernel
theorem dX8_workOutPair_106 : decode cX8_workOutPair 106 = .ok (.lcmp, 1) := by decide +kernel
theorem dX8_workOutPair_107 : decode cX8_workOutPair 107 = .ok (.ifCond .ne 9, 3) := by decide +kernel
theorem dX8_workOutPair_110 : decode cX8_workOutPair 110 = .ok (.aload_n 0, 1) := by decide +kernel
theorem dX8_workOutPair_111 : decode cX8_workOutPair 111 = .ok (.iconst 1, 1) := by decide +kernel
theorem dX8_workOutPair_112 : decode cX8_workOutPair 112 = .ok (.invokevirtual 96, 3) := by decide +kernel
theorem dX8_workOutPair_115 : decode cX8_workOutPair 115 = .ok (.ireturn, 1) := by decide +kernel
theorem dX8_workOutPair_116 : decode cX8_workOutPair 116 = .ok (.aload_n 0, 1) := by decide +kernel
theorem dX8_workOutPair_117 : decode cX8_workOutPair 117 = .ok (.iload_n 1, 1) := by decide +kernel
theorem dX8_workOutPair_118 : decode cX8_workOutPair 118 = .ok (.bipush 47, 2) := by decide +kernel
theorem dX8_workOutPair_120 : decode cX8_workOutPair 120 = .ok (.if_icmp .ne 10, 3) := by decide +kernel
theorem dX8_workOutPair_123 : decode cX8_workOutPair 123 = .ok (.lload 4, 2) := by decide +kernel
theorem dX8_workOutPair_125 : decode cX8_workOutPair 125 = .ok (.lload_n 2, 1) := by decide +kernel
theorem dX8_workOutPair_126 : decode cX8_workOutPair 126 = .ok (.ldiv, 1) := by decide +kernel
theorem dX8_workOutPair_127 : decode cX8_workOutPair 127 = .ok (.goto 7, 3) := by decide +kernel
theorem dX8_workOutPair_130 : decode cX8_workOutPair 130 = .ok (.lload 4, 2) := by decide +kernel
theorem dX8_workOutPair_132 : decode cX8_workOutPair 132 = .ok (.lload_n 2, 1) := by decide +kernel
theorem dX8_workOutPair_133 : decode cX8_workOutPair 133 = .ok (.lrem, 1) := by decide +kernel
theorem dX8_workOutPair_134 : decode cX8_workOutPair 134 = .ok (.invokevirtual 205, 3) := by decide +kernel
theorem dX8_workOutPair_137 : decode cX8_workOutPair 137 = .ok (.iconst 1, 1) := by decide +kernel
theorem dX8_workOutPair_138 : decode cX8_workOutPair 138 = .ok (.ireturn, 1) := by decide +kernel
theorem dX8_push_0 : decode cX8_push 0 = .ok (.aload_n 0, 1) := by decide +kernel
theorem dX8_push_1 : decode cX8_push 1 = .ok (.getfield 39, 3) := by decide +kernel
theorem dX8_push_4 : decode cX8_push 4 = .ok (.aload_n 0, 1) := by decide +kernel
theorem dX8_push_5 : decode cX8_push 5 = .ok (.getfield 43, 3) := by decide +kernel
theorem dX8_push_8 : decode cX8_push 8 = .ok (.lload_n 1, 1) := by decide +kernel
theorem dX8_push_9 : decode cX8_push 9 = .ok (.invokestatic 190, 3) := by decide +kernel
theorem dX8_push_12 : decode cX8_push 12 = .ok (.aload_n 0, 1) := by decide +kernel
theorem dX8_push_13 : decode cX8_push 13 = .ok (.dup, 1) := by decide +kernel
theorem dX8_push_14 : decode cX8_push 14 = .ok (.getfield 43, 3) := by decide +kernel
theorem dX8_push_17 : decode cX8_push 17 = .ok (.iconst 1, 1) := by decide +kernel
theorem dX8_push_18 : decode cX8_push 18 = .ok (.iadd, 1) := by decide +kernel
theorem dX8_push_19 : decode cX8_push 19 = .ok (.putfield 43, 3) := by decide +kernel
theorem dX8_push_22 : decode cX8_push 22 = .ok (.return_, 1) := by decide +kernel
theorem dX8_pop_0 : decode cX8_pop 0 = .ok (.aload_n 0, 1) := by decide +kernel
theorem dX8_pop_1 : decode cX8_pop 1 = .ok (.dup, 1) := by decide +kernel
theorem dX8_pop_2 : decode cX8_pop 2 = .ok (.getfield 43, 3) := by decide +kernel
theorem dX8_pop_5 : decode cX8_pop 5 = .ok (.iconst 1, 1) := by decide +kernel
theorem dX8_pop_6 : decode cX8_pop 6 = .ok (.isub, 1) := by decide +kernel
theorem dX8_pop_7 : decode cX8_pop 7 = .ok (.putfield 43, 3) := by decide +kernel
theorem dX8_pop_10 : decode cX8_pop 10 = .ok (.aload_n 0, 1) := by decide +kernel
theorem dX8_pop_11 : decode cX8_pop 11 = .ok (.getfield 39, 3) := by decide +kernel
theorem dX8_pop_14 : decode cX8_pop 14 = .ok (.aload_n 0, 1) := by decide +kernel
theorem dX8_pop_15 : decode cX8_pop 15 = .ok (.getfield 43, 3) := by decide +kernel
theorem dX8_pop_18 : decode cX8_pop 18 = .ok (.invokestatic 116, 3) := by decide +kernel
theorem dX8_pop_21 : decode cX8_pop 21 = .ok (.lreturn, 1) := by decide +kernel
theorem dX8_fail_0 : decode cX8_fail 0 = .ok (.aload_n 0, 1) := by decide +kernel
theorem dX8_fail_1 : decode cX8_fail 1 = .ok (.iload_n 1, 1) := by decide +kernel
theorem dX8_fail_2 : decode cX8_fail 2 = .ok (.invokevirtual 217, 3) := by decide +kernel
theorem dX8_fail_5 : decode cX8_fail 5 = .ok (.iconst 0, 1) := by decide +kernel
theorem dX8_fail_6 : decode cX8_fail 6 = .ok (.ireturn, 1) := by decide +kernel
theorem dX8_failWithReason_0 : decode cX8_failWithReason 0 = .ok (.aload_n 0, 1) := by decide +kernel
theorem dX8_failWithReason_1 : decode cX8_failWithReason 1 = .ok (.getfield 57, 3) := by decide +kernel
theorem dX8_failWithReason_4 : decode cX8_failWithReason 4 = .ok (.ifCond .eq 9, 3) := by decide +kernel
theorem dX8_failWithReason_7 : decode cX8_failWithReason 7 = .ok (.aload_n 0, 1) := by decide +kernel
theorem dX8_failWithReason_8 : decode cX8_failWithReason 8 = .ok (.bipush 7, 2) := by decide +kernel
theorem dX8_failWithReason_10 : decode cX8_failWithReason 10 = .ok (.invokevirtual 217, 3) := by decide +kernel
theorem dX8_failWithReason_13 : decode cX8_failWithReason 13 = .ok (.aload_n 0, 1) := by decide +kernel
theorem dX8_failWithReason_14 : decode cX8_failWithReason 14 = .ok (.iconst 1, 1) := by decide +kernel
theorem dX8_failWithReason_15 : decode cX8_failWithReason 15 = .ok (.putfield 57, 3) := by decide +kernel
theorem dX8_failWithReason_18 : decode cX8_failWithReason 18 = .ok (.iconst 0, 1) := by decide +kernel
theorem dX8_failWithReason_19 : decode cX8_failWithReason 19 = .ok (.ireturn, 1) := by decide +kernel
theorem dX8_addReason_0 : decode cX8_addReason 0 = .ok (.aload_n 0, 1) := by decide +kernel
theorem dX8_addReason_1 : decode cX8_addReason 1 = .ok (.getfield 50, 3) := by decide +kernel
theorem dX8_addReason_4 : decode cX8_addReason 4 = .ok (.aload_n 0, 1) := by decide +kernel
theorem dX8_addReason_5 : decode cX8_addReason 5 = .ok (.getfield 54, 3) := by decide +kernel
theorem dX8_addReason_8 : decode cX8_addReason 8 = .ok (.iload_n 1, 1) := by decide +kernel
theorem dX8_addReason_9 : decode cX8_addReason 9 = .ok (.invokestatic 170, 3) := by decide +kernel
theorem dX8_addReason_12 : decode cX8_addReason 12 = .ok (.aload_n 0, 1) := by decide +kernel
theorem dX8_addReason_13 : decode cX8_addReason 13 = .ok (.dup, 1) := by decide +kernel
theorem dX8_addReason_14 : decode cX8_addReason 14 = .ok (.getfield 54, 3) := by decide +kernel
theorem dX8_addReason_17 : decode cX8_addReason 17 = .ok (.iconst 1, 1) := by decide +kernel
theorem dX8_addReason_18 : decode cX8_addReason 18 = .ok (.iadd, 1) := by decide +kernel
theorem dX8_addReason_19 : decode cX8_addReason 19 = .ok (.putfield 54, 3) := by decide +kernel
theorem dX8_addReason_22 : decode cX8_addReason 22 = .ok (.return_, 1) := by decide +kernel
theorem dX9_init_0 : decode cX9_init 0 = .ok (.aload_n 0, 1) := by decide +kernel
theorem dX9_init_1 : decode cX9_init 1 = .ok (.invokespecial 3, 3) := by decide +kernel
theorem dX9_init_4 : decode cX9_init 4 = .ok (.aload_n 0, 1) := by decide +kernel
theorem dX9_init_5 : decode cX9_init 5 = .ok (.new 9, 3) := by decide +kernel
theorem dX9_init_8 : decode cX9_init 8 = .ok (.dup, 1) := by decide +kernel
theorem dX9_init_9 : decode cX9_init 9 = .ok (.invokespecial 11, 3) := by decide +kernel
theorem dX9_init_12 : decode cX9_init 12 = .ok (.putfield 12, 3) := by decide +kernel
theorem dX9_init_15 : decode cX9_init 15 = .ok (.aload_n 0, 1) := by decide +kernel
theorem dX9_init_16 : decode cX9_init 16 = .ok (.new 16, 3) := by decide +kernel
theorem dX9_init_19 : decode cX9_init 19 = .ok (.dup, 1) := by decide +kernel
theorem dX9_init_20 : decode cX9_init 20 = .ok (.aload_n 0, 1) := by decide +kernel
theorem dX9_init_21 : decode cX9_init 21 = .ok (.getfield 12, 3) := by decide +kernel
theorem dX9_init_24 : decode cX9_init 24 = .ok (.invokespecial 18, 3) := by decide +kernel
theorem dX9_init_27 : decode cX9_init 27 = .ok (.putfield 21, 3) := by decide +kernel
theorem dX9_init_30 : decode cX9_init 30 = .ok (.aload_n 0, 1) := by decide +kernel
theorem dX9_init_31 : decode cX9_init 31 = .ok (.new 25, 3) := by decide +kernel
theorem dX9_init_34 : decode cX9_init 34 = .ok (.dup, 1) := by decide +kernel
theorem dX9_init_35 : decode cX9_init 35 = .ok (.invokespecial 27, 3) := by decide +kernel
theorem dX9_init_38 : decode cX9_init 38 = .ok (.putfield 28, 3) := by decide +kernel
theorem dX9_init_41 : decode cX9_init 41 = .ok (.aload_n 0, 1) := by decide +kernel
theorem dX9_init_42 : decode cX9_init 42 = .ok (.new 25, 3) := by decide +kernel
theorem dX9_init_45 : decode cX9_init 45 = .ok (.dup, 1) := by decide +kernel
theorem dX9_init_46 : decode cX9_init 46 = .ok (.invokespecial 27, 3) := by decide +kernel
theorem dX9_init_49 : decode cX9_init 49 = .ok (.putfield 32, 3) := by decide +kernel
theorem dX9_init_52 : decode cX9_init 52 = .ok (.aload_n 0, 1) := by decide +kernel
theorem dX9_init_53 : decode cX9_init 53 = .ok (.new 35, 3) := by decide +kernel
theorem dX9_init_56 : decode cX9_init 56 = .ok (.dup, 1) := by decide +kernel
theorem dX9_init_57 : decode cX9_init 57 = .ok (.aload_n 0, 1) := by decide +kernel
theorem dX9_init_58 : decode cX9_init 58 = .ok (.getfield 28, 3) := by decide +kernel
theorem dX9_init_61 : decode cX9_init 61 = .ok (.invokespecial 37, 3) := by decide +kernel
theorem dX9_init_64 : decode cX9_init 64 = .ok (.putfield 40, 3) := by decide +kernel
theorem dX9_init_67 : decode cX9_init 67 = .ok (.return_, 1) := by decide +kernel
theorem dX9_feed_0 : decode cX9_feed 0 = .ok (.aload_n 0, 1) := by decide +kernel
theorem dX9_feed_1 : decode cX9_feed 1 = .ok (.getfield 12, 3) := by decide +kernel
theorem dX9_feed_4 : decode cX9_feed 4 = .ok (.lload_n 1, 1) := by decide +kernel
theorem dX9_feed_5 : decode cX9_feed 5 = .ok (.invokevirtual 44, 3) := by decide +kernel
theorem dX9_feed_8 : decode cX9_feed 8 = .ok (.ifCond .eq 13, 3) := by decide +kernel
theorem dX9_feed_11 : decode cX9_feed 11 = .ok (.aload_n 0, 1) := by decide +kernel
theorem dX9_feed_12 : decode cX9_feed 12 = .ok (.getfield 12, 3) := by decide +kernel
theorem dX9_feed_15 : decode cX9_feed 15 = .ok (.getfield 48, 3) := by decide +kernel
theorem dX9_feed_18 : decode cX9_feed 18 = .ok (.goto 5, 3) := by decide +kernel
theorem dX9_feed_21 : decode cX9_feed 21 = .ok (.bipush (-4), 2) := by decide +kernel
theorem dX9_feed_23 : decode cX9_feed 23 = .ok (.ireturn, 1) := by decide +kernel
theorem dX9_read_0 : decode cX9_read 0 = .ok (.aload_n 0, 1) := by decide +kernel
theorem dX9_read_1 : decode cX9_read 1 = .ok (.getfield 21, 3) := by decide +kernel
theorem dX9_read_4 : decode cX9_read 4 = .ok (.aload_n 0, 1) := by decide +kernel
theorem dX9_read_5 : decode cX9_read 5 = .ok (.getfield 32, 3) := by decide +kernel
theorem dX9_read_8 : decode cX9_read 8 = .ok (.invokevirtual 52, 3) := by decide +kernel
theorem dX9_read_11 : decode cX9_read 11 = .ok (.istore_n 1, 1) := by decide +kernel
theorem dX9_read_12 : decode cX9_read 12 = .ok (.iload_n 1, 1) := by decide +kernel
theorem dX9_read_13 : decode cX9_read 13 = .ok (.bipush (-9), 2) := by decide +kernel
theorem dX9_read_15 : decode cX9_read 15 = .ok (.if_icmp .eq 8, 3) := by decide +kernel
theorem dX9_read_18 : decode cX9_read 18 = .ok (.bipush (-100), 2) := by decide +kernel
theorem dX9_read_20 : decode cX9_read 20 = .ok (.iload_n 1, 1) := by decide +kernel
theorem dX9_read_21 : decode cX9_read 21 = .ok (.isub, 1) := by decide +kernel
theorem dX9_read_22 : decode cX9_read 22 = .ok (.ireturn, 1) := by decide +kernel
theorem dX9_read_23 : decode cX9_read 23 = .ok (.aload_n 0, 1) := by decide +kernel
theorem dX9_read_24 : decode cX9_read 24 = .ok (.getfield 28, 3) := by decide +kernel
theorem dX9_read_27 : decode cX9_read 27 = .ok (.astore_n 2, 1) := by decide +kernel
theorem dX9_read_28 : decode cX9_read 28 = .ok (.aload_n 0, 1) := by decide +kernel
theorem dX9_read_29 : decode cX9_read 29 = .ok (.aload_n 0, 1) := by decide +kernel
theorem dX9_read_30 : decode cX9_read 30 = .ok (.getfield 32, 3) := by decide +kernel
theorem dX9_read_33 : decode cX9_read 33 = .ok (.putfield 28, 3) := by decide +kernel
theorem dX9_read_36 : decode cX9_read 36 = .ok (.aload_n 0, 1) := by decide +kernel
theorem dX9_read_37 : decode cX9_read 37 = .ok (.aload_n 2, 1) := by decide +kernel
theorem dX9_read_38 : decode cX9_read 38 = .ok (.putfield 32, 3) := by decide +kernel
theorem dX9_read_41 : decode cX9_read 41 = .ok (.aload_n 0, 1) := by decide +kernel
theorem dX9_read_42 : decode cX9_read 42 = .ok (.getfield 28, 3) := by decide +kernel
theorem dX9_read_45 : decode cX9_read 45 = .ok (.invokevirtual 56, 3) := by decide +kernel
theorem dX9_read_48 : decode cX9_read 48 = .ok (.aload_n 0, 1) := by decide +kernel
theorem dX9_read_49 : decode cX9_read 49 = .ok (.getfield 40, 3) := by decide +kernel
theorem dX9_read_52 : decode cX9_read 52 = .ok (.aload_n 0, 1) := by decide +kernel
theorem dX9_read_53 : decode cX9_read 53 = .ok (.getfield 28, 3) := by decide +kernel
theorem dX9_read_56 : decode cX9_read 56 = .ok (.invokevirtual 59, 3) := by decide +kernel
theorem dX9_read_59 : decode cX9_read 59 = .ok (.aload_n 0, 1) := by decide +kernel
theorem dX9_read_60 : decode cX9_read 60 = .ok (.getfield 12, 3) := by decide +kernel
theorem dX9_read_63 : decode cX9_read 63 = .ok (.invokevirtual 62, 3) := by decide +kernel
theorem dX9_read_66 : decode cX9_read 66 = .ok (.aload_n 0, 1) := by decide +kernel
theorem dX9_read_67 : decode cX9_read 67 = .ok (.getfield 28, 3) := by decide +kernel
theorem dX9_read_70 : decode cX9_read 70 = .ok (.getfield 65, 3) := by decide +kernel
theorem dX9_read_73 : decode cX9_read 73 = .ok (.ireturn, 1) := by decide +kernel
theorem dX9_cut_0 : decode cX9_cut 0 = .ok (.aload_n 0, 1) := by decide +kernel
theorem dX9_cut_1 : decode cX9_cut 1 = .ok (.getfield 12, 3) := by decide +kernel
theorem dX9_cut_4 : decode cX9_cut 4 = .ok (.getfield 48, 3) := by decide +kernel
theorem dX9_cut_7 : decode cX9_cut 7 = .ok (.istore_n 1, 1) := by decide +kernel
theorem dX9_cut_8 : decode cX9_cut 8 = .ok (.aload_n 0, 1) := by decide +kernel
theorem dX9_cut_9 : decode cX9_cut 9 = .ok (.getfield 12, 3) := by decide +kernel
theorem dX9_cut_12 : decode cX9_cut 12 = .ok (.invokevirtual 62, 3) := by decide +kernel
theorem dX9_cut_15 : decode cX9_cut 15 = .ok (.iload_n 1, 1) := by decide +kernel
theorem dX9_cut_16 : decode cX9_cut 16 = .ok (.ireturn, 1) := by decide +kernel
theorem dX9_named_0 : decode cX9_named 0 = .ok (.aload_n 0, 1) := by decide +kernel
theorem dX9_named_1 : decode cX9_named 1 = .ok (.getfield 28, 3) := by decide +kernel
theorem dX9_named_4 : decode cX9_named 4 = .ok (.lload_n 1, 1) := by decide +kernel
theorem dX9_named_5 : decode cX9_named 5 = .ok (.invokevirtual 68, 3) := by decide +kernel
theorem dX9_named_8 : decode cX9_named 8 = .ok (.ireturn, 1) := by decide +kernel
theorem dX9_size_0 : decode cX9_size 0 = .ok (.aload_n 0, 1) := by decide +kernel
theorem dX9_size_1 : decode cX9_size 1 = .ok (.getfield 28, 3) := by decide +kernel
theorem dX9_size_4 : decode cX9_size 4 = .ok (.iload_n 1, 1) := by decide +kernel
theorem dX9_size_5 : decode cX9_size 5 = .ok (.invokevirtual 72, 3) := by decide +kernel
theorem dX9_size_8 : decode cX9_size 8 = .ok (.astore_n 2, 1) := by decide +kernel
theorem dX9_size_9 : decode cX9_size 9 = .ok (.aload_n 2, 1) := by decide +kernel
theorem dX9_size_10 : decode cX9_size 10 = .ok (.ifnonnull 7, 3) := by decide +kernel
theorem dX9_size_13 : decode cX9_size 13 = .ok (.iconst (-1), 1) := by decide +kernel
theorem dX9_size_14 : decode cX9_size 14 = .ok (.goto 8, 3) := by decide +kernel
theorem dX9_size_17 : decode cX9_size 17 = .ok (.aload_n 2, 1) := by decide +kernel
theorem dX9_size_18 : decode cX9_size 18 = .ok (.getfield 76, 3) := by decide +kernel
theorem dX9_size_21 : decode cX9_size 21 = .ok (.l2i, 1) := by decide +kernel
theorem dX9_size_22 : decode cX9_size 22 = .ok (.ireturn, 1) := by decide +kernel
theorem dX9_state_0 : decode cX9_state 0 = .ok (.aload_n 0, 1) := by decide +kernel
theorem dX9_state_1 : decode cX9_state 1 = .ok (.getfield 28, 3) := by decide +kernel
theorem dX9_state_4 : decode cX9_state 4 = .ok (.iload_n 1, 1) := by decide +kernel
theorem dX9_state_5 : decode cX9_state 5 = .ok (.invokevirtual 72, 3) := by decide +kernel
theorem dX9_state_8 : decode cX9_state 8 = .ok (.astore_n 2, 1) := by decide +kernel
theorem dX9_state_9 : decode cX9_state 9 = .ok (.aload_n 2, 1) := by decide +kernel
theorem dX9_state_10 : decode cX9_state 10 = .ok (.ifnonnull 7, 3) := by decide +kernel
theorem dX9_state_13 : decode cX9_state 13 = .ok (.iconst (-1), 1) := by decide +kernel
theorem dX9_state_14 : decode cX9_state 14 = .ok (.goto 7, 3) := by decide +kernel
theorem dX9_state_17 : decode cX9_state 17 = .ok (.aload_n 2, 1) := by decide +kernel
theorem dX9_state_18 : decode cX9_state 18 = .ok (.getfield 82, 3) := by decide +kernel
theorem dX9_state_21 : decode cX9_state 21 = .ok (.ireturn, 1) := by decide +kernel
theorem dX9_row_0 : decode cX9_row 0 = .ok (.aload_n 0, 1) := by decide +kernel
theorem dX9_row_1 : decode cX9_row 1 = .ok (.getfield 28, 3) := by decide +kernel
theorem dX9_row_4 : decode cX9_row 4 = .ok (.iload_n 1, 1) := by decide +kernel
theorem dX9_row_5 : decode cX9_row 5 = .ok (.invokevirtual 72, 3) := by decide +kernel
theorem dX9_row_8 : decode cX9_row 8 = .ok (.astore_n 3, 1) := by decide +kernel
theorem dX9_row_9 : decode cX9_row 9 = .ok (.aload_n 3, 1) := by decide +kernel
theorem dX9_row_10 : decode cX9_row 10 = .ok (.ifnonnull 5, 3) := by decide +kernel
theorem dX9_row_13 : decode cX9_row 13 = .ok (.iconst (-1), 1) := by decide +kernel
theorem dX9_row_14 : decode cX9_row 14 = .ok (.ireturn, 1) := by decide +kernel
theorem dX9_row_15 : decode cX9_row 15 = .ok (.aload_n 3, 1) := by decide +kernel
theorem dX9_row_16 : decode cX9_row 16 = .ok (.getfield 85, 3) := by decide +kernel
theorem dX9_row_19 : decode cX9_row 19 = .ok (.ifCond .eq 11, 3) := by decide +kernel
theorem dX9_row_22 : decode cX9_row 22 = .ok (.aload_n 3, 1) := by decide +kernel
theorem dX9_row_23 : decode cX9_row 23 = .ok (.getfield 82, 3) := by decide +kernel
theorem dX9_row_26 : decode cX9_row 26 = .ok (.iconst 2, 1) := by decide +kernel
theorem dX9_row_27 : decode cX9_row 27 = .ok (.if_icmp .eq 6, 3) := by decide +kernel
theorem dX9_row_30 : decode cX9_row 30 = .ok (.bipush (-3), 2) := by decide +kernel
theorem dX9_row_32 : decode cX9_row 32 = .ok (.ireturn, 1) := by decide +kernel
theorem dX9_row_33 : decode cX9_row 33 = .ok (.iload_n 2, 1) := by decide +kernel
theorem dX9_row_34 : decode cX9_row 34 = .ok (.ifCond .lt 11, 3) := by decide +kernel
theorem dX9_row_37 : decode cX9_row 37 = .ok (.iload_n 2, 1) := by decide +kernel
theorem dX9_row_38 : decode cX9_row 38 = .ok (.aload_n 3, 1) := by decide +kernel
theorem dX9_row_39 : decode cX9_row 39 = .ok (.invokevirtual 89, 3) := by decide +kernel
theorem dX9_row_42 : decode cX9_row 42 = .ok (.if_icmp .lt 8, 3) := by decide +kernel
theorem dX9_row_45 : decode cX9_row 45 = .ok (.bipush (-2), 2) := by decide +kernel
theorem dX9_row_47 : decode cX9_row 47 = .ok (.goto 11, 3) := by decide +kernel
theorem dX9_row_50 : decode cX9_row 50 = .ok (.aload_n 3, 1) := by decide +kernel
theorem dX9_row_51 : decode cX9_row 51 = .ok (.getfield 93, 3) := by decide +kernel
theorem dX9_row_54 : decode cX9_row 54 = .ok (.iload_n 2, 1) := by decide +kernel
theorem dX9_row_55 : decode cX9_row 55 = .ok (.invokestatic 97, 3) := by decide +kernel
theorem dX9_row_58 : decode cX9_row 58 = .ok (.ireturn, 1) := by decide +kernel
theorem dX9_entry_0 : decode cX9_entry 0 = .ok (.aload_n 0, 1) := by decide +kernel
theorem dX9_entry_1 : decode cX9_entry 1 = .ok (.getfield 40, 3) := by decide +kernel
theorem dX9_entry_4 : decode cX9_entry 4 = .ok (.invokevirtual 101, 3) := by decide +kernel
theorem dX9_entry_7 : decode cX9_entry 7 = .ok (.aload_n 0, 1) := by decide +kernel
theorem dX9_entry_8 : decode cX9_entry 8 = .ok (.getfield 40, 3) := by decide +kernel
theorem dX9_entry_11 : decode cX9_entry 11 = .ok (.iload_n 1, 1) := by decide +kernel
theorem dX9_entry_12 : decode cX9_entry 12 = .ok (.iload_n 2, 1) := by decide +kernel
theorem dX9_entry_13 : decode cX9_entry 13 = .ok (.i2l, 1) := by decide +kernel
theorem dX9_entry_14 : decode cX9_entry 14 = .ok (.invokevirtual 104, 3) := by decide +kernel
theorem dX9_entry_17 : decode cX9_entry 17 = .ok (.ifCond .eq 13, 3) := by decide +kernel
theorem dX9_entry_20 : decode cX9_entry 20 = .ok (.aload_n 0, 1) := by decide +kernel
theorem dX9_entry_21 : decode cX9_entry 21 = .ok (.getfield 40, 3) := by decide +kernel
theorem dX9_entry_24 : decode cX9_entry 24 = .ok (.getfield 108, 3) := by decide +kernel
theorem dX9_entry_27 : decode cX9_entry 27 = .ok (.goto 4, 3) := by decide +kernel
theorem dX9_entry_30 : decode cX9_entry 30 = .ok (.lconst 0, 1) := by decide +kernel
theorem dX9_entry_31 : decode cX9_entry 31 = .ok (.lreturn, 1) := by decide +kernel
theorem dX9_reason_0 : decode cX9_reason 0 = .ok (.aload_n 0, 1) := by decide +kernel
theorem dX9_reason_1 : decode cX9_reason 1 = .ok (.getfield 40, 3) := by decide +kernel
theorem dX9_reason_4 : decode cX9_reason 4 = .ok (.iload_n 1, 1) := by decide +kernel
theorem dX9_reason_5 : decode cX9_reason 5 = .ok (.invokevirtual 111, 3) := by decide +kernel
theorem dX9_reason_8 : decode cX9_reason 8 = .ok (.ireturn, 1) := by decide +kernel
theorem dX9_sum_0 : decode cX9_sum 0 = .ok (.aload_n 0, 1) := by decide +kernel
theorem dX9_sum_1 : decode cX9_sum 1 = .ok (.getfield 28, 3) := by decide +kernel
theorem dX9_sum_4 : decode cX9_sum 4 = .ok (.iload_n 1, 1) := by decide +kernel
theorem dX9_sum_5 : decode cX9_sum 5 = .ok (.invokevirtual 72, 3) := by decide +kernel
theorem dX9_sum_8 : decode cX9_sum 8 = .ok (.ifnonnull 7, 3) := by decide +kernel
theorem dX9_sum_11 : decode cX9_sum 11 = .ok (.ldc2_w 115, 3) := by decide +kernel
theorem dX9_sum_14 : decode cX9_sum 14 = .ok (.lreturn, 1) := by decide +kernel
theorem dX9_sum_15 : decode cX9_sum 15 = .ok (.iload_n 3, 1) := by decide +kernel
theorem dX9_sum_16 : decode cX9_sum 16 = .ok (.i2l, 1) := by decide +kernel
theorem dX9_sum_17 : decode cX9_sum 17 = .ok (.iload_n 2, 1) := by decide +kernel
theorem dX9_sum_18 : decode cX9_sum 18 = .ok (.i2l, 1) := by decide +kernel
theorem dX9_sum_19 : decode cX9_sum 19 = .ok (.lsub, 1) := by decide +kernel
theorem dX9_sum_20 : decode cX9_sum 20 = .ok (.lstore 5, 2) := by decide +kernel
theorem dX9_sum_22 : decode cX9_sum 22 = .ok (.iload 4, 2) := by decide +kernel
theorem dX9_sum_24 : decode cX9_sum 24 = .ok (.ifCond .lt 25, 3) := by decide +kernel
theorem dX9_sum_27 : decode cX9_sum 27 = .ok (.iload 4, 2) := by decide +kernel
theorem dX9_sum_29 : decode cX9_sum 29 = .ok (.iconst 2, 1) := by decide +kernel
theorem dX9_sum_30 : decode cX9_sum 30 = .ok (.if_icmp .gt 19, 3) := by decide +kernel
theorem dX9_sum_33 : decode cX9_sum 33 = .ok (.lload 5, 2) := by decide +kernel
theorem dX9_sum_35 : decode cX9_sum 35 = .ok (.lconst 0, 1) := by decide +kernel
theorem dX9_sum_36 : decode cX9_sum 36 = .ok (.lcmp, 1) := by decide +kernel
theorem dX9_sum_37 : decode cX9_sum 37 = .ok (.ifCond .lt 12, 3) := by decide +kernel
theorem dX9_sum_40 : decode cX9_sum 40 = .ok (.lload 5, 2) := by decide +kernel
theorem dX9_sum_42 : decode cX9_sum 42 = .ok (.ldc2_w 117, 3) := by decide +kernel
theorem dX9_sum_45 : decode cX9_sum 45 = .ok (.lcmp, 1) := by decide +kernel
theorem dX9_sum_46 : decode cX9_sum 46 = .ok (.ifCond .le 7, 3) := by decide +kernel
theorem dX9_sum_49 : decode cX9_sum 49 = .ok (.ldc2_w 119, 3) := by decide +kernel
theorem dX9_sum_52 : decode cX9_sum 52 = .ok (.lreturn, 1) := by decide +kernel
theorem dX9_sum_53 : decode cX9_sum 53 = .ok (.aload_n 0, 1) := by decide +kernel
theorem dX9_sum_54 : decode cX9_sum 54 = .ok (.getfield 40, 3) := by decide +kernel
theorem dX9_sum_57 : decode cX9_sum 57 = .ok (.invokevirtual 101, 3) := by decide +kernel
theorem dX9_sum_60 : decode cX9_sum 60 = .ok (.aload_n 0, 1) := by decide +kernel
theorem dX9_sum_61 : decode cX9_sum 61 = .ok (.getfield 40, 3) := by decide +kernel
theorem dX9_sum_64 : decode cX9_sum 64 = .ok (.iload_n 1, 1) := by decide +kernel
theorem dX9_sum_65 : decode cX9_sum 65 = .ok (.iload_n 2, 1) := by decide +kernel
theorem dX9_sum_66 : decode cX9_sum 66 = .ok (.iload_n 3, 1) := by decide +kernel
theorem dX9_sum_67 : decode cX9_sum 67 = .ok (.invokevirtual 121, 3) := by decide +kernel
theorem dX9_sum_70 : decode cX9_sum 70 = .ok (.ifCond .eq 18, 3) := by decide +kernel
theorem dX9_sum_73 : decode cX9_sum 73 = .ok (.aload_n 0, 1) := by decide +kernel
theorem dX9_sum_74 : decode cX9_sum 74 = .ok (.getfield 40, 3) := by decide +kernel
theorem dX9_sum_77 : decode cX9_sum 77 = .ok (.getfield 125, 3) := by decide +kernel
theorem dX9_sum_80 : decode cX9_sum 80 = .ok (.iload 4, 2) := by decide +kernel
theorem dX9_sum_82 : decode cX9_sum 82 = .ok (.invokevirtual 129, 3) := by decide +kernel
theorem dX9_sum_85 : decode cX9_sum 85 = .ok (.goto 4, 3) := by decide +kernel
theorem dX9_sum_88 : decode cX9_sum 88 = .ok (.lconst 0, 1) := by decide +kernel
theorem dX9_sum_89 : decode cX9_sum 89 = .ok (.lreturn, 1) := by decide +kernel
theorem dX9_find_0 : decode cX9_find 0 = .ok (.aload_n 0, 1) := by decide +kernel
theorem dX9_find_1 : decode cX9_find 1 = .ok (.getfield 28, 3) := by decide +kernel
theorem dX9_find_4 : decode cX9_find 4 = .ok (.iload_n 1, 1) := by decide +kernel
theorem dX9_find_5 : decode cX9_find 5 = .ok (.invokevirtual 72, 3) := by decide +kernel
theorem dX9_find_8 : decode cX9_find 8 = .ok (.ifnonnull 5, 3) := by decide +kernel
theorem dX9_find_11 : decode cX9_find 11 = .ok (.iconst (-1), 1) := by decide +kernel
theorem dX9_find_12 : decode cX9_find 12 = .ok (.ireturn, 1) := by decide +kernel
theorem dX9_find_13 : decode cX9_find 13 = .ok (.aload_n 0, 1) := by decide +kernel
theorem dX9_find_14 : decode cX9_find 14 = .ok (.getfield 40, 3) := by decide +kernel
theorem dX9_find_17 : decode cX9_find 17 = .ok (.invokevirtual 101, 3) := by decide +kernel
theorem dX9_find_20 : decode cX9_find 20 = .ok (.aload_n 0, 1) := by decide +kernel
theorem dX9_find_21 : decode cX9_find 21 = .ok (.getfield 40, 3) := by decide +kernel
theorem dX9_find_24 : decode cX9_find 24 = .ok (.iload_n 1, 1) := by decide +kernel
theorem dX9_find_25 : decode cX9_find 25 = .ok (.lload_n 2, 1) := by decide +kernel
theorem dX9_find_26 : decode cX9_find 26 = .ok (.invokevirtual 135, 3) := by decide +kernel
theorem dX9_find_29 : decode cX9_find 29 = .ok (.ireturn, 1) := by decide +kernel
theorem dX9_drop_0 : decode cX9_drop 0 = .ok (.aload_n 0, 1) := by decide +kernel
theorem dX9_drop_1 : decode cX9_drop 1 = .ok (.getfield 28, 3) := by decide +kernel
theorem dX9_drop_4 : decode cX9_drop 4 = .ok (.iload_n 1, 1) := by decide +kernel
theorem dX9_drop_5 : decode cX9_drop 5 = .ok (.invokevirtual 72, 3) := by decide +kernel
theorem dX9_drop_8 : decode cX9_drop 8 = .ok (.astore_n 2, 1) := by decide +kernel
theorem dX9_drop_9 : decode cX9_drop 9 = .ok (.aload_n 2, 1) := by decide +kernel
theorem dX9_drop_10 : decode cX9_drop 10 = .ok (.ifnonnull 5, 3) := by decide +kernel
theorem dX9_drop_13 : decode cX9_drop 13 = .ok (.iconst (-1), 1) := by decide +kernel
theorem dX9_drop_14 : decode cX9_drop 14 = .ok (.ireturn, 1) := by decide +kernel
theorem dX9_drop_15 : decode cX9_drop 15 = .ok (.aload_n 2, 1) := by decide +kernel
theorem dX9_drop_16 : decode cX9_drop 16 = .ok (.getfield 82, 3) := by decide +kernel
theorem dX9_drop_19 : decode cX9_drop 19 = .ok (.iconst 2, 1) := by decide +kernel
theorem dX9_drop_20 : decode cX9_drop 20 = .ok (.if_icmp .eq 6, 3) := by decide +kernel
theorem dX9_drop_23 : decode cX9_drop 23 = .ok (.bipush (-3), 2) := by decide +kernel
theorem dX9_drop_25 : decode cX9_drop 25 = .ok (.ireturn, 1) := by decide +kernel
theorem dX9_drop_26 : decode cX9_drop 26 = .ok (.aload_n 2, 1) := by decide +kernel
theorem dX9_drop_27 : decode cX9_drop 27 = .ok (.invokevirtual 139, 3) := by decide +kernel
theorem dX9_drop_30 : decode cX9_drop 30 = .ok (.aload_n 2, 1) := by decide +kernel
theorem dX9_drop_31 : decode cX9_drop 31 = .ok (.getfield 76, 3) := by decide +kernel
theorem dX9_drop_34 : decode cX9_drop 34 = .ok (.l2i, 1) := by decide +kernel
theorem dX9_drop_35 : decode cX9_drop 35 = .ok (.ireturn, 1) := by decide +kernel
theorem dX9_builds_0 : decode cX9_builds 0 = .ok (.aload_n 0, 1) := by decide +kernel
theorem dX9_builds_1 : decode cX9_builds 1 = .ok (.getfield 40, 3) := by decide +kernel
theorem dX9_builds_4 : decode cX9_builds 4 = .ok (.getfield 140, 3) := by decide +kernel
theorem dX9_builds_7 : decode cX9_builds 7 = .ok (.getfield 144, 3) := by decide +kernel
theorem dX9_builds_10 : decode cX9_builds 10 = .ok (.ireturn, 1) := by decide +kernel
theorem dX9_build_0 : decode cX9_build 0 = .ok (.aload_n 0, 1) := by decide +kernel
theorem dX9_build_1 : decode cX9_build 1 = .ok (.getfield 40, 3) := by decide +kernel
theorem dX9_build_4 : decode cX9_build 4 = .ok (.getfield 140, 3) := by decide +kernel
theorem dX9_build_7 : decode cX9_build 7 = .ok (.astore_n 3, 1) := by decide +kernel
theorem dX9_build_8 : decode cX9_build 8 = .ok (.aload_n 3, 1) := by decide +kernel
theorem dX9_build_9 : decode cX9_build 9 = .ok (.iload_n 1, 1) := by decide +kernel
theorem dX9_build_10 : decode cX9_build 10 = .ok (.invokevirtual 149, 3) := by decide +kernel
theorem dX9_build_13 : decode cX9_build 13 = .ok (.ifCond .ne 5, 3) := by decide +kernel
theorem dX9_build_16 : decode cX9_build 16 = .ok (.iconst (-1), 1) := by decide +kernel
theorem dX9_build_17 : decode cX9_build 17 = .ok (.ireturn, 1) := by decide +kernel
theorem dX9_build_18 : decode cX9_build 18 = .ok (.iload_n 2, 1) := by decide +kernel
theorem dX9_build_19 : decode cX9_build 19 = .ok (.ifCond .lt 8, 3) := by decide +kernel
theorem dX9_build_22 : decode cX9_build 22 = .ok (.iload_n 2, 1) := by decide +kernel
theorem dX9_build_23 : decode cX9_build 23 = .ok (.iconst 2, 1) := by decide +kernel
theorem dX9_build_24 : decode cX9_build 24 = .ok (.if_icmp .le 8, 3) := by decide +kernel
theorem dX9_build_27 : decode cX9_build 27 = .ok (.bipush (-2), 2) := by decide +kernel
theorem dX9_build_29 : decode cX9_build 29 = .ok (.goto 10, 3) := by decide +kernel
theorem dX9_build_32 : decode cX9_build 32 = .ok (.aload_n 3, 1) := by decide +kernel
theorem dX9_build_33 : decode cX9_build 33 = .ok (.iload_n 1, 1) := by decide +kernel
theorem dX9_build_34 : decode cX9_build 34 = .ok (.iload_n 2, 1) := by decide +kernel
theorem dX9_build_35 : decode cX9_build 35 = .ok (.invokevirtual 153, 3) := by decide +kernel
theorem dX9_build_38 : decode cX9_build 38 = .ok (.l2i, 1) := by decide +kernel
theorem dX9_build_39 : decode cX9_build 39 = .ok (.ireturn, 1) := by decide +kernel
theorem dX9_halves_0 : decode cX9_halves 0 = .ok (.aload_n 0, 1) := by decide +kernel
theorem dX9_halves_1 : decode cX9_halves 1 = .ok (.getfield 40, 3) := by decide +kernel
theorem dX9_halves_4 : decode cX9_halves 4 = .ok (.getfield 156, 3) := by decide +kernel
theorem dX9_halves_7 : decode cX9_halves 7 = .ok (.getfield 144, 3) := by decide +kernel
theorem dX9_halves_10 : decode cX9_halves 10 = .ok (.ireturn, 1) := by decide +kernel
theorem dX9_half_0 : decode cX9_half 0 = .ok (.aload_n 0, 1) := by decide +kernel
theorem dX9_half_1 : decode cX9_half 1 = .ok (.getfield 40, 3) := by decide +kernel
theorem dX9_half_4 : decode cX9_half 4 = .ok (.getfield 156, 3) := by decide +kernel
theorem dX9_half_7 : decode cX9_half 7 = .ok (.astore_n 3, 1) := by decide +kernel
theorem dX9_half_8 : decode cX9_half 8 = .ok (.aload_n 3, 1) := by decide +kernel
theorem dX9_half_9 : decode cX9_half 9 = .ok (.iload_n 1, 1) := by decide +kernel
theorem dX9_half_10 : decode cX9_half 10 = .ok (.invokevirtual 149, 3) := by decide +kernel
theorem dX9_half_13 : decode cX9_half 13 = .ok (.ifCond .ne 7, 3) := by decide +kernel
theorem dX9_half_16 : decode cX9_half 16 = .ok (.ldc2_w 115, 3) := by decide +kernel
theorem dX9_half_19 : decode cX9_half 19 = .ok (.lreturn, 1) := by decide +kernel
theorem dX9_half_20 : decode cX9_half 20 = .ok (.iload_n 2, 1) := by decide +kernel
theorem dX9_half_21 : decode cX9_half 21 = .ok (.ifCond .lt 8, 3) := by decide +kernel
theorem dX9_half_24 : decode cX9_half 24 = .ok (.iload_n 2, 1) := by decide +kernel
theorem dX9_half_25 : decode cX9_half 25 = .ok (.iconst 3, 1) := by decide +kernel
theorem dX9_half_26 : decode cX9_half 26 = .ok (.if_icmp .le 9, 3) := by decide +kernel
theorem dX9_half_29 : decode cX9_half 29 = .ok (.ldc2_w 119, 3) := by decide +kernel
theorem dX9_half_32 : decode cX9_half 32 = .ok (.goto 9, 3) := by decide +kernel
theorem dX9_half_35 : decode cX9_half 35 = .ok (.aload_n 3, 1) := by decide +kernel
theorem dX9_half_36 : decode cX9_half 36 = .ok (.iload_n 1, 1) := by decide +kernel
theorem dX9_half_37 : decode cX9_half 37 = .ok (.iload_n 2, 1) := by decide +kernel
theorem dX9_half_38 : decode cX9_half 38 = .ok (.invokevirtual 153, 3) := by decide +kernel
theorem dX9_half_41 : decode cX9_half 41 = .ok (.lreturn, 1) := by decide +kernel
theorem dX9_reads_0 : decode cX9_reads 0 = .ok (.aload_n 0, 1) := by decide +kernel
theorem dX9_reads_1 : decode cX9_reads 1 = .ok (.getfield 28, 3) := by decide +kernel
theorem dX9_reads_4 : decode cX9_reads 4 = .ok (.iload_n 1, 1) := by decide +kernel
theorem dX9_reads_5 : decode cX9_reads 5 = .ok (.invokevirtual 72, 3) := by decide +kernel
theorem dX9_reads_8 : decode cX9_reads 8 = .ok (.astore_n 3, 1) := by decide +kernel
theorem dX9_reads_9 : decode cX9_reads 9 = .ok (.aload_n 3, 1) := by decide +kernel
theorem dX9_reads_10 : decode cX9_reads 10 = .ok (.ifnull 14, 3) := by decide +kernel
theorem dX9_reads_13 : decode cX9_reads 13 = .ok (.aload_n 0, 1) := by decide +kernel
theorem dX9_reads_14 : decode cX9_reads 14 = .ok (.getfield 28, 3) := by decide +kernel
theorem dX9_reads_17 : decode cX9_reads 17 = .ok (.iload_n 2, 1) := by decide +kernel
theorem dX9_reads_18 : decode cX9_reads 18 = .ok (.invokevirtual 72, 3) := by decide +kernel
theorem dX9_reads_21 : decode cX9_reads 21 = .ok (.ifnonnull 5, 3) := by decide +kernel
theorem dX9_reads_24 : decode cX9_reads 24 = .ok (.iconst (-1), 1) := by decide +kernel
theorem dX9_reads_25 : decode cX9_reads 25 = .ok (.ireturn, 1) := by decide +kernel
theorem dX9_reads_26 : decode cX9_reads 26 = .ok (.aload_n 3, 1) := by decide +kernel
theorem dX9_reads_27 : decode cX9_reads 27 = .ok (.getfield 159, 3) := by decide +kernel
theorem dX9_reads_30 : decode cX9_reads 30 = .ok (.iload_n 2, 1) := by decide +kernel
theorem dX9_reads_31 : decode cX9_reads 31 = .ok (.invokevirtual 163, 3) := by decide +kernel
theorem dX9_reads_34 : decode cX9_reads 34 = .ok (.ifCond .eq 7, 3) := by decide +kernel
theorem dX9_reads_37 : decode cX9_reads 37 = .ok (.iconst 1, 1) := by decide +kernel
theorem dX9_reads_38 : decode cX9_reads 38 = .ok (.goto 4, 3) := by decide +kernel
theorem dX9_reads_41 : decode cX9_reads 41 = .ok (.iconst 0, 1) := by decide +kernel
theorem dX9_reads_42 : decode cX9_reads 42 = .ok (.ireturn, 1) := by decide +kernel
theorem dX9_count_0 : decode cX9_count 0 = .ok (.iload_n 1, 1) := by decide +kernel
theorem dX9_count_1 : decode cX9_count 1 = .ok (.tableswitch 77 0 4 #[35, 43, 52, 61, 69], 35) := by decide +kernel
theorem dX9_count_36 : decode cX9_count 36 = .ok (.aload_n 0, 1) := by decide +kernel
theorem dX9_count_37 : decode cX9_count 37 = .ok (.getfield 28, 3) := by decide +kernel
theorem dX9_count_40 : decode cX9_count 40 = .ok (.getfield 65, 3) := by decide +kernel
theorem dX9_count_43 : decode cX9_count 43 = .ok (.ireturn, 1) := by decide +kernel
theorem dX9_count_44 : decode cX9_count 44 = .ok (.aload_n 0, 1) := by decide +kernel
theorem dX9_count_45 : decode cX9_count 45 = .ok (.getfield 28, 3) := by decide +kernel
theorem dX9_count_48 : decode cX9_count 48 = .ok (.iconst 2, 1) := by decide +kernel
theorem dX9_count_49 : decode cX9_count 49 = .ok (.invokevirtual 168, 3) := by decide +kernel
theorem dX9_count_52 : decode cX9_count 52 = .ok (.ireturn, 1) := by decide +kernel
theorem dX9_count_53 : decode cX9_count 53 = .ok (.aload_n 0, 1) := by decide +kernel
theorem dX9_count_54 : decode cX9_count 54 = .ok (.getfield 28, 3) := by decide +kernel
theorem dX9_count_57 : decode cX9_count 57 = .ok (.iconst 3, 1) := by decide +kernel
theorem dX9_count_58 : decode cX9_count 58 = .ok (.invokevirtual 168, 3) := by decide +kernel
theorem dX9_count_61 : decode cX9_count 61 = .ok (.ireturn, 1) := by decide +kernel
theorem dX9_count_62 : decode cX9_count 62 = .ok (.aload_n 0, 1) := by decide +kernel
theorem dX9_count_63 : decode cX9_count 63 = .ok (.getfield 28, 3) := by decide +kernel
theorem dX9_count_66 : decode cX9_count 66 = .ok (.invokevirtual 171, 3) := by decide +kernel
theorem dX9_count_69 : decode cX9_count 69 = .ok (.ireturn, 1) := by decide +kernel
theorem dX9_count_70 : decode cX9_count 70 = .ok (.aload_n 0, 1) := by decide +kernel
theorem dX9_count_71 : decode cX9_count 71 = .ok (.getfield 12, 3) := by decide +kernel
theorem dX9_count_74 : decode cX9_count 74 = .ok (.getfield 48, 3) := by decide +kernel
theorem dX9_count_77 : decode cX9_count 77 = .ok (.ireturn, 1) := by decide +kernel
theorem dX9_count_78 : decode cX9_count 78 = .ok (.bipush (-2), 2) := by decide +kernel
theorem dX9_count_80 : decode cX9_count 80 = .ok (.ireturn, 1) := by decide +kernel
theorem dX9_at_0 : decode cX9_at 0 = .ok (.iload_n 1, 1) := by decide +kernel
theorem dX9_at_1 : decode cX9_at 1 = .ok (.ifCond .lt 15, 3) := by decide +kernel
theorem dX9_at_4 : decode cX9_at 4 = .ok (.iload_n 1, 1) := by decide +kernel
theorem dX9_at_5 : decode cX9_at 5 = .ok (.aload_n 0, 1) := by decide +kernel
theorem dX9_at_6 : decode cX9_at 6 = .ok (.arraylength, 1) := by decide +kernel
theorem dX9_at_7 : decode cX9_at 7 = .ok (.if_icmp .ge 9, 3) := by decide +kernel
theorem dX9_at_10 : decode cX9_at 10 = .ok (.aload_n 0, 1) := by decide +kernel
theorem dX9_at_11 : decode cX9_at 11 = .ok (.iload_n 1, 1) := by decide +kernel
theorem dX9_at_12 : decode cX9_at 12 = .ok (.iaload, 1) := by decide +kernel
theorem dX9_at_13 : decode cX9_at 13 = .ok (.goto 4, 3) := by decide +kernel
theorem dX9_at_16 : decode cX9_at 16 = .ok (.iconst 0, 1) := by decide +kernel
theorem dX9_at_17 : decode cX9_at 17 = .ok (.ireturn, 1) := by decide +kernel
theorem dX9_at__0 : decode cX9_at_ 0 = .ok (.iload_n 1, 1) := by decide +kernel
theorem dX9_at__1 : decode cX9_at_ 1 = .ok (.ifCond .lt 15, 3) := by decide +kernel
theorem dX9_at__4 : decode cX9_at_ 4 = .ok (.iload_n 1, 1) := by decide +kernel
theorem dX9_at__5 : decode cX9_at_ 5 = .ok (.aload_n 0, 1) := by decide +kernel
theorem dX9_at__6 : decode cX9_at_ 6 = .ok (.arraylength, 1) := by decide +kernel
theorem dX9_at__7 : decode cX9_at_ 7 = .ok (.if_icmp .ge 9, 3) := by decide +kernel
theorem dX9_at__10 : decode cX9_at_ 10 = .ok (.aload_n 0, 1) := by decide +kernel
theorem dX9_at__11 : decode cX9_at_ 11 = .ok (.iload_n 1, 1) := by decide +kernel
theorem dX9_at__12 : decode cX9_at_ 12 = .ok (.laload, 1) := by decide +kernel
theorem dX9_at__13 : decode cX9_at_ 13 = .ok (.goto 4, 3) := by decide +kernel
theorem dX9_at__16 : decode cX9_at_ 16 = .ok (.lconst 0, 1) := by decide +kernel
theorem dX9_at__17 : decode cX9_at_ 17 = .ok (.lreturn, 1) := by decide +kernel
theorem dX9_put_0 : decode cX9_put 0 = .ok (.iload_n 1, 1) := by decide +kernel
theorem dX9_put_1 : decode cX9_put 1 = .ok (.ifCond .lt 13, 3) := by decide +kernel
theorem dX9_put_4 : decode cX9_put 4 = .ok (.iload_n 1, 1) := by decide +kernel
theorem dX9_put_5 : decode cX9_put 5 = .ok (.aload_n 0, 1) := by decide +kernel
theorem dX9_put_6 : decode cX9_put 6 = .ok (.arraylength, 1) := by decide +kernel
theorem dX9_put_7 : decode cX9_put 7 = .ok (.if_icmp .ge 7, 3) := by decide +kernel
theorem dX9_put_10 : decode cX9_put 10 = .ok (.aload_n 0, 1) := by decide +kernel
theorem dX9_put_11 : decode cX9_put 11 = .ok (.iload_n 1, 1) := by decide +kernel
theorem dX9_put_12 : decode cX9_put 12 = .ok (.iload_n 2, 1) := by decide +kernel
theorem dX9_put_13 : decode cX9_put 13 = .ok (.iastore, 1) := by decide +kernel
theorem dX9_put_14 : decode cX9_put 14 = .ok (.return_, 1) := by decide +kernel
theorem dX9_put__0 : decode cX9_put_ 0 = .ok (.iload_n 1, 1) := by decide +kernel
theorem dX9_put__1 : decode cX9_put_ 1 = .ok (.ifCond .lt 13, 3) := by decide +kernel
theorem dX9_put__4 : decode cX9_put_ 4 = .ok (.iload_n 1, 1) := by decide +kernel
theorem dX9_put__5 : decode cX9_put_ 5 = .ok (.aload_n 0, 1) := by decide +kernel
theorem dX9_put__6 : decode cX9_put_ 6 = .ok (.arraylength, 1) := by decide +kernel
theorem dX9_put__7 : decode cX9_put_ 7 = .ok (.if_icmp .ge 7, 3) := by decide +kernel
theorem dX9_put__10 : decode cX9_put_ 10 = .ok (.aload_n 0, 1) := by decide +kernel
theorem dX9_put__11 : decode cX9_put_ 11 = .ok (.iload_n 1, 1) := by decide +kernel
theorem dX9_put__12 : decode cX9_put_ 12 = .ok (.lload_n 2, 1) := by decide +kernel
theorem dX9_put__13 : decode cX9_put_ 13 = .ok (.lastore, 1) := by decide +kernel
theorem dX9_put__14 : decode cX9_put_ 14 = .ok (.return_, 1) := by decide +kernel
theorem dJ9_max_f86c9_0 : decode cJ9_max_f86c9 0 = .ok (.lload_n 0, 1) := by decide +kernel
theorem dJ9_max_f86c9_1 : decode cJ9_max_f86c9 1 = .ok (.lload_n 2, 1) := by decide +kernel
theorem dJ9_max_f86c9_2 : decode cJ9_max_f86c9 2 = .ok (.lcmp, 1) := by decide +kernel
theorem dJ9_max_f86c9_3 : decode cJ9_max_f86c9 3 = .ok (.ifCond .lt 7, 3) := by decide +kernel
theorem dJ9_max_f86c9_6 : decode cJ9_max_f86c9 6 = .ok (.lload_n 0, 1) := by decide +kernel
theorem dJ9_max_f86c9_7 : decode cJ9_max_f86c9 7 = .ok (.goto 4, 3) := by decide +kernel
theorem dJ9_max_f86c9_10 : decode cJ9_max_f86c9 10 = .ok (.lload_n 2, 1) := by decide +kernel
theorem dJ9_max_f86c9_11 : decode cJ9_max_f86c9 11 = .ok (.lreturn, 1) := by decide +kernel
theorem dJ9_min_7cf53_0 : decode cJ9_min_7cf53 0 = .ok (.iload_n 0, 1) := by decide +kernel
theorem dJ9_min_7cf53_1 : decode cJ9_min_7cf53 1 = .ok (.iload_n 1, 1) := by decide +kernel
theorem dJ9_min_7cf53_2 : decode cJ9_min_7cf53 2 = .ok (.if_icmp .gt 7, 3) := by decide +kernel
theorem dJ9_min_7cf53_5 : decode cJ9_min_7cf53 5 = .ok (.iload_n 0, 1) := by decide +kernel
theorem dJ9_min_7cf53_6 : decode cJ9_min_7cf53 6 = .ok (.goto 4, 3) := by decide +kernel
theorem dJ9_min_7cf53_9 : decode cJ9_min_7cf53 9 = .ok (.iload_n 1, 1) := by decide +kernel
theorem dJ9_min_7cf53_10 : decode cJ9_min_7cf53 10 = .ok (.ireturn, 1) := by decide +kernel
theorem dJ9_min_f86c9_0 : decode cJ9_min_f86c9 0 = .ok (.lload_n 0, 1) := by decide +kernel
theorem dJ9_min_f86c9_1 : decode cJ9_min_f86c9 1 = .ok (.lload_n 2, 1) := by decide +kernel
theorem dJ9_min_f86c9_2 : decode cJ9_min_f86c9 2 = .ok (.lcmp, 1) := by decide +kernel
theorem dJ9_min_f86c9_3 : decode cJ9_min_f86c9 3 = .ok (.ifCond .gt 7, 3) := by decide +kernel
theorem dJ9_min_f86c9_6 : decode cJ9_min_f86c9 6 = .ok (.lload_n 0, 1) := by decide +kernel
theorem dJ9_min_f86c9_7 : decode cJ9_min_f86c9 7 = .ok (.goto 4, 3) := by decide +kernel
theorem dJ9_min_f86c9_10 : decode cJ9_min_f86c9 10 = .ok (.lload_n 2, 1) := by decide +kernel
theorem dJ9_min_f86c9_11 : decode cJ9_min_f86c9 11 = .ok (.lreturn, 1) := by decide +kernel
theorem dL_law_0 : decode cL_law 0 = .ok (.new 7, 3) := by decide +kernel
theorem dL_law_3 : decode cL_law 3 = .ok (.dup, 1) := by decide +kernel
theorem dL_law_4 : decode cL_law 4 = .ok (.invokespecial 9, 3) := by decide +kernel
theorem dL_law_7 : decode cL_law 7 = .ok (.astore_n 1, 1) := by decide +kernel
theorem dL_law_8 : decode cL_law 8 = .ok (.new 10, 3) := by decide +kernel
theorem dL_law_11 : decode cL_law 11 = .ok (.dup, 1) := by decide +kernel
theorem dL_law_12 : decode cL_law 12 = .ok (.invokespecial 12, 3) := by decide +kernel
theorem dL_law_15 : decode cL_law 15 = .ok (.astore_n 2, 1) := by decide +kernel
theorem dL_law_16 : decode cL_law 16 = .ok (.iconst 0, 1) := by decide +kernel
theorem dL_law_17 : decode cL_law 17 = .ok (.istore_n 3, 1) := by decide +kernel
theorem dL_law_18 : decode cL_law 18 = .ok (.iload_n 3, 1) := by decide +kernel
theorem dL_law_19 : decode cL_law 19 = .ok (.aload_n 0, 1) := by decide +kernel
theorem dL_law_20 : decode cL_law 20 = .ok (.arraylength, 1) := by decide +kernel
theorem dL_law_21 : decode cL_law 21 = .ok (.iconst 5, 1) := by decide +kernel
theorem dL_law_22 : decode cL_law 22 = .ok (.isub, 1) := by decide +kernel
theorem dL_law_23 : decode cL_law 23 = .ok (.if_icmp .gt 660, 3) := by decide +kernel
theorem dL_law_26 : decode cL_law 26 = .ok (.aload_n 0, 1) := by decide +kernel
theorem dL_law_27 : decode cL_law 27 = .ok (.iload_n 3, 1) := by decide +kernel
theorem dL_law_28 : decode cL_law 28 = .ok (.iaload, 1) := by decide +kernel
theorem dL_law_29 : decode cL_law 29 = .ok (.bipush 31, 2) := by decide +kernel
theorem dL_law_31 : decode cL_law 31 = .ok (.iand, 1) := by decide +kernel
theorem dL_law_32 : decode cL_law 32 = .ok (.tableswitch 645 0 17 #[88, 141, 154, 167, 220, 243, 266, 299, 333, 356, 410, 473, 496, 509, 542, 555, 589, 622], 88) := by decide +kernel
theorem dL_law_120 : decode cL_law 120 = .ok (.aload_n 1, 1) := by decide +kernel
theorem dL_law_121 : decode cL_law 121 = .ok (.aload_n 0, 1) := by decide +kernel
theorem dL_law_122 : decode cL_law 122 = .ok (.iload_n 3, 1) := by decide +kernel
theorem dL_law_123 : decode cL_law 123 = .ok (.iconst 1, 1) := by decide +kernel
theorem dL_law_124 : decode cL_law 124 = .ok (.iadd, 1) := by decide +kernel
theorem dL_law_125 : decode cL_law 125 = .ok (.iaload, 1) := by decide +kernel
theorem dL_law_126 : decode cL_law 126 = .ok (.i2l, 1) := by decide +kernel
theorem dL_law_127 : decode cL_law 127 = .ok (.bipush 32, 2) := by decide +kernel
theorem dL_law_129 : decode cL_law 129 = .ok (.lshl, 1) := by decide +kernel
theorem dL_law_130 : decode cL_law 130 = .ok (.aload_n 0, 1) := by decide +kernel
theorem dL_law_131 : decode cL_law 131 = .ok (.iload_n 3, 1) := by decide +kernel
theorem dL_law_132 : decode cL_law 132 = .ok (.iconst 2, 1) := by decide +kernel
theorem dL_law_133 : decode cL_law 133 = .ok (.iadd, 1) := by decide +kernel
theorem dL_law_134 : decode cL_law 134 = .ok (.iaload, 1) := by decide +kernel
theorem dL_law_135 : decode cL_law 135 = .ok (.i2l, 1) := by decide +kernel
theorem dL_law_136 : decode cL_law 136 = .ok (.ldc2_w 13, 3) := by decide +kernel
theorem dL_law_139 : decode cL_law 139 = .ok (.land, 1) := by decide +kernel
theorem dL_law_140 : decode cL_law 140 = .ok (.lor, 1) := by decide +kernel
theorem dL_law_141 : decode cL_law 141 = .ok (.invokevirtual 15, 3) := by decide +kernel
theorem dL_law_144 : decode cL_law 144 = .ok (.aload_n 2, 1) := by decide +kernel
theorem dL_law_145 : decode cL_law 145 = .ok (.aload_n 0, 1) := by decide +kernel
theorem dL_law_146 : decode cL_law 146 = .ok (.iload_n 3, 1) := by decide +kernel
theorem dL_law_147 : decode cL_law 147 = .ok (.iconst 1, 1) := by decide +kernel
theorem dL_law_148 : decode cL_law 148 = .ok (.iadd, 1) := by decide +kernel
theorem dL_law_149 : decode cL_law 149 = .ok (.iaload, 1) := by decide +kernel
theorem dL_law_150 : decode cL_law 150 = .ok (.i2l, 1) := by decide +kernel
theorem dL_law_151 : decode cL_law 151 = .ok (.bipush 32, 2) := by decide +kernel
theorem dL_law_153 : decode cL_law 153 = .ok (.lshl, 1) := by decide +kernel
theorem dL_law_154 : decode cL_law 154 = .ok (.aload_n 0, 1) := by decide +kernel
theorem dL_law_155 : decode cL_law 155 = .ok (.iload_n 3, 1) := by decide +kernel
theorem dL_law_156 : decode cL_law 156 = .ok (.iconst 2, 1) := by decide +kernel
theorem dL_law_157 : decode cL_law 157 = .ok (.iadd, 1) := by decide +kernel
theorem dL_law_158 : decode cL_law 158 = .ok (.iaload, 1) := by decide +kernel
theorem dL_law_159 : decode cL_law 159 = .ok (.i2l, 1) := by decide +kernel
theorem dL_law_160 : decode cL_law 160 = .ok (.ldc2_w 13, 3) := by decide +kernel
theorem dL_law_163 : decode cL_law 163 = .ok (.land, 1) := by decide +kernel
theorem dL_law_164 : decode cL_law 164 = .ok (.lor, 1) := by decide +kernel
theorem dL_law_165 : decode cL_law 165 = .ok (.invokevirtual 19, 3) := by decide +kernel
theorem dL_law_168 : decode cL_law 168 = .ok (.if_icmp .eq 509, 3) := by decide +kernel
theorem dL_law_171 : decode cL_law 171 = .ok (.iconst 0, 1) := by decide +kernel
theorem dL_law_172 : decode cL_law 172 = .ok (.ireturn, 1) := by decide +kernel
theorem dL_law_173 : decode cL_law 173 = .ok (.aload_n 1, 1) := by decide +kernel
theorem dL_law_174 : decode cL_law 174 = .ok (.invokevirtual 20, 3) := by decide +kernel
theorem dL_law_177 : decode cL_law 177 = .ok (.aload_n 2, 1) := by decide +kernel
theorem dL_law_178 : decode cL_law 178 = .ok (.invokevirtual 24, 3) := by decide +kernel
theorem dL_law_181 : decode cL_law 181 = .ok (.if_icmp .eq 496, 3) := by decide +kernel
theorem dL_law_184 : decode cL_law 184 = .ok (.iconst 0, 1) := by decide +kernel
theorem dL_law_185 : decode cL_law 185 = .ok (.ireturn, 1) := by decide +kernel
theorem dL_law_186 : decode cL_law 186 = .ok (.aload_n 1, 1) := by decide +kernel
theorem dL_law_187 : decode cL_law 187 = .ok (.invokevirtual 25, 3) := by decide +kernel
theorem dL_law_190 : decode cL_law 190 = .ok (.aload_n 2, 1) := by decide +kernel
theorem dL_law_191 : decode cL_law 191 = .ok (.invokevirtual 28, 3) := by decide +kernel
theorem dL_law_194 : decode cL_law 194 = .ok (.if_icmp .eq 483, 3) := by decide +kernel
theorem dL_law_197 : decode cL_law 197 = .ok (.iconst 0, 1) := by decide +kernel
theorem dL_law_198 : decode cL_law 198 = .ok (.ireturn, 1) := by decide +kernel
theorem dL_law_199 : decode cL_law 199 = .ok (.aload_n 1, 1) := by decide +kernel
theorem dL_law_200 : decode cL_law 200 = .ok (.aload_n 0, 1) := by decide +kernel
theorem dL_law_201 : decode cL_law 201 = .ok (.iload_n 3, 1) := by decide +kernel
theorem dL_law_202 : decode cL_law 202 = .ok (.iconst 1, 1) := by decide +kernel
theorem dL_law_203 : decode cL_law 203 = .ok (.iadd, 1) := by decide +kernel
theorem dL_law_204 : decode cL_law 204 = .ok (.iaload, 1) := by decide +kernel
theorem dL_law_205 : decode cL_law 205 = .ok (.i2l, 1) := by decide +kernel
theorem dL_law_206 : decode cL_law 206 = .ok (.bipush 32, 2) := by decide +kernel
theorem dL_law_208 : decode cL_law 208 = .ok (.lshl, 1) := by decide +kernel
theorem dL_law_209 : decode cL_law 209 = .ok (.aload_n 0, 1) := by decide +kernel
theorem dL_law_210 : decode cL_law 210 = .ok (.iload_n 3, 1) := by decide +kernel
theorem dL_law_211 : decode cL_law 211 = .ok (.iconst 2, 1) := by decide +kernel
theorem dL_law_212 : decode cL_law 212 = .ok (.iadd, 1) := by decide +kernel
theorem dL_law_213 : decode cL_law 213 = .ok (.iaload, 1) := by decide +kernel
theorem dL_law_214 : decode cL_law 214 = .ok (.i2l, 1) := by decide +kernel
theorem dL_law_215 : decode cL_law 215 = .ok (.ldc2_w 13, 3) := by decide +kernel
theorem dL_law_218 : decode cL_law 218 = .ok (.land, 1) := by decide +kernel
theorem dL_law_219 : decode cL_law 219 = .ok (.lor, 1) := by decide +kernel
theorem dL_law_220 : decode cL_law 220 = .ok (.invokevirtual 29, 3) := by decide +kernel
theorem dL_law_223 : decode cL_law 223 = .ok (.aload_n 2, 1) := by decide +kernel
theorem dL_law_224 : decode cL_law 224 = .ok (.aload_n 0, 1) := by decide +kernel
theorem dL_law_225 : decode cL_law 225 = .ok (.iload_n 3, 1) := by decide +kernel
theorem dL_law_226 : decode cL_law 226 = .ok (.iconst 1, 1) := by decide +kernel
theorem dL_law_227 : decode cL_law 227 = .ok (.iadd, 1) := by decide +kernel
theorem dL_law_228 : decode cL_law 228 = .ok (.iaload, 1) := by decide +kernel
theorem dL_law_229 : decode cL_law 229 = .ok (.i2l, 1) := by decide +kernel
theorem dL_law_230 : decode cL_law 230 = .ok (.bipush 32, 2) := by decide +kernel
theorem dL_law_232 : decode cL_law 232 = .ok (.lshl, 1) := by decide +kernel
theorem dL_law_233 : decode cL_law 233 = .ok (.aload_n 0, 1) := by decide +kernel
theorem dL_law_234 : decode cL_law 234 = .ok (.iload_n 3, 1) := by decide +kernel
theorem dL_law_235 : decode cL_law 235 = .ok (.iconst 2, 1) := by decide +kernel
theorem dL_law_236 : decode cL_law 236 = .ok (.iadd, 1) := by decide +kernel
theorem dL_law_237 : decode cL_law 237 = .ok (.iaload, 1) := by decide +kernel
theorem dL_law_238 : decode cL_law 238 = .ok (.i2l, 1) := by decide +kernel
theorem dL_law_239 : decode cL_law 239 = .ok (.ldc2_w 13, 3) := by decide +kernel
theorem dL_law_242 : decode cL_law 242 = .ok (.land, 1) := by decide +kernel
theorem dL_law_243 : decode cL_law 243 = .ok (.lor, 1) := by decide +kernel
theorem dL_law_244 : decode cL_law 244 = .ok (.invokevirtual 32, 3) := by decide +kernel
theorem dL_law_247 : decode cL_law 247 = .ok (.if_icmp .eq 430, 3) := by decide +kernel
theorem dL_law_250 : decode cL_law 250 = .ok (.iconst 0, 1) := by decide +kernel
theorem dL_law_251 : decode cL_law 251 = .ok (.ireturn, 1) := by decide +kernel
theorem dL_law_252 : decode cL_law 252 = .ok (.aload_n 1, 1) := by decide +kernel
theorem dL_law_253 : decode cL_law 253 = .ok (.aload_n 0, 1) := by decide +kernel
theorem dL_law_254 : decode cL_law 254 = .ok (.iload_n 3, 1) := by decide +kernel
theorem dL_law_255 : decode cL_law 255 = .ok (.iconst 1, 1) := by decide +kernel
theorem dL_law_256 : decode cL_law 256 = .ok (.iadd, 1) := by decide +kernel
theorem dL_law_257 : decode cL_law 257 = .ok (.iaload, 1) := by decide +kernel
theorem dL_law_258 : decode cL_law 258 = .ok (.invokevirtual 33, 3) := by decide +kernel
theorem dL_law_261 : decode cL_law 261 = .ok (.aload_n 2, 1) := by decide +kernel
theorem dL_law_262 : decode cL_law 262 = .ok (.aload_n 0, 1) := by decide +kernel
theorem dL_law_263 : decode cL_law 263 = .ok (.iload_n 3, 1) := by decide +kernel
theorem dL_law_264 : decode cL_law 264 = .ok (.iconst 1, 1) := by decide +kernel
theorem dL_law_265 : decode cL_law 265 = .ok (.iadd, 1) := by decide +kernel
theorem dL_law_266 : decode cL_law 266 = .ok (.iaload, 1) := by decide +kernel
theorem dL_law_267 : decode cL_law 267 = .ok (.invokevirtual 37, 3) := by decide +kernel
theorem dL_law_270 : decode cL_law 270 = .ok (.if_icmp .eq 407, 3) := by decide +kernel
theorem dL_law_273 : decode cL_law 273 = .ok (.iconst 0, 1) := by decide +kernel
theorem dL_law_274 : decode cL_law 274 = .ok (.ireturn, 1) := by decide +kernel
theorem dL_law_275 : decode cL_law 275 = .ok (.aload_n 1, 1) := by decide +kernel
theorem dL_law_276 : decode cL_law 276 = .ok (.aload_n 0, 1) := by decide +kernel
theorem dL_law_277 : decode cL_law 277 = .ok (.iload_n 3, 1) := by decide +kernel
theorem dL_law_278 : decode cL_law 278 = .ok (.iconst 1, 1) := by decide +kernel
theorem dL_law_279 : decode cL_law 279 = .ok (.iadd, 1) := by decide +kernel
theorem dL_law_280 : decode cL_law 280 = .ok (.iaload, 1) := by decide +kernel
theorem dL_law_281 : decode cL_law 281 = .ok (.invokevirtual 38, 3) := by decide +kernel
theorem dL_law_284 : decode cL_law 284 = .ok (.aload_n 2, 1) := by decide +kernel
theorem dL_law_285 : decode cL_law 285 = .ok (.aload_n 0, 1) := by decide +kernel
theorem dL_law_286 : decode cL_law 286 = .ok (.iload_n 3, 1) := by decide +kernel
theorem dL_law_287 : decode cL_law 287 = .ok (.iconst 1, 1) := by decide +kernel
theorem dL_law_288 : decode cL_law 288 = .ok (.iadd, 1) := by decide +kernel
theorem dL_law_289 : decode cL_law 289 = .ok (.iaload, 1) := by decide +kernel
theorem dL_law_290 : decode cL_law 290 = .ok (.invokevirtual 41, 3) := by decide +kernel
theorem dL_law_293 : decode cL_law 293 = .ok (.if_icmp .eq 384, 3) := by decide +kernel
theorem dL_law_296 : decode cL_law 296 = .ok (.iconst 0, 1) := by decide +kernel
theorem dL_law_297 : decode cL_law 297 = .ok (.ireturn, 1) := by decide +kernel
theorem dL_law_298 : decode cL_law 298 = .ok (.aload_n 1, 1) := by decide +kernel
theorem dL_law_299 : decode cL_law 299 = .ok (.aload_n 0, 1) := by decide +kernel
theorem dL_law_300 : decode cL_law 300 = .ok (.iload_n 3, 1) := by decide +kernel
theorem dL_law_301 : decode cL_law 301 = .ok (.iconst 1, 1) := by decide +kernel
theorem dL_law_302 : decode cL_law 302 = .ok (.iadd, 1) := by decide +kernel
theorem dL_law_303 : decode cL_law 303 = .ok (.iaload, 1) := by decide +kernel
theorem dL_law_304 : decode cL_law 304 = .ok (.aload_n 0, 1) := by decide +kernel
theorem dL_law_305 : decode cL_law 305 = .ok (.iload_n 3, 1) := by decide +kernel
theorem dL_law_306 : decode cL_law 306 = .ok (.iconst 2, 1) := by decide +kernel
theorem dL_law_307 : decode cL_law 307 = .ok (.iadd, 1) := by decide +kernel
theorem dL_law_308 : decode cL_law 308 = .ok (.iaload, 1) := by decide +kernel
theorem dL_law_309 : decode cL_law 309 = .ok (.invokevirtual 42, 3) := by decide +kernel
theorem dL_law_312 : decode cL_law 312 = .ok (.aload_n 2, 1) := by decide +kernel
theorem dL_law_313 : decode cL_law 313 = .ok (.aload_n 0, 1) := by decide +kernel
theorem dL_law_314 : decode cL_law 314 = .ok (.iload_n 3, 1) := by decide +kernel
theorem dL_law_315 : decode cL_law 315 = .ok (.iconst 1, 1) := by decide +kernel
theorem dL_law_316 : decode cL_law 316 = .ok (.iadd, 1) := by decide +kernel
theorem dL_law_317 : decode cL_law 317 = .ok (.iaload, 1) := by decide +kernel
theorem dL_law_318 : decode cL_law 318 = .ok (.aload_n 0, 1) := by decide +kernel
theorem dL_law_319 : decode cL_law 319 = .ok (.iload_n 3, 1) := by decide +kernel
theorem dL_law_320 : decode cL_law 320 = .ok (.iconst 2, 1) := by decide +kernel
theorem dL_law_321 : decode cL_law 321 = .ok (.iadd, 1) := by decide +kernel
theorem dL_law_322 : decode cL_law 322 = .ok (.iaload, 1) := by decide +kernel
theorem dL_law_323 : decode cL_law 323 = .ok (.invokevirtual 46, 3) := by decide +kernel
theorem dL_law_326 : decode cL_law 326 = .ok (.if_icmp .eq 351, 3) := by decide +kernel
theorem dL_law_329 : decode cL_law 329 = .ok (.iconst 0, 1) := by decide +kernel
theorem dL_law_330 : decode cL_law 330 = .ok (.ireturn, 1) := by decide +kernel
theorem dL_law_331 : decode cL_law 331 = .ok (.aload_n 1, 1) := by decide +kernel
theorem dL_law_332 : decode cL_law 332 = .ok (.aload_n 0, 1) := by decide +kernel
theorem dL_law_333 : decode cL_law 333 = .ok (.iload_n 3, 1) := by decide +kernel
theorem dL_law_334 : decode cL_law 334 = .ok (.iconst 1, 1) := by decide +kernel
theorem dL_law_335 : decode cL_law 335 = .ok (.iadd, 1) := by decide +kernel
theorem dL_law_336 : decode cL_law 336 = .ok (.iaload, 1) := by decide +kernel
theorem dL_law_337 : decode cL_law 337 = .ok (.aload_n 0, 1) := by decide +kernel
theorem dL_law_338 : decode cL_law 338 = .ok (.iload_n 3, 1) := by decide +kernel
theorem dL_law_339 : decode cL_law 339 = .ok (.iconst 2, 1) := by decide +kernel
theorem dL_law_340 : decode cL_law 340 = .ok (.iadd, 1) := by decide +kernel
theorem dL_law_341 : decode cL_law 341 = .ok (.iaload, 1) := by decide +kernel
theorem dL_law_342 : decode cL_law 342 = .ok (.invokevirtual 47, 3) := by decide +kernel
theorem dL_law_345 : decode cL_law 345 = .ok (.aload_n 2, 1) := by decide +kernel
theorem dL_law_346 : decode cL_law 346 = .ok (.aload_n 0, 1) := by decide +kernel
theorem dL_law_347 : decode cL_law 347 = .ok (.iload_n 3, 1) := by decide +kernel
theorem dL_law_348 : decode cL_law 348 = .ok (.iconst 1, 1) := by decide +kernel
theorem dL_law_349 : decode cL_law 349 = .ok (.iadd, 1) := by decide +kernel
theorem dL_law_350 : decode cL_law 350 = .ok (.iaload, 1) := by decide +kernel
theorem dL_law_351 : decode cL_law 351 = .ok (.aload_n 0, 1) := by decide +kernel
theorem dL_law_352 : decode cL_law 352 = .ok (.iload_n 3, 1) := by decide +kernel
theorem dL_law_353 : decode cL_law 353 = .ok (.iconst 2, 1) := by decide +kernel
theorem dL_law_354 : decode cL_law 354 = .ok (.iadd, 1) := by decide +kernel
theorem dL_law_355 : decode cL_law 355 = .ok (.iaload, 1) := by decide +kernel
theorem dL_law_356 : decode cL_law 356 = .ok (.invokevirtual 51, 3) := by decide +kernel
theorem dL_law_359 : decode cL_law 359 = .ok (.lcmp, 1) := by decide +kernel
theorem dL_law_360 : decode cL_law 360 = .ok (.ifCond .eq 317, 3) := by decide +kernel
theorem dL_law_363 : decode cL_law 363 = .ok (.iconst 0, 1) := by decide +kernel
theorem dL_law_364 : decode cL_law 364 = .ok (.ireturn, 1) := by decide +kernel
theorem dL_law_365 : decode cL_law 365 = .ok (.aload_n 1, 1) := by decide +kernel
theorem dL_law_366 : decode cL_law 366 = .ok (.aload_n 0, 1) := by decide +kernel
theorem dL_law_367 : decode cL_law 367 = .ok (.iload_n 3, 1) := by decide +kernel
theorem dL_law_368 : decode cL_law 368 = .ok (.iconst 1, 1) := by decide +kernel
theorem dL_law_369 : decode cL_law 369 = .ok (.iadd, 1) := by decide +kernel
theorem dL_law_370 : decode cL_law 370 = .ok (.iaload, 1) := by decide +kernel
theorem dL_law_371 : decode cL_law 371 = .ok (.invokevirtual 52, 3) := by decide +kernel
theorem dL_law_374 : decode cL_law 374 = .ok (.aload_n 2, 1) := by decide +kernel
theorem dL_law_375 : decode cL_law 375 = .ok (.aload_n 0, 1) := by decide +kernel
theorem dL_law_376 : decode cL_law 376 = .ok (.iload_n 3, 1) := by decide +kernel
theorem dL_law_377 : decode cL_law 377 = .ok (.iconst 1, 1) := by decide +kernel
theorem dL_law_378 : decode cL_law 378 = .ok (.iadd, 1) := by decide +kernel
theorem dL_law_379 : decode cL_law 379 = .ok (.iaload, 1) := by decide +kernel
theorem dL_law_380 : decode cL_law 380 = .ok (.invokevirtual 55, 3) := by decide +kernel
theorem dL_law_383 : decode cL_law 383 = .ok (.if_icmp .eq 294, 3) := by decide +kernel
theorem dL_law_386 : decode cL_law 386 = .ok (.iconst 0, 1) := by decide +kernel
theorem dL_law_387 : decode cL_law 387 = .ok (.ireturn, 1) := by decide +kernel
theorem dL_law_388 : decode cL_law 388 = .ok (.aload_n 1, 1) := by decide +kernel
theorem dL_law_389 : decode cL_law 389 = .ok (.aload_n 0, 1) := by decide +kernel
theorem dL_law_390 : decode cL_law 390 = .ok (.iload_n 3, 1) := by decide +kernel
theorem dL_law_391 : decode cL_law 391 = .ok (.iconst 1, 1) := by decide +kernel
theorem dL_law_392 : decode cL_law 392 = .ok (.iadd, 1) := by decide +kernel
theorem dL_law_393 : decode cL_law 393 = .ok (.iaload, 1) := by decide +kernel
theorem dL_law_394 : decode cL_law 394 = .ok (.aload_n 0, 1) := by decide +kernel
theorem dL_law_395 : decode cL_law 395 = .ok (.iload_n 3, 1) := by decide +kernel
theorem dL_law_396 : decode cL_law 396 = .ok (.iconst 2, 1) := by decide +kernel
theorem dL_law_397 : decode cL_law 397 = .ok (.iadd, 1) := by decide +kernel
theorem dL_law_398 : decode cL_law 398 = .ok (.iaload, 1) := by decide +kernel
theorem dL_law_399 : decode cL_law 399 = .ok (.aload_n 0, 1) := by decide +kernel
theorem dL_law_400 : decode cL_law 400 = .ok (.iload_n 3, 1) := by decide +kernel
theorem dL_law_401 : decode cL_law 401 = .ok (.iconst 3, 1) := by decide +kernel
theorem dL_law_402 : decode cL_law 402 = .ok (.iadd, 1) := by decide +kernel
theorem dL_law_403 : decode cL_law 403 = .ok (.iaload, 1) := by decide +kernel
theorem dL_law_404 : decode cL_law 404 = .ok (.aload_n 0, 1) := by decide +kernel
theorem dL_law_405 : decode cL_law 405 = .ok (.iload_n 3, 1) := by decide +kernel
theorem dL_law_406 : decode cL_law 406 = .ok (.iconst 4, 1) := by decide +kernel
theorem dL_law_407 : decode cL_law 407 = .ok (.iadd, 1) := by decide +kernel
theorem dL_law_408 : decode cL_law 408 = .ok (.iaload, 1) := by decide +kernel
theorem dL_law_409 : decode cL_law 409 = .ok (.invokevirtual 56, 3) := by decide +kernel
theorem dL_law_412 : decode cL_law 412 = .ok (.aload_n 2, 1) := by decide +kernel
theorem dL_law_413 : decode cL_law 413 = .ok (.aload_n 0, 1) := by decide +kernel
theorem dL_law_414 : decode cL_law 414 = .ok (.iload_n 3, 1) := by decide +kernel
theorem dL_law_415 : decode cL_law 415 = .ok (.iconst 1, 1) := by decide +kernel
theorem dL_law_416 : decode cL_law 416 = .ok (.iadd, 1) := by decide +kernel
theorem dL_law_417 : decode cL_law 417 = .ok (.iaload, 1) := by decide +kernel
theorem dL_law_418 : decode cL_law 418 = .ok (.aload_n 0, 1) := by decide +kernel
theorem dL_law_419 : decode cL_law 419 = .ok (.iload_n 3, 1) := by decide +kernel
theorem dL_law_420 : decode cL_law 420 = .ok (.iconst 2, 1) := by decide +kernel
theorem dL_law_421 : decode cL_law 421 = .ok (.iadd, 1) := by decide +kernel
theorem dL_law_422 : decode cL_law 422 = .ok (.iaload, 1) := by decide +kernel
theorem dL_law_423 : decode cL_law 423 = .ok (.aload_n 0, 1) := by decide +kernel
theorem dL_law_424 : decode cL_law 424 = .ok (.iload_n 3, 1) := by decide +kernel
theorem dL_law_425 : decode cL_law 425 = .ok (.iconst 3, 1) := by decide +kernel
theorem dL_law_426 : decode cL_law 426 = .ok (.iadd, 1) := by decide +kernel
theorem dL_law_427 : decode cL_law 427 = .ok (.iaload, 1) := by decide +kernel
theorem dL_law_428 : decode cL_law 428 = .ok (.aload_n 0, 1) := by decide +kernel
theorem dL_law_429 : decode cL_law 429 = .ok (.iload_n 3, 1) := by decide +kernel
theorem dL_law_430 : decode cL_law 430 = .ok (.iconst 4, 1) := by decide +kernel
theorem dL_law_431 : decode cL_law 431 = .ok (.iadd, 1) := by decide +kernel
theorem dL_law_432 : decode cL_law 432 = .ok (.iaload, 1) := by decide +kernel
theorem dL_law_433 : decode cL_law 433 = .ok (.invokevirtual 60, 3) := by decide +kernel
theorem dL_law_436 : decode cL_law 436 = .ok (.lcmp, 1) := by decide +kernel
theorem dL_law_437 : decode cL_law 437 = .ok (.ifCond .eq 240, 3) := by decide +kernel
theorem dL_law_440 : decode cL_law 440 = .ok (.iconst 0, 1) := by decide +kernel
theorem dL_law_441 : decode cL_law 441 = .ok (.ireturn, 1) := by decide +kernel
theorem dL_law_442 : decode cL_law 442 = .ok (.aload_n 1, 1) := by decide +kernel
theorem dL_law_443 : decode cL_law 443 = .ok (.aload_n 0, 1) := by decide +kernel
theorem dL_law_444 : decode cL_law 444 = .ok (.iload_n 3, 1) := by decide +kernel
theorem dL_law_445 : decode cL_law 445 = .ok (.iconst 1, 1) := by decide +kernel
theorem dL_law_446 : decode cL_law 446 = .ok (.iadd, 1) := by decide +kernel
theorem dL_law_447 : decode cL_law 447 = .ok (.iaload, 1) := by decide +kernel
theorem dL_law_448 : decode cL_law 448 = .ok (.aload_n 0, 1) := by decide +kernel
theorem dL_law_449 : decode cL_law 449 = .ok (.iload_n 3, 1) := by decide +kernel
theorem dL_law_450 : decode cL_law 450 = .ok (.iconst 2, 1) := by decide +kernel
theorem dL_law_451 : decode cL_law 451 = .ok (.iadd, 1) := by decide +kernel
theorem dL_law_452 : decode cL_law 452 = .ok (.iaload, 1) := by decide +kernel
theorem dL_law_453 : decode cL_law 453 = .ok (.i2l, 1) := by decide +kernel
theorem dL_law_454 : decode cL_law 454 = .ok (.bipush 32, 2) := by decide +kernel
theorem dL_law_456 : decode cL_law 456 = .ok (.lshl, 1) := by decide +kernel
theorem dL_law_457 : decode cL_law 457 = .ok (.aload_n 0, 1) := by decide +kernel
theorem dL_law_458 : decode cL_law 458 = .ok (.iload_n 3, 1) := by decide +kernel
theorem dL_law_459 : decode cL_law 459 = .ok (.iconst 3, 1) := by decide +kernel
theorem dL_law_460 : decode cL_law 460 = .ok (.iadd, 1) := by decide +kernel
theorem dL_law_461 : decode cL_law 461 = .ok (.iaload, 1) := by decide +kernel
theorem dL_law_462 : decode cL_law 462 = .ok (.i2l, 1) := by decide +kernel
theorem dL_law_463 : decode cL_law 463 = .ok (.ldc2_w 13, 3) := by decide +kernel
theorem dL_law_466 : decode cL_law 466 = .ok (.land, 1) := by decide +kernel
theorem dL_law_467 : decode cL_law 467 = .ok (.lor, 1) := by decide +kernel
theorem dL_law_468 : decode cL_law 468 = .ok (.invokevirtual 61, 3) := by decide +kernel
theorem dL_law_471 : decode cL_law 471 = .ok (.aload_n 2, 1) := by decide +kernel
theorem dL_law_472 : decode cL_law 472 = .ok (.aload_n 0, 1) := by decide +kernel
theorem dL_law_473 : decode cL_law 473 = .ok (.iload_n 3, 1) := by decide +kernel
theorem dL_law_474 : decode cL_law 474 = .ok (.iconst 1, 1) := by decide +kernel
theorem dL_law_475 : decode cL_law 475 = .ok (.iadd, 1) := by decide +kernel
theorem dL_law_476 : decode cL_law 476 = .ok (.iaload, 1) := by decide +kernel
theorem dL_law_477 : decode cL_law 477 = .ok (.aload_n 0, 1) := by decide +kernel
theorem dL_law_478 : decode cL_law 478 = .ok (.iload_n 3, 1) := by decide +kernel
theorem dL_law_479 : decode cL_law 479 = .ok (.iconst 2, 1) := by decide +kernel
theorem dL_law_480 : decode cL_law 480 = .ok (.iadd, 1) := by decide +kernel
theorem dL_law_481 : decode cL_law 481 = .ok (.iaload, 1) := by decide +kernel
theorem dL_law_482 : decode cL_law 482 = .ok (.i2l, 1) := by decide +kernel
theorem dL_law_483 : decode cL_law 483 = .ok (.bipush 32, 2) := by decide +kernel
theorem dL_law_485 : decode cL_law 485 = .ok (.lshl, 1) := by decide +kernel
theorem dL_law_486 : decode cL_law 486 = .ok (.aload_n 0, 1) := by decide +kernel
theorem dL_law_487 : decode cL_law 487 = .ok (.iload_n 3, 1) := by decide +kernel
theorem dL_law_488 : decode cL_law 488 = .ok (.iconst 3, 1) := by decide +kernel
theorem dL_law_489 : decode cL_law 489 = .ok (.iadd, 1) := by decide +kernel
theorem dL_law_490 : decode cL_law 490 = .ok (.iaload, 1) := by decide +kernel
theorem dL_law_491 : decode cL_law 491 = .ok (.i2l, 1) := by decide +kernel
theorem dL_law_492 : decode cL_law 492 = .ok (.ldc2_w 13, 3) := by decide +kernel
theorem dL_law_495 : decode cL_law 495 = .ok (.land, 1) := by decide +kernel
theorem dL_law_496 : decode cL_law 496 = .ok (.lor, 1) := by decide +kernel
theorem dL_law_497 : decode cL_law 497 = .ok (.invokevirtual 65, 3) := by decide +kernel
theorem dL_law_500 : decode cL_law 500 = .ok (.if_icmp .eq 177, 3) := by decide +kernel
theorem dL_law_503 : decode cL_law 503 = .ok (.iconst 0, 1) := by decide +kernel
theorem dL_law_504 : decode cL_law 504 = .ok (.ireturn, 1) := by decide +kernel
theorem dL_law_505 : decode cL_law 505 = .ok (.aload_n 1, 1) := by decide +kernel
theorem dL_law_506 : decode cL_law 506 = .ok (.aload_n 0, 1) := by decide +kernel
theorem dL_law_507 : decode cL_law 507 = .ok (.iload_n 3, 1) := by decide +kernel
theorem dL_law_508 : decode cL_law 508 = .ok (.iconst 1, 1) := by decide +kernel
theorem dL_law_509 : decode cL_law 509 = .ok (.iadd, 1) := by decide +kernel
theorem dL_law_510 : decode cL_law 510 = .ok (.iaload, 1) := by decide +kernel
theorem dL_law_511 : decode cL_law 511 = .ok (.invokevirtual 66, 3) := by decide +kernel
theorem dL_law_514 : decode cL_law 514 = .ok (.aload_n 2, 1) := by decide +kernel
theorem dL_law_515 : decode cL_law 515 = .ok (.aload_n 0, 1) := by decide +kernel
theorem dL_law_516 : decode cL_law 516 = .ok (.iload_n 3, 1) := by decide +kernel
theorem dL_law_517 : decode cL_law 517 = .ok (.iconst 1, 1) := by decide +kernel
theorem dL_law_518 : decode cL_law 518 = .ok (.iadd, 1) := by decide +kernel
theorem dL_law_519 : decode cL_law 519 = .ok (.iaload, 1) := by decide +kernel
theorem dL_law_520 : decode cL_law 520 = .ok (.invokevirtual 69, 3) := by decide +kernel
theorem dL_law_523 : decode cL_law 523 = .ok (.if_icmp .eq 154, 3) := by decide +kernel
theorem dL_law_526 : decode cL_law 526 = .ok (.iconst 0, 1) := by decide +kernel
theorem dL_law_527 : decode cL_law 527 = .ok (.ireturn, 1) := by decide +kernel
theorem dL_law_528 : decode cL_law 528 = .ok (.aload_n 1, 1) := by decide +kernel
theorem dL_law_529 : decode cL_law 529 = .ok (.invokevirtual 70, 3) := by decide +kernel
theorem dL_law_532 : decode cL_law 532 = .ok (.aload_n 2, 1) := by decide +kernel
theorem dL_law_533 : decode cL_law 533 = .ok (.invokevirtual 73, 3) := by decide +kernel
theorem dL_law_536 : decode cL_law 536 = .ok (.if_icmp .eq 141, 3) := by decide +kernel
theorem dL_law_539 : decode cL_law 539 = .ok (.iconst 0, 1) := by decide +kernel
theorem dL_law_540 : decode cL_law 540 = .ok (.ireturn, 1) := by decide +kernel
theorem dL_law_541 : decode cL_law 541 = .ok (.aload_n 1, 1) := by decide +kernel
theorem dL_law_542 : decode cL_law 542 = .ok (.aload_n 0, 1) := by decide +kernel
theorem dL_law_543 : decode cL_law 543 = .ok (.iload_n 3, 1) := by decide +kernel
theorem dL_law_544 : decode cL_law 544 = .ok (.iconst 1, 1) := by decide +kernel
theorem dL_law_545 : decode cL_law 545 = .ok (.iadd, 1) := by decide +kernel
theorem dL_law_546 : decode cL_law 546 = .ok (.iaload, 1) := by decide +kernel
theorem dL_law_547 : decode cL_law 547 = .ok (.aload_n 0, 1) := by decide +kernel
theorem dL_law_548 : decode cL_law 548 = .ok (.iload_n 3, 1) := by decide +kernel
theorem dL_law_549 : decode cL_law 549 = .ok (.iconst 2, 1) := by decide +kernel
theorem dL_law_550 : decode cL_law 550 = .ok (.iadd, 1) := by decide +kernel
theorem dL_law_551 : decode cL_law 551 = .ok (.iaload, 1) := by decide +kernel
theorem dL_law_552 : decode cL_law 552 = .ok (.invokevirtual 74, 3) := by decide +kernel
theorem dL_law_555 : decode cL_law 555 = .ok (.aload_n 2, 1) := by decide +kernel
theorem dL_law_556 : decode cL_law 556 = .ok (.aload_n 0, 1) := by decide +kernel
theorem dL_law_557 : decode cL_law 557 = .ok (.iload_n 3, 1) := by decide +kernel
theorem dL_law_558 : decode cL_law 558 = .ok (.iconst 1, 1) := by decide +kernel
theorem dL_law_559 : decode cL_law 559 = .ok (.iadd, 1) := by decide +kernel
theorem dL_law_560 : decode cL_law 560 = .ok (.iaload, 1) := by decide +kernel
theorem dL_law_561 : decode cL_law 561 = .ok (.aload_n 0, 1) := by decide +kernel
theorem dL_law_562 : decode cL_law 562 = .ok (.iload_n 3, 1) := by decide +kernel
theorem dL_law_563 : decode cL_law 563 = .ok (.iconst 2, 1) := by decide +kernel
theorem dL_law_564 : decode cL_law 564 = .ok (.iadd, 1) := by decide +kernel
theorem dL_law_565 : decode cL_law 565 = .ok (.iaload, 1) := by decide +kernel
theorem dL_law_566 : decode cL_law 566 = .ok (.invokevirtual 77, 3) := by decide +kernel
theorem dL_law_569 : decode cL_law 569 = .ok (.if_icmp .eq 108, 3) := by decide +kernel
theorem dL_law_572 : decode cL_law 572 = .ok (.iconst 0, 1) := by decide +kernel
theorem dL_law_573 : decode cL_law 573 = .ok (.ireturn, 1) := by decide +kernel
theorem dL_law_574 : decode cL_law 574 = .ok (.aload_n 1, 1) := by decide +kernel
theorem dL_law_575 : decode cL_law 575 = .ok (.invokevirtual 78, 3) := by decide +kernel
theorem dL_law_578 : decode cL_law 578 = .ok (.aload_n 2, 1) := by decide +kernel
theorem dL_law_579 : decode cL_law 579 = .ok (.invokevirtual 81, 3) := by decide +kernel
theorem dL_law_582 : decode cL_law 582 = .ok (.if_icmp .eq 95, 3) := by decide +kernel
theorem dL_law_585 : decode cL_law 585 = .ok (.iconst 0, 1) := by decide +kernel
theorem dL_law_586 : decode cL_law 586 = .ok (.ireturn, 1) := by decide +kernel
theorem dL_law_587 : decode cL_law 587 = .ok (.aload_n 1, 1) := by decide +kernel
theorem dL_law_588 : decode cL_law 588 = .ok (.aload_n 0, 1) := by decide +kernel
theorem dL_law_589 : decode cL_law 589 = .ok (.iload_n 3, 1) := by decide +kernel
theorem dL_law_590 : decode cL_law 590 = .ok (.iconst 1, 1) := by decide +kernel
theorem dL_law_591 : decode cL_law 591 = .ok (.iadd, 1) := by decide +kernel
theorem dL_law_592 : decode cL_law 592 = .ok (.iaload, 1) := by decide +kernel
theorem dL_law_593 : decode cL_law 593 = .ok (.aload_n 0, 1) := by decide +kernel
theorem dL_law_594 : decode cL_law 594 = .ok (.iload_n 3, 1) := by decide +kernel
theorem dL_law_595 : decode cL_law 595 = .ok (.iconst 2, 1) := by decide +kernel
theorem dL_law_596 : decode cL_law 596 = .ok (.iadd, 1) := by decide +kernel
theorem dL_law_597 : decode cL_law 597 = .ok (.iaload, 1) := by decide +kernel
theorem dL_law_598 : decode cL_law 598 = .ok (.invokevirtual 82, 3) := by decide +kernel
theorem dL_law_601 : decode cL_law 601 = .ok (.aload_n 2, 1) := by decide +kernel
theorem dL_law_602 : decode cL_law 602 = .ok (.aload_n 0, 1) := by decide +kernel
theorem dL_law_603 : decode cL_law 603 = .ok (.iload_n 3, 1) := by decide +kernel
theorem dL_law_604 : decode cL_law 604 = .ok (.iconst 1, 1) := by decide +kernel
theorem dL_law_605 : decode cL_law 605 = .ok (.iadd, 1) := by decide +kernel
theorem dL_law_606 : decode cL_law 606 = .ok (.iaload, 1) := by decide +kernel
theorem dL_law_607 : decode cL_law 607 = .ok (.aload_n 0, 1) := by decide +kernel
theorem dL_law_608 : decode cL_law 608 = .ok (.iload_n 3, 1) := by decide +kernel
theorem dL_law_609 : decode cL_law 609 = .ok (.iconst 2, 1) := by decide +kernel
theorem dL_law_610 : decode cL_law 610 = .ok (.iadd, 1) := by decide +kernel
theorem dL_law_611 : decode cL_law 611 = .ok (.iaload, 1) := by decide +kernel
theorem dL_law_612 : decode cL_law 612 = .ok (.invokevirtual 85, 3) := by decide +kernel
theorem dL_law_615 : decode cL_law 615 = .ok (.lcmp, 1) := by decide +kernel
theorem dL_law_616 : decode cL_law 616 = .ok (.ifCond .eq 61, 3) := by decide +kernel
theorem dL_law_619 : decode cL_law 619 = .ok (.iconst 0, 1) := by decide +kernel
theorem dL_law_620 : decode cL_law 620 = .ok (.ireturn, 1) := by decide +kernel
theorem dL_law_621 : decode cL_law 621 = .ok (.aload_n 1, 1) := by decide +kernel
theorem dL_law_622 : decode cL_law 622 = .ok (.aload_n 0, 1) := by decide +kernel
theorem dL_law_623 : decode cL_law 623 = .ok (.iload_n 3, 1) := by decide +kernel
theorem dL_law_624 : decode cL_law 624 = .ok (.iconst 1, 1) := by decide +kernel
theorem dL_law_625 : decode cL_law 625 = .ok (.iadd, 1) := by decide +kernel
theorem dL_law_626 : decode cL_law 626 = .ok (.iaload, 1) := by decide +kernel
theorem dL_law_627 : decode cL_law 627 = .ok (.aload_n 0, 1) := by decide +kernel
theorem dL_law_628 : decode cL_law 628 = .ok (.iload_n 3, 1) := by decide +kernel
theorem dL_law_629 : decode cL_law 629 = .ok (.iconst 2, 1) := by decide +kernel
theorem dL_law_630 : decode cL_law 630 = .ok (.iadd, 1) := by decide +kernel
theorem dL_law_631 : decode cL_law 631 = .ok (.iaload, 1) := by decide +kernel
theorem dL_law_632 : decode cL_law 632 = .ok (.invokevirtual 86, 3) := by decide +kernel
theorem dL_law_635 : decode cL_law 635 = .ok (.aload_n 2, 1) := by decide +kernel
theorem dL_law_636 : decode cL_law 636 = .ok (.aload_n 0, 1) := by decide +kernel
theorem dL_law_637 : decode cL_law 637 = .ok (.iload_n 3, 1) := by decide +kernel
theorem dL_law_638 : decode cL_law 638 = .ok (.iconst 1, 1) := by decide +kernel
theorem dL_law_639 : decode cL_law 639 = .ok (.iadd, 1) := by decide +kernel
theorem dL_law_640 : decode cL_law 640 = .ok (.iaload, 1) := by decide +kernel
theorem dL_law_641 : decode cL_law 641 = .ok (.aload_n 0, 1) := by decide +kernel
theorem dL_law_642 : decode cL_law 642 = .ok (.iload_n 3, 1) := by decide +kernel
theorem dL_law_643 : decode cL_law 643 = .ok (.iconst 2, 1) := by decide +kernel
theorem dL_law_644 : decode cL_law 644 = .ok (.iadd, 1) := by decide +kernel
theorem dL_law_645 : decode cL_law 645 = .ok (.iaload, 1) := by decide +kernel
theorem dL_law_646 : decode cL_law 646 = .ok (.invokevirtual 89, 3) := by decide +kernel
theorem dL_law_649 : decode cL_law 649 = .ok (.if_icmp .eq 28, 3) := by decide +kernel
theorem dL_law_652 : decode cL_law 652 = .ok (.iconst 0, 1) := by decide +kernel
theorem dL_law_653 : decode cL_law 653 = .ok (.ireturn, 1) := by decide +kernel
theorem dL_law_654 : decode cL_law 654 = .ok (.aload_n 1, 1) := by decide +kernel
theorem dL_law_655 : decode cL_law 655 = .ok (.aload_n 0, 1) := by decide +kernel
theorem dL_law_656 : decode cL_law 656 = .ok (.iload_n 3, 1) := by decide +kernel
theorem dL_law_657 : decode cL_law 657 = .ok (.iconst 1, 1) := by decide +kernel
theorem dL_law_658 : decode cL_law 658 = .ok (.iadd, 1) := by decide +kernel
theorem dL_law_659 : decode cL_law 659 = .ok (.iaload, 1) := by decide +kernel
theorem dL_law_660 : decode cL_law 660 = .ok (.invokevirtual 90, 3) := by decide +kernel
theorem dL_law_663 : decode cL_law 663 = .ok (.aload_n 2, 1) := by decide +kernel
theorem dL_law_664 : decode cL_law 664 = .ok (.aload_n 0, 1) := by decide +kernel
theorem dL_law_665 : decode cL_law 665 = .ok (.iload_n 3, 1) := by decide +kernel
theorem dL_law_666 : decode cL_law 666 = .ok (.iconst 1, 1) := by decide +kernel
theorem dL_law_667 : decode cL_law 667 = .ok (.iadd, 1) := by decide +kernel
theorem dL_law_668 : decode cL_law 668 = .ok (.iaload, 1) := by decide +kernel
theorem dL_law_669 : decode cL_law 669 = .ok (.invokevirtual 93, 3) := by decide +kernel
theorem dL_law_672 : decode cL_law 672 = .ok (.if_icmp .eq 5, 3) := by decide +kernel
theorem dL_law_675 : decode cL_law 675 = .ok (.iconst 0, 1) := by decide +kernel
theorem dL_law_676 : decode cL_law 676 = .ok (.ireturn, 1) := by decide +kernel
theorem dL_law_677 : decode cL_law 677 = .ok (.iinc 3 5, 3) := by decide +kernel
theorem dL_law_680 : decode cL_law 680 = .ok (.goto (-662), 3) := by decide +kernel
theorem dL_law_683 : decode cL_law 683 = .ok (.iconst 1, 1) := by decide +kernel
theorem dL_law_684 : decode cL_law 684 = .ok (.ireturn, 1) := by decide +kernel
