theorem dX0_init_0 : decode cX0_init 0 = .ok (.aload_n 0, 1) := by decide +kernel
theorem dX0_init_1 : decode cX0_init 1 = .ok (.invokespecial 3, 3) := by decide +kernel
theorem dX0_init_4 : decode cX0_init 4 = .ok (.aload_n 0, 1) := by decide +kernel
theorem dX0_init_5 : decode cX0_init 5 = .ok (.bipush 36, 2) := by decide +kernel
theorem dX0_init_7 : decode cX0_init 7 = .ok (.newarray .int, 2) := by decide +kernel
theorem dX0_init_9 : decode cX0_init 9 = .ok (.putfield 9, 3) := by decide +kernel
theorem dX0_init_12 : decode cX0_init 12 = .ok (.aload_n 0, 1) := by decide +kernel
theorem dX0_init_13 : decode cX0_init 13 = .ok (.bipush 36, 2) := by decide +kernel
theorem dX0_init_15 : decode cX0_init 15 = .ok (.newarray .int, 2) := by decide +kernel
theorem dX0_init_17 : decode cX0_init 17 = .ok (.putfield 15, 3) := by decide +kernel
theorem dX0_init_20 : decode cX0_init 20 = .ok (.aload_n 0, 1) := by decide +kernel
theorem dX0_init_21 : decode cX0_init 21 = .ok (.iconst 3, 1) := by decide +kernel
theorem dX0_init_22 : decode cX0_init 22 = .ok (.putfield 18, 3) := by decide +kernel
theorem dX0_init_25 : decode cX0_init 25 = .ok (.aload_n 0, 1) := by decide +kernel
theorem dX0_init_26 : decode cX0_init 26 = .ok (.iconst 2, 1) := by decide +kernel
theorem dX0_init_27 : decode cX0_init 27 = .ok (.putfield 22, 3) := by decide +kernel
theorem dX0_init_30 : decode cX0_init 30 = .ok (.return_, 1) := by decide +kernel
theorem dX0_copy_0 : decode cX0_copy 0 = .ok (.aload_n 0, 1) := by decide +kernel
theorem dX0_copy_1 : decode cX0_copy 1 = .ok (.aload_n 1, 1) := by decide +kernel
theorem dX0_copy_2 : decode cX0_copy 2 = .ok (.invokevirtual 25, 3) := by decide +kernel
theorem dX0_copy_5 : decode cX0_copy 5 = .ok (.aload_n 1, 1) := by decide +kernel
theorem dX0_copy_6 : decode cX0_copy 6 = .ok (.getfield 15, 3) := by decide +kernel
theorem dX0_copy_9 : decode cX0_copy 9 = .ok (.iconst 0, 1) := by decide +kernel
theorem dX0_copy_10 : decode cX0_copy 10 = .ok (.aload_n 0, 1) := by decide +kernel
theorem dX0_copy_11 : decode cX0_copy 11 = .ok (.getfield 15, 3) := by decide +kernel
theorem dX0_copy_14 : decode cX0_copy 14 = .ok (.iconst 0, 1) := by decide +kernel
theorem dX0_copy_15 : decode cX0_copy 15 = .ok (.bipush 36, 2) := by decide +kernel
theorem dX0_copy_17 : decode cX0_copy 17 = .ok (.invokestatic 29, 3) := by decide +kernel
theorem dX0_copy_20 : decode cX0_copy 20 = .ok (.aload_n 0, 1) := by decide +kernel
theorem dX0_copy_21 : decode cX0_copy 21 = .ok (.aload_n 1, 1) := by decide +kernel
theorem dX0_copy_22 : decode cX0_copy 22 = .ok (.getfield 35, 3) := by decide +kernel
theorem dX0_copy_25 : decode cX0_copy 25 = .ok (.putfield 35, 3) := by decide +kernel
theorem dX0_copy_28 : decode cX0_copy 28 = .ok (.aload_n 0, 1) := by decide +kernel
theorem dX0_copy_29 : decode cX0_copy 29 = .ok (.aload_n 1, 1) := by decide +kernel
theorem dX0_copy_30 : decode cX0_copy 30 = .ok (.getfield 18, 3) := by decide +kernel
theorem dX0_copy_33 : decode cX0_copy 33 = .ok (.putfield 18, 3) := by decide +kernel
theorem dX0_copy_36 : decode cX0_copy 36 = .ok (.aload_n 0, 1) := by decide +kernel
theorem dX0_copy_37 : decode cX0_copy 37 = .ok (.aload_n 1, 1) := by decide +kernel
theorem dX0_copy_38 : decode cX0_copy 38 = .ok (.getfield 22, 3) := by decide +kernel
theorem dX0_copy_41 : decode cX0_copy 41 = .ok (.putfield 22, 3) := by decide +kernel
theorem dX0_copy_44 : decode cX0_copy 44 = .ok (.return_, 1) := by decide +kernel
theorem dX0_layOn_0 : decode cX0_layOn 0 = .ok (.aload_n 1, 1) := by decide +kernel
theorem dX0_layOn_1 : decode cX0_layOn 1 = .ok (.getfield 9, 3) := by decide +kernel
theorem dX0_layOn_4 : decode cX0_layOn 4 = .ok (.iconst 0, 1) := by decide +kernel
theorem dX0_layOn_5 : decode cX0_layOn 5 = .ok (.aload_n 0, 1) := by decide +kernel
theorem dX0_layOn_6 : decode cX0_layOn 6 = .ok (.getfield 9, 3) := by decide +kernel
theorem dX0_layOn_9 : decode cX0_layOn 9 = .ok (.iconst 0, 1) := by decide +kernel
theorem dX0_layOn_10 : decode cX0_layOn 10 = .ok (.bipush 36, 2) := by decide +kernel
theorem dX0_layOn_12 : decode cX0_layOn 12 = .ok (.invokestatic 29, 3) := by decide +kernel
theorem dX0_layOn_15 : decode cX0_layOn 15 = .ok (.aload_n 0, 1) := by decide +kernel
theorem dX0_layOn_16 : decode cX0_layOn 16 = .ok (.aload_n 1, 1) := by decide +kernel
theorem dX0_layOn_17 : decode cX0_layOn 17 = .ok (.getfield 39, 3) := by decide +kernel
theorem dX0_layOn_20 : decode cX0_layOn 20 = .ok (.putfield 39, 3) := by decide +kernel
theorem dX0_layOn_23 : decode cX0_layOn 23 = .ok (.aload_n 0, 1) := by decide +kernel
theorem dX0_layOn_24 : decode cX0_layOn 24 = .ok (.aload_n 1, 1) := by decide +kernel
theorem dX0_layOn_25 : decode cX0_layOn 25 = .ok (.getfield 42, 3) := by decide +kernel
theorem dX0_layOn_28 : decode cX0_layOn 28 = .ok (.putfield 42, 3) := by decide +kernel
theorem dX0_layOn_31 : decode cX0_layOn 31 = .ok (.aload_n 0, 1) := by decide +kernel
theorem dX0_layOn_32 : decode cX0_layOn 32 = .ok (.aload_n 1, 1) := by decide +kernel
theorem dX0_layOn_33 : decode cX0_layOn 33 = .ok (.getfield 45, 3) := by decide +kernel
theorem dX0_layOn_36 : decode cX0_layOn 36 = .ok (.putfield 45, 3) := by decide +kernel
theorem dX0_layOn_39 : decode cX0_layOn 39 = .ok (.return_, 1) := by decide +kernel
theorem dX0_lit_0 : decode cX0_lit 0 = .ok (.aload_n 0, 1) := by decide +kernel
theorem dX0_lit_1 : decode cX0_lit 1 = .ok (.getfield 39, 3) := by decide +kernel
theorem dX0_lit_4 : decode cX0_lit 4 = .ok (.aload_n 0, 1) := by decide +kernel
theorem dX0_lit_5 : decode cX0_lit 5 = .ok (.getfield 42, 3) := by decide +kernel
theorem dX0_lit_8 : decode cX0_lit 8 = .ok (.ldc2_w 48, 3) := by decide +kernel
theorem dX0_lit_11 : decode cX0_lit 11 = .ok (.lxor, 1) := by decide +kernel
theorem dX0_lit_12 : decode cX0_lit 12 = .ok (.land, 1) := by decide +kernel
theorem dX0_lit_13 : decode cX0_lit 13 = .ok (.lreturn, 1) := by decide +kernel
theorem dX0_isLit_0 : decode cX0_isLit 0 = .ok (.aload_n 0, 1) := by decide +kernel
theorem dX0_isLit_1 : decode cX0_isLit 1 = .ok (.invokevirtual 50, 3) := by decide +kernel
theorem dX0_isLit_4 : decode cX0_isLit 4 = .ok (.iload_n 1, 1) := by decide +kernel
theorem dX0_isLit_5 : decode cX0_isLit 5 = .ok (.lushr, 1) := by decide +kernel
theorem dX0_isLit_6 : decode cX0_isLit 6 = .ok (.lconst 1, 1) := by decide +kernel
theorem dX0_isLit_7 : decode cX0_isLit 7 = .ok (.land, 1) := by decide +kernel
theorem dX0_isLit_8 : decode cX0_isLit 8 = .ok (.lconst 0, 1) := by decide +kernel
theorem dX0_isLit_9 : decode cX0_isLit 9 = .ok (.lcmp, 1) := by decide +kernel
theorem dX0_isLit_10 : decode cX0_isLit 10 = .ok (.ifCond .eq 7, 3) := by decide +kernel
theorem dX0_isLit_13 : decode cX0_isLit 13 = .ok (.iconst 1, 1) := by decide +kernel
theorem dX0_isLit_14 : decode cX0_isLit 14 = .ok (.goto 4, 3) := by decide +kernel
theorem dX0_isLit_17 : decode cX0_isLit 17 = .ok (.iconst 0, 1) := by decide +kernel
theorem dX0_isLit_18 : decode cX0_isLit 18 = .ok (.ireturn, 1) := by decide +kernel
theorem dX0_isDark_0 : decode cX0_isDark 0 = .ok (.aload_n 0, 1) := by decide +kernel
theorem dX0_isDark_1 : decode cX0_isDark 1 = .ok (.getfield 42, 3) := by decide +kernel
theorem dX0_isDark_4 : decode cX0_isDark 4 = .ok (.iload_n 1, 1) := by decide +kernel
theorem dX0_isDark_5 : decode cX0_isDark 5 = .ok (.lushr, 1) := by decide +kernel
theorem dX0_isDark_6 : decode cX0_isDark 6 = .ok (.lconst 1, 1) := by decide +kernel
theorem dX0_isDark_7 : decode cX0_isDark 7 = .ok (.land, 1) := by decide +kernel
theorem dX0_isDark_8 : decode cX0_isDark 8 = .ok (.lconst 0, 1) := by decide +kernel
theorem dX0_isDark_9 : decode cX0_isDark 9 = .ok (.lcmp, 1) := by decide +kernel
theorem dX0_isDark_10 : decode cX0_isDark 10 = .ok (.ifCond .eq 7, 3) := by decide +kernel
theorem dX0_isDark_13 : decode cX0_isDark 13 = .ok (.iconst 1, 1) := by decide +kernel
theorem dX0_isDark_14 : decode cX0_isDark 14 = .ok (.goto 4, 3) := by decide +kernel
theorem dX0_isDark_17 : decode cX0_isDark 17 = .ok (.iconst 0, 1) := by decide +kernel
theorem dX0_isDark_18 : decode cX0_isDark 18 = .ok (.ireturn, 1) := by decide +kernel
theorem dX0_darkCount_0 : decode cX0_darkCount 0 = .ok (.aload_n 0, 1) := by decide +kernel
theorem dX0_darkCount_1 : decode cX0_darkCount 1 = .ok (.getfield 42, 3) := by decide +kernel
theorem dX0_darkCount_4 : decode cX0_darkCount 4 = .ok (.invokestatic 54, 3) := by decide +kernel
theorem dX0_darkCount_7 : decode cX0_darkCount 7 = .ok (.ireturn, 1) := by decide +kernel
theorem dX0_darkChildren_0 : decode cX0_darkChildren 0 = .ok (.aload_n 0, 1) := by decide +kernel
theorem dX0_darkChildren_1 : decode cX0_darkChildren 1 = .ok (.getfield 42, 3) := by decide +kernel
theorem dX0_darkChildren_4 : decode cX0_darkChildren 4 = .ok (.aload_n 0, 1) := by decide +kernel
theorem dX0_darkChildren_5 : decode cX0_darkChildren 5 = .ok (.getfield 35, 3) := by decide +kernel
theorem dX0_darkChildren_8 : decode cX0_darkChildren 8 = .ok (.land, 1) := by decide +kernel
theorem dX0_darkChildren_9 : decode cX0_darkChildren 9 = .ok (.invokestatic 54, 3) := by decide +kernel
theorem dX0_darkChildren_12 : decode cX0_darkChildren 12 = .ok (.ireturn, 1) := by decide +kernel
theorem dX0_setWax_0 : decode cX0_setWax 0 = .ok (.aload_n 0, 1) := by decide +kernel
theorem dX0_setWax_1 : decode cX0_setWax 1 = .ok (.getfield 9, 3) := by decide +kernel
theorem dX0_setWax_4 : decode cX0_setWax 4 = .ok (.iload_n 1, 1) := by decide +kernel
theorem dX0_setWax_5 : decode cX0_setWax 5 = .ok (.iload_n 2, 1) := by decide +kernel
theorem dX0_setWax_6 : decode cX0_setWax 6 = .ok (.iastore, 1) := by decide +kernel
theorem dX0_setWax_7 : decode cX0_setWax 7 = .ok (.aload_n 0, 1) := by decide +kernel
theorem dX0_setWax_8 : decode cX0_setWax 8 = .ok (.aload_n 0, 1) := by decide +kernel
theorem dX0_setWax_9 : decode cX0_setWax 9 = .ok (.getfield 39, 3) := by decide +kernel
theorem dX0_setWax_12 : decode cX0_setWax 12 = .ok (.iload_n 1, 1) := by decide +kernel
theorem dX0_setWax_13 : decode cX0_setWax 13 = .ok (.iload_n 2, 1) := by decide +kernel
theorem dX0_setWax_14 : decode cX0_setWax 14 = .ok (.invokestatic 60, 3) := by decide +kernel
theorem dX0_setWax_17 : decode cX0_setWax 17 = .ok (.putfield 39, 3) := by decide +kernel
theorem dX0_setWax_20 : decode cX0_setWax 20 = .ok (.return_, 1) := by decide +kernel
theorem dX0_addWax_0 : decode cX0_addWax 0 = .ok (.aload_n 0, 1) := by decide +kernel
theorem dX0_addWax_1 : decode cX0_addWax 1 = .ok (.iload_n 1, 1) := by decide +kernel
theorem dX0_addWax_2 : decode cX0_addWax 2 = .ok (.bipush 99, 2) := by decide +kernel
theorem dX0_addWax_4 : decode cX0_addWax 4 = .ok (.aload_n 0, 1) := by decide +kernel
theorem dX0_addWax_5 : decode cX0_addWax 5 = .ok (.getfield 9, 3) := by decide +kernel
theorem dX0_addWax_8 : decode cX0_addWax 8 = .ok (.iload_n 1, 1) := by decide +kernel
theorem dX0_addWax_9 : decode cX0_addWax 9 = .ok (.iaload, 1) := by decide +kernel
theorem dX0_addWax_10 : decode cX0_addWax 10 = .ok (.iload_n 2, 1) := by decide +kernel
theorem dX0_addWax_11 : decode cX0_addWax 11 = .ok (.iadd, 1) := by decide +kernel
theorem dX0_addWax_12 : decode cX0_addWax 12 = .ok (.invokestatic 64, 3) := by decide +kernel
theorem dX0_addWax_15 : decode cX0_addWax 15 = .ok (.invokevirtual 70, 3) := by decide +kernel
theorem dX0_addWax_18 : decode cX0_addWax 18 = .ok (.return_, 1) := by decide +kernel
theorem dX0_withBit_0 : decode cX0_withBit 0 = .ok (.lconst 1, 1) := by decide +kernel
theorem dX0_withBit_1 : decode cX0_withBit 1 = .ok (.iload_n 2, 1) := by decide +kernel
theorem dX0_withBit_2 : decode cX0_withBit 2 = .ok (.lshl, 1) := by decide +kernel
theorem dX0_withBit_3 : decode cX0_withBit 3 = .ok (.lstore 4, 2) := by decide +kernel
theorem dX0_withBit_5 : decode cX0_withBit 5 = .ok (.iload_n 3, 1) := by decide +kernel
theorem dX0_withBit_6 : decode cX0_withBit 6 = .ok (.ifCond .le 10, 3) := by decide +kernel
theorem dX0_withBit_9 : decode cX0_withBit 9 = .ok (.lload_n 0, 1) := by decide +kernel
theorem dX0_withBit_10 : decode cX0_withBit 10 = .ok (.lload 4, 2) := by decide +kernel
theorem dX0_withBit_12 : decode cX0_withBit 12 = .ok (.lor, 1) := by decide +kernel
theorem dX0_withBit_13 : decode cX0_withBit 13 = .ok (.goto 11, 3) := by decide +kernel
theorem dX0_withBit_16 : decode cX0_withBit 16 = .ok (.lload_n 0, 1) := by decide +kernel
theorem dX0_withBit_17 : decode cX0_withBit 17 = .ok (.lload 4, 2) := by decide +kernel
theorem dX0_withBit_19 : decode cX0_withBit 19 = .ok (.ldc2_w 48, 3) := by decide +kernel
theorem dX0_withBit_22 : decode cX0_withBit 22 = .ok (.lxor, 1) := by decide +kernel
theorem dX0_withBit_23 : decode cX0_withBit 23 = .ok (.land, 1) := by decide +kernel
theorem dX0_withBit_24 : decode cX0_withBit 24 = .ok (.lreturn, 1) := by decide +kernel
theorem dX0_numberOf_0 : decode cX0_numberOf 0 = .ok (.iload_n 2, 1) := by decide +kernel
theorem dX0_numberOf_1 : decode cX0_numberOf 1 = .ok (.tableswitch 83 0 5 #[39, 46, 53, 63, 73, 78], 39) := by decide +kernel
theorem dX0_numberOf_40 : decode cX0_numberOf 40 = .ok (.aload_n 0, 1) := by decide +kernel
theorem dX0_numberOf_41 : decode cX0_numberOf 41 = .ok (.getfield 9, 3) := by decide +kernel
theorem dX0_numberOf_44 : decode cX0_numberOf 44 = .ok (.iload_n 1, 1) := by decide +kernel
theorem dX0_numberOf_45 : decode cX0_numberOf 45 = .ok (.iaload, 1) := by decide +kernel
theorem dX0_numberOf_46 : decode cX0_numberOf 46 = .ok (.ireturn, 1) := by decide +kernel
theorem dX0_numberOf_47 : decode cX0_numberOf 47 = .ok (.aload_n 0, 1) := by decide +kernel
theorem dX0_numberOf_48 : decode cX0_numberOf 48 = .ok (.getfield 15, 3) := by decide +kernel
theorem dX0_numberOf_51 : decode cX0_numberOf 51 = .ok (.iload_n 1, 1) := by decide +kernel
theorem dX0_numberOf_52 : decode cX0_numberOf 52 = .ok (.iaload, 1) := by decide +kernel
theorem dX0_numberOf_53 : decode cX0_numberOf 53 = .ok (.ireturn, 1) := by decide +kernel
theorem dX0_numberOf_54 : decode cX0_numberOf 54 = .ok (.aload_n 0, 1) := by decide +kernel
theorem dX0_numberOf_55 : decode cX0_numberOf 55 = .ok (.getfield 35, 3) := by decide +kernel
theorem dX0_numberOf_58 : decode cX0_numberOf 58 = .ok (.iload_n 1, 1) := by decide +kernel
theorem dX0_numberOf_59 : decode cX0_numberOf 59 = .ok (.lushr, 1) := by decide +kernel
theorem dX0_numberOf_60 : decode cX0_numberOf 60 = .ok (.lconst 1, 1) := by decide +kernel
theorem dX0_numberOf_61 : decode cX0_numberOf 61 = .ok (.land, 1) := by decide +kernel
theorem dX0_numberOf_62 : decode cX0_numberOf 62 = .ok (.l2i, 1) := by decide +kernel
theorem dX0_numberOf_63 : decode cX0_numberOf 63 = .ok (.ireturn, 1) := by decide +kernel
theorem dX0_numberOf_64 : decode cX0_numberOf 64 = .ok (.aload_n 0, 1) := by decide +kernel
theorem dX0_numberOf_65 : decode cX0_numberOf 65 = .ok (.getfield 42, 3) := by decide +kernel
theorem dX0_numberOf_68 : decode cX0_numberOf 68 = .ok (.iload_n 1, 1) := by decide +kernel
theorem dX0_numberOf_69 : decode cX0_numberOf 69 = .ok (.lushr, 1) := by decide +kernel
theorem dX0_numberOf_70 : decode cX0_numberOf 70 = .ok (.lconst 1, 1) := by decide +kernel
theorem dX0_numberOf_71 : decode cX0_numberOf 71 = .ok (.land, 1) := by decide +kernel
theorem dX0_numberOf_72 : decode cX0_numberOf 72 = .ok (.l2i, 1) := by decide +kernel
theorem dX0_numberOf_73 : decode cX0_numberOf 73 = .ok (.ireturn, 1) := by decide +kernel
theorem dX0_numberOf_74 : decode cX0_numberOf 74 = .ok (.aload_n 0, 1) := by decide +kernel
theorem dX0_numberOf_75 : decode cX0_numberOf 75 = .ok (.getfield 18, 3) := by decide +kernel
theorem dX0_numberOf_78 : decode cX0_numberOf 78 = .ok (.ireturn, 1) := by decide +kernel
theorem dX0_numberOf_79 : decode cX0_numberOf 79 = .ok (.aload_n 0, 1) := by decide +kernel
theorem dX0_numberOf_80 : decode cX0_numberOf 80 = .ok (.getfield 22, 3) := by decide +kernel
theorem dX0_numberOf_83 : decode cX0_numberOf 83 = .ok (.ireturn, 1) := by decide +kernel
theorem dX0_numberOf_84 : decode cX0_numberOf 84 = .ok (.aload_n 0, 1) := by decide +kernel
theorem dX0_numberOf_85 : decode cX0_numberOf 85 = .ok (.getfield 45, 3) := by decide +kernel
theorem dX0_numberOf_88 : decode cX0_numberOf 88 = .ok (.ireturn, 1) := by decide +kernel
theorem dX0_tell_0 : decode cX0_tell 0 = .ok (.iload_n 2, 1) := by decide +kernel
theorem dX0_tell_1 : decode cX0_tell 1 = .ok (.tableswitch 106 0 5 #[39, 48, 58, 74, 90, 98], 39) := by decide +kernel
theorem dX0_tell_40 : decode cX0_tell 40 = .ok (.aload_n 0, 1) := by decide +kernel
theorem dX0_tell_41 : decode cX0_tell 41 = .ok (.iload_n 1, 1) := by decide +kernel
theorem dX0_tell_42 : decode cX0_tell 42 = .ok (.iload_n 3, 1) := by decide +kernel
theorem dX0_tell_43 : decode cX0_tell 43 = .ok (.invokevirtual 70, 3) := by decide +kernel
theorem dX0_tell_46 : decode cX0_tell 46 = .ok (.goto 66, 3) := by decide +kernel
theorem dX0_tell_49 : decode cX0_tell 49 = .ok (.aload_n 0, 1) := by decide +kernel
theorem dX0_tell_50 : decode cX0_tell 50 = .ok (.getfield 15, 3) := by decide +kernel
theorem dX0_tell_53 : decode cX0_tell 53 = .ok (.iload_n 1, 1) := by decide +kernel
theorem dX0_tell_54 : decode cX0_tell 54 = .ok (.iload_n 3, 1) := by decide +kernel
theorem dX0_tell_55 : decode cX0_tell 55 = .ok (.iastore, 1) := by decide +kernel
theorem dX0_tell_56 : decode cX0_tell 56 = .ok (.goto 56, 3) := by decide +kernel
theorem dX0_tell_59 : decode cX0_tell 59 = .ok (.aload_n 0, 1) := by decide +kernel
theorem dX0_tell_60 : decode cX0_tell 60 = .ok (.aload_n 0, 1) := by decide +kernel
theorem dX0_tell_61 : decode cX0_tell 61 = .ok (.getfield 35, 3) := by decide +kernel
theorem dX0_tell_64 : decode cX0_tell 64 = .ok (.iload_n 1, 1) := by decide +kernel
theorem dX0_tell_65 : decode cX0_tell 65 = .ok (.iload_n 3, 1) := by decide +kernel
theorem dX0_tell_66 : decode cX0_tell 66 = .ok (.invokestatic 60, 3) := by decide +kernel
theorem dX0_tell_69 : decode cX0_tell 69 = .ok (.putfield 35, 3) := by decide +kernel
theorem dX0_tell_72 : decode cX0_tell 72 = .ok (.goto 40, 3) := by decide +kernel
theorem dX0_tell_75 : decode cX0_tell 75 = .ok (.aload_n 0, 1) := by decide +kernel
theorem dX0_tell_76 : decode cX0_tell 76 = .ok (.aload_n 0, 1) := by decide +kernel
theorem dX0_tell_77 : decode cX0_tell 77 = .ok (.getfield 42, 3) := by decide +kernel
theorem dX0_tell_80 : decode cX0_tell 80 = .ok (.iload_n 1, 1) := by decide +kernel
theorem dX0_tell_81 : decode cX0_tell 81 = .ok (.iload_n 3, 1) := by decide +kernel
theorem dX0_tell_82 : decode cX0_tell 82 = .ok (.invokestatic 60, 3) := by decide +kernel
theorem dX0_tell_85 : decode cX0_tell 85 = .ok (.putfield 42, 3) := by decide +kernel
theorem dX0_tell_88 : decode cX0_tell 88 = .ok (.goto 24, 3) := by decide +kernel
theorem dX0_tell_91 : decode cX0_tell 91 = .ok (.aload_n 0, 1) := by decide +kernel
theorem dX0_tell_92 : decode cX0_tell 92 = .ok (.iload_n 3, 1) := by decide +kernel
theorem dX0_tell_93 : decode cX0_tell 93 = .ok (.putfield 18, 3) := by decide +kernel
theorem dX0_tell_96 : decode cX0_tell 96 = .ok (.goto 16, 3) := by decide +kernel
theorem dX0_tell_99 : decode cX0_tell 99 = .ok (.aload_n 0, 1) := by decide +kernel
theorem dX0_tell_100 : decode cX0_tell 100 = .ok (.iload_n 3, 1) := by decide +kernel
theorem dX0_tell_101 : decode cX0_tell 101 = .ok (.putfield 22, 3) := by decide +kernel
theorem dX0_tell_104 : decode cX0_tell 104 = .ok (.goto 8, 3) := by decide +kernel
theorem dX0_tell_107 : decode cX0_tell 107 = .ok (.aload_n 0, 1) := by decide +kernel
theorem dX0_tell_108 : decode cX0_tell 108 = .ok (.iload_n 3, 1) := by decide +kernel
theorem dX0_tell_109 : decode cX0_tell 109 = .ok (.putfield 45, 3) := by decide +kernel
theorem dX0_tell_112 : decode cX0_tell 112 = .ok (.return_, 1) := by decide +kernel
theorem dX0_pressOn_0 : decode cX0_pressOn 0 = .ok (.aload_n 0, 1) := by decide +kernel
theorem dX0_pressOn_1 : decode cX0_pressOn 1 = .ok (.getfield 42, 3) := by decide +kernel
theorem dX0_pressOn_4 : decode cX0_pressOn 4 = .ok (.getstatic 74, 3) := by decide +kernel
theorem dX0_pressOn_7 : decode cX0_pressOn 7 = .ok (.iload_n 1, 1) := by decide +kernel
theorem dX0_pressOn_8 : decode cX0_pressOn 8 = .ok (.laload, 1) := by decide +kernel
theorem dX0_pressOn_9 : decode cX0_pressOn 9 = .ok (.land, 1) := by decide +kernel
theorem dX0_pressOn_10 : decode cX0_pressOn 10 = .ok (.invokestatic 54, 3) := by decide +kernel
theorem dX0_pressOn_13 : decode cX0_pressOn 13 = .ok (.getstatic 78, 3) := by decide +kernel
theorem dX0_pressOn_16 : decode cX0_pressOn 16 = .ok (.iload_n 1, 1) := by decide +kernel
theorem dX0_pressOn_17 : decode cX0_pressOn 17 = .ok (.iaload, 1) := by decide +kernel
theorem dX0_pressOn_18 : decode cX0_pressOn 18 = .ok (.iadd, 1) := by decide +kernel
theorem dX0_pressOn_19 : decode cX0_pressOn 19 = .ok (.istore_n 3, 1) := by decide +kernel
theorem dX0_pressOn_20 : decode cX0_pressOn 20 = .ok (.aload_n 0, 1) := by decide +kernel
theorem dX0_pressOn_21 : decode cX0_pressOn 21 = .ok (.invokevirtual 50, 3) := by decide +kernel
theorem dX0_pressOn_24 : decode cX0_pressOn 24 = .ok (.getstatic 74, 3) := by decide +kernel
theorem dX0_pressOn_27 : decode cX0_pressOn 27 = .ok (.iload_n 1, 1) := by decide +kernel
theorem dX0_pressOn_28 : decode cX0_pressOn 28 = .ok (.laload, 1) := by decide +kernel
theorem dX0_pressOn_29 : decode cX0_pressOn 29 = .ok (.land, 1) := by decide +kernel
theorem dX0_pressOn_30 : decode cX0_pressOn 30 = .ok (.invokestatic 54, 3) := by decide +kernel
theorem dX0_pressOn_33 : decode cX0_pressOn 33 = .ok (.istore 4, 2) := by decide +kernel
theorem dX0_pressOn_35 : decode cX0_pressOn 35 = .ok (.aload_n 0, 1) := by decide +kernel
theorem dX0_pressOn_36 : decode cX0_pressOn 36 = .ok (.getfield 35, 3) := by decide +kernel
theorem dX0_pressOn_39 : decode cX0_pressOn 39 = .ok (.iload_n 1, 1) := by decide +kernel
theorem dX0_pressOn_40 : decode cX0_pressOn 40 = .ok (.lushr, 1) := by decide +kernel
theorem dX0_pressOn_41 : decode cX0_pressOn 41 = .ok (.lconst 1, 1) := by decide +kernel
theorem dX0_pressOn_42 : decode cX0_pressOn 42 = .ok (.land, 1) := by decide +kernel
theorem dX0_pressOn_43 : decode cX0_pressOn 43 = .ok (.l2i, 1) := by decide +kernel
theorem dX0_pressOn_44 : decode cX0_pressOn 44 = .ok (.istore 5, 2) := by decide +kernel
theorem dX0_pressOn_46 : decode cX0_pressOn 46 = .ok (.aload_n 2, 1) := by decide +kernel
theorem dX0_pressOn_47 : decode cX0_pressOn 47 = .ok (.iload_n 3, 1) := by decide +kernel
theorem dX0_pressOn_48 : decode cX0_pressOn 48 = .ok (.iload 4, 2) := by decide +kernel
theorem dX0_pressOn_50 : decode cX0_pressOn 50 = .ok (.aload_n 0, 1) := by decide +kernel
theorem dX0_pressOn_51 : decode cX0_pressOn 51 = .ok (.getfield 15, 3) := by decide +kernel
theorem dX0_pressOn_54 : decode cX0_pressOn 54 = .ok (.iload_n 1, 1) := by decide +kernel
theorem dX0_pressOn_55 : decode cX0_pressOn 55 = .ok (.iaload, 1) := by decide +kernel
theorem dX0_pressOn_56 : decode cX0_pressOn 56 = .ok (.iload 5, 2) := by decide +kernel
theorem dX0_pressOn_58 : decode cX0_pressOn 58 = .ok (.aload_n 0, 1) := by decide +kernel
theorem dX0_pressOn_59 : decode cX0_pressOn 59 = .ok (.getfield 9, 3) := by decide +kernel
theorem dX0_pressOn_62 : decode cX0_pressOn 62 = .ok (.iload_n 1, 1) := by decide +kernel
theorem dX0_pressOn_63 : decode cX0_pressOn 63 = .ok (.iaload, 1) := by decide +kernel
theorem dX0_pressOn_64 : decode cX0_pressOn 64 = .ok (.aload_n 0, 1) := by decide +kernel
theorem dX0_pressOn_65 : decode cX0_pressOn 65 = .ok (.getfield 45, 3) := by decide +kernel
theorem dX0_pressOn_68 : decode cX0_pressOn 68 = .ok (.invokevirtual 81, 3) := by decide +kernel
theorem dX0_pressOn_71 : decode cX0_pressOn 71 = .ok (.ireturn, 1) := by decide +kernel
theorem dX0_passHour_0 : decode cX0_passHour 0 = .ok (.aload_n 0, 1) := by decide +kernel
theorem dX0_passHour_1 : decode cX0_passHour 1 = .ok (.invokevirtual 50, 3) := by decide +kernel
theorem dX0_passHour_4 : decode cX0_passHour 4 = .ok (.lstore_n 2, 1) := by decide +kernel
theorem dX0_passHour_5 : decode cX0_passHour 5 = .ok (.aload_n 0, 1) := by decide +kernel
theorem dX0_passHour_6 : decode cX0_passHour 6 = .ok (.lconst 0, 1) := by decide +kernel
theorem dX0_passHour_7 : decode cX0_passHour 7 = .ok (.putfield 87, 3) := by decide +kernel
theorem dX0_passHour_10 : decode cX0_passHour 10 = .ok (.aload_n 0, 1) := by decide +kernel
theorem dX0_passHour_11 : decode cX0_passHour 11 = .ok (.lconst 0, 1) := by decide +kernel
theorem dX0_passHour_12 : decode cX0_passHour 12 = .ok (.putfield 90, 3) := by decide +kernel
theorem dX0_passHour_15 : decode cX0_passHour 15 = .ok (.aload_n 0, 1) := by decide +kernel
theorem dX0_passHour_16 : decode cX0_passHour 16 = .ok (.iconst 0, 1) := by decide +kernel
theorem dX0_passHour_17 : decode cX0_passHour 17 = .ok (.putfield 93, 3) := by decide +kernel
theorem dX0_passHour_20 : decode cX0_passHour 20 = .ok (.iconst 0, 1) := by decide +kernel
theorem dX0_passHour_21 : decode cX0_passHour 21 = .ok (.istore 4, 2) := by decide +kernel
theorem dX0_passHour_23 : decode cX0_passHour 23 = .ok (.iload 4, 2) := by decide +kernel
theorem dX0_passHour_25 : decode cX0_passHour 25 = .ok (.bipush 36, 2) := by decide +kernel
theorem dX0_passHour_27 : decode cX0_passHour 27 = .ok (.if_icmp .ge 93, 3) := by decide +kernel
theorem dX0_passHour_30 : decode cX0_passHour 30 = .ok (.lconst 1, 1) := by decide +kernel
theorem dX0_passHour_31 : decode cX0_passHour 31 = .ok (.iload 4, 2) := by decide +kernel
theorem dX0_passHour_33 : decode cX0_passHour 33 = .ok (.lshl, 1) := by decide +kernel
theorem dX0_passHour_34 : decode cX0_passHour 34 = .ok (.lstore 5, 2) := by decide +kernel
theorem dX0_passHour_36 : decode cX0_passHour 36 = .ok (.aload_n 0, 1) := by decide +kernel
theorem dX0_passHour_37 : decode cX0_passHour 37 = .ok (.getfield 42, 3) := by decide +kernel
theorem dX0_passHour_40 : decode cX0_passHour 40 = .ok (.lload 5, 2) := by decide +kernel
theorem dX0_passHour_42 : decode cX0_passHour 42 = .ok (.land, 1) := by decide +kernel
theorem dX0_passHour_43 : decode cX0_passHour 43 = .ok (.lconst 0, 1) := by decide +kernel
theorem dX0_passHour_44 : decode cX0_passHour 44 = .ok (.lcmp, 1) := by decide +kernel
theorem dX0_passHour_45 : decode cX0_passHour 45 = .ok (.ifCond .eq 35, 3) := by decide +kernel
theorem dX0_passHour_48 : decode cX0_passHour 48 = .ok (.lload_n 2, 1) := by decide +kernel
theorem dX0_passHour_49 : decode cX0_passHour 49 = .ok (.getstatic 74, 3) := by decide +kernel
theorem dX0_passHour_52 : decode cX0_passHour 52 = .ok (.iload 4, 2) := by decide +kernel
theorem dX0_passHour_54 : decode cX0_passHour 54 = .ok (.laload, 1) := by decide +kernel
theorem dX0_passHour_55 : decode cX0_passHour 55 = .ok (.land, 1) := by decide +kernel
theorem dX0_passHour_56 : decode cX0_passHour 56 = .ok (.invokestatic 54, 3) := by decide +kernel
theorem dX0_passHour_59 : decode cX0_passHour 59 = .ok (.aload_n 0, 1) := by decide +kernel
theorem dX0_passHour_60 : decode cX0_passHour 60 = .ok (.getfield 22, 3) := by decide +kernel
theorem dX0_passHour_63 : decode cX0_passHour 63 = .ok (.if_icmp .lt 51, 3) := by decide +kernel
theorem dX0_passHour_66 : decode cX0_passHour 66 = .ok (.aload_n 0, 1) := by decide +kernel
theorem dX0_passHour_67 : decode cX0_passHour 67 = .ok (.dup, 1) := by decide +kernel
theorem dX0_passHour_68 : decode cX0_passHour 68 = .ok (.getfield 90, 3) := by decide +kernel
theorem dX0_passHour_71 : decode cX0_passHour 71 = .ok (.lload 5, 2) := by decide +kernel
theorem dX0_passHour_73 : decode cX0_passHour 73 = .ok (.lor, 1) := by decide +kernel
theorem dX0_passHour_74 : decode cX0_passHour 74 = .ok (.putfield 90, 3) := by decide +kernel
theorem dX0_passHour_77 : decode cX0_passHour 77 = .ok (.goto 37, 3) := by decide +kernel
theorem dX0_passHour_80 : decode cX0_passHour 80 = .ok (.lload_n 2, 1) := by decide +kernel
theorem dX0_passHour_81 : decode cX0_passHour 81 = .ok (.lload 5, 2) := by decide +kernel
theorem dX0_passHour_83 : decode cX0_passHour 83 = .ok (.land, 1) := by decide +kernel
theorem dX0_passHour_84 : decode cX0_passHour 84 = .ok (.lconst 0, 1) := by decide +kernel
theorem dX0_passHour_85 : decode cX0_passHour 85 = .ok (.lcmp, 1) := by decide +kernel
theorem dX0_passHour_86 : decode cX0_passHour 86 = .ok (.ifCond .ne 28, 3) := by decide +kernel
theorem dX0_passHour_89 : decode cX0_passHour 89 = .ok (.aload_n 0, 1) := by decide +kernel
theorem dX0_passHour_90 : decode cX0_passHour 90 = .ok (.iload 4, 2) := by decide +kernel
theorem dX0_passHour_92 : decode cX0_passHour 92 = .ok (.aload_n 1, 1) := by decide +kernel
theorem dX0_passHour_93 : decode cX0_passHour 93 = .ok (.invokevirtual 96, 3) := by decide +kernel
theorem dX0_passHour_96 : decode cX0_passHour 96 = .ok (.aload_n 0, 1) := by decide +kernel
theorem dX0_passHour_97 : decode cX0_passHour 97 = .ok (.getfield 18, 3) := by decide +kernel
theorem dX0_passHour_100 : decode cX0_passHour 100 = .ok (.if_icmp .lt 14, 3) := by decide +kernel
theorem dX0_passHour_103 : decode cX0_passHour 103 = .ok (.aload_n 0, 1) := by decide +kernel
theorem dX0_passHour_104 : decode cX0_passHour 104 = .ok (.dup, 1) := by decide +kernel
theorem dX0_passHour_105 : decode cX0_passHour 105 = .ok (.getfield 87, 3) := by decide +kernel
theorem dX0_passHour_108 : decode cX0_passHour 108 = .ok (.lload 5, 2) := by decide +kernel
theorem dX0_passHour_110 : decode cX0_passHour 110 = .ok (.lor, 1) := by decide +kernel
theorem dX0_passHour_111 : decode cX0_passHour 111 = .ok (.putfield 87, 3) := by decide +kernel
theorem dX0_passHour_114 : decode cX0_passHour 114 = .ok (.iinc 4 1, 3) := by decide +kernel
theorem dX0_passHour_117 : decode cX0_passHour 117 = .ok (.goto (-94), 3) := by decide +kernel
theorem dX0_passHour_120 : decode cX0_passHour 120 = .ok (.aload_n 0, 1) := by decide +kernel
theorem dX0_passHour_121 : decode cX0_passHour 121 = .ok (.lload_n 2, 1) := by decide +kernel
theorem dX0_passHour_122 : decode cX0_passHour 122 = .ok (.invokevirtual 100, 3) := by decide +kernel
theorem dX0_passHour_125 : decode cX0_passHour 125 = .ok (.aload_n 0, 1) := by decide +kernel
theorem dX0_passHour_126 : decode cX0_passHour 126 = .ok (.aload_n 0, 1) := by decide +kernel
theorem dX0_passHour_127 : decode cX0_passHour 127 = .ok (.getfield 90, 3) := by decide +kernel
theorem dX0_passHour_130 : decode cX0_passHour 130 = .ok (.invokevirtual 104, 3) := by decide +kernel
theorem dX0_passHour_133 : decode cX0_passHour 133 = .ok (.aload_n 0, 1) := by decide +kernel
theorem dX0_passHour_134 : decode cX0_passHour 134 = .ok (.aload_n 0, 1) := by decide +kernel
theorem dX0_passHour_135 : decode cX0_passHour 135 = .ok (.getfield 42, 3) := by decide +kernel
theorem dX0_passHour_138 : decode cX0_passHour 138 = .ok (.aload_n 0, 1) := by decide +kernel
theorem dX0_passHour_139 : decode cX0_passHour 139 = .ok (.getfield 87, 3) := by decide +kernel
theorem dX0_passHour_142 : decode cX0_passHour 142 = .ok (.lor, 1) := by decide +kernel
theorem dX0_passHour_143 : decode cX0_passHour 143 = .ok (.aload_n 0, 1) := by decide +kernel
theorem dX0_passHour_144 : decode cX0_passHour 144 = .ok (.getfield 90, 3) := by decide +kernel
theorem dX0_passHour_147 : decode cX0_passHour 147 = .ok (.ldc2_w 48, 3) := by decide +kernel
theorem dX0_passHour_150 : decode cX0_passHour 150 = .ok (.lxor, 1) := by decide +kernel
theorem dX0_passHour_151 : decode cX0_passHour 151 = .ok (.land, 1) := by decide +kernel
theorem dX0_passHour_152 : decode cX0_passHour 152 = .ok (.putfield 42, 3) := by decide +kernel
theorem dX0_passHour_155 : decode cX0_passHour 155 = .ok (.aload_n 0, 1) := by decide +kernel
theorem dX0_passHour_156 : decode cX0_passHour 156 = .ok (.aload_n 0, 1) := by decide +kernel
theorem dX0_passHour_157 : decode cX0_passHour 157 = .ok (.getfield 45, 3) := by decide +kernel
theorem dX0_passHour_160 : decode cX0_passHour 160 = .ok (.getstatic 107, 3) := by decide +kernel
theorem dX0_passHour_163 : decode cX0_passHour 163 = .ok (.bipush 6, 2) := by decide +kernel
theorem dX0_passHour_165 : decode cX0_passHour 165 = .ok (.iaload, 1) := by decide +kernel
theorem dX0_passHour_166 : decode cX0_passHour 166 = .ok (.if_icmp .ge 12, 3) := by decide +kernel
theorem dX0_passHour_169 : decode cX0_passHour 169 = .ok (.aload_n 0, 1) := by decide +kernel
theorem dX0_passHour_170 : decode cX0_passHour 170 = .ok (.getfield 45, 3) := by decide +kernel
theorem dX0_passHour_173 : decode cX0_passHour 173 = .ok (.iconst 1, 1) := by decide +kernel
theorem dX0_passHour_174 : decode cX0_passHour 174 = .ok (.iadd, 1) := by decide +kernel
theorem dX0_passHour_175 : decode cX0_passHour 175 = .ok (.goto 4, 3) := by decide +kernel
theorem dX0_passHour_178 : decode cX0_passHour 178 = .ok (.iconst 0, 1) := by decide +kernel
theorem dX0_passHour_179 : decode cX0_passHour 179 = .ok (.putfield 45, 3) := by decide +kernel
theorem dX0_passHour_182 : decode cX0_passHour 182 = .ok (.return_, 1) := by decide +kernel
theorem dX0_burn_0 : decode cX0_burn 0 = .ok (.lload_n 1, 1) := by decide +kernel
theorem dX0_burn_1 : decode cX0_burn 1 = .ok (.lconst 0, 1) := by decide +kernel
theorem dX0_burn_2 : decode cX0_burn 2 = .ok (.lcmp, 1) := by decide +kernel
theorem dX0_burn_3 : decode cX0_burn 3 = .ok (.ifCond .ne 4, 3) := by decide +kernel
theorem dX0_burn_6 : decode cX0_burn 6 = .ok (.return_, 1) := by decide +kernel
theorem dX0_burn_7 : decode cX0_burn 7 = .ok (.iconst 0, 1) := by decide +kernel
theorem dX0_burn_8 : decode cX0_burn 8 = .ok (.istore_n 3, 1) := by decide +kernel
theorem dX0_burn_9 : decode cX0_burn 9 = .ok (.iload_n 3, 1) := by decide +kernel
theorem dX0_burn_10 : decode cX0_burn 10 = .ok (.bipush 36, 2) := by decide +kernel
theorem dX0_burn_12 : decode cX0_burn 12 = .ok (.if_icmp .ge 65, 3) := by decide +kernel
theorem dX0_burn_15 : decode cX0_burn 15 = .ok (.lload_n 1, 1) := by decide +kernel
theorem dX0_burn_16 : decode cX0_burn 16 = .ok (.iload_n 3, 1) := by decide +kernel
theorem dX0_burn_17 : decode cX0_burn 17 = .ok (.lushr, 1) := by decide +kernel
theorem dX0_burn_18 : decode cX0_burn 18 = .ok (.lconst 1, 1) := by decide +kernel
theorem dX0_burn_19 : decode cX0_burn 19 = .ok (.land, 1) := by decide +kernel
theorem dX0_burn_20 : decode cX0_burn 20 = .ok (.lconst 0, 1) := by decide +kernel
theorem dX0_burn_21 : decode cX0_burn 21 = .ok (.lcmp, 1) := by decide +kernel
theorem dX0_burn_22 : decode cX0_burn 22 = .ok (.ifCond .eq 49, 3) := by decide +kernel
theorem dX0_burn_25 : decode cX0_burn 25 = .ok (.aload_n 0, 1) := by decide +kernel
theorem dX0_burn_26 : decode cX0_burn 26 = .ok (.getfield 9, 3) := by decide +kernel
theorem dX0_burn_29 : decode cX0_burn 29 = .ok (.iload_n 3, 1) := by decide +kernel
theorem dX0_burn_30 : decode cX0_burn 30 = .ok (.iaload, 1) := by decide +kernel
theorem dX0_burn_31 : decode cX0_burn 31 = .ok (.iconst 1, 1) := by decide +kernel
theorem dX0_burn_32 : decode cX0_burn 32 = .ok (.aload_n 0, 1) := by decide +kernel
theorem dX0_burn_33 : decode cX0_burn 33 = .ok (.getfield 15, 3) := by decide +kernel
theorem dX0_burn_36 : decode cX0_burn 36 = .ok (.iload_n 3, 1) := by decide +kernel
theorem dX0_burn_37 : decode cX0_burn 37 = .ok (.iaload, 1) := by decide +kernel
theorem dX0_burn_38 : decode cX0_burn 38 = .ok (.iconst 5, 1) := by decide +kernel
theorem dX0_burn_39 : decode cX0_burn 39 = .ok (.idiv, 1) := by decide +kernel
theorem dX0_burn_40 : decode cX0_burn 40 = .ok (.iadd, 1) := by decide +kernel
theorem dX0_burn_41 : decode cX0_burn 41 = .ok (.invokestatic 64, 3) := by decide +kernel
theorem dX0_burn_44 : decode cX0_burn 44 = .ok (.istore 4, 2) := by decide +kernel
theorem dX0_burn_46 : decode cX0_burn 46 = .ok (.aload_n 0, 1) := by decide +kernel
theorem dX0_burn_47 : decode cX0_burn 47 = .ok (.iload_n 3, 1) := by decide +kernel
theorem dX0_burn_48 : decode cX0_burn 48 = .ok (.aload_n 0, 1) := by decide +kernel
theorem dX0_burn_49 : decode cX0_burn 49 = .ok (.getfield 9, 3) := by decide +kernel
theorem dX0_burn_52 : decode cX0_burn 52 = .ok (.iload_n 3, 1) := by decide +kernel
theorem dX0_burn_53 : decode cX0_burn 53 = .ok (.iaload, 1) := by decide +kernel
theorem dX0_burn_54 : decode cX0_burn 54 = .ok (.iload 4, 2) := by decide +kernel
theorem dX0_burn_56 : decode cX0_burn 56 = .ok (.isub, 1) := by decide +kernel
theorem dX0_burn_57 : decode cX0_burn 57 = .ok (.invokevirtual 70, 3) := by decide +kernel
theorem dX0_burn_60 : decode cX0_burn 60 = .ok (.aload_n 0, 1) := by decide +kernel
theorem dX0_burn_61 : decode cX0_burn 61 = .ok (.dup, 1) := by decide +kernel
theorem dX0_burn_62 : decode cX0_burn 62 = .ok (.getfield 93, 3) := by decide +kernel
theorem dX0_burn_65 : decode cX0_burn 65 = .ok (.iload 4, 2) := by decide +kernel
theorem dX0_burn_67 : decode cX0_burn 67 = .ok (.iadd, 1) := by decide +kernel
theorem dX0_burn_68 : decode cX0_burn 68 = .ok (.putfield 93, 3) := by decide +kernel
theorem dX0_burn_71 : decode cX0_burn 71 = .ok (.iinc 3 1, 3) := by decide +kernel
theorem dX0_burn_74 : decode cX0_burn 74 = .ok (.goto (-65), 3) := by decide +kernel
theorem dX0_burn_77 : decode cX0_burn 77 = .ok (.return_, 1) := by decide +kernel
theorem dX0_putOut_0 : decode cX0_putOut 0 = .ok (.lload_n 1, 1) := by decide +kernel
theorem dX0_putOut_1 : decode cX0_putOut 1 = .ok (.lconst 0, 1) := by decide +kernel
theorem dX0_putOut_2 : decode cX0_putOut 2 = .ok (.lcmp, 1) := by decide +kernel
theorem dX0_putOut_3 : decode cX0_putOut 3 = .ok (.ifCond .ne 4, 3) := by decide +kernel
theorem dX0_putOut_6 : decode cX0_putOut 6 = .ok (.return_, 1) := by decide +kernel
theorem dX0_putOut_7 : decode cX0_putOut 7 = .ok (.iconst 0, 1) := by decide +kernel
theorem dX0_putOut_8 : decode cX0_putOut 8 = .ok (.istore_n 3, 1) := by decide +kernel
theorem dX0_putOut_9 : decode cX0_putOut 9 = .ok (.iload_n 3, 1) := by decide +kernel
theorem dX0_putOut_10 : decode cX0_putOut 10 = .ok (.bipush 36, 2) := by decide +kernel
theorem dX0_putOut_12 : decode cX0_putOut 12 = .ok (.if_icmp .ge 25, 3) := by decide +kernel
theorem dX0_putOut_15 : decode cX0_putOut 15 = .ok (.lload_n 1, 1) := by decide +kernel
theorem dX0_putOut_16 : decode cX0_putOut 16 = .ok (.iload_n 3, 1) := by decide +kernel
theorem dX0_putOut_17 : decode cX0_putOut 17 = .ok (.lushr, 1) := by decide +kernel
theorem dX0_putOut_18 : decode cX0_putOut 18 = .ok (.lconst 1, 1) := by decide +kernel
theorem dX0_putOut_19 : decode cX0_putOut 19 = .ok (.land, 1) := by decide +kernel
theorem dX0_putOut_20 : decode cX0_putOut 20 = .ok (.lconst 0, 1) := by decide +kernel
theorem dX0_putOut_21 : decode cX0_putOut 21 = .ok (.lcmp, 1) := by decide +kernel
theorem dX0_putOut_22 : decode cX0_putOut 22 = .ok (.ifCond .eq 9, 3) := by decide +kernel
theorem dX0_putOut_25 : decode cX0_putOut 25 = .ok (.aload_n 0, 1) := by decide +kernel
theorem dX0_putOut_26 : decode cX0_putOut 26 = .ok (.iload_n 3, 1) := by decide +kernel
theorem dX0_putOut_27 : decode cX0_putOut 27 = .ok (.iconst 0, 1) := by decide +kernel
theorem dX0_putOut_28 : decode cX0_putOut 28 = .ok (.invokevirtual 70, 3) := by decide +kernel
theorem dX0_putOut_31 : decode cX0_putOut 31 = .ok (.iinc 3 1, 3) := by decide +kernel
theorem dX0_putOut_34 : decode cX0_putOut 34 = .ok (.goto (-25), 3) := by decide +kernel
theorem dX0_putOut_37 : decode cX0_putOut 37 = .ok (.return_, 1) := by decide +kernel
theorem dX1_init_0 : decode cX1_init 0 = .ok (.aload_n 0, 1) := by decide +kernel
theorem dX1_init_1 : decode cX1_init 1 = .ok (.invokespecial 3, 3) := by decide +kernel
theorem dX1_init_4 : decode cX1_init 4 = .ok (.aload_n 0, 1) := by decide +kernel
theorem dX1_init_5 : decode cX1_init 5 = .ok (.bipush 40, 2) := by decide +kernel
theorem dX1_init_7 : decode cX1_init 7 = .ok (.newarray .int, 2) := by decide +kernel
theorem dX1_init_9 : decode cX1_init 9 = .ok (.putfield 11, 3) := by decide +kernel
theorem dX1_init_12 : decode cX1_init 12 = .ok (.aload_n 0, 1) := by decide +kernel
theorem dX1_init_13 : decode cX1_init 13 = .ok (.bipush 40, 2) := by decide +kernel
theorem dX1_init_15 : decode cX1_init 15 = .ok (.newarray .int, 2) := by decide +kernel
theorem dX1_init_17 : decode cX1_init 17 = .ok (.putfield 15, 3) := by decide +kernel
theorem dX1_init_20 : decode cX1_init 20 = .ok (.aload_n 0, 1) := by decide +kernel
theorem dX1_init_21 : decode cX1_init 21 = .ok (.bipush 40, 2) := by decide +kernel
theorem dX1_init_23 : decode cX1_init 23 = .ok (.newarray .int, 2) := by decide +kernel
theorem dX1_init_25 : decode cX1_init 25 = .ok (.putfield 18, 3) := by decide +kernel
theorem dX1_init_28 : decode cX1_init 28 = .ok (.aload_n 0, 1) := by decide +kernel
theorem dX1_init_29 : decode cX1_init 29 = .ok (.bipush 40, 2) := by decide +kernel
theorem dX1_init_31 : decode cX1_init 31 = .ok (.newarray .int, 2) := by decide +kernel
theorem dX1_init_33 : decode cX1_init 33 = .ok (.putfield 21, 3) := by decide +kernel
theorem dX1_init_36 : decode cX1_init 36 = .ok (.aload_n 0, 1) := by decide +kernel
theorem dX1_init_37 : decode cX1_init 37 = .ok (.aload_n 1, 1) := by decide +kernel
theorem dX1_init_38 : decode cX1_init 38 = .ok (.putfield 24, 3) := by decide +kernel
theorem dX1_init_41 : decode cX1_init 41 = .ok (.return_, 1) := by decide +kernel
theorem dX1_add_0 : decode cX1_add 0 = .ok (.aload_n 0, 1) := by decide +kernel
theorem dX1_add_1 : decode cX1_add 1 = .ok (.getfield 28, 3) := by decide +kernel
theorem dX1_add_4 : decode cX1_add 4 = .ok (.bipush 40, 2) := by decide +kernel
theorem dX1_add_6 : decode cX1_add 6 = .ok (.if_icmp .lt 7, 3) := by decide +kernel
theorem dX1_add_9 : decode cX1_add 9 = .ok (.aload_n 0, 1) := by decide +kernel
theorem dX1_add_10 : decode cX1_add 10 = .ok (.invokevirtual 32, 3) := by decide +kernel
theorem dX1_add_13 : decode cX1_add 13 = .ok (.aload_n 0, 1) := by decide +kernel
theorem dX1_add_14 : decode cX1_add 14 = .ok (.getfield 11, 3) := by decide +kernel
theorem dX1_add_17 : decode cX1_add 17 = .ok (.aload_n 0, 1) := by decide +kernel
theorem dX1_add_18 : decode cX1_add 18 = .ok (.getfield 28, 3) := by decide +kernel
theorem dX1_add_21 : decode cX1_add 21 = .ok (.iload_n 1, 1) := by decide +kernel
theorem dX1_add_22 : decode cX1_add 22 = .ok (.iastore, 1) := by decide +kernel
theorem dX1_add_23 : decode cX1_add 23 = .ok (.aload_n 0, 1) := by decide +kernel
theorem dX1_add_24 : decode cX1_add 24 = .ok (.getfield 15, 3) := by decide +kernel
theorem dX1_add_27 : decode cX1_add 27 = .ok (.aload_n 0, 1) := by decide +kernel
theorem dX1_add_28 : decode cX1_add 28 = .ok (.getfield 28, 3) := by decide +kernel
theorem dX1_add_31 : decode cX1_add 31 = .ok (.iload_n 2, 1) := by decide +kernel
theorem dX1_add_32 : decode cX1_add 32 = .ok (.iastore, 1) := by decide +kernel
theorem dX1_add_33 : decode cX1_add 33 = .ok (.aload_n 0, 1) := by decide +kernel
theorem dX1_add_34 : decode cX1_add 34 = .ok (.getfield 18, 3) := by decide +kernel
theorem dX1_add_37 : decode cX1_add 37 = .ok (.aload_n 0, 1) := by decide +kernel
theorem dX1_add_38 : decode cX1_add 38 = .ok (.getfield 28, 3) := by decide +kernel
theorem dX1_add_41 : decode cX1_add 41 = .ok (.iload_n 3, 1) := by decide +kernel
theorem dX1_add_42 : decode cX1_add 42 = .ok (.iastore, 1) := by decide +kernel
theorem dX1_add_43 : decode cX1_add 43 = .ok (.aload_n 0, 1) := by decide +kernel
theorem dX1_add_44 : decode cX1_add 44 = .ok (.getfield 21, 3) := by decide +kernel
theorem dX1_add_47 : decode cX1_add 47 = .ok (.aload_n 0, 1) := by decide +kernel
theorem dX1_add_48 : decode cX1_add 48 = .ok (.getfield 28, 3) := by decide +kernel
theorem dX1_add_51 : decode cX1_add 51 = .ok (.iload 4, 2) := by decide +kernel
theorem dX1_add_53 : decode cX1_add 53 = .ok (.iastore, 1) := by decide +kernel
theorem dX1_add_54 : decode cX1_add 54 = .ok (.aload_n 0, 1) := by decide +kernel
theorem dX1_add_55 : decode cX1_add 55 = .ok (.dup, 1) := by decide +kernel
theorem dX1_add_56 : decode cX1_add 56 = .ok (.getfield 28, 3) := by decide +kernel
theorem dX1_add_59 : decode cX1_add 59 = .ok (.iconst 1, 1) := by decide +kernel
theorem dX1_add_60 : decode cX1_add 60 = .ok (.iadd, 1) := by decide +kernel
theorem dX1_add_61 : decode cX1_add 61 = .ok (.putfield 28, 3) := by decide +kernel
theorem dX1_add_64 : decode cX1_add 64 = .ok (.aload_n 0, 1) := by decide +kernel
theorem dX1_add_65 : decode cX1_add 65 = .ok (.aload_n 0, 1) := by decide +kernel
theorem dX1_add_66 : decode cX1_add 66 = .ok (.getfield 28, 3) := by decide +kernel
theorem dX1_add_69 : decode cX1_add 69 = .ok (.putfield 35, 3) := by decide +kernel
theorem dX1_add_72 : decode cX1_add 72 = .ok (.return_, 1) := by decide +kernel
theorem dX1_forgetOldest_0 : decode cX1_forgetOldest 0 = .ok (.aload_n 0, 1) := by decide +kernel
theorem dX1_forgetOldest_1 : decode cX1_forgetOldest 1 = .ok (.bipush 39, 2) := by decide +kernel
theorem dX1_forgetOldest_3 : decode cX1_forgetOldest 3 = .ok (.putfield 28, 3) := by decide +kernel
theorem dX1_forgetOldest_6 : decode cX1_forgetOldest 6 = .ok (.aload_n 0, 1) := by decide +kernel
theorem dX1_forgetOldest_7 : decode cX1_forgetOldest 7 = .ok (.getfield 11, 3) := by decide +kernel
theorem dX1_forgetOldest_10 : decode cX1_forgetOldest 10 = .ok (.iconst 1, 1) := by decide +kernel
theorem dX1_forgetOldest_11 : decode cX1_forgetOldest 11 = .ok (.aload_n 0, 1) := by decide +kernel
theorem dX1_forgetOldest_12 : decode cX1_forgetOldest 12 = .ok (.getfield 11, 3) := by decide +kernel
theorem dX1_forgetOldest_15 : decode cX1_forgetOldest 15 = .ok (.iconst 0, 1) := by decide +kernel
theorem dX1_forgetOldest_16 : decode cX1_forgetOldest 16 = .ok (.aload_n 0, 1) := by decide +kernel
theorem dX1_forgetOldest_17 : decode cX1_forgetOldest 17 = .ok (.getfield 28, 3) := by decide +kernel
theorem dX1_forgetOldest_20 : decode cX1_forgetOldest 20 = .ok (.invokestatic 38, 3) := by decide +kernel
theorem dX1_forgetOldest_23 : decode cX1_forgetOldest 23 = .ok (.aload_n 0, 1) := by decide +kernel
theorem dX1_forgetOldest_24 : decode cX1_forgetOldest 24 = .ok (.getfield 15, 3) := by decide +kernel
theorem dX1_forgetOldest_27 : decode cX1_forgetOldest 27 = .ok (.iconst 1, 1) := by decide +kernel
theorem dX1_forgetOldest_28 : decode cX1_forgetOldest 28 = .ok (.aload_n 0, 1) := by decide +kernel
theorem dX1_forgetOldest_29 : decode cX1_forgetOldest 29 = .ok (.getfield 15, 3) := by decide +kernel
theorem dX1_forgetOldest_32 : decode cX1_forgetOldest 32 = .ok (.iconst 0, 1) := by decide +kernel
theorem dX1_forgetOldest_33 : decode cX1_forgetOldest 33 = .ok (.aload_n 0, 1) := by decide +kernel
theorem dX1_forgetOldest_34 : decode cX1_forgetOldest 34 = .ok (.getfield 28, 3) := by decide +kernel
theorem dX1_forgetOldest_37 : decode cX1_forgetOldest 37 = .ok (.invokestatic 38, 3) := by decide +kernel
theorem dX1_forgetOldest_40 : decode cX1_forgetOldest 40 = .ok (.aload_n 0, 1) := by decide +kernel
theorem dX1_forgetOldest_41 : decode cX1_forgetOldest 41 = .ok (.getfield 18, 3) := by decide +kernel
theorem dX1_forgetOldest_44 : decode cX1_forgetOldest 44 = .ok (.iconst 1, 1) := by decide +kernel
theorem dX1_forgetOldest_45 : decode cX1_forgetOldest 45 = .ok (.aload_n 0, 1) := by decide +kernel
theorem dX1_forgetOldest_46 : decode cX1_forgetOldest 46 = .ok (.getfield 18, 3) := by decide +kernel
theorem dX1_forgetOldest_49 : decode cX1_forgetOldest 49 = .ok (.iconst 0, 1) := by decide +kernel
theorem dX1_forgetOldest_50 : decode cX1_forgetOldest 50 = .ok (.aload_n 0, 1) := by decide +kernel
theorem dX1_forgetOldest_51 : decode cX1_forgetOldest 51 = .ok (.getfield 28, 3) := by decide +kernel
theorem dX1_forgetOldest_54 : decode cX1_forgetOldest 54 = .ok (.invokestatic 38, 3) := by decide +kernel
theorem dX1_forgetOldest_57 : decode cX1_forgetOldest 57 = .ok (.aload_n 0, 1) := by decide +kernel
theorem dX1_forgetOldest_58 : decode cX1_forgetOldest 58 = .ok (.getfield 21, 3) := by decide +kernel
theorem dX1_forgetOldest_61 : decode cX1_forgetOldest 61 = .ok (.iconst 1, 1) := by decide +kernel
theorem dX1_forgetOldest_62 : decode cX1_forgetOldest 62 = .ok (.aload_n 0, 1) := by decide +kernel
theorem dX1_forgetOldest_63 : decode cX1_forgetOldest 63 = .ok (.getfield 21, 3) := by decide +kernel
theorem dX1_forgetOldest_66 : decode cX1_forgetOldest 66 = .ok (.iconst 0, 1) := by decide +kernel
theorem dX1_forgetOldest_67 : decode cX1_forgetOldest 67 = .ok (.aload_n 0, 1) := by decide +kernel
theorem dX1_forgetOldest_68 : decode cX1_forgetOldest 68 = .ok (.getfield 28, 3) := by decide +kernel
theorem dX1_forgetOldest_71 : decode cX1_forgetOldest 71 = .ok (.invokestatic 38, 3) := by decide +kernel
theorem dX1_forgetOldest_74 : decode cX1_forgetOldest 74 = .ok (.return_, 1) := by decide +kernel
theorem dX1_takeBack_0 : decode cX1_takeBack 0 = .ok (.aload_n 0, 1) := by decide +kernel
theorem dX1_takeBack_1 : decode cX1_takeBack 1 = .ok (.getfield 28, 3) := by decide +kernel
theorem dX1_takeBack_4 : decode cX1_takeBack 4 = .ok (.ifCond .gt 6, 3) := by decide +kernel
theorem dX1_takeBack_7 : decode cX1_takeBack 7 = .ok (.bipush (-5), 2) := by decide +kernel
theorem dX1_takeBack_9 : decode cX1_takeBack 9 = .ok (.ireturn, 1) := by decide +kernel
theorem dX1_takeBack_10 : decode cX1_takeBack 10 = .ok (.aload_n 0, 1) := by decide +kernel
theorem dX1_takeBack_11 : decode cX1_takeBack 11 = .ok (.dup, 1) := by decide +kernel
theorem dX1_takeBack_12 : decode cX1_takeBack 12 = .ok (.getfield 28, 3) := by decide +kernel
theorem dX1_takeBack_15 : decode cX1_takeBack 15 = .ok (.iconst 1, 1) := by decide +kernel
theorem dX1_takeBack_16 : decode cX1_takeBack 16 = .ok (.isub, 1) := by decide +kernel
theorem dX1_takeBack_17 : decode cX1_takeBack 17 = .ok (.putfield 28, 3) := by decide +kernel
theorem dX1_takeBack_20 : decode cX1_takeBack 20 = .ok (.aload_n 0, 1) := by decide +kernel
theorem dX1_takeBack_21 : decode cX1_takeBack 21 = .ok (.getfield 24, 3) := by decide +kernel
theorem dX1_takeBack_24 : decode cX1_takeBack 24 = .ok (.aload_n 0, 1) := by decide +kernel
theorem dX1_takeBack_25 : decode cX1_takeBack 25 = .ok (.getfield 11, 3) := by decide +kernel
theorem dX1_takeBack_28 : decode cX1_takeBack 28 = .ok (.aload_n 0, 1) := by decide +kernel
theorem dX1_takeBack_29 : decode cX1_takeBack 29 = .ok (.getfield 28, 3) := by decide +kernel
theorem dX1_takeBack_32 : decode cX1_takeBack 32 = .ok (.iaload, 1) := by decide +kernel
theorem dX1_takeBack_33 : decode cX1_takeBack 33 = .ok (.aload_n 0, 1) := by decide +kernel
theorem dX1_takeBack_34 : decode cX1_takeBack 34 = .ok (.getfield 15, 3) := by decide +kernel
theorem dX1_takeBack_37 : decode cX1_takeBack 37 = .ok (.aload_n 0, 1) := by decide +kernel
theorem dX1_takeBack_38 : decode cX1_takeBack 38 = .ok (.getfield 28, 3) := by decide +kernel
theorem dX1_takeBack_41 : decode cX1_takeBack 41 = .ok (.iaload, 1) := by decide +kernel
theorem dX1_takeBack_42 : decode cX1_takeBack 42 = .ok (.aload_n 0, 1) := by decide +kernel
theorem dX1_takeBack_43 : decode cX1_takeBack 43 = .ok (.getfield 18, 3) := by decide +kernel
theorem dX1_takeBack_46 : decode cX1_takeBack 46 = .ok (.aload_n 0, 1) := by decide +kernel
theorem dX1_takeBack_47 : decode cX1_takeBack 47 = .ok (.getfield 28, 3) := by decide +kernel
theorem dX1_takeBack_50 : decode cX1_takeBack 50 = .ok (.iaload, 1) := by decide +kernel
theorem dX1_takeBack_51 : decode cX1_takeBack 51 = .ok (.invokevirtual 44, 3) := by decide +kernel
theorem dX1_takeBack_54 : decode cX1_takeBack 54 = .ok (.aload_n 0, 1) := by decide +kernel
theorem dX1_takeBack_55 : decode cX1_takeBack 55 = .ok (.getfield 28, 3) := by decide +kernel
theorem dX1_takeBack_58 : decode cX1_takeBack 58 = .ok (.ireturn, 1) := by decide +kernel
theorem dX1_doAgain_0 : decode cX1_doAgain 0 = .ok (.aload_n 0, 1) := by decide +kernel
theorem dX1_doAgain_1 : decode cX1_doAgain 1 = .ok (.getfield 28, 3) := by decide +kernel
theorem dX1_doAgain_4 : decode cX1_doAgain 4 = .ok (.aload_n 0, 1) := by decide +kernel
theorem dX1_doAgain_5 : decode cX1_doAgain 5 = .ok (.getfield 35, 3) := by decide +kernel
theorem dX1_doAgain_8 : decode cX1_doAgain 8 = .ok (.if_icmp .lt 6, 3) := by decide +kernel
theorem dX1_doAgain_11 : decode cX1_doAgain 11 = .ok (.bipush (-5), 2) := by decide +kernel
theorem dX1_doAgain_13 : decode cX1_doAgain 13 = .ok (.ireturn, 1) := by decide +kernel
theorem dX1_doAgain_14 : decode cX1_doAgain 14 = .ok (.aload_n 0, 1) := by decide +kernel
theorem dX1_doAgain_15 : decode cX1_doAgain 15 = .ok (.getfield 24, 3) := by decide +kernel
theorem dX1_doAgain_18 : decode cX1_doAgain 18 = .ok (.aload_n 0, 1) := by decide +kernel
theorem dX1_doAgain_19 : decode cX1_doAgain 19 = .ok (.getfield 11, 3) := by decide +kernel
theorem dX1_doAgain_22 : decode cX1_doAgain 22 = .ok (.aload_n 0, 1) := by decide +kernel
theorem dX1_doAgain_23 : decode cX1_doAgain 23 = .ok (.getfield 28, 3) := by decide +kernel
theorem dX1_doAgain_26 : decode cX1_doAgain 26 = .ok (.iaload, 1) := by decide +kernel
theorem dX1_doAgain_27 : decode cX1_doAgain 27 = .ok (.aload_n 0, 1) := by decide +kernel
theorem dX1_doAgain_28 : decode cX1_doAgain 28 = .ok (.getfield 15, 3) := by decide +kernel
theorem dX1_doAgain_31 : decode cX1_doAgain 31 = .ok (.aload_n 0, 1) := by decide +kernel
theorem dX1_doAgain_32 : decode cX1_doAgain 32 = .ok (.getfield 28, 3) := by decide +kernel
theorem dX1_doAgain_35 : decode cX1_doAgain 35 = .ok (.iaload, 1) := by decide +kernel
theorem dX1_doAgain_36 : decode cX1_doAgain 36 = .ok (.aload_n 0, 1) := by decide +kernel
theorem dX1_doAgain_37 : decode cX1_doAgain 37 = .ok (.getfield 21, 3) := by decide +kernel
theorem dX1_doAgain_40 : decode cX1_doAgain 40 = .ok (.aload_n 0, 1) := by decide +kernel
theorem dX1_doAgain_41 : decode cX1_doAgain 41 = .ok (.getfield 28, 3) := by decide +kernel
theorem dX1_doAgain_44 : decode cX1_doAgain 44 = .ok (.iaload, 1) := by decide +kernel
theorem dX1_doAgain_45 : decode cX1_doAgain 45 = .ok (.invokevirtual 44, 3) := by decide +kernel
theorem dX1_doAgain_48 : decode cX1_doAgain 48 = .ok (.aload_n 0, 1) := by decide +kernel
theorem dX1_doAgain_49 : decode cX1_doAgain 49 = .ok (.dup, 1) := by decide +kernel
theorem dX1_doAgain_50 : decode cX1_doAgain 50 = .ok (.getfield 28, 3) := by decide +kernel
theorem dX1_doAgain_53 : decode cX1_doAgain 53 = .ok (.iconst 1, 1) := by decide +kernel
theorem dX1_doAgain_54 : decode cX1_doAgain 54 = .ok (.iadd, 1) := by decide +kernel
theorem dX1_doAgain_55 : decode cX1_doAgain 55 = .ok (.putfield 28, 3) := by decide +kernel
theorem dX1_doAgain_58 : decode cX1_doAgain 58 = .ok (.aload_n 0, 1) := by decide +kernel
theorem dX1_doAgain_59 : decode cX1_doAgain 59 = .ok (.getfield 35, 3) := by decide +kernel
theorem dX1_doAgain_62 : decode cX1_doAgain 62 = .ok (.aload_n 0, 1) := by decide +kernel
theorem dX1_doAgain_63 : decode cX1_doAgain 63 = .ok (.getfield 28, 3) := by decide +kernel
theorem dX1_doAgain_66 : decode cX1_doAgain 66 = .ok (.isub, 1) := by decide +kernel
theorem dX1_doAgain_67 : decode cX1_doAgain 67 = .ok (.ireturn, 1) := by decide +kernel
theorem dX2_init_0 : decode cX2_init 0 = .ok (.aload_n 0, 1) := by decide +kernel
theorem dX2_init_1 : decode cX2_init 1 = .ok (.invokespecial 1, 3) := by decide +kernel
theorem dX2_init_4 : decode cX2_init 4 = .ok (.aload_n 0, 1) := by decide +kernel
theorem dX2_init_5 : decode cX2_init 5 = .ok (.new 7, 3) := by decide +kernel
theorem dX2_init_8 : decode cX2_init 8 = .ok (.dup, 1) := by decide +kernel
theorem dX2_init_9 : decode cX2_init 9 = .ok (.invokespecial 9, 3) := by decide +kernel
theorem dX2_init_12 : decode cX2_init 12 = .ok (.putfield 10, 3) := by decide +kernel
theorem dX2_init_15 : decode cX2_init 15 = .ok (.aload_n 0, 1) := by decide +kernel
theorem dX2_init_16 : decode cX2_init 16 = .ok (.sipush 6000, 3) := by decide +kernel
theorem dX2_init_19 : decode cX2_init 19 = .ok (.newarray .int, 2) := by decide +kernel
theorem dX2_init_21 : decode cX2_init 21 = .ok (.putfield 16, 3) := by decide +kernel
theorem dX2_init_24 : decode cX2_init 24 = .ok (.return_, 1) := by decide +kernel
theorem dX2_become_0 : decode cX2_become 0 = .ok (.aload_n 0, 1) := by decide +kernel
theorem dX2_become_1 : decode cX2_become 1 = .ok (.getfield 10, 3) := by decide +kernel
theorem dX2_become_4 : decode cX2_become 4 = .ok (.astore_n 2, 1) := by decide +kernel
theorem dX2_become_5 : decode cX2_become 5 = .ok (.aload_n 0, 1) := by decide +kernel
theorem dX2_become_6 : decode cX2_become 6 = .ok (.aload_n 1, 1) := by decide +kernel
theorem dX2_become_7 : decode cX2_become 7 = .ok (.getfield 20, 3) := by decide +kernel
theorem dX2_become_10 : decode cX2_become 10 = .ok (.putfield 10, 3) := by decide +kernel
theorem dX2_become_13 : decode cX2_become 13 = .ok (.aload_n 1, 1) := by decide +kernel
theorem dX2_become_14 : decode cX2_become 14 = .ok (.aload_n 2, 1) := by decide +kernel
theorem dX2_become_15 : decode cX2_become 15 = .ok (.putfield 20, 3) := by decide +kernel
theorem dX2_become_18 : decode cX2_become 18 = .ok (.aload_n 0, 1) := by decide +kernel
theorem dX2_become_19 : decode cX2_become 19 = .ok (.dup, 1) := by decide +kernel
theorem dX2_become_20 : decode cX2_become 20 = .ok (.getfield 23, 3) := by decide +kernel
theorem dX2_become_23 : decode cX2_become 23 = .ok (.iconst 1, 1) := by decide +kernel
theorem dX2_become_24 : decode cX2_become 24 = .ok (.iadd, 1) := by decide +kernel
theorem dX2_become_25 : decode cX2_become 25 = .ok (.putfield 23, 3) := by decide +kernel
theorem dX2_become_28 : decode cX2_become 28 = .ok (.return_, 1) := by decide +kernel
theorem dX2_pressing_0 : decode cX2_pressing 0 = .ok (.aload_n 0, 1) := by decide +kernel
theorem dX2_pressing_1 : decode cX2_pressing 1 = .ok (.getfield 23, 3) := by decide +kernel
theorem dX2_pressing_4 : decode cX2_pressing 4 = .ok (.ifCond .ne 14, 3) := by decide +kernel
theorem dX2_pressing_7 : decode cX2_pressing 7 = .ok (.iload_n 1, 1) := by decide +kernel
theorem dX2_pressing_8 : decode cX2_pressing 8 = .ok (.iload_n 3, 1) := by decide +kernel
theorem dX2_pressing_9 : decode cX2_pressing 9 = .ok (.iconst 3, 1) := by decide +kernel
theorem dX2_pressing_10 : decode cX2_pressing 10 = .ok (.idiv, 1) := by decide +kernel
theorem dX2_pressing_11 : decode cX2_pressing 11 = .ok (.iadd, 1) := by decide +kernel
theorem dX2_pressing_12 : decode cX2_pressing 12 = .ok (.iload_n 2, 1) := by decide +kernel
theorem dX2_pressing_13 : decode cX2_pressing 13 = .ok (.isub, 1) := by decide +kernel
theorem dX2_pressing_14 : decode cX2_pressing 14 = .ok (.invokestatic 27, 3) := by decide +kernel
theorem dX2_pressing_17 : decode cX2_pressing 17 = .ok (.ireturn, 1) := by decide +kernel
theorem dX2_pressing_18 : decode cX2_pressing 18 = .ok (.iload_n 1, 1) := by decide +kernel
theorem dX2_pressing_19 : decode cX2_pressing 19 = .ok (.iconst 5, 1) := by decide +kernel
theorem dX2_pressing_20 : decode cX2_pressing 20 = .ok (.imul, 1) := by decide +kernel
theorem dX2_pressing_21 : decode cX2_pressing 21 = .ok (.iload_n 2, 1) := by decide +kernel
theorem dX2_pressing_22 : decode cX2_pressing 22 = .ok (.iadd, 1) := by decide +kernel
theorem dX2_pressing_23 : decode cX2_pressing 23 = .ok (.bipush 10, 2) := by decide +kernel
theorem dX2_pressing_25 : decode cX2_pressing 25 = .ok (.imul, 1) := by decide +kernel
theorem dX2_pressing_26 : decode cX2_pressing 26 = .ok (.iload_n 3, 1) := by decide +kernel
theorem dX2_pressing_27 : decode cX2_pressing 27 = .ok (.iadd, 1) := by decide +kernel
theorem dX2_pressing_28 : decode cX2_pressing 28 = .ok (.iconst 2, 1) := by decide +kernel
theorem dX2_pressing_29 : decode cX2_pressing 29 = .ok (.imul, 1) := by decide +kernel
theorem dX2_pressing_30 : decode cX2_pressing 30 = .ok (.iload 4, 2) := by decide +kernel
theorem dX2_pressing_32 : decode cX2_pressing 32 = .ok (.iadd, 1) := by decide +kernel
theorem dX2_pressing_33 : decode cX2_pressing 33 = .ok (.bipush 12, 2) := by decide +kernel
theorem dX2_pressing_35 : decode cX2_pressing 35 = .ok (.imul, 1) := by decide +kernel
theorem dX2_pressing_36 : decode cX2_pressing 36 = .ok (.iload 6, 2) := by decide +kernel
theorem dX2_pressing_38 : decode cX2_pressing 38 = .ok (.iadd, 1) := by decide +kernel
theorem dX2_pressing_39 : decode cX2_pressing 39 = .ok (.istore 7, 2) := by decide +kernel
theorem dX2_pressing_41 : decode cX2_pressing 41 = .ok (.iload 5, 2) := by decide +kernel
theorem dX2_pressing_43 : decode cX2_pressing 43 = .ok (.ifCond .gt 16, 3) := by decide +kernel
theorem dX2_pressing_46 : decode cX2_pressing 46 = .ok (.iload 7, 2) := by decide +kernel
theorem dX2_pressing_48 : decode cX2_pressing 48 = .ok (.ifCond .lt 11, 3) := by decide +kernel
theorem dX2_pressing_51 : decode cX2_pressing 51 = .ok (.iload 7, 2) := by decide +kernel
theorem dX2_pressing_53 : decode cX2_pressing 53 = .ok (.sipush 6000, 3) := by decide +kernel
theorem dX2_pressing_56 : decode cX2_pressing 56 = .ok (.if_icmp .lt 23, 3) := by decide +kernel
theorem dX2_pressing_59 : decode cX2_pressing 59 = .ok (.aload_n 0, 1) := by decide +kernel
theorem dX2_pressing_60 : decode cX2_pressing 60 = .ok (.getfield 10, 3) := by decide +kernel
theorem dX2_pressing_63 : decode cX2_pressing 63 = .ok (.iload_n 1, 1) := by decide +kernel
theorem dX2_pressing_64 : decode cX2_pressing 64 = .ok (.iload_n 2, 1) := by decide +kernel
theorem dX2_pressing_65 : decode cX2_pressing 65 = .ok (.iload_n 3, 1) := by decide +kernel
theorem dX2_pressing_66 : decode cX2_pressing 66 = .ok (.iload 4, 2) := by decide +kernel
theorem dX2_pressing_68 : decode cX2_pressing 68 = .ok (.iload 5, 2) := by decide +kernel
theorem dX2_pressing_70 : decode cX2_pressing 70 = .ok (.iload 6, 2) := by decide +kernel
theorem dX2_pressing_72 : decode cX2_pressing 72 = .ok (.invokevirtual 31, 3) := by decide +kernel
theorem dX2_pressing_75 : decode cX2_pressing 75 = .ok (.invokestatic 27, 3) := by decide +kernel
theorem dX2_pressing_78 : decode cX2_pressing 78 = .ok (.ireturn, 1) := by decide +kernel
theorem dX2_pressing_79 : decode cX2_pressing 79 = .ok (.aload_n 0, 1) := by decide +kernel
theorem dX2_pressing_80 : decode cX2_pressing 80 = .ok (.getfield 16, 3) := by decide +kernel
theorem dX2_pressing_83 : decode cX2_pressing 83 = .ok (.iload 7, 2) := by decide +kernel
theorem dX2_pressing_85 : decode cX2_pressing 85 = .ok (.iaload, 1) := by decide +kernel
theorem dX2_pressing_86 : decode cX2_pressing 86 = .ok (.iconst 4, 1) := by decide +kernel
theorem dX2_pressing_87 : decode cX2_pressing 87 = .ok (.ishr, 1) := by decide +kernel
theorem dX2_pressing_88 : decode cX2_pressing 88 = .ok (.aload_n 0, 1) := by decide +kernel
theorem dX2_pressing_89 : decode cX2_pressing 89 = .ok (.getfield 23, 3) := by decide +kernel
theorem dX2_pressing_92 : decode cX2_pressing 92 = .ok (.if_icmp .eq 36, 3) := by decide +kernel
theorem dX2_pressing_95 : decode cX2_pressing 95 = .ok (.aload_n 0, 1) := by decide +kernel
theorem dX2_pressing_96 : decode cX2_pressing 96 = .ok (.getfield 16, 3) := by decide +kernel
theorem dX2_pressing_99 : decode cX2_pressing 99 = .ok (.iload 7, 2) := by decide +kernel
theorem dX2_pressing_101 : decode cX2_pressing 101 = .ok (.aload_n 0, 1) := by decide +kernel
theorem dX2_pressing_102 : decode cX2_pressing 102 = .ok (.getfield 23, 3) := by decide +kernel
theorem dX2_pressing_105 : decode cX2_pressing 105 = .ok (.iconst 4, 1) := by decide +kernel
theorem dX2_pressing_106 : decode cX2_pressing 106 = .ok (.ishl, 1) := by decide +kernel
theorem dX2_pressing_107 : decode cX2_pressing 107 = .ok (.aload_n 0, 1) := by decide +kernel
theorem dX2_pressing_108 : decode cX2_pressing 108 = .ok (.getfield 10, 3) := by decide +kernel
theorem dX2_pressing_111 : decode cX2_pressing 111 = .ok (.iload_n 1, 1) := by decide +kernel
theorem dX2_pressing_112 : decode cX2_pressing 112 = .ok (.iload_n 2, 1) := by decide +kernel
theorem dX2_pressing_113 : decode cX2_pressing 113 = .ok (.iload_n 3, 1) := by decide +kernel
theorem dX2_pressing_114 : decode cX2_pressing 114 = .ok (.iload 4, 2) := by decide +kernel
theorem dX2_pressing_116 : decode cX2_pressing 116 = .ok (.iload 5, 2) := by decide +kernel
theorem dX2_pressing_118 : decode cX2_pressing 118 = .ok (.iload 6, 2) := by decide +kernel
theorem dX2_pressing_120 : decode cX2_pressing 120 = .ok (.invokevirtual 31, 3) := by decide +kernel
theorem dX2_pressing_123 : decode cX2_pressing 123 = .ok (.invokestatic 27, 3) := by decide +kernel
theorem dX2_pressing_126 : decode cX2_pressing 126 = .ok (.ior, 1) := by decide +kernel
theorem dX2_pressing_127 : decode cX2_pressing 127 = .ok (.iastore, 1) := by decide +kernel
theorem dX2_pressing_128 : decode cX2_pressing 128 = .ok (.aload_n 0, 1) := by decide +kernel
theorem dX2_pressing_129 : decode cX2_pressing 129 = .ok (.getfield 16, 3) := by decide +kernel
theorem dX2_pressing_132 : decode cX2_pressing 132 = .ok (.iload 7, 2) := by decide +kernel
theorem dX2_pressing_134 : decode cX2_pressing 134 = .ok (.iaload, 1) := by decide +kernel
theorem dX2_pressing_135 : decode cX2_pressing 135 = .ok (.bipush 15, 2) := by decide +kernel
theorem dX2_pressing_137 : decode cX2_pressing 137 = .ok (.iand, 1) := by decide +kernel
theorem dX2_pressing_138 : decode cX2_pressing 138 = .ok (.ireturn, 1) := by decide +kernel
theorem dX2_held_0 : decode cX2_held 0 = .ok (.iconst 0, 1) := by decide +kernel
theorem dX2_held_1 : decode cX2_held 1 = .ok (.bipush 9, 2) := by decide +kernel
theorem dX2_held_3 : decode cX2_held 3 = .ok (.iload_n 0, 1) := by decide +kernel
theorem dX2_held_4 : decode cX2_held 4 = .ok (.invokestatic 35, 3) := by decide +kernel
theorem dX2_held_7 : decode cX2_held 7 = .ok (.invokestatic 41, 3) := by decide +kernel
theorem dX2_held_10 : decode cX2_held 10 = .ok (.ireturn, 1) := by decide +kernel
theorem dX3_init_0 : decode cX3_init 0 = .ok (.aload_n 0, 1) := by decide +kernel
theorem dX3_init_1 : decode cX3_init 1 = .ok (.invokespecial 3, 3) := by decide +kernel
theorem dX3_init_4 : decode cX3_init 4 = .ok (.aload_n 0, 1) := by decide +kernel
theorem dX3_init_5 : decode cX3_init 5 = .ok (.bipush 120, 2) := by decide +kernel
theorem dX3_init_7 : decode cX3_init 7 = .ok (.newarray .int, 2) := by decide +kernel
theorem dX3_init_9 : decode cX3_init 9 = .ok (.putfield 9, 3) := by decide +kernel
theorem dX3_init_12 : decode cX3_init 12 = .ok (.aload_n 0, 1) := by decide +kernel
theorem dX3_init_13 : decode cX3_init 13 = .ok (.new 15, 3) := by decide +kernel
theorem dX3_init_16 : decode cX3_init 16 = .ok (.dup, 1) := by decide +kernel
theorem dX3_init_17 : decode cX3_init 17 = .ok (.invokespecial 17, 3) := by decide +kernel
theorem dX3_init_20 : decode cX3_init 20 = .ok (.putfield 18, 3) := by decide +kernel
theorem dX3_init_23 : decode cX3_init 23 = .ok (.return_, 1) := by decide +kernel
theorem dX3_add_0 : decode cX3_add 0 = .ok (.aload_n 0, 1) := by decide +kernel
theorem dX3_add_1 : decode cX3_add 1 = .ok (.getfield 22, 3) := by decide +kernel
theorem dX3_add_4 : decode cX3_add 4 = .ok (.bipush 120, 2) := by decide +kernel
theorem dX3_add_6 : decode cX3_add 6 = .ok (.if_icmp .lt 6, 3) := by decide +kernel
theorem dX3_add_9 : decode cX3_add 9 = .ok (.bipush (-3), 2) := by decide +kernel
theorem dX3_add_11 : decode cX3_add 11 = .ok (.ireturn, 1) := by decide +kernel
theorem dX3_add_12 : decode cX3_add 12 = .ok (.aload_n 0, 1) := by decide +kernel
theorem dX3_add_13 : decode cX3_add 13 = .ok (.getfield 9, 3) := by decide +kernel
theorem dX3_add_16 : decode cX3_add 16 = .ok (.aload_n 0, 1) := by decide +kernel
theorem dX3_add_17 : decode cX3_add 17 = .ok (.getfield 22, 3) := by decide +kernel
theorem dX3_add_20 : decode cX3_add 20 = .ok (.iload_n 1, 1) := by decide +kernel
theorem dX3_add_21 : decode cX3_add 21 = .ok (.iastore, 1) := by decide +kernel
theorem dX3_add_22 : decode cX3_add 22 = .ok (.aload_n 0, 1) := by decide +kernel
theorem dX3_add_23 : decode cX3_add 23 = .ok (.dup, 1) := by decide +kernel
theorem dX3_add_24 : decode cX3_add 24 = .ok (.getfield 22, 3) := by decide +kernel
theorem dX3_add_27 : decode cX3_add 27 = .ok (.iconst 1, 1) := by decide +kernel
theorem dX3_add_28 : decode cX3_add 28 = .ok (.iadd, 1) := by decide +kernel
theorem dX3_add_29 : decode cX3_add 29 = .ok (.putfield 22, 3) := by decide +kernel
theorem dX3_add_32 : decode cX3_add 32 = .ok (.aload_n 0, 1) := by decide +kernel
theorem dX3_add_33 : decode cX3_add 33 = .ok (.getfield 22, 3) := by decide +kernel
theorem dX3_add_36 : decode cX3_add 36 = .ok (.ireturn, 1) := by decide +kernel
theorem dX3_empty_0 : decode cX3_empty 0 = .ok (.aload_n 0, 1) := by decide +kernel
theorem dX3_empty_1 : decode cX3_empty 1 = .ok (.iconst 0, 1) := by decide +kernel
theorem dX3_empty_2 : decode cX3_empty 2 = .ok (.putfield 22, 3) := by decide +kernel
theorem dX3_empty_5 : decode cX3_empty 5 = .ok (.return_, 1) := by decide +kernel
theorem dX3_read_0 : decode cX3_read 0 = .ok (.aload_n 0, 1) := by decide +kernel
theorem dX3_read_1 : decode cX3_read 1 = .ok (.iconst 0, 1) := by decide +kernel
theorem dX3_read_2 : decode cX3_read 2 = .ok (.putfield 26, 3) := by decide +kernel
theorem dX3_read_5 : decode cX3_read 5 = .ok (.aload_n 0, 1) := by decide +kernel
theorem dX3_read_6 : decode cX3_read 6 = .ok (.iconst (-1), 1) := by decide +kernel
theorem dX3_read_7 : decode cX3_read 7 = .ok (.putfield 29, 3) := by decide +kernel
theorem dX3_read_10 : decode cX3_read 10 = .ok (.aload_n 0, 1) := by decide +kernel
theorem dX3_read_11 : decode cX3_read 11 = .ok (.getfield 18, 3) := by decide +kernel
theorem dX3_read_14 : decode cX3_read 14 = .ok (.invokevirtual 32, 3) := by decide +kernel
theorem dX3_read_17 : decode cX3_read 17 = .ok (.aload_n 0, 1) := by decide +kernel
theorem dX3_read_18 : decode cX3_read 18 = .ok (.invokevirtual 35, 3) := by decide +kernel
theorem dX3_read_21 : decode cX3_read 21 = .ok (.iconst 0, 1) := by decide +kernel
theorem dX3_read_22 : decode cX3_read 22 = .ok (.istore_n 1, 1) := by decide +kernel
theorem dX3_read_23 : decode cX3_read 23 = .ok (.iload_n 1, 1) := by decide +kernel
theorem dX3_read_24 : decode cX3_read 24 = .ok (.bipush 120, 2) := by decide +kernel
theorem dX3_read_26 : decode cX3_read 26 = .ok (.if_icmp .ge 61, 3) := by decide +kernel
theorem dX3_read_29 : decode cX3_read 29 = .ok (.aload_n 0, 1) := by decide +kernel
theorem dX3_read_30 : decode cX3_read 30 = .ok (.getfield 29, 3) := by decide +kernel
theorem dX3_read_33 : decode cX3_read 33 = .ok (.ifCond .ge 54, 3) := by decide +kernel
theorem dX3_read_36 : decode cX3_read 36 = .ok (.aload_n 0, 1) := by decide +kernel
theorem dX3_read_37 : decode cX3_read 37 = .ok (.getfield 26, 3) := by decide +kernel
theorem dX3_read_40 : decode cX3_read 40 = .ok (.aload_n 0, 1) := by decide +kernel
theorem dX3_read_41 : decode cX3_read 41 = .ok (.getfield 22, 3) := by decide +kernel
theorem dX3_read_44 : decode cX3_read 44 = .ok (.if_icmp .ge 43, 3) := by decide +kernel
theorem dX3_read_47 : decode cX3_read 47 = .ok (.aload_n 0, 1) := by decide +kernel
theorem dX3_read_48 : decode cX3_read 48 = .ok (.invokevirtual 38, 3) := by decide +kernel
theorem dX3_read_51 : decode cX3_read 51 = .ok (.bipush 59, 2) := by decide +kernel
theorem dX3_read_53 : decode cX3_read 53 = .ok (.if_icmp .ne 20, 3) := by decide +kernel
theorem dX3_read_56 : decode cX3_read 56 = .ok (.aload_n 0, 1) := by decide +kernel
theorem dX3_read_57 : decode cX3_read 57 = .ok (.dup, 1) := by decide +kernel
theorem dX3_read_58 : decode cX3_read 58 = .ok (.getfield 26, 3) := by decide +kernel
theorem dX3_read_61 : decode cX3_read 61 = .ok (.iconst 1, 1) := by decide +kernel
theorem dX3_read_62 : decode cX3_read 62 = .ok (.iadd, 1) := by decide +kernel
theorem dX3_read_63 : decode cX3_read 63 = .ok (.putfield 26, 3) := by decide +kernel
theorem dX3_read_66 : decode cX3_read 66 = .ok (.aload_n 0, 1) := by decide +kernel
theorem dX3_read_67 : decode cX3_read 67 = .ok (.invokevirtual 35, 3) := by decide +kernel
theorem dX3_read_70 : decode cX3_read 70 = .ok (.goto 11, 3) := by decide +kernel
theorem dX3_read_73 : decode cX3_read 73 = .ok (.aload_n 0, 1) := by decide +kernel
theorem dX3_read_74 : decode cX3_read 74 = .ok (.aload_n 0, 1) := by decide +kernel
theorem dX3_read_75 : decode cX3_read 75 = .ok (.getfield 26, 3) := by decide +kernel
theorem dX3_read_78 : decode cX3_read 78 = .ok (.putfield 29, 3) := by decide +kernel
theorem dX3_read_81 : decode cX3_read 81 = .ok (.iinc 1 1, 3) := by decide +kernel
theorem dX3_read_84 : decode cX3_read 84 = .ok (.goto (-61), 3) := by decide +kernel
theorem dX3_read_87 : decode cX3_read 87 = .ok (.aload_n 0, 1) := by decide +kernel
theorem dX3_read_88 : decode cX3_read 88 = .ok (.getfield 29, 3) := by decide +kernel
theorem dX3_read_91 : decode cX3_read 91 = .ok (.ireturn, 1) := by decide +kernel
theorem dX3_next_0 : decode cX3_next 0 = .ok (.aload_n 0, 1) := by decide +kernel
theorem dX3_next_1 : decode cX3_next 1 = .ok (.getfield 26, 3) := by decide +kernel
theorem dX3_next_4 : decode cX3_next 4 = .ok (.ifCond .lt 26, 3) := by decide +kernel
theorem dX3_next_7 : decode cX3_next 7 = .ok (.aload_n 0, 1) := by decide +kernel
theorem dX3_next_8 : decode cX3_next 8 = .ok (.getfield 26, 3) := by decide +kernel
theorem dX3_next_11 : decode cX3_next 11 = .ok (.aload_n 0, 1) := by decide +kernel
theorem dX3_next_12 : decode cX3_next 12 = .ok (.getfield 22, 3) := by decide +kernel
theorem dX3_next_15 : decode cX3_next 15 = .ok (.if_icmp .ge 15, 3) := by decide +kernel
theorem dX3_next_18 : decode cX3_next 18 = .ok (.aload_n 0, 1) := by decide +kernel
theorem dX3_next_19 : decode cX3_next 19 = .ok (.getfield 9, 3) := by decide +kernel
theorem dX3_next_22 : decode cX3_next 22 = .ok (.aload_n 0, 1) := by decide +kernel
theorem dX3_next_23 : decode cX3_next 23 = .ok (.getfield 26, 3) := by decide +kernel
theorem dX3_next_26 : decode cX3_next 26 = .ok (.iaload, 1) := by decide +kernel
theorem dX3_next_27 : decode cX3_next 27 = .ok (.goto 4, 3) := by decide +kernel
theorem dX3_next_30 : decode cX3_next 30 = .ok (.iconst (-1), 1) := by decide +kernel
theorem dX3_next_31 : decode cX3_next 31 = .ok (.ireturn, 1) := by decide +kernel
theorem dX3_readLine_0 : decode cX3_readLine 0 = .ok (.aload_n 0, 1) := by decide +kernel
theorem dX3_readLine_1 : decode cX3_readLine 1 = .ok (.iconst 0, 1) := by decide +kernel
theorem dX3_readLine_2 : decode cX3_readLine 2 = .ok (.iconst 0, 1) := by decide +kernel
theorem dX3_readLine_3 : decode cX3_readLine 3 = .ok (.invokevirtual 42, 3) := by decide +kernel
theorem dX3_readLine_6 : decode cX3_readLine 6 = .ok (.istore_n 1, 1) := by decide +kernel
theorem dX3_readLine_7 : decode cX3_readLine 7 = .ok (.aload_n 0, 1) := by decide +kernel
theorem dX3_readLine_8 : decode cX3_readLine 8 = .ok (.getfield 29, 3) := by decide +kernel
theorem dX3_readLine_11 : decode cX3_readLine 11 = .ok (.ifCond .ge 39, 3) := by decide +kernel
theorem dX3_readLine_14 : decode cX3_readLine 14 = .ok (.aload_n 0, 1) := by decide +kernel
theorem dX3_readLine_15 : decode cX3_readLine 15 = .ok (.invokevirtual 38, 3) := by decide +kernel
theorem dX3_readLine_18 : decode cX3_readLine 18 = .ok (.bipush 63, 2) := by decide +kernel
theorem dX3_readLine_20 : decode cX3_readLine 20 = .ok (.if_icmp .ne 30, 3) := by decide +kernel
theorem dX3_readLine_23 : decode cX3_readLine 23 = .ok (.aload_n 0, 1) := by decide +kernel
theorem dX3_readLine_24 : decode cX3_readLine 24 = .ok (.dup, 1) := by decide +kernel
theorem dX3_readLine_25 : decode cX3_readLine 25 = .ok (.getfield 26, 3) := by decide +kernel
theorem dX3_readLine_28 : decode cX3_readLine 28 = .ok (.iconst 1, 1) := by decide +kernel
theorem dX3_readLine_29 : decode cX3_readLine 29 = .ok (.iadd, 1) := by decide +kernel
theorem dX3_readLine_30 : decode cX3_readLine 30 = .ok (.putfield 26, 3) := by decide +kernel
theorem dX3_readLine_33 : decode cX3_readLine 33 = .ok (.aload_n 0, 1) := by decide +kernel
theorem dX3_readLine_34 : decode cX3_readLine 34 = .ok (.getfield 18, 3) := by decide +kernel
theorem dX3_readLine_37 : decode cX3_readLine 37 = .ok (.iload_n 1, 1) := by decide +kernel
theorem dX3_readLine_38 : decode cX3_readLine 38 = .ok (.aload_n 0, 1) := by decide +kernel
theorem dX3_readLine_39 : decode cX3_readLine 39 = .ok (.iconst 0, 1) := by decide +kernel
theorem dX3_readLine_40 : decode cX3_readLine 40 = .ok (.iconst 0, 1) := by decide +kernel
theorem dX3_readLine_41 : decode cX3_readLine 41 = .ok (.invokevirtual 42, 3) := by decide +kernel
theorem dX3_readLine_44 : decode cX3_readLine 44 = .ok (.invokevirtual 46, 3) := by decide +kernel
theorem dX3_readLine_47 : decode cX3_readLine 47 = .ok (.goto 12, 3) := by decide +kernel
theorem dX3_readLine_50 : decode cX3_readLine 50 = .ok (.aload_n 0, 1) := by decide +kernel
theorem dX3_readLine_51 : decode cX3_readLine 51 = .ok (.getfield 18, 3) := by decide +kernel
theorem dX3_readLine_54 : decode cX3_readLine 54 = .ok (.iconst (-1), 1) := by decide +kernel
theorem dX3_readLine_55 : decode cX3_readLine 55 = .ok (.iload_n 1, 1) := by decide +kernel
theorem dX3_readLine_56 : decode cX3_readLine 56 = .ok (.invokevirtual 46, 3) := by decide +kernel
theorem dX3_readLine_59 : decode cX3_readLine 59 = .ok (.return_, 1) := by decide +kernel
theorem dX3_readLevel_0 : decode cX3_readLevel 0 = .ok (.iload_n 1, 1) := by decide +kernel
theorem dX3_readLevel_1 : decode cX3_readLevel 1 = .ok (.iconst 5, 1) := by decide +kernel
theorem dX3_readLevel_2 : decode cX3_readLevel 2 = .ok (.if_icmp .lt 9, 3) := by decide +kernel
theorem dX3_readLevel_5 : decode cX3_readLevel 5 = .ok (.aload_n 0, 1) := by decide +kernel
theorem dX3_readLevel_6 : decode cX3_readLevel 6 = .ok (.iload_n 2, 1) := by decide +kernel
theorem dX3_readLevel_7 : decode cX3_readLevel 7 = .ok (.invokevirtual 50, 3) := by decide +kernel
theorem dX3_readLevel_10 : decode cX3_readLevel 10 = .ok (.ireturn, 1) := by decide +kernel
theorem dX3_readLevel_11 : decode cX3_readLevel 11 = .ok (.aload_n 0, 1) := by decide +kernel
theorem dX3_readLevel_12 : decode cX3_readLevel 12 = .ok (.iload_n 1, 1) := by decide +kernel
theorem dX3_readLevel_13 : decode cX3_readLevel 13 = .ok (.iconst 1, 1) := by decide +kernel
theorem dX3_readLevel_14 : decode cX3_readLevel 14 = .ok (.iadd, 1) := by decide +kernel
theorem dX3_readLevel_15 : decode cX3_readLevel 15 = .ok (.iload_n 2, 1) := by decide +kernel
theorem dX3_readLevel_16 : decode cX3_readLevel 16 = .ok (.invokevirtual 42, 3) := by decide +kernel
theorem dX3_readLevel_19 : decode cX3_readLevel 19 = .ok (.istore_n 3, 1) := by decide +kernel
theorem dX3_readLevel_20 : decode cX3_readLevel 20 = .ok (.iconst 0, 1) := by decide +kernel
theorem dX3_readLevel_21 : decode cX3_readLevel 21 = .ok (.istore 4, 2) := by decide +kernel
theorem dX3_readLevel_23 : decode cX3_readLevel 23 = .ok (.iload 4, 2) := by decide +kernel
theorem dX3_readLevel_25 : decode cX3_readLevel 25 = .ok (.bipush 120, 2) := by decide +kernel
theorem dX3_readLevel_27 : decode cX3_readLevel 27 = .ok (.if_icmp .ge 70, 3) := by decide +kernel
theorem dX3_readLevel_30 : decode cX3_readLevel 30 = .ok (.aload_n 0, 1) := by decide +kernel
theorem dX3_readLevel_31 : decode cX3_readLevel 31 = .ok (.getfield 29, 3) := by decide +kernel
theorem dX3_readLevel_34 : decode cX3_readLevel 34 = .ok (.ifCond .ge 63, 3) := by decide +kernel
theorem dX3_readLevel_37 : decode cX3_readLevel 37 = .ok (.aload_n 0, 1) := by decide +kernel
theorem dX3_readLevel_38 : decode cX3_readLevel 38 = .ok (.invokevirtual 38, 3) := by decide +kernel
theorem dX3_readLevel_41 : decode cX3_readLevel 41 = .ok (.invokestatic 54, 3) := by decide +kernel
theorem dX3_readLevel_44 : decode cX3_readLevel 44 = .ok (.iload_n 1, 1) := by decide +kernel
theorem dX3_readLevel_45 : decode cX3_readLevel 45 = .ok (.if_icmp .ne 52, 3) := by decide +kernel
theorem dX3_readLevel_48 : decode cX3_readLevel 48 = .ok (.aload_n 0, 1) := by decide +kernel
theorem dX3_readLevel_49 : decode cX3_readLevel 49 = .ok (.invokevirtual 38, 3) := by decide +kernel
theorem dX3_readLevel_52 : decode cX3_readLevel 52 = .ok (.istore 5, 2) := by decide +kernel
theorem dX3_readLevel_54 : decode cX3_readLevel 54 = .ok (.aload_n 0, 1) := by decide +kernel
theorem dX3_readLevel_55 : decode cX3_readLevel 55 = .ok (.dup, 1) := by decide +kernel
theorem dX3_readLevel_56 : decode cX3_readLevel 56 = .ok (.getfield 26, 3) := by decide +kernel
theorem dX3_readLevel_59 : decode cX3_readLevel 59 = .ok (.iconst 1, 1) := by decide +kernel
theorem dX3_readLevel_60 : decode cX3_readLevel 60 = .ok (.iadd, 1) := by decide +kernel
theorem dX3_readLevel_61 : decode cX3_readLevel 61 = .ok (.putfield 26, 3) := by decide +kernel
theorem dX3_readLevel_64 : decode cX3_readLevel 64 = .ok (.aload_n 0, 1) := by decide +kernel
theorem dX3_readLevel_65 : decode cX3_readLevel 65 = .ok (.getfield 18, 3) := by decide +kernel
theorem dX3_readLevel_68 : decode cX3_readLevel 68 = .ok (.iload 5, 2) := by decide +kernel
theorem dX3_readLevel_70 : decode cX3_readLevel 70 = .ok (.iload_n 3, 1) := by decide +kernel
theorem dX3_readLevel_71 : decode cX3_readLevel 71 = .ok (.aload_n 0, 1) := by decide +kernel
theorem dX3_readLevel_72 : decode cX3_readLevel 72 = .ok (.iload_n 1, 1) := by decide +kernel
theorem dX3_readLevel_73 : decode cX3_readLevel 73 = .ok (.iconst 1, 1) := by decide +kernel
theorem dX3_readLevel_74 : decode cX3_readLevel 74 = .ok (.iadd, 1) := by decide +kernel
theorem dX3_readLevel_75 : decode cX3_readLevel 75 = .ok (.iload_n 2, 1) := by decide +kernel
theorem dX3_readLevel_76 : decode cX3_readLevel 76 = .ok (.invokevirtual 42, 3) := by decide +kernel
theorem dX3_readLevel_79 : decode cX3_readLevel 79 = .ok (.invokevirtual 57, 3) := by decide +kernel
theorem dX3_readLevel_82 : decode cX3_readLevel 82 = .ok (.istore_n 3, 1) := by decide +kernel
theorem dX3_readLevel_83 : decode cX3_readLevel 83 = .ok (.iload_n 1, 1) := by decide +kernel
theorem dX3_readLevel_84 : decode cX3_readLevel 84 = .ok (.iconst 2, 1) := by decide +kernel
theorem dX3_readLevel_85 : decode cX3_readLevel 85 = .ok (.if_icmp .ne 6, 3) := by decide +kernel
theorem dX3_readLevel_88 : decode cX3_readLevel 88 = .ok (.goto 9, 3) := by decide +kernel
theorem dX3_readLevel_91 : decode cX3_readLevel 91 = .ok (.iinc 4 1, 3) := by decide +kernel
theorem dX3_readLevel_94 : decode cX3_readLevel 94 = .ok (.goto (-71), 3) := by decide +kernel
theorem dX3_readLevel_97 : decode cX3_readLevel 97 = .ok (.iload_n 3, 1) := by decide +kernel
theorem dX3_readLevel_98 : decode cX3_readLevel 98 = .ok (.ireturn, 1) := by decide +kernel
theorem dX3_levelOf_0 : decode cX3_levelOf 0 = .ok (.iload_n 0, 1) := by decide +kernel
theorem dX3_levelOf_1 : decode cX3_levelOf 1 = .ok (.lookupswitch 101 #[(37, 99), (38, 93), (42, 99), (43, 97), (45, 97), (47, 99), (60, 95), (61, 95), (62, 95), (124, 91)], 91) := by decide +kernel
theorem dX3_levelOf_92 : decode cX3_levelOf 92 = .ok (.iconst 0, 1) := by decide +kernel
theorem dX3_levelOf_93 : decode cX3_levelOf 93 = .ok (.ireturn, 1) := by decide +kernel
theorem dX3_levelOf_94 : decode cX3_levelOf 94 = .ok (.iconst 1, 1) := by decide +kernel
theorem dX3_levelOf_95 : decode cX3_levelOf 95 = .ok (.ireturn, 1) := by decide +kernel
theorem dX3_levelOf_96 : decode cX3_levelOf 96 = .ok (.iconst 2, 1) := by decide +kernel
theorem dX3_levelOf_97 : decode cX3_levelOf 97 = .ok (.ireturn, 1) := by decide +kernel
theorem dX3_levelOf_98 : decode cX3_levelOf 98 = .ok (.iconst 3, 1) := by decide +kernel
theorem dX3_levelOf_99 : decode cX3_levelOf 99 = .ok (.ireturn, 1) := by decide +kernel
theorem dX3_levelOf_100 : decode cX3_levelOf 100 = .ok (.iconst 4, 1) := by decide +kernel
theorem dX3_levelOf_101 : decode cX3_levelOf 101 = .ok (.ireturn, 1) := by decide +kernel
theorem dX3_levelOf_102 : decode cX3_levelOf 102 = .ok (.iconst (-1), 1) := by decide +kernel
theorem dX3_levelOf_103 : decode cX3_levelOf 103 = .ok (.ireturn, 1) := by decide +kernel
theorem dX3_readOperand_0 : decode cX3_readOperand 0 = .ok (.aload_n 0, 1) := by decide +kernel
theorem dX3_readOperand_1 : decode cX3_readOperand 1 = .ok (.invokevirtual 38, 3) := by decide +kernel
theorem dX3_readOperand_4 : decode cX3_readOperand 4 = .ok (.istore_n 2, 1) := by decide +kernel
theorem dX3_readOperand_5 : decode cX3_readOperand 5 = .ok (.iload_n 2, 1) := by decide +kernel
theorem dX3_readOperand_6 : decode cX3_readOperand 6 = .ok (.invokestatic 61, 3) := by decide +kernel
theorem dX3_readOperand_9 : decode cX3_readOperand 9 = .ok (.ifCond .eq 8, 3) := by decide +kernel
theorem dX3_readOperand_12 : decode cX3_readOperand 12 = .ok (.aload_n 0, 1) := by decide +kernel
theorem dX3_readOperand_13 : decode cX3_readOperand 13 = .ok (.invokevirtual 65, 3) := by decide +kernel
theorem dX3_readOperand_16 : decode cX3_readOperand 16 = .ok (.ireturn, 1) := by decide +kernel
theorem dX3_readOperand_17 : decode cX3_readOperand 17 = .ok (.iload_n 2, 1) := by decide +kernel
theorem dX3_readOperand_18 : decode cX3_readOperand 18 = .ok (.invokestatic 68, 3) := by decide +kernel
theorem dX3_readOperand_21 : decode cX3_readOperand 21 = .ok (.istore_n 3, 1) := by decide +kernel
theorem dX3_readOperand_22 : decode cX3_readOperand 22 = .ok (.iload_n 3, 1) := by decide +kernel
theorem dX3_readOperand_23 : decode cX3_readOperand 23 = .ok (.ifCond .lt 15, 3) := by decide +kernel
theorem dX3_readOperand_26 : decode cX3_readOperand 26 = .ok (.aload_n 0, 1) := by decide +kernel
theorem dX3_readOperand_27 : decode cX3_readOperand 27 = .ok (.dup, 1) := by decide +kernel
theorem dX3_readOperand_28 : decode cX3_readOperand 28 = .ok (.getfield 26, 3) := by decide +kernel
theorem dX3_readOperand_31 : decode cX3_readOperand 31 = .ok (.iconst 1, 1) := by decide +kernel
theorem dX3_readOperand_32 : decode cX3_readOperand 32 = .ok (.iadd, 1) := by decide +kernel
theorem dX3_readOperand_33 : decode cX3_readOperand 33 = .ok (.putfield 26, 3) := by decide +kernel
theorem dX3_readOperand_36 : decode cX3_readOperand 36 = .ok (.iload_n 3, 1) := by decide +kernel
theorem dX3_readOperand_37 : decode cX3_readOperand 37 = .ok (.ireturn, 1) := by decide +kernel
theorem dX3_readOperand_38 : decode cX3_readOperand 38 = .ok (.iload_n 2, 1) := by decide +kernel
theorem dX3_readOperand_39 : decode cX3_readOperand 39 = .ok (.bipush 40, 2) := by decide +kernel
theorem dX3_readOperand_41 : decode cX3_readOperand 41 = .ok (.if_icmp .eq 15, 3) := by decide +kernel
theorem dX3_readOperand_44 : decode cX3_readOperand 44 = .ok (.iload_n 2, 1) := by decide +kernel
theorem dX3_readOperand_45 : decode cX3_readOperand 45 = .ok (.bipush 33, 2) := by decide +kernel
theorem dX3_readOperand_47 : decode cX3_readOperand 47 = .ok (.if_icmp .eq 9, 3) := by decide +kernel
theorem dX3_readOperand_50 : decode cX3_readOperand 50 = .ok (.iload_n 2, 1) := by decide +kernel
theorem dX3_readOperand_51 : decode cX3_readOperand 51 = .ok (.bipush 45, 2) := by decide +kernel
theorem dX3_readOperand_53 : decode cX3_readOperand 53 = .ok (.if_icmp .ne 9, 3) := by decide +kernel
theorem dX3_readOperand_56 : decode cX3_readOperand 56 = .ok (.iload_n 1, 1) := by decide +kernel
theorem dX3_readOperand_57 : decode cX3_readOperand 57 = .ok (.bipush 6, 2) := by decide +kernel
theorem dX3_readOperand_59 : decode cX3_readOperand 59 = .ok (.if_icmp .lt 13, 3) := by decide +kernel
theorem dX3_readOperand_62 : decode cX3_readOperand 62 = .ok (.aload_n 0, 1) := by decide +kernel
theorem dX3_readOperand_63 : decode cX3_readOperand 63 = .ok (.aload_n 0, 1) := by decide +kernel
theorem dX3_readOperand_64 : decode cX3_readOperand 64 = .ok (.getfield 26, 3) := by decide +kernel
theorem dX3_readOperand_67 : decode cX3_readOperand 67 = .ok (.putfield 29, 3) := by decide +kernel
theorem dX3_readOperand_70 : decode cX3_readOperand 70 = .ok (.iconst 0, 1) := by decide +kernel
theorem dX3_readOperand_71 : decode cX3_readOperand 71 = .ok (.ireturn, 1) := by decide +kernel
theorem dX3_readOperand_72 : decode cX3_readOperand 72 = .ok (.aload_n 0, 1) := by decide +kernel
theorem dX3_readOperand_73 : decode cX3_readOperand 73 = .ok (.dup, 1) := by decide +kernel
theorem dX3_readOperand_74 : decode cX3_readOperand 74 = .ok (.getfield 26, 3) := by decide +kernel
theorem dX3_readOperand_77 : decode cX3_readOperand 77 = .ok (.iconst 1, 1) := by decide +kernel
theorem dX3_readOperand_78 : decode cX3_readOperand 78 = .ok (.iadd, 1) := by decide +kernel
theorem dX3_readOperand_79 : decode cX3_readOperand 79 = .ok (.putfield 26, 3) := by decide +kernel
theorem dX3_readOperand_82 : decode cX3_readOperand 82 = .ok (.iload_n 2, 1) := by decide +kernel
theorem dX3_readOperand_83 : decode cX3_readOperand 83 = .ok (.bipush 40, 2) := by decide +kernel
theorem dX3_readOperand_85 : decode cX3_readOperand 85 = .ok (.if_icmp .ne 11, 3) := by decide +kernel
theorem dX3_readOperand_88 : decode cX3_readOperand 88 = .ok (.aload_n 0, 1) := by decide +kernel
theorem dX3_readOperand_89 : decode cX3_readOperand 89 = .ok (.iload_n 1, 1) := by decide +kernel
theorem dX3_readOperand_90 : decode cX3_readOperand 90 = .ok (.iconst 1, 1) := by decide +kernel
theorem dX3_readOperand_91 : decode cX3_readOperand 91 = .ok (.iadd, 1) := by decide +kernel
theorem dX3_readOperand_92 : decode cX3_readOperand 92 = .ok (.invokevirtual 71, 3) := by decide +kernel
theorem dX3_readOperand_95 : decode cX3_readOperand 95 = .ok (.ireturn, 1) := by decide +kernel
theorem dX3_readOperand_96 : decode cX3_readOperand 96 = .ok (.aload_n 0, 1) := by decide +kernel
theorem dX3_readOperand_97 : decode cX3_readOperand 97 = .ok (.iload_n 1, 1) := by decide +kernel
theorem dX3_readOperand_98 : decode cX3_readOperand 98 = .ok (.iconst 1, 1) := by decide +kernel
theorem dX3_readOperand_99 : decode cX3_readOperand 99 = .ok (.iadd, 1) := by decide +kernel
theorem dX3_readOperand_100 : decode cX3_readOperand 100 = .ok (.invokevirtual 50, 3) := by decide +kernel
theorem dX3_readOperand_103 : decode cX3_readOperand 103 = .ok (.istore 4, 2) := by decide +kernel
theorem dX3_readOperand_105 : decode cX3_readOperand 105 = .ok (.aload_n 0, 1) := by decide +kernel
theorem dX3_readOperand_106 : decode cX3_readOperand 106 = .ok (.getfield 18, 3) := by decide +kernel
theorem dX3_readOperand_109 : decode cX3_readOperand 109 = .ok (.iload_n 2, 1) := by decide +kernel
theorem dX3_readOperand_110 : decode cX3_readOperand 110 = .ok (.bipush 45, 2) := by decide +kernel
theorem dX3_readOperand_112 : decode cX3_readOperand 112 = .ok (.if_icmp .ne 8, 3) := by decide +kernel
theorem dX3_readOperand_115 : decode cX3_readOperand 115 = .ok (.bipush 126, 2) := by decide +kernel
theorem dX3_readOperand_117 : decode cX3_readOperand 117 = .ok (.goto 4, 3) := by decide +kernel
theorem dX3_readOperand_120 : decode cX3_readOperand 120 = .ok (.iload_n 2, 1) := by decide +kernel
theorem dX3_readOperand_121 : decode cX3_readOperand 121 = .ok (.iload 4, 2) := by decide +kernel
theorem dX3_readOperand_123 : decode cX3_readOperand 123 = .ok (.iload 4, 2) := by decide +kernel
theorem dX3_readOperand_125 : decode cX3_readOperand 125 = .ok (.invokevirtual 57, 3) := by decide +kernel
theorem dX3_readOperand_128 : decode cX3_readOperand 128 = .ok (.ireturn, 1) := by decide +kernel
theorem dX3_readInner_0 : decode cX3_readInner 0 = .ok (.aload_n 0, 1) := by decide +kernel
theorem dX3_readInner_1 : decode cX3_readInner 1 = .ok (.iconst 0, 1) := by decide +kernel
theorem dX3_readInner_2 : decode cX3_readInner 2 = .ok (.iload_n 1, 1) := by decide +kernel
theorem dX3_readInner_3 : decode cX3_readInner 3 = .ok (.invokevirtual 42, 3) := by decide +kernel
theorem dX3_readInner_6 : decode cX3_readInner 6 = .ok (.istore_n 2, 1) := by decide +kernel
theorem dX3_readInner_7 : decode cX3_readInner 7 = .ok (.aload_n 0, 1) := by decide +kernel
theorem dX3_readInner_8 : decode cX3_readInner 8 = .ok (.getfield 29, 3) := by decide +kernel
theorem dX3_readInner_11 : decode cX3_readInner 11 = .ok (.ifCond .lt 5, 3) := by decide +kernel
theorem dX3_readInner_14 : decode cX3_readInner 14 = .ok (.iload_n 2, 1) := by decide +kernel
theorem dX3_readInner_15 : decode cX3_readInner 15 = .ok (.ireturn, 1) := by decide +kernel
theorem dX3_readInner_16 : decode cX3_readInner 16 = .ok (.aload_n 0, 1) := by decide +kernel
theorem dX3_readInner_17 : decode cX3_readInner 17 = .ok (.invokevirtual 38, 3) := by decide +kernel
theorem dX3_readInner_20 : decode cX3_readInner 20 = .ok (.bipush 41, 2) := by decide +kernel
theorem dX3_readInner_22 : decode cX3_readInner 22 = .ok (.if_icmp .ne 16, 3) := by decide +kernel
theorem dX3_readInner_25 : decode cX3_readInner 25 = .ok (.aload_n 0, 1) := by decide +kernel
theorem dX3_readInner_26 : decode cX3_readInner 26 = .ok (.dup, 1) := by decide +kernel
theorem dX3_readInner_27 : decode cX3_readInner 27 = .ok (.getfield 26, 3) := by decide +kernel
theorem dX3_readInner_30 : decode cX3_readInner 30 = .ok (.iconst 1, 1) := by decide +kernel
theorem dX3_readInner_31 : decode cX3_readInner 31 = .ok (.iadd, 1) := by decide +kernel
theorem dX3_readInner_32 : decode cX3_readInner 32 = .ok (.putfield 26, 3) := by decide +kernel
theorem dX3_readInner_35 : decode cX3_readInner 35 = .ok (.goto 11, 3) := by decide +kernel
theorem dX3_readInner_38 : decode cX3_readInner 38 = .ok (.aload_n 0, 1) := by decide +kernel
theorem dX3_readInner_39 : decode cX3_readInner 39 = .ok (.aload_n 0, 1) := by decide +kernel
theorem dX3_readInner_40 : decode cX3_readInner 40 = .ok (.getfield 26, 3) := by decide +kernel
theorem dX3_readInner_43 : decode cX3_readInner 43 = .ok (.putfield 29, 3) := by decide +kernel
theorem dX3_readInner_46 : decode cX3_readInner 46 = .ok (.iload_n 2, 1) := by decide +kernel
theorem dX3_readInner_47 : decode cX3_readInner 47 = .ok (.ireturn, 1) := by decide +kernel
theorem dX3_isDigit_0 : decode cX3_isDigit 0 = .ok (.iload_n 0, 1) := by decide +kernel
theorem dX3_isDigit_1 : decode cX3_isDigit 1 = .ok (.bipush 48, 2) := by decide +kernel
theorem dX3_isDigit_3 : decode cX3_isDigit 3 = .ok (.if_icmp .lt 13, 3) := by decide +kernel
theorem dX3_isDigit_6 : decode cX3_isDigit 6 = .ok (.iload_n 0, 1) := by decide +kernel
theorem dX3_isDigit_7 : decode cX3_isDigit 7 = .ok (.bipush 57, 2) := by decide +kernel
theorem dX3_isDigit_9 : decode cX3_isDigit 9 = .ok (.if_icmp .gt 7, 3) := by decide +kernel
theorem dX3_isDigit_12 : decode cX3_isDigit 12 = .ok (.iconst 1, 1) := by decide +kernel
theorem dX3_isDigit_13 : decode cX3_isDigit 13 = .ok (.goto 4, 3) := by decide +kernel
theorem dX3_isDigit_16 : decode cX3_isDigit 16 = .ok (.iconst 0, 1) := by decide +kernel
theorem dX3_isDigit_17 : decode cX3_isDigit 17 = .ok (.ireturn, 1) := by decide +kernel
theorem dX3_readNumber_0 : decode cX3_readNumber 0 = .ok (.iconst 0, 1) := by decide +kernel
theorem dX3_readNumber_1 : decode cX3_readNumber 1 = .ok (.istore_n 1, 1) := by decide +kernel
theorem dX3_readNumber_2 : decode cX3_readNumber 2 = .ok (.iconst 0, 1) := by decide +kernel
theorem dX3_readNumber_3 : decode cX3_readNumber 3 = .ok (.istore_n 2, 1) := by decide +kernel
theorem dX3_readNumber_4 : decode cX3_readNumber 4 = .ok (.iload_n 2, 1) := by decide +kernel
theorem dX3_readNumber_5 : decode cX3_readNumber 5 = .ok (.iconst 4, 1) := by decide +kernel
theorem dX3_readNumber_6 : decode cX3_readNumber 6 = .ok (.if_icmp .ge 42, 3) := by decide +kernel
theorem dX3_readNumber_9 : decode cX3_readNumber 9 = .ok (.aload_n 0, 1) := by decide +kernel
theorem dX3_readNumber_10 : decode cX3_readNumber 10 = .ok (.invokevirtual 38, 3) := by decide +kernel
theorem dX3_readNumber_13 : decode cX3_readNumber 13 = .ok (.invokestatic 61, 3) := by decide +kernel
theorem dX3_readNumber_16 : decode cX3_readNumber 16 = .ok (.ifCond .eq 32, 3) := by decide +kernel
theorem dX3_readNumber_19 : decode cX3_readNumber 19 = .ok (.iload_n 1, 1) := by decide +kernel
theorem dX3_readNumber_20 : decode cX3_readNumber 20 = .ok (.bipush 10, 2) := by decide +kernel
theorem dX3_readNumber_22 : decode cX3_readNumber 22 = .ok (.imul, 1) := by decide +kernel
theorem dX3_readNumber_23 : decode cX3_readNumber 23 = .ok (.aload_n 0, 1) := by decide +kernel
theorem dX3_readNumber_24 : decode cX3_readNumber 24 = .ok (.invokevirtual 38, 3) := by decide +kernel
theorem dX3_readNumber_27 : decode cX3_readNumber 27 = .ok (.iadd, 1) := by decide +kernel
theorem dX3_readNumber_28 : decode cX3_readNumber 28 = .ok (.bipush 48, 2) := by decide +kernel
theorem dX3_readNumber_30 : decode cX3_readNumber 30 = .ok (.isub, 1) := by decide +kernel
theorem dX3_readNumber_31 : decode cX3_readNumber 31 = .ok (.istore_n 1, 1) := by decide +kernel
theorem dX3_readNumber_32 : decode cX3_readNumber 32 = .ok (.aload_n 0, 1) := by decide +kernel
theorem dX3_readNumber_33 : decode cX3_readNumber 33 = .ok (.dup, 1) := by decide +kernel
theorem dX3_readNumber_34 : decode cX3_readNumber 34 = .ok (.getfield 26, 3) := by decide +kernel
theorem dX3_readNumber_37 : decode cX3_readNumber 37 = .ok (.iconst 1, 1) := by decide +kernel
theorem dX3_readNumber_38 : decode cX3_readNumber 38 = .ok (.iadd, 1) := by decide +kernel
theorem dX3_readNumber_39 : decode cX3_readNumber 39 = .ok (.putfield 26, 3) := by decide +kernel
theorem dX3_readNumber_42 : decode cX3_readNumber 42 = .ok (.iinc 2 1, 3) := by decide +kernel
theorem dX3_readNumber_45 : decode cX3_readNumber 45 = .ok (.goto (-41), 3) := by decide +kernel
theorem dX3_readNumber_48 : decode cX3_readNumber 48 = .ok (.aload_n 0, 1) := by decide +kernel
theorem dX3_readNumber_49 : decode cX3_readNumber 49 = .ok (.getfield 18, 3) := by decide +kernel
theorem dX3_readNumber_52 : decode cX3_readNumber 52 = .ok (.iload_n 1, 1) := by decide +kernel
theorem dX3_readNumber_53 : decode cX3_readNumber 53 = .ok (.invokevirtual 74, 3) := by decide +kernel
theorem dX3_readNumber_56 : decode cX3_readNumber 56 = .ok (.ireturn, 1) := by decide +kernel
theorem dX3_nameOf_0 : decode cX3_nameOf 0 = .ok (.iload_n 0, 1) := by decide +kernel
theorem dX3_nameOf_1 : decode cX3_nameOf 1 = .ok (.lookupswitch 71 #[(99, 65), (100, 59), (103, 63), (104, 69), (108, 61), (119, 67)], 59) := by decide +kernel
theorem dX3_nameOf_60 : decode cX3_nameOf 60 = .ok (.iconst 0, 1) := by decide +kernel
theorem dX3_nameOf_61 : decode cX3_nameOf 61 = .ok (.ireturn, 1) := by decide +kernel
theorem dX3_nameOf_62 : decode cX3_nameOf 62 = .ok (.iconst 1, 1) := by decide +kernel
theorem dX3_nameOf_63 : decode cX3_nameOf 63 = .ok (.ireturn, 1) := by decide +kernel
theorem dX3_nameOf_64 : decode cX3_nameOf 64 = .ok (.iconst 2, 1) := by decide +kernel
theorem dX3_nameOf_65 : decode cX3_nameOf 65 = .ok (.ireturn, 1) := by decide +kernel
theorem dX3_nameOf_66 : decode cX3_nameOf 66 = .ok (.iconst 3, 1) := by decide +kernel
theorem dX3_nameOf_67 : decode cX3_nameOf 67 = .ok (.ireturn, 1) := by decide +kernel
theorem dX3_nameOf_68 : decode cX3_nameOf 68 = .ok (.iconst 4, 1) := by decide +kernel
theorem dX3_nameOf_69 : decode cX3_nameOf 69 = .ok (.ireturn, 1) := by decide +kernel
theorem dX3_nameOf_70 : decode cX3_nameOf 70 = .ok (.iconst 5, 1) := by decide +kernel
theorem dX3_nameOf_71 : decode cX3_nameOf 71 = .ok (.ireturn, 1) := by decide +kernel
theorem dX3_nameOf_72 : decode cX3_nameOf 72 = .ok (.iconst (-1), 1) := by decide +kernel
theorem dX3_nameOf_73 : decode cX3_nameOf 73 = .ok (.ireturn, 1) := by decide +kernel
theorem dX4_init_0 : decode cX4_init 0 = .ok (.aload_n 0, 1) := by decide +kernel
theorem dX4_init_1 : decode cX4_init 1 = .ok (.invokespecial 5, 3) := by decide +kernel
theorem dX4_init_4 : decode cX4_init 4 = .ok (.aload_n 0, 1) := by decide +kernel
theorem dX4_init_5 : decode cX4_init 5 = .ok (.bipush 126, 2) := by decide +kernel
theorem dX4_init_7 : decode cX4_init 7 = .ok (.newarray .int, 2) := by decide +kernel
theorem dX4_init_9 : decode cX4_init 9 = .ok (.putfield 11, 3) := by decide +kernel
theorem dX4_init_12 : decode cX4_init 12 = .ok (.aload_n 0, 1) := by decide +kernel
theorem dX4_init_13 : decode cX4_init 13 = .ok (.bipush 126, 2) := by decide +kernel
theorem dX4_init_15 : decode cX4_init 15 = .ok (.newarray .int, 2) := by decide +kernel
theorem dX4_init_17 : decode cX4_init 17 = .ok (.putfield 15, 3) := by decide +kernel
theorem dX4_init_20 : decode cX4_init 20 = .ok (.aload_n 0, 1) := by decide +kernel
theorem dX4_init_21 : decode cX4_init 21 = .ok (.bipush 126, 2) := by decide +kernel
theorem dX4_init_23 : decode cX4_init 23 = .ok (.newarray .int, 2) := by decide +kernel
theorem dX4_init_25 : decode cX4_init 25 = .ok (.putfield 18, 3) := by decide +kernel
theorem dX4_init_28 : decode cX4_init 28 = .ok (.aload_n 0, 1) := by decide +kernel
theorem dX4_init_29 : decode cX4_init 29 = .ok (.bipush 126, 2) := by decide +kernel
theorem dX4_init_31 : decode cX4_init 31 = .ok (.newarray .int, 2) := by decide +kernel
theorem dX4_init_33 : decode cX4_init 33 = .ok (.putfield 21, 3) := by decide +kernel
theorem dX4_init_36 : decode cX4_init 36 = .ok (.aload_n 0, 1) := by decide +kernel
theorem dX4_init_37 : decode cX4_init 37 = .ok (.bipush 61, 2) := by decide +kernel
theorem dX4_init_39 : decode cX4_init 39 = .ok (.newarray .int, 2) := by decide +kernel
theorem dX4_init_41 : decode cX4_init 41 = .ok (.putfield 24, 3) := by decide +kernel
theorem dX4_init_44 : decode cX4_init 44 = .ok (.aload_n 0, 1) := by decide +kernel
theorem dX4_init_45 : decode cX4_init 45 = .ok (.bipush 61, 2) := by decide +kernel
theorem dX4_init_47 : decode cX4_init 47 = .ok (.newarray .int, 2) := by decide +kernel
theorem dX4_init_49 : decode cX4_init 49 = .ok (.putfield 27, 3) := by decide +kernel
theorem dX4_init_52 : decode cX4_init 52 = .ok (.return_, 1) := by decide +kernel
theorem dX4_clear_0 : decode cX4_clear 0 = .ok (.aload_n 0, 1) := by decide +kernel
theorem dX4_clear_1 : decode cX4_clear 1 = .ok (.bipush 6, 2) := by decide +kernel
theorem dX4_clear_3 : decode cX4_clear 3 = .ok (.putfield 30, 3) := by decide +kernel
theorem dX4_clear_6 : decode cX4_clear 6 = .ok (.aload_n 0, 1) := by decide +kernel
theorem dX4_clear_7 : decode cX4_clear 7 = .ok (.iconst 0, 1) := by decide +kernel
theorem dX4_clear_8 : decode cX4_clear 8 = .ok (.putfield 34, 3) := by decide +kernel
theorem dX4_clear_11 : decode cX4_clear 11 = .ok (.return_, 1) := by decide +kernel
theorem dX4_addNumber_0 : decode cX4_addNumber 0 = .ok (.aload_n 0, 1) := by decide +kernel
theorem dX4_addNumber_1 : decode cX4_addNumber 1 = .ok (.bipush 48, 2) := by decide +kernel
theorem dX4_addNumber_3 : decode cX4_addNumber 3 = .ok (.iconst 0, 1) := by decide +kernel
theorem dX4_addNumber_4 : decode cX4_addNumber 4 = .ok (.iconst 0, 1) := by decide +kernel
theorem dX4_addNumber_5 : decode cX4_addNumber 5 = .ok (.invokevirtual 37, 3) := by decide +kernel
theorem dX4_addNumber_8 : decode cX4_addNumber 8 = .ok (.istore_n 2, 1) := by decide +kernel
theorem dX4_addNumber_9 : decode cX4_addNumber 9 = .ok (.aload_n 0, 1) := by decide +kernel
theorem dX4_addNumber_10 : decode cX4_addNumber 10 = .ok (.getfield 21, 3) := by decide +kernel
theorem dX4_addNumber_13 : decode cX4_addNumber 13 = .ok (.iload_n 2, 1) := by decide +kernel
theorem dX4_addNumber_14 : decode cX4_addNumber 14 = .ok (.iload_n 1, 1) := by decide +kernel
theorem dX4_addNumber_15 : decode cX4_addNumber 15 = .ok (.iastore, 1) := by decide +kernel
theorem dX4_addNumber_16 : decode cX4_addNumber 16 = .ok (.iload_n 2, 1) := by decide +kernel
theorem dX4_addNumber_17 : decode cX4_addNumber 17 = .ok (.ireturn, 1) := by decide +kernel
theorem dX4_addPart_0 : decode cX4_addPart 0 = .ok (.aload_n 0, 1) := by decide +kernel
theorem dX4_addPart_1 : decode cX4_addPart 1 = .ok (.getfield 30, 3) := by decide +kernel
theorem dX4_addPart_4 : decode cX4_addPart 4 = .ok (.bipush 126, 2) := by decide +kernel
theorem dX4_addPart_6 : decode cX4_addPart 6 = .ok (.if_icmp .lt 6, 3) := by decide +kernel
theorem dX4_addPart_9 : decode cX4_addPart 9 = .ok (.bipush 125, 2) := by decide +kernel
theorem dX4_addPart_11 : decode cX4_addPart 11 = .ok (.ireturn, 1) := by decide +kernel
theorem dX4_addPart_12 : decode cX4_addPart 12 = .ok (.aload_n 0, 1) := by decide +kernel
theorem dX4_addPart_13 : decode cX4_addPart 13 = .ok (.getfield 11, 3) := by decide +kernel
theorem dX4_addPart_16 : decode cX4_addPart 16 = .ok (.aload_n 0, 1) := by decide +kernel
theorem dX4_addPart_17 : decode cX4_addPart 17 = .ok (.getfield 30, 3) := by decide +kernel
theorem dX4_addPart_20 : decode cX4_addPart 20 = .ok (.iload_n 1, 1) := by decide +kernel
theorem dX4_addPart_21 : decode cX4_addPart 21 = .ok (.iastore, 1) := by decide +kernel
theorem dX4_addPart_22 : decode cX4_addPart 22 = .ok (.aload_n 0, 1) := by decide +kernel
theorem dX4_addPart_23 : decode cX4_addPart 23 = .ok (.getfield 15, 3) := by decide +kernel
theorem dX4_addPart_26 : decode cX4_addPart 26 = .ok (.aload_n 0, 1) := by decide +kernel
theorem dX4_addPart_27 : decode cX4_addPart 27 = .ok (.getfield 30, 3) := by decide +kernel
theorem dX4_addPart_30 : decode cX4_addPart 30 = .ok (.iload_n 2, 1) := by decide +kernel
theorem dX4_addPart_31 : decode cX4_addPart 31 = .ok (.iastore, 1) := by decide +kernel
theorem dX4_addPart_32 : decode cX4_addPart 32 = .ok (.aload_n 0, 1) := by decide +kernel
theorem dX4_addPart_33 : decode cX4_addPart 33 = .ok (.getfield 18, 3) := by decide +kernel
theorem dX4_addPart_36 : decode cX4_addPart 36 = .ok (.aload_n 0, 1) := by decide +kernel
theorem dX4_addPart_37 : decode cX4_addPart 37 = .ok (.getfield 30, 3) := by decide +kernel
theorem dX4_addPart_40 : decode cX4_addPart 40 = .ok (.iload_n 3, 1) := by decide +kernel
theorem dX4_addPart_41 : decode cX4_addPart 41 = .ok (.iastore, 1) := by decide +kernel
theorem dX4_addPart_42 : decode cX4_addPart 42 = .ok (.aload_n 0, 1) := by decide +kernel
theorem dX4_addPart_43 : decode cX4_addPart 43 = .ok (.dup, 1) := by decide +kernel
theorem dX4_addPart_44 : decode cX4_addPart 44 = .ok (.getfield 30, 3) := by decide +kernel
theorem dX4_addPart_47 : decode cX4_addPart 47 = .ok (.iconst 1, 1) := by decide +kernel
theorem dX4_addPart_48 : decode cX4_addPart 48 = .ok (.iadd, 1) := by decide +kernel
theorem dX4_addPart_49 : decode cX4_addPart 49 = .ok (.putfield 30, 3) := by decide +kernel
theorem dX4_addPart_52 : decode cX4_addPart 52 = .ok (.aload_n 0, 1) := by decide +kernel
theorem dX4_addPart_53 : decode cX4_addPart 53 = .ok (.getfield 30, 3) := by decide +kernel
theorem dX4_addPart_56 : decode cX4_addPart 56 = .ok (.iconst 1, 1) := by decide +kernel
theorem dX4_addPart_57 : decode cX4_addPart 57 = .ok (.isub, 1) := by decide +kernel
theorem dX4_addPart_58 : decode cX4_addPart 58 = .ok (.ireturn, 1) := by decide +kernel
theorem dX4_addLine_0 : decode cX4_addLine 0 = .ok (.aload_n 0, 1) := by decide +kernel
theorem dX4_addLine_1 : decode cX4_addLine 1 = .ok (.getfield 34, 3) := by decide +kernel
theorem dX4_addLine_4 : decode cX4_addLine 4 = .ok (.bipush 61, 2) := by decide +kernel
theorem dX4_addLine_6 : decode cX4_addLine 6 = .ok (.if_icmp .ge 33, 3) := by decide +kernel
theorem dX4_addLine_9 : decode cX4_addLine 9 = .ok (.aload_n 0, 1) := by decide +kernel
theorem dX4_addLine_10 : decode cX4_addLine 10 = .ok (.getfield 24, 3) := by decide +kernel
theorem dX4_addLine_13 : decode cX4_addLine 13 = .ok (.aload_n 0, 1) := by decide +kernel
theorem dX4_addLine_14 : decode cX4_addLine 14 = .ok (.getfield 34, 3) := by decide +kernel
theorem dX4_addLine_17 : decode cX4_addLine 17 = .ok (.iload_n 1, 1) := by decide +kernel
theorem dX4_addLine_18 : decode cX4_addLine 18 = .ok (.iastore, 1) := by decide +kernel
theorem dX4_addLine_19 : decode cX4_addLine 19 = .ok (.aload_n 0, 1) := by decide +kernel
theorem dX4_addLine_20 : decode cX4_addLine 20 = .ok (.getfield 27, 3) := by decide +kernel
theorem dX4_addLine_23 : decode cX4_addLine 23 = .ok (.aload_n 0, 1) := by decide +kernel
theorem dX4_addLine_24 : decode cX4_addLine 24 = .ok (.getfield 34, 3) := by decide +kernel
theorem dX4_addLine_27 : decode cX4_addLine 27 = .ok (.iload_n 2, 1) := by decide +kernel
theorem dX4_addLine_28 : decode cX4_addLine 28 = .ok (.iastore, 1) := by decide +kernel
theorem dX4_addLine_29 : decode cX4_addLine 29 = .ok (.aload_n 0, 1) := by decide +kernel
theorem dX4_addLine_30 : decode cX4_addLine 30 = .ok (.dup, 1) := by decide +kernel
theorem dX4_addLine_31 : decode cX4_addLine 31 = .ok (.getfield 34, 3) := by decide +kernel
theorem dX4_addLine_34 : decode cX4_addLine 34 = .ok (.iconst 1, 1) := by decide +kernel
theorem dX4_addLine_35 : decode cX4_addLine 35 = .ok (.iadd, 1) := by decide +kernel
theorem dX4_addLine_36 : decode cX4_addLine 36 = .ok (.putfield 34, 3) := by decide +kernel
theorem dX4_addLine_39 : decode cX4_addLine 39 = .ok (.return_, 1) := by decide +kernel
theorem dX4_workOut_0 : decode cX4_workOut 0 = .ok (.aload_n 0, 1) := by decide +kernel
theorem dX4_workOut_1 : decode cX4_workOut 1 = .ok (.getfield 21, 3) := by decide +kernel
theorem dX4_workOut_4 : decode cX4_workOut 4 = .ok (.iconst 0, 1) := by decide +kernel
theorem dX4_workOut_5 : decode cX4_workOut 5 = .ok (.iload_n 1, 1) := by decide +kernel
theorem dX4_workOut_6 : decode cX4_workOut 6 = .ok (.iastore, 1) := by decide +kernel
theorem dX4_workOut_7 : decode cX4_workOut 7 = .ok (.aload_n 0, 1) := by decide +kernel
theorem dX4_workOut_8 : decode cX4_workOut 8 = .ok (.getfield 21, 3) := by decide +kernel
theorem dX4_workOut_11 : decode cX4_workOut 11 = .ok (.iconst 1, 1) := by decide +kernel
theorem dX4_workOut_12 : decode cX4_workOut 12 = .ok (.iload_n 2, 1) := by decide +kernel
theorem dX4_workOut_13 : decode cX4_workOut 13 = .ok (.iastore, 1) := by decide +kernel
theorem dX4_workOut_14 : decode cX4_workOut 14 = .ok (.aload_n 0, 1) := by decide +kernel
theorem dX4_workOut_15 : decode cX4_workOut 15 = .ok (.getfield 21, 3) := by decide +kernel
theorem dX4_workOut_18 : decode cX4_workOut 18 = .ok (.iconst 2, 1) := by decide +kernel
theorem dX4_workOut_19 : decode cX4_workOut 19 = .ok (.iload_n 3, 1) := by decide +kernel
theorem dX4_workOut_20 : decode cX4_workOut 20 = .ok (.iastore, 1) := by decide +kernel
theorem dX4_workOut_21 : decode cX4_workOut 21 = .ok (.aload_n 0, 1) := by decide +kernel
theorem dX4_workOut_22 : decode cX4_workOut 22 = .ok (.getfield 21, 3) := by decide +kernel
theorem dX4_workOut_25 : decode cX4_workOut 25 = .ok (.iconst 3, 1) := by decide +kernel
theorem dX4_workOut_26 : decode cX4_workOut 26 = .ok (.iload 4, 2) := by decide +kernel
theorem dX4_workOut_28 : decode cX4_workOut 28 = .ok (.iastore, 1) := by decide +kernel
theorem dX4_workOut_29 : decode cX4_workOut 29 = .ok (.aload_n 0, 1) := by decide +kernel
theorem dX4_workOut_30 : decode cX4_workOut 30 = .ok (.getfield 21, 3) := by decide +kernel
theorem dX4_workOut_33 : decode cX4_workOut 33 = .ok (.iconst 4, 1) := by decide +kernel
theorem dX4_workOut_34 : decode cX4_workOut 34 = .ok (.iload 5, 2) := by decide +kernel
theorem dX4_workOut_36 : decode cX4_workOut 36 = .ok (.iastore, 1) := by decide +kernel
theorem dX4_workOut_37 : decode cX4_workOut 37 = .ok (.aload_n 0, 1) := by decide +kernel
theorem dX4_workOut_38 : decode cX4_workOut 38 = .ok (.getfield 21, 3) := by decide +kernel
theorem dX4_workOut_41 : decode cX4_workOut 41 = .ok (.iconst 5, 1) := by decide +kernel
theorem dX4_workOut_42 : decode cX4_workOut 42 = .ok (.iload 6, 2) := by decide +kernel
theorem dX4_workOut_44 : decode cX4_workOut 44 = .ok (.iastore, 1) := by decide +kernel
theorem dX4_workOut_45 : decode cX4_workOut 45 = .ok (.bipush 6, 2) := by decide +kernel
theorem dX4_workOut_47 : decode cX4_workOut 47 = .ok (.istore 7, 2) := by decide +kernel
theorem dX4_workOut_49 : decode cX4_workOut 49 = .ok (.iload 7, 2) := by decide +kernel
theorem dX4_workOut_51 : decode cX4_workOut 51 = .ok (.aload_n 0, 1) := by decide +kernel
theorem dX4_workOut_52 : decode cX4_workOut 52 = .ok (.getfield 30, 3) := by decide +kernel
theorem dX4_workOut_55 : decode cX4_workOut 55 = .ok (.if_icmp .ge 62, 3) := by decide +kernel
theorem dX4_workOut_58 : decode cX4_workOut 58 = .ok (.aload_n 0, 1) := by decide +kernel
theorem dX4_workOut_59 : decode cX4_workOut 59 = .ok (.getfield 11, 3) := by decide +kernel
theorem dX4_workOut_62 : decode cX4_workOut 62 = .ok (.iload 7, 2) := by decide +kernel
theorem dX4_workOut_64 : decode cX4_workOut 64 = .ok (.iaload, 1) := by decide +kernel
theorem dX4_workOut_65 : decode cX4_workOut 65 = .ok (.bipush 48, 2) := by decide +kernel
theorem dX4_workOut_67 : decode cX4_workOut 67 = .ok (.if_icmp .eq 44, 3) := by decide +kernel
theorem dX4_workOut_70 : decode cX4_workOut 70 = .ok (.aload_n 0, 1) := by decide +kernel
theorem dX4_workOut_71 : decode cX4_workOut 71 = .ok (.getfield 21, 3) := by decide +kernel
theorem dX4_workOut_74 : decode cX4_workOut 74 = .ok (.iload 7, 2) := by decide +kernel
theorem dX4_workOut_76 : decode cX4_workOut 76 = .ok (.aload_n 0, 1) := by decide +kernel
theorem dX4_workOut_77 : decode cX4_workOut 77 = .ok (.getfield 11, 3) := by decide +kernel
theorem dX4_workOut_80 : decode cX4_workOut 80 = .ok (.iload 7, 2) := by decide +kernel
theorem dX4_workOut_82 : decode cX4_workOut 82 = .ok (.iaload, 1) := by decide +kernel
theorem dX4_workOut_83 : decode cX4_workOut 83 = .ok (.aload_n 0, 1) := by decide +kernel
theorem dX4_workOut_84 : decode cX4_workOut 84 = .ok (.getfield 21, 3) := by decide +kernel
theorem dX4_workOut_87 : decode cX4_workOut 87 = .ok (.aload_n 0, 1) := by decide +kernel
theorem dX4_workOut_88 : decode cX4_workOut 88 = .ok (.getfield 15, 3) := by decide +kernel
theorem dX4_workOut_91 : decode cX4_workOut 91 = .ok (.iload 7, 2) := by decide +kernel
theorem dX4_workOut_93 : decode cX4_workOut 93 = .ok (.iaload, 1) := by decide +kernel
theorem dX4_workOut_94 : decode cX4_workOut 94 = .ok (.iaload, 1) := by decide +kernel
theorem dX4_workOut_95 : decode cX4_workOut 95 = .ok (.aload_n 0, 1) := by decide +kernel
theorem dX4_workOut_96 : decode cX4_workOut 96 = .ok (.getfield 21, 3) := by decide +kernel
theorem dX4_workOut_99 : decode cX4_workOut 99 = .ok (.aload_n 0, 1) := by decide +kernel
theorem dX4_workOut_100 : decode cX4_workOut 100 = .ok (.getfield 18, 3) := by decide +kernel
theorem dX4_workOut_103 : decode cX4_workOut 103 = .ok (.iload 7, 2) := by decide +kernel
theorem dX4_workOut_105 : decode cX4_workOut 105 = .ok (.iaload, 1) := by decide +kernel
theorem dX4_workOut_106 : decode cX4_workOut 106 = .ok (.iaload, 1) := by decide +kernel
theorem dX4_workOut_107 : decode cX4_workOut 107 = .ok (.invokestatic 41, 3) := by decide +kernel
theorem dX4_workOut_110 : decode cX4_workOut 110 = .ok (.iastore, 1) := by decide +kernel
theorem dX4_workOut_111 : decode cX4_workOut 111 = .ok (.iinc 7 1, 3) := by decide +kernel
theorem dX4_workOut_114 : decode cX4_workOut 114 = .ok (.goto (-65), 3) := by decide +kernel
theorem dX4_workOut_117 : decode cX4_workOut 117 = .ok (.iconst 0, 1) := by decide +kernel
theorem dX4_workOut_118 : decode cX4_workOut 118 = .ok (.istore 7, 2) := by decide +kernel
theorem dX4_workOut_120 : decode cX4_workOut 120 = .ok (.iload 7, 2) := by decide +kernel
theorem dX4_workOut_122 : decode cX4_workOut 122 = .ok (.aload_n 0, 1) := by decide +kernel
theorem dX4_workOut_123 : decode cX4_workOut 123 = .ok (.getfield 34, 3) := by decide +kernel
theorem dX4_workOut_126 : decode cX4_workOut 126 = .ok (.if_icmp .ge 48, 3) := by decide +kernel
theorem dX4_workOut_129 : decode cX4_workOut 129 = .ok (.aload_n 0, 1) := by decide +kernel
theorem dX4_workOut_130 : decode cX4_workOut 130 = .ok (.getfield 24, 3) := by decide +kernel
theorem dX4_workOut_133 : decode cX4_workOut 133 = .ok (.iload 7, 2) := by decide +kernel
theorem dX4_workOut_135 : decode cX4_workOut 135 = .ok (.iaload, 1) := by decide +kernel
theorem dX4_workOut_136 : decode cX4_workOut 136 = .ok (.iconst (-1), 1) := by decide +kernel
theorem dX4_workOut_137 : decode cX4_workOut 137 = .ok (.if_icmp .eq 18, 3) := by decide +kernel
theorem dX4_workOut_140 : decode cX4_workOut 140 = .ok (.aload_n 0, 1) := by decide +kernel
theorem dX4_workOut_141 : decode cX4_workOut 141 = .ok (.getfield 21, 3) := by decide +kernel
theorem dX4_workOut_144 : decode cX4_workOut 144 = .ok (.aload_n 0, 1) := by decide +kernel
theorem dX4_workOut_145 : decode cX4_workOut 145 = .ok (.getfield 24, 3) := by decide +kernel
theorem dX4_workOut_148 : decode cX4_workOut 148 = .ok (.iload 7, 2) := by decide +kernel
theorem dX4_workOut_150 : decode cX4_workOut 150 = .ok (.iaload, 1) := by decide +kernel
theorem dX4_workOut_151 : decode cX4_workOut 151 = .ok (.iaload, 1) := by decide +kernel
theorem dX4_workOut_152 : decode cX4_workOut 152 = .ok (.ifCond .eq 16, 3) := by decide +kernel
theorem dX4_workOut_155 : decode cX4_workOut 155 = .ok (.aload_n 0, 1) := by decide +kernel
theorem dX4_workOut_156 : decode cX4_workOut 156 = .ok (.getfield 21, 3) := by decide +kernel
theorem dX4_workOut_159 : decode cX4_workOut 159 = .ok (.aload_n 0, 1) := by decide +kernel
theorem dX4_workOut_160 : decode cX4_workOut 160 = .ok (.getfield 27, 3) := by decide +kernel
theorem dX4_workOut_163 : decode cX4_workOut 163 = .ok (.iload 7, 2) := by decide +kernel
theorem dX4_workOut_165 : decode cX4_workOut 165 = .ok (.iaload, 1) := by decide +kernel
theorem dX4_workOut_166 : decode cX4_workOut 166 = .ok (.iaload, 1) := by decide +kernel
theorem dX4_workOut_167 : decode cX4_workOut 167 = .ok (.ireturn, 1) := by decide +kernel
theorem dX4_workOut_168 : decode cX4_workOut 168 = .ok (.iinc 7 1, 3) := by decide +kernel
theorem dX4_workOut_171 : decode cX4_workOut 171 = .ok (.goto (-51), 3) := by decide +kernel
theorem dX4_workOut_174 : decode cX4_workOut 174 = .ok (.iconst 0, 1) := by decide +kernel
theorem dX4_workOut_175 : decode cX4_workOut 175 = .ok (.ireturn, 1) := by decide +kernel
theorem dX4_joined_0 : decode cX4_joined 0 = .ok (.iload_n 0, 1) := by decide +kernel
theorem dX4_joined_1 : decode cX4_joined 1 = .ok (.lookupswitch 217 #[(33, 110), (37, 205), (38, 134), (42, 189), (43, 181), (45, 185), (47, 193), (60, 148), (61, 159), (62, 170), (124, 120), (126, 107)], 107) := by decide +kernel
theorem dX4_joined_108 : decode cX4_joined 108 = .ok (.iload_n 1, 1) := by decide +kernel
theorem dX4_joined_109 : decode cX4_joined 109 = .ok (.ineg, 1) := by decide +kernel
theorem dX4_joined_110 : decode cX4_joined 110 = .ok (.ireturn, 1) := by decide +kernel
theorem dX4_joined_111 : decode cX4_joined 111 = .ok (.iload_n 1, 1) := by decide +kernel
theorem dX4_joined_112 : decode cX4_joined 112 = .ok (.ifCond .ne 7, 3) := by decide +kernel
theorem dX4_joined_115 : decode cX4_joined 115 = .ok (.iconst 1, 1) := by decide +kernel
theorem dX4_joined_116 : decode cX4_joined 116 = .ok (.goto 4, 3) := by decide +kernel
theorem dX4_joined_119 : decode cX4_joined 119 = .ok (.iconst 0, 1) := by decide +kernel
theorem dX4_joined_120 : decode cX4_joined 120 = .ok (.ireturn, 1) := by decide +kernel
theorem dX4_joined_121 : decode cX4_joined 121 = .ok (.iload_n 1, 1) := by decide +kernel
theorem dX4_joined_122 : decode cX4_joined 122 = .ok (.ifCond .ne 7, 3) := by decide +kernel
theorem dX4_joined_125 : decode cX4_joined 125 = .ok (.iload_n 2, 1) := by decide +kernel
theorem dX4_joined_126 : decode cX4_joined 126 = .ok (.ifCond .eq 7, 3) := by decide +kernel
theorem dX4_joined_129 : decode cX4_joined 129 = .ok (.iconst 1, 1) := by decide +kernel
theorem dX4_joined_130 : decode cX4_joined 130 = .ok (.goto 4, 3) := by decide +kernel
theorem dX4_joined_133 : decode cX4_joined 133 = .ok (.iconst 0, 1) := by decide +kernel
theorem dX4_joined_134 : decode cX4_joined 134 = .ok (.ireturn, 1) := by decide +kernel
theorem dX4_joined_135 : decode cX4_joined 135 = .ok (.iload_n 1, 1) := by decide +kernel
theorem dX4_joined_136 : decode cX4_joined 136 = .ok (.ifCond .eq 11, 3) := by decide +kernel
theorem dX4_joined_139 : decode cX4_joined 139 = .ok (.iload_n 2, 1) := by decide +kernel
theorem dX4_joined_140 : decode cX4_joined 140 = .ok (.ifCond .eq 7, 3) := by decide +kernel
theorem dX4_joined_143 : decode cX4_joined 143 = .ok (.iconst 1, 1) := by decide +kernel
theorem dX4_joined_144 : decode cX4_joined 144 = .ok (.goto 4, 3) := by decide +kernel
theorem dX4_joined_147 : decode cX4_joined 147 = .ok (.iconst 0, 1) := by decide +kernel
theorem dX4_joined_148 : decode cX4_joined 148 = .ok (.ireturn, 1) := by decide +kernel
theorem dX4_joined_149 : decode cX4_joined 149 = .ok (.iload_n 1, 1) := by decide +kernel
theorem dX4_joined_150 : decode cX4_joined 150 = .ok (.iload_n 2, 1) := by decide +kernel
theorem dX4_joined_151 : decode cX4_joined 151 = .ok (.if_icmp .ge 7, 3) := by decide +kernel
theorem dX4_joined_154 : decode cX4_joined 154 = .ok (.iconst 1, 1) := by decide +kernel
theorem dX4_joined_155 : decode cX4_joined 155 = .ok (.goto 4, 3) := by decide +kernel
theorem dX4_joined_158 : decode cX4_joined 158 = .ok (.iconst 0, 1) := by decide +kernel
theorem dX4_joined_159 : decode cX4_joined 159 = .ok (.ireturn, 1) := by decide +kernel
theorem dX4_joined_160 : decode cX4_joined 160 = .ok (.iload_n 1, 1) := by decide +kernel
theorem dX4_joined_161 : decode cX4_joined 161 = .ok (.iload_n 2, 1) := by decide +kernel
theorem dX4_joined_162 : decode cX4_joined 162 = .ok (.if_icmp .ne 7, 3) := by decide +kernel
theorem dX4_joined_165 : decode cX4_joined 165 = .ok (.iconst 1, 1) := by decide +kernel
theorem dX4_joined_166 : decode cX4_joined 166 = .ok (.goto 4, 3) := by decide +kernel
theorem dX4_joined_169 : decode cX4_joined 169 = .ok (.iconst 0, 1) := by decide +kernel
theorem dX4_joined_170 : decode cX4_joined 170 = .ok (.ireturn, 1) := by decide +kernel
theorem dX4_joined_171 : decode cX4_joined 171 = .ok (.iload_n 1, 1) := by decide +kernel
theorem dX4_joined_172 : decode cX4_joined 172 = .ok (.iload_n 2, 1) := by decide +kernel
theorem dX4_joined_173 : decode cX4_joined 173 = .ok (.if_icmp .le 7, 3) := by decide +kernel
theorem dX4_joined_176 : decode cX4_joined 176 = .ok (.iconst 1, 1) := by decide +kernel
theorem dX4_joined_177 : decode cX4_joined 177 = .ok (.goto 4, 3) := by decide +kernel
theorem dX4_joined_180 : decode cX4_joined 180 = .ok (.iconst 0, 1) := by decide +kernel
theorem dX4_joined_181 : decode cX4_joined 181 = .ok (.ireturn, 1) := by decide +kernel
theorem dX4_joined_182 : decode cX4_joined 182 = .ok (.iload_n 1, 1) := by decide +kernel
theorem dX4_joined_183 : decode cX4_joined 183 = .ok (.iload_n 2, 1) := by decide +kernel
theorem dX4_joined_184 : decode cX4_joined 184 = .ok (.iadd, 1) := by decide +kernel
theorem dX4_joined_185 : decode cX4_joined 185 = .ok (.ireturn, 1) := by decide +kernel
theorem dX4_joined_186 : decode cX4_joined 186 = .ok (.iload_n 1, 1) := by decide +kernel
theorem dX4_joined_187 : decode cX4_joined 187 = .ok (.iload_n 2, 1) := by decide +kernel
theorem dX4_joined_188 : decode cX4_joined 188 = .ok (.isub, 1) := by decide +kernel
theorem dX4_joined_189 : decode cX4_joined 189 = .ok (.ireturn, 1) := by decide +kernel
theorem dX4_joined_190 : decode cX4_joined 190 = .ok (.iload_n 1, 1) := by decide +kernel
theorem dX4_joined_191 : decode cX4_joined 191 = .ok (.iload_n 2, 1) := by decide +kernel
theorem dX4_joined_192 : decode cX4_joined 192 = .ok (.imul, 1) := by decide +kernel
theorem dX4_joined_193 : decode cX4_joined 193 = .ok (.ireturn, 1) := by decide +kernel
theorem dX4_joined_194 : decode cX4_joined 194 = .ok (.iload_n 2, 1) := by decide +kernel
theorem dX4_joined_195 : decode cX4_joined 195 = .ok (.ifCond .ne 7, 3) := by decide +kernel
theorem dX4_joined_198 : decode cX4_joined 198 = .ok (.iconst 0, 1) := by decide +kernel
theorem dX4_joined_199 : decode cX4_joined 199 = .ok (.goto 6, 3) := by decide +kernel
theorem dX4_joined_202 : decode cX4_joined 202 = .ok (.iload_n 1, 1) := by decide +kernel
theorem dX4_joined_203 : decode cX4_joined 203 = .ok (.iload_n 2, 1) := by decide +kernel
theorem dX4_joined_204 : decode cX4_joined 204 = .ok (.idiv, 1) := by decide +kernel
theorem dX4_joined_205 : decode cX4_joined 205 = .ok (.ireturn, 1) := by decide +kernel
theorem dX4_joined_206 : decode cX4_joined 206 = .ok (.iload_n 2, 1) := by decide +kernel
theorem dX4_joined_207 : decode cX4_joined 207 = .ok (.ifCond .ne 7, 3) := by decide +kernel
theorem dX4_joined_210 : decode cX4_joined 210 = .ok (.iconst 0, 1) := by decide +kernel
theorem dX4_joined_211 : decode cX4_joined 211 = .ok (.goto 6, 3) := by decide +kernel
theorem dX4_joined_214 : decode cX4_joined 214 = .ok (.iload_n 1, 1) := by decide +kernel
theorem dX4_joined_215 : decode cX4_joined 215 = .ok (.iload_n 2, 1) := by decide +kernel
theorem dX4_joined_216 : decode cX4_joined 216 = .ok (.irem, 1) := by decide +kernel
theorem dX4_joined_217 : decode cX4_joined 217 = .ok (.ireturn, 1) := by decide +kernel
theorem dX4_joined_218 : decode cX4_joined 218 = .ok (.iconst 0, 1) := by decide +kernel
theorem dX4_joined_219 : decode cX4_joined 219 = .ok (.ireturn, 1) := by decide +kernel
theorem dX5_init_0 : decode cX5_init 0 = .ok (.aload_n 0, 1) := by decide +kernel
theorem dX5_init_1 : decode cX5_init 1 = .ok (.invokespecial 3, 3) := by decide +kernel
theorem dX5_init_4 : decode cX5_init 4 = .ok (.aload_n 0, 1) := by decide +kernel
theorem dX5_init_5 : decode cX5_init 5 = .ok (.bipush 50, 2) := by decide +kernel
theorem dX5_init_7 : decode cX5_init 7 = .ok (.newarray .int, 2) := by decide +kernel
theorem dX5_init_9 : decode cX5_init 9 = .ok (.putfield 9, 3) := by decide +kernel
theorem dX5_init_12 : decode cX5_init 12 = .ok (.aload_n 0, 1) := by decide +kernel
theorem dX5_init_13 : decode cX5_init 13 = .ok (.bipush 24, 2) := by decide +kernel
theorem dX5_init_15 : decode cX5_init 15 = .ok (.newarray .int, 2) := by decide +kernel
theorem dX5_init_17 : decode cX5_init 17 = .ok (.putfield 15, 3) := by decide +kernel
theorem dX5_init_20 : decode cX5_init 20 = .ok (.return_, 1) := by decide +kernel
theorem dX5_add_0 : decode cX5_add 0 = .ok (.aload_n 0, 1) := by decide +kernel
theorem dX5_add_1 : decode cX5_add 1 = .ok (.getfield 18, 3) := by decide +kernel
theorem dX5_add_4 : decode cX5_add 4 = .ok (.bipush 50, 2) := by decide +kernel
theorem dX5_add_6 : decode cX5_add 6 = .ok (.if_icmp .lt 6, 3) := by decide +kernel
theorem dX5_add_9 : decode cX5_add 9 = .ok (.bipush (-3), 2) := by decide +kernel
theorem dX5_add_11 : decode cX5_add 11 = .ok (.ireturn, 1) := by decide +kernel
theorem dX5_add_12 : decode cX5_add 12 = .ok (.aload_n 0, 1) := by decide +kernel
theorem dX5_add_13 : decode cX5_add 13 = .ok (.getfield 9, 3) := by decide +kernel
theorem dX5_add_16 : decode cX5_add 16 = .ok (.aload_n 0, 1) := by decide +kernel
theorem dX5_add_17 : decode cX5_add 17 = .ok (.getfield 18, 3) := by decide +kernel
theorem dX5_add_20 : decode cX5_add 20 = .ok (.iload_n 1, 1) := by decide +kernel
theorem dX5_add_21 : decode cX5_add 21 = .ok (.iastore, 1) := by decide +kernel
theorem dX5_add_22 : decode cX5_add 22 = .ok (.aload_n 0, 1) := by decide +kernel
theorem dX5_add_23 : decode cX5_add 23 = .ok (.dup, 1) := by decide +kernel
theorem dX5_add_24 : decode cX5_add 24 = .ok (.getfield 18, 3) := by decide +kernel
theorem dX5_add_27 : decode cX5_add 27 = .ok (.iconst 1, 1) := by decide +kernel
theorem dX5_add_28 : decode cX5_add 28 = .ok (.iadd, 1) := by decide +kernel
theorem dX5_add_29 : decode cX5_add 29 = .ok (.putfield 18, 3) := by decide +kernel
theorem dX5_add_32 : decode cX5_add 32 = .ok (.aload_n 0, 1) := by decide +kernel
theorem dX5_add_33 : decode cX5_add 33 = .ok (.getfield 18, 3) := by decide +kernel
theorem dX5_add_36 : decode cX5_add 36 = .ok (.iconst 1, 1) := by decide +kernel
theorem dX5_add_37 : decode cX5_add 37 = .ok (.isub, 1) := by decide +kernel
theorem dX5_add_38 : decode cX5_add 38 = .ok (.ireturn, 1) := by decide +kernel
theorem dX5_kindOf_0 : decode cX5_kindOf 0 = .ok (.iload_n 1, 1) := by decide +kernel
theorem dX5_kindOf_1 : decode cX5_kindOf 1 = .ok (.iconst 0, 1) := by decide +kernel
theorem dX5_kindOf_2 : decode cX5_kindOf 2 = .ok (.aload_n 0, 1) := by decide +kernel
theorem dX5_kindOf_3 : decode cX5_kindOf 3 = .ok (.getfield 18, 3) := by decide +kernel
theorem dX5_kindOf_6 : decode cX5_kindOf 6 = .ok (.iconst 1, 1) := by decide +kernel
theorem dX5_kindOf_7 : decode cX5_kindOf 7 = .ok (.isub, 1) := by decide +kernel
theorem dX5_kindOf_8 : decode cX5_kindOf 8 = .ok (.invokestatic 22, 3) := by decide +kernel
theorem dX5_kindOf_11 : decode cX5_kindOf 11 = .ok (.ifCond .eq 12, 3) := by decide +kernel
theorem dX5_kindOf_14 : decode cX5_kindOf 14 = .ok (.aload_n 0, 1) := by decide +kernel
theorem dX5_kindOf_15 : decode cX5_kindOf 15 = .ok (.getfield 9, 3) := by decide +kernel
theorem dX5_kindOf_18 : decode cX5_kindOf 18 = .ok (.iload_n 1, 1) := by decide +kernel
theorem dX5_kindOf_19 : decode cX5_kindOf 19 = .ok (.iaload, 1) := by decide +kernel
theorem dX5_kindOf_20 : decode cX5_kindOf 20 = .ok (.goto 4, 3) := by decide +kernel
theorem dX5_kindOf_23 : decode cX5_kindOf 23 = .ok (.iconst (-1), 1) := by decide +kernel
theorem dX5_kindOf_24 : decode cX5_kindOf 24 = .ok (.ireturn, 1) := by decide +kernel
theorem dX5_isUnder_0 : decode cX5_isUnder 0 = .ok (.iload_n 0, 1) := by decide +kernel
theorem dX5_isUnder_1 : decode cX5_isUnder 1 = .ok (.istore_n 2, 1) := by decide +kernel
theorem dX5_isUnder_2 : decode cX5_isUnder 2 = .ok (.iconst 0, 1) := by decide +kernel
theorem dX5_isUnder_3 : decode cX5_isUnder 3 = .ok (.istore_n 3, 1) := by decide +kernel
theorem dX5_isUnder_4 : decode cX5_isUnder 4 = .ok (.iload_n 3, 1) := by decide +kernel
theorem dX5_isUnder_5 : decode cX5_isUnder 5 = .ok (.bipush 8, 2) := by decide +kernel
theorem dX5_isUnder_7 : decode cX5_isUnder 7 = .ok (.if_icmp .ge 24, 3) := by decide +kernel
theorem dX5_isUnder_10 : decode cX5_isUnder 10 = .ok (.iload_n 2, 1) := by decide +kernel
theorem dX5_isUnder_11 : decode cX5_isUnder 11 = .ok (.ifCond .lt 20, 3) := by decide +kernel
theorem dX5_isUnder_14 : decode cX5_isUnder 14 = .ok (.iload_n 2, 1) := by decide +kernel
theorem dX5_isUnder_15 : decode cX5_isUnder 15 = .ok (.iload_n 1, 1) := by decide +kernel
theorem dX5_isUnder_16 : decode cX5_isUnder 16 = .ok (.if_icmp .eq 15, 3) := by decide +kernel
theorem dX5_isUnder_19 : decode cX5_isUnder 19 = .ok (.getstatic 26, 3) := by decide +kernel
theorem dX5_isUnder_22 : decode cX5_isUnder 22 = .ok (.iload_n 2, 1) := by decide +kernel
theorem dX5_isUnder_23 : decode cX5_isUnder 23 = .ok (.iaload, 1) := by decide +kernel
theorem dX5_isUnder_24 : decode cX5_isUnder 24 = .ok (.istore_n 2, 1) := by decide +kernel
theorem dX5_isUnder_25 : decode cX5_isUnder 25 = .ok (.iinc 3 1, 3) := by decide +kernel
theorem dX5_isUnder_28 : decode cX5_isUnder 28 = .ok (.goto (-24), 3) := by decide +kernel
theorem dX5_isUnder_31 : decode cX5_isUnder 31 = .ok (.iload_n 2, 1) := by decide +kernel
theorem dX5_isUnder_32 : decode cX5_isUnder 32 = .ok (.iload_n 1, 1) := by decide +kernel
theorem dX5_isUnder_33 : decode cX5_isUnder 33 = .ok (.if_icmp .ne 7, 3) := by decide +kernel
theorem dX5_isUnder_36 : decode cX5_isUnder 36 = .ok (.iconst 1, 1) := by decide +kernel
theorem dX5_isUnder_37 : decode cX5_isUnder 37 = .ok (.goto 4, 3) := by decide +kernel
theorem dX5_isUnder_40 : decode cX5_isUnder 40 = .ok (.iconst 0, 1) := by decide +kernel
theorem dX5_isUnder_41 : decode cX5_isUnder 41 = .ok (.ireturn, 1) := by decide +kernel
theorem dX5_traced_0 : decode cX5_traced 0 = .ok (.iload_n 1, 1) := by decide +kernel
theorem dX5_traced_1 : decode cX5_traced 1 = .ok (.iconst 0, 1) := by decide +kernel
theorem dX5_traced_2 : decode cX5_traced 2 = .ok (.aload_n 0, 1) := by decide +kernel
theorem dX5_traced_3 : decode cX5_traced 3 = .ok (.getfield 29, 3) := by decide +kernel
theorem dX5_traced_6 : decode cX5_traced 6 = .ok (.bipush 24, 2) := by decide +kernel
theorem dX5_traced_8 : decode cX5_traced 8 = .ok (.invokestatic 32, 3) := by decide +kernel
theorem dX5_traced_11 : decode cX5_traced 11 = .ok (.iconst 1, 1) := by decide +kernel
theorem dX5_traced_12 : decode cX5_traced 12 = .ok (.isub, 1) := by decide +kernel
theorem dX5_traced_13 : decode cX5_traced 13 = .ok (.invokestatic 22, 3) := by decide +kernel
theorem dX5_traced_16 : decode cX5_traced 16 = .ok (.ifCond .eq 12, 3) := by decide +kernel
theorem dX5_traced_19 : decode cX5_traced 19 = .ok (.aload_n 0, 1) := by decide +kernel
theorem dX5_traced_20 : decode cX5_traced 20 = .ok (.getfield 15, 3) := by decide +kernel
theorem dX5_traced_23 : decode cX5_traced 23 = .ok (.iload_n 1, 1) := by decide +kernel
theorem dX5_traced_24 : decode cX5_traced 24 = .ok (.iaload, 1) := by decide +kernel
theorem dX5_traced_25 : decode cX5_traced 25 = .ok (.goto 4, 3) := by decide +kernel
theorem dX5_traced_28 : decode cX5_traced 28 = .ok (.iconst (-1), 1) := by decide +kernel
theorem dX5_traced_29 : decode cX5_traced 29 = .ok (.ireturn, 1) := by decide +kernel
theorem dX5_perform_0 : decode cX5_perform 0 = .ok (.aload_n 0, 1) := by decide +kernel
theorem dX5_perform_1 : decode cX5_perform 1 = .ok (.iconst 0, 1) := by decide +kernel
theorem dX5_perform_2 : decode cX5_perform 2 = .ok (.putfield 29, 3) := by decide +kernel
theorem dX5_perform_5 : decode cX5_perform 5 = .ok (.iload_n 1, 1) := by decide +kernel
theorem dX5_perform_6 : decode cX5_perform 6 = .ok (.iconst 0, 1) := by decide +kernel
theorem dX5_perform_7 : decode cX5_perform 7 = .ok (.aload_n 0, 1) := by decide +kernel
theorem dX5_perform_8 : decode cX5_perform 8 = .ok (.getfield 18, 3) := by decide +kernel
theorem dX5_perform_11 : decode cX5_perform 11 = .ok (.iconst 1, 1) := by decide +kernel
theorem dX5_perform_12 : decode cX5_perform 12 = .ok (.isub, 1) := by decide +kernel
theorem dX5_perform_13 : decode cX5_perform 13 = .ok (.invokestatic 22, 3) := by decide +kernel
theorem dX5_perform_16 : decode cX5_perform 16 = .ok (.ifCond .eq 12, 3) := by decide +kernel
theorem dX5_perform_19 : decode cX5_perform 19 = .ok (.iload_n 2, 1) := by decide +kernel
theorem dX5_perform_20 : decode cX5_perform 20 = .ok (.iconst 0, 1) := by decide +kernel
theorem dX5_perform_21 : decode cX5_perform 21 = .ok (.iconst 3, 1) := by decide +kernel
theorem dX5_perform_22 : decode cX5_perform 22 = .ok (.invokestatic 22, 3) := by decide +kernel
theorem dX5_perform_25 : decode cX5_perform 25 = .ok (.ifCond .ne 5, 3) := by decide +kernel
theorem dX5_perform_28 : decode cX5_perform 28 = .ok (.iconst 0, 1) := by decide +kernel
theorem dX5_perform_29 : decode cX5_perform 29 = .ok (.ireturn, 1) := by decide +kernel
theorem dX5_perform_30 : decode cX5_perform 30 = .ok (.aload_n 0, 1) := by decide +kernel
theorem dX5_perform_31 : decode cX5_perform 31 = .ok (.iload_n 1, 1) := by decide +kernel
theorem dX5_perform_32 : decode cX5_perform 32 = .ok (.putfield 38, 3) := by decide +kernel
theorem dX5_perform_35 : decode cX5_perform 35 = .ok (.aload_n 0, 1) := by decide +kernel
theorem dX5_perform_36 : decode cX5_perform 36 = .ok (.aload_n 0, 1) := by decide +kernel
theorem dX5_perform_37 : decode cX5_perform 37 = .ok (.getfield 9, 3) := by decide +kernel
theorem dX5_perform_40 : decode cX5_perform 40 = .ok (.iload_n 1, 1) := by decide +kernel
theorem dX5_perform_41 : decode cX5_perform 41 = .ok (.iaload, 1) := by decide +kernel
theorem dX5_perform_42 : decode cX5_perform 42 = .ok (.putfield 41, 3) := by decide +kernel
theorem dX5_perform_45 : decode cX5_perform 45 = .ok (.aload_n 0, 1) := by decide +kernel
theorem dX5_perform_46 : decode cX5_perform 46 = .ok (.aload_n 0, 1) := by decide +kernel
theorem dX5_perform_47 : decode cX5_perform 47 = .ok (.getfield 41, 3) := by decide +kernel
theorem dX5_perform_50 : decode cX5_perform 50 = .ok (.iload_n 2, 1) := by decide +kernel
theorem dX5_perform_51 : decode cX5_perform 51 = .ok (.iload_n 3, 1) := by decide +kernel
theorem dX5_perform_52 : decode cX5_perform 52 = .ok (.iconst 0, 1) := by decide +kernel
theorem dX5_perform_53 : decode cX5_perform 53 = .ok (.invokevirtual 44, 3) := by decide +kernel
theorem dX5_perform_56 : decode cX5_perform 56 = .ok (.ireturn, 1) := by decide +kernel
theorem dX5_run_0 : decode cX5_run 0 = .ok (.iload 4, 2) := by decide +kernel
theorem dX5_run_2 : decode cX5_run 2 = .ok (.bipush 40, 2) := by decide +kernel
theorem dX5_run_4 : decode cX5_run 4 = .ok (.if_icmp .gt 13, 3) := by decide +kernel
theorem dX5_run_7 : decode cX5_run 7 = .ok (.iload_n 1, 1) := by decide +kernel
theorem dX5_run_8 : decode cX5_run 8 = .ok (.iconst 0, 1) := by decide +kernel
theorem dX5_run_9 : decode cX5_run 9 = .ok (.bipush 7, 2) := by decide +kernel
theorem dX5_run_11 : decode cX5_run 11 = .ok (.invokestatic 22, 3) := by decide +kernel
theorem dX5_run_14 : decode cX5_run 14 = .ok (.ifCond .ne 5, 3) := by decide +kernel
theorem dX5_run_17 : decode cX5_run 17 = .ok (.iconst 0, 1) := by decide +kernel
theorem dX5_run_18 : decode cX5_run 18 = .ok (.ireturn, 1) := by decide +kernel
theorem dX5_run_19 : decode cX5_run 19 = .ok (.iload_n 1, 1) := by decide +kernel
theorem dX5_run_20 : decode cX5_run 20 = .ok (.istore 5, 2) := by decide +kernel
theorem dX5_run_22 : decode cX5_run 22 = .ok (.iconst 0, 1) := by decide +kernel
theorem dX5_run_23 : decode cX5_run 23 = .ok (.istore 6, 2) := by decide +kernel
theorem dX5_run_25 : decode cX5_run 25 = .ok (.iload 6, 2) := by decide +kernel
theorem dX5_run_27 : decode cX5_run 27 = .ok (.bipush 8, 2) := by decide +kernel
theorem dX5_run_29 : decode cX5_run 29 = .ok (.if_icmp .ge 35, 3) := by decide +kernel
theorem dX5_run_32 : decode cX5_run 32 = .ok (.iload 5, 2) := by decide +kernel
theorem dX5_run_34 : decode cX5_run 34 = .ok (.ifCond .le 30, 3) := by decide +kernel
theorem dX5_run_37 : decode cX5_run 37 = .ok (.getstatic 48, 3) := by decide +kernel
theorem dX5_run_40 : decode cX5_run 40 = .ok (.iload 5, 2) := by decide +kernel
theorem dX5_run_42 : decode cX5_run 42 = .ok (.iconst 4, 1) := by decide +kernel
theorem dX5_run_43 : decode cX5_run 43 = .ok (.imul, 1) := by decide +kernel
theorem dX5_run_44 : decode cX5_run 44 = .ok (.iload_n 2, 1) := by decide +kernel
theorem dX5_run_45 : decode cX5_run 45 = .ok (.iadd, 1) := by decide +kernel
theorem dX5_run_46 : decode cX5_run 46 = .ok (.iaload, 1) := by decide +kernel
theorem dX5_run_47 : decode cX5_run 47 = .ok (.ifCond .ne 17, 3) := by decide +kernel
theorem dX5_run_50 : decode cX5_run 50 = .ok (.getstatic 26, 3) := by decide +kernel
theorem dX5_run_53 : decode cX5_run 53 = .ok (.iload 5, 2) := by decide +kernel
theorem dX5_run_55 : decode cX5_run 55 = .ok (.iaload, 1) := by decide +kernel
theorem dX5_run_56 : decode cX5_run 56 = .ok (.istore 5, 2) := by decide +kernel
theorem dX5_run_58 : decode cX5_run 58 = .ok (.iinc 6 1, 3) := by decide +kernel
theorem dX5_run_61 : decode cX5_run 61 = .ok (.goto (-36), 3) := by decide +kernel
theorem dX5_run_64 : decode cX5_run 64 = .ok (.getstatic 48, 3) := by decide +kernel
theorem dX5_run_67 : decode cX5_run 67 = .ok (.iload 5, 2) := by decide +kernel
theorem dX5_run_69 : decode cX5_run 69 = .ok (.iconst 4, 1) := by decide +kernel
theorem dX5_run_70 : decode cX5_run 70 = .ok (.imul, 1) := by decide +kernel
theorem dX5_run_71 : decode cX5_run 71 = .ok (.iload_n 2, 1) := by decide +kernel
theorem dX5_run_72 : decode cX5_run 72 = .ok (.iadd, 1) := by decide +kernel
theorem dX5_run_73 : decode cX5_run 73 = .ok (.iaload, 1) := by decide +kernel
theorem dX5_run_74 : decode cX5_run 74 = .ok (.istore 6, 2) := by decide +kernel
theorem dX5_run_76 : decode cX5_run 76 = .ok (.aload_n 0, 1) := by decide +kernel
theorem dX5_run_77 : decode cX5_run 77 = .ok (.getfield 29, 3) := by decide +kernel
theorem dX5_run_80 : decode cX5_run 80 = .ok (.bipush 24, 2) := by decide +kernel
theorem dX5_run_82 : decode cX5_run 82 = .ok (.if_icmp .ge 14, 3) := by decide +kernel
theorem dX5_run_85 : decode cX5_run 85 = .ok (.aload_n 0, 1) := by decide +kernel
theorem dX5_run_86 : decode cX5_run 86 = .ok (.getfield 15, 3) := by decide +kernel
theorem dX5_run_89 : decode cX5_run 89 = .ok (.aload_n 0, 1) := by decide +kernel
theorem dX5_run_90 : decode cX5_run 90 = .ok (.getfield 29, 3) := by decide +kernel
theorem dX5_run_93 : decode cX5_run 93 = .ok (.iload 6, 2) := by decide +kernel
theorem dX5_run_95 : decode cX5_run 95 = .ok (.iastore, 1) := by decide +kernel
theorem dX5_run_96 : decode cX5_run 96 = .ok (.aload_n 0, 1) := by decide +kernel
theorem dX5_run_97 : decode cX5_run 97 = .ok (.dup, 1) := by decide +kernel
theorem dX5_run_98 : decode cX5_run 98 = .ok (.getfield 29, 3) := by decide +kernel
theorem dX5_run_101 : decode cX5_run 101 = .ok (.iconst 1, 1) := by decide +kernel
theorem dX5_run_102 : decode cX5_run 102 = .ok (.iadd, 1) := by decide +kernel
theorem dX5_run_103 : decode cX5_run 103 = .ok (.putfield 29, 3) := by decide +kernel
theorem dX5_run_106 : decode cX5_run 106 = .ok (.iload 5, 2) := by decide +kernel
theorem dX5_run_108 : decode cX5_run 108 = .ok (.ifCond .ne 17, 3) := by decide +kernel
theorem dX5_run_111 : decode cX5_run 111 = .ok (.aload_n 0, 1) := by decide +kernel
theorem dX5_run_112 : decode cX5_run 112 = .ok (.iload 6, 2) := by decide +kernel
theorem dX5_run_114 : decode cX5_run 114 = .ok (.iload_n 3, 1) := by decide +kernel
theorem dX5_run_115 : decode cX5_run 115 = .ok (.iload 4, 2) := by decide +kernel
theorem dX5_run_117 : decode cX5_run 117 = .ok (.iconst 1, 1) := by decide +kernel
theorem dX5_run_118 : decode cX5_run 118 = .ok (.iadd, 1) := by decide +kernel
theorem dX5_run_119 : decode cX5_run 119 = .ok (.invokevirtual 51, 3) := by decide +kernel
theorem dX5_run_122 : decode cX5_run 122 = .ok (.goto 16, 3) := by decide +kernel
theorem dX5_run_125 : decode cX5_run 125 = .ok (.aload_n 0, 1) := by decide +kernel
theorem dX5_run_126 : decode cX5_run 126 = .ok (.iload 6, 2) := by decide +kernel
theorem dX5_run_128 : decode cX5_run 128 = .ok (.iload 5, 2) := by decide +kernel
theorem dX5_run_130 : decode cX5_run 130 = .ok (.iload_n 3, 1) := by decide +kernel
theorem dX5_run_131 : decode cX5_run 131 = .ok (.iload 4, 2) := by decide +kernel
theorem dX5_run_133 : decode cX5_run 133 = .ok (.iconst 1, 1) := by decide +kernel
theorem dX5_run_134 : decode cX5_run 134 = .ok (.iadd, 1) := by decide +kernel
theorem dX5_run_135 : decode cX5_run 135 = .ok (.invokevirtual 55, 3) := by decide +kernel
theorem dX5_run_138 : decode cX5_run 138 = .ok (.ireturn, 1) := by decide +kernel
theorem dX5_runTop_0 : decode cX5_runTop 0 = .ok (.iload_n 1, 1) := by decide +kernel
theorem dX5_runTop_1 : decode cX5_runTop 1 = .ok (.lookupswitch 95 #[(1, 43), (2, 50), (10, 74), (11, 88)], 43) := by decide +kernel
theorem dX5_runTop_44 : decode cX5_runTop 44 = .ok (.iload_n 2, 1) := by decide +kernel
theorem dX5_runTop_45 : decode cX5_runTop 45 = .ok (.aload_n 0, 1) := by decide +kernel
theorem dX5_runTop_46 : decode cX5_runTop 46 = .ok (.getfield 38, 3) := by decide +kernel
theorem dX5_runTop_49 : decode cX5_runTop 49 = .ok (.iadd, 1) := by decide +kernel
theorem dX5_runTop_50 : decode cX5_runTop 50 = .ok (.ireturn, 1) := by decide +kernel
theorem dX5_runTop_51 : decode cX5_runTop 51 = .ok (.aload_n 0, 1) := by decide +kernel
theorem dX5_runTop_52 : decode cX5_runTop 52 = .ok (.aload_n 0, 1) := by decide +kernel
theorem dX5_runTop_53 : decode cX5_runTop 53 = .ok (.getfield 41, 3) := by decide +kernel
theorem dX5_runTop_56 : decode cX5_runTop 56 = .ok (.iconst 1, 1) := by decide +kernel
theorem dX5_runTop_57 : decode cX5_runTop 57 = .ok (.iload_n 2, 1) := by decide +kernel
theorem dX5_runTop_58 : decode cX5_runTop 58 = .ok (.iload_n 3, 1) := by decide +kernel
theorem dX5_runTop_59 : decode cX5_runTop 59 = .ok (.invokevirtual 44, 3) := by decide +kernel
theorem dX5_runTop_62 : decode cX5_runTop 62 = .ok (.aload_n 0, 1) := by decide +kernel
theorem dX5_runTop_63 : decode cX5_runTop 63 = .ok (.aload_n 0, 1) := by decide +kernel
theorem dX5_runTop_64 : decode cX5_runTop 64 = .ok (.getfield 41, 3) := by decide +kernel
theorem dX5_runTop_67 : decode cX5_runTop 67 = .ok (.iconst 2, 1) := by decide +kernel
theorem dX5_runTop_68 : decode cX5_runTop 68 = .ok (.iconst 1, 1) := by decide +kernel
theorem dX5_runTop_69 : decode cX5_runTop 69 = .ok (.iload_n 3, 1) := by decide +kernel
theorem dX5_runTop_70 : decode cX5_runTop 70 = .ok (.invokevirtual 44, 3) := by decide +kernel
theorem dX5_runTop_73 : decode cX5_runTop 73 = .ok (.isub, 1) := by decide +kernel
theorem dX5_runTop_74 : decode cX5_runTop 74 = .ok (.ireturn, 1) := by decide +kernel
theorem dX5_runTop_75 : decode cX5_runTop 75 = .ok (.aload_n 0, 1) := by decide +kernel
theorem dX5_runTop_76 : decode cX5_runTop 76 = .ok (.aload_n 0, 1) := by decide +kernel
theorem dX5_runTop_77 : decode cX5_runTop 77 = .ok (.getfield 41, 3) := by decide +kernel
theorem dX5_runTop_80 : decode cX5_runTop 80 = .ok (.iconst 0, 1) := by decide +kernel
theorem dX5_runTop_81 : decode cX5_runTop 81 = .ok (.iload_n 2, 1) := by decide +kernel
theorem dX5_runTop_82 : decode cX5_runTop 82 = .ok (.iload_n 3, 1) := by decide +kernel
theorem dX5_runTop_83 : decode cX5_runTop 83 = .ok (.invokevirtual 44, 3) := by decide +kernel
theorem dX5_runTop_86 : decode cX5_runTop 86 = .ok (.iconst 2, 1) := by decide +kernel
theorem dX5_runTop_87 : decode cX5_runTop 87 = .ok (.imul, 1) := by decide +kernel
theorem dX5_runTop_88 : decode cX5_runTop 88 = .ok (.ireturn, 1) := by decide +kernel
theorem dX5_runTop_89 : decode cX5_runTop 89 = .ok (.iload_n 2, 1) := by decide +kernel
theorem dX5_runTop_90 : decode cX5_runTop 90 = .ok (.aload_n 0, 1) := by decide +kernel
theorem dX5_runTop_91 : decode cX5_runTop 91 = .ok (.getfield 38, 3) := by decide +kernel
theorem dX5_runTop_94 : decode cX5_runTop 94 = .ok (.ixor, 1) := by decide +kernel
theorem dX5_runTop_95 : decode cX5_runTop 95 = .ok (.ireturn, 1) := by decide +kernel
theorem dX5_runTop_96 : decode cX5_runTop 96 = .ok (.iconst 0, 1) := by decide +kernel
theorem dX5_runTop_97 : decode cX5_runTop 97 = .ok (.ireturn, 1) := by decide +kernel
theorem dX5_runUnder_0 : decode cX5_runUnder 0 = .ok (.getstatic 26, 3) := by decide +kernel
theorem dX5_runUnder_3 : decode cX5_runUnder 3 = .ok (.iload_n 2, 1) := by decide +kernel
theorem dX5_runUnder_4 : decode cX5_runUnder 4 = .ok (.iaload, 1) := by decide +kernel
theorem dX5_runUnder_5 : decode cX5_runUnder 5 = .ok (.istore 5, 2) := by decide +kernel
theorem dX5_runUnder_7 : decode cX5_runUnder 7 = .ok (.iload_n 1, 1) := by decide +kernel
theorem dX5_runUnder_8 : decode cX5_runUnder 8 = .ok (.lookupswitch 222 #[(20, 84), (30, 97), (40, 109), (41, 122), (50, 135), (60, 159), (70, 172), (80, 185), (81, 209)], 84) := by decide +kernel
theorem dX5_runUnder_92 : decode cX5_runUnder 92 = .ok (.aload_n 0, 1) := by decide +kernel
theorem dX5_runUnder_93 : decode cX5_runUnder 93 = .ok (.iload 5, 2) := by decide +kernel
theorem dX5_runUnder_95 : decode cX5_runUnder 95 = .ok (.iconst 0, 1) := by decide +kernel
theorem dX5_runUnder_96 : decode cX5_runUnder 96 = .ok (.iload_n 3, 1) := by decide +kernel
theorem dX5_runUnder_97 : decode cX5_runUnder 97 = .ok (.iload 4, 2) := by decide +kernel
theorem dX5_runUnder_99 : decode cX5_runUnder 99 = .ok (.invokevirtual 44, 3) := by decide +kernel
theorem dX5_runUnder_102 : decode cX5_runUnder 102 = .ok (.iconst 3, 1) := by decide +kernel
theorem dX5_runUnder_103 : decode cX5_runUnder 103 = .ok (.iadd, 1) := by decide +kernel
theorem dX5_runUnder_104 : decode cX5_runUnder 104 = .ok (.ireturn, 1) := by decide +kernel
theorem dX5_runUnder_105 : decode cX5_runUnder 105 = .ok (.aload_n 0, 1) := by decide +kernel
theorem dX5_runUnder_106 : decode cX5_runUnder 106 = .ok (.iload 5, 2) := by decide +kernel
theorem dX5_runUnder_108 : decode cX5_runUnder 108 = .ok (.iconst 1, 1) := by decide +kernel
theorem dX5_runUnder_109 : decode cX5_runUnder 109 = .ok (.iload_n 3, 1) := by decide +kernel
theorem dX5_runUnder_110 : decode cX5_runUnder 110 = .ok (.iload 4, 2) := by decide +kernel
theorem dX5_runUnder_112 : decode cX5_runUnder 112 = .ok (.invokevirtual 44, 3) := by decide +kernel
theorem dX5_runUnder_115 : decode cX5_runUnder 115 = .ok (.ineg, 1) := by decide +kernel
theorem dX5_runUnder_116 : decode cX5_runUnder 116 = .ok (.ireturn, 1) := by decide +kernel
theorem dX5_runUnder_117 : decode cX5_runUnder 117 = .ok (.aload_n 0, 1) := by decide +kernel
theorem dX5_runUnder_118 : decode cX5_runUnder 118 = .ok (.iload 5, 2) := by decide +kernel
theorem dX5_runUnder_120 : decode cX5_runUnder 120 = .ok (.iconst 2, 1) := by decide +kernel
theorem dX5_runUnder_121 : decode cX5_runUnder 121 = .ok (.iload_n 3, 1) := by decide +kernel
theorem dX5_runUnder_122 : decode cX5_runUnder 122 = .ok (.iload 4, 2) := by decide +kernel
theorem dX5_runUnder_124 : decode cX5_runUnder 124 = .ok (.invokevirtual 44, 3) := by decide +kernel
theorem dX5_runUnder_127 : decode cX5_runUnder 127 = .ok (.iconst 3, 1) := by decide +kernel
theorem dX5_runUnder_128 : decode cX5_runUnder 128 = .ok (.imul, 1) := by decide +kernel
theorem dX5_runUnder_129 : decode cX5_runUnder 129 = .ok (.ireturn, 1) := by decide +kernel
theorem dX5_runUnder_130 : decode cX5_runUnder 130 = .ok (.aload_n 0, 1) := by decide +kernel
theorem dX5_runUnder_131 : decode cX5_runUnder 131 = .ok (.iload 5, 2) := by decide +kernel
theorem dX5_runUnder_133 : decode cX5_runUnder 133 = .ok (.iconst 1, 1) := by decide +kernel
theorem dX5_runUnder_134 : decode cX5_runUnder 134 = .ok (.iload_n 3, 1) := by decide +kernel
theorem dX5_runUnder_135 : decode cX5_runUnder 135 = .ok (.iconst 1, 1) := by decide +kernel
theorem dX5_runUnder_136 : decode cX5_runUnder 136 = .ok (.iadd, 1) := by decide +kernel
theorem dX5_runUnder_137 : decode cX5_runUnder 137 = .ok (.iload 4, 2) := by decide +kernel
theorem dX5_runUnder_139 : decode cX5_runUnder 139 = .ok (.invokevirtual 44, 3) := by decide +kernel
theorem dX5_runUnder_142 : decode cX5_runUnder 142 = .ok (.ireturn, 1) := by decide +kernel
theorem dX5_runUnder_143 : decode cX5_runUnder 143 = .ok (.aload_n 0, 1) := by decide +kernel
theorem dX5_runUnder_144 : decode cX5_runUnder 144 = .ok (.iload 5, 2) := by decide +kernel
theorem dX5_runUnder_146 : decode cX5_runUnder 146 = .ok (.iconst 2, 1) := by decide +kernel
theorem dX5_runUnder_147 : decode cX5_runUnder 147 = .ok (.iload_n 3, 1) := by decide +kernel
theorem dX5_runUnder_148 : decode cX5_runUnder 148 = .ok (.iload 4, 2) := by decide +kernel
theorem dX5_runUnder_150 : decode cX5_runUnder 150 = .ok (.invokevirtual 44, 3) := by decide +kernel
theorem dX5_runUnder_153 : decode cX5_runUnder 153 = .ok (.aload_n 0, 1) := by decide +kernel
theorem dX5_runUnder_154 : decode cX5_runUnder 154 = .ok (.aload_n 0, 1) := by decide +kernel
theorem dX5_runUnder_155 : decode cX5_runUnder 155 = .ok (.getfield 41, 3) := by decide +kernel
theorem dX5_runUnder_158 : decode cX5_runUnder 158 = .ok (.iconst 0, 1) := by decide +kernel
theorem dX5_runUnder_159 : decode cX5_runUnder 159 = .ok (.iconst 2, 1) := by decide +kernel
theorem dX5_runUnder_160 : decode cX5_runUnder 160 = .ok (.iload 4, 2) := by decide +kernel
theorem dX5_runUnder_162 : decode cX5_runUnder 162 = .ok (.invokevirtual 44, 3) := by decide +kernel
theorem dX5_runUnder_165 : decode cX5_runUnder 165 = .ok (.isub, 1) := by decide +kernel
theorem dX5_runUnder_166 : decode cX5_runUnder 166 = .ok (.ireturn, 1) := by decide +kernel
theorem dX5_runUnder_167 : decode cX5_runUnder 167 = .ok (.aload_n 0, 1) := by decide +kernel
theorem dX5_runUnder_168 : decode cX5_runUnder 168 = .ok (.iload 5, 2) := by decide +kernel
theorem dX5_runUnder_170 : decode cX5_runUnder 170 = .ok (.iconst 3, 1) := by decide +kernel
theorem dX5_runUnder_171 : decode cX5_runUnder 171 = .ok (.iload_n 3, 1) := by decide +kernel
theorem dX5_runUnder_172 : decode cX5_runUnder 172 = .ok (.iload 4, 2) := by decide +kernel
theorem dX5_runUnder_174 : decode cX5_runUnder 174 = .ok (.invokevirtual 44, 3) := by decide +kernel
theorem dX5_runUnder_177 : decode cX5_runUnder 177 = .ok (.iconst 5, 1) := by decide +kernel
theorem dX5_runUnder_178 : decode cX5_runUnder 178 = .ok (.ixor, 1) := by decide +kernel
theorem dX5_runUnder_179 : decode cX5_runUnder 179 = .ok (.ireturn, 1) := by decide +kernel
theorem dX5_runUnder_180 : decode cX5_runUnder 180 = .ok (.aload_n 0, 1) := by decide +kernel
theorem dX5_runUnder_181 : decode cX5_runUnder 181 = .ok (.iload 5, 2) := by decide +kernel
theorem dX5_runUnder_183 : decode cX5_runUnder 183 = .ok (.iconst 0, 1) := by decide +kernel
theorem dX5_runUnder_184 : decode cX5_runUnder 184 = .ok (.iload_n 3, 1) := by decide +kernel
theorem dX5_runUnder_185 : decode cX5_runUnder 185 = .ok (.iload 4, 2) := by decide +kernel
theorem dX5_runUnder_187 : decode cX5_runUnder 187 = .ok (.invokevirtual 44, 3) := by decide +kernel
theorem dX5_runUnder_190 : decode cX5_runUnder 190 = .ok (.iconst 2, 1) := by decide +kernel
theorem dX5_runUnder_191 : decode cX5_runUnder 191 = .ok (.imul, 1) := by decide +kernel
theorem dX5_runUnder_192 : decode cX5_runUnder 192 = .ok (.ireturn, 1) := by decide +kernel
theorem dX5_runUnder_193 : decode cX5_runUnder 193 = .ok (.aload_n 0, 1) := by decide +kernel
theorem dX5_runUnder_194 : decode cX5_runUnder 194 = .ok (.iload 5, 2) := by decide +kernel
theorem dX5_runUnder_196 : decode cX5_runUnder 196 = .ok (.iconst 1, 1) := by decide +kernel
theorem dX5_runUnder_197 : decode cX5_runUnder 197 = .ok (.iload_n 3, 1) := by decide +kernel
theorem dX5_runUnder_198 : decode cX5_runUnder 198 = .ok (.iload 4, 2) := by decide +kernel
theorem dX5_runUnder_200 : decode cX5_runUnder 200 = .ok (.invokevirtual 44, 3) := by decide +kernel
theorem dX5_runUnder_203 : decode cX5_runUnder 203 = .ok (.aload_n 0, 1) := by decide +kernel
theorem dX5_runUnder_204 : decode cX5_runUnder 204 = .ok (.aload_n 0, 1) := by decide +kernel
theorem dX5_runUnder_205 : decode cX5_runUnder 205 = .ok (.getfield 41, 3) := by decide +kernel
theorem dX5_runUnder_208 : decode cX5_runUnder 208 = .ok (.iconst 2, 1) := by decide +kernel
theorem dX5_runUnder_209 : decode cX5_runUnder 209 = .ok (.iconst 2, 1) := by decide +kernel
theorem dX5_runUnder_210 : decode cX5_runUnder 210 = .ok (.iload 4, 2) := by decide +kernel
theorem dX5_runUnder_212 : decode cX5_runUnder 212 = .ok (.invokevirtual 44, 3) := by decide +kernel
theorem dX5_runUnder_215 : decode cX5_runUnder 215 = .ok (.iadd, 1) := by decide +kernel
theorem dX5_runUnder_216 : decode cX5_runUnder 216 = .ok (.ireturn, 1) := by decide +kernel
theorem dX5_runUnder_217 : decode cX5_runUnder 217 = .ok (.aload_n 0, 1) := by decide +kernel
theorem dX5_runUnder_218 : decode cX5_runUnder 218 = .ok (.iload 5, 2) := by decide +kernel
theorem dX5_runUnder_220 : decode cX5_runUnder 220 = .ok (.iconst 3, 1) := by decide +kernel
theorem dX5_runUnder_221 : decode cX5_runUnder 221 = .ok (.iload_n 3, 1) := by decide +kernel
theorem dX5_runUnder_222 : decode cX5_runUnder 222 = .ok (.iload 4, 2) := by decide +kernel
theorem dX5_runUnder_224 : decode cX5_runUnder 224 = .ok (.invokevirtual 44, 3) := by decide +kernel
theorem dX5_runUnder_227 : decode cX5_runUnder 227 = .ok (.iconst 1, 1) := by decide +kernel
theorem dX5_runUnder_228 : decode cX5_runUnder 228 = .ok (.isub, 1) := by decide +kernel
theorem dX5_runUnder_229 : decode cX5_runUnder 229 = .ok (.ireturn, 1) := by decide +kernel
theorem dX5_runUnder_230 : decode cX5_runUnder 230 = .ok (.iconst 0, 1) := by decide +kernel
theorem dX5_runUnder_231 : decode cX5_runUnder 231 = .ok (.ireturn, 1) := by decide +kernel
theorem dX6_init_0 : decode cX6_init 0 = .ok (.aload_n 0, 1) := by decide +kernel
theorem dX6_init_1 : decode cX6_init 1 = .ok (.invokespecial 1, 3) := by decide +kernel
theorem dX6_init_4 : decode cX6_init 4 = .ok (.aload_n 0, 1) := by decide +kernel
theorem dX6_init_5 : decode cX6_init 5 = .ok (.bipush 60, 2) := by decide +kernel
theorem dX6_init_7 : decode cX6_init 7 = .ok (.newarray .long, 2) := by decide +kernel
theorem dX6_init_9 : decode cX6_init 9 = .ok (.putfield 9, 3) := by decide +kernel
theorem dX6_init_12 : decode cX6_init 12 = .ok (.aload_n 0, 1) := by decide +kernel
theorem dX6_init_13 : decode cX6_init 13 = .ok (.iconst (-1), 1) := by decide +kernel
theorem dX6_init_14 : decode cX6_init 14 = .ok (.putfield 13, 3) := by decide +kernel
theorem dX6_init_17 : decode cX6_init 17 = .ok (.return_, 1) := by decide +kernel
theorem dX6_isEmpty_0 : decode cX6_isEmpty 0 = .ok (.aload_n 0, 1) := by decide +kernel
theorem dX6_isEmpty_1 : decode cX6_isEmpty 1 = .ok (.getfield 17, 3) := by decide +kernel
theorem dX6_isEmpty_4 : decode cX6_isEmpty 4 = .ok (.ifCond .ne 15, 3) := by decide +kernel
theorem dX6_isEmpty_7 : decode cX6_isEmpty 7 = .ok (.aload_n 0, 1) := by decide +kernel
theorem dX6_isEmpty_8 : decode cX6_isEmpty 8 = .ok (.getfield 13, 3) := by decide +kernel
theorem dX6_isEmpty_11 : decode cX6_isEmpty 11 = .ok (.iconst (-1), 1) := by decide +kernel
theorem dX6_isEmpty_12 : decode cX6_isEmpty 12 = .ok (.if_icmp .ne 7, 3) := by decide +kernel
theorem dX6_isEmpty_15 : decode cX6_isEmpty 15 = .ok (.iconst 1, 1) := by decide +kernel
theorem dX6_isEmpty_16 : decode cX6_isEmpty 16 = .ok (.goto 4, 3) := by decide +kernel
theorem dX6_isEmpty_19 : decode cX6_isEmpty 19 = .ok (.iconst 0, 1) := by decide +kernel
theorem dX6_isEmpty_20 : decode cX6_isEmpty 20 = .ok (.ireturn, 1) := by decide +kernel
theorem dX6_isRow_0 : decode cX6_isRow 0 = .ok (.aload_n 0, 1) := by decide +kernel
theorem dX6_isRow_1 : decode cX6_isRow 1 = .ok (.getfield 17, 3) := by decide +kernel
theorem dX6_isRow_4 : decode cX6_isRow 4 = .ok (.ireturn, 1) := by decide +kernel
theorem dX6_isRowOf_0 : decode cX6_isRowOf 0 = .ok (.aload_n 0, 1) := by decide +kernel
theorem dX6_isRowOf_1 : decode cX6_isRowOf 1 = .ok (.getfield 17, 3) := by decide +kernel
theorem dX6_isRowOf_4 : decode cX6_isRowOf 4 = .ok (.ifCond .eq 15, 3) := by decide +kernel
theorem dX6_isRowOf_7 : decode cX6_isRowOf 7 = .ok (.aload_n 0, 1) := by decide +kernel
theorem dX6_isRowOf_8 : decode cX6_isRowOf 8 = .ok (.getfield 21, 3) := by decide +kernel
theorem dX6_isRowOf_11 : decode cX6_isRowOf 11 = .ok (.iload_n 1, 1) := by decide +kernel
theorem dX6_isRowOf_12 : decode cX6_isRowOf 12 = .ok (.if_icmp .ne 7, 3) := by decide +kernel
theorem dX6_isRowOf_15 : decode cX6_isRowOf 15 = .ok (.iconst 1, 1) := by decide +kernel
theorem dX6_isRowOf_16 : decode cX6_isRowOf 16 = .ok (.goto 4, 3) := by decide +kernel
theorem dX6_isRowOf_19 : decode cX6_isRowOf 19 = .ok (.iconst 0, 1) := by decide +kernel
theorem dX6_isRowOf_20 : decode cX6_isRowOf 20 = .ok (.ireturn, 1) := by decide +kernel
theorem dX6_holdSaucer_0 : decode cX6_holdSaucer 0 = .ok (.aload_n 0, 1) := by decide +kernel
theorem dX6_holdSaucer_1 : decode cX6_holdSaucer 1 = .ok (.iload_n 1, 1) := by decide +kernel
theorem dX6_holdSaucer_2 : decode cX6_holdSaucer 2 = .ok (.putfield 13, 3) := by decide +kernel
theorem dX6_holdSaucer_5 : decode cX6_holdSaucer 5 = .ok (.aload_n 0, 1) := by decide +kernel
theorem dX6_holdSaucer_6 : decode cX6_holdSaucer 6 = .ok (.iconst 0, 1) := by decide +kernel
theorem dX6_holdSaucer_7 : decode cX6_holdSaucer 7 = .ok (.putfield 17, 3) := by decide +kernel
theorem dX6_holdSaucer_10 : decode cX6_holdSaucer 10 = .ok (.aload_n 0, 1) := by decide +kernel
theorem dX6_holdSaucer_11 : decode cX6_holdSaucer 11 = .ok (.iconst 0, 1) := by decide +kernel
theorem dX6_holdSaucer_12 : decode cX6_holdSaucer 12 = .ok (.putfield 24, 3) := by decide +kernel
theorem dX6_holdSaucer_15 : decode cX6_holdSaucer 15 = .ok (.return_, 1) := by decide +kernel
theorem dX6_holdRow_0 : decode cX6_holdRow 0 = .ok (.aload_n 0, 1) := by decide +kernel
theorem dX6_holdRow_1 : decode cX6_holdRow 1 = .ok (.iconst (-1), 1) := by decide +kernel
theorem dX6_holdRow_2 : decode cX6_holdRow 2 = .ok (.putfield 13, 3) := by decide +kernel
theorem dX6_holdRow_5 : decode cX6_holdRow 5 = .ok (.aload_n 0, 1) := by decide +kernel
theorem dX6_holdRow_6 : decode cX6_holdRow 6 = .ok (.iconst 1, 1) := by decide +kernel
theorem dX6_holdRow_7 : decode cX6_holdRow 7 = .ok (.putfield 17, 3) := by decide +kernel
theorem dX6_holdRow_10 : decode cX6_holdRow 10 = .ok (.aload_n 0, 1) := by decide +kernel
theorem dX6_holdRow_11 : decode cX6_holdRow 11 = .ok (.iload_n 1, 1) := by decide +kernel
theorem dX6_holdRow_12 : decode cX6_holdRow 12 = .ok (.putfield 21, 3) := by decide +kernel
theorem dX6_holdRow_15 : decode cX6_holdRow 15 = .ok (.aload_n 0, 1) := by decide +kernel
theorem dX6_holdRow_16 : decode cX6_holdRow 16 = .ok (.iload_n 2, 1) := by decide +kernel
theorem dX6_holdRow_17 : decode cX6_holdRow 17 = .ok (.bipush 60, 2) := by decide +kernel
theorem dX6_holdRow_19 : decode cX6_holdRow 19 = .ok (.invokestatic 27, 3) := by decide +kernel
theorem dX6_holdRow_22 : decode cX6_holdRow 22 = .ok (.putfield 24, 3) := by decide +kernel
theorem dX6_holdRow_25 : decode cX6_holdRow 25 = .ok (.iconst 0, 1) := by decide +kernel
theorem dX6_holdRow_26 : decode cX6_holdRow 26 = .ok (.istore_n 3, 1) := by decide +kernel
theorem dX6_holdRow_27 : decode cX6_holdRow 27 = .ok (.iload_n 3, 1) := by decide +kernel
theorem dX6_holdRow_28 : decode cX6_holdRow 28 = .ok (.bipush 60, 2) := by decide +kernel
theorem dX6_holdRow_30 : decode cX6_holdRow 30 = .ok (.if_icmp .ge 16, 3) := by decide +kernel
theorem dX6_holdRow_33 : decode cX6_holdRow 33 = .ok (.aload_n 0, 1) := by decide +kernel
theorem dX6_holdRow_34 : decode cX6_holdRow 34 = .ok (.getfield 9, 3) := by decide +kernel
theorem dX6_holdRow_37 : decode cX6_holdRow 37 = .ok (.iload_n 3, 1) := by decide +kernel
theorem dX6_holdRow_38 : decode cX6_holdRow 38 = .ok (.lconst 0, 1) := by decide +kernel
theorem dX6_holdRow_39 : decode cX6_holdRow 39 = .ok (.lastore, 1) := by decide +kernel
theorem dX6_holdRow_40 : decode cX6_holdRow 40 = .ok (.iinc 3 1, 3) := by decide +kernel
theorem dX6_holdRow_43 : decode cX6_holdRow 43 = .ok (.goto (-16), 3) := by decide +kernel
theorem dX6_holdRow_46 : decode cX6_holdRow 46 = .ok (.return_, 1) := by decide +kernel
theorem dX6_hasPlaces_0 : decode cX6_hasPlaces 0 = .ok (.iload_n 1, 1) := by decide +kernel
theorem dX6_hasPlaces_1 : decode cX6_hasPlaces 1 = .ok (.ifCond .lt 25, 3) := by decide +kernel
theorem dX6_hasPlaces_4 : decode cX6_hasPlaces 4 = .ok (.iload_n 2, 1) := by decide +kernel
theorem dX6_hasPlaces_5 : decode cX6_hasPlaces 5 = .ok (.ifCond .lt 21, 3) := by decide +kernel
theorem dX6_hasPlaces_8 : decode cX6_hasPlaces 8 = .ok (.iload_n 1, 1) := by decide +kernel
theorem dX6_hasPlaces_9 : decode cX6_hasPlaces 9 = .ok (.i2l, 1) := by decide +kernel
theorem dX6_hasPlaces_10 : decode cX6_hasPlaces 10 = .ok (.iload_n 2, 1) := by decide +kernel
theorem dX6_hasPlaces_11 : decode cX6_hasPlaces 11 = .ok (.i2l, 1) := by decide +kernel
theorem dX6_hasPlaces_12 : decode cX6_hasPlaces 12 = .ok (.ladd, 1) := by decide +kernel
theorem dX6_hasPlaces_13 : decode cX6_hasPlaces 13 = .ok (.aload_n 0, 1) := by decide +kernel
theorem dX6_hasPlaces_14 : decode cX6_hasPlaces 14 = .ok (.getfield 24, 3) := by decide +kernel
theorem dX6_hasPlaces_17 : decode cX6_hasPlaces 17 = .ok (.i2l, 1) := by decide +kernel
theorem dX6_hasPlaces_18 : decode cX6_hasPlaces 18 = .ok (.lcmp, 1) := by decide +kernel
theorem dX6_hasPlaces_19 : decode cX6_hasPlaces 19 = .ok (.ifCond .gt 7, 3) := by decide +kernel
theorem dX6_hasPlaces_22 : decode cX6_hasPlaces 22 = .ok (.iconst 1, 1) := by decide +kernel
theorem dX6_hasPlaces_23 : decode cX6_hasPlaces 23 = .ok (.goto 4, 3) := by decide +kernel
theorem dX6_hasPlaces_26 : decode cX6_hasPlaces 26 = .ok (.iconst 0, 1) := by decide +kernel
theorem dX6_hasPlaces_27 : decode cX6_hasPlaces 27 = .ok (.ireturn, 1) := by decide +kernel
theorem dX6_at_0 : decode cX6_at 0 = .ok (.iload_n 1, 1) := by decide +kernel
theorem dX6_at_1 : decode cX6_at 1 = .ok (.ifCond .lt 20, 3) := by decide +kernel
theorem dX6_at_4 : decode cX6_at 4 = .ok (.iload_n 1, 1) := by decide +kernel
theorem dX6_at_5 : decode cX6_at 5 = .ok (.aload_n 0, 1) := by decide +kernel
theorem dX6_at_6 : decode cX6_at 6 = .ok (.getfield 24, 3) := by decide +kernel
theorem dX6_at_9 : decode cX6_at 9 = .ok (.if_icmp .ge 12, 3) := by decide +kernel
theorem dX6_at_12 : decode cX6_at 12 = .ok (.aload_n 0, 1) := by decide +kernel
theorem dX6_at_13 : decode cX6_at 13 = .ok (.getfield 9, 3) := by decide +kernel
theorem dX6_at_16 : decode cX6_at 16 = .ok (.iload_n 1, 1) := by decide +kernel
theorem dX6_at_17 : decode cX6_at 17 = .ok (.laload, 1) := by decide +kernel
theorem dX6_at_18 : decode cX6_at 18 = .ok (.goto 4, 3) := by decide +kernel
theorem dX6_at_21 : decode cX6_at 21 = .ok (.lconst 0, 1) := by decide +kernel
theorem dX6_at_22 : decode cX6_at 22 = .ok (.lreturn, 1) := by decide +kernel
theorem dX6_set_0 : decode cX6_set 0 = .ok (.iload_n 1, 1) := by decide +kernel
theorem dX6_set_1 : decode cX6_set 1 = .ok (.ifCond .lt 22, 3) := by decide +kernel
theorem dX6_set_4 : decode cX6_set 4 = .ok (.iload_n 1, 1) := by decide +kernel
theorem dX6_set_5 : decode cX6_set 5 = .ok (.aload_n 0, 1) := by decide +kernel
theorem dX6_set_6 : decode cX6_set 6 = .ok (.getfield 24, 3) := by decide +kernel
theorem dX6_set_9 : decode cX6_set 9 = .ok (.if_icmp .ge 14, 3) := by decide +kernel
theorem dX6_set_12 : decode cX6_set 12 = .ok (.aload_n 0, 1) := by decide +kernel
theorem dX6_set_13 : decode cX6_set 13 = .ok (.getfield 9, 3) := by decide +kernel
theorem dX6_set_16 : decode cX6_set 16 = .ok (.iload_n 1, 1) := by decide +kernel
theorem dX6_set_17 : decode cX6_set 17 = .ok (.aload_n 0, 1) := by decide +kernel
theorem dX6_set_18 : decode cX6_set 18 = .ok (.lload_n 2, 1) := by decide +kernel
theorem dX6_set_19 : decode cX6_set 19 = .ok (.invokevirtual 33, 3) := by decide +kernel
theorem dX6_set_22 : decode cX6_set 22 = .ok (.lastore, 1) := by decide +kernel
theorem dX6_set_23 : decode cX6_set 23 = .ok (.return_, 1) := by decide +kernel
theorem dX6_lowestBits_0 : decode cX6_lowestBits 0 = .ok (.aload_n 0, 1) := by decide +kernel
theorem dX6_lowestBits_1 : decode cX6_lowestBits 1 = .ok (.getfield 21, 3) := by decide +kernel
theorem dX6_lowestBits_4 : decode cX6_lowestBits 4 = .ok (.tableswitch 48 0 3 #[32, 37, 42, 46], 32) := by decide +kernel
theorem dX6_lowestBits_36 : decode cX6_lowestBits 36 = .ok (.lload_n 1, 1) := by decide +kernel
theorem dX6_lowestBits_37 : decode cX6_lowestBits 37 = .ok (.l2i, 1) := by decide +kernel
theorem dX6_lowestBits_38 : decode cX6_lowestBits 38 = .ok (.i2b, 1) := by decide +kernel
theorem dX6_lowestBits_39 : decode cX6_lowestBits 39 = .ok (.i2l, 1) := by decide +kernel
theorem dX6_lowestBits_40 : decode cX6_lowestBits 40 = .ok (.lreturn, 1) := by decide +kernel
theorem dX6_lowestBits_41 : decode cX6_lowestBits 41 = .ok (.lload_n 1, 1) := by decide +kernel
theorem dX6_lowestBits_42 : decode cX6_lowestBits 42 = .ok (.l2i, 1) := by decide +kernel
theorem dX6_lowestBits_43 : decode cX6_lowestBits 43 = .ok (.i2s, 1) := by decide +kernel
theorem dX6_lowestBits_44 : decode cX6_lowestBits 44 = .ok (.i2l, 1) := by decide +kernel
theorem dX6_lowestBits_45 : decode cX6_lowestBits 45 = .ok (.lreturn, 1) := by decide +kernel
theorem dX6_lowestBits_46 : decode cX6_lowestBits 46 = .ok (.lload_n 1, 1) := by decide +kernel
theorem dX6_lowestBits_47 : decode cX6_lowestBits 47 = .ok (.l2i, 1) := by decide +kernel
theorem dX6_lowestBits_48 : decode cX6_lowestBits 48 = .ok (.i2l, 1) := by decide +kernel
theorem dX6_lowestBits_49 : decode cX6_lowestBits 49 = .ok (.lreturn, 1) := by decide +kernel
theorem dX6_lowestBits_50 : decode cX6_lowestBits 50 = .ok (.lload_n 1, 1) := by decide +kernel
theorem dX6_lowestBits_51 : decode cX6_lowestBits 51 = .ok (.lreturn, 1) := by decide +kernel
theorem dX6_lowestBits_52 : decode cX6_lowestBits 52 = .ok (.lload_n 1, 1) := by decide +kernel
theorem dX6_lowestBits_53 : decode cX6_lowestBits 53 = .ok (.lconst 0, 1) := by decide +kernel
theorem dX6_lowestBits_54 : decode cX6_lowestBits 54 = .ok (.lcmp, 1) := by decide +kernel
theorem dX6_lowestBits_55 : decode cX6_lowestBits 55 = .ok (.ifCond .eq 7, 3) := by decide +kernel
theorem dX6_lowestBits_58 : decode cX6_lowestBits 58 = .ok (.lconst 1, 1) := by decide +kernel
theorem dX6_lowestBits_59 : decode cX6_lowestBits 59 = .ok (.goto 4, 3) := by decide +kernel
theorem dX6_lowestBits_62 : decode cX6_lowestBits 62 = .ok (.lconst 0, 1) := by decide +kernel
theorem dX6_lowestBits_63 : decode cX6_lowestBits 63 = .ok (.lreturn, 1) := by decide +kernel
theorem dX7_init_0 : decode cX7_init 0 = .ok (.aload_n 0, 1) := by decide +kernel
theorem dX7_init_1 : decode cX7_init 1 = .ok (.invokespecial 3, 3) := by decide +kernel
theorem dX7_init_4 : decode cX7_init 4 = .ok (.aload_n 0, 1) := by decide +kernel
theorem dX7_init_5 : decode cX7_init 5 = .ok (.new 9, 3) := by decide +kernel
theorem dX7_init_8 : decode cX7_init 8 = .ok (.dup, 1) := by decide +kernel
theorem dX7_init_9 : decode cX7_init 9 = .ok (.invokespecial 11, 3) := by decide +kernel
theorem dX7_init_12 : decode cX7_init 12 = .ok (.putfield 12, 3) := by decide +kernel
theorem dX7_init_15 : decode cX7_init 15 = .ok (.aload_n 0, 1) := by decide +kernel
theorem dX7_init_16 : decode cX7_init 16 = .ok (.aload_n 1, 1) := by decide +kernel
theorem dX7_init_17 : decode cX7_init 17 = .ok (.putfield 18, 3) := by decide +kernel
theorem dX7_init_20 : decode cX7_init 20 = .ok (.aload_n 0, 1) := by decide +kernel
theorem dX7_init_21 : decode cX7_init 21 = .ok (.aload_n 2, 1) := by decide +kernel
theorem dX7_init_22 : decode cX7_init 22 = .ok (.putfield 21, 3) := by decide +kernel
theorem dX7_init_25 : decode cX7_init 25 = .ok (.return_, 1) := by decide +kernel
theorem dX7_behind_0 : decode cX7_behind 0 = .ok (.aload_n 0, 1) := by decide +kernel
theorem dX7_behind_1 : decode cX7_behind 1 = .ok (.getfield 12, 3) := by decide +kernel
theorem dX7_behind_4 : decode cX7_behind 4 = .ok (.aload_n 0, 1) := by decide +kernel
theorem dX7_behind_5 : decode cX7_behind 5 = .ok (.getfield 18, 3) := by decide +kernel
theorem dX7_behind_8 : decode cX7_behind 8 = .ok (.invokevirtual 25, 3) := by decide +kernel
theorem dX7_behind_11 : decode cX7_behind 11 = .ok (.iconst 0, 1) := by decide +kernel
theorem dX7_behind_12 : decode cX7_behind 12 = .ok (.istore_n 2, 1) := by decide +kernel
theorem dX7_behind_13 : decode cX7_behind 13 = .ok (.iload_n 2, 1) := by decide +kernel
theorem dX7_behind_14 : decode cX7_behind 14 = .ok (.iload_n 1, 1) := by decide +kernel
theorem dX7_behind_15 : decode cX7_behind 15 = .ok (.if_icmp .ge 20, 3) := by decide +kernel
theorem dX7_behind_18 : decode cX7_behind 18 = .ok (.aload_n 0, 1) := by decide +kernel
theorem dX7_behind_19 : decode cX7_behind 19 = .ok (.getfield 12, 3) := by decide +kernel
theorem dX7_behind_22 : decode cX7_behind 22 = .ok (.aload_n 0, 1) := by decide +kernel
theorem dX7_behind_23 : decode cX7_behind 23 = .ok (.getfield 21, 3) := by decide +kernel
theorem dX7_behind_26 : decode cX7_behind 26 = .ok (.invokevirtual 29, 3) := by decide +kernel
theorem dX7_behind_29 : decode cX7_behind 29 = .ok (.iinc 2 1, 3) := by decide +kernel
theorem dX7_behind_32 : decode cX7_behind 32 = .ok (.goto (-19), 3) := by decide +kernel
theorem dX7_behind_35 : decode cX7_behind 35 = .ok (.aload_n 0, 1) := by decide +kernel
theorem dX7_behind_36 : decode cX7_behind 36 = .ok (.getfield 12, 3) := by decide +kernel
theorem dX7_behind_39 : decode cX7_behind 39 = .ok (.areturn, 1) := by decide +kernel
theorem dX7_firstDark_0 : decode cX7_firstDark 0 = .ok (.aload_n 0, 1) := by decide +kernel
theorem dX7_firstDark_1 : decode cX7_firstDark 1 = .ok (.getfield 12, 3) := by decide +kernel
theorem dX7_firstDark_4 : decode cX7_firstDark 4 = .ok (.aload_n 0, 1) := by decide +kernel
theorem dX7_firstDark_5 : decode cX7_firstDark 5 = .ok (.getfield 18, 3) := by decide +kernel
theorem dX7_firstDark_8 : decode cX7_firstDark 8 = .ok (.invokevirtual 25, 3) := by decide +kernel
theorem dX7_firstDark_11 : decode cX7_firstDark 11 = .ok (.aload_n 0, 1) := by decide +kernel
theorem dX7_firstDark_12 : decode cX7_firstDark 12 = .ok (.iload_n 1, 1) := by decide +kernel
theorem dX7_firstDark_13 : decode cX7_firstDark 13 = .ok (.bipush 48, 2) := by decide +kernel
theorem dX7_firstDark_15 : decode cX7_firstDark 15 = .ok (.invokevirtual 33, 3) := by decide +kernel
theorem dX7_firstDark_18 : decode cX7_firstDark 18 = .ok (.ireturn, 1) := by decide +kernel
theorem dX7_darkWithin_0 : decode cX7_darkWithin 0 = .ok (.iconst 0, 1) := by decide +kernel
theorem dX7_darkWithin_1 : decode cX7_darkWithin 1 = .ok (.istore_n 3, 1) := by decide +kernel
theorem dX7_darkWithin_2 : decode cX7_darkWithin 2 = .ok (.iload_n 3, 1) := by decide +kernel
theorem dX7_darkWithin_3 : decode cX7_darkWithin 3 = .ok (.iload_n 2, 1) := by decide +kernel
theorem dX7_darkWithin_4 : decode cX7_darkWithin 4 = .ok (.if_icmp .ge 33, 3) := by decide +kernel
theorem dX7_darkWithin_7 : decode cX7_darkWithin 7 = .ok (.aload_n 0, 1) := by decide +kernel
theorem dX7_darkWithin_8 : decode cX7_darkWithin 8 = .ok (.getfield 12, 3) := by decide +kernel
theorem dX7_darkWithin_11 : decode cX7_darkWithin 11 = .ok (.iload_n 1, 1) := by decide +kernel
theorem dX7_darkWithin_12 : decode cX7_darkWithin 12 = .ok (.invokevirtual 37, 3) := by decide +kernel
theorem dX7_darkWithin_15 : decode cX7_darkWithin 15 = .ok (.ifCond .eq 5, 3) := by decide +kernel
theorem dX7_darkWithin_18 : decode cX7_darkWithin 18 = .ok (.iload_n 3, 1) := by decide +kernel
theorem dX7_darkWithin_19 : decode cX7_darkWithin 19 = .ok (.ireturn, 1) := by decide +kernel
theorem dX7_darkWithin_20 : decode cX7_darkWithin 20 = .ok (.aload_n 0, 1) := by decide +kernel
theorem dX7_darkWithin_21 : decode cX7_darkWithin 21 = .ok (.getfield 12, 3) := by decide +kernel
theorem dX7_darkWithin_24 : decode cX7_darkWithin 24 = .ok (.aload_n 0, 1) := by decide +kernel
theorem dX7_darkWithin_25 : decode cX7_darkWithin 25 = .ok (.getfield 21, 3) := by decide +kernel
theorem dX7_darkWithin_28 : decode cX7_darkWithin 28 = .ok (.invokevirtual 29, 3) := by decide +kernel
theorem dX7_darkWithin_31 : decode cX7_darkWithin 31 = .ok (.iinc 3 1, 3) := by decide +kernel
theorem dX7_darkWithin_34 : decode cX7_darkWithin 34 = .ok (.goto (-32), 3) := by decide +kernel
theorem dX7_darkWithin_37 : decode cX7_darkWithin 37 = .ok (.aload_n 0, 1) := by decide +kernel
theorem dX7_darkWithin_38 : decode cX7_darkWithin 38 = .ok (.getfield 12, 3) := by decide +kernel
theorem dX7_darkWithin_41 : decode cX7_darkWithin 41 = .ok (.iload_n 1, 1) := by decide +kernel
theorem dX7_darkWithin_42 : decode cX7_darkWithin 42 = .ok (.invokevirtual 37, 3) := by decide +kernel
theorem dX7_darkWithin_45 : decode cX7_darkWithin 45 = .ok (.ifCond .eq 7, 3) := by decide +kernel
theorem dX7_darkWithin_48 : decode cX7_darkWithin 48 = .ok (.iload_n 2, 1) := by decide +kernel
theorem dX7_darkWithin_49 : decode cX7_darkWithin 49 = .ok (.goto 5, 3) := by decide +kernel
theorem dX7_darkWithin_52 : decode cX7_darkWithin 52 = .ok (.bipush (-2), 2) := by decide +kernel
theorem dX7_darkWithin_54 : decode cX7_darkWithin 54 = .ok (.ireturn, 1) := by decide +kernel
theorem dX7_firstStill_0 : decode cX7_firstStill 0 = .ok (.aload_n 0, 1) := by decide +kernel
theorem dX7_firstStill_1 : decode cX7_firstStill 1 = .ok (.getfield 12, 3) := by decide +kernel
theorem dX7_firstStill_4 : decode cX7_firstStill 4 = .ok (.aload_n 0, 1) := by decide +kernel
theorem dX7_firstStill_5 : decode cX7_firstStill 5 = .ok (.getfield 18, 3) := by decide +kernel
theorem dX7_firstStill_8 : decode cX7_firstStill 8 = .ok (.invokevirtual 25, 3) := by decide +kernel
theorem dX7_firstStill_11 : decode cX7_firstStill 11 = .ok (.iconst 0, 1) := by decide +kernel
theorem dX7_firstStill_12 : decode cX7_firstStill 12 = .ok (.istore_n 1, 1) := by decide +kernel
theorem dX7_firstStill_13 : decode cX7_firstStill 13 = .ok (.iload_n 1, 1) := by decide +kernel
theorem dX7_firstStill_14 : decode cX7_firstStill 14 = .ok (.bipush 48, 2) := by decide +kernel
theorem dX7_firstStill_16 : decode cX7_firstStill 16 = .ok (.if_icmp .gt 42, 3) := by decide +kernel
theorem dX7_firstStill_19 : decode cX7_firstStill 19 = .ok (.aload_n 0, 1) := by decide +kernel
theorem dX7_firstStill_20 : decode cX7_firstStill 20 = .ok (.getfield 12, 3) := by decide +kernel
theorem dX7_firstStill_23 : decode cX7_firstStill 23 = .ok (.getfield 41, 3) := by decide +kernel
theorem dX7_firstStill_26 : decode cX7_firstStill 26 = .ok (.lstore_n 2, 1) := by decide +kernel
theorem dX7_firstStill_27 : decode cX7_firstStill 27 = .ok (.aload_n 0, 1) := by decide +kernel
theorem dX7_firstStill_28 : decode cX7_firstStill 28 = .ok (.getfield 12, 3) := by decide +kernel
theorem dX7_firstStill_31 : decode cX7_firstStill 31 = .ok (.aload_n 0, 1) := by decide +kernel
theorem dX7_firstStill_32 : decode cX7_firstStill 32 = .ok (.getfield 21, 3) := by decide +kernel
theorem dX7_firstStill_35 : decode cX7_firstStill 35 = .ok (.invokevirtual 29, 3) := by decide +kernel
theorem dX7_firstStill_38 : decode cX7_firstStill 38 = .ok (.aload_n 0, 1) := by decide +kernel
theorem dX7_firstStill_39 : decode cX7_firstStill 39 = .ok (.getfield 12, 3) := by decide +kernel
theorem dX7_firstStill_42 : decode cX7_firstStill 42 = .ok (.getfield 41, 3) := by decide +kernel
theorem dX7_firstStill_45 : decode cX7_firstStill 45 = .ok (.lload_n 2, 1) := by decide +kernel
theorem dX7_firstStill_46 : decode cX7_firstStill 46 = .ok (.lcmp, 1) := by decide +kernel
theorem dX7_firstStill_47 : decode cX7_firstStill 47 = .ok (.ifCond .ne 5, 3) := by decide +kernel
theorem dX7_firstStill_50 : decode cX7_firstStill 50 = .ok (.iload_n 1, 1) := by decide +kernel
theorem dX7_firstStill_51 : decode cX7_firstStill 51 = .ok (.ireturn, 1) := by decide +kernel
theorem dX7_firstStill_52 : decode cX7_firstStill 52 = .ok (.iinc 1 1, 3) := by decide +kernel
theorem dX7_firstStill_55 : decode cX7_firstStill 55 = .ok (.goto (-42), 3) := by decide +kernel
theorem dX7_firstStill_58 : decode cX7_firstStill 58 = .ok (.bipush (-2), 2) := by decide +kernel
theorem dX7_firstStill_60 : decode cX7_firstStill 60 = .ok (.ireturn, 1) := by decide +kernel
theorem dX7_leastWax_0 : decode cX7_leastWax 0 = .ok (.aload_n 0, 1) := by decide +kernel
theorem dX7_leastWax_1 : decode cX7_leastWax 1 = .ok (.getfield 18, 3) := by decide +kernel
theorem dX7_leastWax_4 : decode cX7_leastWax 4 = .ok (.iload_n 1, 1) := by decide +kernel
theorem dX7_leastWax_5 : decode cX7_leastWax 5 = .ok (.invokevirtual 37, 3) := by decide +kernel
theorem dX7_leastWax_8 : decode cX7_leastWax 8 = .ok (.ifCond .eq 6, 3) := by decide +kernel
theorem dX7_leastWax_11 : decode cX7_leastWax 11 = .ok (.bipush (-2), 2) := by decide +kernel
theorem dX7_leastWax_13 : decode cX7_leastWax 13 = .ok (.ireturn, 1) := by decide +kernel
theorem dX7_leastWax_14 : decode cX7_leastWax 14 = .ok (.iconst 0, 1) := by decide +kernel
theorem dX7_leastWax_15 : decode cX7_leastWax 15 = .ok (.istore_n 3, 1) := by decide +kernel
theorem dX7_leastWax_16 : decode cX7_leastWax 16 = .ok (.iload_n 3, 1) := by decide +kernel
theorem dX7_leastWax_17 : decode cX7_leastWax 17 = .ok (.bipush 99, 2) := by decide +kernel
theorem dX7_leastWax_19 : decode cX7_leastWax 19 = .ok (.if_icmp .gt 42, 3) := by decide +kernel
theorem dX7_leastWax_22 : decode cX7_leastWax 22 = .ok (.aload_n 0, 1) := by decide +kernel
theorem dX7_leastWax_23 : decode cX7_leastWax 23 = .ok (.getfield 12, 3) := by decide +kernel
theorem dX7_leastWax_26 : decode cX7_leastWax 26 = .ok (.aload_n 0, 1) := by decide +kernel
theorem dX7_leastWax_27 : decode cX7_leastWax 27 = .ok (.getfield 18, 3) := by decide +kernel
theorem dX7_leastWax_30 : decode cX7_leastWax 30 = .ok (.invokevirtual 25, 3) := by decide +kernel
theorem dX7_leastWax_33 : decode cX7_leastWax 33 = .ok (.aload_n 0, 1) := by decide +kernel
theorem dX7_leastWax_34 : decode cX7_leastWax 34 = .ok (.getfield 12, 3) := by decide +kernel
theorem dX7_leastWax_37 : decode cX7_leastWax 37 = .ok (.iload_n 1, 1) := by decide +kernel
theorem dX7_leastWax_38 : decode cX7_leastWax 38 = .ok (.iload_n 3, 1) := by decide +kernel
theorem dX7_leastWax_39 : decode cX7_leastWax 39 = .ok (.invokevirtual 45, 3) := by decide +kernel
theorem dX7_leastWax_42 : decode cX7_leastWax 42 = .ok (.aload_n 0, 1) := by decide +kernel
theorem dX7_leastWax_43 : decode cX7_leastWax 43 = .ok (.iload_n 1, 1) := by decide +kernel
theorem dX7_leastWax_44 : decode cX7_leastWax 44 = .ok (.iload_n 2, 1) := by decide +kernel
theorem dX7_leastWax_45 : decode cX7_leastWax 45 = .ok (.invokevirtual 33, 3) := by decide +kernel
theorem dX7_leastWax_48 : decode cX7_leastWax 48 = .ok (.bipush (-2), 2) := by decide +kernel
theorem dX7_leastWax_50 : decode cX7_leastWax 50 = .ok (.if_icmp .ne 5, 3) := by decide +kernel
theorem dX7_leastWax_53 : decode cX7_leastWax 53 = .ok (.iload_n 3, 1) := by decide +kernel
theorem dX7_leastWax_54 : decode cX7_leastWax 54 = .ok (.ireturn, 1) := by decide +kernel
theorem dX7_leastWax_55 : decode cX7_leastWax 55 = .ok (.iinc 3 1, 3) := by decide +kernel
theorem dX7_leastWax_58 : decode cX7_leastWax 58 = .ok (.goto (-42), 3) := by decide +kernel
theorem dX7_leastWax_61 : decode cX7_leastWax 61 = .ok (.bipush (-2), 2) := by decide +kernel
theorem dX7_leastWax_63 : decode cX7_leastWax 63 = .ok (.ireturn, 1) := by decide +kernel
theorem dX7_findStubs_0 : decode cX7_findStubs 0 = .ok (.aload_n 0, 1) := by decide +kernel
theorem dX7_findStubs_1 : decode cX7_findStubs 1 = .ok (.bipush 37, 2) := by decide +kernel
theorem dX7_findStubs_3 : decode cX7_findStubs 3 = .ok (.putfield 49, 3) := by decide +kernel
theorem dX7_findStubs_6 : decode cX7_findStubs 6 = .ok (.aload_n 0, 1) := by decide +kernel
theorem dX7_findStubs_7 : decode cX7_findStubs 7 = .ok (.bipush 37, 2) := by decide +kernel
theorem dX7_findStubs_9 : decode cX7_findStubs 9 = .ok (.putfield 53, 3) := by decide +kernel
theorem dX7_findStubs_12 : decode cX7_findStubs 12 = .ok (.iload_n 1, 1) := by decide +kernel
theorem dX7_findStubs_13 : decode cX7_findStubs 13 = .ok (.ifCond .le 8, 3) := by decide +kernel
theorem dX7_findStubs_16 : decode cX7_findStubs 16 = .ok (.bipush 35, 2) := by decide +kernel
theorem dX7_findStubs_18 : decode cX7_findStubs 18 = .ok (.goto 4, 3) := by decide +kernel
theorem dX7_findStubs_21 : decode cX7_findStubs 21 = .ok (.iconst (-1), 1) := by decide +kernel
theorem dX7_findStubs_22 : decode cX7_findStubs 22 = .ok (.istore_n 3, 1) := by decide +kernel
theorem dX7_findStubs_23 : decode cX7_findStubs 23 = .ok (.iload_n 1, 1) := by decide +kernel
theorem dX7_findStubs_24 : decode cX7_findStubs 24 = .ok (.iconst 1, 1) := by decide +kernel
theorem dX7_findStubs_25 : decode cX7_findStubs 25 = .ok (.if_icmp .le 8, 3) := by decide +kernel
theorem dX7_findStubs_28 : decode cX7_findStubs 28 = .ok (.bipush 35, 2) := by decide +kernel
theorem dX7_findStubs_30 : decode cX7_findStubs 30 = .ok (.goto 4, 3) := by decide +kernel
theorem dX7_findStubs_33 : decode cX7_findStubs 33 = .ok (.iconst (-1), 1) := by decide +kernel
theorem dX7_findStubs_34 : decode cX7_findStubs 34 = .ok (.istore 4, 2) := by decide +kernel
theorem dX7_findStubs_36 : decode cX7_findStubs 36 = .ok (.iload_n 1, 1) := by decide +kernel
theorem dX7_findStubs_37 : decode cX7_findStubs 37 = .ok (.ifCond .le 7, 3) := by decide +kernel
theorem dX7_findStubs_40 : decode cX7_findStubs 40 = .ok (.iconst 0, 1) := by decide +kernel
theorem dX7_findStubs_41 : decode cX7_findStubs 41 = .ok (.goto 4, 3) := by decide +kernel
theorem dX7_findStubs_44 : decode cX7_findStubs 44 = .ok (.iconst (-1), 1) := by decide +kernel
theorem dX7_findStubs_45 : decode cX7_findStubs 45 = .ok (.istore 5, 2) := by decide +kernel
theorem dX7_findStubs_47 : decode cX7_findStubs 47 = .ok (.iload 5, 2) := by decide +kernel
theorem dX7_findStubs_49 : decode cX7_findStubs 49 = .ok (.iload_n 3, 1) := by decide +kernel
theorem dX7_findStubs_50 : decode cX7_findStubs 50 = .ok (.if_icmp .gt 78, 3) := by decide +kernel
theorem dX7_findStubs_53 : decode cX7_findStubs 53 = .ok (.aload_n 0, 1) := by decide +kernel
theorem dX7_findStubs_54 : decode cX7_findStubs 54 = .ok (.getfield 53, 3) := by decide +kernel
theorem dX7_findStubs_57 : decode cX7_findStubs 57 = .ok (.ifCond .le 71, 3) := by decide +kernel
theorem dX7_findStubs_60 : decode cX7_findStubs 60 = .ok (.iload_n 1, 1) := by decide +kernel
theorem dX7_findStubs_61 : decode cX7_findStubs 61 = .ok (.iconst 1, 1) := by decide +kernel
theorem dX7_findStubs_62 : decode cX7_findStubs 62 = .ok (.if_icmp .le 10, 3) := by decide +kernel
theorem dX7_findStubs_65 : decode cX7_findStubs 65 = .ok (.iload 5, 2) := by decide +kernel
theorem dX7_findStubs_67 : decode cX7_findStubs 67 = .ok (.iconst 1, 1) := by decide +kernel
theorem dX7_findStubs_68 : decode cX7_findStubs 68 = .ok (.iadd, 1) := by decide +kernel
theorem dX7_findStubs_69 : decode cX7_findStubs 69 = .ok (.goto 4, 3) := by decide +kernel
theorem dX7_findStubs_72 : decode cX7_findStubs 72 = .ok (.iconst (-1), 1) := by decide +kernel
theorem dX7_findStubs_73 : decode cX7_findStubs 73 = .ok (.istore 6, 2) := by decide +kernel
theorem dX7_findStubs_75 : decode cX7_findStubs 75 = .ok (.iload 6, 2) := by decide +kernel
theorem dX7_findStubs_77 : decode cX7_findStubs 77 = .ok (.iload 4, 2) := by decide +kernel
theorem dX7_findStubs_79 : decode cX7_findStubs 79 = .ok (.if_icmp .gt 43, 3) := by decide +kernel
theorem dX7_findStubs_82 : decode cX7_findStubs 82 = .ok (.aload_n 0, 1) := by decide +kernel
theorem dX7_findStubs_83 : decode cX7_findStubs 83 = .ok (.getfield 53, 3) := by decide +kernel
theorem dX7_findStubs_86 : decode cX7_findStubs 86 = .ok (.ifCond .le 36, 3) := by decide +kernel
theorem dX7_findStubs_89 : decode cX7_findStubs 89 = .ok (.aload_n 0, 1) := by decide +kernel
theorem dX7_findStubs_90 : decode cX7_findStubs 90 = .ok (.iload 5, 2) := by decide +kernel
theorem dX7_findStubs_92 : decode cX7_findStubs 92 = .ok (.invokevirtual 56, 3) := by decide +kernel
theorem dX7_findStubs_95 : decode cX7_findStubs 95 = .ok (.ifCond .ne 21, 3) := by decide +kernel
theorem dX7_findStubs_98 : decode cX7_findStubs 98 = .ok (.aload_n 0, 1) := by decide +kernel
theorem dX7_findStubs_99 : decode cX7_findStubs 99 = .ok (.iload 6, 2) := by decide +kernel
theorem dX7_findStubs_101 : decode cX7_findStubs 101 = .ok (.invokevirtual 56, 3) := by decide +kernel
theorem dX7_findStubs_104 : decode cX7_findStubs 104 = .ok (.ifCond .ne 12, 3) := by decide +kernel
theorem dX7_findStubs_107 : decode cX7_findStubs 107 = .ok (.aload_n 0, 1) := by decide +kernel
theorem dX7_findStubs_108 : decode cX7_findStubs 108 = .ok (.iload 5, 2) := by decide +kernel
theorem dX7_findStubs_110 : decode cX7_findStubs 110 = .ok (.iload 6, 2) := by decide +kernel
theorem dX7_findStubs_112 : decode cX7_findStubs 112 = .ok (.iload_n 2, 1) := by decide +kernel
theorem dX7_findStubs_113 : decode cX7_findStubs 113 = .ok (.invokevirtual 59, 3) := by decide +kernel
theorem dX7_findStubs_116 : decode cX7_findStubs 116 = .ok (.iinc 6 1, 3) := by decide +kernel
theorem dX7_findStubs_119 : decode cX7_findStubs 119 = .ok (.goto (-44), 3) := by decide +kernel
theorem dX7_findStubs_122 : decode cX7_findStubs 122 = .ok (.iinc 5 1, 3) := by decide +kernel
theorem dX7_findStubs_125 : decode cX7_findStubs 125 = .ok (.goto (-78), 3) := by decide +kernel
theorem dX7_findStubs_128 : decode cX7_findStubs 128 = .ok (.aload_n 0, 1) := by decide +kernel
theorem dX7_findStubs_129 : decode cX7_findStubs 129 = .ok (.getfield 53, 3) := by decide +kernel
theorem dX7_findStubs_132 : decode cX7_findStubs 132 = .ok (.bipush 36, 2) := by decide +kernel
theorem dX7_findStubs_134 : decode cX7_findStubs 134 = .ok (.if_icmp .gt 7, 3) := by decide +kernel
theorem dX7_findStubs_137 : decode cX7_findStubs 137 = .ok (.iconst 1, 1) := by decide +kernel
theorem dX7_findStubs_138 : decode cX7_findStubs 138 = .ok (.goto 4, 3) := by decide +kernel
theorem dX7_findStubs_141 : decode cX7_findStubs 141 = .ok (.iconst 0, 1) := by decide +kernel
theorem dX7_findStubs_142 : decode cX7_findStubs 142 = .ok (.ireturn, 1) := by decide +kernel
theorem dX7_isDarkNow_0 : decode cX7_isDarkNow 0 = .ok (.iload_n 1, 1) := by decide +kernel
theorem dX7_isDarkNow_1 : decode cX7_isDarkNow 1 = .ok (.ifCond .lt 18, 3) := by decide +kernel
theorem dX7_isDarkNow_4 : decode cX7_isDarkNow 4 = .ok (.aload_n 0, 1) := by decide +kernel
theorem dX7_isDarkNow_5 : decode cX7_isDarkNow 5 = .ok (.getfield 18, 3) := by decide +kernel
theorem dX7_isDarkNow_8 : decode cX7_isDarkNow 8 = .ok (.iload_n 1, 1) := by decide +kernel
theorem dX7_isDarkNow_9 : decode cX7_isDarkNow 9 = .ok (.invokevirtual 37, 3) := by decide +kernel
theorem dX7_isDarkNow_12 : decode cX7_isDarkNow 12 = .ok (.ifCond .eq 7, 3) := by decide +kernel
theorem dX7_isDarkNow_15 : decode cX7_isDarkNow 15 = .ok (.iconst 1, 1) := by decide +kernel
theorem dX7_isDarkNow_16 : decode cX7_isDarkNow 16 = .ok (.goto 4, 3) := by decide +kernel
theorem dX7_isDarkNow_19 : decode cX7_isDarkNow 19 = .ok (.iconst 0, 1) := by decide +kernel
theorem dX7_isDarkNow_20 : decode cX7_isDarkNow 20 = .ok (.ireturn, 1) := by decide +kernel
theorem dX7_weighStubs_0 : decode cX7_weighStubs 0 = .ok (.aload_n 0, 1) := by decide +kernel
theorem dX7_weighStubs_1 : decode cX7_weighStubs 1 = .ok (.getfield 12, 3) := by decide +kernel
theorem dX7_weighStubs_4 : decode cX7_weighStubs 4 = .ok (.aload_n 0, 1) := by decide +kernel
theorem dX7_weighStubs_5 : decode cX7_weighStubs 5 = .ok (.getfield 18, 3) := by decide +kernel
theorem dX7_weighStubs_8 : decode cX7_weighStubs 8 = .ok (.invokevirtual 25, 3) := by decide +kernel
theorem dX7_weighStubs_11 : decode cX7_weighStubs 11 = .ok (.iload_n 1, 1) := by decide +kernel
theorem dX7_weighStubs_12 : decode cX7_weighStubs 12 = .ok (.ifCond .lt 13, 3) := by decide +kernel
theorem dX7_weighStubs_15 : decode cX7_weighStubs 15 = .ok (.aload_n 0, 1) := by decide +kernel
theorem dX7_weighStubs_16 : decode cX7_weighStubs 16 = .ok (.getfield 12, 3) := by decide +kernel
theorem dX7_weighStubs_19 : decode cX7_weighStubs 19 = .ok (.iload_n 1, 1) := by decide +kernel
theorem dX7_weighStubs_20 : decode cX7_weighStubs 20 = .ok (.bipush 12, 2) := by decide +kernel
theorem dX7_weighStubs_22 : decode cX7_weighStubs 22 = .ok (.invokevirtual 63, 3) := by decide +kernel
theorem dX7_weighStubs_25 : decode cX7_weighStubs 25 = .ok (.iload_n 2, 1) := by decide +kernel
theorem dX7_weighStubs_26 : decode cX7_weighStubs 26 = .ok (.ifCond .lt 13, 3) := by decide +kernel
theorem dX7_weighStubs_29 : decode cX7_weighStubs 29 = .ok (.aload_n 0, 1) := by decide +kernel
theorem dX7_weighStubs_30 : decode cX7_weighStubs 30 = .ok (.getfield 12, 3) := by decide +kernel
theorem dX7_weighStubs_33 : decode cX7_weighStubs 33 = .ok (.iload_n 2, 1) := by decide +kernel
theorem dX7_weighStubs_34 : decode cX7_weighStubs 34 = .ok (.bipush 12, 2) := by decide +kernel
theorem dX7_weighStubs_36 : decode cX7_weighStubs 36 = .ok (.invokevirtual 63, 3) := by decide +kernel
theorem dX7_weighStubs_39 : decode cX7_weighStubs 39 = .ok (.iconst 0, 1) := by decide +kernel
theorem dX7_weighStubs_40 : decode cX7_weighStubs 40 = .ok (.istore 4, 2) := by decide +kernel
theorem dX7_weighStubs_42 : decode cX7_weighStubs 42 = .ok (.iload 4, 2) := by decide +kernel
theorem dX7_weighStubs_44 : decode cX7_weighStubs 44 = .ok (.iload_n 3, 1) := by decide +kernel
theorem dX7_weighStubs_45 : decode cX7_weighStubs 45 = .ok (.if_icmp .ge 20, 3) := by decide +kernel
theorem dX7_weighStubs_48 : decode cX7_weighStubs 48 = .ok (.aload_n 0, 1) := by decide +kernel
theorem dX7_weighStubs_49 : decode cX7_weighStubs 49 = .ok (.getfield 12, 3) := by decide +kernel
theorem dX7_weighStubs_52 : decode cX7_weighStubs 52 = .ok (.aload_n 0, 1) := by decide +kernel
theorem dX7_weighStubs_53 : decode cX7_weighStubs 53 = .ok (.getfield 21, 3) := by decide +kernel
theorem dX7_weighStubs_56 : decode cX7_weighStubs 56 = .ok (.invokevirtual 29, 3) := by decide +kernel
theorem dX7_weighStubs_59 : decode cX7_weighStubs 59 = .ok (.iinc 4 1, 3) := by decide +kernel
theorem dX7_weighStubs_62 : decode cX7_weighStubs 62 = .ok (.goto (-20), 3) := by decide +kernel
theorem dX7_weighStubs_65 : decode cX7_weighStubs 65 = .ok (.aload_n 0, 1) := by decide +kernel
theorem dX7_weighStubs_66 : decode cX7_weighStubs 66 = .ok (.getfield 12, 3) := by decide +kernel
theorem dX7_weighStubs_69 : decode cX7_weighStubs 69 = .ok (.invokevirtual 66, 3) := by decide +kernel
theorem dX7_weighStubs_72 : decode cX7_weighStubs 72 = .ok (.istore 4, 2) := by decide +kernel
theorem dX7_weighStubs_74 : decode cX7_weighStubs 74 = .ok (.aload_n 0, 1) := by decide +kernel
theorem dX7_weighStubs_75 : decode cX7_weighStubs 75 = .ok (.getfield 12, 3) := by decide +kernel
theorem dX7_weighStubs_78 : decode cX7_weighStubs 78 = .ok (.invokevirtual 70, 3) := by decide +kernel
theorem dX7_weighStubs_81 : decode cX7_weighStubs 81 = .ok (.istore 5, 2) := by decide +kernel
theorem dX7_weighStubs_83 : decode cX7_weighStubs 83 = .ok (.iload 4, 2) := by decide +kernel
theorem dX7_weighStubs_85 : decode cX7_weighStubs 85 = .ok (.aload_n 0, 1) := by decide +kernel
theorem dX7_weighStubs_86 : decode cX7_weighStubs 86 = .ok (.getfield 49, 3) := by decide +kernel
theorem dX7_weighStubs_89 : decode cX7_weighStubs 89 = .ok (.if_icmp .lt 21, 3) := by decide +kernel
theorem dX7_weighStubs_92 : decode cX7_weighStubs 92 = .ok (.iload 4, 2) := by decide +kernel
theorem dX7_weighStubs_94 : decode cX7_weighStubs 94 = .ok (.aload_n 0, 1) := by decide +kernel
theorem dX7_weighStubs_95 : decode cX7_weighStubs 95 = .ok (.getfield 49, 3) := by decide +kernel
theorem dX7_weighStubs_98 : decode cX7_weighStubs 98 = .ok (.if_icmp .ne 51, 3) := by decide +kernel
theorem dX7_weighStubs_101 : decode cX7_weighStubs 101 = .ok (.iload 5, 2) := by decide +kernel
theorem dX7_weighStubs_103 : decode cX7_weighStubs 103 = .ok (.aload_n 0, 1) := by decide +kernel
theorem dX7_weighStubs_104 : decode cX7_weighStubs 104 = .ok (.getfield 53, 3) := by decide +kernel
theorem dX7_weighStubs_107 : decode cX7_weighStubs 107 = .ok (.if_icmp .ge 42, 3) := by decide +kernel
theorem dX7_weighStubs_110 : decode cX7_weighStubs 110 = .ok (.aload_n 0, 1) := by decide +kernel
theorem dX7_weighStubs_111 : decode cX7_weighStubs 111 = .ok (.iload 4, 2) := by decide +kernel
theorem dX7_weighStubs_113 : decode cX7_weighStubs 113 = .ok (.putfield 49, 3) := by decide +kernel
theorem dX7_weighStubs_116 : decode cX7_weighStubs 116 = .ok (.aload_n 0, 1) := by decide +kernel
theorem dX7_weighStubs_117 : decode cX7_weighStubs 117 = .ok (.iload 5, 2) := by decide +kernel
theorem dX7_weighStubs_119 : decode cX7_weighStubs 119 = .ok (.putfield 53, 3) := by decide +kernel
theorem dX7_weighStubs_122 : decode cX7_weighStubs 122 = .ok (.aload_n 0, 1) := by decide +kernel
theorem dX7_weighStubs_123 : decode cX7_weighStubs 123 = .ok (.iload_n 2, 1) := by decide +kernel
theorem dX7_weighStubs_124 : decode cX7_weighStubs 124 = .ok (.ifCond .lt 12, 3) := by decide +kernel
theorem dX7_weighStubs_127 : decode cX7_weighStubs 127 = .ok (.bipush 36, 2) := by decide +kernel
theorem dX7_weighStubs_129 : decode cX7_weighStubs 129 = .ok (.iload_n 1, 1) := by decide +kernel
theorem dX7_weighStubs_130 : decode cX7_weighStubs 130 = .ok (.imul, 1) := by decide +kernel
theorem dX7_weighStubs_131 : decode cX7_weighStubs 131 = .ok (.iload_n 2, 1) := by decide +kernel
theorem dX7_weighStubs_132 : decode cX7_weighStubs 132 = .ok (.iadd, 1) := by decide +kernel
theorem dX7_weighStubs_133 : decode cX7_weighStubs 133 = .ok (.goto 13, 3) := by decide +kernel
theorem dX7_weighStubs_136 : decode cX7_weighStubs 136 = .ok (.iload_n 1, 1) := by decide +kernel
theorem dX7_weighStubs_137 : decode cX7_weighStubs 137 = .ok (.ifCond .lt 7, 3) := by decide +kernel
theorem dX7_weighStubs_140 : decode cX7_weighStubs 140 = .ok (.iload_n 1, 1) := by decide +kernel
theorem dX7_weighStubs_141 : decode cX7_weighStubs 141 = .ok (.goto 5, 3) := by decide +kernel
theorem dX7_weighStubs_144 : decode cX7_weighStubs 144 = .ok (.bipush (-9), 2) := by decide +kernel
theorem dX7_weighStubs_146 : decode cX7_weighStubs 146 = .ok (.putfield 73, 3) := by decide +kernel
theorem dX7_weighStubs_149 : decode cX7_weighStubs 149 = .ok (.return_, 1) := by decide +kernel
theorem dX7_firstUnlike_0 : decode cX7_firstUnlike 0 = .ok (.aload_n 0, 1) := by decide +kernel
theorem dX7_firstUnlike_1 : decode cX7_firstUnlike 1 = .ok (.getfield 12, 3) := by decide +kernel
theorem dX7_firstUnlike_4 : decode cX7_firstUnlike 4 = .ok (.aload_n 0, 1) := by decide +kernel
theorem dX7_firstUnlike_5 : decode cX7_firstUnlike 5 = .ok (.getfield 18, 3) := by decide +kernel
theorem dX7_firstUnlike_8 : decode cX7_firstUnlike 8 = .ok (.invokevirtual 25, 3) := by decide +kernel
theorem dX7_firstUnlike_11 : decode cX7_firstUnlike 11 = .ok (.aload_n 0, 1) := by decide +kernel
theorem dX7_firstUnlike_12 : decode cX7_firstUnlike 12 = .ok (.aload_n 1, 1) := by decide +kernel
theorem dX7_firstUnlike_13 : decode cX7_firstUnlike 13 = .ok (.invokevirtual 76, 3) := by decide +kernel
theorem dX7_firstUnlike_16 : decode cX7_firstUnlike 16 = .ok (.ireturn, 1) := by decide +kernel
theorem dX7_unlike_0 : decode cX7_unlike 0 = .ok (.aload_n 1, 1) := by decide +kernel
theorem dX7_unlike_1 : decode cX7_unlike 1 = .ok (.getfield 80, 3) := by decide +kernel
theorem dX7_unlike_4 : decode cX7_unlike 4 = .ok (.bipush 49, 2) := by decide +kernel
theorem dX7_unlike_6 : decode cX7_unlike 6 = .ok (.invokestatic 85, 3) := by decide +kernel
theorem dX7_unlike_9 : decode cX7_unlike 9 = .ok (.istore_n 2, 1) := by decide +kernel
theorem dX7_unlike_10 : decode cX7_unlike 10 = .ok (.iconst 0, 1) := by decide +kernel
theorem dX7_unlike_11 : decode cX7_unlike 11 = .ok (.istore_n 3, 1) := by decide +kernel
theorem dX7_unlike_12 : decode cX7_unlike 12 = .ok (.iload_n 3, 1) := by decide +kernel
theorem dX7_unlike_13 : decode cX7_unlike 13 = .ok (.iload_n 2, 1) := by decide +kernel
theorem dX7_unlike_14 : decode cX7_unlike 14 = .ok (.if_icmp .ge 42, 3) := by decide +kernel
theorem dX7_unlike_17 : decode cX7_unlike 17 = .ok (.iload_n 3, 1) := by decide +kernel
theorem dX7_unlike_18 : decode cX7_unlike 18 = .ok (.ifCond .le 14, 3) := by decide +kernel
theorem dX7_unlike_21 : decode cX7_unlike 21 = .ok (.aload_n 0, 1) := by decide +kernel
theorem dX7_unlike_22 : decode cX7_unlike 22 = .ok (.getfield 12, 3) := by decide +kernel
theorem dX7_unlike_25 : decode cX7_unlike 25 = .ok (.aload_n 0, 1) := by decide +kernel
theorem dX7_unlike_26 : decode cX7_unlike 26 = .ok (.getfield 21, 3) := by decide +kernel
theorem dX7_unlike_29 : decode cX7_unlike 29 = .ok (.invokevirtual 29, 3) := by decide +kernel
theorem dX7_unlike_32 : decode cX7_unlike 32 = .ok (.aload_n 0, 1) := by decide +kernel
theorem dX7_unlike_33 : decode cX7_unlike 33 = .ok (.getfield 12, 3) := by decide +kernel
theorem dX7_unlike_36 : decode cX7_unlike 36 = .ok (.getfield 41, 3) := by decide +kernel
theorem dX7_unlike_39 : decode cX7_unlike 39 = .ok (.aload_n 1, 1) := by decide +kernel
theorem dX7_unlike_40 : decode cX7_unlike 40 = .ok (.iload_n 3, 1) := by decide +kernel
theorem dX7_unlike_41 : decode cX7_unlike 41 = .ok (.invokevirtual 90, 3) := by decide +kernel
theorem dX7_unlike_44 : decode cX7_unlike 44 = .ok (.lcmp, 1) := by decide +kernel
theorem dX7_unlike_45 : decode cX7_unlike 45 = .ok (.ifCond .eq 5, 3) := by decide +kernel
theorem dX7_unlike_48 : decode cX7_unlike 48 = .ok (.iload_n 3, 1) := by decide +kernel
theorem dX7_unlike_49 : decode cX7_unlike 49 = .ok (.ireturn, 1) := by decide +kernel
theorem dX7_unlike_50 : decode cX7_unlike 50 = .ok (.iinc 3 1, 3) := by decide +kernel
theorem dX7_unlike_53 : decode cX7_unlike 53 = .ok (.goto (-41), 3) := by decide +kernel
theorem dX7_unlike_56 : decode cX7_unlike 56 = .ok (.bipush (-2), 2) := by decide +kernel
theorem dX7_unlike_58 : decode cX7_unlike 58 = .ok (.ireturn, 1) := by decide +kernel
theorem dX7_fitting_0 : decode cX7_fitting 0 = .ok (.iconst 0, 1) := by decide +kernel
theorem dX7_fitting_1 : decode cX7_fitting 1 = .ok (.istore 5, 2) := by decide +kernel
theorem dX7_fitting_3 : decode cX7_fitting 3 = .ok (.getstatic 94, 3) := by decide +kernel
theorem dX7_fitting_6 : decode cX7_fitting 6 = .ok (.iload_n 3, 1) := by decide +kernel
theorem dX7_fitting_7 : decode cX7_fitting 7 = .ok (.iaload, 1) := by decide +kernel
theorem dX7_fitting_8 : decode cX7_fitting 8 = .ok (.istore 6, 2) := by decide +kernel
theorem dX7_fitting_10 : decode cX7_fitting 10 = .ok (.iload 6, 2) := by decide +kernel
theorem dX7_fitting_12 : decode cX7_fitting 12 = .ok (.getstatic 98, 3) := by decide +kernel
theorem dX7_fitting_15 : decode cX7_fitting 15 = .ok (.iload_n 3, 1) := by decide +kernel
theorem dX7_fitting_16 : decode cX7_fitting 16 = .ok (.iaload, 1) := by decide +kernel
theorem dX7_fitting_17 : decode cX7_fitting 17 = .ok (.if_icmp .gt 52, 3) := by decide +kernel
theorem dX7_fitting_20 : decode cX7_fitting 20 = .ok (.aload_n 0, 1) := by decide +kernel
theorem dX7_fitting_21 : decode cX7_fitting 21 = .ok (.getfield 12, 3) := by decide +kernel
theorem dX7_fitting_24 : decode cX7_fitting 24 = .ok (.aload_n 0, 1) := by decide +kernel
theorem dX7_fitting_25 : decode cX7_fitting 25 = .ok (.getfield 18, 3) := by decide +kernel
theorem dX7_fitting_28 : decode cX7_fitting 28 = .ok (.invokevirtual 25, 3) := by decide +kernel
theorem dX7_fitting_31 : decode cX7_fitting 31 = .ok (.aload_n 0, 1) := by decide +kernel
theorem dX7_fitting_32 : decode cX7_fitting 32 = .ok (.getfield 12, 3) := by decide +kernel
theorem dX7_fitting_35 : decode cX7_fitting 35 = .ok (.iload_n 2, 1) := by decide +kernel
theorem dX7_fitting_36 : decode cX7_fitting 36 = .ok (.iload_n 3, 1) := by decide +kernel
theorem dX7_fitting_37 : decode cX7_fitting 37 = .ok (.iload 6, 2) := by decide +kernel
theorem dX7_fitting_39 : decode cX7_fitting 39 = .ok (.invokevirtual 101, 3) := by decide +kernel
theorem dX7_fitting_42 : decode cX7_fitting 42 = .ok (.aload_n 0, 1) := by decide +kernel
theorem dX7_fitting_43 : decode cX7_fitting 43 = .ok (.aload_n 1, 1) := by decide +kernel
theorem dX7_fitting_44 : decode cX7_fitting 44 = .ok (.invokevirtual 76, 3) := by decide +kernel
theorem dX7_fitting_47 : decode cX7_fitting 47 = .ok (.bipush (-2), 2) := by decide +kernel
theorem dX7_fitting_49 : decode cX7_fitting 49 = .ok (.if_icmp .ne 14, 3) := by decide +kernel
theorem dX7_fitting_52 : decode cX7_fitting 52 = .ok (.iload 4, 2) := by decide +kernel
theorem dX7_fitting_54 : decode cX7_fitting 54 = .ok (.ifCond .eq 6, 3) := by decide +kernel
theorem dX7_fitting_57 : decode cX7_fitting 57 = .ok (.iload 6, 2) := by decide +kernel
theorem dX7_fitting_59 : decode cX7_fitting 59 = .ok (.ireturn, 1) := by decide +kernel
theorem dX7_fitting_60 : decode cX7_fitting 60 = .ok (.iinc 5 1, 3) := by decide +kernel
theorem dX7_fitting_63 : decode cX7_fitting 63 = .ok (.iinc 6 1, 3) := by decide +kernel
theorem dX7_fitting_66 : decode cX7_fitting 66 = .ok (.goto (-56), 3) := by decide +kernel
theorem dX7_fitting_69 : decode cX7_fitting 69 = .ok (.iload 4, 2) := by decide +kernel
theorem dX7_fitting_71 : decode cX7_fitting 71 = .ok (.ifCond .eq 8, 3) := by decide +kernel
theorem dX7_fitting_74 : decode cX7_fitting 74 = .ok (.bipush (-2), 2) := by decide +kernel
theorem dX7_fitting_76 : decode cX7_fitting 76 = .ok (.goto 5, 3) := by decide +kernel
theorem dX7_fitting_79 : decode cX7_fitting 79 = .ok (.iload 5, 2) := by decide +kernel
theorem dX7_fitting_81 : decode cX7_fitting 81 = .ok (.ireturn, 1) := by decide +kernel
theorem dX7_darkByMoths_0 : decode cX7_darkByMoths 0 = .ok (.iload_n 1, 1) := by decide +kernel
theorem dX7_darkByMoths_1 : decode cX7_darkByMoths 1 = .ok (.istore 6, 2) := by decide +kernel
theorem dX7_darkByMoths_3 : decode cX7_darkByMoths 3 = .ok (.iconst 0, 1) := by decide +kernel
theorem dX7_darkByMoths_4 : decode cX7_darkByMoths 4 = .ok (.istore 7, 2) := by decide +kernel
theorem dX7_darkByMoths_6 : decode cX7_darkByMoths 6 = .ok (.iconst 0, 1) := by decide +kernel
theorem dX7_darkByMoths_7 : decode cX7_darkByMoths 7 = .ok (.istore 8, 2) := by decide +kernel
theorem dX7_darkByMoths_9 : decode cX7_darkByMoths 9 = .ok (.iload 8, 2) := by decide +kernel
theorem dX7_darkByMoths_11 : decode cX7_darkByMoths 11 = .ok (.iload_n 2, 1) := by decide +kernel
theorem dX7_darkByMoths_12 : decode cX7_darkByMoths 12 = .ok (.if_icmp .ge 116, 3) := by decide +kernel
theorem dX7_darkByMoths_15 : decode cX7_darkByMoths 15 = .ok (.aload_n 0, 1) := by decide +kernel
theorem dX7_darkByMoths_16 : decode cX7_darkByMoths 16 = .ok (.getfield 12, 3) := by decide +kernel
theorem dX7_darkByMoths_19 : decode cX7_darkByMoths 19 = .ok (.aload_n 0, 1) := by decide +kernel
theorem dX7_darkByMoths_20 : decode cX7_darkByMoths 20 = .ok (.getfield 18, 3) := by decide +kernel
theorem dX7_darkByMoths_23 : decode cX7_darkByMoths 23 = .ok (.invokevirtual 25, 3) := by decide +kernel
theorem dX7_darkByMoths_26 : decode cX7_darkByMoths 26 = .ok (.iconst 0, 1) := by decide +kernel
theorem dX7_darkByMoths_27 : decode cX7_darkByMoths 27 = .ok (.istore 9, 2) := by decide +kernel
theorem dX7_darkByMoths_29 : decode cX7_darkByMoths 29 = .ok (.iload 9, 2) := by decide +kernel
theorem dX7_darkByMoths_31 : decode cX7_darkByMoths 31 = .ok (.iload_n 3, 1) := by decide +kernel
theorem dX7_darkByMoths_32 : decode cX7_darkByMoths 32 = .ok (.if_icmp .ge 60, 3) := by decide +kernel
theorem dX7_darkByMoths_35 : decode cX7_darkByMoths 35 = .ok (.iload 6, 2) := by decide +kernel
theorem dX7_darkByMoths_37 : decode cX7_darkByMoths 37 = .ok (.ldc 104, 2) := by decide +kernel
theorem dX7_darkByMoths_39 : decode cX7_darkByMoths 39 = .ok (.imul, 1) := by decide +kernel
theorem dX7_darkByMoths_40 : decode cX7_darkByMoths 40 = .ok (.sipush 12345, 3) := by decide +kernel
theorem dX7_darkByMoths_43 : decode cX7_darkByMoths 43 = .ok (.iadd, 1) := by decide +kernel
theorem dX7_darkByMoths_44 : decode cX7_darkByMoths 44 = .ok (.istore 6, 2) := by decide +kernel
theorem dX7_darkByMoths_46 : decode cX7_darkByMoths 46 = .ok (.iload 6, 2) := by decide +kernel
theorem dX7_darkByMoths_48 : decode cX7_darkByMoths 48 = .ok (.bipush 16, 2) := by decide +kernel
theorem dX7_darkByMoths_50 : decode cX7_darkByMoths 50 = .ok (.iushr, 1) := by decide +kernel
theorem dX7_darkByMoths_51 : decode cX7_darkByMoths 51 = .ok (.bipush 12, 2) := by decide +kernel
theorem dX7_darkByMoths_53 : decode cX7_darkByMoths 53 = .ok (.irem, 1) := by decide +kernel
theorem dX7_darkByMoths_54 : decode cX7_darkByMoths 54 = .ok (.iload 4, 2) := by decide +kernel
theorem dX7_darkByMoths_56 : decode cX7_darkByMoths 56 = .ok (.if_icmp .ge 19, 3) := by decide +kernel
theorem dX7_darkByMoths_59 : decode cX7_darkByMoths 59 = .ok (.aload_n 0, 1) := by decide +kernel
theorem dX7_darkByMoths_60 : decode cX7_darkByMoths 60 = .ok (.getfield 12, 3) := by decide +kernel
theorem dX7_darkByMoths_63 : decode cX7_darkByMoths 63 = .ok (.iload 6, 2) := by decide +kernel
theorem dX7_darkByMoths_65 : decode cX7_darkByMoths 65 = .ok (.bipush 8, 2) := by decide +kernel
theorem dX7_darkByMoths_67 : decode cX7_darkByMoths 67 = .ok (.iushr, 1) := by decide +kernel
theorem dX7_darkByMoths_68 : decode cX7_darkByMoths 68 = .ok (.bipush 36, 2) := by decide +kernel
theorem dX7_darkByMoths_70 : decode cX7_darkByMoths 70 = .ok (.irem, 1) := by decide +kernel
theorem dX7_darkByMoths_71 : decode cX7_darkByMoths 71 = .ok (.iconst 0, 1) := by decide +kernel
theorem dX7_darkByMoths_72 : decode cX7_darkByMoths 72 = .ok (.invokevirtual 45, 3) := by decide +kernel
theorem dX7_darkByMoths_75 : decode cX7_darkByMoths 75 = .ok (.aload_n 0, 1) := by decide +kernel
theorem dX7_darkByMoths_76 : decode cX7_darkByMoths 76 = .ok (.getfield 12, 3) := by decide +kernel
theorem dX7_darkByMoths_79 : decode cX7_darkByMoths 79 = .ok (.aload_n 0, 1) := by decide +kernel
theorem dX7_darkByMoths_80 : decode cX7_darkByMoths 80 = .ok (.getfield 21, 3) := by decide +kernel
theorem dX7_darkByMoths_83 : decode cX7_darkByMoths 83 = .ok (.invokevirtual 29, 3) := by decide +kernel
theorem dX7_darkByMoths_86 : decode cX7_darkByMoths 86 = .ok (.iinc 9 1, 3) := by decide +kernel
theorem dX7_darkByMoths_89 : decode cX7_darkByMoths 89 = .ok (.goto (-60), 3) := by decide +kernel
theorem dX7_darkByMoths_92 : decode cX7_darkByMoths 92 = .ok (.iload 7, 2) := by decide +kernel
theorem dX7_darkByMoths_94 : decode cX7_darkByMoths 94 = .ok (.iload 5, 2) := by decide +kernel
theorem dX7_darkByMoths_96 : decode cX7_darkByMoths 96 = .ok (.ifCond .ge 13, 3) := by decide +kernel
theorem dX7_darkByMoths_99 : decode cX7_darkByMoths 99 = .ok (.aload_n 0, 1) := by decide +kernel
theorem dX7_darkByMoths_100 : decode cX7_darkByMoths 100 = .ok (.getfield 12, 3) := by decide +kernel
theorem dX7_darkByMoths_103 : decode cX7_darkByMoths 103 = .ok (.invokevirtual 70, 3) := by decide +kernel
theorem dX7_darkByMoths_106 : decode cX7_darkByMoths 106 = .ok (.goto 13, 3) := by decide +kernel
theorem dX7_darkByMoths_109 : decode cX7_darkByMoths 109 = .ok (.aload_n 0, 1) := by decide +kernel
theorem dX7_darkByMoths_110 : decode cX7_darkByMoths 110 = .ok (.getfield 12, 3) := by decide +kernel
theorem dX7_darkByMoths_113 : decode cX7_darkByMoths 113 = .ok (.iload 5, 2) := by decide +kernel
theorem dX7_darkByMoths_115 : decode cX7_darkByMoths 115 = .ok (.iconst 3, 1) := by decide +kernel
theorem dX7_darkByMoths_116 : decode cX7_darkByMoths 116 = .ok (.invokevirtual 105, 3) := by decide +kernel
theorem dX7_darkByMoths_119 : decode cX7_darkByMoths 119 = .ok (.iadd, 1) := by decide +kernel
theorem dX7_darkByMoths_120 : decode cX7_darkByMoths 120 = .ok (.istore 7, 2) := by decide +kernel
theorem dX7_darkByMoths_122 : decode cX7_darkByMoths 122 = .ok (.iinc 8 1, 3) := by decide +kernel
theorem dX7_darkByMoths_125 : decode cX7_darkByMoths 125 = .ok (.goto (-116), 3) := by decide +kernel
theorem dX7_darkByMoths_128 : decode cX7_darkByMoths 128 = .ok (.iload 7, 2) := by decide +kernel
theorem dX7_darkByMoths_130 : decode cX7_darkByMoths 130 = .ok (.ireturn, 1) := by decide +kernel
theorem dX8_init_0 : decode cX8_init 0 = .ok (.aload_n 0, 1) := by decide +kernel
theorem dX8_init_1 : decode cX8_init 1 = .ok (.invokespecial 3, 3) := by decide +kernel
theorem dX8_init_4 : decode cX8_init 4 = .ok (.aload_n 0, 1) := by decide +kernel
theorem dX8_init_5 : decode cX8_init 5 = .ok (.new 9, 3) := by decide +kernel
theorem dX8_init_8 : decode cX8_init 8 = .ok (.dup, 1) := by decide +kernel
theorem dX8_init_9 : decode cX8_init 9 = .ok (.invokespecial 11, 3) := by decide +kernel
theorem dX8_init_12 : decode cX8_init 12 = .ok (.putfield 12, 3) := by decide +kernel
theorem dX8_init_15 : decode cX8_init 15 = .ok (.aload_n 0, 1) := by decide +kernel
theorem dX8_init_16 : decode cX8_init 16 = .ok (.new 9, 3) := by decide +kernel
theorem dX8_init_19 : decode cX8_init 19 = .ok (.dup, 1) := by decide +kernel
theorem dX8_init_20 : decode cX8_init 20 = .ok (.invokespecial 11, 3) := by decide +kernel
theorem dX8_init_23 : decode cX8_init 23 = .ok (.putfield 18, 3) := by decide +kernel
theorem dX8_init_26 : decode cX8_init 26 = .ok (.aload_n 0, 1) := by decide +kernel
theorem dX8_init_27 : decode cX8_init 27 = .ok (.aload_n 1, 1) := by decide +kernel
theorem dX8_init_28 : decode cX8_init 28 = .ok (.putfield 21, 3) := by decide +kernel
theorem dX8_init_31 : decode cX8_init 31 = .ok (.aload_n 0, 1) := by decide +kernel
theorem dX8_init_32 : decode cX8_init 32 = .ok (.aload_n 2, 1) := by decide +kernel
theorem dX8_init_33 : decode cX8_init 33 = .ok (.putfield 24, 3) := by decide +kernel
theorem dX8_init_36 : decode cX8_init 36 = .ok (.return_, 1) := by decide +kernel
theorem dX8_play_0 : decode cX8_play 0 = .ok (.aload_n 0, 1) := by decide +kernel
theorem dX8_play_1 : decode cX8_play 1 = .ok (.bipush 6, 2) := by decide +kernel
theorem dX8_play_3 : decode cX8_play 3 = .ok (.iload_n 1, 1) := by decide +kernel
theorem dX8_play_4 : decode cX8_play 4 = .ok (.imul, 1) := by decide +kernel
theorem dX8_play_5 : decode cX8_play 5 = .ok (.putfield 28, 3) := by decide +kernel
theorem dX8_play_8 : decode cX8_play 8 = .ok (.aload_n 0, 1) := by decide +kernel
theorem dX8_play_9 : decode cX8_play 9 = .ok (.iload_n 2, 1) := by decide +kernel
theorem dX8_play_10 : decode cX8_play 10 = .ok (.iconst 3, 1) := by decide +kernel
theorem dX8_play_11 : decode cX8_play 11 = .ok (.invokestatic 32, 3) := by decide +kernel
theorem dX8_play_14 : decode cX8_play 14 = .ok (.putfield 38, 3) := by decide +kernel
theorem dX8_play_17 : decode cX8_play 17 = .ok (.aload_n 0, 1) := by decide +kernel
theorem dX8_play_18 : decode cX8_play 18 = .ok (.iload_n 3, 1) := by decide +kernel
theorem dX8_play_19 : decode cX8_play 19 = .ok (.putfield 41, 3) := by decide +kernel
theorem dX8_play_22 : decode cX8_play 22 = .ok (.aload_n 0, 1) := by decide +kernel
theorem dX8_play_23 : decode cX8_play 23 = .ok (.bipush 6, 2) := by decide +kernel
theorem dX8_play_25 : decode cX8_play 25 = .ok (.putfield 44, 3) := by decide +kernel
theorem dX8_play_28 : decode cX8_play 28 = .ok (.aload_n 0, 1) := by decide +kernel
theorem dX8_play_29 : decode cX8_play 29 = .ok (.getfield 12, 3) := by decide +kernel
theorem dX8_play_32 : decode cX8_play 32 = .ok (.aload_n 0, 1) := by decide +kernel
theorem dX8_play_33 : decode cX8_play 33 = .ok (.getfield 21, 3) := by decide +kernel
theorem dX8_play_36 : decode cX8_play 36 = .ok (.invokevirtual 47, 3) := by decide +kernel
theorem dX8_play_39 : decode cX8_play 39 = .ok (.aload_n 0, 1) := by decide +kernel
theorem dX8_play_40 : decode cX8_play 40 = .ok (.iconst 0, 1) := by decide +kernel
theorem dX8_play_41 : decode cX8_play 41 = .ok (.invokevirtual 51, 3) := by decide +kernel
theorem dX8_play_44 : decode cX8_play 44 = .ok (.ireturn, 1) := by decide +kernel
theorem dX8_outcome_0 : decode cX8_outcome 0 = .ok (.iload_n 1, 1) := by decide +kernel
theorem dX8_outcome_1 : decode cX8_outcome 1 = .ok (.aload_n 0, 1) := by decide +kernel
theorem dX8_outcome_2 : decode cX8_outcome 2 = .ok (.getfield 38, 3) := by decide +kernel
theorem dX8_outcome_5 : decode cX8_outcome 5 = .ok (.if_icmp .lt 49, 3) := by decide +kernel
theorem dX8_outcome_8 : decode cX8_outcome 8 = .ok (.aload_n 0, 1) := by decide +kernel
theorem dX8_outcome_9 : decode cX8_outcome 9 = .ok (.getfield 18, 3) := by decide +kernel
theorem dX8_outcome_12 : decode cX8_outcome 12 = .ok (.aload_n 0, 1) := by decide +kernel
theorem dX8_outcome_13 : decode cX8_outcome 13 = .ok (.getfield 12, 3) := by decide +kernel
theorem dX8_outcome_16 : decode cX8_outcome 16 = .ok (.invokevirtual 47, 3) := by decide +kernel
theorem dX8_outcome_19 : decode cX8_outcome 19 = .ok (.iconst 0, 1) := by decide +kernel
theorem dX8_outcome_20 : decode cX8_outcome 20 = .ok (.istore_n 2, 1) := by decide +kernel
theorem dX8_outcome_21 : decode cX8_outcome 21 = .ok (.iload_n 2, 1) := by decide +kernel
theorem dX8_outcome_22 : decode cX8_outcome 22 = .ok (.aload_n 0, 1) := by decide +kernel
theorem dX8_outcome_23 : decode cX8_outcome 23 = .ok (.getfield 41, 3) := by decide +kernel
theorem dX8_outcome_26 : decode cX8_outcome 26 = .ok (.if_icmp .ge 20, 3) := by decide +kernel
theorem dX8_outcome_29 : decode cX8_outcome 29 = .ok (.aload_n 0, 1) := by decide +kernel
theorem dX8_outcome_30 : decode cX8_outcome 30 = .ok (.getfield 18, 3) := by decide +kernel
theorem dX8_outcome_33 : decode cX8_outcome 33 = .ok (.aload_n 0, 1) := by decide +kernel
theorem dX8_outcome_34 : decode cX8_outcome 34 = .ok (.getfield 24, 3) := by decide +kernel
theorem dX8_outcome_37 : decode cX8_outcome 37 = .ok (.invokevirtual 55, 3) := by decide +kernel
theorem dX8_outcome_40 : decode cX8_outcome 40 = .ok (.iinc 2 1, 3) := by decide +kernel
theorem dX8_outcome_43 : decode cX8_outcome 43 = .ok (.goto (-22), 3) := by decide +kernel
theorem dX8_outcome_46 : decode cX8_outcome 46 = .ok (.aload_n 0, 1) := by decide +kernel
theorem dX8_outcome_47 : decode cX8_outcome 47 = .ok (.getfield 18, 3) := by decide +kernel
theorem dX8_outcome_50 : decode cX8_outcome 50 = .ok (.invokevirtual 59, 3) := by decide +kernel
theorem dX8_outcome_53 : decode cX8_outcome 53 = .ok (.ireturn, 1) := by decide +kernel
theorem dX8_outcome_54 : decode cX8_outcome 54 = .ok (.iload_n 1, 1) := by decide +kernel
theorem dX8_outcome_55 : decode cX8_outcome 55 = .ok (.iconst 2, 1) := by decide +kernel
theorem dX8_outcome_56 : decode cX8_outcome 56 = .ok (.irem, 1) := by decide +kernel
theorem dX8_outcome_57 : decode cX8_outcome 57 = .ok (.ifCond .ne 7, 3) := by decide +kernel
theorem dX8_outcome_60 : decode cX8_outcome 60 = .ok (.iconst 1, 1) := by decide +kernel
theorem dX8_outcome_61 : decode cX8_outcome 61 = .ok (.goto 4, 3) := by decide +kernel
theorem dX8_outcome_64 : decode cX8_outcome 64 = .ok (.iconst 0, 1) := by decide +kernel
theorem dX8_outcome_65 : decode cX8_outcome 65 = .ok (.istore_n 2, 1) := by decide +kernel
theorem dX8_outcome_66 : decode cX8_outcome 66 = .ok (.aload_n 0, 1) := by decide +kernel
theorem dX8_outcome_67 : decode cX8_outcome 67 = .ok (.iload_n 1, 1) := by decide +kernel
theorem dX8_outcome_68 : decode cX8_outcome 68 = .ok (.iconst 1, 1) := by decide +kernel
theorem dX8_outcome_69 : decode cX8_outcome 69 = .ok (.iadd, 1) := by decide +kernel
theorem dX8_outcome_70 : decode cX8_outcome 70 = .ok (.invokevirtual 51, 3) := by decide +kernel
theorem dX8_outcome_73 : decode cX8_outcome 73 = .ok (.istore_n 3, 1) := by decide +kernel
theorem dX8_outcome_74 : decode cX8_outcome 74 = .ok (.iconst 0, 1) := by decide +kernel
theorem dX8_outcome_75 : decode cX8_outcome 75 = .ok (.istore 4, 2) := by decide +kernel
theorem dX8_outcome_77 : decode cX8_outcome 77 = .ok (.iload 4, 2) := by decide +kernel
theorem dX8_outcome_79 : decode cX8_outcome 79 = .ok (.bipush 6, 2) := by decide +kernel
theorem dX8_outcome_81 : decode cX8_outcome 81 = .ok (.if_icmp .ge 123, 3) := by decide +kernel
theorem dX8_outcome_84 : decode cX8_outcome 84 = .ok (.aload_n 0, 1) := by decide +kernel
theorem dX8_outcome_85 : decode cX8_outcome 85 = .ok (.getfield 12, 3) := by decide +kernel
theorem dX8_outcome_88 : decode cX8_outcome 88 = .ok (.getfield 63, 3) := by decide +kernel
theorem dX8_outcome_91 : decode cX8_outcome 91 = .ok (.aload_n 0, 1) := by decide +kernel
theorem dX8_outcome_92 : decode cX8_outcome 92 = .ok (.getfield 28, 3) := by decide +kernel
theorem dX8_outcome_95 : decode cX8_outcome 95 = .ok (.iload 4, 2) := by decide +kernel
theorem dX8_outcome_97 : decode cX8_outcome 97 = .ok (.iadd, 1) := by decide +kernel
theorem dX8_outcome_98 : decode cX8_outcome 98 = .ok (.iaload, 1) := by decide +kernel
theorem dX8_outcome_99 : decode cX8_outcome 99 = .ok (.istore 5, 2) := by decide +kernel
theorem dX8_outcome_101 : decode cX8_outcome 101 = .ok (.aload_n 0, 1) := by decide +kernel
theorem dX8_outcome_102 : decode cX8_outcome 102 = .ok (.aload_n 0, 1) := by decide +kernel
theorem dX8_outcome_103 : decode cX8_outcome 103 = .ok (.getfield 28, 3) := by decide +kernel
theorem dX8_outcome_106 : decode cX8_outcome 106 = .ok (.iload 4, 2) := by decide +kernel
theorem dX8_outcome_108 : decode cX8_outcome 108 = .ok (.iadd, 1) := by decide +kernel
theorem dX8_outcome_109 : decode cX8_outcome 109 = .ok (.iload_n 2, 1) := by decide +kernel
theorem dX8_outcome_110 : decode cX8_outcome 110 = .ok (.invokevirtual 67, 3) := by decide +kernel
theorem dX8_outcome_113 : decode cX8_outcome 113 = .ok (.istore 6, 2) := by decide +kernel
theorem dX8_outcome_115 : decode cX8_outcome 115 = .ok (.iload 6, 2) := by decide +kernel
theorem dX8_outcome_117 : decode cX8_outcome 117 = .ok (.iload 5, 2) := by decide +kernel
theorem dX8_outcome_119 : decode cX8_outcome 119 = .ok (.if_icmp .ne 6, 3) := by decide +kernel
theorem dX8_outcome_122 : decode cX8_outcome 122 = .ok (.goto 76, 3) := by decide +kernel
theorem dX8_outcome_125 : decode cX8_outcome 125 = .ok (.aload_n 0, 1) := by decide +kernel
theorem dX8_outcome_126 : decode cX8_outcome 126 = .ok (.getfield 12, 3) := by decide +kernel
theorem dX8_outcome_129 : decode cX8_outcome 129 = .ok (.aload_n 0, 1) := by decide +kernel
theorem dX8_outcome_130 : decode cX8_outcome 130 = .ok (.getfield 28, 3) := by decide +kernel
theorem dX8_outcome_133 : decode cX8_outcome 133 = .ok (.iload 4, 2) := by decide +kernel
theorem dX8_outcome_135 : decode cX8_outcome 135 = .ok (.iadd, 1) := by decide +kernel
theorem dX8_outcome_136 : decode cX8_outcome 136 = .ok (.iload 6, 2) := by decide +kernel
theorem dX8_outcome_138 : decode cX8_outcome 138 = .ok (.invokevirtual 71, 3) := by decide +kernel
theorem dX8_outcome_141 : decode cX8_outcome 141 = .ok (.aload_n 0, 1) := by decide +kernel
theorem dX8_outcome_142 : decode cX8_outcome 142 = .ok (.iload_n 1, 1) := by decide +kernel
theorem dX8_outcome_143 : decode cX8_outcome 143 = .ok (.iconst 1, 1) := by decide +kernel
theorem dX8_outcome_144 : decode cX8_outcome 144 = .ok (.iadd, 1) := by decide +kernel
theorem dX8_outcome_145 : decode cX8_outcome 145 = .ok (.invokevirtual 51, 3) := by decide +kernel
theorem dX8_outcome_148 : decode cX8_outcome 148 = .ok (.istore 7, 2) := by decide +kernel
theorem dX8_outcome_150 : decode cX8_outcome 150 = .ok (.aload_n 0, 1) := by decide +kernel
theorem dX8_outcome_151 : decode cX8_outcome 151 = .ok (.getfield 12, 3) := by decide +kernel
theorem dX8_outcome_154 : decode cX8_outcome 154 = .ok (.aload_n 0, 1) := by decide +kernel
theorem dX8_outcome_155 : decode cX8_outcome 155 = .ok (.getfield 28, 3) := by decide +kernel
theorem dX8_outcome_158 : decode cX8_outcome 158 = .ok (.iload 4, 2) := by decide +kernel
theorem dX8_outcome_160 : decode cX8_outcome 160 = .ok (.iadd, 1) := by decide +kernel
theorem dX8_outcome_161 : decode cX8_outcome 161 = .ok (.iload 5, 2) := by decide +kernel
theorem dX8_outcome_163 : decode cX8_outcome 163 = .ok (.invokevirtual 71, 3) := by decide +kernel
theorem dX8_outcome_166 : decode cX8_outcome 166 = .ok (.iload_n 2, 1) := by decide +kernel
theorem dX8_outcome_167 : decode cX8_outcome 167 = .ok (.ifCond .eq 12, 3) := by decide +kernel
theorem dX8_outcome_170 : decode cX8_outcome 170 = .ok (.iload 7, 2) := by decide +kernel
theorem dX8_outcome_172 : decode cX8_outcome 172 = .ok (.iload_n 3, 1) := by decide +kernel
theorem dX8_outcome_173 : decode cX8_outcome 173 = .ok (.if_icmp .ge 25, 3) := by decide +kernel
theorem dX8_outcome_176 : decode cX8_outcome 176 = .ok (.goto 9, 3) := by decide +kernel
theorem dX8_outcome_179 : decode cX8_outcome 179 = .ok (.iload 7, 2) := by decide +kernel
theorem dX8_outcome_181 : decode cX8_outcome 181 = .ok (.iload_n 3, 1) := by decide +kernel
theorem dX8_outcome_182 : decode cX8_outcome 182 = .ok (.if_icmp .le 16, 3) := by decide +kernel
theorem dX8_outcome_185 : decode cX8_outcome 185 = .ok (.iload 7, 2) := by decide +kernel
theorem dX8_outcome_187 : decode cX8_outcome 187 = .ok (.istore_n 3, 1) := by decide +kernel
theorem dX8_outcome_188 : decode cX8_outcome 188 = .ok (.iload_n 1, 1) := by decide +kernel
theorem dX8_outcome_189 : decode cX8_outcome 189 = .ok (.ifCond .ne 9, 3) := by decide +kernel
theorem dX8_outcome_192 : decode cX8_outcome 192 = .ok (.aload_n 0, 1) := by decide +kernel
theorem dX8_outcome_193 : decode cX8_outcome 193 = .ok (.iload 4, 2) := by decide +kernel
theorem dX8_outcome_195 : decode cX8_outcome 195 = .ok (.putfield 44, 3) := by decide +kernel
theorem dX8_outcome_198 : decode cX8_outcome 198 = .ok (.iinc 4 1, 3) := by decide +kernel
theorem dX8_outcome_201 : decode cX8_outcome 201 = .ok (.goto (-124), 3) := by decide +kernel
theorem dX8_outcome_204 : decode cX8_outcome 204 = .ok (.iload_n 3, 1) := by decide +kernel
theorem dX8_outcome_205 : decode cX8_outcome 205 = .ok (.ireturn, 1) := by decide +kernel
theorem dX8_waxBehind_0 : decode cX8_waxBehind 0 = .ok (.iload_n 2, 1) := by decide +kernel
theorem dX8_waxBehind_1 : decode cX8_waxBehind 1 = .ok (.ifCond .ne 5, 3) := by decide +kernel
theorem dX8_waxBehind_4 : decode cX8_waxBehind 4 = .ok (.iconst 0, 1) := by decide +kernel
theorem dX8_waxBehind_5 : decode cX8_waxBehind 5 = .ok (.ireturn, 1) := by decide +kernel
theorem dX8_waxBehind_6 : decode cX8_waxBehind 6 = .ok (.aload_n 0, 1) := by decide +kernel
theorem dX8_waxBehind_7 : decode cX8_waxBehind 7 = .ok (.getfield 12, 3) := by decide +kernel
theorem dX8_waxBehind_10 : decode cX8_waxBehind 10 = .ok (.iload_n 1, 1) := by decide +kernel
theorem dX8_waxBehind_11 : decode cX8_waxBehind 11 = .ok (.invokevirtual 75, 3) := by decide +kernel
theorem dX8_waxBehind_14 : decode cX8_waxBehind 14 = .ok (.ifCond .eq 15, 3) := by decide +kernel
theorem dX8_waxBehind_17 : decode cX8_waxBehind 17 = .ok (.aload_n 0, 1) := by decide +kernel
theorem dX8_waxBehind_18 : decode cX8_waxBehind 18 = .ok (.getfield 12, 3) := by decide +kernel
theorem dX8_waxBehind_21 : decode cX8_waxBehind 21 = .ok (.getfield 63, 3) := by decide +kernel
theorem dX8_waxBehind_24 : decode cX8_waxBehind 24 = .ok (.iload_n 1, 1) := by decide +kernel
theorem dX8_waxBehind_25 : decode cX8_waxBehind 25 = .ok (.iaload, 1) := by decide +kernel
theorem dX8_waxBehind_26 : decode cX8_waxBehind 26 = .ok (.goto 20, 3) := by decide +kernel
theorem dX8_waxBehind_29 : decode cX8_waxBehind 29 = .ok (.bipush 99, 2) := by decide +kernel
theorem dX8_waxBehind_31 : decode cX8_waxBehind 31 = .ok (.aload_n 0, 1) := by decide +kernel
theorem dX8_waxBehind_32 : decode cX8_waxBehind 32 = .ok (.getfield 12, 3) := by decide +kernel
theorem dX8_waxBehind_35 : decode cX8_waxBehind 35 = .ok (.getfield 63, 3) := by decide +kernel
theorem dX8_waxBehind_38 : decode cX8_waxBehind 38 = .ok (.iload_n 1, 1) := by decide +kernel
theorem dX8_waxBehind_39 : decode cX8_waxBehind 39 = .ok (.iaload, 1) := by decide +kernel
theorem dX8_waxBehind_40 : decode cX8_waxBehind 40 = .ok (.bipush 12, 2) := by decide +kernel
theorem dX8_waxBehind_42 : decode cX8_waxBehind 42 = .ok (.iadd, 1) := by decide +kernel
theorem dX8_waxBehind_43 : decode cX8_waxBehind 43 = .ok (.invokestatic 32, 3) := by decide +kernel
theorem dX8_waxBehind_46 : decode cX8_waxBehind 46 = .ok (.ireturn, 1) := by decide +kernel
theorem dX9_init_0 : decode cX9_init 0 = .ok (.aload_n 0, 1) := by decide +kernel
theorem dX9_init_1 : decode cX9_init 1 = .ok (.invokespecial 3, 3) := by decide +kernel
theorem dX9_init_4 : decode cX9_init 4 = .ok (.aload_n 0, 1) := by decide +kernel
theorem dX9_init_5 : decode cX9_init 5 = .ok (.iconst 5, 1) := by decide +kernel
theorem dX9_init_6 : decode cX9_init 6 = .ok (.anewarray 11, 3) := by decide +kernel
theorem dX9_init_9 : decode cX9_init 9 = .ok (.putfield 13, 3) := by decide +kernel
theorem dX9_init_12 : decode cX9_init 12 = .ok (.aload_n 0, 1) := by decide +kernel
theorem dX9_init_13 : decode cX9_init 13 = .ok (.iconst 4, 1) := by decide +kernel
theorem dX9_init_14 : decode cX9_init 14 = .ok (.newarray .int, 2) := by decide +kernel
theorem dX9_init_16 : decode cX9_init 16 = .ok (.putfield 17, 3) := by decide +kernel
theorem dX9_init_19 : decode cX9_init 19 = .ok (.aload_n 0, 1) := by decide +kernel
theorem dX9_init_20 : decode cX9_init 20 = .ok (.iconst 4, 1) := by decide +kernel
theorem dX9_init_21 : decode cX9_init 21 = .ok (.newarray .int, 2) := by decide +kernel
theorem dX9_init_23 : decode cX9_init 23 = .ok (.putfield 21, 3) := by decide +kernel
theorem dX9_init_26 : decode cX9_init 26 = .ok (.aload_n 0, 1) := by decide +kernel
theorem dX9_init_27 : decode cX9_init 27 = .ok (.aload_n 1, 1) := by decide +kernel
theorem dX9_init_28 : decode cX9_init 28 = .ok (.putfield 24, 3) := by decide +kernel
theorem dX9_init_31 : decode cX9_init 31 = .ok (.aload_n 0, 1) := by decide +kernel
theorem dX9_init_32 : decode cX9_init 32 = .ok (.aload_n 2, 1) := by decide +kernel
theorem dX9_init_33 : decode cX9_init 33 = .ok (.putfield 28, 3) := by decide +kernel
theorem dX9_init_36 : decode cX9_init 36 = .ok (.iconst 0, 1) := by decide +kernel
theorem dX9_init_37 : decode cX9_init 37 = .ok (.istore_n 3, 1) := by decide +kernel
theorem dX9_init_38 : decode cX9_init 38 = .ok (.iload_n 3, 1) := by decide +kernel
theorem dX9_init_39 : decode cX9_init 39 = .ok (.iconst 4, 1) := by decide +kernel
theorem dX9_init_40 : decode cX9_init 40 = .ok (.if_icmp .gt 22, 3) := by decide +kernel
theorem dX9_init_43 : decode cX9_init 43 = .ok (.aload_n 0, 1) := by decide +kernel
theorem dX9_init_44 : decode cX9_init 44 = .ok (.getfield 13, 3) := by decide +kernel
theorem dX9_init_47 : decode cX9_init 47 = .ok (.iload_n 3, 1) := by decide +kernel
theorem dX9_init_48 : decode cX9_init 48 = .ok (.new 11, 3) := by decide +kernel
theorem dX9_init_51 : decode cX9_init 51 = .ok (.dup, 1) := by decide +kernel
theorem dX9_init_52 : decode cX9_init 52 = .ok (.invokespecial 32, 3) := by decide +kernel
theorem dX9_init_55 : decode cX9_init 55 = .ok (.aastore, 1) := by decide +kernel
theorem dX9_init_56 : decode cX9_init 56 = .ok (.iinc 3 1, 3) := by decide +kernel
theorem dX9_init_59 : decode cX9_init 59 = .ok (.goto (-21), 3) := by decide +kernel
theorem dX9_init_62 : decode cX9_init 62 = .ok (.return_, 1) := by decide +kernel
theorem dX9_find_0 : decode cX9_find 0 = .ok (.aload_n 0, 1) := by decide +kernel
theorem dX9_find_1 : decode cX9_find 1 = .ok (.bipush 37, 2) := by decide +kernel
theorem dX9_find_3 : decode cX9_find 3 = .ok (.putfield 33, 3) := by decide +kernel
theorem dX9_find_6 : decode cX9_find 6 = .ok (.aload_n 0, 1) := by decide +kernel
theorem dX9_find_7 : decode cX9_find 7 = .ok (.getfield 13, 3) := by decide +kernel
theorem dX9_find_10 : decode cX9_find 10 = .ok (.iconst 0, 1) := by decide +kernel
theorem dX9_find_11 : decode cX9_find 11 = .ok (.aaload, 1) := by decide +kernel
theorem dX9_find_12 : decode cX9_find 12 = .ok (.aload_n 0, 1) := by decide +kernel
theorem dX9_find_13 : decode cX9_find 13 = .ok (.getfield 24, 3) := by decide +kernel
theorem dX9_find_16 : decode cX9_find 16 = .ok (.invokevirtual 37, 3) := by decide +kernel
theorem dX9_find_19 : decode cX9_find 19 = .ok (.aload_n 0, 1) := by decide +kernel
theorem dX9_find_20 : decode cX9_find 20 = .ok (.iload_n 1, 1) := by decide +kernel
theorem dX9_find_21 : decode cX9_find 21 = .ok (.iconst 0, 1) := by decide +kernel
theorem dX9_find_22 : decode cX9_find 22 = .ok (.iload_n 2, 1) := by decide +kernel
theorem dX9_find_23 : decode cX9_find 23 = .ok (.iconst 4, 1) := by decide +kernel
theorem dX9_find_24 : decode cX9_find 24 = .ok (.invokestatic 41, 3) := by decide +kernel
theorem dX9_find_27 : decode cX9_find 27 = .ok (.invokevirtual 47, 3) := by decide +kernel
theorem dX9_find_30 : decode cX9_find 30 = .ok (.return_, 1) := by decide +kernel
theorem dX9_stepAt_0 : decode cX9_stepAt 0 = .ok (.iload_n 1, 1) := by decide +kernel
theorem dX9_stepAt_1 : decode cX9_stepAt 1 = .ok (.ifCond .lt 17, 3) := by decide +kernel
theorem dX9_stepAt_4 : decode cX9_stepAt 4 = .ok (.iload_n 1, 1) := by decide +kernel
theorem dX9_stepAt_5 : decode cX9_stepAt 5 = .ok (.iconst 4, 1) := by decide +kernel
theorem dX9_stepAt_6 : decode cX9_stepAt 6 = .ok (.if_icmp .ge 12, 3) := by decide +kernel
theorem dX9_stepAt_9 : decode cX9_stepAt 9 = .ok (.aload_n 0, 1) := by decide +kernel
theorem dX9_stepAt_10 : decode cX9_stepAt 10 = .ok (.getfield 21, 3) := by decide +kernel
theorem dX9_stepAt_13 : decode cX9_stepAt 13 = .ok (.iload_n 1, 1) := by decide +kernel
theorem dX9_stepAt_14 : decode cX9_stepAt 14 = .ok (.iaload, 1) := by decide +kernel
theorem dX9_stepAt_15 : decode cX9_stepAt 15 = .ok (.goto 4, 3) := by decide +kernel
theorem dX9_stepAt_18 : decode cX9_stepAt 18 = .ok (.iconst (-1), 1) := by decide +kernel
theorem dX9_stepAt_19 : decode cX9_stepAt 19 = .ok (.ireturn, 1) := by decide +kernel
theorem dX9_go_0 : decode cX9_go 0 = .ok (.iload_n 2, 1) := by decide +kernel
theorem dX9_go_1 : decode cX9_go 1 = .ok (.iload_n 3, 1) := by decide +kernel
theorem dX9_go_2 : decode cX9_go 2 = .ok (.if_icmp .lt 17, 3) := by decide +kernel
theorem dX9_go_5 : decode cX9_go 5 = .ok (.aload_n 0, 1) := by decide +kernel
theorem dX9_go_6 : decode cX9_go 6 = .ok (.aload_n 0, 1) := by decide +kernel
theorem dX9_go_7 : decode cX9_go 7 = .ok (.getfield 13, 3) := by decide +kernel
theorem dX9_go_10 : decode cX9_go 10 = .ok (.iload_n 3, 1) := by decide +kernel
theorem dX9_go_11 : decode cX9_go 11 = .ok (.aaload, 1) := by decide +kernel
theorem dX9_go_12 : decode cX9_go 12 = .ok (.invokevirtual 51, 3) := by decide +kernel
theorem dX9_go_15 : decode cX9_go 15 = .ok (.invokevirtual 55, 3) := by decide +kernel
theorem dX9_go_18 : decode cX9_go 18 = .ok (.return_, 1) := by decide +kernel
theorem dX9_go_19 : decode cX9_go 19 = .ok (.aload_n 0, 1) := by decide +kernel
theorem dX9_go_20 : decode cX9_go 20 = .ok (.getfield 13, 3) := by decide +kernel
theorem dX9_go_23 : decode cX9_go 23 = .ok (.iload_n 2, 1) := by decide +kernel
theorem dX9_go_24 : decode cX9_go 24 = .ok (.iconst 1, 1) := by decide +kernel
theorem dX9_go_25 : decode cX9_go 25 = .ok (.iadd, 1) := by decide +kernel
theorem dX9_go_26 : decode cX9_go 26 = .ok (.aaload, 1) := by decide +kernel
theorem dX9_go_27 : decode cX9_go 27 = .ok (.astore 4, 2) := by decide +kernel
theorem dX9_go_29 : decode cX9_go 29 = .ok (.iconst 0, 1) := by decide +kernel
theorem dX9_go_30 : decode cX9_go 30 = .ok (.istore 5, 2) := by decide +kernel
theorem dX9_go_32 : decode cX9_go 32 = .ok (.iload 5, 2) := by decide +kernel
theorem dX9_go_34 : decode cX9_go 34 = .ok (.iconst 5, 1) := by decide +kernel
theorem dX9_go_35 : decode cX9_go 35 = .ok (.if_icmp .ge 92, 3) := by decide +kernel
theorem dX9_go_38 : decode cX9_go 38 = .ok (.iload_n 1, 1) := by decide +kernel
theorem dX9_go_39 : decode cX9_go 39 = .ok (.iload 5, 2) := by decide +kernel
theorem dX9_go_41 : decode cX9_go 41 = .ok (.invokestatic 59, 3) := by decide +kernel
theorem dX9_go_44 : decode cX9_go 44 = .ok (.istore 6, 2) := by decide +kernel
theorem dX9_go_46 : decode cX9_go 46 = .ok (.iload 6, 2) := by decide +kernel
theorem dX9_go_48 : decode cX9_go 48 = .ok (.ifCond .lt 73, 3) := by decide +kernel
theorem dX9_go_51 : decode cX9_go 51 = .ok (.aload_n 0, 1) := by decide +kernel
theorem dX9_go_52 : decode cX9_go 52 = .ok (.getfield 17, 3) := by decide +kernel
theorem dX9_go_55 : decode cX9_go 55 = .ok (.iload_n 2, 1) := by decide +kernel
theorem dX9_go_56 : decode cX9_go 56 = .ok (.iload 5, 2) := by decide +kernel
theorem dX9_go_58 : decode cX9_go 58 = .ok (.iastore, 1) := by decide +kernel
theorem dX9_go_59 : decode cX9_go 59 = .ok (.aload 4, 2) := by decide +kernel
theorem dX9_go_61 : decode cX9_go 61 = .ok (.aload_n 0, 1) := by decide +kernel
theorem dX9_go_62 : decode cX9_go 62 = .ok (.getfield 13, 3) := by decide +kernel
theorem dX9_go_65 : decode cX9_go 65 = .ok (.iload_n 2, 1) := by decide +kernel
theorem dX9_go_66 : decode cX9_go 66 = .ok (.aaload, 1) := by decide +kernel
theorem dX9_go_67 : decode cX9_go 67 = .ok (.invokevirtual 37, 3) := by decide +kernel
theorem dX9_go_70 : decode cX9_go 70 = .ok (.aload 4, 2) := by decide +kernel
theorem dX9_go_72 : decode cX9_go 72 = .ok (.iload 6, 2) := by decide +kernel
theorem dX9_go_74 : decode cX9_go 74 = .ok (.invokevirtual 62, 3) := by decide +kernel
theorem dX9_go_77 : decode cX9_go 77 = .ok (.ifCond .ne 25, 3) := by decide +kernel
theorem dX9_go_80 : decode cX9_go 80 = .ok (.aload 4, 2) := by decide +kernel
theorem dX9_go_82 : decode cX9_go 82 = .ok (.getfield 66, 3) := by decide +kernel
theorem dX9_go_85 : decode cX9_go 85 = .ok (.iload 6, 2) := by decide +kernel
theorem dX9_go_87 : decode cX9_go 87 = .ok (.iaload, 1) := by decide +kernel
theorem dX9_go_88 : decode cX9_go 88 = .ok (.bipush 6, 2) := by decide +kernel
theorem dX9_go_90 : decode cX9_go 90 = .ok (.if_icmp .ge 12, 3) := by decide +kernel
theorem dX9_go_93 : decode cX9_go 93 = .ok (.aload 4, 2) := by decide +kernel
theorem dX9_go_95 : decode cX9_go 95 = .ok (.iload 6, 2) := by decide +kernel
theorem dX9_go_97 : decode cX9_go 97 = .ok (.bipush 6, 2) := by decide +kernel
theorem dX9_go_99 : decode cX9_go 99 = .ok (.invokevirtual 69, 3) := by decide +kernel
theorem dX9_go_102 : decode cX9_go 102 = .ok (.aload 4, 2) := by decide +kernel
theorem dX9_go_104 : decode cX9_go 104 = .ok (.aload_n 0, 1) := by decide +kernel
theorem dX9_go_105 : decode cX9_go 105 = .ok (.getfield 28, 3) := by decide +kernel
theorem dX9_go_108 : decode cX9_go 108 = .ok (.invokevirtual 73, 3) := by decide +kernel
theorem dX9_go_111 : decode cX9_go 111 = .ok (.aload_n 0, 1) := by decide +kernel
theorem dX9_go_112 : decode cX9_go 112 = .ok (.iload 6, 2) := by decide +kernel
theorem dX9_go_114 : decode cX9_go 114 = .ok (.iload_n 2, 1) := by decide +kernel
theorem dX9_go_115 : decode cX9_go 115 = .ok (.iconst 1, 1) := by decide +kernel
theorem dX9_go_116 : decode cX9_go 116 = .ok (.iadd, 1) := by decide +kernel
theorem dX9_go_117 : decode cX9_go 117 = .ok (.iload_n 3, 1) := by decide +kernel
theorem dX9_go_118 : decode cX9_go 118 = .ok (.invokevirtual 47, 3) := by decide +kernel
theorem dX9_go_121 : decode cX9_go 121 = .ok (.iinc 5 1, 3) := by decide +kernel
theorem dX9_go_124 : decode cX9_go 124 = .ok (.goto (-92), 3) := by decide +kernel
theorem dX9_go_127 : decode cX9_go 127 = .ok (.return_, 1) := by decide +kernel
theorem dX9_weigh_0 : decode cX9_weigh 0 = .ok (.iload_n 1, 1) := by decide +kernel
theorem dX9_weigh_1 : decode cX9_weigh 1 = .ok (.aload_n 0, 1) := by decide +kernel
theorem dX9_weigh_2 : decode cX9_weigh 2 = .ok (.getfield 33, 3) := by decide +kernel
theorem dX9_weigh_5 : decode cX9_weigh 5 = .ok (.if_icmp .ge 22, 3) := by decide +kernel
theorem dX9_weigh_8 : decode cX9_weigh 8 = .ok (.aload_n 0, 1) := by decide +kernel
theorem dX9_weigh_9 : decode cX9_weigh 9 = .ok (.iload_n 1, 1) := by decide +kernel
theorem dX9_weigh_10 : decode cX9_weigh 10 = .ok (.putfield 33, 3) := by decide +kernel
theorem dX9_weigh_13 : decode cX9_weigh 13 = .ok (.aload_n 0, 1) := by decide +kernel
theorem dX9_weigh_14 : decode cX9_weigh 14 = .ok (.getfield 17, 3) := by decide +kernel
theorem dX9_weigh_17 : decode cX9_weigh 17 = .ok (.iconst 0, 1) := by decide +kernel
theorem dX9_weigh_18 : decode cX9_weigh 18 = .ok (.aload_n 0, 1) := by decide +kernel
theorem dX9_weigh_19 : decode cX9_weigh 19 = .ok (.getfield 21, 3) := by decide +kernel
theorem dX9_weigh_22 : decode cX9_weigh 22 = .ok (.iconst 0, 1) := by decide +kernel
theorem dX9_weigh_23 : decode cX9_weigh 23 = .ok (.iconst 4, 1) := by decide +kernel
theorem dX9_weigh_24 : decode cX9_weigh 24 = .ok (.invokestatic 77, 3) := by decide +kernel
theorem dX9_weigh_27 : decode cX9_weigh 27 = .ok (.return_, 1) := by decide +kernel
theorem dX9_beside_0 : decode cX9_beside 0 = .ok (.iload_n 0, 1) := by decide +kernel
theorem dX9_beside_1 : decode cX9_beside 1 = .ok (.bipush 6, 2) := by decide +kernel
theorem dX9_beside_3 : decode cX9_beside 3 = .ok (.irem, 1) := by decide +kernel
theorem dX9_beside_4 : decode cX9_beside 4 = .ok (.istore_n 2, 1) := by decide +kernel
theorem dX9_beside_5 : decode cX9_beside 5 = .ok (.iload_n 1, 1) := by decide +kernel
theorem dX9_beside_6 : decode cX9_beside 6 = .ok (.tableswitch 78 0 3 #[30, 35, 48, 66], 30) := by decide +kernel
theorem dX9_beside_36 : decode cX9_beside 36 = .ok (.iload_n 0, 1) := by decide +kernel
theorem dX9_beside_37 : decode cX9_beside 37 = .ok (.bipush 6, 2) := by decide +kernel
theorem dX9_beside_39 : decode cX9_beside 39 = .ok (.isub, 1) := by decide +kernel
theorem dX9_beside_40 : decode cX9_beside 40 = .ok (.ireturn, 1) := by decide +kernel
theorem dX9_beside_41 : decode cX9_beside 41 = .ok (.iload_n 2, 1) := by decide +kernel
theorem dX9_beside_42 : decode cX9_beside 42 = .ok (.iconst 5, 1) := by decide +kernel
theorem dX9_beside_43 : decode cX9_beside 43 = .ok (.if_icmp .ge 9, 3) := by decide +kernel
theorem dX9_beside_46 : decode cX9_beside 46 = .ok (.iload_n 0, 1) := by decide +kernel
theorem dX9_beside_47 : decode cX9_beside 47 = .ok (.iconst 1, 1) := by decide +kernel
theorem dX9_beside_48 : decode cX9_beside 48 = .ok (.iadd, 1) := by decide +kernel
theorem dX9_beside_49 : decode cX9_beside 49 = .ok (.goto 4, 3) := by decide +kernel
theorem dX9_beside_52 : decode cX9_beside 52 = .ok (.iconst (-1), 1) := by decide +kernel
theorem dX9_beside_53 : decode cX9_beside 53 = .ok (.ireturn, 1) := by decide +kernel
theorem dX9_beside_54 : decode cX9_beside 54 = .ok (.iload_n 0, 1) := by decide +kernel
theorem dX9_beside_55 : decode cX9_beside 55 = .ok (.bipush 6, 2) := by decide +kernel
theorem dX9_beside_57 : decode cX9_beside 57 = .ok (.iadd, 1) := by decide +kernel
theorem dX9_beside_58 : decode cX9_beside 58 = .ok (.bipush 36, 2) := by decide +kernel
theorem dX9_beside_60 : decode cX9_beside 60 = .ok (.if_icmp .ge 10, 3) := by decide +kernel
theorem dX9_beside_63 : decode cX9_beside 63 = .ok (.iload_n 0, 1) := by decide +kernel
theorem dX9_beside_64 : decode cX9_beside 64 = .ok (.bipush 6, 2) := by decide +kernel
theorem dX9_beside_66 : decode cX9_beside 66 = .ok (.iadd, 1) := by decide +kernel
theorem dX9_beside_67 : decode cX9_beside 67 = .ok (.goto 4, 3) := by decide +kernel
theorem dX9_beside_70 : decode cX9_beside 70 = .ok (.iconst (-1), 1) := by decide +kernel
theorem dX9_beside_71 : decode cX9_beside 71 = .ok (.ireturn, 1) := by decide +kernel
theorem dX9_beside_72 : decode cX9_beside 72 = .ok (.iload_n 2, 1) := by decide +kernel
theorem dX9_beside_73 : decode cX9_beside 73 = .ok (.ifCond .le 9, 3) := by decide +kernel
theorem dX9_beside_76 : decode cX9_beside 76 = .ok (.iload_n 0, 1) := by decide +kernel
theorem dX9_beside_77 : decode cX9_beside 77 = .ok (.iconst 1, 1) := by decide +kernel
theorem dX9_beside_78 : decode cX9_beside 78 = .ok (.isub, 1) := by decide +kernel
theorem dX9_beside_79 : decode cX9_beside 79 = .ok (.goto 4, 3) := by decide +kernel
theorem dX9_beside_82 : decode cX9_beside 82 = .ok (.iconst (-1), 1) := by decide +kernel
theorem dX9_beside_83 : decode cX9_beside 83 = .ok (.ireturn, 1) := by decide +kernel
theorem dX9_beside_84 : decode cX9_beside 84 = .ok (.iload_n 0, 1) := by decide +kernel
theorem dX9_beside_85 : decode cX9_beside 85 = .ok (.ireturn, 1) := by decide +kernel
theorem dX10_init_0 : decode cX10_init 0 = .ok (.aload_n 0, 1) := by decide +kernel
theorem dX10_init_1 : decode cX10_init 1 = .ok (.invokespecial 3, 3) := by decide +kernel
theorem dX10_init_4 : decode cX10_init 4 = .ok (.aload_n 0, 1) := by decide +kernel
theorem dX10_init_5 : decode cX10_init 5 = .ok (.bipush 36, 2) := by decide +kernel
theorem dX10_init_7 : decode cX10_init 7 = .ok (.newarray .long, 2) := by decide +kernel
theorem dX10_init_9 : decode cX10_init 9 = .ok (.putfield 9, 3) := by decide +kernel
theorem dX10_init_12 : decode cX10_init 12 = .ok (.aload_n 0, 1) := by decide +kernel
theorem dX10_init_13 : decode cX10_init 13 = .ok (.aload_n 1, 1) := by decide +kernel
theorem dX10_init_14 : decode cX10_init 14 = .ok (.putfield 15, 3) := by decide +kernel
theorem dX10_init_17 : decode cX10_init 17 = .ok (.return_, 1) := by decide +kernel
theorem dX10_fewestRooms_0 : decode cX10_fewestRooms 0 = .ok (.aload_n 0, 1) := by decide +kernel
theorem dX10_fewestRooms_1 : decode cX10_fewestRooms 1 = .ok (.getfield 15, 3) := by decide +kernel
theorem dX10_fewestRooms_4 : decode cX10_fewestRooms 4 = .ok (.iload_n 1, 1) := by decide +kernel
theorem dX10_fewestRooms_5 : decode cX10_fewestRooms 5 = .ok (.invokevirtual 19, 3) := by decide +kernel
theorem dX10_fewestRooms_8 : decode cX10_fewestRooms 8 = .ok (.ifCond .eq 5, 3) := by decide +kernel
theorem dX10_fewestRooms_11 : decode cX10_fewestRooms 11 = .ok (.iconst 0, 1) := by decide +kernel
theorem dX10_fewestRooms_12 : decode cX10_fewestRooms 12 = .ok (.ireturn, 1) := by decide +kernel
theorem dX10_fewestRooms_13 : decode cX10_fewestRooms 13 = .ok (.aload_n 0, 1) := by decide +kernel
theorem dX10_fewestRooms_14 : decode cX10_fewestRooms 14 = .ok (.iload_n 1, 1) := by decide +kernel
theorem dX10_fewestRooms_15 : decode cX10_fewestRooms 15 = .ok (.aload_n 0, 1) := by decide +kernel
theorem dX10_fewestRooms_16 : decode cX10_fewestRooms 16 = .ok (.invokevirtual 25, 3) := by decide +kernel
theorem dX10_fewestRooms_19 : decode cX10_fewestRooms 19 = .ok (.invokevirtual 29, 3) := by decide +kernel
theorem dX10_fewestRooms_22 : decode cX10_fewestRooms 22 = .ok (.lstore_n 2, 1) := by decide +kernel
theorem dX10_fewestRooms_23 : decode cX10_fewestRooms 23 = .ok (.lload_n 2, 1) := by decide +kernel
theorem dX10_fewestRooms_24 : decode cX10_fewestRooms 24 = .ok (.lconst 0, 1) := by decide +kernel
theorem dX10_fewestRooms_25 : decode cX10_fewestRooms 25 = .ok (.lcmp, 1) := by decide +kernel
theorem dX10_fewestRooms_26 : decode cX10_fewestRooms 26 = .ok (.ifCond .ne 8, 3) := by decide +kernel
theorem dX10_fewestRooms_29 : decode cX10_fewestRooms 29 = .ok (.bipush (-2), 2) := by decide +kernel
theorem dX10_fewestRooms_31 : decode cX10_fewestRooms 31 = .ok (.goto 7, 3) := by decide +kernel
theorem dX10_fewestRooms_34 : decode cX10_fewestRooms 34 = .ok (.lload_n 2, 1) := by decide +kernel
theorem dX10_fewestRooms_35 : decode cX10_fewestRooms 35 = .ok (.invokestatic 33, 3) := by decide +kernel
theorem dX10_fewestRooms_38 : decode cX10_fewestRooms 38 = .ok (.ireturn, 1) := by decide +kernel
theorem dX10_fewestLights_0 : decode cX10_fewestLights 0 = .ok (.aload_n 0, 1) := by decide +kernel
theorem dX10_fewestLights_1 : decode cX10_fewestLights 1 = .ok (.getfield 15, 3) := by decide +kernel
theorem dX10_fewestLights_4 : decode cX10_fewestLights 4 = .ok (.iload_n 1, 1) := by decide +kernel
theorem dX10_fewestLights_5 : decode cX10_fewestLights 5 = .ok (.invokevirtual 39, 3) := by decide +kernel
theorem dX10_fewestLights_8 : decode cX10_fewestLights 8 = .ok (.ifCond .eq 5, 3) := by decide +kernel
theorem dX10_fewestLights_11 : decode cX10_fewestLights 11 = .ok (.iconst 0, 1) := by decide +kernel
theorem dX10_fewestLights_12 : decode cX10_fewestLights 12 = .ok (.ireturn, 1) := by decide +kernel
theorem dX10_fewestLights_13 : decode cX10_fewestLights 13 = .ok (.aload_n 0, 1) := by decide +kernel
theorem dX10_fewestLights_14 : decode cX10_fewestLights 14 = .ok (.getfield 15, 3) := by decide +kernel
theorem dX10_fewestLights_17 : decode cX10_fewestLights 17 = .ok (.iload_n 1, 1) := by decide +kernel
theorem dX10_fewestLights_18 : decode cX10_fewestLights 18 = .ok (.invokevirtual 19, 3) := by decide +kernel
theorem dX10_fewestLights_21 : decode cX10_fewestLights 21 = .ok (.ifCond .ne 16, 3) := by decide +kernel
theorem dX10_fewestLights_24 : decode cX10_fewestLights 24 = .ok (.aload_n 0, 1) := by decide +kernel
theorem dX10_fewestLights_25 : decode cX10_fewestLights 25 = .ok (.invokevirtual 42, 3) := by decide +kernel
theorem dX10_fewestLights_28 : decode cX10_fewestLights 28 = .ok (.iload_n 1, 1) := by decide +kernel
theorem dX10_fewestLights_29 : decode cX10_fewestLights 29 = .ok (.lushr, 1) := by decide +kernel
theorem dX10_fewestLights_30 : decode cX10_fewestLights 30 = .ok (.lconst 1, 1) := by decide +kernel
theorem dX10_fewestLights_31 : decode cX10_fewestLights 31 = .ok (.land, 1) := by decide +kernel
theorem dX10_fewestLights_32 : decode cX10_fewestLights 32 = .ok (.lconst 0, 1) := by decide +kernel
theorem dX10_fewestLights_33 : decode cX10_fewestLights 33 = .ok (.lcmp, 1) := by decide +kernel
theorem dX10_fewestLights_34 : decode cX10_fewestLights 34 = .ok (.ifCond .eq 6, 3) := by decide +kernel
theorem dX10_fewestLights_37 : decode cX10_fewestLights 37 = .ok (.bipush (-2), 2) := by decide +kernel
theorem dX10_fewestLights_39 : decode cX10_fewestLights 39 = .ok (.ireturn, 1) := by decide +kernel
theorem dX10_fewestLights_40 : decode cX10_fewestLights 40 = .ok (.iconst 0, 1) := by decide +kernel
theorem dX10_fewestLights_41 : decode cX10_fewestLights 41 = .ok (.istore_n 2, 1) := by decide +kernel
theorem dX10_fewestLights_42 : decode cX10_fewestLights 42 = .ok (.iload_n 2, 1) := by decide +kernel
theorem dX10_fewestLights_43 : decode cX10_fewestLights 43 = .ok (.iconst 4, 1) := by decide +kernel
theorem dX10_fewestLights_44 : decode cX10_fewestLights 44 = .ok (.if_icmp .ge 22, 3) := by decide +kernel
theorem dX10_fewestLights_47 : decode cX10_fewestLights 47 = .ok (.aload_n 0, 1) := by decide +kernel
theorem dX10_fewestLights_48 : decode cX10_fewestLights 48 = .ok (.iload_n 1, 1) := by decide +kernel
theorem dX10_fewestLights_49 : decode cX10_fewestLights 49 = .ok (.aload_n 0, 1) := by decide +kernel
theorem dX10_fewestLights_50 : decode cX10_fewestLights 50 = .ok (.invokevirtual 25, 3) := by decide +kernel
theorem dX10_fewestLights_53 : decode cX10_fewestLights 53 = .ok (.iload_n 2, 1) := by decide +kernel
theorem dX10_fewestLights_54 : decode cX10_fewestLights 54 = .ok (.invokevirtual 45, 3) := by decide +kernel
theorem dX10_fewestLights_57 : decode cX10_fewestLights 57 = .ok (.ifCond .ne 9, 3) := by decide +kernel
theorem dX10_fewestLights_60 : decode cX10_fewestLights 60 = .ok (.iinc 2 1, 3) := by decide +kernel
theorem dX10_fewestLights_63 : decode cX10_fewestLights 63 = .ok (.goto (-21), 3) := by decide +kernel
theorem dX10_fewestLights_66 : decode cX10_fewestLights 66 = .ok (.iload_n 2, 1) := by decide +kernel
theorem dX10_fewestLights_67 : decode cX10_fewestLights 67 = .ok (.ireturn, 1) := by decide +kernel
theorem dX10_open_0 : decode cX10_open 0 = .ok (.ldc2_w 49, 3) := by decide +kernel
theorem dX10_open_3 : decode cX10_open 3 = .ok (.aload_n 0, 1) := by decide +kernel
theorem dX10_open_4 : decode cX10_open 4 = .ok (.getfield 15, 3) := by decide +kernel
theorem dX10_open_7 : decode cX10_open 7 = .ok (.getfield 51, 3) := by decide +kernel
theorem dX10_open_10 : decode cX10_open 10 = .ok (.aload_n 0, 1) := by decide +kernel
theorem dX10_open_11 : decode cX10_open 11 = .ok (.getfield 15, 3) := by decide +kernel
theorem dX10_open_14 : decode cX10_open 14 = .ok (.invokevirtual 55, 3) := by decide +kernel
theorem dX10_open_17 : decode cX10_open 17 = .ok (.lor, 1) := by decide +kernel
theorem dX10_open_18 : decode cX10_open 18 = .ok (.ldc2_w 58, 3) := by decide +kernel
theorem dX10_open_21 : decode cX10_open 21 = .ok (.lxor, 1) := by decide +kernel
theorem dX10_open_22 : decode cX10_open 22 = .ok (.land, 1) := by decide +kernel
theorem dX10_open_23 : decode cX10_open 23 = .ok (.lreturn, 1) := by decide +kernel
theorem dX10_gates_0 : decode cX10_gates 0 = .ok (.ldc2_w 60, 3) := by decide +kernel
theorem dX10_gates_3 : decode cX10_gates 3 = .ok (.aload_n 0, 1) := by decide +kernel
theorem dX10_gates_4 : decode cX10_gates 4 = .ok (.getfield 15, 3) := by decide +kernel
theorem dX10_gates_7 : decode cX10_gates 7 = .ok (.getfield 51, 3) := by decide +kernel
theorem dX10_gates_10 : decode cX10_gates 10 = .ok (.invokestatic 62, 3) := by decide +kernel
theorem dX10_gates_13 : decode cX10_gates 13 = .ok (.lor, 1) := by decide +kernel
theorem dX10_gates_14 : decode cX10_gates 14 = .ok (.lreturn, 1) := by decide +kernel
theorem dX10_spread_0 : decode cX10_spread 0 = .ok (.lload_n 0, 1) := by decide +kernel
theorem dX10_spread_1 : decode cX10_spread 1 = .ok (.bipush 6, 2) := by decide +kernel
theorem dX10_spread_3 : decode cX10_spread 3 = .ok (.lshl, 1) := by decide +kernel
theorem dX10_spread_4 : decode cX10_spread 4 = .ok (.lload_n 0, 1) := by decide +kernel
theorem dX10_spread_5 : decode cX10_spread 5 = .ok (.bipush 6, 2) := by decide +kernel
theorem dX10_spread_7 : decode cX10_spread 7 = .ok (.lushr, 1) := by decide +kernel
theorem dX10_spread_8 : decode cX10_spread 8 = .ok (.lor, 1) := by decide +kernel
theorem dX10_spread_9 : decode cX10_spread 9 = .ok (.lstore_n 2, 1) := by decide +kernel
theorem dX10_spread_10 : decode cX10_spread 10 = .ok (.lload_n 0, 1) := by decide +kernel
theorem dX10_spread_11 : decode cX10_spread 11 = .ok (.ldc2_w 66, 3) := by decide +kernel
theorem dX10_spread_14 : decode cX10_spread 14 = .ok (.land, 1) := by decide +kernel
theorem dX10_spread_15 : decode cX10_spread 15 = .ok (.iconst 1, 1) := by decide +kernel
theorem dX10_spread_16 : decode cX10_spread 16 = .ok (.lshl, 1) := by decide +kernel
theorem dX10_spread_17 : decode cX10_spread 17 = .ok (.lload_n 0, 1) := by decide +kernel
theorem dX10_spread_18 : decode cX10_spread 18 = .ok (.ldc2_w 68, 3) := by decide +kernel
theorem dX10_spread_21 : decode cX10_spread 21 = .ok (.land, 1) := by decide +kernel
theorem dX10_spread_22 : decode cX10_spread 22 = .ok (.iconst 1, 1) := by decide +kernel
theorem dX10_spread_23 : decode cX10_spread 23 = .ok (.lushr, 1) := by decide +kernel
theorem dX10_spread_24 : decode cX10_spread 24 = .ok (.lor, 1) := by decide +kernel
theorem dX10_spread_25 : decode cX10_spread 25 = .ok (.lstore 4, 2) := by decide +kernel
theorem dX10_spread_27 : decode cX10_spread 27 = .ok (.lload_n 2, 1) := by decide +kernel
theorem dX10_spread_28 : decode cX10_spread 28 = .ok (.lload 4, 2) := by decide +kernel
theorem dX10_spread_30 : decode cX10_spread 30 = .ok (.lor, 1) := by decide +kernel
theorem dX10_spread_31 : decode cX10_spread 31 = .ok (.ldc2_w 49, 3) := by decide +kernel
theorem dX10_spread_34 : decode cX10_spread 34 = .ok (.land, 1) := by decide +kernel
theorem dX10_spread_35 : decode cX10_spread 35 = .ok (.lreturn, 1) := by decide +kernel
theorem dX10_lowest_0 : decode cX10_lowest 0 = .ok (.lload_n 0, 1) := by decide +kernel
theorem dX10_lowest_1 : decode cX10_lowest 1 = .ok (.lload_n 0, 1) := by decide +kernel
theorem dX10_lowest_2 : decode cX10_lowest 2 = .ok (.lneg, 1) := by decide +kernel
theorem dX10_lowest_3 : decode cX10_lowest 3 = .ok (.land, 1) := by decide +kernel
theorem dX10_lowest_4 : decode cX10_lowest 4 = .ok (.lreturn, 1) := by decide +kernel
theorem dX10_shortestWay_0 : decode cX10_shortestWay 0 = .ok (.aload_n 0, 1) := by decide +kernel
theorem dX10_shortestWay_1 : decode cX10_shortestWay 1 = .ok (.invokevirtual 42, 3) := by decide +kernel
theorem dX10_shortestWay_4 : decode cX10_shortestWay 4 = .ok (.lstore 4, 2) := by decide +kernel
theorem dX10_shortestWay_6 : decode cX10_shortestWay 6 = .ok (.lconst 0, 1) := by decide +kernel
theorem dX10_shortestWay_7 : decode cX10_shortestWay 7 = .ok (.lstore 6, 2) := by decide +kernel
theorem dX10_shortestWay_9 : decode cX10_shortestWay 9 = .ok (.lconst 1, 1) := by decide +kernel
theorem dX10_shortestWay_10 : decode cX10_shortestWay 10 = .ok (.iload_n 1, 1) := by decide +kernel
theorem dX10_shortestWay_11 : decode cX10_shortestWay 11 = .ok (.lshl, 1) := by decide +kernel
theorem dX10_shortestWay_12 : decode cX10_shortestWay 12 = .ok (.lload_n 2, 1) := by decide +kernel
theorem dX10_shortestWay_13 : decode cX10_shortestWay 13 = .ok (.land, 1) := by decide +kernel
theorem dX10_shortestWay_14 : decode cX10_shortestWay 14 = .ok (.lstore 8, 2) := by decide +kernel
theorem dX10_shortestWay_16 : decode cX10_shortestWay 16 = .ok (.iconst 0, 1) := by decide +kernel
theorem dX10_shortestWay_17 : decode cX10_shortestWay 17 = .ok (.istore 10, 2) := by decide +kernel
theorem dX10_shortestWay_19 : decode cX10_shortestWay 19 = .ok (.iload 10, 2) := by decide +kernel
theorem dX10_shortestWay_21 : decode cX10_shortestWay 21 = .ok (.bipush 36, 2) := by decide +kernel
theorem dX10_shortestWay_23 : decode cX10_shortestWay 23 = .ok (.if_icmp .ge 73, 3) := by decide +kernel
theorem dX10_shortestWay_26 : decode cX10_shortestWay 26 = .ok (.lload 8, 2) := by decide +kernel
theorem dX10_shortestWay_28 : decode cX10_shortestWay 28 = .ok (.lconst 0, 1) := by decide +kernel
theorem dX10_shortestWay_29 : decode cX10_shortestWay 29 = .ok (.lcmp, 1) := by decide +kernel
theorem dX10_shortestWay_30 : decode cX10_shortestWay 30 = .ok (.ifCond .eq 66, 3) := by decide +kernel
theorem dX10_shortestWay_33 : decode cX10_shortestWay 33 = .ok (.aload_n 0, 1) := by decide +kernel
theorem dX10_shortestWay_34 : decode cX10_shortestWay 34 = .ok (.getfield 9, 3) := by decide +kernel
theorem dX10_shortestWay_37 : decode cX10_shortestWay 37 = .ok (.iload 10, 2) := by decide +kernel
theorem dX10_shortestWay_39 : decode cX10_shortestWay 39 = .ok (.lload 8, 2) := by decide +kernel
theorem dX10_shortestWay_41 : decode cX10_shortestWay 41 = .ok (.lastore, 1) := by decide +kernel
theorem dX10_shortestWay_42 : decode cX10_shortestWay 42 = .ok (.lload 8, 2) := by decide +kernel
theorem dX10_shortestWay_44 : decode cX10_shortestWay 44 = .ok (.lload 4, 2) := by decide +kernel
theorem dX10_shortestWay_46 : decode cX10_shortestWay 46 = .ok (.land, 1) := by decide +kernel
theorem dX10_shortestWay_47 : decode cX10_shortestWay 47 = .ok (.lconst 0, 1) := by decide +kernel
theorem dX10_shortestWay_48 : decode cX10_shortestWay 48 = .ok (.lcmp, 1) := by decide +kernel
theorem dX10_shortestWay_49 : decode cX10_shortestWay 49 = .ok (.ifCond .eq 18, 3) := by decide +kernel
theorem dX10_shortestWay_52 : decode cX10_shortestWay 52 = .ok (.aload_n 0, 1) := by decide +kernel
theorem dX10_shortestWay_53 : decode cX10_shortestWay 53 = .ok (.iload 10, 2) := by decide +kernel
theorem dX10_shortestWay_55 : decode cX10_shortestWay 55 = .ok (.lload 8, 2) := by decide +kernel
theorem dX10_shortestWay_57 : decode cX10_shortestWay 57 = .ok (.lload 4, 2) := by decide +kernel
theorem dX10_shortestWay_59 : decode cX10_shortestWay 59 = .ok (.land, 1) := by decide +kernel
theorem dX10_shortestWay_60 : decode cX10_shortestWay 60 = .ok (.invokestatic 70, 3) := by decide +kernel
theorem dX10_shortestWay_63 : decode cX10_shortestWay 63 = .ok (.invokevirtual 73, 3) := by decide +kernel
theorem dX10_shortestWay_66 : decode cX10_shortestWay 66 = .ok (.lreturn, 1) := by decide +kernel
theorem dX10_shortestWay_67 : decode cX10_shortestWay 67 = .ok (.lload 6, 2) := by decide +kernel
theorem dX10_shortestWay_69 : decode cX10_shortestWay 69 = .ok (.lload 8, 2) := by decide +kernel
theorem dX10_shortestWay_71 : decode cX10_shortestWay 71 = .ok (.lor, 1) := by decide +kernel
theorem dX10_shortestWay_72 : decode cX10_shortestWay 72 = .ok (.lstore 6, 2) := by decide +kernel
theorem dX10_shortestWay_74 : decode cX10_shortestWay 74 = .ok (.lload 8, 2) := by decide +kernel
theorem dX10_shortestWay_76 : decode cX10_shortestWay 76 = .ok (.invokestatic 62, 3) := by decide +kernel
theorem dX10_shortestWay_79 : decode cX10_shortestWay 79 = .ok (.lload_n 2, 1) := by decide +kernel
theorem dX10_shortestWay_80 : decode cX10_shortestWay 80 = .ok (.land, 1) := by decide +kernel
theorem dX10_shortestWay_81 : decode cX10_shortestWay 81 = .ok (.lload 6, 2) := by decide +kernel
theorem dX10_shortestWay_83 : decode cX10_shortestWay 83 = .ok (.ldc2_w 58, 3) := by decide +kernel
theorem dX10_shortestWay_86 : decode cX10_shortestWay 86 = .ok (.lxor, 1) := by decide +kernel
theorem dX10_shortestWay_87 : decode cX10_shortestWay 87 = .ok (.land, 1) := by decide +kernel
theorem dX10_shortestWay_88 : decode cX10_shortestWay 88 = .ok (.lstore 8, 2) := by decide +kernel
theorem dX10_shortestWay_90 : decode cX10_shortestWay 90 = .ok (.iinc 10 1, 3) := by decide +kernel
theorem dX10_shortestWay_93 : decode cX10_shortestWay 93 = .ok (.goto (-74), 3) := by decide +kernel
theorem dX10_shortestWay_96 : decode cX10_shortestWay 96 = .ok (.lconst 0, 1) := by decide +kernel
theorem dX10_shortestWay_97 : decode cX10_shortestWay 97 = .ok (.lreturn, 1) := by decide +kernel
theorem dX10_wayBack_0 : decode cX10_wayBack 0 = .ok (.lload_n 2, 1) := by decide +kernel
theorem dX10_wayBack_1 : decode cX10_wayBack 1 = .ok (.lstore 4, 2) := by decide +kernel
theorem dX10_wayBack_3 : decode cX10_wayBack 3 = .ok (.lload_n 2, 1) := by decide +kernel
theorem dX10_wayBack_4 : decode cX10_wayBack 4 = .ok (.lstore 6, 2) := by decide +kernel
theorem dX10_wayBack_6 : decode cX10_wayBack 6 = .ok (.iload_n 1, 1) := by decide +kernel
theorem dX10_wayBack_7 : decode cX10_wayBack 7 = .ok (.iconst 1, 1) := by decide +kernel
theorem dX10_wayBack_8 : decode cX10_wayBack 8 = .ok (.isub, 1) := by decide +kernel
theorem dX10_wayBack_9 : decode cX10_wayBack 9 = .ok (.istore 8, 2) := by decide +kernel
theorem dX10_wayBack_11 : decode cX10_wayBack 11 = .ok (.iload 8, 2) := by decide +kernel
theorem dX10_wayBack_13 : decode cX10_wayBack 13 = .ok (.ifCond .lt 34, 3) := by decide +kernel
theorem dX10_wayBack_16 : decode cX10_wayBack 16 = .ok (.lload 4, 2) := by decide +kernel
theorem dX10_wayBack_18 : decode cX10_wayBack 18 = .ok (.invokestatic 62, 3) := by decide +kernel
theorem dX10_wayBack_21 : decode cX10_wayBack 21 = .ok (.aload_n 0, 1) := by decide +kernel
theorem dX10_wayBack_22 : decode cX10_wayBack 22 = .ok (.getfield 9, 3) := by decide +kernel
theorem dX10_wayBack_25 : decode cX10_wayBack 25 = .ok (.iload 8, 2) := by decide +kernel
theorem dX10_wayBack_27 : decode cX10_wayBack 27 = .ok (.laload, 1) := by decide +kernel
theorem dX10_wayBack_28 : decode cX10_wayBack 28 = .ok (.land, 1) := by decide +kernel
theorem dX10_wayBack_29 : decode cX10_wayBack 29 = .ok (.invokestatic 70, 3) := by decide +kernel
theorem dX10_wayBack_32 : decode cX10_wayBack 32 = .ok (.lstore 4, 2) := by decide +kernel
theorem dX10_wayBack_34 : decode cX10_wayBack 34 = .ok (.lload 6, 2) := by decide +kernel
theorem dX10_wayBack_36 : decode cX10_wayBack 36 = .ok (.lload 4, 2) := by decide +kernel
theorem dX10_wayBack_38 : decode cX10_wayBack 38 = .ok (.lor, 1) := by decide +kernel
theorem dX10_wayBack_39 : decode cX10_wayBack 39 = .ok (.lstore 6, 2) := by decide +kernel
theorem dX10_wayBack_41 : decode cX10_wayBack 41 = .ok (.iinc 8 (-1), 3) := by decide +kernel
theorem dX10_wayBack_44 : decode cX10_wayBack 44 = .ok (.goto (-33), 3) := by decide +kernel
theorem dX10_wayBack_47 : decode cX10_wayBack 47 = .ok (.lload 6, 2) := by decide +kernel
theorem dX10_wayBack_49 : decode cX10_wayBack 49 = .ok (.lreturn, 1) := by decide +kernel
theorem dX10_canCut_0 : decode cX10_canCut 0 = .ok (.aload_n 0, 1) := by decide +kernel
theorem dX10_canCut_1 : decode cX10_canCut 1 = .ok (.iload_n 1, 1) := by decide +kernel
theorem dX10_canCut_2 : decode cX10_canCut 2 = .ok (.lload_n 2, 1) := by decide +kernel
theorem dX10_canCut_3 : decode cX10_canCut 3 = .ok (.invokevirtual 29, 3) := by decide +kernel
theorem dX10_canCut_6 : decode cX10_canCut 6 = .ok (.lstore 5, 2) := by decide +kernel
theorem dX10_canCut_8 : decode cX10_canCut 8 = .ok (.lload 5, 2) := by decide +kernel
theorem dX10_canCut_10 : decode cX10_canCut 10 = .ok (.lconst 0, 1) := by decide +kernel
theorem dX10_canCut_11 : decode cX10_canCut 11 = .ok (.lcmp, 1) := by decide +kernel
theorem dX10_canCut_12 : decode cX10_canCut 12 = .ok (.ifCond .ne 5, 3) := by decide +kernel
theorem dX10_canCut_15 : decode cX10_canCut 15 = .ok (.iconst 1, 1) := by decide +kernel
theorem dX10_canCut_16 : decode cX10_canCut 16 = .ok (.ireturn, 1) := by decide +kernel
theorem dX10_canCut_17 : decode cX10_canCut 17 = .ok (.lload 5, 2) := by decide +kernel
theorem dX10_canCut_19 : decode cX10_canCut 19 = .ok (.lconst 1, 1) := by decide +kernel
theorem dX10_canCut_20 : decode cX10_canCut 20 = .ok (.iload_n 1, 1) := by decide +kernel
theorem dX10_canCut_21 : decode cX10_canCut 21 = .ok (.lshl, 1) := by decide +kernel
theorem dX10_canCut_22 : decode cX10_canCut 22 = .ok (.ldc2_w 58, 3) := by decide +kernel
theorem dX10_canCut_25 : decode cX10_canCut 25 = .ok (.lxor, 1) := by decide +kernel
theorem dX10_canCut_26 : decode cX10_canCut 26 = .ok (.land, 1) := by decide +kernel
theorem dX10_canCut_27 : decode cX10_canCut 27 = .ok (.lstore 7, 2) := by decide +kernel
theorem dX10_canCut_29 : decode cX10_canCut 29 = .ok (.iconst 0, 1) := by decide +kernel
theorem dX10_canCut_30 : decode cX10_canCut 30 = .ok (.istore 9, 2) := by decide +kernel
theorem dX10_canCut_32 : decode cX10_canCut 32 = .ok (.iload 9, 2) := by decide +kernel
theorem dX10_canCut_34 : decode cX10_canCut 34 = .ok (.bipush 36, 2) := by decide +kernel
theorem dX10_canCut_36 : decode cX10_canCut 36 = .ok (.if_icmp .ge 52, 3) := by decide +kernel
theorem dX10_canCut_39 : decode cX10_canCut 39 = .ok (.iload 4, 2) := by decide +kernel
theorem dX10_canCut_41 : decode cX10_canCut 41 = .ok (.ifCond .le 47, 3) := by decide +kernel
theorem dX10_canCut_44 : decode cX10_canCut 44 = .ok (.lconst 1, 1) := by decide +kernel
theorem dX10_canCut_45 : decode cX10_canCut 45 = .ok (.iload 9, 2) := by decide +kernel
theorem dX10_canCut_47 : decode cX10_canCut 47 = .ok (.lshl, 1) := by decide +kernel
theorem dX10_canCut_48 : decode cX10_canCut 48 = .ok (.lstore 10, 2) := by decide +kernel
theorem dX10_canCut_50 : decode cX10_canCut 50 = .ok (.lload 7, 2) := by decide +kernel
theorem dX10_canCut_52 : decode cX10_canCut 52 = .ok (.lload 10, 2) := by decide +kernel
theorem dX10_canCut_54 : decode cX10_canCut 54 = .ok (.land, 1) := by decide +kernel
theorem dX10_canCut_55 : decode cX10_canCut 55 = .ok (.lconst 0, 1) := by decide +kernel
theorem dX10_canCut_56 : decode cX10_canCut 56 = .ok (.lcmp, 1) := by decide +kernel
theorem dX10_canCut_57 : decode cX10_canCut 57 = .ok (.ifCond .eq 25, 3) := by decide +kernel
theorem dX10_canCut_60 : decode cX10_canCut 60 = .ok (.aload_n 0, 1) := by decide +kernel
theorem dX10_canCut_61 : decode cX10_canCut 61 = .ok (.iload_n 1, 1) := by decide +kernel
theorem dX10_canCut_62 : decode cX10_canCut 62 = .ok (.lload_n 2, 1) := by decide +kernel
theorem dX10_canCut_63 : decode cX10_canCut 63 = .ok (.lload 10, 2) := by decide +kernel
theorem dX10_canCut_65 : decode cX10_canCut 65 = .ok (.ldc2_w 58, 3) := by decide +kernel
theorem dX10_canCut_68 : decode cX10_canCut 68 = .ok (.lxor, 1) := by decide +kernel
theorem dX10_canCut_69 : decode cX10_canCut 69 = .ok (.land, 1) := by decide +kernel
theorem dX10_canCut_70 : decode cX10_canCut 70 = .ok (.iload 4, 2) := by decide +kernel
theorem dX10_canCut_72 : decode cX10_canCut 72 = .ok (.iconst 1, 1) := by decide +kernel
theorem dX10_canCut_73 : decode cX10_canCut 73 = .ok (.isub, 1) := by decide +kernel
theorem dX10_canCut_74 : decode cX10_canCut 74 = .ok (.invokevirtual 45, 3) := by decide +kernel
theorem dX10_canCut_77 : decode cX10_canCut 77 = .ok (.ifCond .eq 5, 3) := by decide +kernel
theorem dX10_canCut_80 : decode cX10_canCut 80 = .ok (.iconst 1, 1) := by decide +kernel
theorem dX10_canCut_81 : decode cX10_canCut 81 = .ok (.ireturn, 1) := by decide +kernel
theorem dX10_canCut_82 : decode cX10_canCut 82 = .ok (.iinc 9 1, 3) := by decide +kernel
theorem dX10_canCut_85 : decode cX10_canCut 85 = .ok (.goto (-53), 3) := by decide +kernel
theorem dX10_canCut_88 : decode cX10_canCut 88 = .ok (.iconst 0, 1) := by decide +kernel
theorem dX10_canCut_89 : decode cX10_canCut 89 = .ok (.ireturn, 1) := by decide +kernel
theorem dJ13_bitCount_95d88_0 : decode cJ13_bitCount_95d88 0 = .ok (.lload_n 0, 1) := by decide +kernel
theorem dJ13_bitCount_95d88_1 : decode cJ13_bitCount_95d88 1 = .ok (.lload_n 0, 1) := by decide +kernel
theorem dJ13_bitCount_95d88_2 : decode cJ13_bitCount_95d88 2 = .ok (.iconst 1, 1) := by decide +kernel
theorem dJ13_bitCount_95d88_3 : decode cJ13_bitCount_95d88 3 = .ok (.lushr, 1) := by decide +kernel
theorem dJ13_bitCount_95d88_4 : decode cJ13_bitCount_95d88 4 = .ok (.ldc2_w 314, 3) := by decide +kernel
theorem dJ13_bitCount_95d88_7 : decode cJ13_bitCount_95d88 7 = .ok (.land, 1) := by decide +kernel
theorem dJ13_bitCount_95d88_8 : decode cJ13_bitCount_95d88 8 = .ok (.lsub, 1) := by decide +kernel
theorem dJ13_bitCount_95d88_9 : decode cJ13_bitCount_95d88 9 = .ok (.lstore_n 0, 1) := by decide +kernel
theorem dJ13_bitCount_95d88_10 : decode cJ13_bitCount_95d88 10 = .ok (.lload_n 0, 1) := by decide +kernel
theorem dJ13_bitCount_95d88_11 : decode cJ13_bitCount_95d88 11 = .ok (.ldc2_w 316, 3) := by decide +kernel
theorem dJ13_bitCount_95d88_14 : decode cJ13_bitCount_95d88 14 = .ok (.land, 1) := by decide +kernel
theorem dJ13_bitCount_95d88_15 : decode cJ13_bitCount_95d88 15 = .ok (.lload_n 0, 1) := by decide +kernel
theorem dJ13_bitCount_95d88_16 : decode cJ13_bitCount_95d88 16 = .ok (.iconst 2, 1) := by decide +kernel
theorem dJ13_bitCount_95d88_17 : decode cJ13_bitCount_95d88 17 = .ok (.lushr, 1) := by decide +kernel
theorem dJ13_bitCount_95d88_18 : decode cJ13_bitCount_95d88 18 = .ok (.ldc2_w 316, 3) := by decide +kernel
theorem dJ13_bitCount_95d88_21 : decode cJ13_bitCount_95d88 21 = .ok (.land, 1) := by decide +kernel
theorem dJ13_bitCount_95d88_22 : decode cJ13_bitCount_95d88 22 = .ok (.ladd, 1) := by decide +kernel
theorem dJ13_bitCount_95d88_23 : decode cJ13_bitCount_95d88 23 = .ok (.lstore_n 0, 1) := by decide +kernel
theorem dJ13_bitCount_95d88_24 : decode cJ13_bitCount_95d88 24 = .ok (.lload_n 0, 1) := by decide +kernel
theorem dJ13_bitCount_95d88_25 : decode cJ13_bitCount_95d88 25 = .ok (.lload_n 0, 1) := by decide +kernel
theorem dJ13_bitCount_95d88_26 : decode cJ13_bitCount_95d88 26 = .ok (.iconst 4, 1) := by decide +kernel
theorem dJ13_bitCount_95d88_27 : decode cJ13_bitCount_95d88 27 = .ok (.lushr, 1) := by decide +kernel
theorem dJ13_bitCount_95d88_28 : decode cJ13_bitCount_95d88 28 = .ok (.ladd, 1) := by decide +kernel
theorem dJ13_bitCount_95d88_29 : decode cJ13_bitCount_95d88 29 = .ok (.ldc2_w 318, 3) := by decide +kernel
theorem dJ13_bitCount_95d88_32 : decode cJ13_bitCount_95d88 32 = .ok (.land, 1) := by decide +kernel
theorem dJ13_bitCount_95d88_33 : decode cJ13_bitCount_95d88 33 = .ok (.lstore_n 0, 1) := by decide +kernel
theorem dJ13_bitCount_95d88_34 : decode cJ13_bitCount_95d88 34 = .ok (.lload_n 0, 1) := by decide +kernel
theorem dJ13_bitCount_95d88_35 : decode cJ13_bitCount_95d88 35 = .ok (.lload_n 0, 1) := by decide +kernel
theorem dJ13_bitCount_95d88_36 : decode cJ13_bitCount_95d88 36 = .ok (.bipush 8, 2) := by decide +kernel
theorem dJ13_bitCount_95d88_38 : decode cJ13_bitCount_95d88 38 = .ok (.lushr, 1) := by decide +kernel
theorem dJ13_bitCount_95d88_39 : decode cJ13_bitCount_95d88 39 = .ok (.ladd, 1) := by decide +kernel
theorem dJ13_bitCount_95d88_40 : decode cJ13_bitCount_95d88 40 = .ok (.lstore_n 0, 1) := by decide +kernel
theorem dJ13_bitCount_95d88_41 : decode cJ13_bitCount_95d88 41 = .ok (.lload_n 0, 1) := by decide +kernel
theorem dJ13_bitCount_95d88_42 : decode cJ13_bitCount_95d88 42 = .ok (.lload_n 0, 1) := by decide +kernel
theorem dJ13_bitCount_95d88_43 : decode cJ13_bitCount_95d88 43 = .ok (.bipush 16, 2) := by decide +kernel
theorem dJ13_bitCount_95d88_45 : decode cJ13_bitCount_95d88 45 = .ok (.lushr, 1) := by decide +kernel
theorem dJ13_bitCount_95d88_46 : decode cJ13_bitCount_95d88 46 = .ok (.ladd, 1) := by decide +kernel
theorem dJ13_bitCount_95d88_47 : decode cJ13_bitCount_95d88 47 = .ok (.lstore_n 0, 1) := by decide +kernel
theorem dJ13_bitCount_95d88_48 : decode cJ13_bitCount_95d88 48 = .ok (.lload_n 0, 1) := by decide +kernel
theorem dJ13_bitCount_95d88_49 : decode cJ13_bitCount_95d88 49 = .ok (.lload_n 0, 1) := by decide +kernel
theorem dJ13_bitCount_95d88_50 : decode cJ13_bitCount_95d88 50 = .ok (.bipush 32, 2) := by decide +kernel
theorem dJ13_bitCount_95d88_52 : decode cJ13_bitCount_95d88 52 = .ok (.lushr, 1) := by decide +kernel
theorem dJ13_bitCount_95d88_53 : decode cJ13_bitCount_95d88 53 = .ok (.ladd, 1) := by decide +kernel
theorem dJ13_bitCount_95d88_54 : decode cJ13_bitCount_95d88 54 = .ok (.lstore_n 0, 1) := by decide +kernel
theorem dJ13_bitCount_95d88_55 : decode cJ13_bitCount_95d88 55 = .ok (.lload_n 0, 1) := by decide +kernel
theorem dJ13_bitCount_95d88_56 : decode cJ13_bitCount_95d88 56 = .ok (.l2i, 1) := by decide +kernel
theorem dJ13_bitCount_95d88_57 : decode cJ13_bitCount_95d88 57 = .ok (.bipush 127, 2) := by decide +kernel
theorem dJ13_bitCount_95d88_59 : decode cJ13_bitCount_95d88 59 = .ok (.iand, 1) := by decide +kernel
theorem dJ13_bitCount_95d88_60 : decode cJ13_bitCount_95d88 60 = .ok (.ireturn, 1) := by decide +kernel
