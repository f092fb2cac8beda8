theorem dX11_init_0 : decode cX11_init 0 = .ok (.aload_n 0, 1) := by decide +kernel
theorem dX11_init_1 : decode cX11_init 1 = .ok (.invokespecial 3, 3) := by decide +kernel
theorem dX11_init_4 : decode cX11_init 4 = .ok (.aload_n 0, 1) := by decide +kernel
theorem dX11_init_5 : decode cX11_init 5 = .ok (.new 9, 3) := by decide +kernel
theorem dX11_init_8 : decode cX11_init 8 = .ok (.dup, 1) := by decide +kernel
theorem dX11_init_9 : decode cX11_init 9 = .ok (.invokespecial 11, 3) := by decide +kernel
theorem dX11_init_12 : decode cX11_init 12 = .ok (.putfield 12, 3) := by decide +kernel
theorem dX11_init_15 : decode cX11_init 15 = .ok (.aload_n 0, 1) := by decide +kernel
theorem dX11_init_16 : decode cX11_init 16 = .ok (.new 9, 3) := by decide +kernel
theorem dX11_init_19 : decode cX11_init 19 = .ok (.dup, 1) := by decide +kernel
theorem dX11_init_20 : decode cX11_init 20 = .ok (.invokespecial 11, 3) := by decide +kernel
theorem dX11_init_23 : decode cX11_init 23 = .ok (.putfield 16, 3) := by decide +kernel
theorem dX11_init_26 : decode cX11_init 26 = .ok (.aload_n 0, 1) := by decide +kernel
theorem dX11_init_27 : decode cX11_init 27 = .ok (.new 19, 3) := by decide +kernel
theorem dX11_init_30 : decode cX11_init 30 = .ok (.dup, 1) := by decide +kernel
theorem dX11_init_31 : decode cX11_init 31 = .ok (.invokespecial 21, 3) := by decide +kernel
theorem dX11_init_34 : decode cX11_init 34 = .ok (.putfield 22, 3) := by decide +kernel
theorem dX11_init_37 : decode cX11_init 37 = .ok (.aload_n 0, 1) := by decide +kernel
theorem dX11_init_38 : decode cX11_init 38 = .ok (.new 26, 3) := by decide +kernel
theorem dX11_init_41 : decode cX11_init 41 = .ok (.dup, 1) := by decide +kernel
theorem dX11_init_42 : decode cX11_init 42 = .ok (.invokespecial 28, 3) := by decide +kernel
theorem dX11_init_45 : decode cX11_init 45 = .ok (.putfield 29, 3) := by decide +kernel
theorem dX11_init_48 : decode cX11_init 48 = .ok (.aload_n 0, 1) := by decide +kernel
theorem dX11_init_49 : decode cX11_init 49 = .ok (.new 33, 3) := by decide +kernel
theorem dX11_init_52 : decode cX11_init 52 = .ok (.dup, 1) := by decide +kernel
theorem dX11_init_53 : decode cX11_init 53 = .ok (.aload_n 0, 1) := by decide +kernel
theorem dX11_init_54 : decode cX11_init 54 = .ok (.getfield 12, 3) := by decide +kernel
theorem dX11_init_57 : decode cX11_init 57 = .ok (.aload_n 0, 1) := by decide +kernel
theorem dX11_init_58 : decode cX11_init 58 = .ok (.getfield 22, 3) := by decide +kernel
theorem dX11_init_61 : decode cX11_init 61 = .ok (.invokespecial 35, 3) := by decide +kernel
theorem dX11_init_64 : decode cX11_init 64 = .ok (.putfield 38, 3) := by decide +kernel
theorem dX11_init_67 : decode cX11_init 67 = .ok (.aload_n 0, 1) := by decide +kernel
theorem dX11_init_68 : decode cX11_init 68 = .ok (.new 42, 3) := by decide +kernel
theorem dX11_init_71 : decode cX11_init 71 = .ok (.dup, 1) := by decide +kernel
theorem dX11_init_72 : decode cX11_init 72 = .ok (.aload_n 0, 1) := by decide +kernel
theorem dX11_init_73 : decode cX11_init 73 = .ok (.getfield 12, 3) := by decide +kernel
theorem dX11_init_76 : decode cX11_init 76 = .ok (.aload_n 0, 1) := by decide +kernel
theorem dX11_init_77 : decode cX11_init 77 = .ok (.getfield 22, 3) := by decide +kernel
theorem dX11_init_80 : decode cX11_init 80 = .ok (.invokespecial 44, 3) := by decide +kernel
theorem dX11_init_83 : decode cX11_init 83 = .ok (.putfield 45, 3) := by decide +kernel
theorem dX11_init_86 : decode cX11_init 86 = .ok (.aload_n 0, 1) := by decide +kernel
theorem dX11_init_87 : decode cX11_init 87 = .ok (.new 49, 3) := by decide +kernel
theorem dX11_init_90 : decode cX11_init 90 = .ok (.dup, 1) := by decide +kernel
theorem dX11_init_91 : decode cX11_init 91 = .ok (.aload_n 0, 1) := by decide +kernel
theorem dX11_init_92 : decode cX11_init 92 = .ok (.getfield 12, 3) := by decide +kernel
theorem dX11_init_95 : decode cX11_init 95 = .ok (.aload_n 0, 1) := by decide +kernel
theorem dX11_init_96 : decode cX11_init 96 = .ok (.getfield 22, 3) := by decide +kernel
theorem dX11_init_99 : decode cX11_init 99 = .ok (.invokespecial 51, 3) := by decide +kernel
theorem dX11_init_102 : decode cX11_init 102 = .ok (.putfield 52, 3) := by decide +kernel
theorem dX11_init_105 : decode cX11_init 105 = .ok (.aload_n 0, 1) := by decide +kernel
theorem dX11_init_106 : decode cX11_init 106 = .ok (.new 56, 3) := by decide +kernel
theorem dX11_init_109 : decode cX11_init 109 = .ok (.dup, 1) := by decide +kernel
theorem dX11_init_110 : decode cX11_init 110 = .ok (.aload_n 0, 1) := by decide +kernel
theorem dX11_init_111 : decode cX11_init 111 = .ok (.getfield 12, 3) := by decide +kernel
theorem dX11_init_114 : decode cX11_init 114 = .ok (.invokespecial 58, 3) := by decide +kernel
theorem dX11_init_117 : decode cX11_init 117 = .ok (.putfield 61, 3) := by decide +kernel
theorem dX11_init_120 : decode cX11_init 120 = .ok (.aload_n 0, 1) := by decide +kernel
theorem dX11_init_121 : decode cX11_init 121 = .ok (.new 65, 3) := by decide +kernel
theorem dX11_init_124 : decode cX11_init 124 = .ok (.dup, 1) := by decide +kernel
theorem dX11_init_125 : decode cX11_init 125 = .ok (.aload_n 0, 1) := by decide +kernel
theorem dX11_init_126 : decode cX11_init 126 = .ok (.getfield 12, 3) := by decide +kernel
theorem dX11_init_129 : decode cX11_init 129 = .ok (.invokespecial 67, 3) := by decide +kernel
theorem dX11_init_132 : decode cX11_init 132 = .ok (.putfield 68, 3) := by decide +kernel
theorem dX11_init_135 : decode cX11_init 135 = .ok (.aload_n 0, 1) := by decide +kernel
theorem dX11_init_136 : decode cX11_init 136 = .ok (.new 72, 3) := by decide +kernel
theorem dX11_init_139 : decode cX11_init 139 = .ok (.dup, 1) := by decide +kernel
theorem dX11_init_140 : decode cX11_init 140 = .ok (.invokespecial 74, 3) := by decide +kernel
theorem dX11_init_143 : decode cX11_init 143 = .ok (.putfield 75, 3) := by decide +kernel
theorem dX11_init_146 : decode cX11_init 146 = .ok (.aload_n 0, 1) := by decide +kernel
theorem dX11_init_147 : decode cX11_init 147 = .ok (.bipush 6, 2) := by decide +kernel
theorem dX11_init_149 : decode cX11_init 149 = .ok (.anewarray 79, 3) := by decide +kernel
theorem dX11_init_152 : decode cX11_init 152 = .ok (.putfield 81, 3) := by decide +kernel
theorem dX11_init_155 : decode cX11_init 155 = .ok (.iconst 0, 1) := by decide +kernel
theorem dX11_init_156 : decode cX11_init 156 = .ok (.istore_n 1, 1) := by decide +kernel
theorem dX11_init_157 : decode cX11_init 157 = .ok (.iload_n 1, 1) := by decide +kernel
theorem dX11_init_158 : decode cX11_init 158 = .ok (.bipush 6, 2) := by decide +kernel
theorem dX11_init_160 : decode cX11_init 160 = .ok (.if_icmp .ge 22, 3) := by decide +kernel
theorem dX11_init_163 : decode cX11_init 163 = .ok (.aload_n 0, 1) := by decide +kernel
theorem dX11_init_164 : decode cX11_init 164 = .ok (.getfield 81, 3) := by decide +kernel
theorem dX11_init_167 : decode cX11_init 167 = .ok (.iload_n 1, 1) := by decide +kernel
theorem dX11_init_168 : decode cX11_init 168 = .ok (.new 79, 3) := by decide +kernel
theorem dX11_init_171 : decode cX11_init 171 = .ok (.dup, 1) := by decide +kernel
theorem dX11_init_172 : decode cX11_init 172 = .ok (.invokespecial 85, 3) := by decide +kernel
theorem dX11_init_175 : decode cX11_init 175 = .ok (.aastore, 1) := by decide +kernel
theorem dX11_init_176 : decode cX11_init 176 = .ok (.iinc 1 1, 3) := by decide +kernel
theorem dX11_init_179 : decode cX11_init 179 = .ok (.goto (-22), 3) := by decide +kernel
theorem dX11_init_182 : decode cX11_init 182 = .ok (.aload_n 0, 1) := by decide +kernel
theorem dX11_init_183 : decode cX11_init 183 = .ok (.iconst 5, 1) := by decide +kernel
theorem dX11_init_184 : decode cX11_init 184 = .ok (.newarray .int, 2) := by decide +kernel
theorem dX11_init_186 : decode cX11_init 186 = .ok (.putfield 86, 3) := by decide +kernel
theorem dX11_init_189 : decode cX11_init 189 = .ok (.aload_n 0, 1) := by decide +kernel
theorem dX11_init_190 : decode cX11_init 190 = .ok (.iconst 5, 1) := by decide +kernel
theorem dX11_init_191 : decode cX11_init 191 = .ok (.newarray .int, 2) := by decide +kernel
theorem dX11_init_193 : decode cX11_init 193 = .ok (.putfield 90, 3) := by decide +kernel
theorem dX11_init_196 : decode cX11_init 196 = .ok (.aload_n 0, 1) := by decide +kernel
theorem dX11_init_197 : decode cX11_init 197 = .ok (.iconst 0, 1) := by decide +kernel
theorem dX11_init_198 : decode cX11_init 198 = .ok (.putfield 93, 3) := by decide +kernel
theorem dX11_init_201 : decode cX11_init 201 = .ok (.return_, 1) := by decide +kernel
theorem dX11_rooms_0 : decode cX11_rooms 0 = .ok (.iload_n 1, 1) := by decide +kernel
theorem dX11_rooms_1 : decode cX11_rooms 1 = .ok (.invokestatic 97, 3) := by decide +kernel
theorem dX11_rooms_4 : decode cX11_rooms 4 = .ok (.ifCond .eq 13, 3) := by decide +kernel
theorem dX11_rooms_7 : decode cX11_rooms 7 = .ok (.iload_n 3, 1) := by decide +kernel
theorem dX11_rooms_8 : decode cX11_rooms 8 = .ok (.iconst 1, 1) := by decide +kernel
theorem dX11_rooms_9 : decode cX11_rooms 9 = .ok (.bipush 20, 2) := by decide +kernel
theorem dX11_rooms_11 : decode cX11_rooms 11 = .ok (.invokestatic 101, 3) := by decide +kernel
theorem dX11_rooms_14 : decode cX11_rooms 14 = .ok (.ifCond .ne 5, 3) := by decide +kernel
theorem dX11_rooms_17 : decode cX11_rooms 17 = .ok (.iconst (-1), 1) := by decide +kernel
theorem dX11_rooms_18 : decode cX11_rooms 18 = .ok (.ireturn, 1) := by decide +kernel
theorem dX11_rooms_19 : decode cX11_rooms 19 = .ok (.aload_n 0, 1) := by decide +kernel
theorem dX11_rooms_20 : decode cX11_rooms 20 = .ok (.getfield 81, 3) := by decide +kernel
theorem dX11_rooms_23 : decode cX11_rooms 23 = .ok (.iload_n 1, 1) := by decide +kernel
theorem dX11_rooms_24 : decode cX11_rooms 24 = .ok (.aaload, 1) := by decide +kernel
theorem dX11_rooms_25 : decode cX11_rooms 25 = .ok (.astore 4, 2) := by decide +kernel
theorem dX11_rooms_27 : decode cX11_rooms 27 = .ok (.aload 4, 2) := by decide +kernel
theorem dX11_rooms_29 : decode cX11_rooms 29 = .ok (.invokevirtual 105, 3) := by decide +kernel
theorem dX11_rooms_32 : decode cX11_rooms 32 = .ok (.ifCond .eq 5, 3) := by decide +kernel
theorem dX11_rooms_35 : decode cX11_rooms 35 = .ok (.iconst 0, 1) := by decide +kernel
theorem dX11_rooms_36 : decode cX11_rooms 36 = .ok (.ireturn, 1) := by decide +kernel
theorem dX11_rooms_37 : decode cX11_rooms 37 = .ok (.aload 4, 2) := by decide +kernel
theorem dX11_rooms_39 : decode cX11_rooms 39 = .ok (.iconst 0, 1) := by decide +kernel
theorem dX11_rooms_40 : decode cX11_rooms 40 = .ok (.invokevirtual 109, 3) := by decide +kernel
theorem dX11_rooms_43 : decode cX11_rooms 43 = .ok (.ifCond .ne 6, 3) := by decide +kernel
theorem dX11_rooms_46 : decode cX11_rooms 46 = .ok (.bipush (-12), 2) := by decide +kernel
theorem dX11_rooms_48 : decode cX11_rooms 48 = .ok (.ireturn, 1) := by decide +kernel
theorem dX11_rooms_49 : decode cX11_rooms 49 = .ok (.iconst 0, 1) := by decide +kernel
theorem dX11_rooms_50 : decode cX11_rooms 50 = .ok (.istore 5, 2) := by decide +kernel
theorem dX11_rooms_52 : decode cX11_rooms 52 = .ok (.iload 5, 2) := by decide +kernel
theorem dX11_rooms_54 : decode cX11_rooms 54 = .ok (.iload_n 3, 1) := by decide +kernel
theorem dX11_rooms_55 : decode cX11_rooms 55 = .ok (.if_icmp .ge 28, 3) := by decide +kernel
theorem dX11_rooms_58 : decode cX11_rooms 58 = .ok (.aload_n 0, 1) := by decide +kernel
theorem dX11_rooms_59 : decode cX11_rooms 59 = .ok (.aload 4, 2) := by decide +kernel
theorem dX11_rooms_61 : decode cX11_rooms 61 = .ok (.iload_n 2, 1) := by decide +kernel
theorem dX11_rooms_62 : decode cX11_rooms 62 = .ok (.i2l, 1) := by decide +kernel
theorem dX11_rooms_63 : decode cX11_rooms 63 = .ok (.ldc2_w 112, 3) := by decide +kernel
theorem dX11_rooms_66 : decode cX11_rooms 66 = .ok (.iload 5, 2) := by decide +kernel
theorem dX11_rooms_68 : decode cX11_rooms 68 = .ok (.i2l, 1) := by decide +kernel
theorem dX11_rooms_69 : decode cX11_rooms 69 = .ok (.lmul, 1) := by decide +kernel
theorem dX11_rooms_70 : decode cX11_rooms 70 = .ok (.ladd, 1) := by decide +kernel
theorem dX11_rooms_71 : decode cX11_rooms 71 = .ok (.invokevirtual 114, 3) := by decide +kernel
theorem dX11_rooms_74 : decode cX11_rooms 74 = .ok (.ifCond .eq 9, 3) := by decide +kernel
theorem dX11_rooms_77 : decode cX11_rooms 77 = .ok (.iinc 5 1, 3) := by decide +kernel
theorem dX11_rooms_80 : decode cX11_rooms 80 = .ok (.goto (-28), 3) := by decide +kernel
theorem dX11_rooms_83 : decode cX11_rooms 83 = .ok (.iload 5, 2) := by decide +kernel
theorem dX11_rooms_85 : decode cX11_rooms 85 = .ok (.ireturn, 1) := by decide +kernel
theorem dX11_mend_0 : decode cX11_mend 0 = .ok (.iload_n 1, 1) := by decide +kernel
theorem dX11_mend_1 : decode cX11_mend 1 = .ok (.iload_n 2, 1) := by decide +kernel
theorem dX11_mend_2 : decode cX11_mend 2 = .ok (.invokestatic 118, 3) := by decide +kernel
theorem dX11_mend_5 : decode cX11_mend 5 = .ok (.ifCond .eq 20, 3) := by decide +kernel
theorem dX11_mend_8 : decode cX11_mend 8 = .ok (.iload_n 3, 1) := by decide +kernel
theorem dX11_mend_9 : decode cX11_mend 9 = .ok (.getstatic 122, 3) := by decide +kernel
theorem dX11_mend_12 : decode cX11_mend 12 = .ok (.iload_n 2, 1) := by decide +kernel
theorem dX11_mend_13 : decode cX11_mend 13 = .ok (.iaload, 1) := by decide +kernel
theorem dX11_mend_14 : decode cX11_mend 14 = .ok (.getstatic 125, 3) := by decide +kernel
theorem dX11_mend_17 : decode cX11_mend 17 = .ok (.iload_n 2, 1) := by decide +kernel
theorem dX11_mend_18 : decode cX11_mend 18 = .ok (.iaload, 1) := by decide +kernel
theorem dX11_mend_19 : decode cX11_mend 19 = .ok (.invokestatic 101, 3) := by decide +kernel
theorem dX11_mend_22 : decode cX11_mend 22 = .ok (.ifCond .ne 5, 3) := by decide +kernel
theorem dX11_mend_25 : decode cX11_mend 25 = .ok (.iconst (-1), 1) := by decide +kernel
theorem dX11_mend_26 : decode cX11_mend 26 = .ok (.ireturn, 1) := by decide +kernel
theorem dX11_mend_27 : decode cX11_mend 27 = .ok (.aload_n 0, 1) := by decide +kernel
theorem dX11_mend_28 : decode cX11_mend 28 = .ok (.getfield 12, 3) := by decide +kernel
theorem dX11_mend_31 : decode cX11_mend 31 = .ok (.iload_n 1, 1) := by decide +kernel
theorem dX11_mend_32 : decode cX11_mend 32 = .ok (.iload_n 2, 1) := by decide +kernel
theorem dX11_mend_33 : decode cX11_mend 33 = .ok (.invokevirtual 128, 3) := by decide +kernel
theorem dX11_mend_36 : decode cX11_mend 36 = .ok (.istore 4, 2) := by decide +kernel
theorem dX11_mend_38 : decode cX11_mend 38 = .ok (.iload 4, 2) := by decide +kernel
theorem dX11_mend_40 : decode cX11_mend 40 = .ok (.iload_n 3, 1) := by decide +kernel
theorem dX11_mend_41 : decode cX11_mend 41 = .ok (.if_icmp .eq 25, 3) := by decide +kernel
theorem dX11_mend_44 : decode cX11_mend 44 = .ok (.aload_n 0, 1) := by decide +kernel
theorem dX11_mend_45 : decode cX11_mend 45 = .ok (.getfield 12, 3) := by decide +kernel
theorem dX11_mend_48 : decode cX11_mend 48 = .ok (.iload_n 1, 1) := by decide +kernel
theorem dX11_mend_49 : decode cX11_mend 49 = .ok (.iload_n 2, 1) := by decide +kernel
theorem dX11_mend_50 : decode cX11_mend 50 = .ok (.iload_n 3, 1) := by decide +kernel
theorem dX11_mend_51 : decode cX11_mend 51 = .ok (.invokevirtual 132, 3) := by decide +kernel
theorem dX11_mend_54 : decode cX11_mend 54 = .ok (.aload_n 0, 1) := by decide +kernel
theorem dX11_mend_55 : decode cX11_mend 55 = .ok (.getfield 68, 3) := by decide +kernel
theorem dX11_mend_58 : decode cX11_mend 58 = .ok (.iload_n 1, 1) := by decide +kernel
theorem dX11_mend_59 : decode cX11_mend 59 = .ok (.iload_n 2, 1) := by decide +kernel
theorem dX11_mend_60 : decode cX11_mend 60 = .ok (.iload 4, 2) := by decide +kernel
theorem dX11_mend_62 : decode cX11_mend 62 = .ok (.iload_n 3, 1) := by decide +kernel
theorem dX11_mend_63 : decode cX11_mend 63 = .ok (.invokevirtual 136, 3) := by decide +kernel
theorem dX11_mend_66 : decode cX11_mend 66 = .ok (.iload 4, 2) := by decide +kernel
theorem dX11_mend_68 : decode cX11_mend 68 = .ok (.ireturn, 1) := by decide +kernel
theorem dX11_of_0 : decode cX11_of 0 = .ok (.iload_n 2, 1) := by decide +kernel
theorem dX11_of_1 : decode cX11_of 1 = .ok (.bipush 7, 2) := by decide +kernel
theorem dX11_of_3 : decode cX11_of 3 = .ok (.if_icmp .ne 27, 3) := by decide +kernel
theorem dX11_of_6 : decode cX11_of 6 = .ok (.iload_n 1, 1) := by decide +kernel
theorem dX11_of_7 : decode cX11_of 7 = .ok (.invokestatic 140, 3) := by decide +kernel
theorem dX11_of_10 : decode cX11_of 10 = .ok (.ifCond .eq 20, 3) := by decide +kernel
theorem dX11_of_13 : decode cX11_of 13 = .ok (.aload_n 0, 1) := by decide +kernel
theorem dX11_of_14 : decode cX11_of 14 = .ok (.getfield 12, 3) := by decide +kernel
theorem dX11_of_17 : decode cX11_of 17 = .ok (.iload_n 1, 1) := by decide +kernel
theorem dX11_of_18 : decode cX11_of 18 = .ok (.invokevirtual 143, 3) := by decide +kernel
theorem dX11_of_21 : decode cX11_of 21 = .ok (.ifCond .eq 7, 3) := by decide +kernel
theorem dX11_of_24 : decode cX11_of 24 = .ok (.iconst 1, 1) := by decide +kernel
theorem dX11_of_25 : decode cX11_of 25 = .ok (.goto 4, 3) := by decide +kernel
theorem dX11_of_28 : decode cX11_of 28 = .ok (.iconst 0, 1) := by decide +kernel
theorem dX11_of_29 : decode cX11_of 29 = .ok (.ireturn, 1) := by decide +kernel
theorem dX11_of_30 : decode cX11_of 30 = .ok (.iload_n 1, 1) := by decide +kernel
theorem dX11_of_31 : decode cX11_of 31 = .ok (.iload_n 2, 1) := by decide +kernel
theorem dX11_of_32 : decode cX11_of 32 = .ok (.invokestatic 118, 3) := by decide +kernel
theorem dX11_of_35 : decode cX11_of 35 = .ok (.ifCond .eq 15, 3) := by decide +kernel
theorem dX11_of_38 : decode cX11_of 38 = .ok (.aload_n 0, 1) := by decide +kernel
theorem dX11_of_39 : decode cX11_of 39 = .ok (.getfield 12, 3) := by decide +kernel
theorem dX11_of_42 : decode cX11_of 42 = .ok (.iload_n 1, 1) := by decide +kernel
theorem dX11_of_43 : decode cX11_of 43 = .ok (.iload_n 2, 1) := by decide +kernel
theorem dX11_of_44 : decode cX11_of 44 = .ok (.invokevirtual 128, 3) := by decide +kernel
theorem dX11_of_47 : decode cX11_of 47 = .ok (.goto 4, 3) := by decide +kernel
theorem dX11_of_50 : decode cX11_of 50 = .ok (.iconst (-1), 1) := by decide +kernel
theorem dX11_of_51 : decode cX11_of 51 = .ok (.ireturn, 1) := by decide +kernel
theorem dX11_feed_0 : decode cX11_feed 0 = .ok (.iload_n 1, 1) := by decide +kernel
theorem dX11_feed_1 : decode cX11_feed 1 = .ok (.iconst 0, 1) := by decide +kernel
theorem dX11_feed_2 : decode cX11_feed 2 = .ok (.sipush 255, 3) := by decide +kernel
theorem dX11_feed_5 : decode cX11_feed 5 = .ok (.invokestatic 101, 3) := by decide +kernel
theorem dX11_feed_8 : decode cX11_feed 8 = .ok (.ifCond .eq 14, 3) := by decide +kernel
theorem dX11_feed_11 : decode cX11_feed 11 = .ok (.aload_n 0, 1) := by decide +kernel
theorem dX11_feed_12 : decode cX11_feed 12 = .ok (.getfield 29, 3) := by decide +kernel
theorem dX11_feed_15 : decode cX11_feed 15 = .ok (.iload_n 1, 1) := by decide +kernel
theorem dX11_feed_16 : decode cX11_feed 16 = .ok (.invokevirtual 146, 3) := by decide +kernel
theorem dX11_feed_19 : decode cX11_feed 19 = .ok (.goto 4, 3) := by decide +kernel
theorem dX11_feed_22 : decode cX11_feed 22 = .ok (.iconst (-1), 1) := by decide +kernel
theorem dX11_feed_23 : decode cX11_feed 23 = .ok (.ireturn, 1) := by decide +kernel
theorem dX11_law_0 : decode cX11_law 0 = .ok (.aload_n 0, 1) := by decide +kernel
theorem dX11_law_1 : decode cX11_law 1 = .ok (.getfield 29, 3) := by decide +kernel
theorem dX11_law_4 : decode cX11_law 4 = .ok (.invokevirtual 149, 3) := by decide +kernel
theorem dX11_law_7 : decode cX11_law 7 = .ok (.istore_n 1, 1) := by decide +kernel
theorem dX11_law_8 : decode cX11_law 8 = .ok (.aload_n 0, 1) := by decide +kernel
theorem dX11_law_9 : decode cX11_law 9 = .ok (.getfield 29, 3) := by decide +kernel
theorem dX11_law_12 : decode cX11_law 12 = .ok (.invokevirtual 153, 3) := by decide +kernel
theorem dX11_law_15 : decode cX11_law 15 = .ok (.iload_n 1, 1) := by decide +kernel
theorem dX11_law_16 : decode cX11_law 16 = .ok (.ifCond .lt 8, 3) := by decide +kernel
theorem dX11_law_19 : decode cX11_law 19 = .ok (.bipush (-100), 2) := by decide +kernel
theorem dX11_law_21 : decode cX11_law 21 = .ok (.iload_n 1, 1) := by decide +kernel
theorem dX11_law_22 : decode cX11_law 22 = .ok (.isub, 1) := by decide +kernel
theorem dX11_law_23 : decode cX11_law 23 = .ok (.ireturn, 1) := by decide +kernel
theorem dX11_law_24 : decode cX11_law 24 = .ok (.aload_n 0, 1) := by decide +kernel
theorem dX11_law_25 : decode cX11_law 25 = .ok (.getfield 22, 3) := by decide +kernel
theorem dX11_law_28 : decode cX11_law 28 = .ok (.aload_n 0, 1) := by decide +kernel
theorem dX11_law_29 : decode cX11_law 29 = .ok (.getfield 29, 3) := by decide +kernel
theorem dX11_law_32 : decode cX11_law 32 = .ok (.invokevirtual 156, 3) := by decide +kernel
theorem dX11_law_35 : decode cX11_law 35 = .ok (.iconst 1, 1) := by decide +kernel
theorem dX11_law_36 : decode cX11_law 36 = .ok (.ireturn, 1) := by decide +kernel
theorem dX11_press_0 : decode cX11_press 0 = .ok (.iload_n 1, 1) := by decide +kernel
theorem dX11_press_1 : decode cX11_press 1 = .ok (.invokestatic 140, 3) := by decide +kernel
theorem dX11_press_4 : decode cX11_press 4 = .ok (.ifCond .eq 18, 3) := by decide +kernel
theorem dX11_press_7 : decode cX11_press 7 = .ok (.aload_n 0, 1) := by decide +kernel
theorem dX11_press_8 : decode cX11_press 8 = .ok (.getfield 12, 3) := by decide +kernel
theorem dX11_press_11 : decode cX11_press 11 = .ok (.iload_n 1, 1) := by decide +kernel
theorem dX11_press_12 : decode cX11_press 12 = .ok (.aload_n 0, 1) := by decide +kernel
theorem dX11_press_13 : decode cX11_press 13 = .ok (.getfield 22, 3) := by decide +kernel
theorem dX11_press_16 : decode cX11_press 16 = .ok (.invokevirtual 160, 3) := by decide +kernel
theorem dX11_press_19 : decode cX11_press 19 = .ok (.goto 4, 3) := by decide +kernel
theorem dX11_press_22 : decode cX11_press 22 = .ok (.iconst (-1), 1) := by decide +kernel
theorem dX11_press_23 : decode cX11_press 23 = .ok (.ireturn, 1) := by decide +kernel
theorem dX11_later_0 : decode cX11_later 0 = .ok (.iload_n 1, 1) := by decide +kernel
theorem dX11_later_1 : decode cX11_later 1 = .ok (.iconst 0, 1) := by decide +kernel
theorem dX11_later_2 : decode cX11_later 2 = .ok (.bipush 48, 2) := by decide +kernel
theorem dX11_later_4 : decode cX11_later 4 = .ok (.invokestatic 101, 3) := by decide +kernel
theorem dX11_later_7 : decode cX11_later 7 = .ok (.ifCond .eq 19, 3) := by decide +kernel
theorem dX11_later_10 : decode cX11_later 10 = .ok (.iload_n 2, 1) := by decide +kernel
theorem dX11_later_11 : decode cX11_later 11 = .ok (.invokestatic 140, 3) := by decide +kernel
theorem dX11_later_14 : decode cX11_later 14 = .ok (.ifCond .eq 12, 3) := by decide +kernel
theorem dX11_later_17 : decode cX11_later 17 = .ok (.iload_n 3, 1) := by decide +kernel
theorem dX11_later_18 : decode cX11_later 18 = .ok (.iconst 0, 1) := by decide +kernel
theorem dX11_later_19 : decode cX11_later 19 = .ok (.iconst 1, 1) := by decide +kernel
theorem dX11_later_20 : decode cX11_later 20 = .ok (.invokestatic 101, 3) := by decide +kernel
theorem dX11_later_23 : decode cX11_later 23 = .ok (.ifCond .ne 5, 3) := by decide +kernel
theorem dX11_later_26 : decode cX11_later 26 = .ok (.iconst (-1), 1) := by decide +kernel
theorem dX11_later_27 : decode cX11_later 27 = .ok (.ireturn, 1) := by decide +kernel
theorem dX11_later_28 : decode cX11_later 28 = .ok (.aload_n 0, 1) := by decide +kernel
theorem dX11_later_29 : decode cX11_later 29 = .ok (.getfield 38, 3) := by decide +kernel
theorem dX11_later_32 : decode cX11_later 32 = .ok (.iload_n 1, 1) := by decide +kernel
theorem dX11_later_33 : decode cX11_later 33 = .ok (.invokevirtual 164, 3) := by decide +kernel
theorem dX11_later_36 : decode cX11_later 36 = .ok (.iload_n 2, 1) := by decide +kernel
theorem dX11_later_37 : decode cX11_later 37 = .ok (.iload_n 3, 1) := by decide +kernel
theorem dX11_later_38 : decode cX11_later 38 = .ok (.ifCond .ne 7, 3) := by decide +kernel
theorem dX11_later_41 : decode cX11_later 41 = .ok (.iconst 3, 1) := by decide +kernel
theorem dX11_later_42 : decode cX11_later 42 = .ok (.goto 4, 3) := by decide +kernel
theorem dX11_later_45 : decode cX11_later 45 = .ok (.iconst 0, 1) := by decide +kernel
theorem dX11_later_46 : decode cX11_later 46 = .ok (.invokevirtual 128, 3) := by decide +kernel
theorem dX11_later_49 : decode cX11_later 49 = .ok (.ireturn, 1) := by decide +kernel
theorem dX11_dark_0 : decode cX11_dark 0 = .ok (.iload_n 1, 1) := by decide +kernel
theorem dX11_dark_1 : decode cX11_dark 1 = .ok (.iconst 0, 1) := by decide +kernel
theorem dX11_dark_2 : decode cX11_dark 2 = .ok (.bipush 48, 2) := by decide +kernel
theorem dX11_dark_4 : decode cX11_dark 4 = .ok (.invokestatic 101, 3) := by decide +kernel
theorem dX11_dark_7 : decode cX11_dark 7 = .ok (.ifCond .eq 12, 3) := by decide +kernel
theorem dX11_dark_10 : decode cX11_dark 10 = .ok (.iload_n 2, 1) := by decide +kernel
theorem dX11_dark_11 : decode cX11_dark 11 = .ok (.iconst 0, 1) := by decide +kernel
theorem dX11_dark_12 : decode cX11_dark 12 = .ok (.iconst 1, 1) := by decide +kernel
theorem dX11_dark_13 : decode cX11_dark 13 = .ok (.invokestatic 101, 3) := by decide +kernel
theorem dX11_dark_16 : decode cX11_dark 16 = .ok (.ifCond .ne 5, 3) := by decide +kernel
theorem dX11_dark_19 : decode cX11_dark 19 = .ok (.iconst (-1), 1) := by decide +kernel
theorem dX11_dark_20 : decode cX11_dark 20 = .ok (.ireturn, 1) := by decide +kernel
theorem dX11_dark_21 : decode cX11_dark 21 = .ok (.aload_n 0, 1) := by decide +kernel
theorem dX11_dark_22 : decode cX11_dark 22 = .ok (.getfield 38, 3) := by decide +kernel
theorem dX11_dark_25 : decode cX11_dark 25 = .ok (.iload_n 1, 1) := by decide +kernel
theorem dX11_dark_26 : decode cX11_dark 26 = .ok (.invokevirtual 164, 3) := by decide +kernel
theorem dX11_dark_29 : decode cX11_dark 29 = .ok (.astore_n 3, 1) := by decide +kernel
theorem dX11_dark_30 : decode cX11_dark 30 = .ok (.iload_n 2, 1) := by decide +kernel
theorem dX11_dark_31 : decode cX11_dark 31 = .ok (.ifCond .ne 10, 3) := by decide +kernel
theorem dX11_dark_34 : decode cX11_dark 34 = .ok (.aload_n 3, 1) := by decide +kernel
theorem dX11_dark_35 : decode cX11_dark 35 = .ok (.invokevirtual 168, 3) := by decide +kernel
theorem dX11_dark_38 : decode cX11_dark 38 = .ok (.goto 7, 3) := by decide +kernel
theorem dX11_dark_41 : decode cX11_dark 41 = .ok (.aload_n 3, 1) := by decide +kernel
theorem dX11_dark_42 : decode cX11_dark 42 = .ok (.invokevirtual 171, 3) := by decide +kernel
theorem dX11_dark_45 : decode cX11_dark 45 = .ok (.ireturn, 1) := by decide +kernel
theorem dX11_map_0 : decode cX11_map 0 = .ok (.iload_n 1, 1) := by decide +kernel
theorem dX11_map_1 : decode cX11_map 1 = .ok (.iconst 0, 1) := by decide +kernel
theorem dX11_map_2 : decode cX11_map 2 = .ok (.bipush 48, 2) := by decide +kernel
theorem dX11_map_4 : decode cX11_map 4 = .ok (.invokestatic 101, 3) := by decide +kernel
theorem dX11_map_7 : decode cX11_map 7 = .ok (.ifCond .eq 17, 3) := by decide +kernel
theorem dX11_map_10 : decode cX11_map 10 = .ok (.aload_n 0, 1) := by decide +kernel
theorem dX11_map_11 : decode cX11_map 11 = .ok (.getfield 38, 3) := by decide +kernel
theorem dX11_map_14 : decode cX11_map 14 = .ok (.iload_n 1, 1) := by decide +kernel
theorem dX11_map_15 : decode cX11_map 15 = .ok (.invokevirtual 164, 3) := by decide +kernel
theorem dX11_map_18 : decode cX11_map 18 = .ok (.getfield 174, 3) := by decide +kernel
theorem dX11_map_21 : decode cX11_map 21 = .ok (.goto 6, 3) := by decide +kernel
theorem dX11_map_24 : decode cX11_map 24 = .ok (.ldc2_w 178, 3) := by decide +kernel
theorem dX11_map_27 : decode cX11_map 27 = .ok (.lreturn, 1) := by decide +kernel
theorem dX11_falls_0 : decode cX11_falls 0 = .ok (.iload_n 1, 1) := by decide +kernel
theorem dX11_falls_1 : decode cX11_falls 1 = .ok (.invokestatic 140, 3) := by decide +kernel
theorem dX11_falls_4 : decode cX11_falls 4 = .ok (.ifCond .eq 14, 3) := by decide +kernel
theorem dX11_falls_7 : decode cX11_falls 7 = .ok (.aload_n 0, 1) := by decide +kernel
theorem dX11_falls_8 : decode cX11_falls 8 = .ok (.getfield 38, 3) := by decide +kernel
theorem dX11_falls_11 : decode cX11_falls 11 = .ok (.iload_n 1, 1) := by decide +kernel
theorem dX11_falls_12 : decode cX11_falls 12 = .ok (.invokevirtual 180, 3) := by decide +kernel
theorem dX11_falls_15 : decode cX11_falls 15 = .ok (.goto 4, 3) := by decide +kernel
theorem dX11_falls_18 : decode cX11_falls 18 = .ok (.iconst (-1), 1) := by decide +kernel
theorem dX11_falls_19 : decode cX11_falls 19 = .ok (.ireturn, 1) := by decide +kernel
theorem dX11_still_0 : decode cX11_still 0 = .ok (.aload_n 0, 1) := by decide +kernel
theorem dX11_still_1 : decode cX11_still 1 = .ok (.getfield 38, 3) := by decide +kernel
theorem dX11_still_4 : decode cX11_still 4 = .ok (.invokevirtual 183, 3) := by decide +kernel
theorem dX11_still_7 : decode cX11_still 7 = .ok (.ireturn, 1) := by decide +kernel
theorem dX11_enough_0 : decode cX11_enough 0 = .ok (.iload_n 1, 1) := by decide +kernel
theorem dX11_enough_1 : decode cX11_enough 1 = .ok (.invokestatic 140, 3) := by decide +kernel
theorem dX11_enough_4 : decode cX11_enough 4 = .ok (.ifCond .eq 25, 3) := by decide +kernel
theorem dX11_enough_7 : decode cX11_enough 7 = .ok (.iload_n 2, 1) := by decide +kernel
theorem dX11_enough_8 : decode cX11_enough 8 = .ok (.iconst 0, 1) := by decide +kernel
theorem dX11_enough_9 : decode cX11_enough 9 = .ok (.bipush 24, 2) := by decide +kernel
theorem dX11_enough_11 : decode cX11_enough 11 = .ok (.invokestatic 101, 3) := by decide +kernel
theorem dX11_enough_14 : decode cX11_enough 14 = .ok (.ifCond .eq 15, 3) := by decide +kernel
theorem dX11_enough_17 : decode cX11_enough 17 = .ok (.aload_n 0, 1) := by decide +kernel
theorem dX11_enough_18 : decode cX11_enough 18 = .ok (.getfield 38, 3) := by decide +kernel
theorem dX11_enough_21 : decode cX11_enough 21 = .ok (.iload_n 1, 1) := by decide +kernel
theorem dX11_enough_22 : decode cX11_enough 22 = .ok (.iload_n 2, 1) := by decide +kernel
theorem dX11_enough_23 : decode cX11_enough 23 = .ok (.invokevirtual 186, 3) := by decide +kernel
theorem dX11_enough_26 : decode cX11_enough 26 = .ok (.goto 4, 3) := by decide +kernel
theorem dX11_enough_29 : decode cX11_enough 29 = .ok (.iconst (-1), 1) := by decide +kernel
theorem dX11_enough_30 : decode cX11_enough 30 = .ok (.ireturn, 1) := by decide +kernel
theorem dX11_stubs_0 : decode cX11_stubs 0 = .ok (.iload_n 1, 1) := by decide +kernel
theorem dX11_stubs_1 : decode cX11_stubs 1 = .ok (.iconst 0, 1) := by decide +kernel
theorem dX11_stubs_2 : decode cX11_stubs 2 = .ok (.iconst 2, 1) := by decide +kernel
theorem dX11_stubs_3 : decode cX11_stubs 3 = .ok (.invokestatic 101, 3) := by decide +kernel
theorem dX11_stubs_6 : decode cX11_stubs 6 = .ok (.ifCond .eq 22, 3) := by decide +kernel
theorem dX11_stubs_9 : decode cX11_stubs 9 = .ok (.iload_n 2, 1) := by decide +kernel
theorem dX11_stubs_10 : decode cX11_stubs 10 = .ok (.iconst 0, 1) := by decide +kernel
theorem dX11_stubs_11 : decode cX11_stubs 11 = .ok (.bipush 12, 2) := by decide +kernel
theorem dX11_stubs_13 : decode cX11_stubs 13 = .ok (.invokestatic 101, 3) := by decide +kernel
theorem dX11_stubs_16 : decode cX11_stubs 16 = .ok (.ifCond .eq 12, 3) := by decide +kernel
theorem dX11_stubs_19 : decode cX11_stubs 19 = .ok (.iload_n 3, 1) := by decide +kernel
theorem dX11_stubs_20 : decode cX11_stubs 20 = .ok (.iconst 0, 1) := by decide +kernel
theorem dX11_stubs_21 : decode cX11_stubs 21 = .ok (.iconst 2, 1) := by decide +kernel
theorem dX11_stubs_22 : decode cX11_stubs 22 = .ok (.invokestatic 101, 3) := by decide +kernel
theorem dX11_stubs_25 : decode cX11_stubs 25 = .ok (.ifCond .ne 5, 3) := by decide +kernel
theorem dX11_stubs_28 : decode cX11_stubs 28 = .ok (.iconst (-1), 1) := by decide +kernel
theorem dX11_stubs_29 : decode cX11_stubs 29 = .ok (.ireturn, 1) := by decide +kernel
theorem dX11_stubs_30 : decode cX11_stubs 30 = .ok (.aload_n 0, 1) := by decide +kernel
theorem dX11_stubs_31 : decode cX11_stubs 31 = .ok (.getfield 38, 3) := by decide +kernel
theorem dX11_stubs_34 : decode cX11_stubs 34 = .ok (.iload_n 1, 1) := by decide +kernel
theorem dX11_stubs_35 : decode cX11_stubs 35 = .ok (.iload_n 2, 1) := by decide +kernel
theorem dX11_stubs_36 : decode cX11_stubs 36 = .ok (.invokevirtual 189, 3) := by decide +kernel
theorem dX11_stubs_39 : decode cX11_stubs 39 = .ok (.ifCond .ne 6, 3) := by decide +kernel
theorem dX11_stubs_42 : decode cX11_stubs 42 = .ok (.bipush (-2), 2) := by decide +kernel
theorem dX11_stubs_44 : decode cX11_stubs 44 = .ok (.ireturn, 1) := by decide +kernel
theorem dX11_stubs_45 : decode cX11_stubs 45 = .ok (.iload_n 3, 1) := by decide +kernel
theorem dX11_stubs_46 : decode cX11_stubs 46 = .ok (.iconst 2, 1) := by decide +kernel
theorem dX11_stubs_47 : decode cX11_stubs 47 = .ok (.if_icmp .ne 11, 3) := by decide +kernel
theorem dX11_stubs_50 : decode cX11_stubs 50 = .ok (.aload_n 0, 1) := by decide +kernel
theorem dX11_stubs_51 : decode cX11_stubs 51 = .ok (.getfield 38, 3) := by decide +kernel
theorem dX11_stubs_54 : decode cX11_stubs 54 = .ok (.getfield 192, 3) := by decide +kernel
theorem dX11_stubs_57 : decode cX11_stubs 57 = .ok (.ireturn, 1) := by decide +kernel
theorem dX11_stubs_58 : decode cX11_stubs 58 = .ok (.iload_n 3, 1) := by decide +kernel
theorem dX11_stubs_59 : decode cX11_stubs 59 = .ok (.ifCond .ne 13, 3) := by decide +kernel
theorem dX11_stubs_62 : decode cX11_stubs 62 = .ok (.aload_n 0, 1) := by decide +kernel
theorem dX11_stubs_63 : decode cX11_stubs 63 = .ok (.getfield 38, 3) := by decide +kernel
theorem dX11_stubs_66 : decode cX11_stubs 66 = .ok (.getfield 196, 3) := by decide +kernel
theorem dX11_stubs_69 : decode cX11_stubs 69 = .ok (.goto 10, 3) := by decide +kernel
theorem dX11_stubs_72 : decode cX11_stubs 72 = .ok (.aload_n 0, 1) := by decide +kernel
theorem dX11_stubs_73 : decode cX11_stubs 73 = .ok (.getfield 38, 3) := by decide +kernel
theorem dX11_stubs_76 : decode cX11_stubs 76 = .ok (.getfield 199, 3) := by decide +kernel
theorem dX11_stubs_79 : decode cX11_stubs 79 = .ok (.ireturn, 1) := by decide +kernel
theorem dX11_wayIn_0 : decode cX11_wayIn 0 = .ok (.iload_n 1, 1) := by decide +kernel
theorem dX11_wayIn_1 : decode cX11_wayIn 1 = .ok (.invokestatic 140, 3) := by decide +kernel
theorem dX11_wayIn_4 : decode cX11_wayIn 4 = .ok (.ifCond .eq 12, 3) := by decide +kernel
theorem dX11_wayIn_7 : decode cX11_wayIn 7 = .ok (.iload_n 2, 1) := by decide +kernel
theorem dX11_wayIn_8 : decode cX11_wayIn 8 = .ok (.iconst 0, 1) := by decide +kernel
theorem dX11_wayIn_9 : decode cX11_wayIn 9 = .ok (.iconst 1, 1) := by decide +kernel
theorem dX11_wayIn_10 : decode cX11_wayIn 10 = .ok (.invokestatic 101, 3) := by decide +kernel
theorem dX11_wayIn_13 : decode cX11_wayIn 13 = .ok (.ifCond .ne 5, 3) := by decide +kernel
theorem dX11_wayIn_16 : decode cX11_wayIn 16 = .ok (.iconst (-1), 1) := by decide +kernel
theorem dX11_wayIn_17 : decode cX11_wayIn 17 = .ok (.ireturn, 1) := by decide +kernel
theorem dX11_wayIn_18 : decode cX11_wayIn 18 = .ok (.iload_n 2, 1) := by decide +kernel
theorem dX11_wayIn_19 : decode cX11_wayIn 19 = .ok (.ifCond .ne 14, 3) := by decide +kernel
theorem dX11_wayIn_22 : decode cX11_wayIn 22 = .ok (.aload_n 0, 1) := by decide +kernel
theorem dX11_wayIn_23 : decode cX11_wayIn 23 = .ok (.getfield 61, 3) := by decide +kernel
theorem dX11_wayIn_26 : decode cX11_wayIn 26 = .ok (.iload_n 1, 1) := by decide +kernel
theorem dX11_wayIn_27 : decode cX11_wayIn 27 = .ok (.invokevirtual 202, 3) := by decide +kernel
theorem dX11_wayIn_30 : decode cX11_wayIn 30 = .ok (.goto 11, 3) := by decide +kernel
theorem dX11_wayIn_33 : decode cX11_wayIn 33 = .ok (.aload_n 0, 1) := by decide +kernel
theorem dX11_wayIn_34 : decode cX11_wayIn 34 = .ok (.getfield 61, 3) := by decide +kernel
theorem dX11_wayIn_37 : decode cX11_wayIn 37 = .ok (.iload_n 1, 1) := by decide +kernel
theorem dX11_wayIn_38 : decode cX11_wayIn 38 = .ok (.invokevirtual 205, 3) := by decide +kernel
theorem dX11_wayIn_41 : decode cX11_wayIn 41 = .ok (.ireturn, 1) := by decide +kernel
theorem dX11_round_0 : decode cX11_round 0 = .ok (.iload_n 1, 1) := by decide +kernel
theorem dX11_round_1 : decode cX11_round 1 = .ok (.invokestatic 140, 3) := by decide +kernel
theorem dX11_round_4 : decode cX11_round 4 = .ok (.ifCond .eq 23, 3) := by decide +kernel
theorem dX11_round_7 : decode cX11_round 7 = .ok (.iload_n 2, 1) := by decide +kernel
theorem dX11_round_8 : decode cX11_round 8 = .ok (.iconst 0, 1) := by decide +kernel
theorem dX11_round_9 : decode cX11_round 9 = .ok (.iconst 4, 1) := by decide +kernel
theorem dX11_round_10 : decode cX11_round 10 = .ok (.invokestatic 101, 3) := by decide +kernel
theorem dX11_round_13 : decode cX11_round 13 = .ok (.ifCond .eq 14, 3) := by decide +kernel
theorem dX11_round_16 : decode cX11_round 16 = .ok (.iload_n 3, 1) := by decide +kernel
theorem dX11_round_17 : decode cX11_round 17 = .ok (.iconst (-1), 1) := by decide +kernel
theorem dX11_round_18 : decode cX11_round 18 = .ok (.iload_n 2, 1) := by decide +kernel
theorem dX11_round_19 : decode cX11_round 19 = .ok (.iconst 1, 1) := by decide +kernel
theorem dX11_round_20 : decode cX11_round 20 = .ok (.isub, 1) := by decide +kernel
theorem dX11_round_21 : decode cX11_round 21 = .ok (.invokestatic 101, 3) := by decide +kernel
theorem dX11_round_24 : decode cX11_round 24 = .ok (.ifCond .ne 5, 3) := by decide +kernel
theorem dX11_round_27 : decode cX11_round 27 = .ok (.iconst (-1), 1) := by decide +kernel
theorem dX11_round_28 : decode cX11_round 28 = .ok (.ireturn, 1) := by decide +kernel
theorem dX11_round_29 : decode cX11_round 29 = .ok (.aload_n 0, 1) := by decide +kernel
theorem dX11_round_30 : decode cX11_round 30 = .ok (.getfield 45, 3) := by decide +kernel
theorem dX11_round_33 : decode cX11_round 33 = .ok (.iload_n 1, 1) := by decide +kernel
theorem dX11_round_34 : decode cX11_round 34 = .ok (.iload_n 2, 1) := by decide +kernel
theorem dX11_round_35 : decode cX11_round 35 = .ok (.invokevirtual 208, 3) := by decide +kernel
theorem dX11_round_38 : decode cX11_round 38 = .ok (.iload_n 3, 1) := by decide +kernel
theorem dX11_round_39 : decode cX11_round 39 = .ok (.ifCond .ge 13, 3) := by decide +kernel
theorem dX11_round_42 : decode cX11_round 42 = .ok (.aload_n 0, 1) := by decide +kernel
theorem dX11_round_43 : decode cX11_round 43 = .ok (.getfield 45, 3) := by decide +kernel
theorem dX11_round_46 : decode cX11_round 46 = .ok (.getfield 212, 3) := by decide +kernel
theorem dX11_round_49 : decode cX11_round 49 = .ok (.goto 11, 3) := by decide +kernel
theorem dX11_round_52 : decode cX11_round 52 = .ok (.aload_n 0, 1) := by decide +kernel
theorem dX11_round_53 : decode cX11_round 53 = .ok (.getfield 45, 3) := by decide +kernel
theorem dX11_round_56 : decode cX11_round 56 = .ok (.iload_n 3, 1) := by decide +kernel
theorem dX11_round_57 : decode cX11_round 57 = .ok (.invokevirtual 215, 3) := by decide +kernel
theorem dX11_round_60 : decode cX11_round 60 = .ok (.ireturn, 1) := by decide +kernel
theorem dX11_judge_0 : decode cX11_judge 0 = .ok (.aload_n 0, 1) := by decide +kernel
theorem dX11_judge_1 : decode cX11_judge 1 = .ok (.iload_n 1, 1) := by decide +kernel
theorem dX11_judge_2 : decode cX11_judge 2 = .ok (.invokevirtual 218, 3) := by decide +kernel
theorem dX11_judge_5 : decode cX11_judge 5 = .ok (.istore_n 2, 1) := by decide +kernel
theorem dX11_judge_6 : decode cX11_judge 6 = .ok (.iload_n 2, 1) := by decide +kernel
theorem dX11_judge_7 : decode cX11_judge 7 = .ok (.ifCond .eq 7, 3) := by decide +kernel
theorem dX11_judge_10 : decode cX11_judge 10 = .ok (.iload_n 2, 1) := by decide +kernel
theorem dX11_judge_11 : decode cX11_judge 11 = .ok (.goto 16, 3) := by decide +kernel
theorem dX11_judge_14 : decode cX11_judge 14 = .ok (.aload_n 0, 1) := by decide +kernel
theorem dX11_judge_15 : decode cX11_judge 15 = .ok (.getfield 38, 3) := by decide +kernel
theorem dX11_judge_18 : decode cX11_judge 18 = .ok (.aload_n 0, 1) := by decide +kernel
theorem dX11_judge_19 : decode cX11_judge 19 = .ok (.getfield 81, 3) := by decide +kernel
theorem dX11_judge_22 : decode cX11_judge 22 = .ok (.iload_n 1, 1) := by decide +kernel
theorem dX11_judge_23 : decode cX11_judge 23 = .ok (.aaload, 1) := by decide +kernel
theorem dX11_judge_24 : decode cX11_judge 24 = .ok (.invokevirtual 221, 3) := by decide +kernel
theorem dX11_judge_27 : decode cX11_judge 27 = .ok (.ireturn, 1) := by decide +kernel
theorem dX11_draughts_0 : decode cX11_draughts 0 = .ok (.iload_n 2, 1) := by decide +kernel
theorem dX11_draughts_1 : decode cX11_draughts 1 = .ok (.invokestatic 140, 3) := by decide +kernel
theorem dX11_draughts_4 : decode cX11_draughts 4 = .ok (.ifCond .eq 12, 3) := by decide +kernel
theorem dX11_draughts_7 : decode cX11_draughts 7 = .ok (.iload_n 3, 1) := by decide +kernel
theorem dX11_draughts_8 : decode cX11_draughts 8 = .ok (.iconst 0, 1) := by decide +kernel
theorem dX11_draughts_9 : decode cX11_draughts 9 = .ok (.iconst 1, 1) := by decide +kernel
theorem dX11_draughts_10 : decode cX11_draughts 10 = .ok (.invokestatic 101, 3) := by decide +kernel
theorem dX11_draughts_13 : decode cX11_draughts 13 = .ok (.ifCond .ne 5, 3) := by decide +kernel
theorem dX11_draughts_16 : decode cX11_draughts 16 = .ok (.iconst (-1), 1) := by decide +kernel
theorem dX11_draughts_17 : decode cX11_draughts 17 = .ok (.ireturn, 1) := by decide +kernel
theorem dX11_draughts_18 : decode cX11_draughts 18 = .ok (.aload_n 0, 1) := by decide +kernel
theorem dX11_draughts_19 : decode cX11_draughts 19 = .ok (.iload_n 1, 1) := by decide +kernel
theorem dX11_draughts_20 : decode cX11_draughts 20 = .ok (.invokevirtual 218, 3) := by decide +kernel
theorem dX11_draughts_23 : decode cX11_draughts 23 = .ok (.istore 4, 2) := by decide +kernel
theorem dX11_draughts_25 : decode cX11_draughts 25 = .ok (.iload 4, 2) := by decide +kernel
theorem dX11_draughts_27 : decode cX11_draughts 27 = .ok (.ifCond .eq 8, 3) := by decide +kernel
theorem dX11_draughts_30 : decode cX11_draughts 30 = .ok (.iload 4, 2) := by decide +kernel
theorem dX11_draughts_32 : decode cX11_draughts 32 = .ok (.goto 28, 3) := by decide +kernel
theorem dX11_draughts_35 : decode cX11_draughts 35 = .ok (.aload_n 0, 1) := by decide +kernel
theorem dX11_draughts_36 : decode cX11_draughts 36 = .ok (.getfield 38, 3) := by decide +kernel
theorem dX11_draughts_39 : decode cX11_draughts 39 = .ok (.aload_n 0, 1) := by decide +kernel
theorem dX11_draughts_40 : decode cX11_draughts 40 = .ok (.getfield 81, 3) := by decide +kernel
theorem dX11_draughts_43 : decode cX11_draughts 43 = .ok (.iload_n 1, 1) := by decide +kernel
theorem dX11_draughts_44 : decode cX11_draughts 44 = .ok (.aaload, 1) := by decide +kernel
theorem dX11_draughts_45 : decode cX11_draughts 45 = .ok (.iload_n 2, 1) := by decide +kernel
theorem dX11_draughts_46 : decode cX11_draughts 46 = .ok (.iconst 1, 1) := by decide +kernel
theorem dX11_draughts_47 : decode cX11_draughts 47 = .ok (.iload_n 3, 1) := by decide +kernel
theorem dX11_draughts_48 : decode cX11_draughts 48 = .ok (.iconst 1, 1) := by decide +kernel
theorem dX11_draughts_49 : decode cX11_draughts 49 = .ok (.if_icmp .ne 7, 3) := by decide +kernel
theorem dX11_draughts_52 : decode cX11_draughts 52 = .ok (.iconst 1, 1) := by decide +kernel
theorem dX11_draughts_53 : decode cX11_draughts 53 = .ok (.goto 4, 3) := by decide +kernel
theorem dX11_draughts_56 : decode cX11_draughts 56 = .ok (.iconst 0, 1) := by decide +kernel
theorem dX11_draughts_57 : decode cX11_draughts 57 = .ok (.invokevirtual 225, 3) := by decide +kernel
theorem dX11_draughts_60 : decode cX11_draughts 60 = .ok (.ireturn, 1) := by decide +kernel
theorem dX11_holds_0 : decode cX11_holds 0 = .ok (.iload_n 2, 1) := by decide +kernel
theorem dX11_holds_1 : decode cX11_holds 1 = .ok (.iconst 0, 1) := by decide +kernel
theorem dX11_holds_2 : decode cX11_holds 2 = .ok (.iconst 1, 1) := by decide +kernel
theorem dX11_holds_3 : decode cX11_holds 3 = .ok (.invokestatic 101, 3) := by decide +kernel
theorem dX11_holds_6 : decode cX11_holds 6 = .ok (.ifCond .ne 5, 3) := by decide +kernel
theorem dX11_holds_9 : decode cX11_holds 9 = .ok (.iconst (-1), 1) := by decide +kernel
theorem dX11_holds_10 : decode cX11_holds 10 = .ok (.ireturn, 1) := by decide +kernel
theorem dX11_holds_11 : decode cX11_holds 11 = .ok (.aload_n 0, 1) := by decide +kernel
theorem dX11_holds_12 : decode cX11_holds 12 = .ok (.iload_n 1, 1) := by decide +kernel
theorem dX11_holds_13 : decode cX11_holds 13 = .ok (.invokevirtual 218, 3) := by decide +kernel
theorem dX11_holds_16 : decode cX11_holds 16 = .ok (.istore_n 3, 1) := by decide +kernel
theorem dX11_holds_17 : decode cX11_holds 17 = .ok (.iload_n 3, 1) := by decide +kernel
theorem dX11_holds_18 : decode cX11_holds 18 = .ok (.ifCond .eq 7, 3) := by decide +kernel
theorem dX11_holds_21 : decode cX11_holds 21 = .ok (.iload_n 3, 1) := by decide +kernel
theorem dX11_holds_22 : decode cX11_holds 22 = .ok (.goto 28, 3) := by decide +kernel
theorem dX11_holds_25 : decode cX11_holds 25 = .ok (.aload_n 0, 1) := by decide +kernel
theorem dX11_holds_26 : decode cX11_holds 26 = .ok (.getfield 38, 3) := by decide +kernel
theorem dX11_holds_29 : decode cX11_holds 29 = .ok (.aload_n 0, 1) := by decide +kernel
theorem dX11_holds_30 : decode cX11_holds 30 = .ok (.getfield 81, 3) := by decide +kernel
theorem dX11_holds_33 : decode cX11_holds 33 = .ok (.iload_n 1, 1) := by decide +kernel
theorem dX11_holds_34 : decode cX11_holds 34 = .ok (.aaload, 1) := by decide +kernel
theorem dX11_holds_35 : decode cX11_holds 35 = .ok (.iconst 0, 1) := by decide +kernel
theorem dX11_holds_36 : decode cX11_holds 36 = .ok (.iconst 4, 1) := by decide +kernel
theorem dX11_holds_37 : decode cX11_holds 37 = .ok (.iload_n 2, 1) := by decide +kernel
theorem dX11_holds_38 : decode cX11_holds 38 = .ok (.iconst 1, 1) := by decide +kernel
theorem dX11_holds_39 : decode cX11_holds 39 = .ok (.if_icmp .ne 7, 3) := by decide +kernel
theorem dX11_holds_42 : decode cX11_holds 42 = .ok (.iconst 1, 1) := by decide +kernel
theorem dX11_holds_43 : decode cX11_holds 43 = .ok (.goto 4, 3) := by decide +kernel
theorem dX11_holds_46 : decode cX11_holds 46 = .ok (.iconst 0, 1) := by decide +kernel
theorem dX11_holds_47 : decode cX11_holds 47 = .ok (.invokevirtual 225, 3) := by decide +kernel
theorem dX11_holds_50 : decode cX11_holds 50 = .ok (.ireturn, 1) := by decide +kernel
theorem dX11_byTurns_0 : decode cX11_byTurns 0 = .ok (.iload_n 1, 1) := by decide +kernel
theorem dX11_byTurns_1 : decode cX11_byTurns 1 = .ok (.iconst 0, 1) := by decide +kernel
theorem dX11_byTurns_2 : decode cX11_byTurns 2 = .ok (.sipush 599, 3) := by decide +kernel
theorem dX11_byTurns_5 : decode cX11_byTurns 5 = .ok (.invokestatic 101, 3) := by decide +kernel
theorem dX11_byTurns_8 : decode cX11_byTurns 8 = .ok (.ifCond .eq 12, 3) := by decide +kernel
theorem dX11_byTurns_11 : decode cX11_byTurns 11 = .ok (.iload_n 2, 1) := by decide +kernel
theorem dX11_byTurns_12 : decode cX11_byTurns 12 = .ok (.iconst 0, 1) := by decide +kernel
theorem dX11_byTurns_13 : decode cX11_byTurns 13 = .ok (.iconst 1, 1) := by decide +kernel
theorem dX11_byTurns_14 : decode cX11_byTurns 14 = .ok (.invokestatic 101, 3) := by decide +kernel
theorem dX11_byTurns_17 : decode cX11_byTurns 17 = .ok (.ifCond .ne 5, 3) := by decide +kernel
theorem dX11_byTurns_20 : decode cX11_byTurns 20 = .ok (.iconst (-1), 1) := by decide +kernel
theorem dX11_byTurns_21 : decode cX11_byTurns 21 = .ok (.ireturn, 1) := by decide +kernel
theorem dX11_byTurns_22 : decode cX11_byTurns 22 = .ok (.iload_n 1, 1) := by decide +kernel
theorem dX11_byTurns_23 : decode cX11_byTurns 23 = .ok (.bipush 10, 2) := by decide +kernel
theorem dX11_byTurns_25 : decode cX11_byTurns 25 = .ok (.idiv, 1) := by decide +kernel
theorem dX11_byTurns_26 : decode cX11_byTurns 26 = .ok (.bipush 10, 2) := by decide +kernel
theorem dX11_byTurns_28 : decode cX11_byTurns 28 = .ok (.irem, 1) := by decide +kernel
theorem dX11_byTurns_29 : decode cX11_byTurns 29 = .ok (.istore_n 3, 1) := by decide +kernel
theorem dX11_byTurns_30 : decode cX11_byTurns 30 = .ok (.iload_n 1, 1) := by decide +kernel
theorem dX11_byTurns_31 : decode cX11_byTurns 31 = .ok (.bipush 10, 2) := by decide +kernel
theorem dX11_byTurns_33 : decode cX11_byTurns 33 = .ok (.irem, 1) := by decide +kernel
theorem dX11_byTurns_34 : decode cX11_byTurns 34 = .ok (.istore 4, 2) := by decide +kernel
theorem dX11_byTurns_36 : decode cX11_byTurns 36 = .ok (.iload_n 3, 1) := by decide +kernel
theorem dX11_byTurns_37 : decode cX11_byTurns 37 = .ok (.iconst 1, 1) := by decide +kernel
theorem dX11_byTurns_38 : decode cX11_byTurns 38 = .ok (.iconst 3, 1) := by decide +kernel
theorem dX11_byTurns_39 : decode cX11_byTurns 39 = .ok (.invokestatic 101, 3) := by decide +kernel
theorem dX11_byTurns_42 : decode cX11_byTurns 42 = .ok (.ifCond .eq 14, 3) := by decide +kernel
theorem dX11_byTurns_45 : decode cX11_byTurns 45 = .ok (.iload 4, 2) := by decide +kernel
theorem dX11_byTurns_47 : decode cX11_byTurns 47 = .ok (.iconst 0, 1) := by decide +kernel
theorem dX11_byTurns_48 : decode cX11_byTurns 48 = .ok (.bipush 6, 2) := by decide +kernel
theorem dX11_byTurns_50 : decode cX11_byTurns 50 = .ok (.invokestatic 101, 3) := by decide +kernel
theorem dX11_byTurns_53 : decode cX11_byTurns 53 = .ok (.ifCond .ne 5, 3) := by decide +kernel
theorem dX11_byTurns_56 : decode cX11_byTurns 56 = .ok (.iconst (-1), 1) := by decide +kernel
theorem dX11_byTurns_57 : decode cX11_byTurns 57 = .ok (.ireturn, 1) := by decide +kernel
theorem dX11_byTurns_58 : decode cX11_byTurns 58 = .ok (.aload_n 0, 1) := by decide +kernel
theorem dX11_byTurns_59 : decode cX11_byTurns 59 = .ok (.getfield 52, 3) := by decide +kernel
theorem dX11_byTurns_62 : decode cX11_byTurns 62 = .ok (.iload_n 1, 1) := by decide +kernel
theorem dX11_byTurns_63 : decode cX11_byTurns 63 = .ok (.bipush 100, 2) := by decide +kernel
theorem dX11_byTurns_65 : decode cX11_byTurns 65 = .ok (.idiv, 1) := by decide +kernel
theorem dX11_byTurns_66 : decode cX11_byTurns 66 = .ok (.iload_n 3, 1) := by decide +kernel
theorem dX11_byTurns_67 : decode cX11_byTurns 67 = .ok (.iload 4, 2) := by decide +kernel
theorem dX11_byTurns_69 : decode cX11_byTurns 69 = .ok (.invokevirtual 229, 3) := by decide +kernel
theorem dX11_byTurns_72 : decode cX11_byTurns 72 = .ok (.istore 5, 2) := by decide +kernel
theorem dX11_byTurns_74 : decode cX11_byTurns 74 = .ok (.iload_n 2, 1) := by decide +kernel
theorem dX11_byTurns_75 : decode cX11_byTurns 75 = .ok (.ifCond .ne 8, 3) := by decide +kernel
theorem dX11_byTurns_78 : decode cX11_byTurns 78 = .ok (.iload 5, 2) := by decide +kernel
theorem dX11_byTurns_80 : decode cX11_byTurns 80 = .ok (.goto 10, 3) := by decide +kernel
theorem dX11_byTurns_83 : decode cX11_byTurns 83 = .ok (.aload_n 0, 1) := by decide +kernel
theorem dX11_byTurns_84 : decode cX11_byTurns 84 = .ok (.getfield 52, 3) := by decide +kernel
theorem dX11_byTurns_87 : decode cX11_byTurns 87 = .ok (.getfield 233, 3) := by decide +kernel
theorem dX11_byTurns_90 : decode cX11_byTurns 90 = .ok (.ireturn, 1) := by decide +kernel
theorem dX11_drawn_0 : decode cX11_drawn 0 = .ok (.iload_n 2, 1) := by decide +kernel
theorem dX11_drawn_1 : decode cX11_drawn 1 = .ok (.iconst 0, 1) := by decide +kernel
theorem dX11_drawn_2 : decode cX11_drawn 2 = .ok (.ldc 236, 2) := by decide +kernel
theorem dX11_drawn_4 : decode cX11_drawn 4 = .ok (.invokestatic 101, 3) := by decide +kernel
theorem dX11_drawn_7 : decode cX11_drawn 7 = .ok (.ifCond .eq 13, 3) := by decide +kernel
theorem dX11_drawn_10 : decode cX11_drawn 10 = .ok (.iload_n 3, 1) := by decide +kernel
theorem dX11_drawn_11 : decode cX11_drawn 11 = .ok (.iconst (-1), 1) := by decide +kernel
theorem dX11_drawn_12 : decode cX11_drawn 12 = .ok (.bipush 35, 2) := by decide +kernel
theorem dX11_drawn_14 : decode cX11_drawn 14 = .ok (.invokestatic 101, 3) := by decide +kernel
theorem dX11_drawn_17 : decode cX11_drawn 17 = .ok (.ifCond .ne 5, 3) := by decide +kernel
theorem dX11_drawn_20 : decode cX11_drawn 20 = .ok (.iconst (-1), 1) := by decide +kernel
theorem dX11_drawn_21 : decode cX11_drawn 21 = .ok (.ireturn, 1) := by decide +kernel
theorem dX11_drawn_22 : decode cX11_drawn 22 = .ok (.iload_n 2, 1) := by decide +kernel
theorem dX11_drawn_23 : decode cX11_drawn 23 = .ok (.sipush 10000, 3) := by decide +kernel
theorem dX11_drawn_26 : decode cX11_drawn 26 = .ok (.idiv, 1) := by decide +kernel
theorem dX11_drawn_27 : decode cX11_drawn 27 = .ok (.istore 4, 2) := by decide +kernel
theorem dX11_drawn_29 : decode cX11_drawn 29 = .ok (.iload_n 2, 1) := by decide +kernel
theorem dX11_drawn_30 : decode cX11_drawn 30 = .ok (.bipush 100, 2) := by decide +kernel
theorem dX11_drawn_32 : decode cX11_drawn 32 = .ok (.idiv, 1) := by decide +kernel
theorem dX11_drawn_33 : decode cX11_drawn 33 = .ok (.bipush 100, 2) := by decide +kernel
theorem dX11_drawn_35 : decode cX11_drawn 35 = .ok (.irem, 1) := by decide +kernel
theorem dX11_drawn_36 : decode cX11_drawn 36 = .ok (.istore 5, 2) := by decide +kernel
theorem dX11_drawn_38 : decode cX11_drawn 38 = .ok (.iload_n 2, 1) := by decide +kernel
theorem dX11_drawn_39 : decode cX11_drawn 39 = .ok (.bipush 100, 2) := by decide +kernel
theorem dX11_drawn_41 : decode cX11_drawn 41 = .ok (.irem, 1) := by decide +kernel
theorem dX11_drawn_42 : decode cX11_drawn 42 = .ok (.istore 6, 2) := by decide +kernel
theorem dX11_drawn_44 : decode cX11_drawn 44 = .ok (.iload 4, 2) := by decide +kernel
theorem dX11_drawn_46 : decode cX11_drawn 46 = .ok (.iconst 1, 1) := by decide +kernel
theorem dX11_drawn_47 : decode cX11_drawn 47 = .ok (.bipush 30, 2) := by decide +kernel
theorem dX11_drawn_49 : decode cX11_drawn 49 = .ok (.invokestatic 101, 3) := by decide +kernel
theorem dX11_drawn_52 : decode cX11_drawn 52 = .ok (.ifCond .eq 25, 3) := by decide +kernel
theorem dX11_drawn_55 : decode cX11_drawn 55 = .ok (.iload 5, 2) := by decide +kernel
theorem dX11_drawn_57 : decode cX11_drawn 57 = .ok (.iconst 1, 1) := by decide +kernel
theorem dX11_drawn_58 : decode cX11_drawn 58 = .ok (.bipush 24, 2) := by decide +kernel
theorem dX11_drawn_60 : decode cX11_drawn 60 = .ok (.invokestatic 101, 3) := by decide +kernel
theorem dX11_drawn_63 : decode cX11_drawn 63 = .ok (.ifCond .eq 14, 3) := by decide +kernel
theorem dX11_drawn_66 : decode cX11_drawn 66 = .ok (.iload 6, 2) := by decide +kernel
theorem dX11_drawn_68 : decode cX11_drawn 68 = .ok (.iconst 0, 1) := by decide +kernel
theorem dX11_drawn_69 : decode cX11_drawn 69 = .ok (.bipush 12, 2) := by decide +kernel
theorem dX11_drawn_71 : decode cX11_drawn 71 = .ok (.invokestatic 101, 3) := by decide +kernel
theorem dX11_drawn_74 : decode cX11_drawn 74 = .ok (.ifCond .ne 5, 3) := by decide +kernel
theorem dX11_drawn_77 : decode cX11_drawn 77 = .ok (.iconst (-1), 1) := by decide +kernel
theorem dX11_drawn_78 : decode cX11_drawn 78 = .ok (.ireturn, 1) := by decide +kernel
theorem dX11_drawn_79 : decode cX11_drawn 79 = .ok (.aload_n 0, 1) := by decide +kernel
theorem dX11_drawn_80 : decode cX11_drawn 80 = .ok (.getfield 38, 3) := by decide +kernel
theorem dX11_drawn_83 : decode cX11_drawn 83 = .ok (.iload_n 1, 1) := by decide +kernel
theorem dX11_drawn_84 : decode cX11_drawn 84 = .ok (.iload 4, 2) := by decide +kernel
theorem dX11_drawn_86 : decode cX11_drawn 86 = .ok (.iload 5, 2) := by decide +kernel
theorem dX11_drawn_88 : decode cX11_drawn 88 = .ok (.iload 6, 2) := by decide +kernel
theorem dX11_drawn_90 : decode cX11_drawn 90 = .ok (.iload_n 3, 1) := by decide +kernel
theorem dX11_drawn_91 : decode cX11_drawn 91 = .ok (.invokevirtual 237, 3) := by decide +kernel
theorem dX11_drawn_94 : decode cX11_drawn 94 = .ok (.ireturn, 1) := by decide +kernel
theorem dX11_hour_0 : decode cX11_hour 0 = .ok (.aload_n 0, 1) := by decide +kernel
theorem dX11_hour_1 : decode cX11_hour 1 = .ok (.getfield 12, 3) := by decide +kernel
theorem dX11_hour_4 : decode cX11_hour 4 = .ok (.aload_n 0, 1) := by decide +kernel
theorem dX11_hour_5 : decode cX11_hour 5 = .ok (.getfield 22, 3) := by decide +kernel
theorem dX11_hour_8 : decode cX11_hour 8 = .ok (.invokevirtual 241, 3) := by decide +kernel
theorem dX11_hour_11 : decode cX11_hour 11 = .ok (.aload_n 0, 1) := by decide +kernel
theorem dX11_hour_12 : decode cX11_hour 12 = .ok (.getfield 86, 3) := by decide +kernel
theorem dX11_hour_15 : decode cX11_hour 15 = .ok (.iconst 0, 1) := by decide +kernel
theorem dX11_hour_16 : decode cX11_hour 16 = .ok (.dup2, 1) := by decide +kernel
theorem dX11_hour_17 : decode cX11_hour 17 = .ok (.iaload, 1) := by decide +kernel
theorem dX11_hour_18 : decode cX11_hour 18 = .ok (.iconst 1, 1) := by decide +kernel
theorem dX11_hour_19 : decode cX11_hour 19 = .ok (.iadd, 1) := by decide +kernel
theorem dX11_hour_20 : decode cX11_hour 20 = .ok (.iastore, 1) := by decide +kernel
theorem dX11_hour_21 : decode cX11_hour 21 = .ok (.aload_n 0, 1) := by decide +kernel
theorem dX11_hour_22 : decode cX11_hour 22 = .ok (.getfield 86, 3) := by decide +kernel
theorem dX11_hour_25 : decode cX11_hour 25 = .ok (.iconst 1, 1) := by decide +kernel
theorem dX11_hour_26 : decode cX11_hour 26 = .ok (.dup2, 1) := by decide +kernel
theorem dX11_hour_27 : decode cX11_hour 27 = .ok (.iaload, 1) := by decide +kernel
theorem dX11_hour_28 : decode cX11_hour 28 = .ok (.aload_n 0, 1) := by decide +kernel
theorem dX11_hour_29 : decode cX11_hour 29 = .ok (.getfield 12, 3) := by decide +kernel
theorem dX11_hour_32 : decode cX11_hour 32 = .ok (.getfield 245, 3) := by decide +kernel
theorem dX11_hour_35 : decode cX11_hour 35 = .ok (.invokestatic 248, 3) := by decide +kernel
theorem dX11_hour_38 : decode cX11_hour 38 = .ok (.iadd, 1) := by decide +kernel
theorem dX11_hour_39 : decode cX11_hour 39 = .ok (.iastore, 1) := by decide +kernel
theorem dX11_hour_40 : decode cX11_hour 40 = .ok (.aload_n 0, 1) := by decide +kernel
theorem dX11_hour_41 : decode cX11_hour 41 = .ok (.getfield 86, 3) := by decide +kernel
theorem dX11_hour_44 : decode cX11_hour 44 = .ok (.iconst 2, 1) := by decide +kernel
theorem dX11_hour_45 : decode cX11_hour 45 = .ok (.dup2, 1) := by decide +kernel
theorem dX11_hour_46 : decode cX11_hour 46 = .ok (.iaload, 1) := by decide +kernel
theorem dX11_hour_47 : decode cX11_hour 47 = .ok (.aload_n 0, 1) := by decide +kernel
theorem dX11_hour_48 : decode cX11_hour 48 = .ok (.getfield 12, 3) := by decide +kernel
theorem dX11_hour_51 : decode cX11_hour 51 = .ok (.getfield 254, 3) := by decide +kernel
theorem dX11_hour_54 : decode cX11_hour 54 = .ok (.invokestatic 248, 3) := by decide +kernel
theorem dX11_hour_57 : decode cX11_hour 57 = .ok (.iadd, 1) := by decide +kernel
theorem dX11_hour_58 : decode cX11_hour 58 = .ok (.iastore, 1) := by decide +kernel
theorem dX11_hour_59 : decode cX11_hour 59 = .ok (.aload_n 0, 1) := by decide +kernel
theorem dX11_hour_60 : decode cX11_hour 60 = .ok (.getfield 86, 3) := by decide +kernel
theorem dX11_hour_63 : decode cX11_hour 63 = .ok (.iconst 3, 1) := by decide +kernel
theorem dX11_hour_64 : decode cX11_hour 64 = .ok (.dup2, 1) := by decide +kernel
theorem dX11_hour_65 : decode cX11_hour 65 = .ok (.iaload, 1) := by decide +kernel
theorem dX11_hour_66 : decode cX11_hour 66 = .ok (.aload_n 0, 1) := by decide +kernel
theorem dX11_hour_67 : decode cX11_hour 67 = .ok (.getfield 12, 3) := by decide +kernel
theorem dX11_hour_70 : decode cX11_hour 70 = .ok (.getfield 257, 3) := by decide +kernel
theorem dX11_hour_73 : decode cX11_hour 73 = .ok (.iadd, 1) := by decide +kernel
theorem dX11_hour_74 : decode cX11_hour 74 = .ok (.iastore, 1) := by decide +kernel
theorem dX11_hour_75 : decode cX11_hour 75 = .ok (.aload_n 0, 1) := by decide +kernel
theorem dX11_hour_76 : decode cX11_hour 76 = .ok (.getfield 12, 3) := by decide +kernel
theorem dX11_hour_79 : decode cX11_hour 79 = .ok (.invokevirtual 168, 3) := by decide +kernel
theorem dX11_hour_82 : decode cX11_hour 82 = .ok (.ireturn, 1) := by decide +kernel
theorem dX11_stub_0 : decode cX11_stub 0 = .ok (.iload_n 1, 1) := by decide +kernel
theorem dX11_stub_1 : decode cX11_stub 1 = .ok (.invokestatic 140, 3) := by decide +kernel
theorem dX11_stub_4 : decode cX11_stub 4 = .ok (.ifCond .eq 13, 3) := by decide +kernel
theorem dX11_stub_7 : decode cX11_stub 7 = .ok (.iload_n 2, 1) := by decide +kernel
theorem dX11_stub_8 : decode cX11_stub 8 = .ok (.iconst 1, 1) := by decide +kernel
theorem dX11_stub_9 : decode cX11_stub 9 = .ok (.bipush 99, 2) := by decide +kernel
theorem dX11_stub_11 : decode cX11_stub 11 = .ok (.invokestatic 101, 3) := by decide +kernel
theorem dX11_stub_14 : decode cX11_stub 14 = .ok (.ifCond .ne 5, 3) := by decide +kernel
theorem dX11_stub_17 : decode cX11_stub 17 = .ok (.iconst (-1), 1) := by decide +kernel
theorem dX11_stub_18 : decode cX11_stub 18 = .ok (.ireturn, 1) := by decide +kernel
theorem dX11_stub_19 : decode cX11_stub 19 = .ok (.aload_n 0, 1) := by decide +kernel
theorem dX11_stub_20 : decode cX11_stub 20 = .ok (.getfield 12, 3) := by decide +kernel
theorem dX11_stub_23 : decode cX11_stub 23 = .ok (.iload_n 1, 1) := by decide +kernel
theorem dX11_stub_24 : decode cX11_stub 24 = .ok (.invokevirtual 260, 3) := by decide +kernel
theorem dX11_stub_27 : decode cX11_stub 27 = .ok (.ifCond .eq 6, 3) := by decide +kernel
theorem dX11_stub_30 : decode cX11_stub 30 = .ok (.bipush (-5), 2) := by decide +kernel
theorem dX11_stub_32 : decode cX11_stub 32 = .ok (.ireturn, 1) := by decide +kernel
theorem dX11_stub_33 : decode cX11_stub 33 = .ok (.aload_n 0, 1) := by decide +kernel
theorem dX11_stub_34 : decode cX11_stub 34 = .ok (.getfield 12, 3) := by decide +kernel
theorem dX11_stub_37 : decode cX11_stub 37 = .ok (.iload_n 1, 1) := by decide +kernel
theorem dX11_stub_38 : decode cX11_stub 38 = .ok (.iload_n 2, 1) := by decide +kernel
theorem dX11_stub_39 : decode cX11_stub 39 = .ok (.invokevirtual 263, 3) := by decide +kernel
theorem dX11_stub_42 : decode cX11_stub 42 = .ok (.aload_n 0, 1) := by decide +kernel
theorem dX11_stub_43 : decode cX11_stub 43 = .ok (.getfield 86, 3) := by decide +kernel
theorem dX11_stub_46 : decode cX11_stub 46 = .ok (.iconst 4, 1) := by decide +kernel
theorem dX11_stub_47 : decode cX11_stub 47 = .ok (.dup2, 1) := by decide +kernel
theorem dX11_stub_48 : decode cX11_stub 48 = .ok (.iaload, 1) := by decide +kernel
theorem dX11_stub_49 : decode cX11_stub 49 = .ok (.iconst 1, 1) := by decide +kernel
theorem dX11_stub_50 : decode cX11_stub 50 = .ok (.iadd, 1) := by decide +kernel
theorem dX11_stub_51 : decode cX11_stub 51 = .ok (.iastore, 1) := by decide +kernel
theorem dX11_stub_52 : decode cX11_stub 52 = .ok (.aload_n 0, 1) := by decide +kernel
theorem dX11_stub_53 : decode cX11_stub 53 = .ok (.getfield 12, 3) := by decide +kernel
theorem dX11_stub_56 : decode cX11_stub 56 = .ok (.getfield 266, 3) := by decide +kernel
theorem dX11_stub_59 : decode cX11_stub 59 = .ok (.iload_n 1, 1) := by decide +kernel
theorem dX11_stub_60 : decode cX11_stub 60 = .ok (.iaload, 1) := by decide +kernel
theorem dX11_stub_61 : decode cX11_stub 61 = .ok (.ireturn, 1) := by decide +kernel
theorem dX11_blow_0 : decode cX11_blow 0 = .ok (.iload_n 1, 1) := by decide +kernel
theorem dX11_blow_1 : decode cX11_blow 1 = .ok (.invokestatic 140, 3) := by decide +kernel
theorem dX11_blow_4 : decode cX11_blow 4 = .ok (.ifCond .ne 5, 3) := by decide +kernel
theorem dX11_blow_7 : decode cX11_blow 7 = .ok (.iconst (-1), 1) := by decide +kernel
theorem dX11_blow_8 : decode cX11_blow 8 = .ok (.ireturn, 1) := by decide +kernel
theorem dX11_blow_9 : decode cX11_blow 9 = .ok (.aload_n 0, 1) := by decide +kernel
theorem dX11_blow_10 : decode cX11_blow 10 = .ok (.getfield 12, 3) := by decide +kernel
theorem dX11_blow_13 : decode cX11_blow 13 = .ok (.getfield 266, 3) := by decide +kernel
theorem dX11_blow_16 : decode cX11_blow 16 = .ok (.iload_n 1, 1) := by decide +kernel
theorem dX11_blow_17 : decode cX11_blow 17 = .ok (.iaload, 1) := by decide +kernel
theorem dX11_blow_18 : decode cX11_blow 18 = .ok (.istore_n 2, 1) := by decide +kernel
theorem dX11_blow_19 : decode cX11_blow 19 = .ok (.aload_n 0, 1) := by decide +kernel
theorem dX11_blow_20 : decode cX11_blow 20 = .ok (.getfield 12, 3) := by decide +kernel
theorem dX11_blow_23 : decode cX11_blow 23 = .ok (.iload_n 1, 1) := by decide +kernel
theorem dX11_blow_24 : decode cX11_blow 24 = .ok (.iconst 0, 1) := by decide +kernel
theorem dX11_blow_25 : decode cX11_blow 25 = .ok (.invokevirtual 269, 3) := by decide +kernel
theorem dX11_blow_28 : decode cX11_blow 28 = .ok (.iload_n 2, 1) := by decide +kernel
theorem dX11_blow_29 : decode cX11_blow 29 = .ok (.ireturn, 1) := by decide +kernel
theorem dX11_song_0 : decode cX11_song 0 = .ok (.iload_n 1, 1) := by decide +kernel
theorem dX11_song_1 : decode cX11_song 1 = .ok (.invokestatic 140, 3) := by decide +kernel
theorem dX11_song_4 : decode cX11_song 4 = .ok (.ifCond .ne 5, 3) := by decide +kernel
theorem dX11_song_7 : decode cX11_song 7 = .ok (.iconst (-1), 1) := by decide +kernel
theorem dX11_song_8 : decode cX11_song 8 = .ok (.ireturn, 1) := by decide +kernel
theorem dX11_song_9 : decode cX11_song 9 = .ok (.aload_n 0, 1) := by decide +kernel
theorem dX11_song_10 : decode cX11_song 10 = .ok (.getfield 12, 3) := by decide +kernel
theorem dX11_song_13 : decode cX11_song 13 = .ok (.iload_n 1, 1) := by decide +kernel
theorem dX11_song_14 : decode cX11_song 14 = .ok (.invokevirtual 260, 3) := by decide +kernel
theorem dX11_song_17 : decode cX11_song 17 = .ok (.ifCond .ne 6, 3) := by decide +kernel
theorem dX11_song_20 : decode cX11_song 20 = .ok (.bipush (-5), 2) := by decide +kernel
theorem dX11_song_22 : decode cX11_song 22 = .ok (.ireturn, 1) := by decide +kernel
theorem dX11_song_23 : decode cX11_song 23 = .ok (.aload_n 0, 1) := by decide +kernel
theorem dX11_song_24 : decode cX11_song 24 = .ok (.getfield 12, 3) := by decide +kernel
theorem dX11_song_27 : decode cX11_song 27 = .ok (.iload_n 1, 1) := by decide +kernel
theorem dX11_song_28 : decode cX11_song 28 = .ok (.iconst 3, 1) := by decide +kernel
theorem dX11_song_29 : decode cX11_song 29 = .ok (.iconst 0, 1) := by decide +kernel
theorem dX11_song_30 : decode cX11_song 30 = .ok (.invokevirtual 132, 3) := by decide +kernel
theorem dX11_song_33 : decode cX11_song 33 = .ok (.aload_n 0, 1) := by decide +kernel
theorem dX11_song_34 : decode cX11_song 34 = .ok (.getfield 12, 3) := by decide +kernel
theorem dX11_song_37 : decode cX11_song 37 = .ok (.iload_n 1, 1) := by decide +kernel
theorem dX11_song_38 : decode cX11_song 38 = .ok (.iconst 0, 1) := by decide +kernel
theorem dX11_song_39 : decode cX11_song 39 = .ok (.invokevirtual 269, 3) := by decide +kernel
theorem dX11_song_42 : decode cX11_song 42 = .ok (.aload_n 0, 1) := by decide +kernel
theorem dX11_song_43 : decode cX11_song 43 = .ok (.getfield 86, 3) := by decide +kernel
theorem dX11_song_46 : decode cX11_song 46 = .ok (.iconst 2, 1) := by decide +kernel
theorem dX11_song_47 : decode cX11_song 47 = .ok (.dup2, 1) := by decide +kernel
theorem dX11_song_48 : decode cX11_song 48 = .ok (.iaload, 1) := by decide +kernel
theorem dX11_song_49 : decode cX11_song 49 = .ok (.iconst 1, 1) := by decide +kernel
theorem dX11_song_50 : decode cX11_song 50 = .ok (.iadd, 1) := by decide +kernel
theorem dX11_song_51 : decode cX11_song 51 = .ok (.iastore, 1) := by decide +kernel
theorem dX11_song_52 : decode cX11_song 52 = .ok (.iconst 1, 1) := by decide +kernel
theorem dX11_song_53 : decode cX11_song 53 = .ok (.ireturn, 1) := by decide +kernel
theorem dX11_led_0 : decode cX11_led 0 = .ok (.iload_n 1, 1) := by decide +kernel
theorem dX11_led_1 : decode cX11_led 1 = .ok (.iconst 0, 1) := by decide +kernel
theorem dX11_led_2 : decode cX11_led 2 = .ok (.iconst 4, 1) := by decide +kernel
theorem dX11_led_3 : decode cX11_led 3 = .ok (.invokestatic 101, 3) := by decide +kernel
theorem dX11_led_6 : decode cX11_led 6 = .ok (.ifCond .eq 12, 3) := by decide +kernel
theorem dX11_led_9 : decode cX11_led 9 = .ok (.aload_n 0, 1) := by decide +kernel
theorem dX11_led_10 : decode cX11_led 10 = .ok (.getfield 86, 3) := by decide +kernel
theorem dX11_led_13 : decode cX11_led 13 = .ok (.iload_n 1, 1) := by decide +kernel
theorem dX11_led_14 : decode cX11_led 14 = .ok (.iaload, 1) := by decide +kernel
theorem dX11_led_15 : decode cX11_led 15 = .ok (.goto 4, 3) := by decide +kernel
theorem dX11_led_18 : decode cX11_led 18 = .ok (.iconst (-1), 1) := by decide +kernel
theorem dX11_led_19 : decode cX11_led 19 = .ok (.ireturn, 1) := by decide +kernel
theorem dX11_image_0 : decode cX11_image 0 = .ok (.aload_n 0, 1) := by decide +kernel
theorem dX11_image_1 : decode cX11_image 1 = .ok (.getfield 16, 3) := by decide +kernel
theorem dX11_image_4 : decode cX11_image 4 = .ok (.aload_n 0, 1) := by decide +kernel
theorem dX11_image_5 : decode cX11_image 5 = .ok (.getfield 12, 3) := by decide +kernel
theorem dX11_image_8 : decode cX11_image 8 = .ok (.invokevirtual 272, 3) := by decide +kernel
theorem dX11_image_11 : decode cX11_image 11 = .ok (.aload_n 0, 1) := by decide +kernel
theorem dX11_image_12 : decode cX11_image 12 = .ok (.getfield 86, 3) := by decide +kernel
theorem dX11_image_15 : decode cX11_image 15 = .ok (.iconst 0, 1) := by decide +kernel
theorem dX11_image_16 : decode cX11_image 16 = .ok (.aload_n 0, 1) := by decide +kernel
theorem dX11_image_17 : decode cX11_image 17 = .ok (.getfield 90, 3) := by decide +kernel
theorem dX11_image_20 : decode cX11_image 20 = .ok (.iconst 0, 1) := by decide +kernel
theorem dX11_image_21 : decode cX11_image 21 = .ok (.iconst 5, 1) := by decide +kernel
theorem dX11_image_22 : decode cX11_image 22 = .ok (.invokestatic 275, 3) := by decide +kernel
theorem dX11_image_25 : decode cX11_image 25 = .ok (.aload_n 0, 1) := by decide +kernel
theorem dX11_image_26 : decode cX11_image 26 = .ok (.iconst 1, 1) := by decide +kernel
theorem dX11_image_27 : decode cX11_image 27 = .ok (.putfield 93, 3) := by decide +kernel
theorem dX11_image_30 : decode cX11_image 30 = .ok (.aload_n 0, 1) := by decide +kernel
theorem dX11_image_31 : decode cX11_image 31 = .ok (.getfield 86, 3) := by decide +kernel
theorem dX11_image_34 : decode cX11_image 34 = .ok (.iconst 0, 1) := by decide +kernel
theorem dX11_image_35 : decode cX11_image 35 = .ok (.iaload, 1) := by decide +kernel
theorem dX11_image_36 : decode cX11_image 36 = .ok (.ireturn, 1) := by decide +kernel
theorem dX11_back_0 : decode cX11_back 0 = .ok (.aload_n 0, 1) := by decide +kernel
theorem dX11_back_1 : decode cX11_back 1 = .ok (.getfield 93, 3) := by decide +kernel
theorem dX11_back_4 : decode cX11_back 4 = .ok (.ifCond .ne 6, 3) := by decide +kernel
theorem dX11_back_7 : decode cX11_back 7 = .ok (.bipush (-5), 2) := by decide +kernel
theorem dX11_back_9 : decode cX11_back 9 = .ok (.ireturn, 1) := by decide +kernel
theorem dX11_back_10 : decode cX11_back 10 = .ok (.aload_n 0, 1) := by decide +kernel
theorem dX11_back_11 : decode cX11_back 11 = .ok (.getfield 12, 3) := by decide +kernel
theorem dX11_back_14 : decode cX11_back 14 = .ok (.aload_n 0, 1) := by decide +kernel
theorem dX11_back_15 : decode cX11_back 15 = .ok (.getfield 16, 3) := by decide +kernel
theorem dX11_back_18 : decode cX11_back 18 = .ok (.invokevirtual 272, 3) := by decide +kernel
theorem dX11_back_21 : decode cX11_back 21 = .ok (.aload_n 0, 1) := by decide +kernel
theorem dX11_back_22 : decode cX11_back 22 = .ok (.getfield 90, 3) := by decide +kernel
theorem dX11_back_25 : decode cX11_back 25 = .ok (.iconst 0, 1) := by decide +kernel
theorem dX11_back_26 : decode cX11_back 26 = .ok (.aload_n 0, 1) := by decide +kernel
theorem dX11_back_27 : decode cX11_back 27 = .ok (.getfield 86, 3) := by decide +kernel
theorem dX11_back_30 : decode cX11_back 30 = .ok (.iconst 0, 1) := by decide +kernel
theorem dX11_back_31 : decode cX11_back 31 = .ok (.iconst 5, 1) := by decide +kernel
theorem dX11_back_32 : decode cX11_back 32 = .ok (.invokestatic 275, 3) := by decide +kernel
theorem dX11_back_35 : decode cX11_back 35 = .ok (.aload_n 0, 1) := by decide +kernel
theorem dX11_back_36 : decode cX11_back 36 = .ok (.getfield 86, 3) := by decide +kernel
theorem dX11_back_39 : decode cX11_back 39 = .ok (.iconst 0, 1) := by decide +kernel
theorem dX11_back_40 : decode cX11_back 40 = .ok (.iaload, 1) := by decide +kernel
theorem dX11_back_41 : decode cX11_back 41 = .ok (.ireturn, 1) := by decide +kernel
theorem dX11_undo_0 : decode cX11_undo 0 = .ok (.aload_n 0, 1) := by decide +kernel
theorem dX11_undo_1 : decode cX11_undo 1 = .ok (.getfield 68, 3) := by decide +kernel
theorem dX11_undo_4 : decode cX11_undo 4 = .ok (.invokevirtual 281, 3) := by decide +kernel
theorem dX11_undo_7 : decode cX11_undo 7 = .ok (.ireturn, 1) := by decide +kernel
theorem dX11_redo_0 : decode cX11_redo 0 = .ok (.aload_n 0, 1) := by decide +kernel
theorem dX11_redo_1 : decode cX11_redo 1 = .ok (.getfield 68, 3) := by decide +kernel
theorem dX11_redo_4 : decode cX11_redo 4 = .ok (.invokevirtual 284, 3) := by decide +kernel
theorem dX11_redo_7 : decode cX11_redo 7 = .ok (.ireturn, 1) := by decide +kernel
theorem dX11_body_0 : decode cX11_body 0 = .ok (.iload_n 1, 1) := by decide +kernel
theorem dX11_body_1 : decode cX11_body 1 = .ok (.iconst 0, 1) := by decide +kernel
theorem dX11_body_2 : decode cX11_body 2 = .ok (.bipush 7, 2) := by decide +kernel
theorem dX11_body_4 : decode cX11_body 4 = .ok (.invokestatic 101, 3) := by decide +kernel
theorem dX11_body_7 : decode cX11_body 7 = .ok (.ifCond .eq 14, 3) := by decide +kernel
theorem dX11_body_10 : decode cX11_body 10 = .ok (.aload_n 0, 1) := by decide +kernel
theorem dX11_body_11 : decode cX11_body 11 = .ok (.getfield 75, 3) := by decide +kernel
theorem dX11_body_14 : decode cX11_body 14 = .ok (.iload_n 1, 1) := by decide +kernel
theorem dX11_body_15 : decode cX11_body 15 = .ok (.invokevirtual 287, 3) := by decide +kernel
theorem dX11_body_18 : decode cX11_body 18 = .ok (.goto 4, 3) := by decide +kernel
theorem dX11_body_21 : decode cX11_body 21 = .ok (.iconst (-1), 1) := by decide +kernel
theorem dX11_body_22 : decode cX11_body 22 = .ok (.ireturn, 1) := by decide +kernel
theorem dX11_act_0 : decode cX11_act 0 = .ok (.aload_n 0, 1) := by decide +kernel
theorem dX11_act_1 : decode cX11_act 1 = .ok (.getfield 75, 3) := by decide +kernel
theorem dX11_act_4 : decode cX11_act 4 = .ok (.iload_n 1, 1) := by decide +kernel
theorem dX11_act_5 : decode cX11_act 5 = .ok (.iload_n 2, 1) := by decide +kernel
theorem dX11_act_6 : decode cX11_act 6 = .ok (.iload_n 3, 1) := by decide +kernel
theorem dX11_act_7 : decode cX11_act 7 = .ok (.invokevirtual 288, 3) := by decide +kernel
theorem dX11_act_10 : decode cX11_act 10 = .ok (.ireturn, 1) := by decide +kernel
theorem dX11_trace_0 : decode cX11_trace 0 = .ok (.aload_n 0, 1) := by decide +kernel
theorem dX11_trace_1 : decode cX11_trace 1 = .ok (.getfield 75, 3) := by decide +kernel
theorem dX11_trace_4 : decode cX11_trace 4 = .ok (.iload_n 1, 1) := by decide +kernel
theorem dX11_trace_5 : decode cX11_trace 5 = .ok (.invokevirtual 291, 3) := by decide +kernel
theorem dX11_trace_8 : decode cX11_trace 8 = .ok (.ireturn, 1) := by decide +kernel
theorem dX11_keep_0 : decode cX11_keep 0 = .ok (.iload_n 1, 1) := by decide +kernel
theorem dX11_keep_1 : decode cX11_keep 1 = .ok (.invokestatic 97, 3) := by decide +kernel
theorem dX11_keep_4 : decode cX11_keep 4 = .ok (.ifCond .eq 20, 3) := by decide +kernel
theorem dX11_keep_7 : decode cX11_keep 7 = .ok (.iload_n 2, 1) := by decide +kernel
theorem dX11_keep_8 : decode cX11_keep 8 = .ok (.iconst (-1), 1) := by decide +kernel
theorem dX11_keep_9 : decode cX11_keep 9 = .ok (.aload_n 0, 1) := by decide +kernel
theorem dX11_keep_10 : decode cX11_keep 10 = .ok (.getfield 75, 3) := by decide +kernel
theorem dX11_keep_13 : decode cX11_keep 13 = .ok (.getfield 294, 3) := by decide +kernel
theorem dX11_keep_16 : decode cX11_keep 16 = .ok (.iconst 1, 1) := by decide +kernel
theorem dX11_keep_17 : decode cX11_keep 17 = .ok (.isub, 1) := by decide +kernel
theorem dX11_keep_18 : decode cX11_keep 18 = .ok (.invokestatic 101, 3) := by decide +kernel
theorem dX11_keep_21 : decode cX11_keep 21 = .ok (.ifCond .ne 5, 3) := by decide +kernel
theorem dX11_keep_24 : decode cX11_keep 24 = .ok (.iconst (-1), 1) := by decide +kernel
theorem dX11_keep_25 : decode cX11_keep 25 = .ok (.ireturn, 1) := by decide +kernel
theorem dX11_keep_26 : decode cX11_keep 26 = .ok (.aload_n 0, 1) := by decide +kernel
theorem dX11_keep_27 : decode cX11_keep 27 = .ok (.getfield 81, 3) := by decide +kernel
theorem dX11_keep_30 : decode cX11_keep 30 = .ok (.iload_n 1, 1) := by decide +kernel
theorem dX11_keep_31 : decode cX11_keep 31 = .ok (.aaload, 1) := by decide +kernel
theorem dX11_keep_32 : decode cX11_keep 32 = .ok (.iload_n 2, 1) := by decide +kernel
theorem dX11_keep_33 : decode cX11_keep 33 = .ok (.invokevirtual 297, 3) := by decide +kernel
theorem dX11_keep_36 : decode cX11_keep 36 = .ok (.iconst 1, 1) := by decide +kernel
theorem dX11_keep_37 : decode cX11_keep 37 = .ok (.ireturn, 1) := by decide +kernel
theorem dX11_row_0 : decode cX11_row 0 = .ok (.iload_n 1, 1) := by decide +kernel
theorem dX11_row_1 : decode cX11_row 1 = .ok (.invokestatic 97, 3) := by decide +kernel
theorem dX11_row_4 : decode cX11_row 4 = .ok (.ifCond .eq 18, 3) := by decide +kernel
theorem dX11_row_7 : decode cX11_row 7 = .ok (.iload_n 2, 1) := by decide +kernel
theorem dX11_row_8 : decode cX11_row 8 = .ok (.iconst 0, 1) := by decide +kernel
theorem dX11_row_9 : decode cX11_row 9 = .ok (.iconst 4, 1) := by decide +kernel
theorem dX11_row_10 : decode cX11_row 10 = .ok (.invokestatic 101, 3) := by decide +kernel
theorem dX11_row_13 : decode cX11_row 13 = .ok (.ifCond .eq 9, 3) := by decide +kernel
theorem dX11_row_16 : decode cX11_row 16 = .ok (.iload_n 3, 1) := by decide +kernel
theorem dX11_row_17 : decode cX11_row 17 = .ok (.bipush 60, 2) := by decide +kernel
theorem dX11_row_19 : decode cX11_row 19 = .ok (.if_icmp .le 5, 3) := by decide +kernel
theorem dX11_row_22 : decode cX11_row 22 = .ok (.iconst (-1), 1) := by decide +kernel
theorem dX11_row_23 : decode cX11_row 23 = .ok (.ireturn, 1) := by decide +kernel
theorem dX11_row_24 : decode cX11_row 24 = .ok (.iload_n 3, 1) := by decide +kernel
theorem dX11_row_25 : decode cX11_row 25 = .ok (.ifCond .ge 6, 3) := by decide +kernel
theorem dX11_row_28 : decode cX11_row 28 = .ok (.bipush (-14), 2) := by decide +kernel
theorem dX11_row_30 : decode cX11_row 30 = .ok (.ireturn, 1) := by decide +kernel
theorem dX11_row_31 : decode cX11_row 31 = .ok (.aload_n 0, 1) := by decide +kernel
theorem dX11_row_32 : decode cX11_row 32 = .ok (.getfield 81, 3) := by decide +kernel
theorem dX11_row_35 : decode cX11_row 35 = .ok (.iload_n 1, 1) := by decide +kernel
theorem dX11_row_36 : decode cX11_row 36 = .ok (.aaload, 1) := by decide +kernel
theorem dX11_row_37 : decode cX11_row 37 = .ok (.iload_n 2, 1) := by decide +kernel
theorem dX11_row_38 : decode cX11_row 38 = .ok (.iload_n 3, 1) := by decide +kernel
theorem dX11_row_39 : decode cX11_row 39 = .ok (.invokevirtual 301, 3) := by decide +kernel
theorem dX11_row_42 : decode cX11_row 42 = .ok (.iconst 1, 1) := by decide +kernel
theorem dX11_row_43 : decode cX11_row 43 = .ok (.ireturn, 1) := by decide +kernel
theorem dX11_put_0 : decode cX11_put 0 = .ok (.aload_n 0, 1) := by decide +kernel
theorem dX11_put_1 : decode cX11_put 1 = .ok (.iload_n 1, 1) := by decide +kernel
theorem dX11_put_2 : decode cX11_put 2 = .ok (.iload_n 2, 1) := by decide +kernel
theorem dX11_put_3 : decode cX11_put 3 = .ok (.invokevirtual 304, 3) := by decide +kernel
theorem dX11_put_6 : decode cX11_put 6 = .ok (.istore 5, 2) := by decide +kernel
theorem dX11_put_8 : decode cX11_put 8 = .ok (.iload 5, 2) := by decide +kernel
theorem dX11_put_10 : decode cX11_put 10 = .ok (.ifCond .eq 6, 3) := by decide +kernel
theorem dX11_put_13 : decode cX11_put 13 = .ok (.iload 5, 2) := by decide +kernel
theorem dX11_put_15 : decode cX11_put 15 = .ok (.ireturn, 1) := by decide +kernel
theorem dX11_put_16 : decode cX11_put 16 = .ok (.aload_n 0, 1) := by decide +kernel
theorem dX11_put_17 : decode cX11_put 17 = .ok (.getfield 81, 3) := by decide +kernel
theorem dX11_put_20 : decode cX11_put 20 = .ok (.iload_n 1, 1) := by decide +kernel
theorem dX11_put_21 : decode cX11_put 21 = .ok (.aaload, 1) := by decide +kernel
theorem dX11_put_22 : decode cX11_put 22 = .ok (.iload_n 2, 1) := by decide +kernel
theorem dX11_put_23 : decode cX11_put 23 = .ok (.lload_n 3, 1) := by decide +kernel
theorem dX11_put_24 : decode cX11_put 24 = .ok (.invokevirtual 307, 3) := by decide +kernel
theorem dX11_put_27 : decode cX11_put 27 = .ok (.iconst 1, 1) := by decide +kernel
theorem dX11_put_28 : decode cX11_put 28 = .ok (.ireturn, 1) := by decide +kernel
theorem dX11_element_0 : decode cX11_element 0 = .ok (.aload_n 0, 1) := by decide +kernel
theorem dX11_element_1 : decode cX11_element 1 = .ok (.iload_n 1, 1) := by decide +kernel
theorem dX11_element_2 : decode cX11_element 2 = .ok (.iload_n 2, 1) := by decide +kernel
theorem dX11_element_3 : decode cX11_element 3 = .ok (.invokevirtual 304, 3) := by decide +kernel
theorem dX11_element_6 : decode cX11_element 6 = .ok (.ifCond .eq 9, 3) := by decide +kernel
theorem dX11_element_9 : decode cX11_element 9 = .ok (.ldc2_w 178, 3) := by decide +kernel
theorem dX11_element_12 : decode cX11_element 12 = .ok (.goto 13, 3) := by decide +kernel
theorem dX11_element_15 : decode cX11_element 15 = .ok (.aload_n 0, 1) := by decide +kernel
theorem dX11_element_16 : decode cX11_element 16 = .ok (.getfield 81, 3) := by decide +kernel
theorem dX11_element_19 : decode cX11_element 19 = .ok (.iload_n 1, 1) := by decide +kernel
theorem dX11_element_20 : decode cX11_element 20 = .ok (.aaload, 1) := by decide +kernel
theorem dX11_element_21 : decode cX11_element 21 = .ok (.iload_n 2, 1) := by decide +kernel
theorem dX11_element_22 : decode cX11_element 22 = .ok (.invokevirtual 311, 3) := by decide +kernel
theorem dX11_element_25 : decode cX11_element 25 = .ok (.lreturn, 1) := by decide +kernel
theorem dX11_shift_0 : decode cX11_shift 0 = .ok (.iload_n 1, 1) := by decide +kernel
theorem dX11_shift_1 : decode cX11_shift 1 = .ok (.invokestatic 97, 3) := by decide +kernel
theorem dX11_shift_4 : decode cX11_shift 4 = .ok (.ifCond .eq 10, 3) := by decide +kernel
theorem dX11_shift_7 : decode cX11_shift 7 = .ok (.iload_n 3, 1) := by decide +kernel
theorem dX11_shift_8 : decode cX11_shift 8 = .ok (.invokestatic 97, 3) := by decide +kernel
theorem dX11_shift_11 : decode cX11_shift 11 = .ok (.ifCond .ne 5, 3) := by decide +kernel
theorem dX11_shift_14 : decode cX11_shift 14 = .ok (.iconst (-1), 1) := by decide +kernel
theorem dX11_shift_15 : decode cX11_shift 15 = .ok (.ireturn, 1) := by decide +kernel
theorem dX11_shift_16 : decode cX11_shift 16 = .ok (.aload_n 0, 1) := by decide +kernel
theorem dX11_shift_17 : decode cX11_shift 17 = .ok (.getfield 81, 3) := by decide +kernel
theorem dX11_shift_20 : decode cX11_shift 20 = .ok (.iload_n 1, 1) := by decide +kernel
theorem dX11_shift_21 : decode cX11_shift 21 = .ok (.aaload, 1) := by decide +kernel
theorem dX11_shift_22 : decode cX11_shift 22 = .ok (.astore 6, 2) := by decide +kernel
theorem dX11_shift_24 : decode cX11_shift 24 = .ok (.aload_n 0, 1) := by decide +kernel
theorem dX11_shift_25 : decode cX11_shift 25 = .ok (.getfield 81, 3) := by decide +kernel
theorem dX11_shift_28 : decode cX11_shift 28 = .ok (.iload_n 3, 1) := by decide +kernel
theorem dX11_shift_29 : decode cX11_shift 29 = .ok (.aaload, 1) := by decide +kernel
theorem dX11_shift_30 : decode cX11_shift 30 = .ok (.astore 7, 2) := by decide +kernel
theorem dX11_shift_32 : decode cX11_shift 32 = .ok (.aload 6, 2) := by decide +kernel
theorem dX11_shift_34 : decode cX11_shift 34 = .ok (.invokevirtual 105, 3) := by decide +kernel
theorem dX11_shift_37 : decode cX11_shift 37 = .ok (.ifCond .ne 11, 3) := by decide +kernel
theorem dX11_shift_40 : decode cX11_shift 40 = .ok (.aload 7, 2) := by decide +kernel
theorem dX11_shift_42 : decode cX11_shift 42 = .ok (.invokevirtual 105, 3) := by decide +kernel
theorem dX11_shift_45 : decode cX11_shift 45 = .ok (.ifCond .eq 6, 3) := by decide +kernel
theorem dX11_shift_48 : decode cX11_shift 48 = .ok (.bipush (-11), 2) := by decide +kernel
theorem dX11_shift_50 : decode cX11_shift 50 = .ok (.ireturn, 1) := by decide +kernel
theorem dX11_shift_51 : decode cX11_shift 51 = .ok (.aload 6, 2) := by decide +kernel
theorem dX11_shift_53 : decode cX11_shift 53 = .ok (.invokevirtual 315, 3) := by decide +kernel
theorem dX11_shift_56 : decode cX11_shift 56 = .ok (.ifCond .eq 16, 3) := by decide +kernel
theorem dX11_shift_59 : decode cX11_shift 59 = .ok (.aload 7, 2) := by decide +kernel
theorem dX11_shift_61 : decode cX11_shift 61 = .ok (.aload 6, 2) := by decide +kernel
theorem dX11_shift_63 : decode cX11_shift 63 = .ok (.getfield 318, 3) := by decide +kernel
theorem dX11_shift_66 : decode cX11_shift 66 = .ok (.invokevirtual 109, 3) := by decide +kernel
theorem dX11_shift_69 : decode cX11_shift 69 = .ok (.ifCond .ne 6, 3) := by decide +kernel
theorem dX11_shift_72 : decode cX11_shift 72 = .ok (.bipush (-12), 2) := by decide +kernel
theorem dX11_shift_74 : decode cX11_shift 74 = .ok (.ireturn, 1) := by decide +kernel
theorem dX11_shift_75 : decode cX11_shift 75 = .ok (.aload 6, 2) := by decide +kernel
theorem dX11_shift_77 : decode cX11_shift 77 = .ok (.iload_n 2, 1) := by decide +kernel
theorem dX11_shift_78 : decode cX11_shift 78 = .ok (.iload 5, 2) := by decide +kernel
theorem dX11_shift_80 : decode cX11_shift 80 = .ok (.invokevirtual 321, 3) := by decide +kernel
theorem dX11_shift_83 : decode cX11_shift 83 = .ok (.ifCond .eq 15, 3) := by decide +kernel
theorem dX11_shift_86 : decode cX11_shift 86 = .ok (.aload 7, 2) := by decide +kernel
theorem dX11_shift_88 : decode cX11_shift 88 = .ok (.iload 4, 2) := by decide +kernel
theorem dX11_shift_90 : decode cX11_shift 90 = .ok (.iload 5, 2) := by decide +kernel
theorem dX11_shift_92 : decode cX11_shift 92 = .ok (.invokevirtual 321, 3) := by decide +kernel
theorem dX11_shift_95 : decode cX11_shift 95 = .ok (.ifCond .ne 6, 3) := by decide +kernel
theorem dX11_shift_98 : decode cX11_shift 98 = .ok (.bipush (-13), 2) := by decide +kernel
theorem dX11_shift_100 : decode cX11_shift 100 = .ok (.ireturn, 1) := by decide +kernel
theorem dX11_shift_101 : decode cX11_shift 101 = .ok (.aload 6, 2) := by decide +kernel
theorem dX11_shift_103 : decode cX11_shift 103 = .ok (.getfield 324, 3) := by decide +kernel
theorem dX11_shift_106 : decode cX11_shift 106 = .ok (.iload_n 2, 1) := by decide +kernel
theorem dX11_shift_107 : decode cX11_shift 107 = .ok (.aload 7, 2) := by decide +kernel
theorem dX11_shift_109 : decode cX11_shift 109 = .ok (.getfield 324, 3) := by decide +kernel
theorem dX11_shift_112 : decode cX11_shift 112 = .ok (.iload 4, 2) := by decide +kernel
theorem dX11_shift_114 : decode cX11_shift 114 = .ok (.iload 5, 2) := by decide +kernel
theorem dX11_shift_116 : decode cX11_shift 116 = .ok (.invokestatic 275, 3) := by decide +kernel
theorem dX11_shift_119 : decode cX11_shift 119 = .ok (.iload 5, 2) := by decide +kernel
theorem dX11_shift_121 : decode cX11_shift 121 = .ok (.ireturn, 1) := by decide +kernel
theorem dX11_taken_0 : decode cX11_taken 0 = .ok (.iload_n 1, 1) := by decide +kernel
theorem dX11_taken_1 : decode cX11_taken 1 = .ok (.invokestatic 97, 3) := by decide +kernel
theorem dX11_taken_4 : decode cX11_taken 4 = .ok (.ifCond .eq 13, 3) := by decide +kernel
theorem dX11_taken_7 : decode cX11_taken 7 = .ok (.iload_n 2, 1) := by decide +kernel
theorem dX11_taken_8 : decode cX11_taken 8 = .ok (.iconst 0, 1) := by decide +kernel
theorem dX11_taken_9 : decode cX11_taken 9 = .ok (.bipush 7, 2) := by decide +kernel
theorem dX11_taken_11 : decode cX11_taken 11 = .ok (.invokestatic 101, 3) := by decide +kernel
theorem dX11_taken_14 : decode cX11_taken 14 = .ok (.ifCond .ne 5, 3) := by decide +kernel
theorem dX11_taken_17 : decode cX11_taken 17 = .ok (.iconst (-1), 1) := by decide +kernel
theorem dX11_taken_18 : decode cX11_taken 18 = .ok (.ireturn, 1) := by decide +kernel
theorem dX11_taken_19 : decode cX11_taken 19 = .ok (.aload_n 0, 1) := by decide +kernel
theorem dX11_taken_20 : decode cX11_taken 20 = .ok (.getfield 81, 3) := by decide +kernel
theorem dX11_taken_23 : decode cX11_taken 23 = .ok (.iload_n 1, 1) := by decide +kernel
theorem dX11_taken_24 : decode cX11_taken 24 = .ok (.aaload, 1) := by decide +kernel
theorem dX11_taken_25 : decode cX11_taken 25 = .ok (.astore_n 3, 1) := by decide +kernel
theorem dX11_taken_26 : decode cX11_taken 26 = .ok (.aload_n 3, 1) := by decide +kernel
theorem dX11_taken_27 : decode cX11_taken 27 = .ok (.invokevirtual 105, 3) := by decide +kernel
theorem dX11_taken_30 : decode cX11_taken 30 = .ok (.ifCond .eq 6, 3) := by decide +kernel
theorem dX11_taken_33 : decode cX11_taken 33 = .ok (.bipush (-11), 2) := by decide +kernel
theorem dX11_taken_35 : decode cX11_taken 35 = .ok (.ireturn, 1) := by decide +kernel
theorem dX11_taken_36 : decode cX11_taken 36 = .ok (.aload_n 3, 1) := by decide +kernel
theorem dX11_taken_37 : decode cX11_taken 37 = .ok (.invokevirtual 315, 3) := by decide +kernel
theorem dX11_taken_40 : decode cX11_taken 40 = .ok (.ifCond .eq 7, 3) := by decide +kernel
theorem dX11_taken_43 : decode cX11_taken 43 = .ok (.iconst (-1), 1) := by decide +kernel
theorem dX11_taken_44 : decode cX11_taken 44 = .ok (.goto 14, 3) := by decide +kernel
theorem dX11_taken_47 : decode cX11_taken 47 = .ok (.aload_n 0, 1) := by decide +kernel
theorem dX11_taken_48 : decode cX11_taken 48 = .ok (.getfield 75, 3) := by decide +kernel
theorem dX11_taken_51 : decode cX11_taken 51 = .ok (.aload_n 3, 1) := by decide +kernel
theorem dX11_taken_52 : decode cX11_taken 52 = .ok (.getfield 328, 3) := by decide +kernel
theorem dX11_taken_55 : decode cX11_taken 55 = .ok (.invokevirtual 331, 3) := by decide +kernel
theorem dX11_taken_58 : decode cX11_taken 58 = .ok (.istore 4, 2) := by decide +kernel
theorem dX11_taken_60 : decode cX11_taken 60 = .ok (.iload 4, 2) := by decide +kernel
theorem dX11_taken_62 : decode cX11_taken 62 = .ok (.iload_n 2, 1) := by decide +kernel
theorem dX11_taken_63 : decode cX11_taken 63 = .ok (.invokestatic 334, 3) := by decide +kernel
theorem dX11_taken_66 : decode cX11_taken 66 = .ok (.ifCond .eq 8, 3) := by decide +kernel
theorem dX11_taken_69 : decode cX11_taken 69 = .ok (.iload 4, 2) := by decide +kernel
theorem dX11_taken_71 : decode cX11_taken 71 = .ok (.goto 5, 3) := by decide +kernel
theorem dX11_taken_74 : decode cX11_taken 74 = .ok (.bipush (-12), 2) := by decide +kernel
theorem dX11_taken_76 : decode cX11_taken 76 = .ok (.ireturn, 1) := by decide +kernel
theorem dX11_count_0 : decode cX11_count 0 = .ok (.iload_n 1, 1) := by decide +kernel
theorem dX11_count_1 : decode cX11_count 1 = .ok (.tableswitch 90 0 5 #[39, 50, 58, 66, 74, 82], 39) := by decide +kernel
theorem dX11_count_40 : decode cX11_count 40 = .ok (.aload_n 0, 1) := by decide +kernel
theorem dX11_count_41 : decode cX11_count 41 = .ok (.getfield 12, 3) := by decide +kernel
theorem dX11_count_44 : decode cX11_count 44 = .ok (.invokevirtual 337, 3) := by decide +kernel
theorem dX11_count_47 : decode cX11_count 47 = .ok (.invokestatic 248, 3) := by decide +kernel
theorem dX11_count_50 : decode cX11_count 50 = .ok (.ireturn, 1) := by decide +kernel
theorem dX11_count_51 : decode cX11_count 51 = .ok (.aload_n 0, 1) := by decide +kernel
theorem dX11_count_52 : decode cX11_count 52 = .ok (.getfield 12, 3) := by decide +kernel
theorem dX11_count_55 : decode cX11_count 55 = .ok (.invokevirtual 168, 3) := by decide +kernel
theorem dX11_count_58 : decode cX11_count 58 = .ok (.ireturn, 1) := by decide +kernel
theorem dX11_count_59 : decode cX11_count 59 = .ok (.aload_n 0, 1) := by decide +kernel
theorem dX11_count_60 : decode cX11_count 60 = .ok (.getfield 29, 3) := by decide +kernel
theorem dX11_count_63 : decode cX11_count 63 = .ok (.getfield 341, 3) := by decide +kernel
theorem dX11_count_66 : decode cX11_count 66 = .ok (.ireturn, 1) := by decide +kernel
theorem dX11_count_67 : decode cX11_count 67 = .ok (.aload_n 0, 1) := by decide +kernel
theorem dX11_count_68 : decode cX11_count 68 = .ok (.getfield 68, 3) := by decide +kernel
theorem dX11_count_71 : decode cX11_count 71 = .ok (.getfield 344, 3) := by decide +kernel
theorem dX11_count_74 : decode cX11_count 74 = .ok (.ireturn, 1) := by decide +kernel
theorem dX11_count_75 : decode cX11_count 75 = .ok (.aload_n 0, 1) := by decide +kernel
theorem dX11_count_76 : decode cX11_count 76 = .ok (.getfield 75, 3) := by decide +kernel
theorem dX11_count_79 : decode cX11_count 79 = .ok (.getfield 294, 3) := by decide +kernel
theorem dX11_count_82 : decode cX11_count 82 = .ok (.ireturn, 1) := by decide +kernel
theorem dX11_count_83 : decode cX11_count 83 = .ok (.aload_n 0, 1) := by decide +kernel
theorem dX11_count_84 : decode cX11_count 84 = .ok (.getfield 75, 3) := by decide +kernel
theorem dX11_count_87 : decode cX11_count 87 = .ok (.getfield 347, 3) := by decide +kernel
theorem dX11_count_90 : decode cX11_count 90 = .ok (.ireturn, 1) := by decide +kernel
theorem dX11_count_91 : decode cX11_count 91 = .ok (.iconst (-1), 1) := by decide +kernel
theorem dX11_count_92 : decode cX11_count 92 = .ok (.ireturn, 1) := by decide +kernel
theorem dX11_within_0 : decode cX11_within 0 = .ok (.iload_n 0, 1) := by decide +kernel
theorem dX11_within_1 : decode cX11_within 1 = .ok (.iload_n 1, 1) := by decide +kernel
theorem dX11_within_2 : decode cX11_within 2 = .ok (.if_icmp .lt 12, 3) := by decide +kernel
theorem dX11_within_5 : decode cX11_within 5 = .ok (.iload_n 0, 1) := by decide +kernel
theorem dX11_within_6 : decode cX11_within 6 = .ok (.iload_n 2, 1) := by decide +kernel
theorem dX11_within_7 : decode cX11_within 7 = .ok (.if_icmp .gt 7, 3) := by decide +kernel
theorem dX11_within_10 : decode cX11_within 10 = .ok (.iconst 1, 1) := by decide +kernel
theorem dX11_within_11 : decode cX11_within 11 = .ok (.goto 4, 3) := by decide +kernel
theorem dX11_within_14 : decode cX11_within 14 = .ok (.iconst 0, 1) := by decide +kernel
theorem dX11_within_15 : decode cX11_within 15 = .ok (.ireturn, 1) := by decide +kernel
theorem dX11_isRoom_0 : decode cX11_isRoom 0 = .ok (.iload_n 0, 1) := by decide +kernel
theorem dX11_isRoom_1 : decode cX11_isRoom 1 = .ok (.iconst 0, 1) := by decide +kernel
theorem dX11_isRoom_2 : decode cX11_isRoom 2 = .ok (.bipush 35, 2) := by decide +kernel
theorem dX11_isRoom_4 : decode cX11_isRoom 4 = .ok (.invokestatic 101, 3) := by decide +kernel
theorem dX11_isRoom_7 : decode cX11_isRoom 7 = .ok (.ireturn, 1) := by decide +kernel
theorem dX11_isShelf_0 : decode cX11_isShelf 0 = .ok (.iload_n 0, 1) := by decide +kernel
theorem dX11_isShelf_1 : decode cX11_isShelf 1 = .ok (.iconst 0, 1) := by decide +kernel
theorem dX11_isShelf_2 : decode cX11_isShelf 2 = .ok (.iconst 5, 1) := by decide +kernel
theorem dX11_isShelf_3 : decode cX11_isShelf 3 = .ok (.invokestatic 101, 3) := by decide +kernel
theorem dX11_isShelf_6 : decode cX11_isShelf 6 = .ok (.ireturn, 1) := by decide +kernel
theorem dX11_isNumber_0 : decode cX11_isNumber 0 = .ok (.iload_n 1, 1) := by decide +kernel
theorem dX11_isNumber_1 : decode cX11_isNumber 1 = .ok (.iconst 0, 1) := by decide +kernel
theorem dX11_isNumber_2 : decode cX11_isNumber 2 = .ok (.iconst 3, 1) := by decide +kernel
theorem dX11_isNumber_3 : decode cX11_isNumber 3 = .ok (.invokestatic 101, 3) := by decide +kernel
theorem dX11_isNumber_6 : decode cX11_isNumber 6 = .ok (.ifCond .eq 10, 3) := by decide +kernel
theorem dX11_isNumber_9 : decode cX11_isNumber 9 = .ok (.iload_n 0, 1) := by decide +kernel
theorem dX11_isNumber_10 : decode cX11_isNumber 10 = .ok (.invokestatic 140, 3) := by decide +kernel
theorem dX11_isNumber_13 : decode cX11_isNumber 13 = .ok (.goto 22, 3) := by decide +kernel
theorem dX11_isNumber_16 : decode cX11_isNumber 16 = .ok (.iload_n 1, 1) := by decide +kernel
theorem dX11_isNumber_17 : decode cX11_isNumber 17 = .ok (.iconst 4, 1) := by decide +kernel
theorem dX11_isNumber_18 : decode cX11_isNumber 18 = .ok (.bipush 6, 2) := by decide +kernel
theorem dX11_isNumber_20 : decode cX11_isNumber 20 = .ok (.invokestatic 101, 3) := by decide +kernel
theorem dX11_isNumber_23 : decode cX11_isNumber 23 = .ok (.ifCond .eq 11, 3) := by decide +kernel
theorem dX11_isNumber_26 : decode cX11_isNumber 26 = .ok (.iload_n 0, 1) := by decide +kernel
theorem dX11_isNumber_27 : decode cX11_isNumber 27 = .ok (.ifCond .ne 7, 3) := by decide +kernel
theorem dX11_isNumber_30 : decode cX11_isNumber 30 = .ok (.iconst 1, 1) := by decide +kernel
theorem dX11_isNumber_31 : decode cX11_isNumber 31 = .ok (.goto 4, 3) := by decide +kernel
theorem dX11_isNumber_34 : decode cX11_isNumber 34 = .ok (.iconst 0, 1) := by decide +kernel
theorem dX11_isNumber_35 : decode cX11_isNumber 35 = .ok (.ireturn, 1) := by decide +kernel
theorem dX11_hillRefusal_0 : decode cX11_hillRefusal 0 = .ok (.iload_n 1, 1) := by decide +kernel
theorem dX11_hillRefusal_1 : decode cX11_hillRefusal 1 = .ok (.invokestatic 97, 3) := by decide +kernel
theorem dX11_hillRefusal_4 : decode cX11_hillRefusal 4 = .ok (.ifCond .ne 5, 3) := by decide +kernel
theorem dX11_hillRefusal_7 : decode cX11_hillRefusal 7 = .ok (.iconst (-1), 1) := by decide +kernel
theorem dX11_hillRefusal_8 : decode cX11_hillRefusal 8 = .ok (.ireturn, 1) := by decide +kernel
theorem dX11_hillRefusal_9 : decode cX11_hillRefusal 9 = .ok (.aload_n 0, 1) := by decide +kernel
theorem dX11_hillRefusal_10 : decode cX11_hillRefusal 10 = .ok (.getfield 81, 3) := by decide +kernel
theorem dX11_hillRefusal_13 : decode cX11_hillRefusal 13 = .ok (.iload_n 1, 1) := by decide +kernel
theorem dX11_hillRefusal_14 : decode cX11_hillRefusal 14 = .ok (.aaload, 1) := by decide +kernel
theorem dX11_hillRefusal_15 : decode cX11_hillRefusal 15 = .ok (.invokevirtual 105, 3) := by decide +kernel
theorem dX11_hillRefusal_18 : decode cX11_hillRefusal 18 = .ok (.ifCond .eq 6, 3) := by decide +kernel
theorem dX11_hillRefusal_21 : decode cX11_hillRefusal 21 = .ok (.bipush (-11), 2) := by decide +kernel
theorem dX11_hillRefusal_23 : decode cX11_hillRefusal 23 = .ok (.ireturn, 1) := by decide +kernel
theorem dX11_hillRefusal_24 : decode cX11_hillRefusal 24 = .ok (.aload_n 0, 1) := by decide +kernel
theorem dX11_hillRefusal_25 : decode cX11_hillRefusal 25 = .ok (.getfield 81, 3) := by decide +kernel
theorem dX11_hillRefusal_28 : decode cX11_hillRefusal 28 = .ok (.iload_n 1, 1) := by decide +kernel
theorem dX11_hillRefusal_29 : decode cX11_hillRefusal 29 = .ok (.aaload, 1) := by decide +kernel
theorem dX11_hillRefusal_30 : decode cX11_hillRefusal 30 = .ok (.iconst 3, 1) := by decide +kernel
theorem dX11_hillRefusal_31 : decode cX11_hillRefusal 31 = .ok (.invokevirtual 109, 3) := by decide +kernel
theorem dX11_hillRefusal_34 : decode cX11_hillRefusal 34 = .ok (.ifCond .eq 7, 3) := by decide +kernel
theorem dX11_hillRefusal_37 : decode cX11_hillRefusal 37 = .ok (.iconst 0, 1) := by decide +kernel
theorem dX11_hillRefusal_38 : decode cX11_hillRefusal 38 = .ok (.goto 5, 3) := by decide +kernel
theorem dX11_hillRefusal_41 : decode cX11_hillRefusal 41 = .ok (.bipush (-12), 2) := by decide +kernel
theorem dX11_hillRefusal_43 : decode cX11_hillRefusal 43 = .ok (.ireturn, 1) := by decide +kernel
theorem dX11_placeRefusal_0 : decode cX11_placeRefusal 0 = .ok (.iload_n 1, 1) := by decide +kernel
theorem dX11_placeRefusal_1 : decode cX11_placeRefusal 1 = .ok (.invokestatic 97, 3) := by decide +kernel
theorem dX11_placeRefusal_4 : decode cX11_placeRefusal 4 = .ok (.ifCond .ne 5, 3) := by decide +kernel
theorem dX11_placeRefusal_7 : decode cX11_placeRefusal 7 = .ok (.iconst (-1), 1) := by decide +kernel
theorem dX11_placeRefusal_8 : decode cX11_placeRefusal 8 = .ok (.ireturn, 1) := by decide +kernel
theorem dX11_placeRefusal_9 : decode cX11_placeRefusal 9 = .ok (.aload_n 0, 1) := by decide +kernel
theorem dX11_placeRefusal_10 : decode cX11_placeRefusal 10 = .ok (.getfield 81, 3) := by decide +kernel
theorem dX11_placeRefusal_13 : decode cX11_placeRefusal 13 = .ok (.iload_n 1, 1) := by decide +kernel
theorem dX11_placeRefusal_14 : decode cX11_placeRefusal 14 = .ok (.aaload, 1) := by decide +kernel
theorem dX11_placeRefusal_15 : decode cX11_placeRefusal 15 = .ok (.invokevirtual 105, 3) := by decide +kernel
theorem dX11_placeRefusal_18 : decode cX11_placeRefusal 18 = .ok (.ifCond .eq 6, 3) := by decide +kernel
theorem dX11_placeRefusal_21 : decode cX11_placeRefusal 21 = .ok (.bipush (-11), 2) := by decide +kernel
theorem dX11_placeRefusal_23 : decode cX11_placeRefusal 23 = .ok (.ireturn, 1) := by decide +kernel
theorem dX11_placeRefusal_24 : decode cX11_placeRefusal 24 = .ok (.aload_n 0, 1) := by decide +kernel
theorem dX11_placeRefusal_25 : decode cX11_placeRefusal 25 = .ok (.getfield 81, 3) := by decide +kernel
theorem dX11_placeRefusal_28 : decode cX11_placeRefusal 28 = .ok (.iload_n 1, 1) := by decide +kernel
theorem dX11_placeRefusal_29 : decode cX11_placeRefusal 29 = .ok (.aaload, 1) := by decide +kernel
theorem dX11_placeRefusal_30 : decode cX11_placeRefusal 30 = .ok (.invokevirtual 315, 3) := by decide +kernel
theorem dX11_placeRefusal_33 : decode cX11_placeRefusal 33 = .ok (.ifCond .ne 6, 3) := by decide +kernel
theorem dX11_placeRefusal_36 : decode cX11_placeRefusal 36 = .ok (.bipush (-12), 2) := by decide +kernel
theorem dX11_placeRefusal_38 : decode cX11_placeRefusal 38 = .ok (.ireturn, 1) := by decide +kernel
theorem dX11_placeRefusal_39 : decode cX11_placeRefusal 39 = .ok (.aload_n 0, 1) := by decide +kernel
theorem dX11_placeRefusal_40 : decode cX11_placeRefusal 40 = .ok (.getfield 81, 3) := by decide +kernel
theorem dX11_placeRefusal_43 : decode cX11_placeRefusal 43 = .ok (.iload_n 1, 1) := by decide +kernel
theorem dX11_placeRefusal_44 : decode cX11_placeRefusal 44 = .ok (.aaload, 1) := by decide +kernel
theorem dX11_placeRefusal_45 : decode cX11_placeRefusal 45 = .ok (.iload_n 2, 1) := by decide +kernel
theorem dX11_placeRefusal_46 : decode cX11_placeRefusal 46 = .ok (.iconst 1, 1) := by decide +kernel
theorem dX11_placeRefusal_47 : decode cX11_placeRefusal 47 = .ok (.invokevirtual 321, 3) := by decide +kernel
theorem dX11_placeRefusal_50 : decode cX11_placeRefusal 50 = .ok (.ifCond .eq 7, 3) := by decide +kernel
theorem dX11_placeRefusal_53 : decode cX11_placeRefusal 53 = .ok (.iconst 0, 1) := by decide +kernel
theorem dX11_placeRefusal_54 : decode cX11_placeRefusal 54 = .ok (.goto 5, 3) := by decide +kernel
theorem dX11_placeRefusal_57 : decode cX11_placeRefusal 57 = .ok (.bipush (-13), 2) := by decide +kernel
theorem dX11_placeRefusal_59 : decode cX11_placeRefusal 59 = .ok (.ireturn, 1) := by decide +kernel
theorem dX11_tellThree_0 : decode cX11_tellThree 0 = .ok (.lload_n 2, 1) := by decide +kernel
theorem dX11_tellThree_1 : decode cX11_tellThree 1 = .ok (.lconst 0, 1) := by decide +kernel
theorem dX11_tellThree_2 : decode cX11_tellThree 2 = .ok (.lcmp, 1) := by decide +kernel
theorem dX11_tellThree_3 : decode cX11_tellThree 3 = .ok (.ifCond .lt 15, 3) := by decide +kernel
theorem dX11_tellThree_6 : decode cX11_tellThree 6 = .ok (.lload_n 2, 1) := by decide +kernel
theorem dX11_tellThree_7 : decode cX11_tellThree 7 = .ok (.aload_n 1, 1) := by decide +kernel
theorem dX11_tellThree_8 : decode cX11_tellThree 8 = .ok (.getfield 350, 3) := by decide +kernel
theorem dX11_tellThree_11 : decode cX11_tellThree 11 = .ok (.iconst 3, 1) := by decide +kernel
theorem dX11_tellThree_12 : decode cX11_tellThree 12 = .ok (.isub, 1) := by decide +kernel
theorem dX11_tellThree_13 : decode cX11_tellThree 13 = .ok (.i2l, 1) := by decide +kernel
theorem dX11_tellThree_14 : decode cX11_tellThree 14 = .ok (.lcmp, 1) := by decide +kernel
theorem dX11_tellThree_15 : decode cX11_tellThree 15 = .ok (.ifCond .le 5, 3) := by decide +kernel
theorem dX11_tellThree_18 : decode cX11_tellThree 18 = .ok (.iconst 0, 1) := by decide +kernel
theorem dX11_tellThree_19 : decode cX11_tellThree 19 = .ok (.ireturn, 1) := by decide +kernel
theorem dX11_tellThree_20 : decode cX11_tellThree 20 = .ok (.lload_n 2, 1) := by decide +kernel
theorem dX11_tellThree_21 : decode cX11_tellThree 21 = .ok (.l2i, 1) := by decide +kernel
theorem dX11_tellThree_22 : decode cX11_tellThree 22 = .ok (.istore 4, 2) := by decide +kernel
theorem dX11_tellThree_24 : decode cX11_tellThree 24 = .ok (.aload_n 1, 1) := by decide +kernel
theorem dX11_tellThree_25 : decode cX11_tellThree 25 = .ok (.iload 4, 2) := by decide +kernel
theorem dX11_tellThree_27 : decode cX11_tellThree 27 = .ok (.invokevirtual 311, 3) := by decide +kernel
theorem dX11_tellThree_30 : decode cX11_tellThree 30 = .ok (.l2i, 1) := by decide +kernel
theorem dX11_tellThree_31 : decode cX11_tellThree 31 = .ok (.istore 5, 2) := by decide +kernel
theorem dX11_tellThree_33 : decode cX11_tellThree 33 = .ok (.aload_n 1, 1) := by decide +kernel
theorem dX11_tellThree_34 : decode cX11_tellThree 34 = .ok (.iload 4, 2) := by decide +kernel
theorem dX11_tellThree_36 : decode cX11_tellThree 36 = .ok (.iconst 1, 1) := by decide +kernel
theorem dX11_tellThree_37 : decode cX11_tellThree 37 = .ok (.iadd, 1) := by decide +kernel
theorem dX11_tellThree_38 : decode cX11_tellThree 38 = .ok (.invokevirtual 311, 3) := by decide +kernel
theorem dX11_tellThree_41 : decode cX11_tellThree 41 = .ok (.l2i, 1) := by decide +kernel
theorem dX11_tellThree_42 : decode cX11_tellThree 42 = .ok (.istore 6, 2) := by decide +kernel
theorem dX11_tellThree_44 : decode cX11_tellThree 44 = .ok (.aload_n 1, 1) := by decide +kernel
theorem dX11_tellThree_45 : decode cX11_tellThree 45 = .ok (.iload 4, 2) := by decide +kernel
theorem dX11_tellThree_47 : decode cX11_tellThree 47 = .ok (.iconst 2, 1) := by decide +kernel
theorem dX11_tellThree_48 : decode cX11_tellThree 48 = .ok (.iadd, 1) := by decide +kernel
theorem dX11_tellThree_49 : decode cX11_tellThree 49 = .ok (.invokevirtual 311, 3) := by decide +kernel
theorem dX11_tellThree_52 : decode cX11_tellThree 52 = .ok (.l2i, 1) := by decide +kernel
theorem dX11_tellThree_53 : decode cX11_tellThree 53 = .ok (.istore 7, 2) := by decide +kernel
theorem dX11_tellThree_55 : decode cX11_tellThree 55 = .ok (.iload 5, 2) := by decide +kernel
theorem dX11_tellThree_57 : decode cX11_tellThree 57 = .ok (.invokestatic 140, 3) := by decide +kernel
theorem dX11_tellThree_60 : decode cX11_tellThree 60 = .ok (.ifCond .eq 28, 3) := by decide +kernel
theorem dX11_tellThree_63 : decode cX11_tellThree 63 = .ok (.iload 6, 2) := by decide +kernel
theorem dX11_tellThree_65 : decode cX11_tellThree 65 = .ok (.iconst 0, 1) := by decide +kernel
theorem dX11_tellThree_66 : decode cX11_tellThree 66 = .ok (.bipush 99, 2) := by decide +kernel
theorem dX11_tellThree_68 : decode cX11_tellThree 68 = .ok (.invokestatic 101, 3) := by decide +kernel
theorem dX11_tellThree_71 : decode cX11_tellThree 71 = .ok (.ifCond .eq 17, 3) := by decide +kernel
theorem dX11_tellThree_74 : decode cX11_tellThree 74 = .ok (.iload 7, 2) := by decide +kernel
theorem dX11_tellThree_76 : decode cX11_tellThree 76 = .ok (.iconst 0, 1) := by decide +kernel
theorem dX11_tellThree_77 : decode cX11_tellThree 77 = .ok (.getstatic 125, 3) := by decide +kernel
theorem dX11_tellThree_80 : decode cX11_tellThree 80 = .ok (.iconst 1, 1) := by decide +kernel
theorem dX11_tellThree_81 : decode cX11_tellThree 81 = .ok (.iaload, 1) := by decide +kernel
theorem dX11_tellThree_82 : decode cX11_tellThree 82 = .ok (.invokestatic 101, 3) := by decide +kernel
theorem dX11_tellThree_85 : decode cX11_tellThree 85 = .ok (.ifCond .ne 5, 3) := by decide +kernel
theorem dX11_tellThree_88 : decode cX11_tellThree 88 = .ok (.iconst 0, 1) := by decide +kernel
theorem dX11_tellThree_89 : decode cX11_tellThree 89 = .ok (.ireturn, 1) := by decide +kernel
theorem dX11_tellThree_90 : decode cX11_tellThree 90 = .ok (.aload_n 0, 1) := by decide +kernel
theorem dX11_tellThree_91 : decode cX11_tellThree 91 = .ok (.getfield 12, 3) := by decide +kernel
theorem dX11_tellThree_94 : decode cX11_tellThree 94 = .ok (.iload 5, 2) := by decide +kernel
theorem dX11_tellThree_96 : decode cX11_tellThree 96 = .ok (.iload 6, 2) := by decide +kernel
theorem dX11_tellThree_98 : decode cX11_tellThree 98 = .ok (.invokevirtual 269, 3) := by decide +kernel
theorem dX11_tellThree_101 : decode cX11_tellThree 101 = .ok (.aload_n 0, 1) := by decide +kernel
theorem dX11_tellThree_102 : decode cX11_tellThree 102 = .ok (.getfield 12, 3) := by decide +kernel
theorem dX11_tellThree_105 : decode cX11_tellThree 105 = .ok (.getfield 351, 3) := by decide +kernel
theorem dX11_tellThree_108 : decode cX11_tellThree 108 = .ok (.iload 5, 2) := by decide +kernel
theorem dX11_tellThree_110 : decode cX11_tellThree 110 = .ok (.iload 7, 2) := by decide +kernel
theorem dX11_tellThree_112 : decode cX11_tellThree 112 = .ok (.iastore, 1) := by decide +kernel
theorem dX11_tellThree_113 : decode cX11_tellThree 113 = .ok (.iconst 1, 1) := by decide +kernel
theorem dX11_tellThree_114 : decode cX11_tellThree 114 = .ok (.ireturn, 1) := by decide +kernel
