theorem dd_Mo_init_0 : decode bb_Mo_init 0 = .ok (.aload_n 0, 1) := by decide +kernel
theorem dd_Mo_init_1 : decode bb_Mo_init 1 = .ok (.invokespecial 1, 3) := by decide +kernel
theorem dd_Mo_init_4 : decode bb_Mo_init 4 = .ok (.aload_n 0, 1) := by decide +kernel
theorem dd_Mo_init_5 : decode bb_Mo_init 5 = .ok (.bipush 66, 2) := by decide +kernel
theorem dd_Mo_init_7 : decode bb_Mo_init 7 = .ok (.newarray .int, 2) := by decide +kernel
theorem dd_Mo_init_9 : decode bb_Mo_init 9 = .ok (.putfield 7, 3) := by decide +kernel
theorem dd_Mo_init_12 : decode bb_Mo_init 12 = .ok (.aload_n 0, 1) := by decide +kernel
theorem dd_Mo_init_13 : decode bb_Mo_init 13 = .ok (.bipush 18, 2) := by decide +kernel
theorem dd_Mo_init_15 : decode bb_Mo_init 15 = .ok (.newarray .long, 2) := by decide +kernel
theorem dd_Mo_init_17 : decode bb_Mo_init 17 = .ok (.putfield 13, 3) := by decide +kernel
theorem dd_Mo_init_20 : decode bb_Mo_init 20 = .ok (.aload_n 0, 1) := by decide +kernel
theorem dd_Mo_init_21 : decode bb_Mo_init 21 = .ok (.bipush 33, 2) := by decide +kernel
theorem dd_Mo_init_23 : decode bb_Mo_init 23 = .ok (.newarray .boolean, 2) := by decide +kernel
theorem dd_Mo_init_25 : decode bb_Mo_init 25 = .ok (.putfield 17, 3) := by decide +kernel
theorem dd_Mo_init_28 : decode bb_Mo_init 28 = .ok (.aload_n 0, 1) := by decide +kernel
theorem dd_Mo_init_29 : decode bb_Mo_init 29 = .ok (.bipush 33, 2) := by decide +kernel
theorem dd_Mo_init_31 : decode bb_Mo_init 31 = .ok (.newarray .long, 2) := by decide +kernel
theorem dd_Mo_init_33 : decode bb_Mo_init 33 = .ok (.putfield 21, 3) := by decide +kernel
theorem dd_Mo_init_36 : decode bb_Mo_init 36 = .ok (.aload_n 0, 1) := by decide +kernel
theorem dd_Mo_init_37 : decode bb_Mo_init 37 = .ok (.bipush 12, 2) := by decide +kernel
theorem dd_Mo_init_39 : decode bb_Mo_init 39 = .ok (.newarray .boolean, 2) := by decide +kernel
theorem dd_Mo_init_41 : decode bb_Mo_init 41 = .ok (.putfield 24, 3) := by decide +kernel
theorem dd_Mo_init_44 : decode bb_Mo_init 44 = .ok (.aload_n 0, 1) := by decide +kernel
theorem dd_Mo_init_45 : decode bb_Mo_init 45 = .ok (.bipush 11, 2) := by decide +kernel
theorem dd_Mo_init_47 : decode bb_Mo_init 47 = .ok (.newarray .int, 2) := by decide +kernel
theorem dd_Mo_init_49 : decode bb_Mo_init 49 = .ok (.putfield 27, 3) := by decide +kernel
theorem dd_Mo_init_52 : decode bb_Mo_init 52 = .ok (.aload_n 0, 1) := by decide +kernel
theorem dd_Mo_init_53 : decode bb_Mo_init 53 = .ok (.bipush 36, 2) := by decide +kernel
theorem dd_Mo_init_55 : decode bb_Mo_init 55 = .ok (.newarray .int, 2) := by decide +kernel
theorem dd_Mo_init_57 : decode bb_Mo_init 57 = .ok (.putfield 30, 3) := by decide +kernel
theorem dd_Mo_init_60 : decode bb_Mo_init 60 = .ok (.aload_n 0, 1) := by decide +kernel
theorem dd_Mo_init_61 : decode bb_Mo_init 61 = .ok (.bipush 6, 2) := by decide +kernel
theorem dd_Mo_init_63 : decode bb_Mo_init 63 = .ok (.newarray .int, 2) := by decide +kernel
theorem dd_Mo_init_65 : decode bb_Mo_init 65 = .ok (.putfield 33, 3) := by decide +kernel
theorem dd_Mo_init_68 : decode bb_Mo_init 68 = .ok (.aload_n 0, 1) := by decide +kernel
theorem dd_Mo_init_69 : decode bb_Mo_init 69 = .ok (.bipush 6, 2) := by decide +kernel
theorem dd_Mo_init_71 : decode bb_Mo_init 71 = .ok (.newarray .int, 2) := by decide +kernel
theorem dd_Mo_init_73 : decode bb_Mo_init 73 = .ok (.putfield 36, 3) := by decide +kernel
theorem dd_Mo_init_76 : decode bb_Mo_init 76 = .ok (.aload_n 0, 1) := by decide +kernel
theorem dd_Mo_init_77 : decode bb_Mo_init 77 = .ok (.iload_n 1, 1) := by decide +kernel
theorem dd_Mo_init_78 : decode bb_Mo_init 78 = .ok (.iconst 1, 1) := by decide +kernel
theorem dd_Mo_init_79 : decode bb_Mo_init 79 = .ok (.if_icmp .eq 8, 3) := by decide +kernel
theorem dd_Mo_init_82 : decode bb_Mo_init 82 = .ok (.iload_n 1, 1) := by decide +kernel
theorem dd_Mo_init_83 : decode bb_Mo_init 83 = .ok (.iconst 2, 1) := by decide +kernel
theorem dd_Mo_init_84 : decode bb_Mo_init 84 = .ok (.if_icmp .ne 7, 3) := by decide +kernel
theorem dd_Mo_init_87 : decode bb_Mo_init 87 = .ok (.iload_n 1, 1) := by decide +kernel
theorem dd_Mo_init_88 : decode bb_Mo_init 88 = .ok (.goto 4, 3) := by decide +kernel
theorem dd_Mo_init_91 : decode bb_Mo_init 91 = .ok (.iconst 0, 1) := by decide +kernel
theorem dd_Mo_init_92 : decode bb_Mo_init 92 = .ok (.putfield 39, 3) := by decide +kernel
theorem dd_Mo_init_95 : decode bb_Mo_init 95 = .ok (.aload_n 0, 1) := by decide +kernel
theorem dd_Mo_init_96 : decode bb_Mo_init 96 = .ok (.aload_n 0, 1) := by decide +kernel
theorem dd_Mo_init_97 : decode bb_Mo_init 97 = .ok (.getfield 39, 3) := by decide +kernel
theorem dd_Mo_init_100 : decode bb_Mo_init 100 = .ok (.iconst 2, 1) := by decide +kernel
theorem dd_Mo_init_101 : decode bb_Mo_init 101 = .ok (.if_icmp .ne 8, 3) := by decide +kernel
theorem dd_Mo_init_104 : decode bb_Mo_init 104 = .ok (.bipush 11, 2) := by decide +kernel
theorem dd_Mo_init_106 : decode bb_Mo_init 106 = .ok (.goto 5, 3) := by decide +kernel
theorem dd_Mo_init_109 : decode bb_Mo_init 109 = .ok (.bipush 10, 2) := by decide +kernel
theorem dd_Mo_init_111 : decode bb_Mo_init 111 = .ok (.putfield 43, 3) := by decide +kernel
theorem dd_Mo_init_114 : decode bb_Mo_init 114 = .ok (.iconst 0, 1) := by decide +kernel
theorem dd_Mo_init_115 : decode bb_Mo_init 115 = .ok (.istore_n 2, 1) := by decide +kernel
theorem dd_Mo_init_116 : decode bb_Mo_init 116 = .ok (.iload_n 2, 1) := by decide +kernel
theorem dd_Mo_init_117 : decode bb_Mo_init 117 = .ok (.bipush 6, 2) := by decide +kernel
theorem dd_Mo_init_119 : decode bb_Mo_init 119 = .ok (.if_icmp .ge 53, 3) := by decide +kernel
theorem dd_Mo_init_122 : decode bb_Mo_init 122 = .ok (.aload_n 0, 1) := by decide +kernel
theorem dd_Mo_init_123 : decode bb_Mo_init 123 = .ok (.getfield 7, 3) := by decide +kernel
theorem dd_Mo_init_126 : decode bb_Mo_init 126 = .ok (.bipush 7, 2) := by decide +kernel
theorem dd_Mo_init_128 : decode bb_Mo_init 128 = .ok (.iload_n 2, 1) := by decide +kernel
theorem dd_Mo_init_129 : decode bb_Mo_init 129 = .ok (.imul, 1) := by decide +kernel
theorem dd_Mo_init_130 : decode bb_Mo_init 130 = .ok (.iconst 1, 1) := by decide +kernel
theorem dd_Mo_init_131 : decode bb_Mo_init 131 = .ok (.iastore, 1) := by decide +kernel
theorem dd_Mo_init_132 : decode bb_Mo_init 132 = .ok (.bipush 6, 2) := by decide +kernel
theorem dd_Mo_init_134 : decode bb_Mo_init 134 = .ok (.istore_n 3, 1) := by decide +kernel
theorem dd_Mo_init_135 : decode bb_Mo_init 135 = .ok (.iload_n 3, 1) := by decide +kernel
theorem dd_Mo_init_136 : decode bb_Mo_init 136 = .ok (.aload_n 0, 1) := by decide +kernel
theorem dd_Mo_init_137 : decode bb_Mo_init 137 = .ok (.getfield 43, 3) := by decide +kernel
theorem dd_Mo_init_140 : decode bb_Mo_init 140 = .ok (.if_icmp .ge 26, 3) := by decide +kernel
theorem dd_Mo_init_143 : decode bb_Mo_init 143 = .ok (.aload_n 0, 1) := by decide +kernel
theorem dd_Mo_init_144 : decode bb_Mo_init 144 = .ok (.getfield 7, 3) := by decide +kernel
theorem dd_Mo_init_147 : decode bb_Mo_init 147 = .ok (.bipush 6, 2) := by decide +kernel
theorem dd_Mo_init_149 : decode bb_Mo_init 149 = .ok (.iload_n 3, 1) := by decide +kernel
theorem dd_Mo_init_150 : decode bb_Mo_init 150 = .ok (.imul, 1) := by decide +kernel
theorem dd_Mo_init_151 : decode bb_Mo_init 151 = .ok (.iload_n 2, 1) := by decide +kernel
theorem dd_Mo_init_152 : decode bb_Mo_init 152 = .ok (.iadd, 1) := by decide +kernel
theorem dd_Mo_init_153 : decode bb_Mo_init 153 = .ok (.aload_n 0, 1) := by decide +kernel
theorem dd_Mo_init_154 : decode bb_Mo_init 154 = .ok (.iload_n 3, 1) := by decide +kernel
theorem dd_Mo_init_155 : decode bb_Mo_init 155 = .ok (.iload_n 2, 1) := by decide +kernel
theorem dd_Mo_init_156 : decode bb_Mo_init 156 = .ok (.invokevirtual 46, 3) := by decide +kernel
theorem dd_Mo_init_159 : decode bb_Mo_init 159 = .ok (.iastore, 1) := by decide +kernel
theorem dd_Mo_init_160 : decode bb_Mo_init 160 = .ok (.iinc 3 1, 3) := by decide +kernel
theorem dd_Mo_init_163 : decode bb_Mo_init 163 = .ok (.goto (-28), 3) := by decide +kernel
theorem dd_Mo_init_166 : decode bb_Mo_init 166 = .ok (.iinc 2 1, 3) := by decide +kernel
theorem dd_Mo_init_169 : decode bb_Mo_init 169 = .ok (.goto (-53), 3) := by decide +kernel
theorem dd_Mo_init_172 : decode bb_Mo_init 172 = .ok (.iconst 0, 1) := by decide +kernel
theorem dd_Mo_init_173 : decode bb_Mo_init 173 = .ok (.istore_n 2, 1) := by decide +kernel
theorem dd_Mo_init_174 : decode bb_Mo_init 174 = .ok (.iload_n 2, 1) := by decide +kernel
theorem dd_Mo_init_175 : decode bb_Mo_init 175 = .ok (.bipush 33, 2) := by decide +kernel
theorem dd_Mo_init_177 : decode bb_Mo_init 177 = .ok (.if_icmp .ge 16, 3) := by decide +kernel
theorem dd_Mo_init_180 : decode bb_Mo_init 180 = .ok (.aload_n 0, 1) := by decide +kernel
theorem dd_Mo_init_181 : decode bb_Mo_init 181 = .ok (.getfield 17, 3) := by decide +kernel
theorem dd_Mo_init_184 : decode bb_Mo_init 184 = .ok (.iload_n 2, 1) := by decide +kernel
theorem dd_Mo_init_185 : decode bb_Mo_init 185 = .ok (.iconst 1, 1) := by decide +kernel
theorem dd_Mo_init_186 : decode bb_Mo_init 186 = .ok (.bastore, 1) := by decide +kernel
theorem dd_Mo_init_187 : decode bb_Mo_init 187 = .ok (.iinc 2 1, 3) := by decide +kernel
theorem dd_Mo_init_190 : decode bb_Mo_init 190 = .ok (.goto (-16), 3) := by decide +kernel
theorem dd_Mo_init_193 : decode bb_Mo_init 193 = .ok (.return_, 1) := by decide +kernel
theorem dd_Mo_product_0 : decode bb_Mo_product 0 = .ok (.iconst 0, 1) := by decide +kernel
theorem dd_Mo_product_1 : decode bb_Mo_product 1 = .ok (.istore_n 3, 1) := by decide +kernel
theorem dd_Mo_product_2 : decode bb_Mo_product 2 = .ok (.bipush 7, 2) := by decide +kernel
theorem dd_Mo_product_4 : decode bb_Mo_product 4 = .ok (.istore 4, 2) := by decide +kernel
theorem dd_Mo_product_6 : decode bb_Mo_product 6 = .ok (.iload 4, 2) := by decide +kernel
theorem dd_Mo_product_8 : decode bb_Mo_product 8 = .ok (.ifCond .lt 48, 3) := by decide +kernel
theorem dd_Mo_product_11 : decode bb_Mo_product 11 = .ok (.iload_n 3, 1) := by decide +kernel
theorem dd_Mo_product_12 : decode bb_Mo_product 12 = .ok (.iconst 1, 1) := by decide +kernel
theorem dd_Mo_product_13 : decode bb_Mo_product 13 = .ok (.ishl, 1) := by decide +kernel
theorem dd_Mo_product_14 : decode bb_Mo_product 14 = .ok (.istore_n 3, 1) := by decide +kernel
theorem dd_Mo_product_15 : decode bb_Mo_product 15 = .ok (.iload_n 3, 1) := by decide +kernel
theorem dd_Mo_product_16 : decode bb_Mo_product 16 = .ok (.sipush 255, 3) := by decide +kernel
theorem dd_Mo_product_19 : decode bb_Mo_product 19 = .ok (.if_icmp .le 11, 3) := by decide +kernel
theorem dd_Mo_product_22 : decode bb_Mo_product 22 = .ok (.iload_n 3, 1) := by decide +kernel
theorem dd_Mo_product_23 : decode bb_Mo_product 23 = .ok (.sipush 285, 3) := by decide +kernel
theorem dd_Mo_product_26 : decode bb_Mo_product 26 = .ok (.ixor, 1) := by decide +kernel
theorem dd_Mo_product_27 : decode bb_Mo_product 27 = .ok (.goto 4, 3) := by decide +kernel
theorem dd_Mo_product_30 : decode bb_Mo_product 30 = .ok (.iload_n 3, 1) := by decide +kernel
theorem dd_Mo_product_31 : decode bb_Mo_product 31 = .ok (.istore_n 3, 1) := by decide +kernel
theorem dd_Mo_product_32 : decode bb_Mo_product 32 = .ok (.iload_n 2, 1) := by decide +kernel
theorem dd_Mo_product_33 : decode bb_Mo_product 33 = .ok (.iload 4, 2) := by decide +kernel
theorem dd_Mo_product_35 : decode bb_Mo_product 35 = .ok (.ishr, 1) := by decide +kernel
theorem dd_Mo_product_36 : decode bb_Mo_product 36 = .ok (.iconst 1, 1) := by decide +kernel
theorem dd_Mo_product_37 : decode bb_Mo_product 37 = .ok (.iand, 1) := by decide +kernel
theorem dd_Mo_product_38 : decode bb_Mo_product 38 = .ok (.iconst 1, 1) := by decide +kernel
theorem dd_Mo_product_39 : decode bb_Mo_product 39 = .ok (.if_icmp .ne 9, 3) := by decide +kernel
theorem dd_Mo_product_42 : decode bb_Mo_product 42 = .ok (.iload_n 3, 1) := by decide +kernel
theorem dd_Mo_product_43 : decode bb_Mo_product 43 = .ok (.iload_n 1, 1) := by decide +kernel
theorem dd_Mo_product_44 : decode bb_Mo_product 44 = .ok (.ixor, 1) := by decide +kernel
theorem dd_Mo_product_45 : decode bb_Mo_product 45 = .ok (.goto 4, 3) := by decide +kernel
theorem dd_Mo_product_48 : decode bb_Mo_product 48 = .ok (.iload_n 3, 1) := by decide +kernel
theorem dd_Mo_product_49 : decode bb_Mo_product 49 = .ok (.istore_n 3, 1) := by decide +kernel
theorem dd_Mo_product_50 : decode bb_Mo_product 50 = .ok (.iinc 4 (-1), 3) := by decide +kernel
theorem dd_Mo_product_53 : decode bb_Mo_product 53 = .ok (.goto (-47), 3) := by decide +kernel
theorem dd_Mo_product_56 : decode bb_Mo_product 56 = .ok (.iload_n 3, 1) := by decide +kernel
theorem dd_Mo_product_57 : decode bb_Mo_product 57 = .ok (.ireturn, 1) := by decide +kernel
theorem dd_Mo_inverse_0 : decode bb_Mo_inverse 0 = .ok (.iconst 0, 1) := by decide +kernel
theorem dd_Mo_inverse_1 : decode bb_Mo_inverse 1 = .ok (.istore_n 2, 1) := by decide +kernel
theorem dd_Mo_inverse_2 : decode bb_Mo_inverse 2 = .ok (.iconst 1, 1) := by decide +kernel
theorem dd_Mo_inverse_3 : decode bb_Mo_inverse 3 = .ok (.istore_n 3, 1) := by decide +kernel
theorem dd_Mo_inverse_4 : decode bb_Mo_inverse 4 = .ok (.iload_n 3, 1) := by decide +kernel
theorem dd_Mo_inverse_5 : decode bb_Mo_inverse 5 = .ok (.sipush 256, 3) := by decide +kernel
theorem dd_Mo_inverse_8 : decode bb_Mo_inverse 8 = .ok (.if_icmp .ge 25, 3) := by decide +kernel
theorem dd_Mo_inverse_11 : decode bb_Mo_inverse 11 = .ok (.aload_n 0, 1) := by decide +kernel
theorem dd_Mo_inverse_12 : decode bb_Mo_inverse 12 = .ok (.iload_n 1, 1) := by decide +kernel
theorem dd_Mo_inverse_13 : decode bb_Mo_inverse 13 = .ok (.iload_n 3, 1) := by decide +kernel
theorem dd_Mo_inverse_14 : decode bb_Mo_inverse 14 = .ok (.invokevirtual 50, 3) := by decide +kernel
theorem dd_Mo_inverse_17 : decode bb_Mo_inverse 17 = .ok (.iconst 1, 1) := by decide +kernel
theorem dd_Mo_inverse_18 : decode bb_Mo_inverse 18 = .ok (.if_icmp .ne 7, 3) := by decide +kernel
theorem dd_Mo_inverse_21 : decode bb_Mo_inverse 21 = .ok (.iload_n 3, 1) := by decide +kernel
theorem dd_Mo_inverse_22 : decode bb_Mo_inverse 22 = .ok (.goto 4, 3) := by decide +kernel
theorem dd_Mo_inverse_25 : decode bb_Mo_inverse 25 = .ok (.iload_n 2, 1) := by decide +kernel
theorem dd_Mo_inverse_26 : decode bb_Mo_inverse 26 = .ok (.istore_n 2, 1) := by decide +kernel
theorem dd_Mo_inverse_27 : decode bb_Mo_inverse 27 = .ok (.iinc 3 1, 3) := by decide +kernel
theorem dd_Mo_inverse_30 : decode bb_Mo_inverse 30 = .ok (.goto (-26), 3) := by decide +kernel
theorem dd_Mo_inverse_33 : decode bb_Mo_inverse 33 = .ok (.iload_n 2, 1) := by decide +kernel
theorem dd_Mo_inverse_34 : decode bb_Mo_inverse 34 = .ok (.ireturn, 1) := by decide +kernel
theorem dd_Mo_coefficient_0 : decode bb_Mo_coefficient 0 = .ok (.aload_n 0, 1) := by decide +kernel
theorem dd_Mo_coefficient_1 : decode bb_Mo_coefficient 1 = .ok (.getfield 39, 3) := by decide +kernel
theorem dd_Mo_coefficient_4 : decode bb_Mo_coefficient 4 = .ok (.ifCond .ne 13, 3) := by decide +kernel
theorem dd_Mo_coefficient_7 : decode bb_Mo_coefficient 7 = .ok (.aload_n 0, 1) := by decide +kernel
theorem dd_Mo_coefficient_8 : decode bb_Mo_coefficient 8 = .ok (.iload_n 1, 1) := by decide +kernel
theorem dd_Mo_coefficient_9 : decode bb_Mo_coefficient 9 = .ok (.iconst 2, 1) := by decide +kernel
theorem dd_Mo_coefficient_10 : decode bb_Mo_coefficient 10 = .ok (.iadd, 1) := by decide +kernel
theorem dd_Mo_coefficient_11 : decode bb_Mo_coefficient 11 = .ok (.iload_n 2, 1) := by decide +kernel
theorem dd_Mo_coefficient_12 : decode bb_Mo_coefficient 12 = .ok (.ixor, 1) := by decide +kernel
theorem dd_Mo_coefficient_13 : decode bb_Mo_coefficient 13 = .ok (.invokevirtual 53, 3) := by decide +kernel
theorem dd_Mo_coefficient_16 : decode bb_Mo_coefficient 16 = .ok (.ireturn, 1) := by decide +kernel
theorem dd_Mo_coefficient_17 : decode bb_Mo_coefficient 17 = .ok (.iload_n 1, 1) := by decide +kernel
theorem dd_Mo_coefficient_18 : decode bb_Mo_coefficient 18 = .ok (.bipush 8, 2) := by decide +kernel
theorem dd_Mo_coefficient_20 : decode bb_Mo_coefficient 20 = .ok (.if_icmp .ge 19, 3) := by decide +kernel
theorem dd_Mo_coefficient_23 : decode bb_Mo_coefficient 23 = .ok (.iload_n 2, 1) := by decide +kernel
theorem dd_Mo_coefficient_24 : decode bb_Mo_coefficient 24 = .ok (.iconst 3, 1) := by decide +kernel
theorem dd_Mo_coefficient_25 : decode bb_Mo_coefficient 25 = .ok (.idiv, 1) := by decide +kernel
theorem dd_Mo_coefficient_26 : decode bb_Mo_coefficient 26 = .ok (.iload_n 1, 1) := by decide +kernel
theorem dd_Mo_coefficient_27 : decode bb_Mo_coefficient 27 = .ok (.bipush 6, 2) := by decide +kernel
theorem dd_Mo_coefficient_29 : decode bb_Mo_coefficient 29 = .ok (.isub, 1) := by decide +kernel
theorem dd_Mo_coefficient_30 : decode bb_Mo_coefficient 30 = .ok (.if_icmp .ne 7, 3) := by decide +kernel
theorem dd_Mo_coefficient_33 : decode bb_Mo_coefficient 33 = .ok (.iconst 1, 1) := by decide +kernel
theorem dd_Mo_coefficient_34 : decode bb_Mo_coefficient 34 = .ok (.goto 4, 3) := by decide +kernel
theorem dd_Mo_coefficient_37 : decode bb_Mo_coefficient 37 = .ok (.iconst 0, 1) := by decide +kernel
theorem dd_Mo_coefficient_38 : decode bb_Mo_coefficient 38 = .ok (.ireturn, 1) := by decide +kernel
theorem dd_Mo_coefficient_39 : decode bb_Mo_coefficient 39 = .ok (.iload_n 1, 1) := by decide +kernel
theorem dd_Mo_coefficient_40 : decode bb_Mo_coefficient 40 = .ok (.bipush 10, 2) := by decide +kernel
theorem dd_Mo_coefficient_42 : decode bb_Mo_coefficient 42 = .ok (.if_icmp .ne 21, 3) := by decide +kernel
theorem dd_Mo_coefficient_45 : decode bb_Mo_coefficient 45 = .ok (.aload_n 0, 1) := by decide +kernel
theorem dd_Mo_coefficient_46 : decode bb_Mo_coefficient 46 = .ok (.bipush 8, 2) := by decide +kernel
theorem dd_Mo_coefficient_48 : decode bb_Mo_coefficient 48 = .ok (.iload_n 2, 1) := by decide +kernel
theorem dd_Mo_coefficient_49 : decode bb_Mo_coefficient 49 = .ok (.ixor, 1) := by decide +kernel
theorem dd_Mo_coefficient_50 : decode bb_Mo_coefficient 50 = .ok (.invokevirtual 53, 3) := by decide +kernel
theorem dd_Mo_coefficient_53 : decode bb_Mo_coefficient 53 = .ok (.aload_n 0, 1) := by decide +kernel
theorem dd_Mo_coefficient_54 : decode bb_Mo_coefficient 54 = .ok (.bipush 9, 2) := by decide +kernel
theorem dd_Mo_coefficient_56 : decode bb_Mo_coefficient 56 = .ok (.iload_n 2, 1) := by decide +kernel
theorem dd_Mo_coefficient_57 : decode bb_Mo_coefficient 57 = .ok (.ixor, 1) := by decide +kernel
theorem dd_Mo_coefficient_58 : decode bb_Mo_coefficient 58 = .ok (.invokevirtual 53, 3) := by decide +kernel
theorem dd_Mo_coefficient_61 : decode bb_Mo_coefficient 61 = .ok (.ixor, 1) := by decide +kernel
theorem dd_Mo_coefficient_62 : decode bb_Mo_coefficient 62 = .ok (.ireturn, 1) := by decide +kernel
theorem dd_Mo_coefficient_63 : decode bb_Mo_coefficient 63 = .ok (.aload_n 0, 1) := by decide +kernel
theorem dd_Mo_coefficient_64 : decode bb_Mo_coefficient 64 = .ok (.iload_n 1, 1) := by decide +kernel
theorem dd_Mo_coefficient_65 : decode bb_Mo_coefficient 65 = .ok (.iload_n 2, 1) := by decide +kernel
theorem dd_Mo_coefficient_66 : decode bb_Mo_coefficient 66 = .ok (.ixor, 1) := by decide +kernel
theorem dd_Mo_coefficient_67 : decode bb_Mo_coefficient 67 = .ok (.invokevirtual 53, 3) := by decide +kernel
theorem dd_Mo_coefficient_70 : decode bb_Mo_coefficient 70 = .ok (.ireturn, 1) := by decide +kernel
theorem dd_Mo_byteOf_0 : decode bb_Mo_byteOf 0 = .ok (.lload_n 1, 1) := by decide +kernel
theorem dd_Mo_byteOf_1 : decode bb_Mo_byteOf 1 = .ok (.bipush 8, 2) := by decide +kernel
theorem dd_Mo_byteOf_3 : decode bb_Mo_byteOf 3 = .ok (.iload_n 3, 1) := by decide +kernel
theorem dd_Mo_byteOf_4 : decode bb_Mo_byteOf 4 = .ok (.imul, 1) := by decide +kernel
theorem dd_Mo_byteOf_5 : decode bb_Mo_byteOf 5 = .ok (.lushr, 1) := by decide +kernel
theorem dd_Mo_byteOf_6 : decode bb_Mo_byteOf 6 = .ok (.ldc2_w 57, 3) := by decide +kernel
theorem dd_Mo_byteOf_9 : decode bb_Mo_byteOf 9 = .ok (.land, 1) := by decide +kernel
theorem dd_Mo_byteOf_10 : decode bb_Mo_byteOf 10 = .ok (.l2i, 1) := by decide +kernel
theorem dd_Mo_byteOf_11 : decode bb_Mo_byteOf 11 = .ok (.ireturn, 1) := by decide +kernel
theorem dd_Mo_value_0 : decode bb_Mo_value 0 = .ok (.lconst 0, 1) := by decide +kernel
theorem dd_Mo_value_1 : decode bb_Mo_value 1 = .ok (.lstore_n 3, 1) := by decide +kernel
theorem dd_Mo_value_2 : decode bb_Mo_value 2 = .ok (.iconst 0, 1) := by decide +kernel
theorem dd_Mo_value_3 : decode bb_Mo_value 3 = .ok (.istore 5, 2) := by decide +kernel
theorem dd_Mo_value_5 : decode bb_Mo_value 5 = .ok (.iload 5, 2) := by decide +kernel
theorem dd_Mo_value_7 : decode bb_Mo_value 7 = .ok (.bipush 8, 2) := by decide +kernel
theorem dd_Mo_value_9 : decode bb_Mo_value 9 = .ok (.if_icmp .ge 83, 3) := by decide +kernel
theorem dd_Mo_value_12 : decode bb_Mo_value 12 = .ok (.iconst 0, 1) := by decide +kernel
theorem dd_Mo_value_13 : decode bb_Mo_value 13 = .ok (.istore 6, 2) := by decide +kernel
theorem dd_Mo_value_15 : decode bb_Mo_value 15 = .ok (.iconst 0, 1) := by decide +kernel
theorem dd_Mo_value_16 : decode bb_Mo_value 16 = .ok (.istore 7, 2) := by decide +kernel
theorem dd_Mo_value_18 : decode bb_Mo_value 18 = .ok (.iload 7, 2) := by decide +kernel
theorem dd_Mo_value_20 : decode bb_Mo_value 20 = .ok (.bipush 6, 2) := by decide +kernel
theorem dd_Mo_value_22 : decode bb_Mo_value 22 = .ok (.if_icmp .ge 52, 3) := by decide +kernel
theorem dd_Mo_value_25 : decode bb_Mo_value 25 = .ok (.aload_n 0, 1) := by decide +kernel
theorem dd_Mo_value_26 : decode bb_Mo_value 26 = .ok (.aload_n 0, 1) := by decide +kernel
theorem dd_Mo_value_27 : decode bb_Mo_value 27 = .ok (.getfield 13, 3) := by decide +kernel
theorem dd_Mo_value_30 : decode bb_Mo_value 30 = .ok (.bipush 6, 2) := by decide +kernel
theorem dd_Mo_value_32 : decode bb_Mo_value 32 = .ok (.iload_n 1, 1) := by decide +kernel
theorem dd_Mo_value_33 : decode bb_Mo_value 33 = .ok (.imul, 1) := by decide +kernel
theorem dd_Mo_value_34 : decode bb_Mo_value 34 = .ok (.iload 7, 2) := by decide +kernel
theorem dd_Mo_value_36 : decode bb_Mo_value 36 = .ok (.iadd, 1) := by decide +kernel
theorem dd_Mo_value_37 : decode bb_Mo_value 37 = .ok (.laload, 1) := by decide +kernel
theorem dd_Mo_value_38 : decode bb_Mo_value 38 = .ok (.iload 5, 2) := by decide +kernel
theorem dd_Mo_value_40 : decode bb_Mo_value 40 = .ok (.invokevirtual 59, 3) := by decide +kernel
theorem dd_Mo_value_43 : decode bb_Mo_value 43 = .ok (.istore 8, 2) := by decide +kernel
theorem dd_Mo_value_45 : decode bb_Mo_value 45 = .ok (.iload 6, 2) := by decide +kernel
theorem dd_Mo_value_47 : decode bb_Mo_value 47 = .ok (.aload_n 0, 1) := by decide +kernel
theorem dd_Mo_value_48 : decode bb_Mo_value 48 = .ok (.aload_n 0, 1) := by decide +kernel
theorem dd_Mo_value_49 : decode bb_Mo_value 49 = .ok (.getfield 7, 3) := by decide +kernel
theorem dd_Mo_value_52 : decode bb_Mo_value 52 = .ok (.bipush 6, 2) := by decide +kernel
theorem dd_Mo_value_54 : decode bb_Mo_value 54 = .ok (.iload_n 2, 1) := by decide +kernel
theorem dd_Mo_value_55 : decode bb_Mo_value 55 = .ok (.imul, 1) := by decide +kernel
theorem dd_Mo_value_56 : decode bb_Mo_value 56 = .ok (.iload 7, 2) := by decide +kernel
theorem dd_Mo_value_58 : decode bb_Mo_value 58 = .ok (.iadd, 1) := by decide +kernel
theorem dd_Mo_value_59 : decode bb_Mo_value 59 = .ok (.iaload, 1) := by decide +kernel
theorem dd_Mo_value_60 : decode bb_Mo_value 60 = .ok (.iload 8, 2) := by decide +kernel
theorem dd_Mo_value_62 : decode bb_Mo_value 62 = .ok (.invokevirtual 50, 3) := by decide +kernel
theorem dd_Mo_value_65 : decode bb_Mo_value 65 = .ok (.ixor, 1) := by decide +kernel
theorem dd_Mo_value_66 : decode bb_Mo_value 66 = .ok (.istore 6, 2) := by decide +kernel
theorem dd_Mo_value_68 : decode bb_Mo_value 68 = .ok (.iinc 7 1, 3) := by decide +kernel
theorem dd_Mo_value_71 : decode bb_Mo_value 71 = .ok (.goto (-53), 3) := by decide +kernel
theorem dd_Mo_value_74 : decode bb_Mo_value 74 = .ok (.lload_n 3, 1) := by decide +kernel
theorem dd_Mo_value_75 : decode bb_Mo_value 75 = .ok (.iload 6, 2) := by decide +kernel
theorem dd_Mo_value_77 : decode bb_Mo_value 77 = .ok (.i2l, 1) := by decide +kernel
theorem dd_Mo_value_78 : decode bb_Mo_value 78 = .ok (.bipush 8, 2) := by decide +kernel
theorem dd_Mo_value_80 : decode bb_Mo_value 80 = .ok (.iload 5, 2) := by decide +kernel
theorem dd_Mo_value_82 : decode bb_Mo_value 82 = .ok (.imul, 1) := by decide +kernel
theorem dd_Mo_value_83 : decode bb_Mo_value 83 = .ok (.lshl, 1) := by decide +kernel
theorem dd_Mo_value_84 : decode bb_Mo_value 84 = .ok (.lor, 1) := by decide +kernel
theorem dd_Mo_value_85 : decode bb_Mo_value 85 = .ok (.lstore_n 3, 1) := by decide +kernel
theorem dd_Mo_value_86 : decode bb_Mo_value 86 = .ok (.iinc 5 1, 3) := by decide +kernel
theorem dd_Mo_value_89 : decode bb_Mo_value 89 = .ok (.goto (-84), 3) := by decide +kernel
theorem dd_Mo_value_92 : decode bb_Mo_value 92 = .ok (.lload_n 3, 1) := by decide +kernel
theorem dd_Mo_value_93 : decode bb_Mo_value 93 = .ok (.lreturn, 1) := by decide +kernel
theorem dd_Mo_noStripe_0 : decode bb_Mo_noStripe 0 = .ok (.iload_n 1, 1) := by decide +kernel
theorem dd_Mo_noStripe_1 : decode bb_Mo_noStripe 1 = .ok (.ifCond .lt 8, 3) := by decide +kernel
theorem dd_Mo_noStripe_4 : decode bb_Mo_noStripe 4 = .ok (.iload_n 1, 1) := by decide +kernel
theorem dd_Mo_noStripe_5 : decode bb_Mo_noStripe 5 = .ok (.iconst 2, 1) := by decide +kernel
theorem dd_Mo_noStripe_6 : decode bb_Mo_noStripe 6 = .ok (.if_icmp .le 7, 3) := by decide +kernel
theorem dd_Mo_noStripe_9 : decode bb_Mo_noStripe 9 = .ok (.iconst 1, 1) := by decide +kernel
theorem dd_Mo_noStripe_10 : decode bb_Mo_noStripe 10 = .ok (.goto 4, 3) := by decide +kernel
theorem dd_Mo_noStripe_13 : decode bb_Mo_noStripe 13 = .ok (.iconst 0, 1) := by decide +kernel
theorem dd_Mo_noStripe_14 : decode bb_Mo_noStripe 14 = .ok (.ireturn, 1) := by decide +kernel
theorem dd_Mo_noShard_0 : decode bb_Mo_noShard 0 = .ok (.aload_n 0, 1) := by decide +kernel
theorem dd_Mo_noShard_1 : decode bb_Mo_noShard 1 = .ok (.iload_n 1, 1) := by decide +kernel
theorem dd_Mo_noShard_2 : decode bb_Mo_noShard 2 = .ok (.invokevirtual 63, 3) := by decide +kernel
theorem dd_Mo_noShard_5 : decode bb_Mo_noShard 5 = .ok (.ifCond .ne 15, 3) := by decide +kernel
theorem dd_Mo_noShard_8 : decode bb_Mo_noShard 8 = .ok (.iload_n 2, 1) := by decide +kernel
theorem dd_Mo_noShard_9 : decode bb_Mo_noShard 9 = .ok (.ifCond .lt 11, 3) := by decide +kernel
theorem dd_Mo_noShard_12 : decode bb_Mo_noShard 12 = .ok (.iload_n 2, 1) := by decide +kernel
theorem dd_Mo_noShard_13 : decode bb_Mo_noShard 13 = .ok (.aload_n 0, 1) := by decide +kernel
theorem dd_Mo_noShard_14 : decode bb_Mo_noShard 14 = .ok (.getfield 43, 3) := by decide +kernel
theorem dd_Mo_noShard_17 : decode bb_Mo_noShard 17 = .ok (.if_icmp .lt 7, 3) := by decide +kernel
theorem dd_Mo_noShard_20 : decode bb_Mo_noShard 20 = .ok (.iconst 1, 1) := by decide +kernel
theorem dd_Mo_noShard_21 : decode bb_Mo_noShard 21 = .ok (.goto 4, 3) := by decide +kernel
theorem dd_Mo_noShard_24 : decode bb_Mo_noShard 24 = .ok (.iconst 0, 1) := by decide +kernel
theorem dd_Mo_noShard_25 : decode bb_Mo_noShard 25 = .ok (.ireturn, 1) := by decide +kernel
theorem dd_Mo_place_0 : decode bb_Mo_place 0 = .ok (.iconst 5, 1) := by decide +kernel
theorem dd_Mo_place_1 : decode bb_Mo_place 1 = .ok (.iload_n 1, 1) := by decide +kernel
theorem dd_Mo_place_2 : decode bb_Mo_place 2 = .ok (.imul, 1) := by decide +kernel
theorem dd_Mo_place_3 : decode bb_Mo_place 3 = .ok (.iload_n 2, 1) := by decide +kernel
theorem dd_Mo_place_4 : decode bb_Mo_place 4 = .ok (.iadd, 1) := by decide +kernel
theorem dd_Mo_place_5 : decode bb_Mo_place 5 = .ok (.bipush 12, 2) := by decide +kernel
theorem dd_Mo_place_7 : decode bb_Mo_place 7 = .ok (.irem, 1) := by decide +kernel
theorem dd_Mo_place_8 : decode bb_Mo_place 8 = .ok (.ireturn, 1) := by decide +kernel
theorem dd_Mo_cell_0 : decode bb_Mo_cell 0 = .ok (.bipush 11, 2) := by decide +kernel
theorem dd_Mo_cell_2 : decode bb_Mo_cell 2 = .ok (.iload_n 1, 1) := by decide +kernel
theorem dd_Mo_cell_3 : decode bb_Mo_cell 3 = .ok (.imul, 1) := by decide +kernel
theorem dd_Mo_cell_4 : decode bb_Mo_cell 4 = .ok (.iload_n 2, 1) := by decide +kernel
theorem dd_Mo_cell_5 : decode bb_Mo_cell 5 = .ok (.iadd, 1) := by decide +kernel
theorem dd_Mo_cell_6 : decode bb_Mo_cell 6 = .ok (.ireturn, 1) := by decide +kernel
theorem dd_Mo_rejected_0 : decode bb_Mo_rejected 0 = .ok (.aload_n 0, 1) := by decide +kernel
theorem dd_Mo_rejected_1 : decode bb_Mo_rejected 1 = .ok (.dup, 1) := by decide +kernel
theorem dd_Mo_rejected_2 : decode bb_Mo_rejected 2 = .ok (.getfield 67, 3) := by decide +kernel
theorem dd_Mo_rejected_5 : decode bb_Mo_rejected 5 = .ok (.iconst 1, 1) := by decide +kernel
theorem dd_Mo_rejected_6 : decode bb_Mo_rejected 6 = .ok (.iadd, 1) := by decide +kernel
theorem dd_Mo_rejected_7 : decode bb_Mo_rejected 7 = .ok (.putfield 67, 3) := by decide +kernel
theorem dd_Mo_rejected_10 : decode bb_Mo_rejected 10 = .ok (.aload_n 0, 1) := by decide +kernel
theorem dd_Mo_rejected_11 : decode bb_Mo_rejected 11 = .ok (.iload_n 1, 1) := by decide +kernel
theorem dd_Mo_rejected_12 : decode bb_Mo_rejected 12 = .ok (.iload_n 2, 1) := by decide +kernel
theorem dd_Mo_rejected_13 : decode bb_Mo_rejected 13 = .ok (.invokevirtual 70, 3) := by decide +kernel
theorem dd_Mo_rejected_16 : decode bb_Mo_rejected 16 = .ok (.istore_n 3, 1) := by decide +kernel
theorem dd_Mo_rejected_17 : decode bb_Mo_rejected 17 = .ok (.aload_n 0, 1) := by decide +kernel
theorem dd_Mo_rejected_18 : decode bb_Mo_rejected 18 = .ok (.getfield 21, 3) := by decide +kernel
theorem dd_Mo_rejected_21 : decode bb_Mo_rejected 21 = .ok (.iload_n 3, 1) := by decide +kernel
theorem dd_Mo_rejected_22 : decode bb_Mo_rejected 22 = .ok (.laload, 1) := by decide +kernel
theorem dd_Mo_rejected_23 : decode bb_Mo_rejected 23 = .ok (.lconst 0, 1) := by decide +kernel
theorem dd_Mo_rejected_24 : decode bb_Mo_rejected 24 = .ok (.lcmp, 1) := by decide +kernel
theorem dd_Mo_rejected_25 : decode bb_Mo_rejected 25 = .ok (.ifCond .ne 5, 3) := by decide +kernel
theorem dd_Mo_rejected_28 : decode bb_Mo_rejected 28 = .ok (.iconst 0, 1) := by decide +kernel
theorem dd_Mo_rejected_29 : decode bb_Mo_rejected 29 = .ok (.ireturn, 1) := by decide +kernel
theorem dd_Mo_rejected_30 : decode bb_Mo_rejected 30 = .ok (.aload_n 0, 1) := by decide +kernel
theorem dd_Mo_rejected_31 : decode bb_Mo_rejected 31 = .ok (.getfield 17, 3) := by decide +kernel
theorem dd_Mo_rejected_34 : decode bb_Mo_rejected 34 = .ok (.iload_n 3, 1) := by decide +kernel
theorem dd_Mo_rejected_35 : decode bb_Mo_rejected 35 = .ok (.iconst 0, 1) := by decide +kernel
theorem dd_Mo_rejected_36 : decode bb_Mo_rejected 36 = .ok (.bastore, 1) := by decide +kernel
theorem dd_Mo_rejected_37 : decode bb_Mo_rejected 37 = .ok (.aload_n 0, 1) := by decide +kernel
theorem dd_Mo_rejected_38 : decode bb_Mo_rejected 38 = .ok (.getfield 21, 3) := by decide +kernel
theorem dd_Mo_rejected_41 : decode bb_Mo_rejected 41 = .ok (.iload_n 3, 1) := by decide +kernel
theorem dd_Mo_rejected_42 : decode bb_Mo_rejected 42 = .ok (.lconst 0, 1) := by decide +kernel
theorem dd_Mo_rejected_43 : decode bb_Mo_rejected 43 = .ok (.lastore, 1) := by decide +kernel
theorem dd_Mo_rejected_44 : decode bb_Mo_rejected 44 = .ok (.iconst 1, 1) := by decide +kernel
theorem dd_Mo_rejected_45 : decode bb_Mo_rejected 45 = .ok (.ireturn, 1) := by decide +kernel
theorem dd_Mo_rejectedFor_0 : decode bb_Mo_rejectedFor 0 = .ok (.aload_n 0, 1) := by decide +kernel
theorem dd_Mo_rejectedFor_1 : decode bb_Mo_rejectedFor 1 = .ok (.dup, 1) := by decide +kernel
theorem dd_Mo_rejectedFor_2 : decode bb_Mo_rejectedFor 2 = .ok (.getfield 73, 3) := by decide +kernel
theorem dd_Mo_rejectedFor_5 : decode bb_Mo_rejectedFor 5 = .ok (.aload_n 0, 1) := by decide +kernel
theorem dd_Mo_rejectedFor_6 : decode bb_Mo_rejectedFor 6 = .ok (.iload_n 1, 1) := by decide +kernel
theorem dd_Mo_rejectedFor_7 : decode bb_Mo_rejectedFor 7 = .ok (.iload_n 2, 1) := by decide +kernel
theorem dd_Mo_rejectedFor_8 : decode bb_Mo_rejectedFor 8 = .ok (.invokevirtual 76, 3) := by decide +kernel
theorem dd_Mo_rejectedFor_11 : decode bb_Mo_rejectedFor 11 = .ok (.iconst 3, 1) := by decide +kernel
theorem dd_Mo_rejectedFor_12 : decode bb_Mo_rejectedFor 12 = .ok (.idiv, 1) := by decide +kernel
theorem dd_Mo_rejectedFor_13 : decode bb_Mo_rejectedFor 13 = .ok (.aload_n 0, 1) := by decide +kernel
theorem dd_Mo_rejectedFor_14 : decode bb_Mo_rejectedFor 14 = .ok (.iload_n 1, 1) := by decide +kernel
theorem dd_Mo_rejectedFor_15 : decode bb_Mo_rejectedFor 15 = .ok (.iload_n 3, 1) := by decide +kernel
theorem dd_Mo_rejectedFor_16 : decode bb_Mo_rejectedFor 16 = .ok (.invokevirtual 76, 3) := by decide +kernel
theorem dd_Mo_rejectedFor_19 : decode bb_Mo_rejectedFor 19 = .ok (.iconst 3, 1) := by decide +kernel
theorem dd_Mo_rejectedFor_20 : decode bb_Mo_rejectedFor 20 = .ok (.idiv, 1) := by decide +kernel
theorem dd_Mo_rejectedFor_21 : decode bb_Mo_rejectedFor 21 = .ok (.if_icmp .eq 7, 3) := by decide +kernel
theorem dd_Mo_rejectedFor_24 : decode bb_Mo_rejectedFor 24 = .ok (.iconst 1, 1) := by decide +kernel
theorem dd_Mo_rejectedFor_25 : decode bb_Mo_rejectedFor 25 = .ok (.goto 4, 3) := by decide +kernel
theorem dd_Mo_rejectedFor_28 : decode bb_Mo_rejectedFor 28 = .ok (.iconst 0, 1) := by decide +kernel
theorem dd_Mo_rejectedFor_29 : decode bb_Mo_rejectedFor 29 = .ok (.iadd, 1) := by decide +kernel
theorem dd_Mo_rejectedFor_30 : decode bb_Mo_rejectedFor 30 = .ok (.putfield 73, 3) := by decide +kernel
theorem dd_Mo_rejectedFor_33 : decode bb_Mo_rejectedFor 33 = .ok (.aload_n 0, 1) := by decide +kernel
theorem dd_Mo_rejectedFor_34 : decode bb_Mo_rejectedFor 34 = .ok (.iload_n 1, 1) := by decide +kernel
theorem dd_Mo_rejectedFor_35 : decode bb_Mo_rejectedFor 35 = .ok (.iload_n 2, 1) := by decide +kernel
theorem dd_Mo_rejectedFor_36 : decode bb_Mo_rejectedFor 36 = .ok (.invokevirtual 79, 3) := by decide +kernel
theorem dd_Mo_rejectedFor_39 : decode bb_Mo_rejectedFor 39 = .ok (.ireturn, 1) := by decide +kernel
theorem dd_Mo_written_0 : decode bb_Mo_written 0 = .ok (.aload_n 0, 1) := by decide +kernel
theorem dd_Mo_written_1 : decode bb_Mo_written 1 = .ok (.dup, 1) := by decide +kernel
theorem dd_Mo_written_2 : decode bb_Mo_written 2 = .ok (.getfield 83, 3) := by decide +kernel
theorem dd_Mo_written_5 : decode bb_Mo_written 5 = .ok (.iconst 1, 1) := by decide +kernel
theorem dd_Mo_written_6 : decode bb_Mo_written 6 = .ok (.iadd, 1) := by decide +kernel
theorem dd_Mo_written_7 : decode bb_Mo_written 7 = .ok (.putfield 83, 3) := by decide +kernel
theorem dd_Mo_written_10 : decode bb_Mo_written 10 = .ok (.aload_n 0, 1) := by decide +kernel
theorem dd_Mo_written_11 : decode bb_Mo_written 11 = .ok (.getfield 17, 3) := by decide +kernel
theorem dd_Mo_written_14 : decode bb_Mo_written 14 = .ok (.aload_n 0, 1) := by decide +kernel
theorem dd_Mo_written_15 : decode bb_Mo_written 15 = .ok (.iload_n 1, 1) := by decide +kernel
theorem dd_Mo_written_16 : decode bb_Mo_written 16 = .ok (.iload_n 2, 1) := by decide +kernel
theorem dd_Mo_written_17 : decode bb_Mo_written 17 = .ok (.invokevirtual 70, 3) := by decide +kernel
theorem dd_Mo_written_20 : decode bb_Mo_written 20 = .ok (.iconst 1, 1) := by decide +kernel
theorem dd_Mo_written_21 : decode bb_Mo_written 21 = .ok (.bastore, 1) := by decide +kernel
theorem dd_Mo_written_22 : decode bb_Mo_written 22 = .ok (.aload_n 0, 1) := by decide +kernel
theorem dd_Mo_written_23 : decode bb_Mo_written 23 = .ok (.getfield 21, 3) := by decide +kernel
theorem dd_Mo_written_26 : decode bb_Mo_written 26 = .ok (.aload_n 0, 1) := by decide +kernel
theorem dd_Mo_written_27 : decode bb_Mo_written 27 = .ok (.iload_n 1, 1) := by decide +kernel
theorem dd_Mo_written_28 : decode bb_Mo_written 28 = .ok (.iload_n 2, 1) := by decide +kernel
theorem dd_Mo_written_29 : decode bb_Mo_written 29 = .ok (.invokevirtual 70, 3) := by decide +kernel
theorem dd_Mo_written_32 : decode bb_Mo_written 32 = .ok (.lconst 0, 1) := by decide +kernel
theorem dd_Mo_written_33 : decode bb_Mo_written 33 = .ok (.lastore, 1) := by decide +kernel
theorem dd_Mo_written_34 : decode bb_Mo_written 34 = .ok (.return_, 1) := by decide +kernel
theorem dd_Mo_grouped_0 : decode bb_Mo_grouped 0 = .ok (.aload_n 0, 1) := by decide +kernel
theorem dd_Mo_grouped_1 : decode bb_Mo_grouped 1 = .ok (.getfield 39, 3) := by decide +kernel
theorem dd_Mo_grouped_4 : decode bb_Mo_grouped 4 = .ok (.ifCond .eq 8, 3) := by decide +kernel
theorem dd_Mo_grouped_7 : decode bb_Mo_grouped 7 = .ok (.iload_n 1, 1) := by decide +kernel
theorem dd_Mo_grouped_8 : decode bb_Mo_grouped 8 = .ok (.iload_n 2, 1) := by decide +kernel
theorem dd_Mo_grouped_9 : decode bb_Mo_grouped 9 = .ok (.if_icmp .ne 5, 3) := by decide +kernel
theorem dd_Mo_grouped_12 : decode bb_Mo_grouped 12 = .ok (.iconst 0, 1) := by decide +kernel
theorem dd_Mo_grouped_13 : decode bb_Mo_grouped 13 = .ok (.ireturn, 1) := by decide +kernel
theorem dd_Mo_grouped_14 : decode bb_Mo_grouped 14 = .ok (.aload_n 0, 1) := by decide +kernel
theorem dd_Mo_grouped_15 : decode bb_Mo_grouped 15 = .ok (.iload_n 1, 1) := by decide +kernel
theorem dd_Mo_grouped_16 : decode bb_Mo_grouped 16 = .ok (.invokevirtual 86, 3) := by decide +kernel
theorem dd_Mo_grouped_19 : decode bb_Mo_grouped 19 = .ok (.aload_n 0, 1) := by decide +kernel
theorem dd_Mo_grouped_20 : decode bb_Mo_grouped 20 = .ok (.iload_n 2, 1) := by decide +kernel
theorem dd_Mo_grouped_21 : decode bb_Mo_grouped 21 = .ok (.invokevirtual 86, 3) := by decide +kernel
theorem dd_Mo_grouped_24 : decode bb_Mo_grouped 24 = .ok (.if_icmp .ne 15, 3) := by decide +kernel
theorem dd_Mo_grouped_27 : decode bb_Mo_grouped 27 = .ok (.aload_n 0, 1) := by decide +kernel
theorem dd_Mo_grouped_28 : decode bb_Mo_grouped 28 = .ok (.iload_n 1, 1) := by decide +kernel
theorem dd_Mo_grouped_29 : decode bb_Mo_grouped 29 = .ok (.invokevirtual 86, 3) := by decide +kernel
theorem dd_Mo_grouped_32 : decode bb_Mo_grouped 32 = .ok (.ifCond .lt 7, 3) := by decide +kernel
theorem dd_Mo_grouped_35 : decode bb_Mo_grouped 35 = .ok (.iconst 1, 1) := by decide +kernel
theorem dd_Mo_grouped_36 : decode bb_Mo_grouped 36 = .ok (.goto 4, 3) := by decide +kernel
theorem dd_Mo_grouped_39 : decode bb_Mo_grouped 39 = .ok (.iconst 0, 1) := by decide +kernel
theorem dd_Mo_grouped_40 : decode bb_Mo_grouped 40 = .ok (.ireturn, 1) := by decide +kernel
theorem dd_Mo_group_0 : decode bb_Mo_group 0 = .ok (.iload_n 1, 1) := by decide +kernel
theorem dd_Mo_group_1 : decode bb_Mo_group 1 = .ok (.bipush 6, 2) := by decide +kernel
theorem dd_Mo_group_3 : decode bb_Mo_group 3 = .ok (.if_icmp .ge 7, 3) := by decide +kernel
theorem dd_Mo_group_6 : decode bb_Mo_group 6 = .ok (.iload_n 1, 1) := by decide +kernel
theorem dd_Mo_group_7 : decode bb_Mo_group 7 = .ok (.iconst 3, 1) := by decide +kernel
theorem dd_Mo_group_8 : decode bb_Mo_group 8 = .ok (.idiv, 1) := by decide +kernel
theorem dd_Mo_group_9 : decode bb_Mo_group 9 = .ok (.ireturn, 1) := by decide +kernel
theorem dd_Mo_group_10 : decode bb_Mo_group 10 = .ok (.iload_n 1, 1) := by decide +kernel
theorem dd_Mo_group_11 : decode bb_Mo_group 11 = .ok (.bipush 8, 2) := by decide +kernel
theorem dd_Mo_group_13 : decode bb_Mo_group 13 = .ok (.if_icmp .ge 10, 3) := by decide +kernel
theorem dd_Mo_group_16 : decode bb_Mo_group 16 = .ok (.iload_n 1, 1) := by decide +kernel
theorem dd_Mo_group_17 : decode bb_Mo_group 17 = .ok (.bipush 6, 2) := by decide +kernel
theorem dd_Mo_group_19 : decode bb_Mo_group 19 = .ok (.isub, 1) := by decide +kernel
theorem dd_Mo_group_20 : decode bb_Mo_group 20 = .ok (.goto 16, 3) := by decide +kernel
theorem dd_Mo_group_23 : decode bb_Mo_group 23 = .ok (.aload_n 0, 1) := by decide +kernel
theorem dd_Mo_group_24 : decode bb_Mo_group 24 = .ok (.getfield 39, 3) := by decide +kernel
theorem dd_Mo_group_27 : decode bb_Mo_group 27 = .ok (.iconst 2, 1) := by decide +kernel
theorem dd_Mo_group_28 : decode bb_Mo_group 28 = .ok (.if_icmp .ne 7, 3) := by decide +kernel
theorem dd_Mo_group_31 : decode bb_Mo_group 31 = .ok (.iconst 2, 1) := by decide +kernel
theorem dd_Mo_group_32 : decode bb_Mo_group 32 = .ok (.goto 4, 3) := by decide +kernel
theorem dd_Mo_group_35 : decode bb_Mo_group 35 = .ok (.iconst (-1), 1) := by decide +kernel
theorem dd_Mo_group_36 : decode bb_Mo_group 36 = .ok (.ireturn, 1) := by decide +kernel
theorem dd_Mo_local_0 : decode bb_Mo_local 0 = .ok (.iconst 0, 1) := by decide +kernel
theorem dd_Mo_local_1 : decode bb_Mo_local 1 = .ok (.istore_n 3, 1) := by decide +kernel
theorem dd_Mo_local_2 : decode bb_Mo_local 2 = .ok (.iconst 1, 1) := by decide +kernel
theorem dd_Mo_local_3 : decode bb_Mo_local 3 = .ok (.istore 4, 2) := by decide +kernel
theorem dd_Mo_local_5 : decode bb_Mo_local 5 = .ok (.iconst 0, 1) := by decide +kernel
theorem dd_Mo_local_6 : decode bb_Mo_local 6 = .ok (.istore 5, 2) := by decide +kernel
theorem dd_Mo_local_8 : decode bb_Mo_local 8 = .ok (.iload 5, 2) := by decide +kernel
theorem dd_Mo_local_10 : decode bb_Mo_local 10 = .ok (.aload_n 0, 1) := by decide +kernel
theorem dd_Mo_local_11 : decode bb_Mo_local 11 = .ok (.getfield 43, 3) := by decide +kernel
theorem dd_Mo_local_14 : decode bb_Mo_local 14 = .ok (.if_icmp .ge 48, 3) := by decide +kernel
theorem dd_Mo_local_17 : decode bb_Mo_local 17 = .ok (.aload_n 0, 1) := by decide +kernel
theorem dd_Mo_local_18 : decode bb_Mo_local 18 = .ok (.iload_n 2, 1) := by decide +kernel
theorem dd_Mo_local_19 : decode bb_Mo_local 19 = .ok (.iload 5, 2) := by decide +kernel
theorem dd_Mo_local_21 : decode bb_Mo_local 21 = .ok (.invokevirtual 89, 3) := by decide +kernel
theorem dd_Mo_local_24 : decode bb_Mo_local 24 = .ok (.ifCond .eq 32, 3) := by decide +kernel
theorem dd_Mo_local_27 : decode bb_Mo_local 27 = .ok (.iconst 1, 1) := by decide +kernel
theorem dd_Mo_local_28 : decode bb_Mo_local 28 = .ok (.istore_n 3, 1) := by decide +kernel
theorem dd_Mo_local_29 : decode bb_Mo_local 29 = .ok (.iload 4, 2) := by decide +kernel
theorem dd_Mo_local_31 : decode bb_Mo_local 31 = .ok (.ifCond .eq 22, 3) := by decide +kernel
theorem dd_Mo_local_34 : decode bb_Mo_local 34 = .ok (.aload_n 0, 1) := by decide +kernel
theorem dd_Mo_local_35 : decode bb_Mo_local 35 = .ok (.getfield 17, 3) := by decide +kernel
theorem dd_Mo_local_38 : decode bb_Mo_local 38 = .ok (.aload_n 0, 1) := by decide +kernel
theorem dd_Mo_local_39 : decode bb_Mo_local 39 = .ok (.iload_n 1, 1) := by decide +kernel
theorem dd_Mo_local_40 : decode bb_Mo_local 40 = .ok (.iload 5, 2) := by decide +kernel
theorem dd_Mo_local_42 : decode bb_Mo_local 42 = .ok (.invokevirtual 70, 3) := by decide +kernel
theorem dd_Mo_local_45 : decode bb_Mo_local 45 = .ok (.baload, 1) := by decide +kernel
theorem dd_Mo_local_46 : decode bb_Mo_local 46 = .ok (.ifCond .eq 7, 3) := by decide +kernel
theorem dd_Mo_local_49 : decode bb_Mo_local 49 = .ok (.iconst 1, 1) := by decide +kernel
theorem dd_Mo_local_50 : decode bb_Mo_local 50 = .ok (.goto 4, 3) := by decide +kernel
theorem dd_Mo_local_53 : decode bb_Mo_local 53 = .ok (.iconst 0, 1) := by decide +kernel
theorem dd_Mo_local_54 : decode bb_Mo_local 54 = .ok (.istore 4, 2) := by decide +kernel
theorem dd_Mo_local_56 : decode bb_Mo_local 56 = .ok (.iinc 5 1, 3) := by decide +kernel
theorem dd_Mo_local_59 : decode bb_Mo_local 59 = .ok (.goto (-51), 3) := by decide +kernel
theorem dd_Mo_local_62 : decode bb_Mo_local 62 = .ok (.iload_n 3, 1) := by decide +kernel
theorem dd_Mo_local_63 : decode bb_Mo_local 63 = .ok (.ifCond .eq 12, 3) := by decide +kernel
theorem dd_Mo_local_66 : decode bb_Mo_local 66 = .ok (.iload 4, 2) := by decide +kernel
theorem dd_Mo_local_68 : decode bb_Mo_local 68 = .ok (.ifCond .eq 7, 3) := by decide +kernel
theorem dd_Mo_local_71 : decode bb_Mo_local 71 = .ok (.iconst 1, 1) := by decide +kernel
theorem dd_Mo_local_72 : decode bb_Mo_local 72 = .ok (.goto 4, 3) := by decide +kernel
theorem dd_Mo_local_75 : decode bb_Mo_local 75 = .ok (.iconst 0, 1) := by decide +kernel
theorem dd_Mo_local_76 : decode bb_Mo_local 76 = .ok (.ireturn, 1) := by decide +kernel
theorem dd_Mo_adds_0 : decode bb_Mo_adds 0 = .ok (.iconst 0, 1) := by decide +kernel
theorem dd_Mo_adds_1 : decode bb_Mo_adds 1 = .ok (.istore_n 2, 1) := by decide +kernel
theorem dd_Mo_adds_2 : decode bb_Mo_adds 2 = .ok (.iload_n 2, 1) := by decide +kernel
theorem dd_Mo_adds_3 : decode bb_Mo_adds 3 = .ok (.bipush 6, 2) := by decide +kernel
theorem dd_Mo_adds_5 : decode bb_Mo_adds 5 = .ok (.if_icmp .ge 26, 3) := by decide +kernel
theorem dd_Mo_adds_8 : decode bb_Mo_adds 8 = .ok (.aload_n 0, 1) := by decide +kernel
theorem dd_Mo_adds_9 : decode bb_Mo_adds 9 = .ok (.getfield 36, 3) := by decide +kernel
theorem dd_Mo_adds_12 : decode bb_Mo_adds 12 = .ok (.iload_n 2, 1) := by decide +kernel
theorem dd_Mo_adds_13 : decode bb_Mo_adds 13 = .ok (.aload_n 0, 1) := by decide +kernel
theorem dd_Mo_adds_14 : decode bb_Mo_adds 14 = .ok (.getfield 7, 3) := by decide +kernel
theorem dd_Mo_adds_17 : decode bb_Mo_adds 17 = .ok (.bipush 6, 2) := by decide +kernel
theorem dd_Mo_adds_19 : decode bb_Mo_adds 19 = .ok (.iload_n 1, 1) := by decide +kernel
theorem dd_Mo_adds_20 : decode bb_Mo_adds 20 = .ok (.imul, 1) := by decide +kernel
theorem dd_Mo_adds_21 : decode bb_Mo_adds 21 = .ok (.iload_n 2, 1) := by decide +kernel
theorem dd_Mo_adds_22 : decode bb_Mo_adds 22 = .ok (.iadd, 1) := by decide +kernel
theorem dd_Mo_adds_23 : decode bb_Mo_adds 23 = .ok (.iaload, 1) := by decide +kernel
theorem dd_Mo_adds_24 : decode bb_Mo_adds 24 = .ok (.iastore, 1) := by decide +kernel
theorem dd_Mo_adds_25 : decode bb_Mo_adds 25 = .ok (.iinc 2 1, 3) := by decide +kernel
theorem dd_Mo_adds_28 : decode bb_Mo_adds 28 = .ok (.goto (-26), 3) := by decide +kernel
theorem dd_Mo_adds_31 : decode bb_Mo_adds 31 = .ok (.iconst 0, 1) := by decide +kernel
theorem dd_Mo_adds_32 : decode bb_Mo_adds 32 = .ok (.istore_n 2, 1) := by decide +kernel
theorem dd_Mo_adds_33 : decode bb_Mo_adds 33 = .ok (.iload_n 2, 1) := by decide +kernel
theorem dd_Mo_adds_34 : decode bb_Mo_adds 34 = .ok (.aload_n 0, 1) := by decide +kernel
theorem dd_Mo_adds_35 : decode bb_Mo_adds 35 = .ok (.getfield 92, 3) := by decide +kernel
theorem dd_Mo_adds_38 : decode bb_Mo_adds 38 = .ok (.if_icmp .ge 69, 3) := by decide +kernel
theorem dd_Mo_adds_41 : decode bb_Mo_adds 41 = .ok (.aload_n 0, 1) := by decide +kernel
theorem dd_Mo_adds_42 : decode bb_Mo_adds 42 = .ok (.getfield 36, 3) := by decide +kernel
theorem dd_Mo_adds_45 : decode bb_Mo_adds 45 = .ok (.aload_n 0, 1) := by decide +kernel
theorem dd_Mo_adds_46 : decode bb_Mo_adds 46 = .ok (.getfield 33, 3) := by decide +kernel
theorem dd_Mo_adds_49 : decode bb_Mo_adds 49 = .ok (.iload_n 2, 1) := by decide +kernel
theorem dd_Mo_adds_50 : decode bb_Mo_adds 50 = .ok (.iaload, 1) := by decide +kernel
theorem dd_Mo_adds_51 : decode bb_Mo_adds 51 = .ok (.iaload, 1) := by decide +kernel
theorem dd_Mo_adds_52 : decode bb_Mo_adds 52 = .ok (.istore_n 3, 1) := by decide +kernel
theorem dd_Mo_adds_53 : decode bb_Mo_adds 53 = .ok (.iconst 0, 1) := by decide +kernel
theorem dd_Mo_adds_54 : decode bb_Mo_adds 54 = .ok (.istore 4, 2) := by decide +kernel
theorem dd_Mo_adds_56 : decode bb_Mo_adds 56 = .ok (.iload 4, 2) := by decide +kernel
theorem dd_Mo_adds_58 : decode bb_Mo_adds 58 = .ok (.bipush 6, 2) := by decide +kernel
theorem dd_Mo_adds_60 : decode bb_Mo_adds 60 = .ok (.if_icmp .ge 41, 3) := by decide +kernel
theorem dd_Mo_adds_63 : decode bb_Mo_adds 63 = .ok (.aload_n 0, 1) := by decide +kernel
theorem dd_Mo_adds_64 : decode bb_Mo_adds 64 = .ok (.getfield 36, 3) := by decide +kernel
theorem dd_Mo_adds_67 : decode bb_Mo_adds 67 = .ok (.iload 4, 2) := by decide +kernel
theorem dd_Mo_adds_69 : decode bb_Mo_adds 69 = .ok (.aload_n 0, 1) := by decide +kernel
theorem dd_Mo_adds_70 : decode bb_Mo_adds 70 = .ok (.getfield 36, 3) := by decide +kernel
theorem dd_Mo_adds_73 : decode bb_Mo_adds 73 = .ok (.iload 4, 2) := by decide +kernel
theorem dd_Mo_adds_75 : decode bb_Mo_adds 75 = .ok (.iaload, 1) := by decide +kernel
theorem dd_Mo_adds_76 : decode bb_Mo_adds 76 = .ok (.aload_n 0, 1) := by decide +kernel
theorem dd_Mo_adds_77 : decode bb_Mo_adds 77 = .ok (.iload_n 3, 1) := by decide +kernel
theorem dd_Mo_adds_78 : decode bb_Mo_adds 78 = .ok (.aload_n 0, 1) := by decide +kernel
theorem dd_Mo_adds_79 : decode bb_Mo_adds 79 = .ok (.getfield 30, 3) := by decide +kernel
theorem dd_Mo_adds_82 : decode bb_Mo_adds 82 = .ok (.bipush 6, 2) := by decide +kernel
theorem dd_Mo_adds_84 : decode bb_Mo_adds 84 = .ok (.iload_n 2, 1) := by decide +kernel
theorem dd_Mo_adds_85 : decode bb_Mo_adds 85 = .ok (.imul, 1) := by decide +kernel
theorem dd_Mo_adds_86 : decode bb_Mo_adds 86 = .ok (.iload 4, 2) := by decide +kernel
theorem dd_Mo_adds_88 : decode bb_Mo_adds 88 = .ok (.iadd, 1) := by decide +kernel
theorem dd_Mo_adds_89 : decode bb_Mo_adds 89 = .ok (.iaload, 1) := by decide +kernel
theorem dd_Mo_adds_90 : decode bb_Mo_adds 90 = .ok (.invokevirtual 50, 3) := by decide +kernel
theorem dd_Mo_adds_93 : decode bb_Mo_adds 93 = .ok (.ixor, 1) := by decide +kernel
theorem dd_Mo_adds_94 : decode bb_Mo_adds 94 = .ok (.iastore, 1) := by decide +kernel
theorem dd_Mo_adds_95 : decode bb_Mo_adds 95 = .ok (.iinc 4 1, 3) := by decide +kernel
theorem dd_Mo_adds_98 : decode bb_Mo_adds 98 = .ok (.goto (-42), 3) := by decide +kernel
theorem dd_Mo_adds_101 : decode bb_Mo_adds 101 = .ok (.iinc 2 1, 3) := by decide +kernel
theorem dd_Mo_adds_104 : decode bb_Mo_adds 104 = .ok (.goto (-71), 3) := by decide +kernel
theorem dd_Mo_adds_107 : decode bb_Mo_adds 107 = .ok (.iconst (-1), 1) := by decide +kernel
theorem dd_Mo_adds_108 : decode bb_Mo_adds 108 = .ok (.istore_n 2, 1) := by decide +kernel
theorem dd_Mo_adds_109 : decode bb_Mo_adds 109 = .ok (.iconst 5, 1) := by decide +kernel
theorem dd_Mo_adds_110 : decode bb_Mo_adds 110 = .ok (.istore_n 3, 1) := by decide +kernel
theorem dd_Mo_adds_111 : decode bb_Mo_adds 111 = .ok (.iload_n 3, 1) := by decide +kernel
theorem dd_Mo_adds_112 : decode bb_Mo_adds 112 = .ok (.ifCond .lt 24, 3) := by decide +kernel
theorem dd_Mo_adds_115 : decode bb_Mo_adds 115 = .ok (.aload_n 0, 1) := by decide +kernel
theorem dd_Mo_adds_116 : decode bb_Mo_adds 116 = .ok (.getfield 36, 3) := by decide +kernel
theorem dd_Mo_adds_119 : decode bb_Mo_adds 119 = .ok (.iload_n 3, 1) := by decide +kernel
theorem dd_Mo_adds_120 : decode bb_Mo_adds 120 = .ok (.iaload, 1) := by decide +kernel
theorem dd_Mo_adds_121 : decode bb_Mo_adds 121 = .ok (.ifCond .eq 7, 3) := by decide +kernel
theorem dd_Mo_adds_124 : decode bb_Mo_adds 124 = .ok (.iload_n 3, 1) := by decide +kernel
theorem dd_Mo_adds_125 : decode bb_Mo_adds 125 = .ok (.goto 4, 3) := by decide +kernel
theorem dd_Mo_adds_128 : decode bb_Mo_adds 128 = .ok (.iload_n 2, 1) := by decide +kernel
theorem dd_Mo_adds_129 : decode bb_Mo_adds 129 = .ok (.istore_n 2, 1) := by decide +kernel
theorem dd_Mo_adds_130 : decode bb_Mo_adds 130 = .ok (.iinc 3 (-1), 3) := by decide +kernel
theorem dd_Mo_adds_133 : decode bb_Mo_adds 133 = .ok (.goto (-22), 3) := by decide +kernel
theorem dd_Mo_adds_136 : decode bb_Mo_adds 136 = .ok (.iload_n 2, 1) := by decide +kernel
theorem dd_Mo_adds_137 : decode bb_Mo_adds 137 = .ok (.ifCond .ge 5, 3) := by decide +kernel
theorem dd_Mo_adds_140 : decode bb_Mo_adds 140 = .ok (.iconst 0, 1) := by decide +kernel
theorem dd_Mo_adds_141 : decode bb_Mo_adds 141 = .ok (.ireturn, 1) := by decide +kernel
theorem dd_Mo_adds_142 : decode bb_Mo_adds 142 = .ok (.aload_n 0, 1) := by decide +kernel
theorem dd_Mo_adds_143 : decode bb_Mo_adds 143 = .ok (.aload_n 0, 1) := by decide +kernel
theorem dd_Mo_adds_144 : decode bb_Mo_adds 144 = .ok (.getfield 36, 3) := by decide +kernel
theorem dd_Mo_adds_147 : decode bb_Mo_adds 147 = .ok (.iload_n 2, 1) := by decide +kernel
theorem dd_Mo_adds_148 : decode bb_Mo_adds 148 = .ok (.iaload, 1) := by decide +kernel
theorem dd_Mo_adds_149 : decode bb_Mo_adds 149 = .ok (.invokevirtual 53, 3) := by decide +kernel
theorem dd_Mo_adds_152 : decode bb_Mo_adds 152 = .ok (.istore_n 3, 1) := by decide +kernel
theorem dd_Mo_adds_153 : decode bb_Mo_adds 153 = .ok (.iconst 0, 1) := by decide +kernel
theorem dd_Mo_adds_154 : decode bb_Mo_adds 154 = .ok (.istore 4, 2) := by decide +kernel
theorem dd_Mo_adds_156 : decode bb_Mo_adds 156 = .ok (.iload 4, 2) := by decide +kernel
theorem dd_Mo_adds_158 : decode bb_Mo_adds 158 = .ok (.bipush 6, 2) := by decide +kernel
theorem dd_Mo_adds_160 : decode bb_Mo_adds 160 = .ok (.if_icmp .ge 36, 3) := by decide +kernel
theorem dd_Mo_adds_163 : decode bb_Mo_adds 163 = .ok (.aload_n 0, 1) := by decide +kernel
theorem dd_Mo_adds_164 : decode bb_Mo_adds 164 = .ok (.getfield 30, 3) := by decide +kernel
theorem dd_Mo_adds_167 : decode bb_Mo_adds 167 = .ok (.bipush 6, 2) := by decide +kernel
theorem dd_Mo_adds_169 : decode bb_Mo_adds 169 = .ok (.aload_n 0, 1) := by decide +kernel
theorem dd_Mo_adds_170 : decode bb_Mo_adds 170 = .ok (.getfield 92, 3) := by decide +kernel
theorem dd_Mo_adds_173 : decode bb_Mo_adds 173 = .ok (.imul, 1) := by decide +kernel
theorem dd_Mo_adds_174 : decode bb_Mo_adds 174 = .ok (.iload 4, 2) := by decide +kernel
theorem dd_Mo_adds_176 : decode bb_Mo_adds 176 = .ok (.iadd, 1) := by decide +kernel
theorem dd_Mo_adds_177 : decode bb_Mo_adds 177 = .ok (.aload_n 0, 1) := by decide +kernel
theorem dd_Mo_adds_178 : decode bb_Mo_adds 178 = .ok (.aload_n 0, 1) := by decide +kernel
theorem dd_Mo_adds_179 : decode bb_Mo_adds 179 = .ok (.getfield 36, 3) := by decide +kernel
theorem dd_Mo_adds_182 : decode bb_Mo_adds 182 = .ok (.iload 4, 2) := by decide +kernel
theorem dd_Mo_adds_184 : decode bb_Mo_adds 184 = .ok (.iaload, 1) := by decide +kernel
theorem dd_Mo_adds_185 : decode bb_Mo_adds 185 = .ok (.iload_n 3, 1) := by decide +kernel
theorem dd_Mo_adds_186 : decode bb_Mo_adds 186 = .ok (.invokevirtual 50, 3) := by decide +kernel
theorem dd_Mo_adds_189 : decode bb_Mo_adds 189 = .ok (.iastore, 1) := by decide +kernel
theorem dd_Mo_adds_190 : decode bb_Mo_adds 190 = .ok (.iinc 4 1, 3) := by decide +kernel
theorem dd_Mo_adds_193 : decode bb_Mo_adds 193 = .ok (.goto (-37), 3) := by decide +kernel
theorem dd_Mo_adds_196 : decode bb_Mo_adds 196 = .ok (.aload_n 0, 1) := by decide +kernel
theorem dd_Mo_adds_197 : decode bb_Mo_adds 197 = .ok (.getfield 33, 3) := by decide +kernel
theorem dd_Mo_adds_200 : decode bb_Mo_adds 200 = .ok (.aload_n 0, 1) := by decide +kernel
theorem dd_Mo_adds_201 : decode bb_Mo_adds 201 = .ok (.getfield 92, 3) := by decide +kernel
theorem dd_Mo_adds_204 : decode bb_Mo_adds 204 = .ok (.iload_n 2, 1) := by decide +kernel
theorem dd_Mo_adds_205 : decode bb_Mo_adds 205 = .ok (.iastore, 1) := by decide +kernel
theorem dd_Mo_adds_206 : decode bb_Mo_adds 206 = .ok (.aload_n 0, 1) := by decide +kernel
theorem dd_Mo_adds_207 : decode bb_Mo_adds 207 = .ok (.dup, 1) := by decide +kernel
theorem dd_Mo_adds_208 : decode bb_Mo_adds 208 = .ok (.getfield 92, 3) := by decide +kernel
theorem dd_Mo_adds_211 : decode bb_Mo_adds 211 = .ok (.iconst 1, 1) := by decide +kernel
theorem dd_Mo_adds_212 : decode bb_Mo_adds 212 = .ok (.iadd, 1) := by decide +kernel
theorem dd_Mo_adds_213 : decode bb_Mo_adds 213 = .ok (.putfield 92, 3) := by decide +kernel
theorem dd_Mo_adds_216 : decode bb_Mo_adds 216 = .ok (.iconst 1, 1) := by decide +kernel
theorem dd_Mo_adds_217 : decode bb_Mo_adds 217 = .ok (.ireturn, 1) := by decide +kernel
theorem dd_Mo_goOver_0 : decode bb_Mo_goOver 0 = .ok (.aload_n 0, 1) := by decide +kernel
theorem dd_Mo_goOver_1 : decode bb_Mo_goOver 1 = .ok (.iconst 0, 1) := by decide +kernel
theorem dd_Mo_goOver_2 : decode bb_Mo_goOver 2 = .ok (.putfield 92, 3) := by decide +kernel
theorem dd_Mo_goOver_5 : decode bb_Mo_goOver 5 = .ok (.aload_n 0, 1) := by decide +kernel
theorem dd_Mo_goOver_6 : decode bb_Mo_goOver 6 = .ok (.iconst 0, 1) := by decide +kernel
theorem dd_Mo_goOver_7 : decode bb_Mo_goOver 7 = .ok (.putfield 95, 3) := by decide +kernel
theorem dd_Mo_goOver_10 : decode bb_Mo_goOver 10 = .ok (.iconst 0, 1) := by decide +kernel
theorem dd_Mo_goOver_11 : decode bb_Mo_goOver 11 = .ok (.istore_n 2, 1) := by decide +kernel
theorem dd_Mo_goOver_12 : decode bb_Mo_goOver 12 = .ok (.iload_n 2, 1) := by decide +kernel
theorem dd_Mo_goOver_13 : decode bb_Mo_goOver 13 = .ok (.aload_n 0, 1) := by decide +kernel
theorem dd_Mo_goOver_14 : decode bb_Mo_goOver 14 = .ok (.getfield 43, 3) := by decide +kernel
theorem dd_Mo_goOver_17 : decode bb_Mo_goOver 17 = .ok (.if_icmp .ge 60, 3) := by decide +kernel
theorem dd_Mo_goOver_20 : decode bb_Mo_goOver 20 = .ok (.aload_n 0, 1) := by decide +kernel
theorem dd_Mo_goOver_21 : decode bb_Mo_goOver 21 = .ok (.getfield 17, 3) := by decide +kernel
theorem dd_Mo_goOver_24 : decode bb_Mo_goOver 24 = .ok (.aload_n 0, 1) := by decide +kernel
theorem dd_Mo_goOver_25 : decode bb_Mo_goOver 25 = .ok (.iload_n 1, 1) := by decide +kernel
theorem dd_Mo_goOver_26 : decode bb_Mo_goOver 26 = .ok (.iload_n 2, 1) := by decide +kernel
theorem dd_Mo_goOver_27 : decode bb_Mo_goOver 27 = .ok (.invokevirtual 70, 3) := by decide +kernel
theorem dd_Mo_goOver_30 : decode bb_Mo_goOver 30 = .ok (.baload, 1) := by decide +kernel
theorem dd_Mo_goOver_31 : decode bb_Mo_goOver 31 = .ok (.ifCond .eq 40, 3) := by decide +kernel
theorem dd_Mo_goOver_34 : decode bb_Mo_goOver 34 = .ok (.aload_n 0, 1) := by decide +kernel
theorem dd_Mo_goOver_35 : decode bb_Mo_goOver 35 = .ok (.getfield 92, 3) := by decide +kernel
theorem dd_Mo_goOver_38 : decode bb_Mo_goOver 38 = .ok (.bipush 6, 2) := by decide +kernel
theorem dd_Mo_goOver_40 : decode bb_Mo_goOver 40 = .ok (.if_icmp .ge 31, 3) := by decide +kernel
theorem dd_Mo_goOver_43 : decode bb_Mo_goOver 43 = .ok (.aload_n 0, 1) := by decide +kernel
theorem dd_Mo_goOver_44 : decode bb_Mo_goOver 44 = .ok (.iload_n 2, 1) := by decide +kernel
theorem dd_Mo_goOver_45 : decode bb_Mo_goOver 45 = .ok (.invokevirtual 98, 3) := by decide +kernel
theorem dd_Mo_goOver_48 : decode bb_Mo_goOver 48 = .ok (.ifCond .eq 23, 3) := by decide +kernel
theorem dd_Mo_goOver_51 : decode bb_Mo_goOver 51 = .ok (.aload_n 0, 1) := by decide +kernel
theorem dd_Mo_goOver_52 : decode bb_Mo_goOver 52 = .ok (.getfield 27, 3) := by decide +kernel
theorem dd_Mo_goOver_55 : decode bb_Mo_goOver 55 = .ok (.aload_n 0, 1) := by decide +kernel
theorem dd_Mo_goOver_56 : decode bb_Mo_goOver 56 = .ok (.getfield 95, 3) := by decide +kernel
theorem dd_Mo_goOver_59 : decode bb_Mo_goOver 59 = .ok (.iload_n 2, 1) := by decide +kernel
theorem dd_Mo_goOver_60 : decode bb_Mo_goOver 60 = .ok (.iastore, 1) := by decide +kernel
theorem dd_Mo_goOver_61 : decode bb_Mo_goOver 61 = .ok (.aload_n 0, 1) := by decide +kernel
theorem dd_Mo_goOver_62 : decode bb_Mo_goOver 62 = .ok (.dup, 1) := by decide +kernel
theorem dd_Mo_goOver_63 : decode bb_Mo_goOver 63 = .ok (.getfield 95, 3) := by decide +kernel
theorem dd_Mo_goOver_66 : decode bb_Mo_goOver 66 = .ok (.iconst 1, 1) := by decide +kernel
theorem dd_Mo_goOver_67 : decode bb_Mo_goOver 67 = .ok (.iadd, 1) := by decide +kernel
theorem dd_Mo_goOver_68 : decode bb_Mo_goOver 68 = .ok (.putfield 95, 3) := by decide +kernel
theorem dd_Mo_goOver_71 : decode bb_Mo_goOver 71 = .ok (.iinc 2 1, 3) := by decide +kernel
theorem dd_Mo_goOver_74 : decode bb_Mo_goOver 74 = .ok (.goto (-62), 3) := by decide +kernel
theorem dd_Mo_goOver_77 : decode bb_Mo_goOver 77 = .ok (.return_, 1) := by decide +kernel
theorem dd_Mo_choose_0 : decode bb_Mo_choose 0 = .ok (.aload_n 0, 1) := by decide +kernel
theorem dd_Mo_choose_1 : decode bb_Mo_choose 1 = .ok (.iload_n 1, 1) := by decide +kernel
theorem dd_Mo_choose_2 : decode bb_Mo_choose 2 = .ok (.iload_n 2, 1) := by decide +kernel
theorem dd_Mo_choose_3 : decode bb_Mo_choose 3 = .ok (.invokevirtual 101, 3) := by decide +kernel
theorem dd_Mo_choose_6 : decode bb_Mo_choose 6 = .ok (.ifCond .ne 23, 3) := by decide +kernel
theorem dd_Mo_choose_9 : decode bb_Mo_choose 9 = .ok (.aload_n 0, 1) := by decide +kernel
theorem dd_Mo_choose_10 : decode bb_Mo_choose 10 = .ok (.iload_n 1, 1) := by decide +kernel
theorem dd_Mo_choose_11 : decode bb_Mo_choose 11 = .ok (.invokevirtual 104, 3) := by decide +kernel
theorem dd_Mo_choose_14 : decode bb_Mo_choose 14 = .ok (.aload_n 0, 1) := by decide +kernel
theorem dd_Mo_choose_15 : decode bb_Mo_choose 15 = .ok (.getfield 92, 3) := by decide +kernel
theorem dd_Mo_choose_18 : decode bb_Mo_choose 18 = .ok (.bipush 6, 2) := by decide +kernel
theorem dd_Mo_choose_20 : decode bb_Mo_choose 20 = .ok (.if_icmp .ne 7, 3) := by decide +kernel
theorem dd_Mo_choose_23 : decode bb_Mo_choose 23 = .ok (.iconst 1, 1) := by decide +kernel
theorem dd_Mo_choose_24 : decode bb_Mo_choose 24 = .ok (.goto 4, 3) := by decide +kernel
theorem dd_Mo_choose_27 : decode bb_Mo_choose 27 = .ok (.iconst 0, 1) := by decide +kernel
theorem dd_Mo_choose_28 : decode bb_Mo_choose 28 = .ok (.ireturn, 1) := by decide +kernel
theorem dd_Mo_choose_29 : decode bb_Mo_choose 29 = .ok (.aload_n 0, 1) := by decide +kernel
theorem dd_Mo_choose_30 : decode bb_Mo_choose 30 = .ok (.iconst 0, 1) := by decide +kernel
theorem dd_Mo_choose_31 : decode bb_Mo_choose 31 = .ok (.putfield 95, 3) := by decide +kernel
theorem dd_Mo_choose_34 : decode bb_Mo_choose 34 = .ok (.iconst 0, 1) := by decide +kernel
theorem dd_Mo_choose_35 : decode bb_Mo_choose 35 = .ok (.istore_n 3, 1) := by decide +kernel
theorem dd_Mo_choose_36 : decode bb_Mo_choose 36 = .ok (.iload_n 3, 1) := by decide +kernel
theorem dd_Mo_choose_37 : decode bb_Mo_choose 37 = .ok (.aload_n 0, 1) := by decide +kernel
theorem dd_Mo_choose_38 : decode bb_Mo_choose 38 = .ok (.getfield 43, 3) := by decide +kernel
theorem dd_Mo_choose_41 : decode bb_Mo_choose 41 = .ok (.if_icmp .ge 38, 3) := by decide +kernel
theorem dd_Mo_choose_44 : decode bb_Mo_choose 44 = .ok (.aload_n 0, 1) := by decide +kernel
theorem dd_Mo_choose_45 : decode bb_Mo_choose 45 = .ok (.iload_n 2, 1) := by decide +kernel
theorem dd_Mo_choose_46 : decode bb_Mo_choose 46 = .ok (.iload_n 3, 1) := by decide +kernel
theorem dd_Mo_choose_47 : decode bb_Mo_choose 47 = .ok (.invokevirtual 89, 3) := by decide +kernel
theorem dd_Mo_choose_50 : decode bb_Mo_choose 50 = .ok (.ifCond .eq 23, 3) := by decide +kernel
theorem dd_Mo_choose_53 : decode bb_Mo_choose 53 = .ok (.aload_n 0, 1) := by decide +kernel
theorem dd_Mo_choose_54 : decode bb_Mo_choose 54 = .ok (.getfield 27, 3) := by decide +kernel
theorem dd_Mo_choose_57 : decode bb_Mo_choose 57 = .ok (.aload_n 0, 1) := by decide +kernel
theorem dd_Mo_choose_58 : decode bb_Mo_choose 58 = .ok (.getfield 95, 3) := by decide +kernel
theorem dd_Mo_choose_61 : decode bb_Mo_choose 61 = .ok (.iload_n 3, 1) := by decide +kernel
theorem dd_Mo_choose_62 : decode bb_Mo_choose 62 = .ok (.iastore, 1) := by decide +kernel
theorem dd_Mo_choose_63 : decode bb_Mo_choose 63 = .ok (.aload_n 0, 1) := by decide +kernel
theorem dd_Mo_choose_64 : decode bb_Mo_choose 64 = .ok (.dup, 1) := by decide +kernel
theorem dd_Mo_choose_65 : decode bb_Mo_choose 65 = .ok (.getfield 95, 3) := by decide +kernel
theorem dd_Mo_choose_68 : decode bb_Mo_choose 68 = .ok (.iconst 1, 1) := by decide +kernel
theorem dd_Mo_choose_69 : decode bb_Mo_choose 69 = .ok (.iadd, 1) := by decide +kernel
theorem dd_Mo_choose_70 : decode bb_Mo_choose 70 = .ok (.putfield 95, 3) := by decide +kernel
theorem dd_Mo_choose_73 : decode bb_Mo_choose 73 = .ok (.iinc 3 1, 3) := by decide +kernel
theorem dd_Mo_choose_76 : decode bb_Mo_choose 76 = .ok (.goto (-40), 3) := by decide +kernel
theorem dd_Mo_choose_79 : decode bb_Mo_choose 79 = .ok (.iconst 1, 1) := by decide +kernel
theorem dd_Mo_choose_80 : decode bb_Mo_choose 80 = .ok (.ireturn, 1) := by decide +kernel
theorem dd_Mo_follow_0 : decode bb_Mo_follow 0 = .ok (.iconst 0, 1) := by decide +kernel
theorem dd_Mo_follow_1 : decode bb_Mo_follow 1 = .ok (.istore_n 3, 1) := by decide +kernel
theorem dd_Mo_follow_2 : decode bb_Mo_follow 2 = .ok (.iconst 0, 1) := by decide +kernel
theorem dd_Mo_follow_3 : decode bb_Mo_follow 3 = .ok (.istore 4, 2) := by decide +kernel
theorem dd_Mo_follow_5 : decode bb_Mo_follow 5 = .ok (.iload 4, 2) := by decide +kernel
theorem dd_Mo_follow_7 : decode bb_Mo_follow 7 = .ok (.bipush 12, 2) := by decide +kernel
theorem dd_Mo_follow_9 : decode bb_Mo_follow 9 = .ok (.if_icmp .ge 90, 3) := by decide +kernel
theorem dd_Mo_follow_12 : decode bb_Mo_follow 12 = .ok (.aload_n 0, 1) := by decide +kernel
theorem dd_Mo_follow_13 : decode bb_Mo_follow 13 = .ok (.iload_n 1, 1) := by decide +kernel
theorem dd_Mo_follow_14 : decode bb_Mo_follow 14 = .ok (.iload_n 2, 1) := by decide +kernel
theorem dd_Mo_follow_15 : decode bb_Mo_follow 15 = .ok (.invokevirtual 108, 3) := by decide +kernel
theorem dd_Mo_follow_18 : decode bb_Mo_follow 18 = .ok (.ifCond .ne 6, 3) := by decide +kernel
theorem dd_Mo_follow_21 : decode bb_Mo_follow 21 = .ok (.bipush (-4), 2) := by decide +kernel
theorem dd_Mo_follow_23 : decode bb_Mo_follow 23 = .ok (.ireturn, 1) := by decide +kernel
theorem dd_Mo_follow_24 : decode bb_Mo_follow 24 = .ok (.iinc 3 1, 3) := by decide +kernel
theorem dd_Mo_follow_27 : decode bb_Mo_follow 27 = .ok (.aload_n 0, 1) := by decide +kernel
theorem dd_Mo_follow_28 : decode bb_Mo_follow 28 = .ok (.dup, 1) := by decide +kernel
theorem dd_Mo_follow_29 : decode bb_Mo_follow 29 = .ok (.getfield 111, 3) := by decide +kernel
theorem dd_Mo_follow_32 : decode bb_Mo_follow 32 = .ok (.iconst 1, 1) := by decide +kernel
theorem dd_Mo_follow_33 : decode bb_Mo_follow 33 = .ok (.iadd, 1) := by decide +kernel
theorem dd_Mo_follow_34 : decode bb_Mo_follow 34 = .ok (.putfield 111, 3) := by decide +kernel
theorem dd_Mo_follow_37 : decode bb_Mo_follow 37 = .ok (.iconst 1, 1) := by decide +kernel
theorem dd_Mo_follow_38 : decode bb_Mo_follow 38 = .ok (.istore 5, 2) := by decide +kernel
theorem dd_Mo_follow_40 : decode bb_Mo_follow 40 = .ok (.iconst 0, 1) := by decide +kernel
theorem dd_Mo_follow_41 : decode bb_Mo_follow 41 = .ok (.istore 6, 2) := by decide +kernel
theorem dd_Mo_follow_43 : decode bb_Mo_follow 43 = .ok (.iload 6, 2) := by decide +kernel
theorem dd_Mo_follow_45 : decode bb_Mo_follow 45 = .ok (.aload_n 0, 1) := by decide +kernel
theorem dd_Mo_follow_46 : decode bb_Mo_follow 46 = .ok (.getfield 95, 3) := by decide +kernel
theorem dd_Mo_follow_49 : decode bb_Mo_follow 49 = .ok (.if_icmp .ge 37, 3) := by decide +kernel
theorem dd_Mo_follow_52 : decode bb_Mo_follow 52 = .ok (.iload 5, 2) := by decide +kernel
theorem dd_Mo_follow_54 : decode bb_Mo_follow 54 = .ok (.ifCond .eq 32, 3) := by decide +kernel
theorem dd_Mo_follow_57 : decode bb_Mo_follow 57 = .ok (.aload_n 0, 1) := by decide +kernel
theorem dd_Mo_follow_58 : decode bb_Mo_follow 58 = .ok (.iload_n 1, 1) := by decide +kernel
theorem dd_Mo_follow_59 : decode bb_Mo_follow 59 = .ok (.aload_n 0, 1) := by decide +kernel
theorem dd_Mo_follow_60 : decode bb_Mo_follow 60 = .ok (.getfield 27, 3) := by decide +kernel
theorem dd_Mo_follow_63 : decode bb_Mo_follow 63 = .ok (.iload 6, 2) := by decide +kernel
theorem dd_Mo_follow_65 : decode bb_Mo_follow 65 = .ok (.iaload, 1) := by decide +kernel
theorem dd_Mo_follow_66 : decode bb_Mo_follow 66 = .ok (.iload_n 2, 1) := by decide +kernel
theorem dd_Mo_follow_67 : decode bb_Mo_follow 67 = .ok (.invokevirtual 114, 3) := by decide +kernel
theorem dd_Mo_follow_70 : decode bb_Mo_follow 70 = .ok (.ifCond .ne 7, 3) := by decide +kernel
theorem dd_Mo_follow_73 : decode bb_Mo_follow 73 = .ok (.iconst 1, 1) := by decide +kernel
theorem dd_Mo_follow_74 : decode bb_Mo_follow 74 = .ok (.goto 4, 3) := by decide +kernel
theorem dd_Mo_follow_77 : decode bb_Mo_follow 77 = .ok (.iconst 0, 1) := by decide +kernel
theorem dd_Mo_follow_78 : decode bb_Mo_follow 78 = .ok (.istore 5, 2) := by decide +kernel
theorem dd_Mo_follow_80 : decode bb_Mo_follow 80 = .ok (.iinc 6 1, 3) := by decide +kernel
theorem dd_Mo_follow_83 : decode bb_Mo_follow 83 = .ok (.goto (-40), 3) := by decide +kernel
theorem dd_Mo_follow_86 : decode bb_Mo_follow 86 = .ok (.iload 5, 2) := by decide +kernel
theorem dd_Mo_follow_88 : decode bb_Mo_follow 88 = .ok (.ifCond .eq 5, 3) := by decide +kernel
theorem dd_Mo_follow_91 : decode bb_Mo_follow 91 = .ok (.iload_n 3, 1) := by decide +kernel
theorem dd_Mo_follow_92 : decode bb_Mo_follow 92 = .ok (.ireturn, 1) := by decide +kernel
theorem dd_Mo_follow_93 : decode bb_Mo_follow 93 = .ok (.iinc 4 1, 3) := by decide +kernel
theorem dd_Mo_follow_96 : decode bb_Mo_follow 96 = .ok (.goto (-91), 3) := by decide +kernel
theorem dd_Mo_follow_99 : decode bb_Mo_follow 99 = .ok (.bipush (-4), 2) := by decide +kernel
theorem dd_Mo_follow_101 : decode bb_Mo_follow 101 = .ok (.ireturn, 1) := by decide +kernel
theorem dd_Mo_put_0 : decode bb_Mo_put 0 = .ok (.aload_n 0, 1) := by decide +kernel
theorem dd_Mo_put_1 : decode bb_Mo_put 1 = .ok (.iload_n 1, 1) := by decide +kernel
theorem dd_Mo_put_2 : decode bb_Mo_put 2 = .ok (.invokevirtual 63, 3) := by decide +kernel
theorem dd_Mo_put_5 : decode bb_Mo_put 5 = .ok (.ifCond .ne 12, 3) := by decide +kernel
theorem dd_Mo_put_8 : decode bb_Mo_put 8 = .ok (.iload_n 2, 1) := by decide +kernel
theorem dd_Mo_put_9 : decode bb_Mo_put 9 = .ok (.ifCond .lt 8, 3) := by decide +kernel
theorem dd_Mo_put_12 : decode bb_Mo_put 12 = .ok (.iload_n 2, 1) := by decide +kernel
theorem dd_Mo_put_13 : decode bb_Mo_put 13 = .ok (.iconst 5, 1) := by decide +kernel
theorem dd_Mo_put_14 : decode bb_Mo_put 14 = .ok (.if_icmp .le 5, 3) := by decide +kernel
theorem dd_Mo_put_17 : decode bb_Mo_put 17 = .ok (.iconst (-1), 1) := by decide +kernel
theorem dd_Mo_put_18 : decode bb_Mo_put 18 = .ok (.ireturn, 1) := by decide +kernel
theorem dd_Mo_put_19 : decode bb_Mo_put 19 = .ok (.aload_n 0, 1) := by decide +kernel
theorem dd_Mo_put_20 : decode bb_Mo_put 20 = .ok (.getfield 17, 3) := by decide +kernel
theorem dd_Mo_put_23 : decode bb_Mo_put 23 = .ok (.aload_n 0, 1) := by decide +kernel
theorem dd_Mo_put_24 : decode bb_Mo_put 24 = .ok (.iload_n 1, 1) := by decide +kernel
theorem dd_Mo_put_25 : decode bb_Mo_put 25 = .ok (.iload_n 2, 1) := by decide +kernel
theorem dd_Mo_put_26 : decode bb_Mo_put 26 = .ok (.invokevirtual 70, 3) := by decide +kernel
theorem dd_Mo_put_29 : decode bb_Mo_put 29 = .ok (.baload, 1) := by decide +kernel
theorem dd_Mo_put_30 : decode bb_Mo_put 30 = .ok (.ifCond .ne 6, 3) := by decide +kernel
theorem dd_Mo_put_33 : decode bb_Mo_put 33 = .ok (.bipush (-2), 2) := by decide +kernel
theorem dd_Mo_put_35 : decode bb_Mo_put 35 = .ok (.ireturn, 1) := by decide +kernel
theorem dd_Mo_put_36 : decode bb_Mo_put 36 = .ok (.aload_n 0, 1) := by decide +kernel
theorem dd_Mo_put_37 : decode bb_Mo_put 37 = .ok (.iload_n 1, 1) := by decide +kernel
theorem dd_Mo_put_38 : decode bb_Mo_put 38 = .ok (.iload_n 2, 1) := by decide +kernel
theorem dd_Mo_put_39 : decode bb_Mo_put 39 = .ok (.invokevirtual 79, 3) := by decide +kernel
theorem dd_Mo_put_42 : decode bb_Mo_put 42 = .ok (.ifCond .eq 6, 3) := by decide +kernel
theorem dd_Mo_put_45 : decode bb_Mo_put 45 = .ok (.bipush (-3), 2) := by decide +kernel
theorem dd_Mo_put_47 : decode bb_Mo_put 47 = .ok (.ireturn, 1) := by decide +kernel
theorem dd_Mo_put_48 : decode bb_Mo_put 48 = .ok (.iconst 0, 1) := by decide +kernel
theorem dd_Mo_put_49 : decode bb_Mo_put 49 = .ok (.istore 5, 2) := by decide +kernel
theorem dd_Mo_put_51 : decode bb_Mo_put 51 = .ok (.bipush 6, 2) := by decide +kernel
theorem dd_Mo_put_53 : decode bb_Mo_put 53 = .ok (.istore 6, 2) := by decide +kernel
theorem dd_Mo_put_55 : decode bb_Mo_put 55 = .ok (.iload 6, 2) := by decide +kernel
theorem dd_Mo_put_57 : decode bb_Mo_put 57 = .ok (.aload_n 0, 1) := by decide +kernel
theorem dd_Mo_put_58 : decode bb_Mo_put 58 = .ok (.getfield 43, 3) := by decide +kernel
theorem dd_Mo_put_61 : decode bb_Mo_put 61 = .ok (.if_icmp .ge 60, 3) := by decide +kernel
theorem dd_Mo_put_64 : decode bb_Mo_put 64 = .ok (.aload_n 0, 1) := by decide +kernel
theorem dd_Mo_put_65 : decode bb_Mo_put 65 = .ok (.getfield 17, 3) := by decide +kernel
theorem dd_Mo_put_68 : decode bb_Mo_put 68 = .ok (.aload_n 0, 1) := by decide +kernel
theorem dd_Mo_put_69 : decode bb_Mo_put 69 = .ok (.iload_n 1, 1) := by decide +kernel
theorem dd_Mo_put_70 : decode bb_Mo_put 70 = .ok (.iload 6, 2) := by decide +kernel
theorem dd_Mo_put_72 : decode bb_Mo_put 72 = .ok (.invokevirtual 70, 3) := by decide +kernel
theorem dd_Mo_put_75 : decode bb_Mo_put 75 = .ok (.baload, 1) := by decide +kernel
theorem dd_Mo_put_76 : decode bb_Mo_put 76 = .ok (.ifCond .eq 39, 3) := by decide +kernel
theorem dd_Mo_put_79 : decode bb_Mo_put 79 = .ok (.aload_n 0, 1) := by decide +kernel
theorem dd_Mo_put_80 : decode bb_Mo_put 80 = .ok (.getfield 7, 3) := by decide +kernel
theorem dd_Mo_put_83 : decode bb_Mo_put 83 = .ok (.bipush 6, 2) := by decide +kernel
theorem dd_Mo_put_85 : decode bb_Mo_put 85 = .ok (.iload 6, 2) := by decide +kernel
theorem dd_Mo_put_87 : decode bb_Mo_put 87 = .ok (.imul, 1) := by decide +kernel
theorem dd_Mo_put_88 : decode bb_Mo_put 88 = .ok (.iload_n 2, 1) := by decide +kernel
theorem dd_Mo_put_89 : decode bb_Mo_put 89 = .ok (.iadd, 1) := by decide +kernel
theorem dd_Mo_put_90 : decode bb_Mo_put 90 = .ok (.iaload, 1) := by decide +kernel
theorem dd_Mo_put_91 : decode bb_Mo_put 91 = .ok (.ifCond .eq 24, 3) := by decide +kernel
theorem dd_Mo_put_94 : decode bb_Mo_put 94 = .ok (.aload_n 0, 1) := by decide +kernel
theorem dd_Mo_put_95 : decode bb_Mo_put 95 = .ok (.iload_n 1, 1) := by decide +kernel
theorem dd_Mo_put_96 : decode bb_Mo_put 96 = .ok (.iload 6, 2) := by decide +kernel
theorem dd_Mo_put_98 : decode bb_Mo_put 98 = .ok (.iload_n 2, 1) := by decide +kernel
theorem dd_Mo_put_99 : decode bb_Mo_put 99 = .ok (.invokevirtual 114, 3) := by decide +kernel
theorem dd_Mo_put_102 : decode bb_Mo_put 102 = .ok (.ifCond .ne 13, 3) := by decide +kernel
theorem dd_Mo_put_105 : decode bb_Mo_put 105 = .ok (.aload_n 0, 1) := by decide +kernel
theorem dd_Mo_put_106 : decode bb_Mo_put 106 = .ok (.iload_n 1, 1) := by decide +kernel
theorem dd_Mo_put_107 : decode bb_Mo_put 107 = .ok (.iload 6, 2) := by decide +kernel
theorem dd_Mo_put_109 : decode bb_Mo_put 109 = .ok (.invokevirtual 118, 3) := by decide +kernel
theorem dd_Mo_put_112 : decode bb_Mo_put 112 = .ok (.iinc 5 1, 3) := by decide +kernel
theorem dd_Mo_put_115 : decode bb_Mo_put 115 = .ok (.iinc 6 1, 3) := by decide +kernel
theorem dd_Mo_put_118 : decode bb_Mo_put 118 = .ok (.goto (-63), 3) := by decide +kernel
theorem dd_Mo_put_121 : decode bb_Mo_put 121 = .ok (.aload_n 0, 1) := by decide +kernel
theorem dd_Mo_put_122 : decode bb_Mo_put 122 = .ok (.getfield 13, 3) := by decide +kernel
theorem dd_Mo_put_125 : decode bb_Mo_put 125 = .ok (.bipush 6, 2) := by decide +kernel
theorem dd_Mo_put_127 : decode bb_Mo_put 127 = .ok (.iload_n 1, 1) := by decide +kernel
theorem dd_Mo_put_128 : decode bb_Mo_put 128 = .ok (.imul, 1) := by decide +kernel
theorem dd_Mo_put_129 : decode bb_Mo_put 129 = .ok (.iload_n 2, 1) := by decide +kernel
theorem dd_Mo_put_130 : decode bb_Mo_put 130 = .ok (.iadd, 1) := by decide +kernel
theorem dd_Mo_put_131 : decode bb_Mo_put 131 = .ok (.lload_n 3, 1) := by decide +kernel
theorem dd_Mo_put_132 : decode bb_Mo_put 132 = .ok (.lastore, 1) := by decide +kernel
theorem dd_Mo_put_133 : decode bb_Mo_put 133 = .ok (.aload_n 0, 1) := by decide +kernel
theorem dd_Mo_put_134 : decode bb_Mo_put 134 = .ok (.iload_n 1, 1) := by decide +kernel
theorem dd_Mo_put_135 : decode bb_Mo_put 135 = .ok (.iload_n 2, 1) := by decide +kernel
theorem dd_Mo_put_136 : decode bb_Mo_put 136 = .ok (.invokevirtual 118, 3) := by decide +kernel
theorem dd_Mo_put_139 : decode bb_Mo_put 139 = .ok (.iload 5, 2) := by decide +kernel
theorem dd_Mo_put_141 : decode bb_Mo_put 141 = .ok (.ireturn, 1) := by decide +kernel
theorem dd_Mo_fetch_0 : decode bb_Mo_fetch 0 = .ok (.aload_n 0, 1) := by decide +kernel
theorem dd_Mo_fetch_1 : decode bb_Mo_fetch 1 = .ok (.iload_n 1, 1) := by decide +kernel
theorem dd_Mo_fetch_2 : decode bb_Mo_fetch 2 = .ok (.iload_n 2, 1) := by decide +kernel
theorem dd_Mo_fetch_3 : decode bb_Mo_fetch 3 = .ok (.invokevirtual 122, 3) := by decide +kernel
theorem dd_Mo_fetch_6 : decode bb_Mo_fetch 6 = .ok (.ifCond .eq 5, 3) := by decide +kernel
theorem dd_Mo_fetch_9 : decode bb_Mo_fetch 9 = .ok (.iconst (-1), 1) := by decide +kernel
theorem dd_Mo_fetch_10 : decode bb_Mo_fetch 10 = .ok (.ireturn, 1) := by decide +kernel
theorem dd_Mo_fetch_11 : decode bb_Mo_fetch 11 = .ok (.aload_n 0, 1) := by decide +kernel
theorem dd_Mo_fetch_12 : decode bb_Mo_fetch 12 = .ok (.getfield 17, 3) := by decide +kernel
theorem dd_Mo_fetch_15 : decode bb_Mo_fetch 15 = .ok (.aload_n 0, 1) := by decide +kernel
theorem dd_Mo_fetch_16 : decode bb_Mo_fetch 16 = .ok (.iload_n 1, 1) := by decide +kernel
theorem dd_Mo_fetch_17 : decode bb_Mo_fetch 17 = .ok (.iload_n 2, 1) := by decide +kernel
theorem dd_Mo_fetch_18 : decode bb_Mo_fetch 18 = .ok (.invokevirtual 70, 3) := by decide +kernel
theorem dd_Mo_fetch_21 : decode bb_Mo_fetch 21 = .ok (.baload, 1) := by decide +kernel
theorem dd_Mo_fetch_22 : decode bb_Mo_fetch 22 = .ok (.ifCond .eq 12, 3) := by decide +kernel
theorem dd_Mo_fetch_25 : decode bb_Mo_fetch 25 = .ok (.aload_n 0, 1) := by decide +kernel
theorem dd_Mo_fetch_26 : decode bb_Mo_fetch 26 = .ok (.iload_n 1, 1) := by decide +kernel
theorem dd_Mo_fetch_27 : decode bb_Mo_fetch 27 = .ok (.iload_n 2, 1) := by decide +kernel
theorem dd_Mo_fetch_28 : decode bb_Mo_fetch 28 = .ok (.invokevirtual 79, 3) := by decide +kernel
theorem dd_Mo_fetch_31 : decode bb_Mo_fetch 31 = .ok (.ifCond .eq 7, 3) := by decide +kernel
theorem dd_Mo_fetch_34 : decode bb_Mo_fetch 34 = .ok (.iconst 1, 1) := by decide +kernel
theorem dd_Mo_fetch_35 : decode bb_Mo_fetch 35 = .ok (.goto 4, 3) := by decide +kernel
theorem dd_Mo_fetch_38 : decode bb_Mo_fetch 38 = .ok (.iconst 0, 1) := by decide +kernel
theorem dd_Mo_fetch_39 : decode bb_Mo_fetch 39 = .ok (.istore_n 3, 1) := by decide +kernel
theorem dd_Mo_fetch_40 : decode bb_Mo_fetch 40 = .ok (.iload_n 3, 1) := by decide +kernel
theorem dd_Mo_fetch_41 : decode bb_Mo_fetch 41 = .ok (.ifCond .eq 12, 3) := by decide +kernel
theorem dd_Mo_fetch_44 : decode bb_Mo_fetch 44 = .ok (.aload_n 0, 1) := by decide +kernel
theorem dd_Mo_fetch_45 : decode bb_Mo_fetch 45 = .ok (.iload_n 1, 1) := by decide +kernel
theorem dd_Mo_fetch_46 : decode bb_Mo_fetch 46 = .ok (.iload_n 2, 1) := by decide +kernel
theorem dd_Mo_fetch_47 : decode bb_Mo_fetch 47 = .ok (.invokevirtual 125, 3) := by decide +kernel
theorem dd_Mo_fetch_50 : decode bb_Mo_fetch 50 = .ok (.goto 4, 3) := by decide +kernel
theorem dd_Mo_fetch_53 : decode bb_Mo_fetch 53 = .ok (.iconst 0, 1) := by decide +kernel
theorem dd_Mo_fetch_54 : decode bb_Mo_fetch 54 = .ok (.istore 4, 2) := by decide +kernel
theorem dd_Mo_fetch_56 : decode bb_Mo_fetch 56 = .ok (.aload_n 0, 1) := by decide +kernel
theorem dd_Mo_fetch_57 : decode bb_Mo_fetch 57 = .ok (.iload 4, 2) := by decide +kernel
theorem dd_Mo_fetch_59 : decode bb_Mo_fetch 59 = .ok (.ifCond .lt 12, 3) := by decide +kernel
theorem dd_Mo_fetch_62 : decode bb_Mo_fetch 62 = .ok (.aload_n 0, 1) := by decide +kernel
theorem dd_Mo_fetch_63 : decode bb_Mo_fetch 63 = .ok (.iload_n 1, 1) := by decide +kernel
theorem dd_Mo_fetch_64 : decode bb_Mo_fetch 64 = .ok (.iload_n 2, 1) := by decide +kernel
theorem dd_Mo_fetch_65 : decode bb_Mo_fetch 65 = .ok (.invokevirtual 128, 3) := by decide +kernel
theorem dd_Mo_fetch_68 : decode bb_Mo_fetch 68 = .ok (.goto 7, 3) := by decide +kernel
theorem dd_Mo_fetch_71 : decode bb_Mo_fetch 71 = .ok (.aload_n 0, 1) := by decide +kernel
theorem dd_Mo_fetch_72 : decode bb_Mo_fetch 72 = .ok (.getfield 132, 3) := by decide +kernel
theorem dd_Mo_fetch_75 : decode bb_Mo_fetch 75 = .ok (.putfield 132, 3) := by decide +kernel
theorem dd_Mo_fetch_78 : decode bb_Mo_fetch 78 = .ok (.iload 4, 2) := by decide +kernel
theorem dd_Mo_fetch_80 : decode bb_Mo_fetch 80 = .ok (.ireturn, 1) := by decide +kernel
theorem dd_Mo_fetched_0 : decode bb_Mo_fetched 0 = .ok (.aload_n 0, 1) := by decide +kernel
theorem dd_Mo_fetched_1 : decode bb_Mo_fetched 1 = .ok (.getfield 132, 3) := by decide +kernel
theorem dd_Mo_fetched_4 : decode bb_Mo_fetched 4 = .ok (.lreturn, 1) := by decide +kernel
theorem dd_Mo_fail_0 : decode bb_Mo_fail 0 = .ok (.iload_n 1, 1) := by decide +kernel
theorem dd_Mo_fail_1 : decode bb_Mo_fail 1 = .ok (.ifCond .lt 9, 3) := by decide +kernel
theorem dd_Mo_fail_4 : decode bb_Mo_fail 4 = .ok (.iload_n 1, 1) := by decide +kernel
theorem dd_Mo_fail_5 : decode bb_Mo_fail 5 = .ok (.bipush 11, 2) := by decide +kernel
theorem dd_Mo_fail_7 : decode bb_Mo_fail 7 = .ok (.if_icmp .le 5, 3) := by decide +kernel
theorem dd_Mo_fail_10 : decode bb_Mo_fail 10 = .ok (.iconst (-1), 1) := by decide +kernel
theorem dd_Mo_fail_11 : decode bb_Mo_fail 11 = .ok (.ireturn, 1) := by decide +kernel
theorem dd_Mo_fail_12 : decode bb_Mo_fail 12 = .ok (.aload_n 0, 1) := by decide +kernel
theorem dd_Mo_fail_13 : decode bb_Mo_fail 13 = .ok (.getfield 24, 3) := by decide +kernel
theorem dd_Mo_fail_16 : decode bb_Mo_fail 16 = .ok (.iload_n 1, 1) := by decide +kernel
theorem dd_Mo_fail_17 : decode bb_Mo_fail 17 = .ok (.baload, 1) := by decide +kernel
theorem dd_Mo_fail_18 : decode bb_Mo_fail 18 = .ok (.ifCond .eq 6, 3) := by decide +kernel
theorem dd_Mo_fail_21 : decode bb_Mo_fail 21 = .ok (.bipush (-2), 2) := by decide +kernel
theorem dd_Mo_fail_23 : decode bb_Mo_fail 23 = .ok (.ireturn, 1) := by decide +kernel
theorem dd_Mo_fail_24 : decode bb_Mo_fail 24 = .ok (.aload_n 0, 1) := by decide +kernel
theorem dd_Mo_fail_25 : decode bb_Mo_fail 25 = .ok (.getfield 24, 3) := by decide +kernel
theorem dd_Mo_fail_28 : decode bb_Mo_fail 28 = .ok (.iload_n 1, 1) := by decide +kernel
theorem dd_Mo_fail_29 : decode bb_Mo_fail 29 = .ok (.iconst 1, 1) := by decide +kernel
theorem dd_Mo_fail_30 : decode bb_Mo_fail 30 = .ok (.bastore, 1) := by decide +kernel
theorem dd_Mo_fail_31 : decode bb_Mo_fail 31 = .ok (.iconst 0, 1) := by decide +kernel
theorem dd_Mo_fail_32 : decode bb_Mo_fail 32 = .ok (.istore_n 2, 1) := by decide +kernel
theorem dd_Mo_fail_33 : decode bb_Mo_fail 33 = .ok (.iconst 0, 1) := by decide +kernel
theorem dd_Mo_fail_34 : decode bb_Mo_fail 34 = .ok (.istore_n 3, 1) := by decide +kernel
theorem dd_Mo_fail_35 : decode bb_Mo_fail 35 = .ok (.iload_n 3, 1) := by decide +kernel
theorem dd_Mo_fail_36 : decode bb_Mo_fail 36 = .ok (.iconst 3, 1) := by decide +kernel
theorem dd_Mo_fail_37 : decode bb_Mo_fail 37 = .ok (.if_icmp .ge 82, 3) := by decide +kernel
theorem dd_Mo_fail_40 : decode bb_Mo_fail 40 = .ok (.iconst 0, 1) := by decide +kernel
theorem dd_Mo_fail_41 : decode bb_Mo_fail 41 = .ok (.istore 4, 2) := by decide +kernel
theorem dd_Mo_fail_43 : decode bb_Mo_fail 43 = .ok (.iload 4, 2) := by decide +kernel
theorem dd_Mo_fail_45 : decode bb_Mo_fail 45 = .ok (.aload_n 0, 1) := by decide +kernel
theorem dd_Mo_fail_46 : decode bb_Mo_fail 46 = .ok (.getfield 43, 3) := by decide +kernel
theorem dd_Mo_fail_49 : decode bb_Mo_fail 49 = .ok (.if_icmp .ge 64, 3) := by decide +kernel
theorem dd_Mo_fail_52 : decode bb_Mo_fail 52 = .ok (.aload_n 0, 1) := by decide +kernel
theorem dd_Mo_fail_53 : decode bb_Mo_fail 53 = .ok (.iload_n 3, 1) := by decide +kernel
theorem dd_Mo_fail_54 : decode bb_Mo_fail 54 = .ok (.iload 4, 2) := by decide +kernel
theorem dd_Mo_fail_56 : decode bb_Mo_fail 56 = .ok (.invokevirtual 76, 3) := by decide +kernel
theorem dd_Mo_fail_59 : decode bb_Mo_fail 59 = .ok (.iload_n 1, 1) := by decide +kernel
theorem dd_Mo_fail_60 : decode bb_Mo_fail 60 = .ok (.if_icmp .ne 47, 3) := by decide +kernel
theorem dd_Mo_fail_63 : decode bb_Mo_fail 63 = .ok (.aload_n 0, 1) := by decide +kernel
theorem dd_Mo_fail_64 : decode bb_Mo_fail 64 = .ok (.getfield 17, 3) := by decide +kernel
theorem dd_Mo_fail_67 : decode bb_Mo_fail 67 = .ok (.aload_n 0, 1) := by decide +kernel
theorem dd_Mo_fail_68 : decode bb_Mo_fail 68 = .ok (.iload_n 3, 1) := by decide +kernel
theorem dd_Mo_fail_69 : decode bb_Mo_fail 69 = .ok (.iload 4, 2) := by decide +kernel
theorem dd_Mo_fail_71 : decode bb_Mo_fail 71 = .ok (.invokevirtual 70, 3) := by decide +kernel
theorem dd_Mo_fail_74 : decode bb_Mo_fail 74 = .ok (.baload, 1) := by decide +kernel
theorem dd_Mo_fail_75 : decode bb_Mo_fail 75 = .ok (.ifCond .eq 32, 3) := by decide +kernel
theorem dd_Mo_fail_78 : decode bb_Mo_fail 78 = .ok (.aload_n 0, 1) := by decide +kernel
theorem dd_Mo_fail_79 : decode bb_Mo_fail 79 = .ok (.getfield 17, 3) := by decide +kernel
theorem dd_Mo_fail_82 : decode bb_Mo_fail 82 = .ok (.aload_n 0, 1) := by decide +kernel
theorem dd_Mo_fail_83 : decode bb_Mo_fail 83 = .ok (.iload_n 3, 1) := by decide +kernel
theorem dd_Mo_fail_84 : decode bb_Mo_fail 84 = .ok (.iload 4, 2) := by decide +kernel
theorem dd_Mo_fail_86 : decode bb_Mo_fail 86 = .ok (.invokevirtual 70, 3) := by decide +kernel
theorem dd_Mo_fail_89 : decode bb_Mo_fail 89 = .ok (.iconst 0, 1) := by decide +kernel
theorem dd_Mo_fail_90 : decode bb_Mo_fail 90 = .ok (.bastore, 1) := by decide +kernel
theorem dd_Mo_fail_91 : decode bb_Mo_fail 91 = .ok (.aload_n 0, 1) := by decide +kernel
theorem dd_Mo_fail_92 : decode bb_Mo_fail 92 = .ok (.getfield 21, 3) := by decide +kernel
theorem dd_Mo_fail_95 : decode bb_Mo_fail 95 = .ok (.aload_n 0, 1) := by decide +kernel
theorem dd_Mo_fail_96 : decode bb_Mo_fail 96 = .ok (.iload_n 3, 1) := by decide +kernel
theorem dd_Mo_fail_97 : decode bb_Mo_fail 97 = .ok (.iload 4, 2) := by decide +kernel
theorem dd_Mo_fail_99 : decode bb_Mo_fail 99 = .ok (.invokevirtual 70, 3) := by decide +kernel
theorem dd_Mo_fail_102 : decode bb_Mo_fail 102 = .ok (.lconst 0, 1) := by decide +kernel
theorem dd_Mo_fail_103 : decode bb_Mo_fail 103 = .ok (.lastore, 1) := by decide +kernel
theorem dd_Mo_fail_104 : decode bb_Mo_fail 104 = .ok (.iinc 2 1, 3) := by decide +kernel
theorem dd_Mo_fail_107 : decode bb_Mo_fail 107 = .ok (.iinc 4 1, 3) := by decide +kernel
theorem dd_Mo_fail_110 : decode bb_Mo_fail 110 = .ok (.goto (-67), 3) := by decide +kernel
theorem dd_Mo_fail_113 : decode bb_Mo_fail 113 = .ok (.iinc 3 1, 3) := by decide +kernel
theorem dd_Mo_fail_116 : decode bb_Mo_fail 116 = .ok (.goto (-81), 3) := by decide +kernel
theorem dd_Mo_fail_119 : decode bb_Mo_fail 119 = .ok (.iload_n 2, 1) := by decide +kernel
theorem dd_Mo_fail_120 : decode bb_Mo_fail 120 = .ok (.ireturn, 1) := by decide +kernel
theorem dd_Mo_revive_0 : decode bb_Mo_revive 0 = .ok (.iload_n 1, 1) := by decide +kernel
theorem dd_Mo_revive_1 : decode bb_Mo_revive 1 = .ok (.ifCond .lt 18, 3) := by decide +kernel
theorem dd_Mo_revive_4 : decode bb_Mo_revive 4 = .ok (.iload_n 1, 1) := by decide +kernel
theorem dd_Mo_revive_5 : decode bb_Mo_revive 5 = .ok (.bipush 11, 2) := by decide +kernel
theorem dd_Mo_revive_7 : decode bb_Mo_revive 7 = .ok (.if_icmp .gt 12, 3) := by decide +kernel
theorem dd_Mo_revive_10 : decode bb_Mo_revive 10 = .ok (.aload_n 0, 1) := by decide +kernel
theorem dd_Mo_revive_11 : decode bb_Mo_revive 11 = .ok (.getfield 24, 3) := by decide +kernel
theorem dd_Mo_revive_14 : decode bb_Mo_revive 14 = .ok (.iload_n 1, 1) := by decide +kernel
theorem dd_Mo_revive_15 : decode bb_Mo_revive 15 = .ok (.baload, 1) := by decide +kernel
theorem dd_Mo_revive_16 : decode bb_Mo_revive 16 = .ok (.ifCond .ne 5, 3) := by decide +kernel
theorem dd_Mo_revive_19 : decode bb_Mo_revive 19 = .ok (.iconst 0, 1) := by decide +kernel
theorem dd_Mo_revive_20 : decode bb_Mo_revive 20 = .ok (.ireturn, 1) := by decide +kernel
theorem dd_Mo_revive_21 : decode bb_Mo_revive 21 = .ok (.aload_n 0, 1) := by decide +kernel
theorem dd_Mo_revive_22 : decode bb_Mo_revive 22 = .ok (.getfield 24, 3) := by decide +kernel
theorem dd_Mo_revive_25 : decode bb_Mo_revive 25 = .ok (.iload_n 1, 1) := by decide +kernel
theorem dd_Mo_revive_26 : decode bb_Mo_revive 26 = .ok (.iconst 0, 1) := by decide +kernel
theorem dd_Mo_revive_27 : decode bb_Mo_revive 27 = .ok (.bastore, 1) := by decide +kernel
theorem dd_Mo_revive_28 : decode bb_Mo_revive 28 = .ok (.iconst 1, 1) := by decide +kernel
theorem dd_Mo_revive_29 : decode bb_Mo_revive 29 = .ok (.ireturn, 1) := by decide +kernel
theorem dd_Mo_damage_0 : decode bb_Mo_damage 0 = .ok (.aload_n 0, 1) := by decide +kernel
theorem dd_Mo_damage_1 : decode bb_Mo_damage 1 = .ok (.iload_n 1, 1) := by decide +kernel
theorem dd_Mo_damage_2 : decode bb_Mo_damage 2 = .ok (.iload_n 2, 1) := by decide +kernel
theorem dd_Mo_damage_3 : decode bb_Mo_damage 3 = .ok (.invokevirtual 122, 3) := by decide +kernel
theorem dd_Mo_damage_6 : decode bb_Mo_damage 6 = .ok (.ifCond .ne 27, 3) := by decide +kernel
theorem dd_Mo_damage_9 : decode bb_Mo_damage 9 = .ok (.aload_n 0, 1) := by decide +kernel
theorem dd_Mo_damage_10 : decode bb_Mo_damage 10 = .ok (.getfield 17, 3) := by decide +kernel
theorem dd_Mo_damage_13 : decode bb_Mo_damage 13 = .ok (.aload_n 0, 1) := by decide +kernel
theorem dd_Mo_damage_14 : decode bb_Mo_damage 14 = .ok (.iload_n 1, 1) := by decide +kernel
theorem dd_Mo_damage_15 : decode bb_Mo_damage 15 = .ok (.iload_n 2, 1) := by decide +kernel
theorem dd_Mo_damage_16 : decode bb_Mo_damage 16 = .ok (.invokevirtual 70, 3) := by decide +kernel
theorem dd_Mo_damage_19 : decode bb_Mo_damage 19 = .ok (.baload, 1) := by decide +kernel
theorem dd_Mo_damage_20 : decode bb_Mo_damage 20 = .ok (.ifCond .eq 13, 3) := by decide +kernel
theorem dd_Mo_damage_23 : decode bb_Mo_damage 23 = .ok (.iload_n 3, 1) := by decide +kernel
theorem dd_Mo_damage_24 : decode bb_Mo_damage 24 = .ok (.ifCond .lt 9, 3) := by decide +kernel
theorem dd_Mo_damage_27 : decode bb_Mo_damage 27 = .ok (.iload_n 3, 1) := by decide +kernel
theorem dd_Mo_damage_28 : decode bb_Mo_damage 28 = .ok (.bipush 63, 2) := by decide +kernel
theorem dd_Mo_damage_30 : decode bb_Mo_damage 30 = .ok (.if_icmp .le 5, 3) := by decide +kernel
theorem dd_Mo_damage_33 : decode bb_Mo_damage 33 = .ok (.iconst 0, 1) := by decide +kernel
theorem dd_Mo_damage_34 : decode bb_Mo_damage 34 = .ok (.ireturn, 1) := by decide +kernel
theorem dd_Mo_damage_35 : decode bb_Mo_damage 35 = .ok (.aload_n 0, 1) := by decide +kernel
theorem dd_Mo_damage_36 : decode bb_Mo_damage 36 = .ok (.getfield 21, 3) := by decide +kernel
theorem dd_Mo_damage_39 : decode bb_Mo_damage 39 = .ok (.aload_n 0, 1) := by decide +kernel
theorem dd_Mo_damage_40 : decode bb_Mo_damage 40 = .ok (.iload_n 1, 1) := by decide +kernel
theorem dd_Mo_damage_41 : decode bb_Mo_damage 41 = .ok (.iload_n 2, 1) := by decide +kernel
theorem dd_Mo_damage_42 : decode bb_Mo_damage 42 = .ok (.invokevirtual 70, 3) := by decide +kernel
theorem dd_Mo_damage_45 : decode bb_Mo_damage 45 = .ok (.aload_n 0, 1) := by decide +kernel
theorem dd_Mo_damage_46 : decode bb_Mo_damage 46 = .ok (.getfield 21, 3) := by decide +kernel
theorem dd_Mo_damage_49 : decode bb_Mo_damage 49 = .ok (.aload_n 0, 1) := by decide +kernel
theorem dd_Mo_damage_50 : decode bb_Mo_damage 50 = .ok (.iload_n 1, 1) := by decide +kernel
theorem dd_Mo_damage_51 : decode bb_Mo_damage 51 = .ok (.iload_n 2, 1) := by decide +kernel
theorem dd_Mo_damage_52 : decode bb_Mo_damage 52 = .ok (.invokevirtual 70, 3) := by decide +kernel
theorem dd_Mo_damage_55 : decode bb_Mo_damage 55 = .ok (.laload, 1) := by decide +kernel
theorem dd_Mo_damage_56 : decode bb_Mo_damage 56 = .ok (.lconst 1, 1) := by decide +kernel
theorem dd_Mo_damage_57 : decode bb_Mo_damage 57 = .ok (.iload_n 3, 1) := by decide +kernel
theorem dd_Mo_damage_58 : decode bb_Mo_damage 58 = .ok (.lshl, 1) := by decide +kernel
theorem dd_Mo_damage_59 : decode bb_Mo_damage 59 = .ok (.lxor, 1) := by decide +kernel
theorem dd_Mo_damage_60 : decode bb_Mo_damage 60 = .ok (.lastore, 1) := by decide +kernel
theorem dd_Mo_damage_61 : decode bb_Mo_damage 61 = .ok (.iconst 1, 1) := by decide +kernel
theorem dd_Mo_damage_62 : decode bb_Mo_damage 62 = .ok (.ireturn, 1) := by decide +kernel
theorem dd_Mo_repair_0 : decode bb_Mo_repair 0 = .ok (.aload_n 0, 1) := by decide +kernel
theorem dd_Mo_repair_1 : decode bb_Mo_repair 1 = .ok (.iload_n 1, 1) := by decide +kernel
theorem dd_Mo_repair_2 : decode bb_Mo_repair 2 = .ok (.iload_n 2, 1) := by decide +kernel
theorem dd_Mo_repair_3 : decode bb_Mo_repair 3 = .ok (.invokevirtual 122, 3) := by decide +kernel
theorem dd_Mo_repair_6 : decode bb_Mo_repair 6 = .ok (.ifCond .eq 5, 3) := by decide +kernel
theorem dd_Mo_repair_9 : decode bb_Mo_repair 9 = .ok (.iconst (-1), 1) := by decide +kernel
theorem dd_Mo_repair_10 : decode bb_Mo_repair 10 = .ok (.ireturn, 1) := by decide +kernel
theorem dd_Mo_repair_11 : decode bb_Mo_repair 11 = .ok (.aload_n 0, 1) := by decide +kernel
theorem dd_Mo_repair_12 : decode bb_Mo_repair 12 = .ok (.getfield 17, 3) := by decide +kernel
theorem dd_Mo_repair_15 : decode bb_Mo_repair 15 = .ok (.aload_n 0, 1) := by decide +kernel
theorem dd_Mo_repair_16 : decode bb_Mo_repair 16 = .ok (.iload_n 1, 1) := by decide +kernel
theorem dd_Mo_repair_17 : decode bb_Mo_repair 17 = .ok (.iload_n 2, 1) := by decide +kernel
theorem dd_Mo_repair_18 : decode bb_Mo_repair 18 = .ok (.invokevirtual 70, 3) := by decide +kernel
theorem dd_Mo_repair_21 : decode bb_Mo_repair 21 = .ok (.baload, 1) := by decide +kernel
theorem dd_Mo_repair_22 : decode bb_Mo_repair 22 = .ok (.ifCond .eq 6, 3) := by decide +kernel
theorem dd_Mo_repair_25 : decode bb_Mo_repair 25 = .ok (.bipush (-2), 2) := by decide +kernel
theorem dd_Mo_repair_27 : decode bb_Mo_repair 27 = .ok (.ireturn, 1) := by decide +kernel
theorem dd_Mo_repair_28 : decode bb_Mo_repair 28 = .ok (.aload_n 0, 1) := by decide +kernel
theorem dd_Mo_repair_29 : decode bb_Mo_repair 29 = .ok (.getfield 24, 3) := by decide +kernel
theorem dd_Mo_repair_32 : decode bb_Mo_repair 32 = .ok (.aload_n 0, 1) := by decide +kernel
theorem dd_Mo_repair_33 : decode bb_Mo_repair 33 = .ok (.iload_n 1, 1) := by decide +kernel
theorem dd_Mo_repair_34 : decode bb_Mo_repair 34 = .ok (.iload_n 2, 1) := by decide +kernel
theorem dd_Mo_repair_35 : decode bb_Mo_repair 35 = .ok (.invokevirtual 76, 3) := by decide +kernel
theorem dd_Mo_repair_38 : decode bb_Mo_repair 38 = .ok (.baload, 1) := by decide +kernel
theorem dd_Mo_repair_39 : decode bb_Mo_repair 39 = .ok (.ifCond .eq 6, 3) := by decide +kernel
theorem dd_Mo_repair_42 : decode bb_Mo_repair 42 = .ok (.bipush (-3), 2) := by decide +kernel
theorem dd_Mo_repair_44 : decode bb_Mo_repair 44 = .ok (.ireturn, 1) := by decide +kernel
theorem dd_Mo_repair_45 : decode bb_Mo_repair 45 = .ok (.aload_n 0, 1) := by decide +kernel
theorem dd_Mo_repair_46 : decode bb_Mo_repair 46 = .ok (.iload_n 1, 1) := by decide +kernel
theorem dd_Mo_repair_47 : decode bb_Mo_repair 47 = .ok (.iload_n 2, 1) := by decide +kernel
theorem dd_Mo_repair_48 : decode bb_Mo_repair 48 = .ok (.invokevirtual 125, 3) := by decide +kernel
theorem dd_Mo_repair_51 : decode bb_Mo_repair 51 = .ok (.istore_n 3, 1) := by decide +kernel
theorem dd_Mo_repair_52 : decode bb_Mo_repair 52 = .ok (.iload_n 3, 1) := by decide +kernel
theorem dd_Mo_repair_53 : decode bb_Mo_repair 53 = .ok (.ifCond .lt 9, 3) := by decide +kernel
theorem dd_Mo_repair_56 : decode bb_Mo_repair 56 = .ok (.aload_n 0, 1) := by decide +kernel
theorem dd_Mo_repair_57 : decode bb_Mo_repair 57 = .ok (.iload_n 1, 1) := by decide +kernel
theorem dd_Mo_repair_58 : decode bb_Mo_repair 58 = .ok (.iload_n 2, 1) := by decide +kernel
theorem dd_Mo_repair_59 : decode bb_Mo_repair 59 = .ok (.invokevirtual 118, 3) := by decide +kernel
theorem dd_Mo_repair_62 : decode bb_Mo_repair 62 = .ok (.iload_n 3, 1) := by decide +kernel
theorem dd_Mo_repair_63 : decode bb_Mo_repair 63 = .ok (.ireturn, 1) := by decide +kernel
theorem dd_Mo_next_0 : decode bb_Mo_next 0 = .ok (.iconst (-1), 1) := by decide +kernel
theorem dd_Mo_next_1 : decode bb_Mo_next 1 = .ok (.istore_n 2, 1) := by decide +kernel
theorem dd_Mo_next_2 : decode bb_Mo_next 2 = .ok (.aload_n 0, 1) := by decide +kernel
theorem dd_Mo_next_3 : decode bb_Mo_next 3 = .ok (.getfield 43, 3) := by decide +kernel
theorem dd_Mo_next_6 : decode bb_Mo_next 6 = .ok (.iconst 1, 1) := by decide +kernel
theorem dd_Mo_next_7 : decode bb_Mo_next 7 = .ok (.isub, 1) := by decide +kernel
theorem dd_Mo_next_8 : decode bb_Mo_next 8 = .ok (.istore_n 3, 1) := by decide +kernel
theorem dd_Mo_next_9 : decode bb_Mo_next 9 = .ok (.iload_n 3, 1) := by decide +kernel
theorem dd_Mo_next_10 : decode bb_Mo_next 10 = .ok (.ifCond .lt 48, 3) := by decide +kernel
theorem dd_Mo_next_13 : decode bb_Mo_next 13 = .ok (.aload_n 0, 1) := by decide +kernel
theorem dd_Mo_next_14 : decode bb_Mo_next 14 = .ok (.getfield 17, 3) := by decide +kernel
theorem dd_Mo_next_17 : decode bb_Mo_next 17 = .ok (.aload_n 0, 1) := by decide +kernel
theorem dd_Mo_next_18 : decode bb_Mo_next 18 = .ok (.iload_n 1, 1) := by decide +kernel
theorem dd_Mo_next_19 : decode bb_Mo_next 19 = .ok (.iload_n 3, 1) := by decide +kernel
theorem dd_Mo_next_20 : decode bb_Mo_next 20 = .ok (.invokevirtual 70, 3) := by decide +kernel
theorem dd_Mo_next_23 : decode bb_Mo_next 23 = .ok (.baload, 1) := by decide +kernel
theorem dd_Mo_next_24 : decode bb_Mo_next 24 = .ok (.ifCond .ne 28, 3) := by decide +kernel
theorem dd_Mo_next_27 : decode bb_Mo_next 27 = .ok (.aload_n 0, 1) := by decide +kernel
theorem dd_Mo_next_28 : decode bb_Mo_next 28 = .ok (.getfield 24, 3) := by decide +kernel
theorem dd_Mo_next_31 : decode bb_Mo_next 31 = .ok (.aload_n 0, 1) := by decide +kernel
theorem dd_Mo_next_32 : decode bb_Mo_next 32 = .ok (.iload_n 1, 1) := by decide +kernel
theorem dd_Mo_next_33 : decode bb_Mo_next 33 = .ok (.iload_n 3, 1) := by decide +kernel
theorem dd_Mo_next_34 : decode bb_Mo_next 34 = .ok (.invokevirtual 76, 3) := by decide +kernel
theorem dd_Mo_next_37 : decode bb_Mo_next 37 = .ok (.baload, 1) := by decide +kernel
theorem dd_Mo_next_38 : decode bb_Mo_next 38 = .ok (.ifCond .ne 14, 3) := by decide +kernel
theorem dd_Mo_next_41 : decode bb_Mo_next 41 = .ok (.aload_n 0, 1) := by decide +kernel
theorem dd_Mo_next_42 : decode bb_Mo_next 42 = .ok (.iload_n 1, 1) := by decide +kernel
theorem dd_Mo_next_43 : decode bb_Mo_next 43 = .ok (.iload_n 3, 1) := by decide +kernel
theorem dd_Mo_next_44 : decode bb_Mo_next 44 = .ok (.invokevirtual 108, 3) := by decide +kernel
theorem dd_Mo_next_47 : decode bb_Mo_next 47 = .ok (.ifCond .eq 5, 3) := by decide +kernel
theorem dd_Mo_next_50 : decode bb_Mo_next 50 = .ok (.iload_n 3, 1) := by decide +kernel
theorem dd_Mo_next_51 : decode bb_Mo_next 51 = .ok (.istore_n 2, 1) := by decide +kernel
theorem dd_Mo_next_52 : decode bb_Mo_next 52 = .ok (.iinc 3 (-1), 3) := by decide +kernel
theorem dd_Mo_next_55 : decode bb_Mo_next 55 = .ok (.goto (-46), 3) := by decide +kernel
theorem dd_Mo_next_58 : decode bb_Mo_next 58 = .ok (.iconst (-1), 1) := by decide +kernel
theorem dd_Mo_next_59 : decode bb_Mo_next 59 = .ok (.istore_n 3, 1) := by decide +kernel
theorem dd_Mo_next_60 : decode bb_Mo_next 60 = .ok (.aload_n 0, 1) := by decide +kernel
theorem dd_Mo_next_61 : decode bb_Mo_next 61 = .ok (.getfield 43, 3) := by decide +kernel
theorem dd_Mo_next_64 : decode bb_Mo_next 64 = .ok (.iconst 1, 1) := by decide +kernel
theorem dd_Mo_next_65 : decode bb_Mo_next 65 = .ok (.isub, 1) := by decide +kernel
theorem dd_Mo_next_66 : decode bb_Mo_next 66 = .ok (.istore 4, 2) := by decide +kernel
theorem dd_Mo_next_68 : decode bb_Mo_next 68 = .ok (.iload 4, 2) := by decide +kernel
theorem dd_Mo_next_70 : decode bb_Mo_next 70 = .ok (.ifCond .lt 56, 3) := by decide +kernel
theorem dd_Mo_next_73 : decode bb_Mo_next 73 = .ok (.aload_n 0, 1) := by decide +kernel
theorem dd_Mo_next_74 : decode bb_Mo_next 74 = .ok (.getfield 17, 3) := by decide +kernel
theorem dd_Mo_next_77 : decode bb_Mo_next 77 = .ok (.aload_n 0, 1) := by decide +kernel
theorem dd_Mo_next_78 : decode bb_Mo_next 78 = .ok (.iload_n 1, 1) := by decide +kernel
theorem dd_Mo_next_79 : decode bb_Mo_next 79 = .ok (.iload 4, 2) := by decide +kernel
theorem dd_Mo_next_81 : decode bb_Mo_next 81 = .ok (.invokevirtual 70, 3) := by decide +kernel
theorem dd_Mo_next_84 : decode bb_Mo_next 84 = .ok (.baload, 1) := by decide +kernel
theorem dd_Mo_next_85 : decode bb_Mo_next 85 = .ok (.ifCond .ne 33, 3) := by decide +kernel
theorem dd_Mo_next_88 : decode bb_Mo_next 88 = .ok (.aload_n 0, 1) := by decide +kernel
theorem dd_Mo_next_89 : decode bb_Mo_next 89 = .ok (.getfield 24, 3) := by decide +kernel
theorem dd_Mo_next_92 : decode bb_Mo_next 92 = .ok (.aload_n 0, 1) := by decide +kernel
theorem dd_Mo_next_93 : decode bb_Mo_next 93 = .ok (.iload_n 1, 1) := by decide +kernel
theorem dd_Mo_next_94 : decode bb_Mo_next 94 = .ok (.iload 4, 2) := by decide +kernel
theorem dd_Mo_next_96 : decode bb_Mo_next 96 = .ok (.invokevirtual 76, 3) := by decide +kernel
theorem dd_Mo_next_99 : decode bb_Mo_next 99 = .ok (.baload, 1) := by decide +kernel
theorem dd_Mo_next_100 : decode bb_Mo_next 100 = .ok (.ifCond .ne 18, 3) := by decide +kernel
theorem dd_Mo_next_103 : decode bb_Mo_next 103 = .ok (.aload_n 0, 1) := by decide +kernel
theorem dd_Mo_next_104 : decode bb_Mo_next 104 = .ok (.iload_n 1, 1) := by decide +kernel
theorem dd_Mo_next_105 : decode bb_Mo_next 105 = .ok (.iload 4, 2) := by decide +kernel
theorem dd_Mo_next_107 : decode bb_Mo_next 107 = .ok (.invokevirtual 101, 3) := by decide +kernel
theorem dd_Mo_next_110 : decode bb_Mo_next 110 = .ok (.ifCond .eq 8, 3) := by decide +kernel
theorem dd_Mo_next_113 : decode bb_Mo_next 113 = .ok (.iload 4, 2) := by decide +kernel
theorem dd_Mo_next_115 : decode bb_Mo_next 115 = .ok (.goto 4, 3) := by decide +kernel
theorem dd_Mo_next_118 : decode bb_Mo_next 118 = .ok (.iload_n 3, 1) := by decide +kernel
theorem dd_Mo_next_119 : decode bb_Mo_next 119 = .ok (.istore_n 3, 1) := by decide +kernel
theorem dd_Mo_next_120 : decode bb_Mo_next 120 = .ok (.iinc 4 (-1), 3) := by decide +kernel
theorem dd_Mo_next_123 : decode bb_Mo_next 123 = .ok (.goto (-55), 3) := by decide +kernel
theorem dd_Mo_next_126 : decode bb_Mo_next 126 = .ok (.iload_n 3, 1) := by decide +kernel
theorem dd_Mo_next_127 : decode bb_Mo_next 127 = .ok (.ifCond .lt 7, 3) := by decide +kernel
theorem dd_Mo_next_130 : decode bb_Mo_next 130 = .ok (.iload_n 3, 1) := by decide +kernel
theorem dd_Mo_next_131 : decode bb_Mo_next 131 = .ok (.goto 4, 3) := by decide +kernel
theorem dd_Mo_next_134 : decode bb_Mo_next 134 = .ok (.iload_n 2, 1) := by decide +kernel
theorem dd_Mo_next_135 : decode bb_Mo_next 135 = .ok (.ireturn, 1) := by decide +kernel
theorem dd_Mo_mend_0 : decode bb_Mo_mend 0 = .ok (.aload_n 0, 1) := by decide +kernel
theorem dd_Mo_mend_1 : decode bb_Mo_mend 1 = .ok (.iload_n 1, 1) := by decide +kernel
theorem dd_Mo_mend_2 : decode bb_Mo_mend 2 = .ok (.invokevirtual 63, 3) := by decide +kernel
theorem dd_Mo_mend_5 : decode bb_Mo_mend 5 = .ok (.ifCond .eq 5, 3) := by decide +kernel
theorem dd_Mo_mend_8 : decode bb_Mo_mend 8 = .ok (.iconst (-1), 1) := by decide +kernel
theorem dd_Mo_mend_9 : decode bb_Mo_mend 9 = .ok (.ireturn, 1) := by decide +kernel
theorem dd_Mo_mend_10 : decode bb_Mo_mend 10 = .ok (.iconst 0, 1) := by decide +kernel
theorem dd_Mo_mend_11 : decode bb_Mo_mend 11 = .ok (.istore_n 2, 1) := by decide +kernel
theorem dd_Mo_mend_12 : decode bb_Mo_mend 12 = .ok (.aload_n 0, 1) := by decide +kernel
theorem dd_Mo_mend_13 : decode bb_Mo_mend 13 = .ok (.iload_n 1, 1) := by decide +kernel
theorem dd_Mo_mend_14 : decode bb_Mo_mend 14 = .ok (.invokevirtual 136, 3) := by decide +kernel
theorem dd_Mo_mend_17 : decode bb_Mo_mend 17 = .ok (.istore_n 3, 1) := by decide +kernel
theorem dd_Mo_mend_18 : decode bb_Mo_mend 18 = .ok (.iconst 0, 1) := by decide +kernel
theorem dd_Mo_mend_19 : decode bb_Mo_mend 19 = .ok (.istore 4, 2) := by decide +kernel
theorem dd_Mo_mend_21 : decode bb_Mo_mend 21 = .ok (.iload 4, 2) := by decide +kernel
theorem dd_Mo_mend_23 : decode bb_Mo_mend 23 = .ok (.bipush 50, 2) := by decide +kernel
theorem dd_Mo_mend_25 : decode bb_Mo_mend 25 = .ok (.if_icmp .ge 36, 3) := by decide +kernel
theorem dd_Mo_mend_28 : decode bb_Mo_mend 28 = .ok (.iload_n 3, 1) := by decide +kernel
theorem dd_Mo_mend_29 : decode bb_Mo_mend 29 = .ok (.ifCond .lt 32, 3) := by decide +kernel
theorem dd_Mo_mend_32 : decode bb_Mo_mend 32 = .ok (.iload_n 2, 1) := by decide +kernel
theorem dd_Mo_mend_33 : decode bb_Mo_mend 33 = .ok (.aload_n 0, 1) := by decide +kernel
theorem dd_Mo_mend_34 : decode bb_Mo_mend 34 = .ok (.iload_n 1, 1) := by decide +kernel
theorem dd_Mo_mend_35 : decode bb_Mo_mend 35 = .ok (.iload_n 3, 1) := by decide +kernel
theorem dd_Mo_mend_36 : decode bb_Mo_mend 36 = .ok (.invokevirtual 139, 3) := by decide +kernel
theorem dd_Mo_mend_39 : decode bb_Mo_mend 39 = .ok (.ifCond .le 7, 3) := by decide +kernel
theorem dd_Mo_mend_42 : decode bb_Mo_mend 42 = .ok (.iconst 1, 1) := by decide +kernel
theorem dd_Mo_mend_43 : decode bb_Mo_mend 43 = .ok (.goto 4, 3) := by decide +kernel
theorem dd_Mo_mend_46 : decode bb_Mo_mend 46 = .ok (.iconst 0, 1) := by decide +kernel
theorem dd_Mo_mend_47 : decode bb_Mo_mend 47 = .ok (.iadd, 1) := by decide +kernel
theorem dd_Mo_mend_48 : decode bb_Mo_mend 48 = .ok (.istore_n 2, 1) := by decide +kernel
theorem dd_Mo_mend_49 : decode bb_Mo_mend 49 = .ok (.aload_n 0, 1) := by decide +kernel
theorem dd_Mo_mend_50 : decode bb_Mo_mend 50 = .ok (.iload_n 1, 1) := by decide +kernel
theorem dd_Mo_mend_51 : decode bb_Mo_mend 51 = .ok (.invokevirtual 136, 3) := by decide +kernel
theorem dd_Mo_mend_54 : decode bb_Mo_mend 54 = .ok (.istore_n 3, 1) := by decide +kernel
theorem dd_Mo_mend_55 : decode bb_Mo_mend 55 = .ok (.iinc 4 1, 3) := by decide +kernel
theorem dd_Mo_mend_58 : decode bb_Mo_mend 58 = .ok (.goto (-37), 3) := by decide +kernel
theorem dd_Mo_mend_61 : decode bb_Mo_mend 61 = .ok (.iload_n 2, 1) := by decide +kernel
theorem dd_Mo_mend_62 : decode bb_Mo_mend 62 = .ok (.ireturn, 1) := by decide +kernel
theorem dd_Mo_scrub_0 : decode bb_Mo_scrub 0 = .ok (.aload_n 0, 1) := by decide +kernel
theorem dd_Mo_scrub_1 : decode bb_Mo_scrub 1 = .ok (.iload_n 1, 1) := by decide +kernel
theorem dd_Mo_scrub_2 : decode bb_Mo_scrub 2 = .ok (.invokevirtual 63, 3) := by decide +kernel
theorem dd_Mo_scrub_5 : decode bb_Mo_scrub 5 = .ok (.ifCond .eq 5, 3) := by decide +kernel
theorem dd_Mo_scrub_8 : decode bb_Mo_scrub 8 = .ok (.iconst (-1), 1) := by decide +kernel
theorem dd_Mo_scrub_9 : decode bb_Mo_scrub 9 = .ok (.ireturn, 1) := by decide +kernel
theorem dd_Mo_scrub_10 : decode bb_Mo_scrub 10 = .ok (.iconst 0, 1) := by decide +kernel
theorem dd_Mo_scrub_11 : decode bb_Mo_scrub 11 = .ok (.istore_n 2, 1) := by decide +kernel
theorem dd_Mo_scrub_12 : decode bb_Mo_scrub 12 = .ok (.iconst 0, 1) := by decide +kernel
theorem dd_Mo_scrub_13 : decode bb_Mo_scrub 13 = .ok (.istore_n 3, 1) := by decide +kernel
theorem dd_Mo_scrub_14 : decode bb_Mo_scrub 14 = .ok (.iload_n 3, 1) := by decide +kernel
theorem dd_Mo_scrub_15 : decode bb_Mo_scrub 15 = .ok (.aload_n 0, 1) := by decide +kernel
theorem dd_Mo_scrub_16 : decode bb_Mo_scrub 16 = .ok (.getfield 43, 3) := by decide +kernel
theorem dd_Mo_scrub_19 : decode bb_Mo_scrub 19 = .ok (.if_icmp .ge 40, 3) := by decide +kernel
theorem dd_Mo_scrub_22 : decode bb_Mo_scrub 22 = .ok (.iload_n 2, 1) := by decide +kernel
theorem dd_Mo_scrub_23 : decode bb_Mo_scrub 23 = .ok (.aload_n 0, 1) := by decide +kernel
theorem dd_Mo_scrub_24 : decode bb_Mo_scrub 24 = .ok (.getfield 17, 3) := by decide +kernel
theorem dd_Mo_scrub_27 : decode bb_Mo_scrub 27 = .ok (.aload_n 0, 1) := by decide +kernel
theorem dd_Mo_scrub_28 : decode bb_Mo_scrub 28 = .ok (.iload_n 1, 1) := by decide +kernel
theorem dd_Mo_scrub_29 : decode bb_Mo_scrub 29 = .ok (.iload_n 3, 1) := by decide +kernel
theorem dd_Mo_scrub_30 : decode bb_Mo_scrub 30 = .ok (.invokevirtual 70, 3) := by decide +kernel
theorem dd_Mo_scrub_33 : decode bb_Mo_scrub 33 = .ok (.baload, 1) := by decide +kernel
theorem dd_Mo_scrub_34 : decode bb_Mo_scrub 34 = .ok (.ifCond .eq 16, 3) := by decide +kernel
theorem dd_Mo_scrub_37 : decode bb_Mo_scrub 37 = .ok (.aload_n 0, 1) := by decide +kernel
theorem dd_Mo_scrub_38 : decode bb_Mo_scrub 38 = .ok (.iload_n 1, 1) := by decide +kernel
theorem dd_Mo_scrub_39 : decode bb_Mo_scrub 39 = .ok (.iload_n 3, 1) := by decide +kernel
theorem dd_Mo_scrub_40 : decode bb_Mo_scrub 40 = .ok (.invokevirtual 79, 3) := by decide +kernel
theorem dd_Mo_scrub_43 : decode bb_Mo_scrub 43 = .ok (.ifCond .eq 7, 3) := by decide +kernel
theorem dd_Mo_scrub_46 : decode bb_Mo_scrub 46 = .ok (.iconst 1, 1) := by decide +kernel
theorem dd_Mo_scrub_47 : decode bb_Mo_scrub 47 = .ok (.goto 4, 3) := by decide +kernel
theorem dd_Mo_scrub_50 : decode bb_Mo_scrub 50 = .ok (.iconst 0, 1) := by decide +kernel
theorem dd_Mo_scrub_51 : decode bb_Mo_scrub 51 = .ok (.iadd, 1) := by decide +kernel
theorem dd_Mo_scrub_52 : decode bb_Mo_scrub 52 = .ok (.istore_n 2, 1) := by decide +kernel
theorem dd_Mo_scrub_53 : decode bb_Mo_scrub 53 = .ok (.iinc 3 1, 3) := by decide +kernel
theorem dd_Mo_scrub_56 : decode bb_Mo_scrub 56 = .ok (.goto (-42), 3) := by decide +kernel
theorem dd_Mo_scrub_59 : decode bb_Mo_scrub 59 = .ok (.iload_n 2, 1) := by decide +kernel
theorem dd_Mo_scrub_60 : decode bb_Mo_scrub 60 = .ok (.ireturn, 1) := by decide +kernel
theorem dd_Mo_cost_0 : decode bb_Mo_cost 0 = .ok (.aload_n 0, 1) := by decide +kernel
theorem dd_Mo_cost_1 : decode bb_Mo_cost 1 = .ok (.iload_n 1, 1) := by decide +kernel
theorem dd_Mo_cost_2 : decode bb_Mo_cost 2 = .ok (.iload_n 2, 1) := by decide +kernel
theorem dd_Mo_cost_3 : decode bb_Mo_cost 3 = .ok (.invokevirtual 122, 3) := by decide +kernel
theorem dd_Mo_cost_6 : decode bb_Mo_cost 6 = .ok (.ifCond .eq 5, 3) := by decide +kernel
theorem dd_Mo_cost_9 : decode bb_Mo_cost 9 = .ok (.iconst (-1), 1) := by decide +kernel
theorem dd_Mo_cost_10 : decode bb_Mo_cost 10 = .ok (.ireturn, 1) := by decide +kernel
theorem dd_Mo_cost_11 : decode bb_Mo_cost 11 = .ok (.aload_n 0, 1) := by decide +kernel
theorem dd_Mo_cost_12 : decode bb_Mo_cost 12 = .ok (.getfield 17, 3) := by decide +kernel
theorem dd_Mo_cost_15 : decode bb_Mo_cost 15 = .ok (.aload_n 0, 1) := by decide +kernel
theorem dd_Mo_cost_16 : decode bb_Mo_cost 16 = .ok (.iload_n 1, 1) := by decide +kernel
theorem dd_Mo_cost_17 : decode bb_Mo_cost 17 = .ok (.iload_n 2, 1) := by decide +kernel
theorem dd_Mo_cost_18 : decode bb_Mo_cost 18 = .ok (.invokevirtual 70, 3) := by decide +kernel
theorem dd_Mo_cost_21 : decode bb_Mo_cost 21 = .ok (.baload, 1) := by decide +kernel
theorem dd_Mo_cost_22 : decode bb_Mo_cost 22 = .ok (.ifCond .eq 7, 3) := by decide +kernel
theorem dd_Mo_cost_25 : decode bb_Mo_cost 25 = .ok (.iconst 0, 1) := by decide +kernel
theorem dd_Mo_cost_26 : decode bb_Mo_cost 26 = .ok (.goto 21, 3) := by decide +kernel
theorem dd_Mo_cost_29 : decode bb_Mo_cost 29 = .ok (.aload_n 0, 1) := by decide +kernel
theorem dd_Mo_cost_30 : decode bb_Mo_cost 30 = .ok (.iload_n 1, 1) := by decide +kernel
theorem dd_Mo_cost_31 : decode bb_Mo_cost 31 = .ok (.iload_n 2, 1) := by decide +kernel
theorem dd_Mo_cost_32 : decode bb_Mo_cost 32 = .ok (.invokevirtual 108, 3) := by decide +kernel
theorem dd_Mo_cost_35 : decode bb_Mo_cost 35 = .ok (.ifCond .eq 10, 3) := by decide +kernel
theorem dd_Mo_cost_38 : decode bb_Mo_cost 38 = .ok (.aload_n 0, 1) := by decide +kernel
theorem dd_Mo_cost_39 : decode bb_Mo_cost 39 = .ok (.getfield 95, 3) := by decide +kernel
theorem dd_Mo_cost_42 : decode bb_Mo_cost 42 = .ok (.goto 5, 3) := by decide +kernel
theorem dd_Mo_cost_45 : decode bb_Mo_cost 45 = .ok (.bipush (-4), 2) := by decide +kernel
theorem dd_Mo_cost_47 : decode bb_Mo_cost 47 = .ok (.ireturn, 1) := by decide +kernel
theorem dd_Mo_rank_0 : decode bb_Mo_rank 0 = .ok (.aload_n 0, 1) := by decide +kernel
theorem dd_Mo_rank_1 : decode bb_Mo_rank 1 = .ok (.iload_n 1, 1) := by decide +kernel
theorem dd_Mo_rank_2 : decode bb_Mo_rank 2 = .ok (.invokevirtual 63, 3) := by decide +kernel
theorem dd_Mo_rank_5 : decode bb_Mo_rank 5 = .ok (.ifCond .eq 5, 3) := by decide +kernel
theorem dd_Mo_rank_8 : decode bb_Mo_rank 8 = .ok (.iconst (-1), 1) := by decide +kernel
theorem dd_Mo_rank_9 : decode bb_Mo_rank 9 = .ok (.ireturn, 1) := by decide +kernel
theorem dd_Mo_rank_10 : decode bb_Mo_rank 10 = .ok (.aload_n 0, 1) := by decide +kernel
theorem dd_Mo_rank_11 : decode bb_Mo_rank 11 = .ok (.iload_n 1, 1) := by decide +kernel
theorem dd_Mo_rank_12 : decode bb_Mo_rank 12 = .ok (.invokevirtual 104, 3) := by decide +kernel
theorem dd_Mo_rank_15 : decode bb_Mo_rank 15 = .ok (.aload_n 0, 1) := by decide +kernel
theorem dd_Mo_rank_16 : decode bb_Mo_rank 16 = .ok (.getfield 92, 3) := by decide +kernel
theorem dd_Mo_rank_19 : decode bb_Mo_rank 19 = .ok (.ireturn, 1) := by decide +kernel
theorem dd_Mo_lost_0 : decode bb_Mo_lost 0 = .ok (.aload_n 0, 1) := by decide +kernel
theorem dd_Mo_lost_1 : decode bb_Mo_lost 1 = .ok (.iload_n 1, 1) := by decide +kernel
theorem dd_Mo_lost_2 : decode bb_Mo_lost 2 = .ok (.invokevirtual 63, 3) := by decide +kernel
theorem dd_Mo_lost_5 : decode bb_Mo_lost 5 = .ok (.ifCond .eq 5, 3) := by decide +kernel
theorem dd_Mo_lost_8 : decode bb_Mo_lost 8 = .ok (.iconst (-1), 1) := by decide +kernel
theorem dd_Mo_lost_9 : decode bb_Mo_lost 9 = .ok (.ireturn, 1) := by decide +kernel
theorem dd_Mo_lost_10 : decode bb_Mo_lost 10 = .ok (.iconst 0, 1) := by decide +kernel
theorem dd_Mo_lost_11 : decode bb_Mo_lost 11 = .ok (.istore_n 2, 1) := by decide +kernel
theorem dd_Mo_lost_12 : decode bb_Mo_lost 12 = .ok (.iconst 0, 1) := by decide +kernel
theorem dd_Mo_lost_13 : decode bb_Mo_lost 13 = .ok (.istore_n 3, 1) := by decide +kernel
theorem dd_Mo_lost_14 : decode bb_Mo_lost 14 = .ok (.iload_n 3, 1) := by decide +kernel
theorem dd_Mo_lost_15 : decode bb_Mo_lost 15 = .ok (.aload_n 0, 1) := by decide +kernel
theorem dd_Mo_lost_16 : decode bb_Mo_lost 16 = .ok (.getfield 43, 3) := by decide +kernel
theorem dd_Mo_lost_19 : decode bb_Mo_lost 19 = .ok (.if_icmp .ge 33, 3) := by decide +kernel
theorem dd_Mo_lost_22 : decode bb_Mo_lost 22 = .ok (.aload_n 0, 1) := by decide +kernel
theorem dd_Mo_lost_23 : decode bb_Mo_lost 23 = .ok (.getfield 17, 3) := by decide +kernel
theorem dd_Mo_lost_26 : decode bb_Mo_lost 26 = .ok (.aload_n 0, 1) := by decide +kernel
theorem dd_Mo_lost_27 : decode bb_Mo_lost 27 = .ok (.iload_n 1, 1) := by decide +kernel
theorem dd_Mo_lost_28 : decode bb_Mo_lost 28 = .ok (.iload_n 3, 1) := by decide +kernel
theorem dd_Mo_lost_29 : decode bb_Mo_lost 29 = .ok (.invokevirtual 70, 3) := by decide +kernel
theorem dd_Mo_lost_32 : decode bb_Mo_lost 32 = .ok (.baload, 1) := by decide +kernel
theorem dd_Mo_lost_33 : decode bb_Mo_lost 33 = .ok (.ifCond .eq 7, 3) := by decide +kernel
theorem dd_Mo_lost_36 : decode bb_Mo_lost 36 = .ok (.iload_n 2, 1) := by decide +kernel
theorem dd_Mo_lost_37 : decode bb_Mo_lost 37 = .ok (.goto 8, 3) := by decide +kernel
theorem dd_Mo_lost_40 : decode bb_Mo_lost 40 = .ok (.iload_n 2, 1) := by decide +kernel
theorem dd_Mo_lost_41 : decode bb_Mo_lost 41 = .ok (.iconst 1, 1) := by decide +kernel
theorem dd_Mo_lost_42 : decode bb_Mo_lost 42 = .ok (.iload_n 3, 1) := by decide +kernel
theorem dd_Mo_lost_43 : decode bb_Mo_lost 43 = .ok (.ishl, 1) := by decide +kernel
theorem dd_Mo_lost_44 : decode bb_Mo_lost 44 = .ok (.ior, 1) := by decide +kernel
theorem dd_Mo_lost_45 : decode bb_Mo_lost 45 = .ok (.istore_n 2, 1) := by decide +kernel
theorem dd_Mo_lost_46 : decode bb_Mo_lost 46 = .ok (.iinc 3 1, 3) := by decide +kernel
theorem dd_Mo_lost_49 : decode bb_Mo_lost 49 = .ok (.goto (-35), 3) := by decide +kernel
theorem dd_Mo_lost_52 : decode bb_Mo_lost 52 = .ok (.iload_n 2, 1) := by decide +kernel
theorem dd_Mo_lost_53 : decode bb_Mo_lost 53 = .ok (.ireturn, 1) := by decide +kernel
theorem dd_Mo_content_0 : decode bb_Mo_content 0 = .ok (.aload_n 0, 1) := by decide +kernel
theorem dd_Mo_content_1 : decode bb_Mo_content 1 = .ok (.iload_n 1, 1) := by decide +kernel
theorem dd_Mo_content_2 : decode bb_Mo_content 2 = .ok (.iload_n 2, 1) := by decide +kernel
theorem dd_Mo_content_3 : decode bb_Mo_content 3 = .ok (.invokevirtual 122, 3) := by decide +kernel
theorem dd_Mo_content_6 : decode bb_Mo_content 6 = .ok (.ifCond .ne 17, 3) := by decide +kernel
theorem dd_Mo_content_9 : decode bb_Mo_content 9 = .ok (.aload_n 0, 1) := by decide +kernel
theorem dd_Mo_content_10 : decode bb_Mo_content 10 = .ok (.getfield 17, 3) := by decide +kernel
theorem dd_Mo_content_13 : decode bb_Mo_content 13 = .ok (.aload_n 0, 1) := by decide +kernel
theorem dd_Mo_content_14 : decode bb_Mo_content 14 = .ok (.iload_n 1, 1) := by decide +kernel
theorem dd_Mo_content_15 : decode bb_Mo_content 15 = .ok (.iload_n 2, 1) := by decide +kernel
theorem dd_Mo_content_16 : decode bb_Mo_content 16 = .ok (.invokevirtual 70, 3) := by decide +kernel
theorem dd_Mo_content_19 : decode bb_Mo_content 19 = .ok (.baload, 1) := by decide +kernel
theorem dd_Mo_content_20 : decode bb_Mo_content 20 = .ok (.ifCond .ne 7, 3) := by decide +kernel
theorem dd_Mo_content_23 : decode bb_Mo_content 23 = .ok (.lconst 0, 1) := by decide +kernel
theorem dd_Mo_content_24 : decode bb_Mo_content 24 = .ok (.goto 21, 3) := by decide +kernel
theorem dd_Mo_content_27 : decode bb_Mo_content 27 = .ok (.aload_n 0, 1) := by decide +kernel
theorem dd_Mo_content_28 : decode bb_Mo_content 28 = .ok (.iload_n 1, 1) := by decide +kernel
theorem dd_Mo_content_29 : decode bb_Mo_content 29 = .ok (.iload_n 2, 1) := by decide +kernel
theorem dd_Mo_content_30 : decode bb_Mo_content 30 = .ok (.invokevirtual 128, 3) := by decide +kernel
theorem dd_Mo_content_33 : decode bb_Mo_content 33 = .ok (.aload_n 0, 1) := by decide +kernel
theorem dd_Mo_content_34 : decode bb_Mo_content 34 = .ok (.getfield 21, 3) := by decide +kernel
theorem dd_Mo_content_37 : decode bb_Mo_content 37 = .ok (.aload_n 0, 1) := by decide +kernel
theorem dd_Mo_content_38 : decode bb_Mo_content 38 = .ok (.iload_n 1, 1) := by decide +kernel
theorem dd_Mo_content_39 : decode bb_Mo_content 39 = .ok (.iload_n 2, 1) := by decide +kernel
theorem dd_Mo_content_40 : decode bb_Mo_content 40 = .ok (.invokevirtual 70, 3) := by decide +kernel
theorem dd_Mo_content_43 : decode bb_Mo_content 43 = .ok (.laload, 1) := by decide +kernel
theorem dd_Mo_content_44 : decode bb_Mo_content 44 = .ok (.lxor, 1) := by decide +kernel
theorem dd_Mo_content_45 : decode bb_Mo_content 45 = .ok (.lreturn, 1) := by decide +kernel
theorem dd_Mo_node_0 : decode bb_Mo_node 0 = .ok (.aload_n 0, 1) := by decide +kernel
theorem dd_Mo_node_1 : decode bb_Mo_node 1 = .ok (.iload_n 1, 1) := by decide +kernel
theorem dd_Mo_node_2 : decode bb_Mo_node 2 = .ok (.iload_n 2, 1) := by decide +kernel
theorem dd_Mo_node_3 : decode bb_Mo_node 3 = .ok (.invokevirtual 122, 3) := by decide +kernel
theorem dd_Mo_node_6 : decode bb_Mo_node 6 = .ok (.ifCond .eq 7, 3) := by decide +kernel
theorem dd_Mo_node_9 : decode bb_Mo_node 9 = .ok (.iconst (-1), 1) := by decide +kernel
theorem dd_Mo_node_10 : decode bb_Mo_node 10 = .ok (.goto 9, 3) := by decide +kernel
theorem dd_Mo_node_13 : decode bb_Mo_node 13 = .ok (.aload_n 0, 1) := by decide +kernel
theorem dd_Mo_node_14 : decode bb_Mo_node 14 = .ok (.iload_n 1, 1) := by decide +kernel
theorem dd_Mo_node_15 : decode bb_Mo_node 15 = .ok (.iload_n 2, 1) := by decide +kernel
theorem dd_Mo_node_16 : decode bb_Mo_node 16 = .ok (.invokevirtual 76, 3) := by decide +kernel
theorem dd_Mo_node_19 : decode bb_Mo_node 19 = .ok (.ireturn, 1) := by decide +kernel
theorem dd_Mo_up_0 : decode bb_Mo_up 0 = .ok (.iload_n 1, 1) := by decide +kernel
theorem dd_Mo_up_1 : decode bb_Mo_up 1 = .ok (.ifCond .lt 22, 3) := by decide +kernel
theorem dd_Mo_up_4 : decode bb_Mo_up 4 = .ok (.iload_n 1, 1) := by decide +kernel
theorem dd_Mo_up_5 : decode bb_Mo_up 5 = .ok (.bipush 12, 2) := by decide +kernel
theorem dd_Mo_up_7 : decode bb_Mo_up 7 = .ok (.if_icmp .ge 16, 3) := by decide +kernel
theorem dd_Mo_up_10 : decode bb_Mo_up 10 = .ok (.aload_n 0, 1) := by decide +kernel
theorem dd_Mo_up_11 : decode bb_Mo_up 11 = .ok (.getfield 24, 3) := by decide +kernel
theorem dd_Mo_up_14 : decode bb_Mo_up 14 = .ok (.iload_n 1, 1) := by decide +kernel
theorem dd_Mo_up_15 : decode bb_Mo_up 15 = .ok (.baload, 1) := by decide +kernel
theorem dd_Mo_up_16 : decode bb_Mo_up 16 = .ok (.ifCond .ne 7, 3) := by decide +kernel
theorem dd_Mo_up_19 : decode bb_Mo_up 19 = .ok (.iconst 1, 1) := by decide +kernel
theorem dd_Mo_up_20 : decode bb_Mo_up 20 = .ok (.goto 4, 3) := by decide +kernel
theorem dd_Mo_up_23 : decode bb_Mo_up 23 = .ok (.iconst 0, 1) := by decide +kernel
theorem dd_Mo_up_24 : decode bb_Mo_up 24 = .ok (.ireturn, 1) := by decide +kernel
theorem dd_Mo_count_0 : decode bb_Mo_count 0 = .ok (.iload_n 1, 1) := by decide +kernel
theorem dd_Mo_count_1 : decode bb_Mo_count 1 = .ok (.tableswitch 51 0 3 #[31, 36, 41, 46], 31) := by decide +kernel
theorem dd_Mo_count_32 : decode bb_Mo_count 32 = .ok (.aload_n 0, 1) := by decide +kernel
theorem dd_Mo_count_33 : decode bb_Mo_count 33 = .ok (.getfield 67, 3) := by decide +kernel
theorem dd_Mo_count_36 : decode bb_Mo_count 36 = .ok (.ireturn, 1) := by decide +kernel
theorem dd_Mo_count_37 : decode bb_Mo_count 37 = .ok (.aload_n 0, 1) := by decide +kernel
theorem dd_Mo_count_38 : decode bb_Mo_count 38 = .ok (.getfield 83, 3) := by decide +kernel
theorem dd_Mo_count_41 : decode bb_Mo_count 41 = .ok (.ireturn, 1) := by decide +kernel
theorem dd_Mo_count_42 : decode bb_Mo_count 42 = .ok (.aload_n 0, 1) := by decide +kernel
theorem dd_Mo_count_43 : decode bb_Mo_count 43 = .ok (.getfield 73, 3) := by decide +kernel
theorem dd_Mo_count_46 : decode bb_Mo_count 46 = .ok (.ireturn, 1) := by decide +kernel
theorem dd_Mo_count_47 : decode bb_Mo_count 47 = .ok (.aload_n 0, 1) := by decide +kernel
theorem dd_Mo_count_48 : decode bb_Mo_count 48 = .ok (.getfield 111, 3) := by decide +kernel
theorem dd_Mo_count_51 : decode bb_Mo_count 51 = .ok (.ireturn, 1) := by decide +kernel
theorem dd_Mo_count_52 : decode bb_Mo_count 52 = .ok (.iconst (-1), 1) := by decide +kernel
theorem dd_Mo_count_53 : decode bb_Mo_count 53 = .ok (.ireturn, 1) := by decide +kernel
theorem dd_Mo_size_0 : decode bb_Mo_size 0 = .ok (.aload_n 0, 1) := by decide +kernel
theorem dd_Mo_size_1 : decode bb_Mo_size 1 = .ok (.getfield 43, 3) := by decide +kernel
theorem dd_Mo_size_4 : decode bb_Mo_size 4 = .ok (.ireturn, 1) := by decide +kernel
