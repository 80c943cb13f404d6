theorem dL_cell_0 : decode cL_cell 0 = .ok (.iload_n 1, 1) := by decide +kernel
theorem dL_cell_1 : decode cL_cell 1 = .ok (.aload_n 0, 1) := by decide +kernel
theorem dL_cell_2 : decode cL_cell 2 = .ok (.arraylength, 1) := by decide +kernel
theorem dL_cell_3 : decode cL_cell 3 = .ok (.if_icmp .ge 9, 3) := by decide +kernel
theorem dL_cell_6 : decode cL_cell 6 = .ok (.aload_n 0, 1) := by decide +kernel
theorem dL_cell_7 : decode cL_cell 7 = .ok (.iload_n 1, 1) := by decide +kernel
theorem dL_cell_8 : decode cL_cell 8 = .ok (.iaload, 1) := by decide +kernel
theorem dL_cell_9 : decode cL_cell 9 = .ok (.goto 9, 3) := by decide +kernel
theorem dL_cell_12 : decode cL_cell 12 = .ok (.ldc 7, 2) := by decide +kernel
theorem dL_cell_14 : decode cL_cell 14 = .ok (.iload_n 1, 1) := by decide +kernel
theorem dL_cell_15 : decode cL_cell 15 = .ok (.iconst 3, 1) := by decide +kernel
theorem dL_cell_16 : decode cL_cell 16 = .ok (.iadd, 1) := by decide +kernel
theorem dL_cell_17 : decode cL_cell 17 = .ok (.imul, 1) := by decide +kernel
theorem dL_cell_18 : decode cL_cell 18 = .ok (.ireturn, 1) := by decide +kernel
theorem dL_low_0 : decode cL_low 0 = .ok (.iload_n 0, 1) := by decide +kernel
theorem dL_low_1 : decode cL_low 1 = .ok (.ldc 8, 2) := by decide +kernel
theorem dL_low_3 : decode cL_low 3 = .ok (.iand, 1) := by decide +kernel
theorem dL_low_4 : decode cL_low 4 = .ok (.iload_n 1, 1) := by decide +kernel
theorem dL_low_5 : decode cL_low 5 = .ok (.irem, 1) := by decide +kernel
theorem dL_low_6 : decode cL_low 6 = .ok (.ireturn, 1) := by decide +kernel
theorem dL_bits_0 : decode cL_bits 0 = .ok (.iconst 0, 1) := by decide +kernel
theorem dL_bits_1 : decode cL_bits 1 = .ok (.istore_n 1, 1) := by decide +kernel
theorem dL_bits_2 : decode cL_bits 2 = .ok (.iload_n 0, 1) := by decide +kernel
theorem dL_bits_3 : decode cL_bits 3 = .ok (.istore_n 2, 1) := by decide +kernel
theorem dL_bits_4 : decode cL_bits 4 = .ok (.iload_n 2, 1) := by decide +kernel
theorem dL_bits_5 : decode cL_bits 5 = .ok (.ifCond .le 15, 3) := by decide +kernel
theorem dL_bits_8 : decode cL_bits 8 = .ok (.iinc 1 1, 3) := by decide +kernel
theorem dL_bits_11 : decode cL_bits 11 = .ok (.iload_n 2, 1) := by decide +kernel
theorem dL_bits_12 : decode cL_bits 12 = .ok (.iload_n 2, 1) := by decide +kernel
theorem dL_bits_13 : decode cL_bits 13 = .ok (.iconst 1, 1) := by decide +kernel
theorem dL_bits_14 : decode cL_bits 14 = .ok (.isub, 1) := by decide +kernel
theorem dL_bits_15 : decode cL_bits 15 = .ok (.iand, 1) := by decide +kernel
theorem dL_bits_16 : decode cL_bits 16 = .ok (.istore_n 2, 1) := by decide +kernel
theorem dL_bits_17 : decode cL_bits 17 = .ok (.goto (-13), 3) := by decide +kernel
theorem dL_bits_20 : decode cL_bits 20 = .ok (.iload_n 1, 1) := by decide +kernel
theorem dL_bits_21 : decode cL_bits 21 = .ok (.ireturn, 1) := by decide +kernel
theorem dL_strip_0 : decode cL_strip 0 = .ok (.aload_n 1, 1) := by decide +kernel
theorem dL_strip_1 : decode cL_strip 1 = .ok (.bipush 13, 2) := by decide +kernel
theorem dL_strip_3 : decode cL_strip 3 = .ok (.iload_n 2, 1) := by decide +kernel
theorem dL_strip_4 : decode cL_strip 4 = .ok (.imul, 1) := by decide +kernel
theorem dL_strip_5 : decode cL_strip 5 = .ok (.iaload, 1) := by decide +kernel
theorem dL_strip_6 : decode cL_strip 6 = .ok (.iconst 1, 1) := by decide +kernel
theorem dL_strip_7 : decode cL_strip 7 = .ok (.isub, 1) := by decide +kernel
theorem dL_strip_8 : decode cL_strip 8 = .ok (.istore_n 3, 1) := by decide +kernel
theorem dL_strip_9 : decode cL_strip 9 = .ok (.iconst 1, 1) := by decide +kernel
theorem dL_strip_10 : decode cL_strip 10 = .ok (.istore 4, 2) := by decide +kernel
theorem dL_strip_12 : decode cL_strip 12 = .ok (.iload 4, 2) := by decide +kernel
theorem dL_strip_14 : decode cL_strip 14 = .ok (.aload_n 1, 1) := by decide +kernel
theorem dL_strip_15 : decode cL_strip 15 = .ok (.bipush 13, 2) := by decide +kernel
theorem dL_strip_17 : decode cL_strip 17 = .ok (.iload_n 2, 1) := by decide +kernel
theorem dL_strip_18 : decode cL_strip 18 = .ok (.imul, 1) := by decide +kernel
theorem dL_strip_19 : decode cL_strip 19 = .ok (.iaload, 1) := by decide +kernel
theorem dL_strip_20 : decode cL_strip 20 = .ok (.if_icmp .gt 44, 3) := by decide +kernel
theorem dL_strip_23 : decode cL_strip 23 = .ok (.iload_n 3, 1) := by decide +kernel
theorem dL_strip_24 : decode cL_strip 24 = .ok (.aload_n 1, 1) := by decide +kernel
theorem dL_strip_25 : decode cL_strip 25 = .ok (.bipush 13, 2) := by decide +kernel
theorem dL_strip_27 : decode cL_strip 27 = .ok (.iload_n 2, 1) := by decide +kernel
theorem dL_strip_28 : decode cL_strip 28 = .ok (.imul, 1) := by decide +kernel
theorem dL_strip_29 : decode cL_strip 29 = .ok (.iload 4, 2) := by decide +kernel
theorem dL_strip_31 : decode cL_strip 31 = .ok (.iadd, 1) := by decide +kernel
theorem dL_strip_32 : decode cL_strip 32 = .ok (.iaload, 1) := by decide +kernel
theorem dL_strip_33 : decode cL_strip 33 = .ok (.bipush 26, 2) := by decide +kernel
theorem dL_strip_35 : decode cL_strip 35 = .ok (.if_icmp .ne 7, 3) := by decide +kernel
theorem dL_strip_38 : decode cL_strip 38 = .ok (.iconst 2, 1) := by decide +kernel
theorem dL_strip_39 : decode cL_strip 39 = .ok (.goto 17, 3) := by decide +kernel
theorem dL_strip_42 : decode cL_strip 42 = .ok (.aload_n 0, 1) := by decide +kernel
theorem dL_strip_43 : decode cL_strip 43 = .ok (.bipush 6, 2) := by decide +kernel
theorem dL_strip_45 : decode cL_strip 45 = .ok (.aload_n 1, 1) := by decide +kernel
theorem dL_strip_46 : decode cL_strip 46 = .ok (.bipush 13, 2) := by decide +kernel
theorem dL_strip_48 : decode cL_strip 48 = .ok (.iload_n 2, 1) := by decide +kernel
theorem dL_strip_49 : decode cL_strip 49 = .ok (.imul, 1) := by decide +kernel
theorem dL_strip_50 : decode cL_strip 50 = .ok (.iload 4, 2) := by decide +kernel
theorem dL_strip_52 : decode cL_strip 52 = .ok (.iadd, 1) := by decide +kernel
theorem dL_strip_53 : decode cL_strip 53 = .ok (.iaload, 1) := by decide +kernel
theorem dL_strip_54 : decode cL_strip 54 = .ok (.imul, 1) := by decide +kernel
theorem dL_strip_55 : decode cL_strip 55 = .ok (.iaload, 1) := by decide +kernel
theorem dL_strip_56 : decode cL_strip 56 = .ok (.iadd, 1) := by decide +kernel
theorem dL_strip_57 : decode cL_strip 57 = .ok (.istore_n 3, 1) := by decide +kernel
theorem dL_strip_58 : decode cL_strip 58 = .ok (.iinc 4 1, 3) := by decide +kernel
theorem dL_strip_61 : decode cL_strip 61 = .ok (.goto (-49), 3) := by decide +kernel
theorem dL_strip_64 : decode cL_strip 64 = .ok (.iload_n 3, 1) := by decide +kernel
theorem dL_strip_65 : decode cL_strip 65 = .ok (.ireturn, 1) := by decide +kernel
theorem dL_picture_0 : decode cL_picture 0 = .ok (.aload_n 1, 1) := by decide +kernel
theorem dL_picture_1 : decode cL_picture 1 = .ok (.aload_n 2, 1) := by decide +kernel
theorem dL_picture_2 : decode cL_picture 2 = .ok (.iload_n 3, 1) := by decide +kernel
theorem dL_picture_3 : decode cL_picture 3 = .ok (.invokestatic 9, 3) := by decide +kernel
theorem dL_picture_6 : decode cL_picture 6 = .ok (.istore 6, 2) := by decide +kernel
theorem dL_picture_8 : decode cL_picture 8 = .ok (.iload 5, 2) := by decide +kernel
theorem dL_picture_10 : decode cL_picture 10 = .ok (.iload 4, 2) := by decide +kernel
theorem dL_picture_12 : decode cL_picture 12 = .ok (.isub, 1) := by decide +kernel
theorem dL_picture_13 : decode cL_picture 13 = .ok (.iload 6, 2) := by decide +kernel
theorem dL_picture_15 : decode cL_picture 15 = .ok (.aload_n 0, 1) := by decide +kernel
theorem dL_picture_16 : decode cL_picture 16 = .ok (.iconst 0, 1) := by decide +kernel
theorem dL_picture_17 : decode cL_picture 17 = .ok (.iaload, 1) := by decide +kernel
theorem dL_picture_18 : decode cL_picture 18 = .ok (.if_icmp .le 7, 3) := by decide +kernel
theorem dL_picture_21 : decode cL_picture 21 = .ok (.iconst 0, 1) := by decide +kernel
theorem dL_picture_22 : decode cL_picture 22 = .ok (.goto 11, 3) := by decide +kernel
theorem dL_picture_25 : decode cL_picture 25 = .ok (.aload_n 0, 1) := by decide +kernel
theorem dL_picture_26 : decode cL_picture 26 = .ok (.iconst 0, 1) := by decide +kernel
theorem dL_picture_27 : decode cL_picture 27 = .ok (.iaload, 1) := by decide +kernel
theorem dL_picture_28 : decode cL_picture 28 = .ok (.iload 6, 2) := by decide +kernel
theorem dL_picture_30 : decode cL_picture 30 = .ok (.isub, 1) := by decide +kernel
theorem dL_picture_31 : decode cL_picture 31 = .ok (.iconst 2, 1) := by decide +kernel
theorem dL_picture_32 : decode cL_picture 32 = .ok (.idiv, 1) := by decide +kernel
theorem dL_picture_33 : decode cL_picture 33 = .ok (.isub, 1) := by decide +kernel
theorem dL_picture_34 : decode cL_picture 34 = .ok (.istore 7, 2) := by decide +kernel
theorem dL_picture_36 : decode cL_picture 36 = .ok (.iconst 1, 1) := by decide +kernel
theorem dL_picture_37 : decode cL_picture 37 = .ok (.istore 8, 2) := by decide +kernel
theorem dL_picture_39 : decode cL_picture 39 = .ok (.iload 8, 2) := by decide +kernel
theorem dL_picture_41 : decode cL_picture 41 = .ok (.aload_n 2, 1) := by decide +kernel
theorem dL_picture_42 : decode cL_picture 42 = .ok (.bipush 13, 2) := by decide +kernel
theorem dL_picture_44 : decode cL_picture 44 = .ok (.iload_n 3, 1) := by decide +kernel
theorem dL_picture_45 : decode cL_picture 45 = .ok (.imul, 1) := by decide +kernel
theorem dL_picture_46 : decode cL_picture 46 = .ok (.iaload, 1) := by decide +kernel
theorem dL_picture_47 : decode cL_picture 47 = .ok (.if_icmp .gt 85, 3) := by decide +kernel
theorem dL_picture_50 : decode cL_picture 50 = .ok (.iload 7, 2) := by decide +kernel
theorem dL_picture_52 : decode cL_picture 52 = .ok (.ifCond .lt 80, 3) := by decide +kernel
theorem dL_picture_55 : decode cL_picture 55 = .ok (.aload_n 2, 1) := by decide +kernel
theorem dL_picture_56 : decode cL_picture 56 = .ok (.bipush 13, 2) := by decide +kernel
theorem dL_picture_58 : decode cL_picture 58 = .ok (.iload_n 3, 1) := by decide +kernel
theorem dL_picture_59 : decode cL_picture 59 = .ok (.imul, 1) := by decide +kernel
theorem dL_picture_60 : decode cL_picture 60 = .ok (.iload 8, 2) := by decide +kernel
theorem dL_picture_62 : decode cL_picture 62 = .ok (.iadd, 1) := by decide +kernel
theorem dL_picture_63 : decode cL_picture 63 = .ok (.iaload, 1) := by decide +kernel
theorem dL_picture_64 : decode cL_picture 64 = .ok (.istore 9, 2) := by decide +kernel
theorem dL_picture_66 : decode cL_picture 66 = .ok (.iload 9, 2) := by decide +kernel
theorem dL_picture_68 : decode cL_picture 68 = .ok (.bipush 26, 2) := by decide +kernel
theorem dL_picture_70 : decode cL_picture 70 = .ok (.if_icmp .ne 7, 3) := by decide +kernel
theorem dL_picture_73 : decode cL_picture 73 = .ok (.iconst 2, 1) := by decide +kernel
theorem dL_picture_74 : decode cL_picture 74 = .ok (.goto 10, 3) := by decide +kernel
theorem dL_picture_77 : decode cL_picture 77 = .ok (.aload_n 1, 1) := by decide +kernel
theorem dL_picture_78 : decode cL_picture 78 = .ok (.bipush 6, 2) := by decide +kernel
theorem dL_picture_80 : decode cL_picture 80 = .ok (.iload 9, 2) := by decide +kernel
theorem dL_picture_82 : decode cL_picture 82 = .ok (.imul, 1) := by decide +kernel
theorem dL_picture_83 : decode cL_picture 83 = .ok (.iaload, 1) := by decide +kernel
theorem dL_picture_84 : decode cL_picture 84 = .ok (.istore 10, 2) := by decide +kernel
theorem dL_picture_86 : decode cL_picture 86 = .ok (.iload 7, 2) := by decide +kernel
theorem dL_picture_88 : decode cL_picture 88 = .ok (.iload 10, 2) := by decide +kernel
theorem dL_picture_90 : decode cL_picture 90 = .ok (.if_icmp .ge 27, 3) := by decide +kernel
theorem dL_picture_93 : decode cL_picture 93 = .ok (.iload 9, 2) := by decide +kernel
theorem dL_picture_95 : decode cL_picture 95 = .ok (.bipush 26, 2) := by decide +kernel
theorem dL_picture_97 : decode cL_picture 97 = .ok (.if_icmp .ne 7, 3) := by decide +kernel
theorem dL_picture_100 : decode cL_picture 100 = .ok (.iconst 0, 1) := by decide +kernel
theorem dL_picture_101 : decode cL_picture 101 = .ok (.goto 15, 3) := by decide +kernel
theorem dL_picture_104 : decode cL_picture 104 = .ok (.aload_n 1, 1) := by decide +kernel
theorem dL_picture_105 : decode cL_picture 105 = .ok (.bipush 6, 2) := by decide +kernel
theorem dL_picture_107 : decode cL_picture 107 = .ok (.iload 9, 2) := by decide +kernel
theorem dL_picture_109 : decode cL_picture 109 = .ok (.imul, 1) := by decide +kernel
theorem dL_picture_110 : decode cL_picture 110 = .ok (.iconst 1, 1) := by decide +kernel
theorem dL_picture_111 : decode cL_picture 111 = .ok (.iadd, 1) := by decide +kernel
theorem dL_picture_112 : decode cL_picture 112 = .ok (.iload 7, 2) := by decide +kernel
theorem dL_picture_114 : decode cL_picture 114 = .ok (.iadd, 1) := by decide +kernel
theorem dL_picture_115 : decode cL_picture 115 = .ok (.iaload, 1) := by decide +kernel
theorem dL_picture_116 : decode cL_picture 116 = .ok (.ireturn, 1) := by decide +kernel
theorem dL_picture_117 : decode cL_picture 117 = .ok (.iload 7, 2) := by decide +kernel
theorem dL_picture_119 : decode cL_picture 119 = .ok (.iload 10, 2) := by decide +kernel
theorem dL_picture_121 : decode cL_picture 121 = .ok (.iconst 1, 1) := by decide +kernel
theorem dL_picture_122 : decode cL_picture 122 = .ok (.iadd, 1) := by decide +kernel
theorem dL_picture_123 : decode cL_picture 123 = .ok (.isub, 1) := by decide +kernel
theorem dL_picture_124 : decode cL_picture 124 = .ok (.istore 7, 2) := by decide +kernel
theorem dL_picture_126 : decode cL_picture 126 = .ok (.iinc 8 1, 3) := by decide +kernel
theorem dL_picture_129 : decode cL_picture 129 = .ok (.goto (-90), 3) := by decide +kernel
theorem dL_picture_132 : decode cL_picture 132 = .ok (.iconst 0, 1) := by decide +kernel
theorem dL_picture_133 : decode cL_picture 133 = .ok (.ireturn, 1) := by decide +kernel
theorem dL_due_0 : decode cL_due 0 = .ok (.iconst 0, 1) := by decide +kernel
theorem dL_due_1 : decode cL_due 1 = .ok (.istore_n 2, 1) := by decide +kernel
theorem dL_due_2 : decode cL_due 2 = .ok (.iconst 0, 1) := by decide +kernel
theorem dL_due_3 : decode cL_due 3 = .ok (.istore_n 3, 1) := by decide +kernel
theorem dL_due_4 : decode cL_due 4 = .ok (.iload_n 3, 1) := by decide +kernel
theorem dL_due_5 : decode cL_due 5 = .ok (.aload_n 0, 1) := by decide +kernel
theorem dL_due_6 : decode cL_due 6 = .ok (.iconst 0, 1) := by decide +kernel
theorem dL_due_7 : decode cL_due 7 = .ok (.iaload, 1) := by decide +kernel
theorem dL_due_8 : decode cL_due 8 = .ok (.if_icmp .ge 37, 3) := by decide +kernel
theorem dL_due_11 : decode cL_due 11 = .ok (.iload_n 2, 1) := by decide +kernel
theorem dL_due_12 : decode cL_due 12 = .ok (.aload_n 1, 1) := by decide +kernel
theorem dL_due_13 : decode cL_due 13 = .ok (.iload_n 3, 1) := by decide +kernel
theorem dL_due_14 : decode cL_due 14 = .ok (.iaload, 1) := by decide +kernel
theorem dL_due_15 : decode cL_due 15 = .ok (.aload_n 1, 1) := by decide +kernel
theorem dL_due_16 : decode cL_due 16 = .ok (.bipush 16, 2) := by decide +kernel
theorem dL_due_18 : decode cL_due 18 = .ok (.iload_n 3, 1) := by decide +kernel
theorem dL_due_19 : decode cL_due 19 = .ok (.iadd, 1) := by decide +kernel
theorem dL_due_20 : decode cL_due 20 = .ok (.iaload, 1) := by decide +kernel
theorem dL_due_21 : decode cL_due 21 = .ok (.ixor, 1) := by decide +kernel
theorem dL_due_22 : decode cL_due 22 = .ok (.aload_n 1, 1) := by decide +kernel
theorem dL_due_23 : decode cL_due 23 = .ok (.bipush 48, 2) := by decide +kernel
theorem dL_due_25 : decode cL_due 25 = .ok (.iload_n 3, 1) := by decide +kernel
theorem dL_due_26 : decode cL_due 26 = .ok (.iadd, 1) := by decide +kernel
theorem dL_due_27 : decode cL_due 27 = .ok (.iaload, 1) := by decide +kernel
theorem dL_due_28 : decode cL_due 28 = .ok (.iconst (-1), 1) := by decide +kernel
theorem dL_due_29 : decode cL_due 29 = .ok (.ixor, 1) := by decide +kernel
theorem dL_due_30 : decode cL_due 30 = .ok (.iand, 1) := by decide +kernel
theorem dL_due_31 : decode cL_due 31 = .ok (.bipush 127, 2) := by decide +kernel
theorem dL_due_33 : decode cL_due 33 = .ok (.iand, 1) := by decide +kernel
theorem dL_due_34 : decode cL_due 34 = .ok (.invokestatic 15, 3) := by decide +kernel
theorem dL_due_37 : decode cL_due 37 = .ok (.iadd, 1) := by decide +kernel
theorem dL_due_38 : decode cL_due 38 = .ok (.istore_n 2, 1) := by decide +kernel
theorem dL_due_39 : decode cL_due 39 = .ok (.iinc 3 1, 3) := by decide +kernel
theorem dL_due_42 : decode cL_due 42 = .ok (.goto (-38), 3) := by decide +kernel
theorem dL_due_45 : decode cL_due 45 = .ok (.iload_n 2, 1) := by decide +kernel
theorem dL_due_46 : decode cL_due 46 = .ok (.ireturn, 1) := by decide +kernel
theorem dL_goes_0 : decode cL_goes 0 = .ok (.iload 4, 2) := by decide +kernel
theorem dL_goes_2 : decode cL_goes 2 = .ok (.iconst 1, 1) := by decide +kernel
theorem dL_goes_3 : decode cL_goes 3 = .ok (.isub, 1) := by decide +kernel
theorem dL_goes_4 : decode cL_goes 4 = .ok (.istore 5, 2) := by decide +kernel
theorem dL_goes_6 : decode cL_goes 6 = .ok (.aload_n 1, 1) := by decide +kernel
theorem dL_goes_7 : decode cL_goes 7 = .ok (.iload_n 3, 1) := by decide +kernel
theorem dL_goes_8 : decode cL_goes 8 = .ok (.iaload, 1) := by decide +kernel
theorem dL_goes_9 : decode cL_goes 9 = .ok (.aload_n 1, 1) := by decide +kernel
theorem dL_goes_10 : decode cL_goes 10 = .ok (.bipush 16, 2) := by decide +kernel
theorem dL_goes_12 : decode cL_goes 12 = .ok (.iload_n 3, 1) := by decide +kernel
theorem dL_goes_13 : decode cL_goes 13 = .ok (.iadd, 1) := by decide +kernel
theorem dL_goes_14 : decode cL_goes 14 = .ok (.iaload, 1) := by decide +kernel
theorem dL_goes_15 : decode cL_goes 15 = .ok (.ixor, 1) := by decide +kernel
theorem dL_goes_16 : decode cL_goes 16 = .ok (.aload_n 1, 1) := by decide +kernel
theorem dL_goes_17 : decode cL_goes 17 = .ok (.bipush 48, 2) := by decide +kernel
theorem dL_goes_19 : decode cL_goes 19 = .ok (.iload_n 3, 1) := by decide +kernel
theorem dL_goes_20 : decode cL_goes 20 = .ok (.iadd, 1) := by decide +kernel
theorem dL_goes_21 : decode cL_goes 21 = .ok (.iaload, 1) := by decide +kernel
theorem dL_goes_22 : decode cL_goes 22 = .ok (.iconst (-1), 1) := by decide +kernel
theorem dL_goes_23 : decode cL_goes 23 = .ok (.ixor, 1) := by decide +kernel
theorem dL_goes_24 : decode cL_goes 24 = .ok (.iand, 1) := by decide +kernel
theorem dL_goes_25 : decode cL_goes 25 = .ok (.istore 6, 2) := by decide +kernel
theorem dL_goes_27 : decode cL_goes 27 = .ok (.iconst 0, 1) := by decide +kernel
theorem dL_goes_28 : decode cL_goes 28 = .ok (.istore 7, 2) := by decide +kernel
theorem dL_goes_30 : decode cL_goes 30 = .ok (.iload 7, 2) := by decide +kernel
theorem dL_goes_32 : decode cL_goes 32 = .ok (.bipush 7, 2) := by decide +kernel
theorem dL_goes_34 : decode cL_goes 34 = .ok (.if_icmp .ge 134, 3) := by decide +kernel
theorem dL_goes_37 : decode cL_goes 37 = .ok (.iload 6, 2) := by decide +kernel
theorem dL_goes_39 : decode cL_goes 39 = .ok (.iload 7, 2) := by decide +kernel
theorem dL_goes_41 : decode cL_goes 41 = .ok (.ishr, 1) := by decide +kernel
theorem dL_goes_42 : decode cL_goes 42 = .ok (.iconst 1, 1) := by decide +kernel
theorem dL_goes_43 : decode cL_goes 43 = .ok (.iand, 1) := by decide +kernel
theorem dL_goes_44 : decode cL_goes 44 = .ok (.iconst 1, 1) := by decide +kernel
theorem dL_goes_45 : decode cL_goes 45 = .ok (.if_icmp .ne 117, 3) := by decide +kernel
theorem dL_goes_48 : decode cL_goes 48 = .ok (.iload 5, 2) := by decide +kernel
theorem dL_goes_50 : decode cL_goes 50 = .ok (.ifCond .le 112, 3) := by decide +kernel
theorem dL_goes_53 : decode cL_goes 53 = .ok (.iinc 5 (-1), 3) := by decide +kernel
theorem dL_goes_56 : decode cL_goes 56 = .ok (.aload_n 1, 1) := by decide +kernel
theorem dL_goes_57 : decode cL_goes 57 = .ok (.bipush 32, 2) := by decide +kernel
theorem dL_goes_59 : decode cL_goes 59 = .ok (.iload_n 3, 1) := by decide +kernel
theorem dL_goes_60 : decode cL_goes 60 = .ok (.iadd, 1) := by decide +kernel
theorem dL_goes_61 : decode cL_goes 61 = .ok (.iaload, 1) := by decide +kernel
theorem dL_goes_62 : decode cL_goes 62 = .ok (.iload 7, 2) := by decide +kernel
theorem dL_goes_64 : decode cL_goes 64 = .ok (.ishr, 1) := by decide +kernel
theorem dL_goes_65 : decode cL_goes 65 = .ok (.iconst 1, 1) := by decide +kernel
theorem dL_goes_66 : decode cL_goes 66 = .ok (.iand, 1) := by decide +kernel
theorem dL_goes_67 : decode cL_goes 67 = .ok (.iconst 1, 1) := by decide +kernel
theorem dL_goes_68 : decode cL_goes 68 = .ok (.if_icmp .ne 26, 3) := by decide +kernel
theorem dL_goes_71 : decode cL_goes 71 = .ok (.aload_n 1, 1) := by decide +kernel
theorem dL_goes_72 : decode cL_goes 72 = .ok (.bipush 48, 2) := by decide +kernel
theorem dL_goes_74 : decode cL_goes 74 = .ok (.iload_n 3, 1) := by decide +kernel
theorem dL_goes_75 : decode cL_goes 75 = .ok (.iadd, 1) := by decide +kernel
theorem dL_goes_76 : decode cL_goes 76 = .ok (.dup2, 1) := by decide +kernel
theorem dL_goes_77 : decode cL_goes 77 = .ok (.iaload, 1) := by decide +kernel
theorem dL_goes_78 : decode cL_goes 78 = .ok (.iconst 1, 1) := by decide +kernel
theorem dL_goes_79 : decode cL_goes 79 = .ok (.iload 7, 2) := by decide +kernel
theorem dL_goes_81 : decode cL_goes 81 = .ok (.ishl, 1) := by decide +kernel
theorem dL_goes_82 : decode cL_goes 82 = .ok (.ior, 1) := by decide +kernel
theorem dL_goes_83 : decode cL_goes 83 = .ok (.iastore, 1) := by decide +kernel
theorem dL_goes_84 : decode cL_goes 84 = .ok (.aload_n 0, 1) := by decide +kernel
theorem dL_goes_85 : decode cL_goes 85 = .ok (.iconst 5, 1) := by decide +kernel
theorem dL_goes_86 : decode cL_goes 86 = .ok (.dup2, 1) := by decide +kernel
theorem dL_goes_87 : decode cL_goes 87 = .ok (.iaload, 1) := by decide +kernel
theorem dL_goes_88 : decode cL_goes 88 = .ok (.iconst 1, 1) := by decide +kernel
theorem dL_goes_89 : decode cL_goes 89 = .ok (.iadd, 1) := by decide +kernel
theorem dL_goes_90 : decode cL_goes 90 = .ok (.iastore, 1) := by decide +kernel
theorem dL_goes_91 : decode cL_goes 91 = .ok (.goto 71, 3) := by decide +kernel
theorem dL_goes_94 : decode cL_goes 94 = .ok (.aload_n 1, 1) := by decide +kernel
theorem dL_goes_95 : decode cL_goes 95 = .ok (.iload_n 3, 1) := by decide +kernel
theorem dL_goes_96 : decode cL_goes 96 = .ok (.dup2, 1) := by decide +kernel
theorem dL_goes_97 : decode cL_goes 97 = .ok (.iaload, 1) := by decide +kernel
theorem dL_goes_98 : decode cL_goes 98 = .ok (.iconst 1, 1) := by decide +kernel
theorem dL_goes_99 : decode cL_goes 99 = .ok (.iload 7, 2) := by decide +kernel
theorem dL_goes_101 : decode cL_goes 101 = .ok (.ishl, 1) := by decide +kernel
theorem dL_goes_102 : decode cL_goes 102 = .ok (.ixor, 1) := by decide +kernel
theorem dL_goes_103 : decode cL_goes 103 = .ok (.iastore, 1) := by decide +kernel
theorem dL_goes_104 : decode cL_goes 104 = .ok (.aload_n 2, 1) := by decide +kernel
theorem dL_goes_105 : decode cL_goes 105 = .ok (.iload_n 3, 1) := by decide +kernel
theorem dL_goes_106 : decode cL_goes 106 = .ok (.dup2, 1) := by decide +kernel
theorem dL_goes_107 : decode cL_goes 107 = .ok (.laload, 1) := by decide +kernel
theorem dL_goes_108 : decode cL_goes 108 = .ok (.lconst 1, 1) := by decide +kernel
theorem dL_goes_109 : decode cL_goes 109 = .ok (.bipush 8, 2) := by decide +kernel
theorem dL_goes_111 : decode cL_goes 111 = .ok (.iload 7, 2) := by decide +kernel
theorem dL_goes_113 : decode cL_goes 113 = .ok (.imul, 1) := by decide +kernel
theorem dL_goes_114 : decode cL_goes 114 = .ok (.lshl, 1) := by decide +kernel
theorem dL_goes_115 : decode cL_goes 115 = .ok (.ladd, 1) := by decide +kernel
theorem dL_goes_116 : decode cL_goes 116 = .ok (.lastore, 1) := by decide +kernel
theorem dL_goes_117 : decode cL_goes 117 = .ok (.aload_n 0, 1) := by decide +kernel
theorem dL_goes_118 : decode cL_goes 118 = .ok (.iconst 4, 1) := by decide +kernel
theorem dL_goes_119 : decode cL_goes 119 = .ok (.dup2, 1) := by decide +kernel
theorem dL_goes_120 : decode cL_goes 120 = .ok (.iaload, 1) := by decide +kernel
theorem dL_goes_121 : decode cL_goes 121 = .ok (.iconst 1, 1) := by decide +kernel
theorem dL_goes_122 : decode cL_goes 122 = .ok (.iadd, 1) := by decide +kernel
theorem dL_goes_123 : decode cL_goes 123 = .ok (.iastore, 1) := by decide +kernel
theorem dL_goes_124 : decode cL_goes 124 = .ok (.aload_n 1, 1) := by decide +kernel
theorem dL_goes_125 : decode cL_goes 125 = .ok (.bipush 32, 2) := by decide +kernel
theorem dL_goes_127 : decode cL_goes 127 = .ok (.iload_n 3, 1) := by decide +kernel
theorem dL_goes_128 : decode cL_goes 128 = .ok (.iadd, 1) := by decide +kernel
theorem dL_goes_129 : decode cL_goes 129 = .ok (.dup2, 1) := by decide +kernel
theorem dL_goes_130 : decode cL_goes 130 = .ok (.iaload, 1) := by decide +kernel
theorem dL_goes_131 : decode cL_goes 131 = .ok (.aload_n 2, 1) := by decide +kernel
theorem dL_goes_132 : decode cL_goes 132 = .ok (.iload_n 3, 1) := by decide +kernel
theorem dL_goes_133 : decode cL_goes 133 = .ok (.laload, 1) := by decide +kernel
theorem dL_goes_134 : decode cL_goes 134 = .ok (.bipush 8, 2) := by decide +kernel
theorem dL_goes_136 : decode cL_goes 136 = .ok (.iload 7, 2) := by decide +kernel
theorem dL_goes_138 : decode cL_goes 138 = .ok (.imul, 1) := by decide +kernel
theorem dL_goes_139 : decode cL_goes 139 = .ok (.lshr, 1) := by decide +kernel
theorem dL_goes_140 : decode cL_goes 140 = .ok (.ldc2_w 19, 3) := by decide +kernel
theorem dL_goes_143 : decode cL_goes 143 = .ok (.land, 1) := by decide +kernel
theorem dL_goes_144 : decode cL_goes 144 = .ok (.aload_n 0, 1) := by decide +kernel
theorem dL_goes_145 : decode cL_goes 145 = .ok (.iconst 3, 1) := by decide +kernel
theorem dL_goes_146 : decode cL_goes 146 = .ok (.iaload, 1) := by decide +kernel
theorem dL_goes_147 : decode cL_goes 147 = .ok (.i2l, 1) := by decide +kernel
theorem dL_goes_148 : decode cL_goes 148 = .ok (.lcmp, 1) := by decide +kernel
theorem dL_goes_149 : decode cL_goes 149 = .ok (.ifCond .lt 10, 3) := by decide +kernel
theorem dL_goes_152 : decode cL_goes 152 = .ok (.iconst 1, 1) := by decide +kernel
theorem dL_goes_153 : decode cL_goes 153 = .ok (.iload 7, 2) := by decide +kernel
theorem dL_goes_155 : decode cL_goes 155 = .ok (.ishl, 1) := by decide +kernel
theorem dL_goes_156 : decode cL_goes 156 = .ok (.goto 4, 3) := by decide +kernel
theorem dL_goes_159 : decode cL_goes 159 = .ok (.iconst 0, 1) := by decide +kernel
theorem dL_goes_160 : decode cL_goes 160 = .ok (.ior, 1) := by decide +kernel
theorem dL_goes_161 : decode cL_goes 161 = .ok (.iastore, 1) := by decide +kernel
theorem dL_goes_162 : decode cL_goes 162 = .ok (.iinc 7 1, 3) := by decide +kernel
theorem dL_goes_165 : decode cL_goes 165 = .ok (.goto (-135), 3) := by decide +kernel
theorem dL_goes_168 : decode cL_goes 168 = .ok (.iload 5, 2) := by decide +kernel
theorem dL_goes_170 : decode cL_goes 170 = .ok (.ireturn, 1) := by decide +kernel
theorem dL_second_0 : decode cL_second 0 = .ok (.aload_n 0, 1) := by decide +kernel
theorem dL_second_1 : decode cL_second 1 = .ok (.iconst 1, 1) := by decide +kernel
theorem dL_second_2 : decode cL_second 2 = .ok (.iaload, 1) := by decide +kernel
theorem dL_second_3 : decode cL_second 3 = .ok (.istore_n 3, 1) := by decide +kernel
theorem dL_second_4 : decode cL_second 4 = .ok (.bipush 16, 2) := by decide +kernel
theorem dL_second_6 : decode cL_second 6 = .ok (.newarray .int, 2) := by decide +kernel
theorem dL_second_8 : decode cL_second 8 = .ok (.astore 4, 2) := by decide +kernel
theorem dL_second_10 : decode cL_second 10 = .ok (.iconst 0, 1) := by decide +kernel
theorem dL_second_11 : decode cL_second 11 = .ok (.istore 5, 2) := by decide +kernel
theorem dL_second_13 : decode cL_second 13 = .ok (.iload 5, 2) := by decide +kernel
theorem dL_second_15 : decode cL_second 15 = .ok (.aload_n 0, 1) := by decide +kernel
theorem dL_second_16 : decode cL_second 16 = .ok (.iconst 0, 1) := by decide +kernel
theorem dL_second_17 : decode cL_second 17 = .ok (.iaload, 1) := by decide +kernel
theorem dL_second_18 : decode cL_second 18 = .ok (.if_icmp .ge 39, 3) := by decide +kernel
theorem dL_second_21 : decode cL_second 21 = .ok (.aload 4, 2) := by decide +kernel
theorem dL_second_23 : decode cL_second 23 = .ok (.iload 5, 2) := by decide +kernel
theorem dL_second_25 : decode cL_second 25 = .ok (.aload_n 1, 1) := by decide +kernel
theorem dL_second_26 : decode cL_second 26 = .ok (.iload 5, 2) := by decide +kernel
theorem dL_second_28 : decode cL_second 28 = .ok (.iaload, 1) := by decide +kernel
theorem dL_second_29 : decode cL_second 29 = .ok (.aload_n 1, 1) := by decide +kernel
theorem dL_second_30 : decode cL_second 30 = .ok (.bipush 16, 2) := by decide +kernel
theorem dL_second_32 : decode cL_second 32 = .ok (.iload 5, 2) := by decide +kernel
theorem dL_second_34 : decode cL_second 34 = .ok (.iadd, 1) := by decide +kernel
theorem dL_second_35 : decode cL_second 35 = .ok (.iaload, 1) := by decide +kernel
theorem dL_second_36 : decode cL_second 36 = .ok (.ixor, 1) := by decide +kernel
theorem dL_second_37 : decode cL_second 37 = .ok (.aload_n 1, 1) := by decide +kernel
theorem dL_second_38 : decode cL_second 38 = .ok (.bipush 48, 2) := by decide +kernel
theorem dL_second_40 : decode cL_second 40 = .ok (.iload 5, 2) := by decide +kernel
theorem dL_second_42 : decode cL_second 42 = .ok (.iadd, 1) := by decide +kernel
theorem dL_second_43 : decode cL_second 43 = .ok (.iaload, 1) := by decide +kernel
theorem dL_second_44 : decode cL_second 44 = .ok (.iconst (-1), 1) := by decide +kernel
theorem dL_second_45 : decode cL_second 45 = .ok (.ixor, 1) := by decide +kernel
theorem dL_second_46 : decode cL_second 46 = .ok (.iand, 1) := by decide +kernel
theorem dL_second_47 : decode cL_second 47 = .ok (.invokestatic 15, 3) := by decide +kernel
theorem dL_second_50 : decode cL_second 50 = .ok (.iastore, 1) := by decide +kernel
theorem dL_second_51 : decode cL_second 51 = .ok (.iinc 5 1, 3) := by decide +kernel
theorem dL_second_54 : decode cL_second 54 = .ok (.goto (-41), 3) := by decide +kernel
theorem dL_second_57 : decode cL_second 57 = .ok (.bipush 7, 2) := by decide +kernel
theorem dL_second_59 : decode cL_second 59 = .ok (.istore 5, 2) := by decide +kernel
theorem dL_second_61 : decode cL_second 61 = .ok (.iload 5, 2) := by decide +kernel
theorem dL_second_63 : decode cL_second 63 = .ok (.ifCond .le 98, 3) := by decide +kernel
theorem dL_second_66 : decode cL_second 66 = .ok (.iconst 0, 1) := by decide +kernel
theorem dL_second_67 : decode cL_second 67 = .ok (.istore 6, 2) := by decide +kernel
theorem dL_second_69 : decode cL_second 69 = .ok (.iload 6, 2) := by decide +kernel
theorem dL_second_71 : decode cL_second 71 = .ok (.aload_n 0, 1) := by decide +kernel
theorem dL_second_72 : decode cL_second 72 = .ok (.iconst 0, 1) := by decide +kernel
theorem dL_second_73 : decode cL_second 73 = .ok (.iaload, 1) := by decide +kernel
theorem dL_second_74 : decode cL_second 74 = .ok (.if_icmp .ge 81, 3) := by decide +kernel
theorem dL_second_77 : decode cL_second 77 = .ok (.aload_n 0, 1) := by decide +kernel
theorem dL_second_78 : decode cL_second 78 = .ok (.iconst 2, 1) := by decide +kernel
theorem dL_second_79 : decode cL_second 79 = .ok (.iaload, 1) := by decide +kernel
theorem dL_second_80 : decode cL_second 80 = .ok (.iconst 1, 1) := by decide +kernel
theorem dL_second_81 : decode cL_second 81 = .ok (.if_icmp .ne 14, 3) := by decide +kernel
theorem dL_second_84 : decode cL_second 84 = .ok (.aload_n 0, 1) := by decide +kernel
theorem dL_second_85 : decode cL_second 85 = .ok (.iconst 0, 1) := by decide +kernel
theorem dL_second_86 : decode cL_second 86 = .ok (.iaload, 1) := by decide +kernel
theorem dL_second_87 : decode cL_second 87 = .ok (.iconst 1, 1) := by decide +kernel
theorem dL_second_88 : decode cL_second 88 = .ok (.isub, 1) := by decide +kernel
theorem dL_second_89 : decode cL_second 89 = .ok (.iload 6, 2) := by decide +kernel
theorem dL_second_91 : decode cL_second 91 = .ok (.isub, 1) := by decide +kernel
theorem dL_second_92 : decode cL_second 92 = .ok (.goto 5, 3) := by decide +kernel
theorem dL_second_95 : decode cL_second 95 = .ok (.iload 6, 2) := by decide +kernel
theorem dL_second_97 : decode cL_second 97 = .ok (.istore 7, 2) := by decide +kernel
theorem dL_second_99 : decode cL_second 99 = .ok (.aload_n 0, 1) := by decide +kernel
theorem dL_second_100 : decode cL_second 100 = .ok (.iconst 2, 1) := by decide +kernel
theorem dL_second_101 : decode cL_second 101 = .ok (.iaload, 1) := by decide +kernel
theorem dL_second_102 : decode cL_second 102 = .ok (.iconst 2, 1) := by decide +kernel
theorem dL_second_103 : decode cL_second 103 = .ok (.if_icmp .ne 16, 3) := by decide +kernel
theorem dL_second_106 : decode cL_second 106 = .ok (.aload 4, 2) := by decide +kernel
theorem dL_second_108 : decode cL_second 108 = .ok (.iload 7, 2) := by decide +kernel
theorem dL_second_110 : decode cL_second 110 = .ok (.iaload, 1) := by decide +kernel
theorem dL_second_111 : decode cL_second 111 = .ok (.iload 5, 2) := by decide +kernel
theorem dL_second_113 : decode cL_second 113 = .ok (.if_icmp .ne 36, 3) := by decide +kernel
theorem dL_second_116 : decode cL_second 116 = .ok (.goto 18, 3) := by decide +kernel
theorem dL_second_119 : decode cL_second 119 = .ok (.iload 5, 2) := by decide +kernel
theorem dL_second_121 : decode cL_second 121 = .ok (.bipush 7, 2) := by decide +kernel
theorem dL_second_123 : decode cL_second 123 = .ok (.if_icmp .ne 26, 3) := by decide +kernel
theorem dL_second_126 : decode cL_second 126 = .ok (.aload 4, 2) := by decide +kernel
theorem dL_second_128 : decode cL_second 128 = .ok (.iload 7, 2) := by decide +kernel
theorem dL_second_130 : decode cL_second 130 = .ok (.iaload, 1) := by decide +kernel
theorem dL_second_131 : decode cL_second 131 = .ok (.ifCond .le 18, 3) := by decide +kernel
theorem dL_second_134 : decode cL_second 134 = .ok (.iload_n 3, 1) := by decide +kernel
theorem dL_second_135 : decode cL_second 135 = .ok (.iconst 1, 1) := by decide +kernel
theorem dL_second_136 : decode cL_second 136 = .ok (.if_icmp .le 13, 3) := by decide +kernel
theorem dL_second_139 : decode cL_second 139 = .ok (.aload_n 0, 1) := by decide +kernel
theorem dL_second_140 : decode cL_second 140 = .ok (.aload_n 1, 1) := by decide +kernel
theorem dL_second_141 : decode cL_second 141 = .ok (.aload_n 2, 1) := by decide +kernel
theorem dL_second_142 : decode cL_second 142 = .ok (.iload 7, 2) := by decide +kernel
theorem dL_second_144 : decode cL_second 144 = .ok (.iload_n 3, 1) := by decide +kernel
theorem dL_second_145 : decode cL_second 145 = .ok (.invokestatic 21, 3) := by decide +kernel
theorem dL_second_148 : decode cL_second 148 = .ok (.istore_n 3, 1) := by decide +kernel
theorem dL_second_149 : decode cL_second 149 = .ok (.iinc 6 1, 3) := by decide +kernel
theorem dL_second_152 : decode cL_second 152 = .ok (.goto (-83), 3) := by decide +kernel
theorem dL_second_155 : decode cL_second 155 = .ok (.iinc 5 (-1), 3) := by decide +kernel
theorem dL_second_158 : decode cL_second 158 = .ok (.goto (-97), 3) := by decide +kernel
theorem dL_second_161 : decode cL_second 161 = .ok (.bipush 27, 2) := by decide +kernel
theorem dL_second_163 : decode cL_second 163 = .ok (.istore 5, 2) := by decide +kernel
theorem dL_second_165 : decode cL_second 165 = .ok (.iload 5, 2) := by decide +kernel
theorem dL_second_167 : decode cL_second 167 = .ok (.bipush 8, 2) := by decide +kernel
theorem dL_second_169 : decode cL_second 169 = .ok (.if_icmp .le 19, 3) := by decide +kernel
theorem dL_second_172 : decode cL_second 172 = .ok (.aload_n 0, 1) := by decide +kernel
theorem dL_second_173 : decode cL_second 173 = .ok (.iload 5, 2) := by decide +kernel
theorem dL_second_175 : decode cL_second 175 = .ok (.aload_n 0, 1) := by decide +kernel
theorem dL_second_176 : decode cL_second 176 = .ok (.iload 5, 2) := by decide +kernel
theorem dL_second_178 : decode cL_second 178 = .ok (.iconst 1, 1) := by decide +kernel
theorem dL_second_179 : decode cL_second 179 = .ok (.isub, 1) := by decide +kernel
theorem dL_second_180 : decode cL_second 180 = .ok (.iaload, 1) := by decide +kernel
theorem dL_second_181 : decode cL_second 181 = .ok (.iastore, 1) := by decide +kernel
theorem dL_second_182 : decode cL_second 182 = .ok (.iinc 5 (-1), 3) := by decide +kernel
theorem dL_second_185 : decode cL_second 185 = .ok (.goto (-20), 3) := by decide +kernel
theorem dL_second_188 : decode cL_second 188 = .ok (.aload_n 0, 1) := by decide +kernel
theorem dL_second_189 : decode cL_second 189 = .ok (.bipush 8, 2) := by decide +kernel
theorem dL_second_191 : decode cL_second 191 = .ok (.aload_n 0, 1) := by decide +kernel
theorem dL_second_192 : decode cL_second 192 = .ok (.iconst 1, 1) := by decide +kernel
theorem dL_second_193 : decode cL_second 193 = .ok (.iaload, 1) := by decide +kernel
theorem dL_second_194 : decode cL_second 194 = .ok (.iload_n 3, 1) := by decide +kernel
theorem dL_second_195 : decode cL_second 195 = .ok (.isub, 1) := by decide +kernel
theorem dL_second_196 : decode cL_second 196 = .ok (.iastore, 1) := by decide +kernel
theorem dL_second_197 : decode cL_second 197 = .ok (.aload_n 0, 1) := by decide +kernel
theorem dL_second_198 : decode cL_second 198 = .ok (.bipush 6, 2) := by decide +kernel
theorem dL_second_200 : decode cL_second 200 = .ok (.dup2, 1) := by decide +kernel
theorem dL_second_201 : decode cL_second 201 = .ok (.iaload, 1) := by decide +kernel
theorem dL_second_202 : decode cL_second 202 = .ok (.aload_n 0, 1) := by decide +kernel
theorem dL_second_203 : decode cL_second 203 = .ok (.bipush 8, 2) := by decide +kernel
theorem dL_second_205 : decode cL_second 205 = .ok (.iaload, 1) := by decide +kernel
theorem dL_second_206 : decode cL_second 206 = .ok (.iadd, 1) := by decide +kernel
theorem dL_second_207 : decode cL_second 207 = .ok (.iastore, 1) := by decide +kernel
theorem dL_second_208 : decode cL_second 208 = .ok (.aload_n 0, 1) := by decide +kernel
theorem dL_second_209 : decode cL_second 209 = .ok (.bipush 7, 2) := by decide +kernel
theorem dL_second_211 : decode cL_second 211 = .ok (.dup2, 1) := by decide +kernel
theorem dL_second_212 : decode cL_second 212 = .ok (.iaload, 1) := by decide +kernel
theorem dL_second_213 : decode cL_second 213 = .ok (.iconst 1, 1) := by decide +kernel
theorem dL_second_214 : decode cL_second 214 = .ok (.iadd, 1) := by decide +kernel
theorem dL_second_215 : decode cL_second 215 = .ok (.iastore, 1) := by decide +kernel
theorem dL_second_216 : decode cL_second 216 = .ok (.return_, 1) := by decide +kernel
theorem dL_wrong_0 : decode cL_wrong 0 = .ok (.iconst 0, 1) := by decide +kernel
theorem dL_wrong_1 : decode cL_wrong 1 = .ok (.istore 7, 2) := by decide +kernel
theorem dL_wrong_3 : decode cL_wrong 3 = .ok (.iconst 0, 1) := by decide +kernel
theorem dL_wrong_4 : decode cL_wrong 4 = .ok (.istore 8, 2) := by decide +kernel
theorem dL_wrong_6 : decode cL_wrong 6 = .ok (.iload 8, 2) := by decide +kernel
theorem dL_wrong_8 : decode cL_wrong 8 = .ok (.aload_n 0, 1) := by decide +kernel
theorem dL_wrong_9 : decode cL_wrong 9 = .ok (.iconst 0, 1) := by decide +kernel
theorem dL_wrong_10 : decode cL_wrong 10 = .ok (.iaload, 1) := by decide +kernel
theorem dL_wrong_11 : decode cL_wrong 11 = .ok (.if_icmp .ge 66, 3) := by decide +kernel
theorem dL_wrong_14 : decode cL_wrong 14 = .ok (.aload_n 1, 1) := by decide +kernel
theorem dL_wrong_15 : decode cL_wrong 15 = .ok (.iload 8, 2) := by decide +kernel
theorem dL_wrong_17 : decode cL_wrong 17 = .ok (.iaload, 1) := by decide +kernel
theorem dL_wrong_18 : decode cL_wrong 18 = .ok (.aload_n 0, 1) := by decide +kernel
theorem dL_wrong_19 : decode cL_wrong 19 = .ok (.aload_n 2, 1) := by decide +kernel
theorem dL_wrong_20 : decode cL_wrong 20 = .ok (.aload_n 3, 1) := by decide +kernel
theorem dL_wrong_21 : decode cL_wrong 21 = .ok (.iload 4, 2) := by decide +kernel
theorem dL_wrong_23 : decode cL_wrong 23 = .ok (.iload 5, 2) := by decide +kernel
theorem dL_wrong_25 : decode cL_wrong 25 = .ok (.iload 8, 2) := by decide +kernel
theorem dL_wrong_27 : decode cL_wrong 27 = .ok (.invokestatic 25, 3) := by decide +kernel
theorem dL_wrong_30 : decode cL_wrong 30 = .ok (.ixor, 1) := by decide +kernel
theorem dL_wrong_31 : decode cL_wrong 31 = .ok (.istore 9, 2) := by decide +kernel
theorem dL_wrong_33 : decode cL_wrong 33 = .ok (.iload 7, 2) := by decide +kernel
theorem dL_wrong_35 : decode cL_wrong 35 = .ok (.iload 6, 2) := by decide +kernel
theorem dL_wrong_37 : decode cL_wrong 37 = .ok (.ifCond .eq 16, 3) := by decide +kernel
theorem dL_wrong_40 : decode cL_wrong 40 = .ok (.iload 9, 2) := by decide +kernel
theorem dL_wrong_42 : decode cL_wrong 42 = .ok (.aload_n 1, 1) := by decide +kernel
theorem dL_wrong_43 : decode cL_wrong 43 = .ok (.bipush 48, 2) := by decide +kernel
theorem dL_wrong_45 : decode cL_wrong 45 = .ok (.iload 8, 2) := by decide +kernel
theorem dL_wrong_47 : decode cL_wrong 47 = .ok (.iadd, 1) := by decide +kernel
theorem dL_wrong_48 : decode cL_wrong 48 = .ok (.iaload, 1) := by decide +kernel
theorem dL_wrong_49 : decode cL_wrong 49 = .ok (.iand, 1) := by decide +kernel
theorem dL_wrong_50 : decode cL_wrong 50 = .ok (.goto 15, 3) := by decide +kernel
theorem dL_wrong_53 : decode cL_wrong 53 = .ok (.iload 9, 2) := by decide +kernel
theorem dL_wrong_55 : decode cL_wrong 55 = .ok (.aload_n 1, 1) := by decide +kernel
theorem dL_wrong_56 : decode cL_wrong 56 = .ok (.bipush 48, 2) := by decide +kernel
theorem dL_wrong_58 : decode cL_wrong 58 = .ok (.iload 8, 2) := by decide +kernel
theorem dL_wrong_60 : decode cL_wrong 60 = .ok (.iadd, 1) := by decide +kernel
theorem dL_wrong_61 : decode cL_wrong 61 = .ok (.iaload, 1) := by decide +kernel
theorem dL_wrong_62 : decode cL_wrong 62 = .ok (.iconst (-1), 1) := by decide +kernel
theorem dL_wrong_63 : decode cL_wrong 63 = .ok (.ixor, 1) := by decide +kernel
theorem dL_wrong_64 : decode cL_wrong 64 = .ok (.iand, 1) := by decide +kernel
theorem dL_wrong_65 : decode cL_wrong 65 = .ok (.invokestatic 15, 3) := by decide +kernel
theorem dL_wrong_68 : decode cL_wrong 68 = .ok (.iadd, 1) := by decide +kernel
theorem dL_wrong_69 : decode cL_wrong 69 = .ok (.istore 7, 2) := by decide +kernel
theorem dL_wrong_71 : decode cL_wrong 71 = .ok (.iinc 8 1, 3) := by decide +kernel
theorem dL_wrong_74 : decode cL_wrong 74 = .ok (.goto (-68), 3) := by decide +kernel
theorem dL_wrong_77 : decode cL_wrong 77 = .ok (.iload 7, 2) := by decide +kernel
theorem dL_wrong_79 : decode cL_wrong 79 = .ok (.ireturn, 1) := by decide +kernel
theorem dL_best_0 : decode cL_best 0 = .ok (.iconst 2, 1) := by decide +kernel
theorem dL_best_1 : decode cL_best 1 = .ok (.istore 5, 2) := by decide +kernel
theorem dL_best_3 : decode cL_best 3 = .ok (.iconst 4, 1) := by decide +kernel
theorem dL_best_4 : decode cL_best 4 = .ok (.istore 6, 2) := by decide +kernel
theorem dL_best_6 : decode cL_best 6 = .ok (.iload 6, 2) := by decide +kernel
theorem dL_best_8 : decode cL_best 8 = .ok (.ifCond .lt 120, 3) := by decide +kernel
theorem dL_best_11 : decode cL_best 11 = .ok (.iload 6, 2) := by decide +kernel
theorem dL_best_13 : decode cL_best 13 = .ok (.ifCond .ne 7, 3) := by decide +kernel
theorem dL_best_16 : decode cL_best 16 = .ok (.iconst 0, 1) := by decide +kernel
theorem dL_best_17 : decode cL_best 17 = .ok (.goto 25, 3) := by decide +kernel
theorem dL_best_20 : decode cL_best 20 = .ok (.iload 6, 2) := by decide +kernel
theorem dL_best_22 : decode cL_best 22 = .ok (.iconst 2, 1) := by decide +kernel
theorem dL_best_23 : decode cL_best 23 = .ok (.irem, 1) := by decide +kernel
theorem dL_best_24 : decode cL_best 24 = .ok (.iconst 1, 1) := by decide +kernel
theorem dL_best_25 : decode cL_best 25 = .ok (.if_icmp .ne 13, 3) := by decide +kernel
theorem dL_best_28 : decode cL_best 28 = .ok (.iload 6, 2) := by decide +kernel
theorem dL_best_30 : decode cL_best 30 = .ok (.iconst 1, 1) := by decide +kernel
theorem dL_best_31 : decode cL_best 31 = .ok (.iadd, 1) := by decide +kernel
theorem dL_best_32 : decode cL_best 32 = .ok (.ineg, 1) := by decide +kernel
theorem dL_best_33 : decode cL_best 33 = .ok (.iconst 2, 1) := by decide +kernel
theorem dL_best_34 : decode cL_best 34 = .ok (.idiv, 1) := by decide +kernel
theorem dL_best_35 : decode cL_best 35 = .ok (.goto 7, 3) := by decide +kernel
theorem dL_best_38 : decode cL_best 38 = .ok (.iload 6, 2) := by decide +kernel
theorem dL_best_40 : decode cL_best 40 = .ok (.iconst 2, 1) := by decide +kernel
theorem dL_best_41 : decode cL_best 41 = .ok (.idiv, 1) := by decide +kernel
theorem dL_best_42 : decode cL_best 42 = .ok (.istore 7, 2) := by decide +kernel
theorem dL_best_44 : decode cL_best 44 = .ok (.aload_n 0, 1) := by decide +kernel
theorem dL_best_45 : decode cL_best 45 = .ok (.aload_n 1, 1) := by decide +kernel
theorem dL_best_46 : decode cL_best 46 = .ok (.aload_n 2, 1) := by decide +kernel
theorem dL_best_47 : decode cL_best 47 = .ok (.aload_n 3, 1) := by decide +kernel
theorem dL_best_48 : decode cL_best 48 = .ok (.iload 4, 2) := by decide +kernel
theorem dL_best_50 : decode cL_best 50 = .ok (.iload 7, 2) := by decide +kernel
theorem dL_best_52 : decode cL_best 52 = .ok (.iconst 1, 1) := by decide +kernel
theorem dL_best_53 : decode cL_best 53 = .ok (.invokestatic 29, 3) := by decide +kernel
theorem dL_best_56 : decode cL_best 56 = .ok (.aload_n 0, 1) := by decide +kernel
theorem dL_best_57 : decode cL_best 57 = .ok (.aload_n 1, 1) := by decide +kernel
theorem dL_best_58 : decode cL_best 58 = .ok (.aload_n 2, 1) := by decide +kernel
theorem dL_best_59 : decode cL_best 59 = .ok (.aload_n 3, 1) := by decide +kernel
theorem dL_best_60 : decode cL_best 60 = .ok (.iload 4, 2) := by decide +kernel
theorem dL_best_62 : decode cL_best 62 = .ok (.iload 5, 2) := by decide +kernel
theorem dL_best_64 : decode cL_best 64 = .ok (.iconst 1, 1) := by decide +kernel
theorem dL_best_65 : decode cL_best 65 = .ok (.invokestatic 29, 3) := by decide +kernel
theorem dL_best_68 : decode cL_best 68 = .ok (.isub, 1) := by decide +kernel
theorem dL_best_69 : decode cL_best 69 = .ok (.istore 8, 2) := by decide +kernel
theorem dL_best_71 : decode cL_best 71 = .ok (.aload_n 0, 1) := by decide +kernel
theorem dL_best_72 : decode cL_best 72 = .ok (.aload_n 1, 1) := by decide +kernel
theorem dL_best_73 : decode cL_best 73 = .ok (.aload_n 2, 1) := by decide +kernel
theorem dL_best_74 : decode cL_best 74 = .ok (.aload_n 3, 1) := by decide +kernel
theorem dL_best_75 : decode cL_best 75 = .ok (.iload 4, 2) := by decide +kernel
theorem dL_best_77 : decode cL_best 77 = .ok (.iload 7, 2) := by decide +kernel
theorem dL_best_79 : decode cL_best 79 = .ok (.iconst 0, 1) := by decide +kernel
theorem dL_best_80 : decode cL_best 80 = .ok (.invokestatic 29, 3) := by decide +kernel
theorem dL_best_83 : decode cL_best 83 = .ok (.aload_n 0, 1) := by decide +kernel
theorem dL_best_84 : decode cL_best 84 = .ok (.aload_n 1, 1) := by decide +kernel
theorem dL_best_85 : decode cL_best 85 = .ok (.aload_n 2, 1) := by decide +kernel
theorem dL_best_86 : decode cL_best 86 = .ok (.aload_n 3, 1) := by decide +kernel
theorem dL_best_87 : decode cL_best 87 = .ok (.iload 4, 2) := by decide +kernel
theorem dL_best_89 : decode cL_best 89 = .ok (.iload 5, 2) := by decide +kernel
theorem dL_best_91 : decode cL_best 91 = .ok (.iconst 0, 1) := by decide +kernel
theorem dL_best_92 : decode cL_best 92 = .ok (.invokestatic 29, 3) := by decide +kernel
theorem dL_best_95 : decode cL_best 95 = .ok (.isub, 1) := by decide +kernel
theorem dL_best_96 : decode cL_best 96 = .ok (.istore 9, 2) := by decide +kernel
theorem dL_best_98 : decode cL_best 98 = .ok (.iload 8, 2) := by decide +kernel
theorem dL_best_100 : decode cL_best 100 = .ok (.ifCond .lt 13, 3) := by decide +kernel
theorem dL_best_103 : decode cL_best 103 = .ok (.iload 8, 2) := by decide +kernel
theorem dL_best_105 : decode cL_best 105 = .ok (.ifCond .ne 13, 3) := by decide +kernel
theorem dL_best_108 : decode cL_best 108 = .ok (.iload 9, 2) := by decide +kernel
theorem dL_best_110 : decode cL_best 110 = .ok (.ifCond .gt 8, 3) := by decide +kernel
theorem dL_best_113 : decode cL_best 113 = .ok (.iload 7, 2) := by decide +kernel
theorem dL_best_115 : decode cL_best 115 = .ok (.goto 5, 3) := by decide +kernel
theorem dL_best_118 : decode cL_best 118 = .ok (.iload 5, 2) := by decide +kernel
theorem dL_best_120 : decode cL_best 120 = .ok (.istore 5, 2) := by decide +kernel
theorem dL_best_122 : decode cL_best 122 = .ok (.iinc 6 (-1), 3) := by decide +kernel
theorem dL_best_125 : decode cL_best 125 = .ok (.goto (-119), 3) := by decide +kernel
theorem dL_best_128 : decode cL_best 128 = .ok (.iload 5, 2) := by decide +kernel
theorem dL_best_130 : decode cL_best 130 = .ok (.ireturn, 1) := by decide +kernel
theorem dL_acts_0 : decode cL_acts 0 = .ok (.iload 6, 2) := by decide +kernel
theorem dL_acts_2 : decode cL_acts 2 = .ok (.iconst 5, 1) := by decide +kernel
theorem dL_acts_3 : decode cL_acts 3 = .ok (.ishr, 1) := by decide +kernel
theorem dL_acts_4 : decode cL_acts 4 = .ok (.ldc 33, 2) := by decide +kernel
theorem dL_acts_6 : decode cL_acts 6 = .ok (.invokestatic 34, 3) := by decide +kernel
theorem dL_acts_9 : decode cL_acts 9 = .ok (.istore 7, 2) := by decide +kernel
theorem dL_acts_11 : decode cL_acts 11 = .ok (.aload 5, 2) := by decide +kernel
theorem dL_acts_13 : decode cL_acts 13 = .ok (.bipush 60, 2) := by decide +kernel
theorem dL_acts_15 : decode cL_acts 15 = .ok (.iaload, 1) := by decide +kernel
theorem dL_acts_16 : decode cL_acts 16 = .ok (.istore 8, 2) := by decide +kernel
theorem dL_acts_18 : decode cL_acts 18 = .ok (.iload 8, 2) := by decide +kernel
theorem dL_acts_20 : decode cL_acts 20 = .ok (.ifCond .ne 7, 3) := by decide +kernel
theorem dL_acts_23 : decode cL_acts 23 = .ok (.iconst 0, 1) := by decide +kernel
theorem dL_acts_24 : decode cL_acts 24 = .ok (.goto 8, 3) := by decide +kernel
theorem dL_acts_27 : decode cL_acts 27 = .ok (.iload 7, 2) := by decide +kernel
theorem dL_acts_29 : decode cL_acts 29 = .ok (.iload 8, 2) := by decide +kernel
theorem dL_acts_31 : decode cL_acts 31 = .ok (.irem, 1) := by decide +kernel
theorem dL_acts_32 : decode cL_acts 32 = .ok (.istore 9, 2) := by decide +kernel
theorem dL_acts_34 : decode cL_acts 34 = .ok (.iload 7, 2) := by decide +kernel
theorem dL_acts_36 : decode cL_acts 36 = .ok (.aload_n 1, 1) := by decide +kernel
theorem dL_acts_37 : decode cL_acts 37 = .ok (.iconst 0, 1) := by decide +kernel
theorem dL_acts_38 : decode cL_acts 38 = .ok (.iaload, 1) := by decide +kernel
theorem dL_acts_39 : decode cL_acts 39 = .ok (.irem, 1) := by decide +kernel
theorem dL_acts_40 : decode cL_acts 40 = .ok (.istore 10, 2) := by decide +kernel
theorem dL_acts_42 : decode cL_acts 42 = .ok (.iload 7, 2) := by decide +kernel
theorem dL_acts_44 : decode cL_acts 44 = .ok (.bipush 16, 2) := by decide +kernel
theorem dL_acts_46 : decode cL_acts 46 = .ok (.idiv, 1) := by decide +kernel
theorem dL_acts_47 : decode cL_acts 47 = .ok (.bipush 7, 2) := by decide +kernel
theorem dL_acts_49 : decode cL_acts 49 = .ok (.irem, 1) := by decide +kernel
theorem dL_acts_50 : decode cL_acts 50 = .ok (.istore 11, 2) := by decide +kernel
theorem dL_acts_52 : decode cL_acts 52 = .ok (.iload 6, 2) := by decide +kernel
theorem dL_acts_54 : decode cL_acts 54 = .ok (.bipush 20, 2) := by decide +kernel
theorem dL_acts_56 : decode cL_acts 56 = .ok (.invokestatic 34, 3) := by decide +kernel
theorem dL_acts_59 : decode cL_acts 59 = .ok (.tableswitch 1015 0 15 #[77, 186, 186, 294, 294, 294, 425, 425, 579, 673, 673, 673, 673, 788, 850, 930], 77) := by decide +kernel
theorem dL_acts_136 : decode cL_acts 136 = .ok (.iload 7, 2) := by decide +kernel
theorem dL_acts_138 : decode cL_acts 138 = .ok (.iconst 4, 1) := by decide +kernel
theorem dL_acts_139 : decode cL_acts 139 = .ok (.irem, 1) := by decide +kernel
theorem dL_acts_140 : decode cL_acts 140 = .ok (.ifCond .le 20, 3) := by decide +kernel
theorem dL_acts_143 : decode cL_acts 143 = .ok (.aload_n 0, 1) := by decide +kernel
theorem dL_acts_144 : decode cL_acts 144 = .ok (.iconst 5, 1) := by decide +kernel
theorem dL_acts_145 : decode cL_acts 145 = .ok (.invokevirtual 38, 3) := by decide +kernel
theorem dL_acts_148 : decode cL_acts 148 = .ok (.sipush (-1001), 3) := by decide +kernel
theorem dL_acts_151 : decode cL_acts 151 = .ok (.if_icmp .ne 7, 3) := by decide +kernel
theorem dL_acts_154 : decode cL_acts 154 = .ok (.iconst 1, 1) := by decide +kernel
theorem dL_acts_155 : decode cL_acts 155 = .ok (.goto 4, 3) := by decide +kernel
theorem dL_acts_158 : decode cL_acts 158 = .ok (.iconst 0, 1) := by decide +kernel
theorem dL_acts_159 : decode cL_acts 159 = .ok (.ireturn, 1) := by decide +kernel
theorem dL_acts_160 : decode cL_acts 160 = .ok (.aload_n 1, 1) := by decide +kernel
theorem dL_acts_161 : decode cL_acts 161 = .ok (.iconst 0, 1) := by decide +kernel
theorem dL_acts_162 : decode cL_acts 162 = .ok (.iaload, 1) := by decide +kernel
theorem dL_acts_163 : decode cL_acts 163 = .ok (.istore 12, 2) := by decide +kernel
theorem dL_acts_165 : decode cL_acts 165 = .ok (.aload_n 1, 1) := by decide +kernel
theorem dL_acts_166 : decode cL_acts 166 = .ok (.iconst 0, 1) := by decide +kernel
theorem dL_acts_167 : decode cL_acts 167 = .ok (.bipush 6, 2) := by decide +kernel
theorem dL_acts_169 : decode cL_acts 169 = .ok (.iload 7, 2) := by decide +kernel
theorem dL_acts_171 : decode cL_acts 171 = .ok (.iconst 4, 1) := by decide +kernel
theorem dL_acts_172 : decode cL_acts 172 = .ok (.idiv, 1) := by decide +kernel
theorem dL_acts_173 : decode cL_acts 173 = .ok (.bipush 9, 2) := by decide +kernel
theorem dL_acts_175 : decode cL_acts 175 = .ok (.irem, 1) := by decide +kernel
theorem dL_acts_176 : decode cL_acts 176 = .ok (.iadd, 1) := by decide +kernel
theorem dL_acts_177 : decode cL_acts 177 = .ok (.iastore, 1) := by decide +kernel
theorem dL_acts_178 : decode cL_acts 178 = .ok (.iconst 4, 1) := by decide +kernel
theorem dL_acts_179 : decode cL_acts 179 = .ok (.istore 13, 2) := by decide +kernel
theorem dL_acts_181 : decode cL_acts 181 = .ok (.iload 13, 2) := by decide +kernel
theorem dL_acts_183 : decode cL_acts 183 = .ok (.bipush 28, 2) := by decide +kernel
theorem dL_acts_185 : decode cL_acts 185 = .ok (.if_icmp .ge 14, 3) := by decide +kernel
theorem dL_acts_188 : decode cL_acts 188 = .ok (.aload_n 1, 1) := by decide +kernel
theorem dL_acts_189 : decode cL_acts 189 = .ok (.iload 13, 2) := by decide +kernel
theorem dL_acts_191 : decode cL_acts 191 = .ok (.iconst 0, 1) := by decide +kernel
theorem dL_acts_192 : decode cL_acts 192 = .ok (.iastore, 1) := by decide +kernel
theorem dL_acts_193 : decode cL_acts 193 = .ok (.iinc 13 1, 3) := by decide +kernel
theorem dL_acts_196 : decode cL_acts 196 = .ok (.goto (-15), 3) := by decide +kernel
theorem dL_acts_199 : decode cL_acts 199 = .ok (.iconst 0, 1) := by decide +kernel
theorem dL_acts_200 : decode cL_acts 200 = .ok (.istore 13, 2) := by decide +kernel
theorem dL_acts_202 : decode cL_acts 202 = .ok (.iload 13, 2) := by decide +kernel
theorem dL_acts_204 : decode cL_acts 204 = .ok (.bipush 64, 2) := by decide +kernel
theorem dL_acts_206 : decode cL_acts 206 = .ok (.if_icmp .ge 21, 3) := by decide +kernel
theorem dL_acts_209 : decode cL_acts 209 = .ok (.aload_n 2, 1) := by decide +kernel
theorem dL_acts_210 : decode cL_acts 210 = .ok (.iload 13, 2) := by decide +kernel
theorem dL_acts_212 : decode cL_acts 212 = .ok (.iconst 0, 1) := by decide +kernel
theorem dL_acts_213 : decode cL_acts 213 = .ok (.iastore, 1) := by decide +kernel
theorem dL_acts_214 : decode cL_acts 214 = .ok (.aload_n 3, 1) := by decide +kernel
theorem dL_acts_215 : decode cL_acts 215 = .ok (.iload 13, 2) := by decide +kernel
theorem dL_acts_217 : decode cL_acts 217 = .ok (.iconst 4, 1) := by decide +kernel
theorem dL_acts_218 : decode cL_acts 218 = .ok (.idiv, 1) := by decide +kernel
theorem dL_acts_219 : decode cL_acts 219 = .ok (.lconst 0, 1) := by decide +kernel
theorem dL_acts_220 : decode cL_acts 220 = .ok (.lastore, 1) := by decide +kernel
theorem dL_acts_221 : decode cL_acts 221 = .ok (.iinc 13 1, 3) := by decide +kernel
theorem dL_acts_224 : decode cL_acts 224 = .ok (.goto (-22), 3) := by decide +kernel
theorem dL_acts_227 : decode cL_acts 227 = .ok (.aload_n 0, 1) := by decide +kernel
theorem dL_acts_228 : decode cL_acts 228 = .ok (.aload_n 1, 1) := by decide +kernel
theorem dL_acts_229 : decode cL_acts 229 = .ok (.iconst 0, 1) := by decide +kernel
theorem dL_acts_230 : decode cL_acts 230 = .ok (.iaload, 1) := by decide +kernel
theorem dL_acts_231 : decode cL_acts 231 = .ok (.invokevirtual 38, 3) := by decide +kernel
theorem dL_acts_234 : decode cL_acts 234 = .ok (.iload 12, 2) := by decide +kernel
theorem dL_acts_236 : decode cL_acts 236 = .ok (.if_icmp .ne 7, 3) := by decide +kernel
theorem dL_acts_239 : decode cL_acts 239 = .ok (.iconst 1, 1) := by decide +kernel
theorem dL_acts_240 : decode cL_acts 240 = .ok (.goto 4, 3) := by decide +kernel
theorem dL_acts_243 : decode cL_acts 243 = .ok (.iconst 0, 1) := by decide +kernel
theorem dL_acts_244 : decode cL_acts 244 = .ok (.ireturn, 1) := by decide +kernel
theorem dL_acts_245 : decode cL_acts 245 = .ok (.iload 7, 2) := by decide +kernel
theorem dL_acts_247 : decode cL_acts 247 = .ok (.iconst 3, 1) := by decide +kernel
theorem dL_acts_248 : decode cL_acts 248 = .ok (.irem, 1) := by decide +kernel
theorem dL_acts_249 : decode cL_acts 249 = .ok (.istore 13, 2) := by decide +kernel
theorem dL_acts_251 : decode cL_acts 251 = .ok (.iload 13, 2) := by decide +kernel
theorem dL_acts_253 : decode cL_acts 253 = .ok (.ifCond .ne 27, 3) := by decide +kernel
theorem dL_acts_256 : decode cL_acts 256 = .ok (.iconst 2, 1) := by decide +kernel
theorem dL_acts_257 : decode cL_acts 257 = .ok (.iload 7, 2) := by decide +kernel
theorem dL_acts_259 : decode cL_acts 259 = .ok (.iconst 3, 1) := by decide +kernel
theorem dL_acts_260 : decode cL_acts 260 = .ok (.idiv, 1) := by decide +kernel
theorem dL_acts_261 : decode cL_acts 261 = .ok (.iload 7, 2) := by decide +kernel
theorem dL_acts_263 : decode cL_acts 263 = .ok (.iconst 2, 1) := by decide +kernel
theorem dL_acts_264 : decode cL_acts 264 = .ok (.irem, 1) := by decide +kernel
theorem dL_acts_265 : decode cL_acts 265 = .ok (.ifCond .ne 8, 3) := by decide +kernel
theorem dL_acts_268 : decode cL_acts 268 = .ok (.bipush 49, 2) := by decide +kernel
theorem dL_acts_270 : decode cL_acts 270 = .ok (.goto 5, 3) := by decide +kernel
theorem dL_acts_273 : decode cL_acts 273 = .ok (.bipush 12, 2) := by decide +kernel
theorem dL_acts_275 : decode cL_acts 275 = .ok (.irem, 1) := by decide +kernel
theorem dL_acts_276 : decode cL_acts 276 = .ok (.iadd, 1) := by decide +kernel
theorem dL_acts_277 : decode cL_acts 277 = .ok (.goto 39, 3) := by decide +kernel
theorem dL_acts_280 : decode cL_acts 280 = .ok (.iload 13, 2) := by decide +kernel
theorem dL_acts_282 : decode cL_acts 282 = .ok (.iconst 1, 1) := by decide +kernel
theorem dL_acts_283 : decode cL_acts 283 = .ok (.if_icmp .ne 12, 3) := by decide +kernel
theorem dL_acts_286 : decode cL_acts 286 = .ok (.iload 7, 2) := by decide +kernel
theorem dL_acts_288 : decode cL_acts 288 = .ok (.iconst 3, 1) := by decide +kernel
theorem dL_acts_289 : decode cL_acts 289 = .ok (.idiv, 1) := by decide +kernel
theorem dL_acts_290 : decode cL_acts 290 = .ok (.iconst 3, 1) := by decide +kernel
theorem dL_acts_291 : decode cL_acts 291 = .ok (.irem, 1) := by decide +kernel
theorem dL_acts_292 : decode cL_acts 292 = .ok (.goto 24, 3) := by decide +kernel
theorem dL_acts_295 : decode cL_acts 295 = .ok (.iconst 1, 1) := by decide +kernel
theorem dL_acts_296 : decode cL_acts 296 = .ok (.iload 7, 2) := by decide +kernel
theorem dL_acts_298 : decode cL_acts 298 = .ok (.iconst 3, 1) := by decide +kernel
theorem dL_acts_299 : decode cL_acts 299 = .ok (.idiv, 1) := by decide +kernel
theorem dL_acts_300 : decode cL_acts 300 = .ok (.iload 7, 2) := by decide +kernel
theorem dL_acts_302 : decode cL_acts 302 = .ok (.iconst 2, 1) := by decide +kernel
theorem dL_acts_303 : decode cL_acts 303 = .ok (.irem, 1) := by decide +kernel
theorem dL_acts_304 : decode cL_acts 304 = .ok (.ifCond .ne 9, 3) := by decide +kernel
theorem dL_acts_307 : decode cL_acts 307 = .ok (.sipush 200, 3) := by decide +kernel
theorem dL_acts_310 : decode cL_acts 310 = .ok (.goto 4, 3) := by decide +kernel
theorem dL_acts_313 : decode cL_acts 313 = .ok (.iconst 4, 1) := by decide +kernel
theorem dL_acts_314 : decode cL_acts 314 = .ok (.irem, 1) := by decide +kernel
theorem dL_acts_315 : decode cL_acts 315 = .ok (.iadd, 1) := by decide +kernel
theorem dL_acts_316 : decode cL_acts 316 = .ok (.istore 14, 2) := by decide +kernel
theorem dL_acts_318 : decode cL_acts 318 = .ok (.aload_n 1, 1) := by decide +kernel
theorem dL_acts_319 : decode cL_acts 319 = .ok (.iconst 1, 1) := by decide +kernel
theorem dL_acts_320 : decode cL_acts 320 = .ok (.iload 13, 2) := by decide +kernel
theorem dL_acts_322 : decode cL_acts 322 = .ok (.iadd, 1) := by decide +kernel
theorem dL_acts_323 : decode cL_acts 323 = .ok (.iaload, 1) := by decide +kernel
theorem dL_acts_324 : decode cL_acts 324 = .ok (.istore 15, 2) := by decide +kernel
theorem dL_acts_326 : decode cL_acts 326 = .ok (.aload_n 1, 1) := by decide +kernel
theorem dL_acts_327 : decode cL_acts 327 = .ok (.iconst 1, 1) := by decide +kernel
theorem dL_acts_328 : decode cL_acts 328 = .ok (.iload 13, 2) := by decide +kernel
theorem dL_acts_330 : decode cL_acts 330 = .ok (.iadd, 1) := by decide +kernel
theorem dL_acts_331 : decode cL_acts 331 = .ok (.iload 14, 2) := by decide +kernel
theorem dL_acts_333 : decode cL_acts 333 = .ok (.iastore, 1) := by decide +kernel
theorem dL_acts_334 : decode cL_acts 334 = .ok (.aload_n 0, 1) := by decide +kernel
theorem dL_acts_335 : decode cL_acts 335 = .ok (.iload 13, 2) := by decide +kernel
theorem dL_acts_337 : decode cL_acts 337 = .ok (.iload 14, 2) := by decide +kernel
theorem dL_acts_339 : decode cL_acts 339 = .ok (.invokevirtual 43, 3) := by decide +kernel
theorem dL_acts_342 : decode cL_acts 342 = .ok (.iload 15, 2) := by decide +kernel
theorem dL_acts_344 : decode cL_acts 344 = .ok (.if_icmp .ne 7, 3) := by decide +kernel
theorem dL_acts_347 : decode cL_acts 347 = .ok (.iconst 1, 1) := by decide +kernel
theorem dL_acts_348 : decode cL_acts 348 = .ok (.goto 4, 3) := by decide +kernel
theorem dL_acts_351 : decode cL_acts 351 = .ok (.iconst 0, 1) := by decide +kernel
theorem dL_acts_352 : decode cL_acts 352 = .ok (.ireturn, 1) := by decide +kernel
theorem dL_acts_353 : decode cL_acts 353 = .ok (.iload 7, 2) := by decide +kernel
theorem dL_acts_355 : decode cL_acts 355 = .ok (.iconst 4, 1) := by decide +kernel
theorem dL_acts_356 : decode cL_acts 356 = .ok (.irem, 1) := by decide +kernel
theorem dL_acts_357 : decode cL_acts 357 = .ok (.istore 16, 2) := by decide +kernel
theorem dL_acts_359 : decode cL_acts 359 = .ok (.iload 7, 2) := by decide +kernel
theorem dL_acts_361 : decode cL_acts 361 = .ok (.iconst 4, 1) := by decide +kernel
theorem dL_acts_362 : decode cL_acts 362 = .ok (.idiv, 1) := by decide +kernel
theorem dL_acts_363 : decode cL_acts 363 = .ok (.iconst 5, 1) := by decide +kernel
theorem dL_acts_364 : decode cL_acts 364 = .ok (.irem, 1) := by decide +kernel
theorem dL_acts_365 : decode cL_acts 365 = .ok (.istore 17, 2) := by decide +kernel
theorem dL_acts_367 : decode cL_acts 367 = .ok (.iload 7, 2) := by decide +kernel
theorem dL_acts_369 : decode cL_acts 369 = .ok (.bipush 20, 2) := by decide +kernel
theorem dL_acts_371 : decode cL_acts 371 = .ok (.idiv, 1) := by decide +kernel
theorem dL_acts_372 : decode cL_acts 372 = .ok (.sipush 128, 3) := by decide +kernel
theorem dL_acts_375 : decode cL_acts 375 = .ok (.irem, 1) := by decide +kernel
theorem dL_acts_376 : decode cL_acts 376 = .ok (.istore 18, 2) := by decide +kernel
theorem dL_acts_378 : decode cL_acts 378 = .ok (.iload 17, 2) := by decide +kernel
theorem dL_acts_380 : decode cL_acts 380 = .ok (.aload 4, 2) := by decide +kernel
theorem dL_acts_382 : decode cL_acts 382 = .ok (.bipush 6, 2) := by decide +kernel
theorem dL_acts_384 : decode cL_acts 384 = .ok (.iload 16, 2) := by decide +kernel
theorem dL_acts_386 : decode cL_acts 386 = .ok (.imul, 1) := by decide +kernel
theorem dL_acts_387 : decode cL_acts 387 = .ok (.iaload, 1) := by decide +kernel
theorem dL_acts_388 : decode cL_acts 388 = .ok (.if_icmp .le 25, 3) := by decide +kernel
theorem dL_acts_391 : decode cL_acts 391 = .ok (.aload_n 0, 1) := by decide +kernel
theorem dL_acts_392 : decode cL_acts 392 = .ok (.iload 16, 2) := by decide +kernel
theorem dL_acts_394 : decode cL_acts 394 = .ok (.iload 17, 2) := by decide +kernel
theorem dL_acts_396 : decode cL_acts 396 = .ok (.iload 18, 2) := by decide +kernel
theorem dL_acts_398 : decode cL_acts 398 = .ok (.invokevirtual 46, 3) := by decide +kernel
theorem dL_acts_401 : decode cL_acts 401 = .ok (.sipush (-1001), 3) := by decide +kernel
theorem dL_acts_404 : decode cL_acts 404 = .ok (.if_icmp .ne 7, 3) := by decide +kernel
theorem dL_acts_407 : decode cL_acts 407 = .ok (.iconst 1, 1) := by decide +kernel
theorem dL_acts_408 : decode cL_acts 408 = .ok (.goto 4, 3) := by decide +kernel
theorem dL_acts_411 : decode cL_acts 411 = .ok (.iconst 0, 1) := by decide +kernel
theorem dL_acts_412 : decode cL_acts 412 = .ok (.ireturn, 1) := by decide +kernel
theorem dL_acts_413 : decode cL_acts 413 = .ok (.aload 4, 2) := by decide +kernel
theorem dL_acts_415 : decode cL_acts 415 = .ok (.bipush 6, 2) := by decide +kernel
theorem dL_acts_417 : decode cL_acts 417 = .ok (.iload 16, 2) := by decide +kernel
theorem dL_acts_419 : decode cL_acts 419 = .ok (.imul, 1) := by decide +kernel
theorem dL_acts_420 : decode cL_acts 420 = .ok (.dup2, 1) := by decide +kernel
theorem dL_acts_421 : decode cL_acts 421 = .ok (.iaload, 1) := by decide +kernel
theorem dL_acts_422 : decode cL_acts 422 = .ok (.iload 17, 2) := by decide +kernel
theorem dL_acts_424 : decode cL_acts 424 = .ok (.aload 4, 2) := by decide +kernel
theorem dL_acts_426 : decode cL_acts 426 = .ok (.bipush 6, 2) := by decide +kernel
theorem dL_acts_428 : decode cL_acts 428 = .ok (.iload 16, 2) := by decide +kernel
theorem dL_acts_430 : decode cL_acts 430 = .ok (.imul, 1) := by decide +kernel
theorem dL_acts_431 : decode cL_acts 431 = .ok (.iaload, 1) := by decide +kernel
theorem dL_acts_432 : decode cL_acts 432 = .ok (.if_icmp .ne 7, 3) := by decide +kernel
theorem dL_acts_435 : decode cL_acts 435 = .ok (.iconst 1, 1) := by decide +kernel
theorem dL_acts_436 : decode cL_acts 436 = .ok (.goto 4, 3) := by decide +kernel
theorem dL_acts_439 : decode cL_acts 439 = .ok (.iconst 0, 1) := by decide +kernel
theorem dL_acts_440 : decode cL_acts 440 = .ok (.iadd, 1) := by decide +kernel
theorem dL_acts_441 : decode cL_acts 441 = .ok (.iastore, 1) := by decide +kernel
theorem dL_acts_442 : decode cL_acts 442 = .ok (.aload 4, 2) := by decide +kernel
theorem dL_acts_444 : decode cL_acts 444 = .ok (.bipush 6, 2) := by decide +kernel
theorem dL_acts_446 : decode cL_acts 446 = .ok (.iload 16, 2) := by decide +kernel
theorem dL_acts_448 : decode cL_acts 448 = .ok (.imul, 1) := by decide +kernel
theorem dL_acts_449 : decode cL_acts 449 = .ok (.iconst 1, 1) := by decide +kernel
theorem dL_acts_450 : decode cL_acts 450 = .ok (.iadd, 1) := by decide +kernel
theorem dL_acts_451 : decode cL_acts 451 = .ok (.iload 17, 2) := by decide +kernel
theorem dL_acts_453 : decode cL_acts 453 = .ok (.iadd, 1) := by decide +kernel
theorem dL_acts_454 : decode cL_acts 454 = .ok (.iload 18, 2) := by decide +kernel
theorem dL_acts_456 : decode cL_acts 456 = .ok (.iastore, 1) := by decide +kernel
theorem dL_acts_457 : decode cL_acts 457 = .ok (.aload_n 0, 1) := by decide +kernel
theorem dL_acts_458 : decode cL_acts 458 = .ok (.iload 16, 2) := by decide +kernel
theorem dL_acts_460 : decode cL_acts 460 = .ok (.iload 17, 2) := by decide +kernel
theorem dL_acts_462 : decode cL_acts 462 = .ok (.iload 18, 2) := by decide +kernel
theorem dL_acts_464 : decode cL_acts 464 = .ok (.invokevirtual 46, 3) := by decide +kernel
theorem dL_acts_467 : decode cL_acts 467 = .ok (.aload 4, 2) := by decide +kernel
theorem dL_acts_469 : decode cL_acts 469 = .ok (.bipush 6, 2) := by decide +kernel
theorem dL_acts_471 : decode cL_acts 471 = .ok (.iload 16, 2) := by decide +kernel
theorem dL_acts_473 : decode cL_acts 473 = .ok (.imul, 1) := by decide +kernel
theorem dL_acts_474 : decode cL_acts 474 = .ok (.iaload, 1) := by decide +kernel
theorem dL_acts_475 : decode cL_acts 475 = .ok (.if_icmp .ne 7, 3) := by decide +kernel
theorem dL_acts_478 : decode cL_acts 478 = .ok (.iconst 1, 1) := by decide +kernel
theorem dL_acts_479 : decode cL_acts 479 = .ok (.goto 4, 3) := by decide +kernel
theorem dL_acts_482 : decode cL_acts 482 = .ok (.iconst 0, 1) := by decide +kernel
theorem dL_acts_483 : decode cL_acts 483 = .ok (.ireturn, 1) := by decide +kernel
theorem dL_acts_484 : decode cL_acts 484 = .ok (.iload 7, 2) := by decide +kernel
theorem dL_acts_486 : decode cL_acts 486 = .ok (.bipush 9, 2) := by decide +kernel
theorem dL_acts_488 : decode cL_acts 488 = .ok (.irem, 1) := by decide +kernel
theorem dL_acts_489 : decode cL_acts 489 = .ok (.ifCond .ne 8, 3) := by decide +kernel
theorem dL_acts_492 : decode cL_acts 492 = .ok (.bipush 26, 2) := by decide +kernel
theorem dL_acts_494 : decode cL_acts 494 = .ok (.goto 7, 3) := by decide +kernel
theorem dL_acts_497 : decode cL_acts 497 = .ok (.iload 7, 2) := by decide +kernel
theorem dL_acts_499 : decode cL_acts 499 = .ok (.iconst 4, 1) := by decide +kernel
theorem dL_acts_500 : decode cL_acts 500 = .ok (.irem, 1) := by decide +kernel
theorem dL_acts_501 : decode cL_acts 501 = .ok (.istore 19, 2) := by decide +kernel
theorem dL_acts_503 : decode cL_acts 503 = .ok (.iload 7, 2) := by decide +kernel
theorem dL_acts_505 : decode cL_acts 505 = .ok (.iconst 4, 1) := by decide +kernel
theorem dL_acts_506 : decode cL_acts 506 = .ok (.idiv, 1) := by decide +kernel
theorem dL_acts_507 : decode cL_acts 507 = .ok (.bipush 6, 2) := by decide +kernel
theorem dL_acts_509 : decode cL_acts 509 = .ok (.irem, 1) := by decide +kernel
theorem dL_acts_510 : decode cL_acts 510 = .ok (.ifCond .ne 7, 3) := by decide +kernel
theorem dL_acts_513 : decode cL_acts 513 = .ok (.iconst (-1), 1) := by decide +kernel
theorem dL_acts_514 : decode cL_acts 514 = .ok (.goto 26, 3) := by decide +kernel
theorem dL_acts_517 : decode cL_acts 517 = .ok (.iload 7, 2) := by decide +kernel
theorem dL_acts_519 : decode cL_acts 519 = .ok (.iconst 4, 1) := by decide +kernel
theorem dL_acts_520 : decode cL_acts 520 = .ok (.idiv, 1) := by decide +kernel
theorem dL_acts_521 : decode cL_acts 521 = .ok (.bipush 6, 2) := by decide +kernel
theorem dL_acts_523 : decode cL_acts 523 = .ok (.irem, 1) := by decide +kernel
theorem dL_acts_524 : decode cL_acts 524 = .ok (.iconst 1, 1) := by decide +kernel
theorem dL_acts_525 : decode cL_acts 525 = .ok (.if_icmp .ne 8, 3) := by decide +kernel
theorem dL_acts_528 : decode cL_acts 528 = .ok (.bipush 26, 2) := by decide +kernel
theorem dL_acts_530 : decode cL_acts 530 = .ok (.goto 10, 3) := by decide +kernel
theorem dL_acts_533 : decode cL_acts 533 = .ok (.iload 7, 2) := by decide +kernel
theorem dL_acts_535 : decode cL_acts 535 = .ok (.bipush 24, 2) := by decide +kernel
theorem dL_acts_537 : decode cL_acts 537 = .ok (.idiv, 1) := by decide +kernel
theorem dL_acts_538 : decode cL_acts 538 = .ok (.iconst 4, 1) := by decide +kernel
theorem dL_acts_539 : decode cL_acts 539 = .ok (.irem, 1) := by decide +kernel
theorem dL_acts_540 : decode cL_acts 540 = .ok (.istore 20, 2) := by decide +kernel
theorem dL_acts_542 : decode cL_acts 542 = .ok (.iload 8, 2) := by decide +kernel
theorem dL_acts_544 : decode cL_acts 544 = .ok (.iconst 4, 1) := by decide +kernel
theorem dL_acts_545 : decode cL_acts 545 = .ok (.if_icmp .ne 23, 3) := by decide +kernel
theorem dL_acts_548 : decode cL_acts 548 = .ok (.aload_n 0, 1) := by decide +kernel
theorem dL_acts_549 : decode cL_acts 549 = .ok (.bipush 27, 2) := by decide +kernel
theorem dL_acts_551 : decode cL_acts 551 = .ok (.iload 20, 2) := by decide +kernel
theorem dL_acts_553 : decode cL_acts 553 = .ok (.invokevirtual 50, 3) := by decide +kernel
theorem dL_acts_556 : decode cL_acts 556 = .ok (.sipush (-1001), 3) := by decide +kernel
theorem dL_acts_559 : decode cL_acts 559 = .ok (.if_icmp .ne 7, 3) := by decide +kernel
theorem dL_acts_562 : decode cL_acts 562 = .ok (.iconst 1, 1) := by decide +kernel
theorem dL_acts_563 : decode cL_acts 563 = .ok (.goto 4, 3) := by decide +kernel
theorem dL_acts_566 : decode cL_acts 566 = .ok (.iconst 0, 1) := by decide +kernel
theorem dL_acts_567 : decode cL_acts 567 = .ok (.ireturn, 1) := by decide +kernel
theorem dL_acts_568 : decode cL_acts 568 = .ok (.aload 5, 2) := by decide +kernel
theorem dL_acts_570 : decode cL_acts 570 = .ok (.bipush 13, 2) := by decide +kernel
theorem dL_acts_572 : decode cL_acts 572 = .ok (.iload 8, 2) := by decide +kernel
theorem dL_acts_574 : decode cL_acts 574 = .ok (.imul, 1) := by decide +kernel
theorem dL_acts_575 : decode cL_acts 575 = .ok (.iload 20, 2) := by decide +kernel
theorem dL_acts_577 : decode cL_acts 577 = .ok (.ifCond .ge 7, 3) := by decide +kernel
theorem dL_acts_580 : decode cL_acts 580 = .ok (.iconst 1, 1) := by decide +kernel
theorem dL_acts_581 : decode cL_acts 581 = .ok (.goto 4, 3) := by decide +kernel
theorem dL_acts_584 : decode cL_acts 584 = .ok (.iconst 2, 1) := by decide +kernel
theorem dL_acts_585 : decode cL_acts 585 = .ok (.iastore, 1) := by decide +kernel
theorem dL_acts_586 : decode cL_acts 586 = .ok (.aload 5, 2) := by decide +kernel
theorem dL_acts_588 : decode cL_acts 588 = .ok (.bipush 13, 2) := by decide +kernel
theorem dL_acts_590 : decode cL_acts 590 = .ok (.iload 8, 2) := by decide +kernel
theorem dL_acts_592 : decode cL_acts 592 = .ok (.imul, 1) := by decide +kernel
theorem dL_acts_593 : decode cL_acts 593 = .ok (.iconst 1, 1) := by decide +kernel
theorem dL_acts_594 : decode cL_acts 594 = .ok (.iadd, 1) := by decide +kernel
theorem dL_acts_595 : decode cL_acts 595 = .ok (.iload 19, 2) := by decide +kernel
theorem dL_acts_597 : decode cL_acts 597 = .ok (.iastore, 1) := by decide +kernel
theorem dL_acts_598 : decode cL_acts 598 = .ok (.aload 5, 2) := by decide +kernel
theorem dL_acts_600 : decode cL_acts 600 = .ok (.bipush 13, 2) := by decide +kernel
theorem dL_acts_602 : decode cL_acts 602 = .ok (.iload 8, 2) := by decide +kernel
theorem dL_acts_604 : decode cL_acts 604 = .ok (.imul, 1) := by decide +kernel
theorem dL_acts_605 : decode cL_acts 605 = .ok (.iconst 2, 1) := by decide +kernel
theorem dL_acts_606 : decode cL_acts 606 = .ok (.iadd, 1) := by decide +kernel
theorem dL_acts_607 : decode cL_acts 607 = .ok (.iload 20, 2) := by decide +kernel
theorem dL_acts_609 : decode cL_acts 609 = .ok (.iastore, 1) := by decide +kernel
theorem dL_acts_610 : decode cL_acts 610 = .ok (.aload 5, 2) := by decide +kernel
theorem dL_acts_612 : decode cL_acts 612 = .ok (.bipush 60, 2) := by decide +kernel
theorem dL_acts_614 : decode cL_acts 614 = .ok (.dup2, 1) := by decide +kernel
theorem dL_acts_615 : decode cL_acts 615 = .ok (.iaload, 1) := by decide +kernel
theorem dL_acts_616 : decode cL_acts 616 = .ok (.iconst 1, 1) := by decide +kernel
theorem dL_acts_617 : decode cL_acts 617 = .ok (.iadd, 1) := by decide +kernel
theorem dL_acts_618 : decode cL_acts 618 = .ok (.iastore, 1) := by decide +kernel
theorem dL_acts_619 : decode cL_acts 619 = .ok (.aload_n 0, 1) := by decide +kernel
theorem dL_acts_620 : decode cL_acts 620 = .ok (.iload 19, 2) := by decide +kernel
theorem dL_acts_622 : decode cL_acts 622 = .ok (.iload 20, 2) := by decide +kernel
theorem dL_acts_624 : decode cL_acts 624 = .ok (.invokevirtual 50, 3) := by decide +kernel
theorem dL_acts_627 : decode cL_acts 627 = .ok (.iload 8, 2) := by decide +kernel
theorem dL_acts_629 : decode cL_acts 629 = .ok (.if_icmp .ne 7, 3) := by decide +kernel
theorem dL_acts_632 : decode cL_acts 632 = .ok (.iconst 1, 1) := by decide +kernel
theorem dL_acts_633 : decode cL_acts 633 = .ok (.goto 4, 3) := by decide +kernel
theorem dL_acts_636 : decode cL_acts 636 = .ok (.iconst 0, 1) := by decide +kernel
theorem dL_acts_637 : decode cL_acts 637 = .ok (.ireturn, 1) := by decide +kernel
theorem dL_acts_638 : decode cL_acts 638 = .ok (.iload 8, 2) := by decide +kernel
theorem dL_acts_640 : decode cL_acts 640 = .ok (.ifCond .eq 10, 3) := by decide +kernel
theorem dL_acts_643 : decode cL_acts 643 = .ok (.iload 7, 2) := by decide +kernel
theorem dL_acts_645 : decode cL_acts 645 = .ok (.iconst 3, 1) := by decide +kernel
theorem dL_acts_646 : decode cL_acts 646 = .ok (.irem, 1) := by decide +kernel
theorem dL_acts_647 : decode cL_acts 647 = .ok (.ifCond .le 21, 3) := by decide +kernel
theorem dL_acts_650 : decode cL_acts 650 = .ok (.aload_n 0, 1) := by decide +kernel
theorem dL_acts_651 : decode cL_acts 651 = .ok (.iload 8, 2) := by decide +kernel
theorem dL_acts_653 : decode cL_acts 653 = .ok (.invokevirtual 53, 3) := by decide +kernel
theorem dL_acts_656 : decode cL_acts 656 = .ok (.sipush (-1001), 3) := by decide +kernel
theorem dL_acts_659 : decode cL_acts 659 = .ok (.if_icmp .ne 7, 3) := by decide +kernel
theorem dL_acts_662 : decode cL_acts 662 = .ok (.iconst 1, 1) := by decide +kernel
theorem dL_acts_663 : decode cL_acts 663 = .ok (.goto 4, 3) := by decide +kernel
theorem dL_acts_666 : decode cL_acts 666 = .ok (.iconst 0, 1) := by decide +kernel
theorem dL_acts_667 : decode cL_acts 667 = .ok (.ireturn, 1) := by decide +kernel
theorem dL_acts_668 : decode cL_acts 668 = .ok (.bipush 13, 2) := by decide +kernel
theorem dL_acts_670 : decode cL_acts 670 = .ok (.iload 9, 2) := by decide +kernel
theorem dL_acts_672 : decode cL_acts 672 = .ok (.imul, 1) := by decide +kernel
theorem dL_acts_673 : decode cL_acts 673 = .ok (.istore 21, 2) := by decide +kernel
theorem dL_acts_675 : decode cL_acts 675 = .ok (.iload 21, 2) := by decide +kernel
theorem dL_acts_677 : decode cL_acts 677 = .ok (.bipush 13, 2) := by decide +kernel
theorem dL_acts_679 : decode cL_acts 679 = .ok (.iadd, 1) := by decide +kernel
theorem dL_acts_680 : decode cL_acts 680 = .ok (.bipush 60, 2) := by decide +kernel
theorem dL_acts_682 : decode cL_acts 682 = .ok (.if_icmp .ge 22, 3) := by decide +kernel
theorem dL_acts_685 : decode cL_acts 685 = .ok (.aload 5, 2) := by decide +kernel
theorem dL_acts_687 : decode cL_acts 687 = .ok (.iload 21, 2) := by decide +kernel
theorem dL_acts_689 : decode cL_acts 689 = .ok (.aload 5, 2) := by decide +kernel
theorem dL_acts_691 : decode cL_acts 691 = .ok (.iload 21, 2) := by decide +kernel
theorem dL_acts_693 : decode cL_acts 693 = .ok (.bipush 13, 2) := by decide +kernel
theorem dL_acts_695 : decode cL_acts 695 = .ok (.iadd, 1) := by decide +kernel
theorem dL_acts_696 : decode cL_acts 696 = .ok (.iaload, 1) := by decide +kernel
theorem dL_acts_697 : decode cL_acts 697 = .ok (.iastore, 1) := by decide +kernel
theorem dL_acts_698 : decode cL_acts 698 = .ok (.iinc 21 1, 3) := by decide +kernel
theorem dL_acts_701 : decode cL_acts 701 = .ok (.goto (-26), 3) := by decide +kernel
theorem dL_acts_704 : decode cL_acts 704 = .ok (.aload 5, 2) := by decide +kernel
theorem dL_acts_706 : decode cL_acts 706 = .ok (.bipush 60, 2) := by decide +kernel
theorem dL_acts_708 : decode cL_acts 708 = .ok (.dup2, 1) := by decide +kernel
theorem dL_acts_709 : decode cL_acts 709 = .ok (.iaload, 1) := by decide +kernel
theorem dL_acts_710 : decode cL_acts 710 = .ok (.iconst 1, 1) := by decide +kernel
theorem dL_acts_711 : decode cL_acts 711 = .ok (.isub, 1) := by decide +kernel
theorem dL_acts_712 : decode cL_acts 712 = .ok (.iastore, 1) := by decide +kernel
theorem dL_acts_713 : decode cL_acts 713 = .ok (.aload_n 0, 1) := by decide +kernel
theorem dL_acts_714 : decode cL_acts 714 = .ok (.iload 9, 2) := by decide +kernel
theorem dL_acts_716 : decode cL_acts 716 = .ok (.invokevirtual 53, 3) := by decide +kernel
theorem dL_acts_719 : decode cL_acts 719 = .ok (.iload 8, 2) := by decide +kernel
theorem dL_acts_721 : decode cL_acts 721 = .ok (.iconst 1, 1) := by decide +kernel
theorem dL_acts_722 : decode cL_acts 722 = .ok (.isub, 1) := by decide +kernel
theorem dL_acts_723 : decode cL_acts 723 = .ok (.if_icmp .ne 7, 3) := by decide +kernel
theorem dL_acts_726 : decode cL_acts 726 = .ok (.iconst 1, 1) := by decide +kernel
theorem dL_acts_727 : decode cL_acts 727 = .ok (.goto 4, 3) := by decide +kernel
theorem dL_acts_730 : decode cL_acts 730 = .ok (.iconst 0, 1) := by decide +kernel
theorem dL_acts_731 : decode cL_acts 731 = .ok (.ireturn, 1) := by decide +kernel
theorem dL_acts_732 : decode cL_acts 732 = .ok (.iload 8, 2) := by decide +kernel
theorem dL_acts_734 : decode cL_acts 734 = .ok (.ifCond .ne 21, 3) := by decide +kernel
theorem dL_acts_737 : decode cL_acts 737 = .ok (.aload_n 0, 1) := by decide +kernel
theorem dL_acts_738 : decode cL_acts 738 = .ok (.iconst 0, 1) := by decide +kernel
theorem dL_acts_739 : decode cL_acts 739 = .ok (.iconst 0, 1) := by decide +kernel
theorem dL_acts_740 : decode cL_acts 740 = .ok (.invokevirtual 56, 3) := by decide +kernel
theorem dL_acts_743 : decode cL_acts 743 = .ok (.sipush (-1001), 3) := by decide +kernel
theorem dL_acts_746 : decode cL_acts 746 = .ok (.if_icmp .ne 7, 3) := by decide +kernel
theorem dL_acts_749 : decode cL_acts 749 = .ok (.iconst 1, 1) := by decide +kernel
theorem dL_acts_750 : decode cL_acts 750 = .ok (.goto 4, 3) := by decide +kernel
theorem dL_acts_753 : decode cL_acts 753 = .ok (.iconst 0, 1) := by decide +kernel
theorem dL_acts_754 : decode cL_acts 754 = .ok (.ireturn, 1) := by decide +kernel
theorem dL_acts_755 : decode cL_acts 755 = .ok (.iload 7, 2) := by decide +kernel
theorem dL_acts_757 : decode cL_acts 757 = .ok (.bipush 8, 2) := by decide +kernel
theorem dL_acts_759 : decode cL_acts 759 = .ok (.idiv, 1) := by decide +kernel
theorem dL_acts_760 : decode cL_acts 760 = .ok (.iconst 2, 1) := by decide +kernel
theorem dL_acts_761 : decode cL_acts 761 = .ok (.irem, 1) := by decide +kernel
theorem dL_acts_762 : decode cL_acts 762 = .ok (.ifCond .ne 7, 3) := by decide +kernel
theorem dL_acts_765 : decode cL_acts 765 = .ok (.iconst 0, 1) := by decide +kernel
theorem dL_acts_766 : decode cL_acts 766 = .ok (.goto 14, 3) := by decide +kernel
theorem dL_acts_769 : decode cL_acts 769 = .ok (.aload_n 1, 1) := by decide +kernel
theorem dL_acts_770 : decode cL_acts 770 = .ok (.aload_n 2, 1) := by decide +kernel
theorem dL_acts_771 : decode cL_acts 771 = .ok (.aload 4, 2) := by decide +kernel
theorem dL_acts_773 : decode cL_acts 773 = .ok (.aload 5, 2) := by decide +kernel
theorem dL_acts_775 : decode cL_acts 775 = .ok (.iload 9, 2) := by decide +kernel
theorem dL_acts_777 : decode cL_acts 777 = .ok (.invokestatic 59, 3) := by decide +kernel
theorem dL_acts_780 : decode cL_acts 780 = .ok (.istore 21, 2) := by decide +kernel
theorem dL_acts_782 : decode cL_acts 782 = .ok (.iconst 0, 1) := by decide +kernel
theorem dL_acts_783 : decode cL_acts 783 = .ok (.istore 22, 2) := by decide +kernel
theorem dL_acts_785 : decode cL_acts 785 = .ok (.iload 22, 2) := by decide +kernel
theorem dL_acts_787 : decode cL_acts 787 = .ok (.aload_n 1, 1) := by decide +kernel
theorem dL_acts_788 : decode cL_acts 788 = .ok (.iconst 0, 1) := by decide +kernel
theorem dL_acts_789 : decode cL_acts 789 = .ok (.iaload, 1) := by decide +kernel
theorem dL_acts_790 : decode cL_acts 790 = .ok (.if_icmp .ge 30, 3) := by decide +kernel
theorem dL_acts_793 : decode cL_acts 793 = .ok (.aload_n 2, 1) := by decide +kernel
theorem dL_acts_794 : decode cL_acts 794 = .ok (.bipush 16, 2) := by decide +kernel
theorem dL_acts_796 : decode cL_acts 796 = .ok (.iload 22, 2) := by decide +kernel
theorem dL_acts_798 : decode cL_acts 798 = .ok (.iadd, 1) := by decide +kernel
theorem dL_acts_799 : decode cL_acts 799 = .ok (.aload_n 1, 1) := by decide +kernel
theorem dL_acts_800 : decode cL_acts 800 = .ok (.aload 4, 2) := by decide +kernel
theorem dL_acts_802 : decode cL_acts 802 = .ok (.aload 5, 2) := by decide +kernel
theorem dL_acts_804 : decode cL_acts 804 = .ok (.iload 9, 2) := by decide +kernel
theorem dL_acts_806 : decode cL_acts 806 = .ok (.iload 21, 2) := by decide +kernel
theorem dL_acts_808 : decode cL_acts 808 = .ok (.iload 22, 2) := by decide +kernel
theorem dL_acts_810 : decode cL_acts 810 = .ok (.invokestatic 25, 3) := by decide +kernel
theorem dL_acts_813 : decode cL_acts 813 = .ok (.iastore, 1) := by decide +kernel
theorem dL_acts_814 : decode cL_acts 814 = .ok (.iinc 22 1, 3) := by decide +kernel
theorem dL_acts_817 : decode cL_acts 817 = .ok (.goto (-32), 3) := by decide +kernel
theorem dL_acts_820 : decode cL_acts 820 = .ok (.aload_n 0, 1) := by decide +kernel
theorem dL_acts_821 : decode cL_acts 821 = .ok (.iload 9, 2) := by decide +kernel
theorem dL_acts_823 : decode cL_acts 823 = .ok (.iload 7, 2) := by decide +kernel
theorem dL_acts_825 : decode cL_acts 825 = .ok (.bipush 8, 2) := by decide +kernel
theorem dL_acts_827 : decode cL_acts 827 = .ok (.idiv, 1) := by decide +kernel
theorem dL_acts_828 : decode cL_acts 828 = .ok (.iconst 2, 1) := by decide +kernel
theorem dL_acts_829 : decode cL_acts 829 = .ok (.irem, 1) := by decide +kernel
theorem dL_acts_830 : decode cL_acts 830 = .ok (.invokevirtual 56, 3) := by decide +kernel
theorem dL_acts_833 : decode cL_acts 833 = .ok (.aload_n 1, 1) := by decide +kernel
theorem dL_acts_834 : decode cL_acts 834 = .ok (.aload_n 2, 1) := by decide +kernel
theorem dL_acts_835 : decode cL_acts 835 = .ok (.invokestatic 63, 3) := by decide +kernel
theorem dL_acts_838 : decode cL_acts 838 = .ok (.if_icmp .ne 7, 3) := by decide +kernel
theorem dL_acts_841 : decode cL_acts 841 = .ok (.iconst 1, 1) := by decide +kernel
theorem dL_acts_842 : decode cL_acts 842 = .ok (.goto 4, 3) := by decide +kernel
theorem dL_acts_845 : decode cL_acts 845 = .ok (.iconst 0, 1) := by decide +kernel
theorem dL_acts_846 : decode cL_acts 846 = .ok (.ireturn, 1) := by decide +kernel
theorem dL_acts_847 : decode cL_acts 847 = .ok (.bipush 16, 2) := by decide +kernel
theorem dL_acts_849 : decode cL_acts 849 = .ok (.istore 22, 2) := by decide +kernel
theorem dL_acts_851 : decode cL_acts 851 = .ok (.iload 22, 2) := by decide +kernel
theorem dL_acts_853 : decode cL_acts 853 = .ok (.bipush 32, 2) := by decide +kernel
theorem dL_acts_855 : decode cL_acts 855 = .ok (.if_icmp .ge 28, 3) := by decide +kernel
theorem dL_acts_858 : decode cL_acts 858 = .ok (.aload_n 2, 1) := by decide +kernel
theorem dL_acts_859 : decode cL_acts 859 = .ok (.iload 22, 2) := by decide +kernel
theorem dL_acts_861 : decode cL_acts 861 = .ok (.iload 7, 2) := by decide +kernel
theorem dL_acts_863 : decode cL_acts 863 = .ok (.iconst 2, 1) := by decide +kernel
theorem dL_acts_864 : decode cL_acts 864 = .ok (.irem, 1) := by decide +kernel
theorem dL_acts_865 : decode cL_acts 865 = .ok (.ifCond .ne 7, 3) := by decide +kernel
theorem dL_acts_868 : decode cL_acts 868 = .ok (.iconst 0, 1) := by decide +kernel
theorem dL_acts_869 : decode cL_acts 869 = .ok (.goto 7, 3) := by decide +kernel
theorem dL_acts_872 : decode cL_acts 872 = .ok (.aload_n 2, 1) := by decide +kernel
theorem dL_acts_873 : decode cL_acts 873 = .ok (.iload 22, 2) := by decide +kernel
theorem dL_acts_875 : decode cL_acts 875 = .ok (.iaload, 1) := by decide +kernel
theorem dL_acts_876 : decode cL_acts 876 = .ok (.iastore, 1) := by decide +kernel
theorem dL_acts_877 : decode cL_acts 877 = .ok (.iinc 22 1, 3) := by decide +kernel
theorem dL_acts_880 : decode cL_acts 880 = .ok (.goto (-29), 3) := by decide +kernel
theorem dL_acts_883 : decode cL_acts 883 = .ok (.iload 7, 2) := by decide +kernel
theorem dL_acts_885 : decode cL_acts 885 = .ok (.iconst 2, 1) := by decide +kernel
theorem dL_acts_886 : decode cL_acts 886 = .ok (.irem, 1) := by decide +kernel
theorem dL_acts_887 : decode cL_acts 887 = .ok (.iconst 1, 1) := by decide +kernel
theorem dL_acts_888 : decode cL_acts 888 = .ok (.if_icmp .eq 15, 3) := by decide +kernel
theorem dL_acts_891 : decode cL_acts 891 = .ok (.aload_n 0, 1) := by decide +kernel
theorem dL_acts_892 : decode cL_acts 892 = .ok (.invokevirtual 67, 3) := by decide +kernel
theorem dL_acts_895 : decode cL_acts 895 = .ok (.aload_n 1, 1) := by decide +kernel
theorem dL_acts_896 : decode cL_acts 896 = .ok (.aload_n 2, 1) := by decide +kernel
theorem dL_acts_897 : decode cL_acts 897 = .ok (.invokestatic 63, 3) := by decide +kernel
theorem dL_acts_900 : decode cL_acts 900 = .ok (.if_icmp .ne 7, 3) := by decide +kernel
theorem dL_acts_903 : decode cL_acts 903 = .ok (.iconst 1, 1) := by decide +kernel
theorem dL_acts_904 : decode cL_acts 904 = .ok (.goto 4, 3) := by decide +kernel
theorem dL_acts_907 : decode cL_acts 907 = .ok (.iconst 0, 1) := by decide +kernel
theorem dL_acts_908 : decode cL_acts 908 = .ok (.ireturn, 1) := by decide +kernel
theorem dL_acts_909 : decode cL_acts 909 = .ok (.aload_n 2, 1) := by decide +kernel
theorem dL_acts_910 : decode cL_acts 910 = .ok (.bipush 32, 2) := by decide +kernel
theorem dL_acts_912 : decode cL_acts 912 = .ok (.iload 10, 2) := by decide +kernel
theorem dL_acts_914 : decode cL_acts 914 = .ok (.iadd, 1) := by decide +kernel
theorem dL_acts_915 : decode cL_acts 915 = .ok (.iaload, 1) := by decide +kernel
theorem dL_acts_916 : decode cL_acts 916 = .ok (.iload 11, 2) := by decide +kernel
theorem dL_acts_918 : decode cL_acts 918 = .ok (.ishr, 1) := by decide +kernel
theorem dL_acts_919 : decode cL_acts 919 = .ok (.iconst 1, 1) := by decide +kernel
theorem dL_acts_920 : decode cL_acts 920 = .ok (.iand, 1) := by decide +kernel
theorem dL_acts_921 : decode cL_acts 921 = .ok (.iconst 1, 1) := by decide +kernel
theorem dL_acts_922 : decode cL_acts 922 = .ok (.if_icmp .ne 7, 3) := by decide +kernel
theorem dL_acts_925 : decode cL_acts 925 = .ok (.iconst 1, 1) := by decide +kernel
theorem dL_acts_926 : decode cL_acts 926 = .ok (.goto 4, 3) := by decide +kernel
theorem dL_acts_929 : decode cL_acts 929 = .ok (.iconst 0, 1) := by decide +kernel
theorem dL_acts_930 : decode cL_acts 930 = .ok (.istore 22, 2) := by decide +kernel
theorem dL_acts_932 : decode cL_acts 932 = .ok (.aload_n 2, 1) := by decide +kernel
theorem dL_acts_933 : decode cL_acts 933 = .ok (.bipush 32, 2) := by decide +kernel
theorem dL_acts_935 : decode cL_acts 935 = .ok (.iload 10, 2) := by decide +kernel
theorem dL_acts_937 : decode cL_acts 937 = .ok (.iadd, 1) := by decide +kernel
theorem dL_acts_938 : decode cL_acts 938 = .ok (.dup2, 1) := by decide +kernel
theorem dL_acts_939 : decode cL_acts 939 = .ok (.iaload, 1) := by decide +kernel
theorem dL_acts_940 : decode cL_acts 940 = .ok (.iconst 1, 1) := by decide +kernel
theorem dL_acts_941 : decode cL_acts 941 = .ok (.iload 11, 2) := by decide +kernel
theorem dL_acts_943 : decode cL_acts 943 = .ok (.ishl, 1) := by decide +kernel
theorem dL_acts_944 : decode cL_acts 944 = .ok (.ior, 1) := by decide +kernel
theorem dL_acts_945 : decode cL_acts 945 = .ok (.iastore, 1) := by decide +kernel
theorem dL_acts_946 : decode cL_acts 946 = .ok (.aload_n 0, 1) := by decide +kernel
theorem dL_acts_947 : decode cL_acts 947 = .ok (.iload 10, 2) := by decide +kernel
theorem dL_acts_949 : decode cL_acts 949 = .ok (.iload 11, 2) := by decide +kernel
theorem dL_acts_951 : decode cL_acts 951 = .ok (.invokevirtual 71, 3) := by decide +kernel
theorem dL_acts_954 : decode cL_acts 954 = .ok (.iload 22, 2) := by decide +kernel
theorem dL_acts_956 : decode cL_acts 956 = .ok (.ifCond .eq 9, 3) := by decide +kernel
theorem dL_acts_959 : decode cL_acts 959 = .ok (.sipush (-1002), 3) := by decide +kernel
theorem dL_acts_962 : decode cL_acts 962 = .ok (.goto 18, 3) := by decide +kernel
theorem dL_acts_965 : decode cL_acts 965 = .ok (.aload_n 3, 1) := by decide +kernel
theorem dL_acts_966 : decode cL_acts 966 = .ok (.iload 10, 2) := by decide +kernel
theorem dL_acts_968 : decode cL_acts 968 = .ok (.laload, 1) := by decide +kernel
theorem dL_acts_969 : decode cL_acts 969 = .ok (.bipush 8, 2) := by decide +kernel
theorem dL_acts_971 : decode cL_acts 971 = .ok (.iload 11, 2) := by decide +kernel
theorem dL_acts_973 : decode cL_acts 973 = .ok (.imul, 1) := by decide +kernel
theorem dL_acts_974 : decode cL_acts 974 = .ok (.lshr, 1) := by decide +kernel
theorem dL_acts_975 : decode cL_acts 975 = .ok (.ldc2_w 19, 3) := by decide +kernel
theorem dL_acts_978 : decode cL_acts 978 = .ok (.land, 1) := by decide +kernel
theorem dL_acts_979 : decode cL_acts 979 = .ok (.l2i, 1) := by decide +kernel
theorem dL_acts_980 : decode cL_acts 980 = .ok (.if_icmp .ne 7, 3) := by decide +kernel
theorem dL_acts_983 : decode cL_acts 983 = .ok (.iconst 1, 1) := by decide +kernel
theorem dL_acts_984 : decode cL_acts 984 = .ok (.goto 4, 3) := by decide +kernel
theorem dL_acts_987 : decode cL_acts 987 = .ok (.iconst 0, 1) := by decide +kernel
theorem dL_acts_988 : decode cL_acts 988 = .ok (.ireturn, 1) := by decide +kernel
theorem dL_acts_989 : decode cL_acts 989 = .ok (.aload_n 2, 1) := by decide +kernel
theorem dL_acts_990 : decode cL_acts 990 = .ok (.bipush 32, 2) := by decide +kernel
theorem dL_acts_992 : decode cL_acts 992 = .ok (.iload 10, 2) := by decide +kernel
theorem dL_acts_994 : decode cL_acts 994 = .ok (.iadd, 1) := by decide +kernel
theorem dL_acts_995 : decode cL_acts 995 = .ok (.iaload, 1) := by decide +kernel
theorem dL_acts_996 : decode cL_acts 996 = .ok (.iload 11, 2) := by decide +kernel
theorem dL_acts_998 : decode cL_acts 998 = .ok (.ishr, 1) := by decide +kernel
theorem dL_acts_999 : decode cL_acts 999 = .ok (.iconst 1, 1) := by decide +kernel
theorem dL_acts_1000 : decode cL_acts 1000 = .ok (.iand, 1) := by decide +kernel
theorem dL_acts_1001 : decode cL_acts 1001 = .ok (.istore 23, 2) := by decide +kernel
theorem dL_acts_1003 : decode cL_acts 1003 = .ok (.aload_n 2, 1) := by decide +kernel
theorem dL_acts_1004 : decode cL_acts 1004 = .ok (.bipush 32, 2) := by decide +kernel
theorem dL_acts_1006 : decode cL_acts 1006 = .ok (.iload 10, 2) := by decide +kernel
theorem dL_acts_1008 : decode cL_acts 1008 = .ok (.iadd, 1) := by decide +kernel
theorem dL_acts_1009 : decode cL_acts 1009 = .ok (.dup2, 1) := by decide +kernel
theorem dL_acts_1010 : decode cL_acts 1010 = .ok (.iaload, 1) := by decide +kernel
theorem dL_acts_1011 : decode cL_acts 1011 = .ok (.iconst 1, 1) := by decide +kernel
theorem dL_acts_1012 : decode cL_acts 1012 = .ok (.iload 11, 2) := by decide +kernel
theorem dL_acts_1014 : decode cL_acts 1014 = .ok (.ishl, 1) := by decide +kernel
theorem dL_acts_1015 : decode cL_acts 1015 = .ok (.iconst (-1), 1) := by decide +kernel
theorem dL_acts_1016 : decode cL_acts 1016 = .ok (.ixor, 1) := by decide +kernel
theorem dL_acts_1017 : decode cL_acts 1017 = .ok (.iand, 1) := by decide +kernel
theorem dL_acts_1018 : decode cL_acts 1018 = .ok (.iastore, 1) := by decide +kernel
theorem dL_acts_1019 : decode cL_acts 1019 = .ok (.aload_n 2, 1) := by decide +kernel
theorem dL_acts_1020 : decode cL_acts 1020 = .ok (.bipush 48, 2) := by decide +kernel
theorem dL_acts_1022 : decode cL_acts 1022 = .ok (.iload 10, 2) := by decide +kernel
theorem dL_acts_1024 : decode cL_acts 1024 = .ok (.iadd, 1) := by decide +kernel
theorem dL_acts_1025 : decode cL_acts 1025 = .ok (.dup2, 1) := by decide +kernel
theorem dL_acts_1026 : decode cL_acts 1026 = .ok (.iaload, 1) := by decide +kernel
theorem dL_acts_1027 : decode cL_acts 1027 = .ok (.iconst 1, 1) := by decide +kernel
theorem dL_acts_1028 : decode cL_acts 1028 = .ok (.iload 11, 2) := by decide +kernel
theorem dL_acts_1030 : decode cL_acts 1030 = .ok (.ishl, 1) := by decide +kernel
theorem dL_acts_1031 : decode cL_acts 1031 = .ok (.iconst (-1), 1) := by decide +kernel
theorem dL_acts_1032 : decode cL_acts 1032 = .ok (.ixor, 1) := by decide +kernel
theorem dL_acts_1033 : decode cL_acts 1033 = .ok (.iand, 1) := by decide +kernel
theorem dL_acts_1034 : decode cL_acts 1034 = .ok (.iastore, 1) := by decide +kernel
theorem dL_acts_1035 : decode cL_acts 1035 = .ok (.aload_n 3, 1) := by decide +kernel
theorem dL_acts_1036 : decode cL_acts 1036 = .ok (.iload 10, 2) := by decide +kernel
theorem dL_acts_1038 : decode cL_acts 1038 = .ok (.dup2, 1) := by decide +kernel
theorem dL_acts_1039 : decode cL_acts 1039 = .ok (.laload, 1) := by decide +kernel
theorem dL_acts_1040 : decode cL_acts 1040 = .ok (.ldc2_w 19, 3) := by decide +kernel
theorem dL_acts_1043 : decode cL_acts 1043 = .ok (.bipush 8, 2) := by decide +kernel
theorem dL_acts_1045 : decode cL_acts 1045 = .ok (.iload 11, 2) := by decide +kernel
theorem dL_acts_1047 : decode cL_acts 1047 = .ok (.imul, 1) := by decide +kernel
theorem dL_acts_1048 : decode cL_acts 1048 = .ok (.lshl, 1) := by decide +kernel
theorem dL_acts_1049 : decode cL_acts 1049 = .ok (.ldc2_w 74, 3) := by decide +kernel
theorem dL_acts_1052 : decode cL_acts 1052 = .ok (.lxor, 1) := by decide +kernel
theorem dL_acts_1053 : decode cL_acts 1053 = .ok (.land, 1) := by decide +kernel
theorem dL_acts_1054 : decode cL_acts 1054 = .ok (.lastore, 1) := by decide +kernel
theorem dL_acts_1055 : decode cL_acts 1055 = .ok (.aload_n 0, 1) := by decide +kernel
theorem dL_acts_1056 : decode cL_acts 1056 = .ok (.iload 10, 2) := by decide +kernel
theorem dL_acts_1058 : decode cL_acts 1058 = .ok (.iload 11, 2) := by decide +kernel
theorem dL_acts_1060 : decode cL_acts 1060 = .ok (.invokevirtual 76, 3) := by decide +kernel
theorem dL_acts_1063 : decode cL_acts 1063 = .ok (.iload 23, 2) := by decide +kernel
theorem dL_acts_1065 : decode cL_acts 1065 = .ok (.if_icmp .ne 7, 3) := by decide +kernel
theorem dL_acts_1068 : decode cL_acts 1068 = .ok (.iconst 1, 1) := by decide +kernel
theorem dL_acts_1069 : decode cL_acts 1069 = .ok (.goto 4, 3) := by decide +kernel
theorem dL_acts_1072 : decode cL_acts 1072 = .ok (.iconst 0, 1) := by decide +kernel
theorem dL_acts_1073 : decode cL_acts 1073 = .ok (.ireturn, 1) := by decide +kernel
theorem dL_acts_1074 : decode cL_acts 1074 = .ok (.iload 7, 2) := by decide +kernel
theorem dL_acts_1076 : decode cL_acts 1076 = .ok (.bipush 9, 2) := by decide +kernel
theorem dL_acts_1078 : decode cL_acts 1078 = .ok (.irem, 1) := by decide +kernel
theorem dL_acts_1079 : decode cL_acts 1079 = .ok (.ifCond .ne 16, 3) := by decide +kernel
theorem dL_acts_1082 : decode cL_acts 1082 = .ok (.iconst 1, 1) := by decide +kernel
theorem dL_acts_1083 : decode cL_acts 1083 = .ok (.iload 7, 2) := by decide +kernel
theorem dL_acts_1085 : decode cL_acts 1085 = .ok (.bipush 9, 2) := by decide +kernel
theorem dL_acts_1087 : decode cL_acts 1087 = .ok (.idiv, 1) := by decide +kernel
theorem dL_acts_1088 : decode cL_acts 1088 = .ok (.bipush 30, 2) := by decide +kernel
theorem dL_acts_1090 : decode cL_acts 1090 = .ok (.irem, 1) := by decide +kernel
theorem dL_acts_1091 : decode cL_acts 1091 = .ok (.iadd, 1) := by decide +kernel
theorem dL_acts_1092 : decode cL_acts 1092 = .ok (.goto 9, 3) := by decide +kernel
theorem dL_acts_1095 : decode cL_acts 1095 = .ok (.iconst 1, 1) := by decide +kernel
theorem dL_acts_1096 : decode cL_acts 1096 = .ok (.iload 7, 2) := by decide +kernel
theorem dL_acts_1098 : decode cL_acts 1098 = .ok (.iconst 3, 1) := by decide +kernel
theorem dL_acts_1099 : decode cL_acts 1099 = .ok (.irem, 1) := by decide +kernel
theorem dL_acts_1100 : decode cL_acts 1100 = .ok (.iadd, 1) := by decide +kernel
theorem dL_acts_1101 : decode cL_acts 1101 = .ok (.istore 24, 2) := by decide +kernel
theorem dL_acts_1103 : decode cL_acts 1103 = .ok (.iconst 0, 1) := by decide +kernel
theorem dL_acts_1104 : decode cL_acts 1104 = .ok (.istore 25, 2) := by decide +kernel
theorem dL_acts_1106 : decode cL_acts 1106 = .ok (.iload 25, 2) := by decide +kernel
theorem dL_acts_1108 : decode cL_acts 1108 = .ok (.iload 24, 2) := by decide +kernel
theorem dL_acts_1110 : decode cL_acts 1110 = .ok (.if_icmp .ge 15, 3) := by decide +kernel
theorem dL_acts_1113 : decode cL_acts 1113 = .ok (.aload_n 1, 1) := by decide +kernel
theorem dL_acts_1114 : decode cL_acts 1114 = .ok (.aload_n 2, 1) := by decide +kernel
theorem dL_acts_1115 : decode cL_acts 1115 = .ok (.aload_n 3, 1) := by decide +kernel
theorem dL_acts_1116 : decode cL_acts 1116 = .ok (.invokestatic 79, 3) := by decide +kernel
theorem dL_acts_1119 : decode cL_acts 1119 = .ok (.iinc 25 1, 3) := by decide +kernel
theorem dL_acts_1122 : decode cL_acts 1122 = .ok (.goto (-16), 3) := by decide +kernel
theorem dL_acts_1125 : decode cL_acts 1125 = .ok (.aload_n 0, 1) := by decide +kernel
theorem dL_acts_1126 : decode cL_acts 1126 = .ok (.iload 24, 2) := by decide +kernel
theorem dL_acts_1128 : decode cL_acts 1128 = .ok (.invokevirtual 83, 3) := by decide +kernel
theorem dL_acts_1131 : decode cL_acts 1131 = .ok (.aload_n 1, 1) := by decide +kernel
theorem dL_acts_1132 : decode cL_acts 1132 = .ok (.aload_n 2, 1) := by decide +kernel
theorem dL_acts_1133 : decode cL_acts 1133 = .ok (.invokestatic 63, 3) := by decide +kernel
theorem dL_acts_1136 : decode cL_acts 1136 = .ok (.if_icmp .ne 7, 3) := by decide +kernel
theorem dL_acts_1139 : decode cL_acts 1139 = .ok (.iconst 1, 1) := by decide +kernel
theorem dL_acts_1140 : decode cL_acts 1140 = .ok (.goto 4, 3) := by decide +kernel
theorem dL_acts_1143 : decode cL_acts 1143 = .ok (.iconst 0, 1) := by decide +kernel
theorem dL_acts_1144 : decode cL_acts 1144 = .ok (.ireturn, 1) := by decide +kernel
theorem dL_isSo_0 : decode cL_isSo 0 = .ok (.aload_n 0, 1) := by decide +kernel
theorem dL_isSo_1 : decode cL_isSo 1 = .ok (.iconst 0, 1) := by decide +kernel
theorem dL_isSo_2 : decode cL_isSo 2 = .ok (.invokevirtual 86, 3) := by decide +kernel
theorem dL_isSo_5 : decode cL_isSo 5 = .ok (.aload_n 1, 1) := by decide +kernel
theorem dL_isSo_6 : decode cL_isSo 6 = .ok (.iconst 0, 1) := by decide +kernel
theorem dL_isSo_7 : decode cL_isSo 7 = .ok (.iaload, 1) := by decide +kernel
theorem dL_isSo_8 : decode cL_isSo 8 = .ok (.if_icmp .ne 116, 3) := by decide +kernel
theorem dL_isSo_11 : decode cL_isSo 11 = .ok (.aload_n 0, 1) := by decide +kernel
theorem dL_isSo_12 : decode cL_isSo 12 = .ok (.iconst 1, 1) := by decide +kernel
theorem dL_isSo_13 : decode cL_isSo 13 = .ok (.invokevirtual 86, 3) := by decide +kernel
theorem dL_isSo_16 : decode cL_isSo 16 = .ok (.aload_n 1, 1) := by decide +kernel
theorem dL_isSo_17 : decode cL_isSo 17 = .ok (.iconst 1, 1) := by decide +kernel
theorem dL_isSo_18 : decode cL_isSo 18 = .ok (.iaload, 1) := by decide +kernel
theorem dL_isSo_19 : decode cL_isSo 19 = .ok (.if_icmp .ne 105, 3) := by decide +kernel
theorem dL_isSo_22 : decode cL_isSo 22 = .ok (.aload_n 0, 1) := by decide +kernel
theorem dL_isSo_23 : decode cL_isSo 23 = .ok (.iconst 2, 1) := by decide +kernel
theorem dL_isSo_24 : decode cL_isSo 24 = .ok (.invokevirtual 86, 3) := by decide +kernel
theorem dL_isSo_27 : decode cL_isSo 27 = .ok (.aload_n 1, 1) := by decide +kernel
theorem dL_isSo_28 : decode cL_isSo 28 = .ok (.iconst 2, 1) := by decide +kernel
theorem dL_isSo_29 : decode cL_isSo 29 = .ok (.iaload, 1) := by decide +kernel
theorem dL_isSo_30 : decode cL_isSo 30 = .ok (.if_icmp .ne 94, 3) := by decide +kernel
theorem dL_isSo_33 : decode cL_isSo 33 = .ok (.aload_n 0, 1) := by decide +kernel
theorem dL_isSo_34 : decode cL_isSo 34 = .ok (.iconst 3, 1) := by decide +kernel
theorem dL_isSo_35 : decode cL_isSo 35 = .ok (.invokevirtual 86, 3) := by decide +kernel
theorem dL_isSo_38 : decode cL_isSo 38 = .ok (.aload_n 1, 1) := by decide +kernel
theorem dL_isSo_39 : decode cL_isSo 39 = .ok (.iconst 3, 1) := by decide +kernel
theorem dL_isSo_40 : decode cL_isSo 40 = .ok (.iaload, 1) := by decide +kernel
theorem dL_isSo_41 : decode cL_isSo 41 = .ok (.if_icmp .ne 83, 3) := by decide +kernel
theorem dL_isSo_44 : decode cL_isSo 44 = .ok (.aload_n 0, 1) := by decide +kernel
theorem dL_isSo_45 : decode cL_isSo 45 = .ok (.iconst 4, 1) := by decide +kernel
theorem dL_isSo_46 : decode cL_isSo 46 = .ok (.invokevirtual 86, 3) := by decide +kernel
theorem dL_isSo_49 : decode cL_isSo 49 = .ok (.aload 5, 2) := by decide +kernel
theorem dL_isSo_51 : decode cL_isSo 51 = .ok (.bipush 60, 2) := by decide +kernel
theorem dL_isSo_53 : decode cL_isSo 53 = .ok (.iaload, 1) := by decide +kernel
theorem dL_isSo_54 : decode cL_isSo 54 = .ok (.if_icmp .ne 70, 3) := by decide +kernel
theorem dL_isSo_57 : decode cL_isSo 57 = .ok (.aload_n 0, 1) := by decide +kernel
theorem dL_isSo_58 : decode cL_isSo 58 = .ok (.iconst 5, 1) := by decide +kernel
theorem dL_isSo_59 : decode cL_isSo 59 = .ok (.invokevirtual 86, 3) := by decide +kernel
theorem dL_isSo_62 : decode cL_isSo 62 = .ok (.aload_n 1, 1) := by decide +kernel
theorem dL_isSo_63 : decode cL_isSo 63 = .ok (.aload_n 2, 1) := by decide +kernel
theorem dL_isSo_64 : decode cL_isSo 64 = .ok (.invokestatic 63, 3) := by decide +kernel
theorem dL_isSo_67 : decode cL_isSo 67 = .ok (.if_icmp .ne 57, 3) := by decide +kernel
theorem dL_isSo_70 : decode cL_isSo 70 = .ok (.aload_n 0, 1) := by decide +kernel
theorem dL_isSo_71 : decode cL_isSo 71 = .ok (.bipush 9, 2) := by decide +kernel
theorem dL_isSo_73 : decode cL_isSo 73 = .ok (.invokevirtual 86, 3) := by decide +kernel
theorem dL_isSo_76 : decode cL_isSo 76 = .ok (.aload_n 1, 1) := by decide +kernel
theorem dL_isSo_77 : decode cL_isSo 77 = .ok (.iconst 4, 1) := by decide +kernel
theorem dL_isSo_78 : decode cL_isSo 78 = .ok (.iaload, 1) := by decide +kernel
theorem dL_isSo_79 : decode cL_isSo 79 = .ok (.if_icmp .ne 45, 3) := by decide +kernel
theorem dL_isSo_82 : decode cL_isSo 82 = .ok (.aload_n 0, 1) := by decide +kernel
theorem dL_isSo_83 : decode cL_isSo 83 = .ok (.bipush 10, 2) := by decide +kernel
theorem dL_isSo_85 : decode cL_isSo 85 = .ok (.invokevirtual 86, 3) := by decide +kernel
theorem dL_isSo_88 : decode cL_isSo 88 = .ok (.aload_n 1, 1) := by decide +kernel
theorem dL_isSo_89 : decode cL_isSo 89 = .ok (.iconst 5, 1) := by decide +kernel
theorem dL_isSo_90 : decode cL_isSo 90 = .ok (.iaload, 1) := by decide +kernel
theorem dL_isSo_91 : decode cL_isSo 91 = .ok (.if_icmp .ne 33, 3) := by decide +kernel
theorem dL_isSo_94 : decode cL_isSo 94 = .ok (.aload_n 0, 1) := by decide +kernel
theorem dL_isSo_95 : decode cL_isSo 95 = .ok (.bipush 11, 2) := by decide +kernel
theorem dL_isSo_97 : decode cL_isSo 97 = .ok (.invokevirtual 86, 3) := by decide +kernel
theorem dL_isSo_100 : decode cL_isSo 100 = .ok (.aload_n 1, 1) := by decide +kernel
theorem dL_isSo_101 : decode cL_isSo 101 = .ok (.bipush 6, 2) := by decide +kernel
theorem dL_isSo_103 : decode cL_isSo 103 = .ok (.iaload, 1) := by decide +kernel
theorem dL_isSo_104 : decode cL_isSo 104 = .ok (.if_icmp .ne 20, 3) := by decide +kernel
theorem dL_isSo_107 : decode cL_isSo 107 = .ok (.aload_n 0, 1) := by decide +kernel
theorem dL_isSo_108 : decode cL_isSo 108 = .ok (.bipush 12, 2) := by decide +kernel
theorem dL_isSo_110 : decode cL_isSo 110 = .ok (.invokevirtual 86, 3) := by decide +kernel
theorem dL_isSo_113 : decode cL_isSo 113 = .ok (.aload_n 1, 1) := by decide +kernel
theorem dL_isSo_114 : decode cL_isSo 114 = .ok (.bipush 7, 2) := by decide +kernel
theorem dL_isSo_116 : decode cL_isSo 116 = .ok (.iaload, 1) := by decide +kernel
theorem dL_isSo_117 : decode cL_isSo 117 = .ok (.if_icmp .ne 7, 3) := by decide +kernel
theorem dL_isSo_120 : decode cL_isSo 120 = .ok (.iconst 1, 1) := by decide +kernel
theorem dL_isSo_121 : decode cL_isSo 121 = .ok (.goto 4, 3) := by decide +kernel
theorem dL_isSo_124 : decode cL_isSo 124 = .ok (.iconst 0, 1) := by decide +kernel
theorem dL_isSo_125 : decode cL_isSo 125 = .ok (.istore 6, 2) := by decide +kernel
theorem dL_isSo_127 : decode cL_isSo 127 = .ok (.iconst 0, 1) := by decide +kernel
theorem dL_isSo_128 : decode cL_isSo 128 = .ok (.istore 7, 2) := by decide +kernel
theorem dL_isSo_130 : decode cL_isSo 130 = .ok (.iconst 0, 1) := by decide +kernel
theorem dL_isSo_131 : decode cL_isSo 131 = .ok (.istore 8, 2) := by decide +kernel
theorem dL_isSo_133 : decode cL_isSo 133 = .ok (.iconst 0, 1) := by decide +kernel
theorem dL_isSo_134 : decode cL_isSo 134 = .ok (.istore 9, 2) := by decide +kernel
theorem dL_isSo_136 : decode cL_isSo 136 = .ok (.iconst 0, 1) := by decide +kernel
theorem dL_isSo_137 : decode cL_isSo 137 = .ok (.istore 10, 2) := by decide +kernel
theorem dL_isSo_139 : decode cL_isSo 139 = .ok (.iload 10, 2) := by decide +kernel
theorem dL_isSo_141 : decode cL_isSo 141 = .ok (.aload_n 1, 1) := by decide +kernel
theorem dL_isSo_142 : decode cL_isSo 142 = .ok (.iconst 0, 1) := by decide +kernel
theorem dL_isSo_143 : decode cL_isSo 143 = .ok (.iaload, 1) := by decide +kernel
theorem dL_isSo_144 : decode cL_isSo 144 = .ok (.if_icmp .ge 190, 3) := by decide +kernel
theorem dL_isSo_147 : decode cL_isSo 147 = .ok (.iload 6, 2) := by decide +kernel
theorem dL_isSo_149 : decode cL_isSo 149 = .ok (.ifCond .eq 185, 3) := by decide +kernel
theorem dL_isSo_152 : decode cL_isSo 152 = .ok (.iload 7, 2) := by decide +kernel
theorem dL_isSo_154 : decode cL_isSo 154 = .ok (.aload_n 2, 1) := by decide +kernel
theorem dL_isSo_155 : decode cL_isSo 155 = .ok (.bipush 32, 2) := by decide +kernel
theorem dL_isSo_157 : decode cL_isSo 157 = .ok (.iload 10, 2) := by decide +kernel
theorem dL_isSo_159 : decode cL_isSo 159 = .ok (.iadd, 1) := by decide +kernel
theorem dL_isSo_160 : decode cL_isSo 160 = .ok (.iaload, 1) := by decide +kernel
theorem dL_isSo_161 : decode cL_isSo 161 = .ok (.invokestatic 15, 3) := by decide +kernel
theorem dL_isSo_164 : decode cL_isSo 164 = .ok (.iadd, 1) := by decide +kernel
theorem dL_isSo_165 : decode cL_isSo 165 = .ok (.istore 7, 2) := by decide +kernel
theorem dL_isSo_167 : decode cL_isSo 167 = .ok (.iload 8, 2) := by decide +kernel
theorem dL_isSo_169 : decode cL_isSo 169 = .ok (.aload_n 2, 1) := by decide +kernel
theorem dL_isSo_170 : decode cL_isSo 170 = .ok (.bipush 48, 2) := by decide +kernel
theorem dL_isSo_172 : decode cL_isSo 172 = .ok (.iload 10, 2) := by decide +kernel
theorem dL_isSo_174 : decode cL_isSo 174 = .ok (.iadd, 1) := by decide +kernel
theorem dL_isSo_175 : decode cL_isSo 175 = .ok (.iaload, 1) := by decide +kernel
theorem dL_isSo_176 : decode cL_isSo 176 = .ok (.invokestatic 15, 3) := by decide +kernel
theorem dL_isSo_179 : decode cL_isSo 179 = .ok (.iadd, 1) := by decide +kernel
theorem dL_isSo_180 : decode cL_isSo 180 = .ok (.istore 8, 2) := by decide +kernel
theorem dL_isSo_182 : decode cL_isSo 182 = .ok (.iload 9, 2) := by decide +kernel
theorem dL_isSo_184 : decode cL_isSo 184 = .ok (.aload_n 2, 1) := by decide +kernel
theorem dL_isSo_185 : decode cL_isSo 185 = .ok (.iload 10, 2) := by decide +kernel
theorem dL_isSo_187 : decode cL_isSo 187 = .ok (.iaload, 1) := by decide +kernel
theorem dL_isSo_188 : decode cL_isSo 188 = .ok (.aload_n 2, 1) := by decide +kernel
theorem dL_isSo_189 : decode cL_isSo 189 = .ok (.bipush 16, 2) := by decide +kernel
theorem dL_isSo_191 : decode cL_isSo 191 = .ok (.iload 10, 2) := by decide +kernel
theorem dL_isSo_193 : decode cL_isSo 193 = .ok (.iadd, 1) := by decide +kernel
theorem dL_isSo_194 : decode cL_isSo 194 = .ok (.iaload, 1) := by decide +kernel
theorem dL_isSo_195 : decode cL_isSo 195 = .ok (.ixor, 1) := by decide +kernel
theorem dL_isSo_196 : decode cL_isSo 196 = .ok (.invokestatic 15, 3) := by decide +kernel
theorem dL_isSo_199 : decode cL_isSo 199 = .ok (.iadd, 1) := by decide +kernel
theorem dL_isSo_200 : decode cL_isSo 200 = .ok (.istore 9, 2) := by decide +kernel
theorem dL_isSo_202 : decode cL_isSo 202 = .ok (.aload_n 0, 1) := by decide +kernel
theorem dL_isSo_203 : decode cL_isSo 203 = .ok (.iload 10, 2) := by decide +kernel
theorem dL_isSo_205 : decode cL_isSo 205 = .ok (.iconst 0, 1) := by decide +kernel
theorem dL_isSo_206 : decode cL_isSo 206 = .ok (.invokevirtual 89, 3) := by decide +kernel
theorem dL_isSo_209 : decode cL_isSo 209 = .ok (.aload_n 2, 1) := by decide +kernel
theorem dL_isSo_210 : decode cL_isSo 210 = .ok (.iload 10, 2) := by decide +kernel
theorem dL_isSo_212 : decode cL_isSo 212 = .ok (.iaload, 1) := by decide +kernel
theorem dL_isSo_213 : decode cL_isSo 213 = .ok (.if_icmp .ne 58, 3) := by decide +kernel
theorem dL_isSo_216 : decode cL_isSo 216 = .ok (.aload_n 0, 1) := by decide +kernel
theorem dL_isSo_217 : decode cL_isSo 217 = .ok (.iload 10, 2) := by decide +kernel
theorem dL_isSo_219 : decode cL_isSo 219 = .ok (.iconst 1, 1) := by decide +kernel
theorem dL_isSo_220 : decode cL_isSo 220 = .ok (.invokevirtual 89, 3) := by decide +kernel
theorem dL_isSo_223 : decode cL_isSo 223 = .ok (.aload_n 2, 1) := by decide +kernel
theorem dL_isSo_224 : decode cL_isSo 224 = .ok (.bipush 16, 2) := by decide +kernel
theorem dL_isSo_226 : decode cL_isSo 226 = .ok (.iload 10, 2) := by decide +kernel
theorem dL_isSo_228 : decode cL_isSo 228 = .ok (.iadd, 1) := by decide +kernel
theorem dL_isSo_229 : decode cL_isSo 229 = .ok (.iaload, 1) := by decide +kernel
theorem dL_isSo_230 : decode cL_isSo 230 = .ok (.if_icmp .ne 41, 3) := by decide +kernel
theorem dL_isSo_233 : decode cL_isSo 233 = .ok (.aload_n 0, 1) := by decide +kernel
theorem dL_isSo_234 : decode cL_isSo 234 = .ok (.iload 10, 2) := by decide +kernel
theorem dL_isSo_236 : decode cL_isSo 236 = .ok (.iconst 2, 1) := by decide +kernel
theorem dL_isSo_237 : decode cL_isSo 237 = .ok (.invokevirtual 89, 3) := by decide +kernel
theorem dL_isSo_240 : decode cL_isSo 240 = .ok (.aload_n 2, 1) := by decide +kernel
theorem dL_isSo_241 : decode cL_isSo 241 = .ok (.bipush 32, 2) := by decide +kernel
theorem dL_isSo_243 : decode cL_isSo 243 = .ok (.iload 10, 2) := by decide +kernel
theorem dL_isSo_245 : decode cL_isSo 245 = .ok (.iadd, 1) := by decide +kernel
theorem dL_isSo_246 : decode cL_isSo 246 = .ok (.iaload, 1) := by decide +kernel
theorem dL_isSo_247 : decode cL_isSo 247 = .ok (.if_icmp .ne 24, 3) := by decide +kernel
theorem dL_isSo_250 : decode cL_isSo 250 = .ok (.aload_n 0, 1) := by decide +kernel
theorem dL_isSo_251 : decode cL_isSo 251 = .ok (.iload 10, 2) := by decide +kernel
theorem dL_isSo_253 : decode cL_isSo 253 = .ok (.iconst 3, 1) := by decide +kernel
theorem dL_isSo_254 : decode cL_isSo 254 = .ok (.invokevirtual 89, 3) := by decide +kernel
theorem dL_isSo_257 : decode cL_isSo 257 = .ok (.aload_n 2, 1) := by decide +kernel
theorem dL_isSo_258 : decode cL_isSo 258 = .ok (.bipush 48, 2) := by decide +kernel
theorem dL_isSo_260 : decode cL_isSo 260 = .ok (.iload 10, 2) := by decide +kernel
theorem dL_isSo_262 : decode cL_isSo 262 = .ok (.iadd, 1) := by decide +kernel
theorem dL_isSo_263 : decode cL_isSo 263 = .ok (.iaload, 1) := by decide +kernel
theorem dL_isSo_264 : decode cL_isSo 264 = .ok (.if_icmp .ne 7, 3) := by decide +kernel
theorem dL_isSo_267 : decode cL_isSo 267 = .ok (.iconst 1, 1) := by decide +kernel
theorem dL_isSo_268 : decode cL_isSo 268 = .ok (.goto 4, 3) := by decide +kernel
theorem dL_isSo_271 : decode cL_isSo 271 = .ok (.iconst 0, 1) := by decide +kernel
theorem dL_isSo_272 : decode cL_isSo 272 = .ok (.istore 6, 2) := by decide +kernel
theorem dL_isSo_274 : decode cL_isSo 274 = .ok (.iconst 0, 1) := by decide +kernel
theorem dL_isSo_275 : decode cL_isSo 275 = .ok (.istore 11, 2) := by decide +kernel
theorem dL_isSo_277 : decode cL_isSo 277 = .ok (.iload 11, 2) := by decide +kernel
theorem dL_isSo_279 : decode cL_isSo 279 = .ok (.bipush 7, 2) := by decide +kernel
theorem dL_isSo_281 : decode cL_isSo 281 = .ok (.if_icmp .ge 47, 3) := by decide +kernel
theorem dL_isSo_284 : decode cL_isSo 284 = .ok (.iload 6, 2) := by decide +kernel
theorem dL_isSo_286 : decode cL_isSo 286 = .ok (.ifCond .eq 33, 3) := by decide +kernel
theorem dL_isSo_289 : decode cL_isSo 289 = .ok (.aload_n 0, 1) := by decide +kernel
theorem dL_isSo_290 : decode cL_isSo 290 = .ok (.iload 10, 2) := by decide +kernel
theorem dL_isSo_292 : decode cL_isSo 292 = .ok (.iload 11, 2) := by decide +kernel
theorem dL_isSo_294 : decode cL_isSo 294 = .ok (.invokevirtual 92, 3) := by decide +kernel
theorem dL_isSo_297 : decode cL_isSo 297 = .ok (.aload_n 3, 1) := by decide +kernel
theorem dL_isSo_298 : decode cL_isSo 298 = .ok (.iload 10, 2) := by decide +kernel
theorem dL_isSo_300 : decode cL_isSo 300 = .ok (.laload, 1) := by decide +kernel
theorem dL_isSo_301 : decode cL_isSo 301 = .ok (.bipush 8, 2) := by decide +kernel
theorem dL_isSo_303 : decode cL_isSo 303 = .ok (.iload 11, 2) := by decide +kernel
theorem dL_isSo_305 : decode cL_isSo 305 = .ok (.imul, 1) := by decide +kernel
theorem dL_isSo_306 : decode cL_isSo 306 = .ok (.lshr, 1) := by decide +kernel
theorem dL_isSo_307 : decode cL_isSo 307 = .ok (.ldc2_w 19, 3) := by decide +kernel
theorem dL_isSo_310 : decode cL_isSo 310 = .ok (.land, 1) := by decide +kernel
theorem dL_isSo_311 : decode cL_isSo 311 = .ok (.l2i, 1) := by decide +kernel
theorem dL_isSo_312 : decode cL_isSo 312 = .ok (.if_icmp .ne 7, 3) := by decide +kernel
theorem dL_isSo_315 : decode cL_isSo 315 = .ok (.iconst 1, 1) := by decide +kernel
theorem dL_isSo_316 : decode cL_isSo 316 = .ok (.goto 4, 3) := by decide +kernel
theorem dL_isSo_319 : decode cL_isSo 319 = .ok (.iconst 0, 1) := by decide +kernel
theorem dL_isSo_320 : decode cL_isSo 320 = .ok (.istore 6, 2) := by decide +kernel
theorem dL_isSo_322 : decode cL_isSo 322 = .ok (.iinc 11 1, 3) := by decide +kernel
theorem dL_isSo_325 : decode cL_isSo 325 = .ok (.goto (-48), 3) := by decide +kernel
theorem dL_isSo_328 : decode cL_isSo 328 = .ok (.iinc 10 1, 3) := by decide +kernel
theorem dL_isSo_331 : decode cL_isSo 331 = .ok (.goto (-192), 3) := by decide +kernel
theorem dL_isSo_334 : decode cL_isSo 334 = .ok (.iconst 0, 1) := by decide +kernel
theorem dL_isSo_335 : decode cL_isSo 335 = .ok (.istore 10, 2) := by decide +kernel
theorem dL_isSo_337 : decode cL_isSo 337 = .ok (.iload 10, 2) := by decide +kernel
theorem dL_isSo_339 : decode cL_isSo 339 = .ok (.bipush 24, 2) := by decide +kernel
theorem dL_isSo_341 : decode cL_isSo 341 = .ok (.if_icmp .ge 79, 3) := by decide +kernel
theorem dL_isSo_344 : decode cL_isSo 344 = .ok (.iload 6, 2) := by decide +kernel
theorem dL_isSo_346 : decode cL_isSo 346 = .ok (.ifCond .eq 74, 3) := by decide +kernel
theorem dL_isSo_349 : decode cL_isSo 349 = .ok (.iload 10, 2) := by decide +kernel
theorem dL_isSo_351 : decode cL_isSo 351 = .ok (.bipush 6, 2) := by decide +kernel
theorem dL_isSo_353 : decode cL_isSo 353 = .ok (.irem, 1) := by decide +kernel
theorem dL_isSo_354 : decode cL_isSo 354 = .ok (.iconst 5, 1) := by decide +kernel
theorem dL_isSo_355 : decode cL_isSo 355 = .ok (.if_icmp .eq 52, 3) := by decide +kernel
theorem dL_isSo_358 : decode cL_isSo 358 = .ok (.aload_n 0, 1) := by decide +kernel
theorem dL_isSo_359 : decode cL_isSo 359 = .ok (.iload 10, 2) := by decide +kernel
theorem dL_isSo_361 : decode cL_isSo 361 = .ok (.bipush 6, 2) := by decide +kernel
theorem dL_isSo_363 : decode cL_isSo 363 = .ok (.idiv, 1) := by decide +kernel
theorem dL_isSo_364 : decode cL_isSo 364 = .ok (.iload 10, 2) := by decide +kernel
theorem dL_isSo_366 : decode cL_isSo 366 = .ok (.bipush 6, 2) := by decide +kernel
theorem dL_isSo_368 : decode cL_isSo 368 = .ok (.irem, 1) := by decide +kernel
theorem dL_isSo_369 : decode cL_isSo 369 = .ok (.invokevirtual 95, 3) := by decide +kernel
theorem dL_isSo_372 : decode cL_isSo 372 = .ok (.iload 10, 2) := by decide +kernel
theorem dL_isSo_374 : decode cL_isSo 374 = .ok (.bipush 6, 2) := by decide +kernel
theorem dL_isSo_376 : decode cL_isSo 376 = .ok (.irem, 1) := by decide +kernel
theorem dL_isSo_377 : decode cL_isSo 377 = .ok (.aload 4, 2) := by decide +kernel
theorem dL_isSo_379 : decode cL_isSo 379 = .ok (.bipush 6, 2) := by decide +kernel
theorem dL_isSo_381 : decode cL_isSo 381 = .ok (.iload 10, 2) := by decide +kernel
theorem dL_isSo_383 : decode cL_isSo 383 = .ok (.bipush 6, 2) := by decide +kernel
theorem dL_isSo_385 : decode cL_isSo 385 = .ok (.idiv, 1) := by decide +kernel
theorem dL_isSo_386 : decode cL_isSo 386 = .ok (.imul, 1) := by decide +kernel
theorem dL_isSo_387 : decode cL_isSo 387 = .ok (.iaload, 1) := by decide +kernel
theorem dL_isSo_388 : decode cL_isSo 388 = .ok (.if_icmp .ge 13, 3) := by decide +kernel
theorem dL_isSo_391 : decode cL_isSo 391 = .ok (.aload 4, 2) := by decide +kernel
theorem dL_isSo_393 : decode cL_isSo 393 = .ok (.iload 10, 2) := by decide +kernel
theorem dL_isSo_395 : decode cL_isSo 395 = .ok (.iconst 1, 1) := by decide +kernel
theorem dL_isSo_396 : decode cL_isSo 396 = .ok (.iadd, 1) := by decide +kernel
theorem dL_isSo_397 : decode cL_isSo 397 = .ok (.iaload, 1) := by decide +kernel
theorem dL_isSo_398 : decode cL_isSo 398 = .ok (.goto 6, 3) := by decide +kernel
theorem dL_isSo_401 : decode cL_isSo 401 = .ok (.sipush (-1009), 3) := by decide +kernel
theorem dL_isSo_404 : decode cL_isSo 404 = .ok (.if_icmp .ne 7, 3) := by decide +kernel
theorem dL_isSo_407 : decode cL_isSo 407 = .ok (.iconst 1, 1) := by decide +kernel
theorem dL_isSo_408 : decode cL_isSo 408 = .ok (.goto 4, 3) := by decide +kernel
theorem dL_isSo_411 : decode cL_isSo 411 = .ok (.iconst 0, 1) := by decide +kernel
theorem dL_isSo_412 : decode cL_isSo 412 = .ok (.istore 6, 2) := by decide +kernel
theorem dL_isSo_414 : decode cL_isSo 414 = .ok (.iinc 10 1, 3) := by decide +kernel
theorem dL_isSo_417 : decode cL_isSo 417 = .ok (.goto (-80), 3) := by decide +kernel
theorem dL_isSo_420 : decode cL_isSo 420 = .ok (.iconst 0, 1) := by decide +kernel
theorem dL_isSo_421 : decode cL_isSo 421 = .ok (.istore 10, 2) := by decide +kernel
theorem dL_isSo_423 : decode cL_isSo 423 = .ok (.iload 10, 2) := by decide +kernel
theorem dL_isSo_425 : decode cL_isSo 425 = .ok (.aload 5, 2) := by decide +kernel
theorem dL_isSo_427 : decode cL_isSo 427 = .ok (.bipush 60, 2) := by decide +kernel
theorem dL_isSo_429 : decode cL_isSo 429 = .ok (.iaload, 1) := by decide +kernel
theorem dL_isSo_430 : decode cL_isSo 430 = .ok (.if_icmp .ge 97, 3) := by decide +kernel
theorem dL_isSo_433 : decode cL_isSo 433 = .ok (.iload 6, 2) := by decide +kernel
theorem dL_isSo_435 : decode cL_isSo 435 = .ok (.ifCond .eq 92, 3) := by decide +kernel
theorem dL_isSo_438 : decode cL_isSo 438 = .ok (.aload_n 0, 1) := by decide +kernel
theorem dL_isSo_439 : decode cL_isSo 439 = .ok (.iload 10, 2) := by decide +kernel
theorem dL_isSo_441 : decode cL_isSo 441 = .ok (.invokevirtual 98, 3) := by decide +kernel
theorem dL_isSo_444 : decode cL_isSo 444 = .ok (.aload 4, 2) := by decide +kernel
theorem dL_isSo_446 : decode cL_isSo 446 = .ok (.aload 5, 2) := by decide +kernel
theorem dL_isSo_448 : decode cL_isSo 448 = .ok (.iload 10, 2) := by decide +kernel
theorem dL_isSo_450 : decode cL_isSo 450 = .ok (.invokestatic 9, 3) := by decide +kernel
theorem dL_isSo_453 : decode cL_isSo 453 = .ok (.if_icmp .ne 65, 3) := by decide +kernel
theorem dL_isSo_456 : decode cL_isSo 456 = .ok (.aload_n 0, 1) := by decide +kernel
theorem dL_isSo_457 : decode cL_isSo 457 = .ok (.iload 10, 2) := by decide +kernel
theorem dL_isSo_459 : decode cL_isSo 459 = .ok (.iconst 0, 1) := by decide +kernel
theorem dL_isSo_460 : decode cL_isSo 460 = .ok (.invokevirtual 100, 3) := by decide +kernel
theorem dL_isSo_463 : decode cL_isSo 463 = .ok (.aload 5, 2) := by decide +kernel
theorem dL_isSo_465 : decode cL_isSo 465 = .ok (.bipush 13, 2) := by decide +kernel
theorem dL_isSo_467 : decode cL_isSo 467 = .ok (.iload 10, 2) := by decide +kernel
theorem dL_isSo_469 : decode cL_isSo 469 = .ok (.imul, 1) := by decide +kernel
theorem dL_isSo_470 : decode cL_isSo 470 = .ok (.iconst 1, 1) := by decide +kernel
theorem dL_isSo_471 : decode cL_isSo 471 = .ok (.iadd, 1) := by decide +kernel
theorem dL_isSo_472 : decode cL_isSo 472 = .ok (.iaload, 1) := by decide +kernel
theorem dL_isSo_473 : decode cL_isSo 473 = .ok (.if_icmp .ne 45, 3) := by decide +kernel
theorem dL_isSo_476 : decode cL_isSo 476 = .ok (.aload_n 0, 1) := by decide +kernel
theorem dL_isSo_477 : decode cL_isSo 477 = .ok (.iload 10, 2) := by decide +kernel
theorem dL_isSo_479 : decode cL_isSo 479 = .ok (.iconst 1, 1) := by decide +kernel
theorem dL_isSo_480 : decode cL_isSo 480 = .ok (.invokevirtual 100, 3) := by decide +kernel
theorem dL_isSo_483 : decode cL_isSo 483 = .ok (.aload 5, 2) := by decide +kernel
theorem dL_isSo_485 : decode cL_isSo 485 = .ok (.bipush 13, 2) := by decide +kernel
theorem dL_isSo_487 : decode cL_isSo 487 = .ok (.iload 10, 2) := by decide +kernel
theorem dL_isSo_489 : decode cL_isSo 489 = .ok (.imul, 1) := by decide +kernel
theorem dL_isSo_490 : decode cL_isSo 490 = .ok (.iaload, 1) := by decide +kernel
theorem dL_isSo_491 : decode cL_isSo 491 = .ok (.iconst 1, 1) := by decide +kernel
theorem dL_isSo_492 : decode cL_isSo 492 = .ok (.if_icmp .ne 9, 3) := by decide +kernel
theorem dL_isSo_495 : decode cL_isSo 495 = .ok (.sipush (-1009), 3) := by decide +kernel
theorem dL_isSo_498 : decode cL_isSo 498 = .ok (.goto 13, 3) := by decide +kernel
theorem dL_isSo_501 : decode cL_isSo 501 = .ok (.aload 5, 2) := by decide +kernel
theorem dL_isSo_503 : decode cL_isSo 503 = .ok (.bipush 13, 2) := by decide +kernel
theorem dL_isSo_505 : decode cL_isSo 505 = .ok (.iload 10, 2) := by decide +kernel
theorem dL_isSo_507 : decode cL_isSo 507 = .ok (.imul, 1) := by decide +kernel
theorem dL_isSo_508 : decode cL_isSo 508 = .ok (.iconst 2, 1) := by decide +kernel
theorem dL_isSo_509 : decode cL_isSo 509 = .ok (.iadd, 1) := by decide +kernel
theorem dL_isSo_510 : decode cL_isSo 510 = .ok (.iaload, 1) := by decide +kernel
theorem dL_isSo_511 : decode cL_isSo 511 = .ok (.if_icmp .ne 7, 3) := by decide +kernel
theorem dL_isSo_514 : decode cL_isSo 514 = .ok (.iconst 1, 1) := by decide +kernel
theorem dL_isSo_515 : decode cL_isSo 515 = .ok (.goto 4, 3) := by decide +kernel
theorem dL_isSo_518 : decode cL_isSo 518 = .ok (.iconst 0, 1) := by decide +kernel
theorem dL_isSo_519 : decode cL_isSo 519 = .ok (.istore 6, 2) := by decide +kernel
theorem dL_isSo_521 : decode cL_isSo 521 = .ok (.iinc 10 1, 3) := by decide +kernel
theorem dL_isSo_524 : decode cL_isSo 524 = .ok (.goto (-101), 3) := by decide +kernel
theorem dL_isSo_527 : decode cL_isSo 527 = .ok (.iconst 1, 1) := by decide +kernel
theorem dL_isSo_528 : decode cL_isSo 528 = .ok (.istore 10, 2) := by decide +kernel
theorem dL_isSo_530 : decode cL_isSo 530 = .ok (.iload 10, 2) := by decide +kernel
theorem dL_isSo_532 : decode cL_isSo 532 = .ok (.bipush 21, 2) := by decide +kernel
theorem dL_isSo_534 : decode cL_isSo 534 = .ok (.if_icmp .ge 52, 3) := by decide +kernel
theorem dL_isSo_537 : decode cL_isSo 537 = .ok (.iload 6, 2) := by decide +kernel
theorem dL_isSo_539 : decode cL_isSo 539 = .ok (.ifCond .eq 47, 3) := by decide +kernel
theorem dL_isSo_542 : decode cL_isSo 542 = .ok (.aload_n 0, 1) := by decide +kernel
theorem dL_isSo_543 : decode cL_isSo 543 = .ok (.iload 10, 2) := by decide +kernel
theorem dL_isSo_545 : decode cL_isSo 545 = .ok (.invokevirtual 103, 3) := by decide +kernel
theorem dL_isSo_548 : decode cL_isSo 548 = .ok (.iload 10, 2) := by decide +kernel
theorem dL_isSo_550 : decode cL_isSo 550 = .ok (.aload_n 1, 1) := by decide +kernel
theorem dL_isSo_551 : decode cL_isSo 551 = .ok (.bipush 7, 2) := by decide +kernel
theorem dL_isSo_553 : decode cL_isSo 553 = .ok (.iaload, 1) := by decide +kernel
theorem dL_isSo_554 : decode cL_isSo 554 = .ok (.if_icmp .le 9, 3) := by decide +kernel
theorem dL_isSo_557 : decode cL_isSo 557 = .ok (.sipush (-1009), 3) := by decide +kernel
theorem dL_isSo_560 : decode cL_isSo 560 = .ok (.goto 10, 3) := by decide +kernel
theorem dL_isSo_563 : decode cL_isSo 563 = .ok (.aload_n 1, 1) := by decide +kernel
theorem dL_isSo_564 : decode cL_isSo 564 = .ok (.bipush 7, 2) := by decide +kernel
theorem dL_isSo_566 : decode cL_isSo 566 = .ok (.iload 10, 2) := by decide +kernel
theorem dL_isSo_568 : decode cL_isSo 568 = .ok (.iadd, 1) := by decide +kernel
theorem dL_isSo_569 : decode cL_isSo 569 = .ok (.iaload, 1) := by decide +kernel
theorem dL_isSo_570 : decode cL_isSo 570 = .ok (.if_icmp .ne 7, 3) := by decide +kernel
theorem dL_isSo_573 : decode cL_isSo 573 = .ok (.iconst 1, 1) := by decide +kernel
theorem dL_isSo_574 : decode cL_isSo 574 = .ok (.goto 4, 3) := by decide +kernel
theorem dL_isSo_577 : decode cL_isSo 577 = .ok (.iconst 0, 1) := by decide +kernel
theorem dL_isSo_578 : decode cL_isSo 578 = .ok (.istore 6, 2) := by decide +kernel
theorem dL_isSo_580 : decode cL_isSo 580 = .ok (.iinc 10 1, 3) := by decide +kernel
theorem dL_isSo_583 : decode cL_isSo 583 = .ok (.goto (-53), 3) := by decide +kernel
theorem dL_isSo_586 : decode cL_isSo 586 = .ok (.iload 6, 2) := by decide +kernel
theorem dL_isSo_588 : decode cL_isSo 588 = .ok (.ifCond .eq 40, 3) := by decide +kernel
theorem dL_isSo_591 : decode cL_isSo 591 = .ok (.aload_n 0, 1) := by decide +kernel
theorem dL_isSo_592 : decode cL_isSo 592 = .ok (.bipush 6, 2) := by decide +kernel
theorem dL_isSo_594 : decode cL_isSo 594 = .ok (.invokevirtual 86, 3) := by decide +kernel
theorem dL_isSo_597 : decode cL_isSo 597 = .ok (.iload 7, 2) := by decide +kernel
theorem dL_isSo_599 : decode cL_isSo 599 = .ok (.if_icmp .ne 29, 3) := by decide +kernel
theorem dL_isSo_602 : decode cL_isSo 602 = .ok (.aload_n 0, 1) := by decide +kernel
theorem dL_isSo_603 : decode cL_isSo 603 = .ok (.bipush 7, 2) := by decide +kernel
theorem dL_isSo_605 : decode cL_isSo 605 = .ok (.invokevirtual 86, 3) := by decide +kernel
theorem dL_isSo_608 : decode cL_isSo 608 = .ok (.iload 8, 2) := by decide +kernel
theorem dL_isSo_610 : decode cL_isSo 610 = .ok (.if_icmp .ne 18, 3) := by decide +kernel
theorem dL_isSo_613 : decode cL_isSo 613 = .ok (.aload_n 0, 1) := by decide +kernel
theorem dL_isSo_614 : decode cL_isSo 614 = .ok (.bipush 8, 2) := by decide +kernel
theorem dL_isSo_616 : decode cL_isSo 616 = .ok (.invokevirtual 86, 3) := by decide +kernel
theorem dL_isSo_619 : decode cL_isSo 619 = .ok (.iload 9, 2) := by decide +kernel
theorem dL_isSo_621 : decode cL_isSo 621 = .ok (.if_icmp .ne 7, 3) := by decide +kernel
theorem dL_isSo_624 : decode cL_isSo 624 = .ok (.iconst 1, 1) := by decide +kernel
theorem dL_isSo_625 : decode cL_isSo 625 = .ok (.goto 4, 3) := by decide +kernel
theorem dL_isSo_628 : decode cL_isSo 628 = .ok (.iconst 0, 1) := by decide +kernel
theorem dL_isSo_629 : decode cL_isSo 629 = .ok (.ireturn, 1) := by decide +kernel
theorem dL_law_0 : decode cL_law 0 = .ok (.new 39, 3) := by decide +kernel
theorem dL_law_3 : decode cL_law 3 = .ok (.dup, 1) := by decide +kernel
theorem dL_law_4 : decode cL_law 4 = .ok (.invokespecial 106, 3) := by decide +kernel
theorem dL_law_7 : decode cL_law 7 = .ok (.astore_n 1, 1) := by decide +kernel
theorem dL_law_8 : decode cL_law 8 = .ok (.bipush 28, 2) := by decide +kernel
theorem dL_law_10 : decode cL_law 10 = .ok (.newarray .int, 2) := by decide +kernel
theorem dL_law_12 : decode cL_law 12 = .ok (.astore_n 2, 1) := by decide +kernel
theorem dL_law_13 : decode cL_law 13 = .ok (.bipush 64, 2) := by decide +kernel
theorem dL_law_15 : decode cL_law 15 = .ok (.newarray .int, 2) := by decide +kernel
theorem dL_law_17 : decode cL_law 17 = .ok (.astore_n 3, 1) := by decide +kernel
theorem dL_law_18 : decode cL_law 18 = .ok (.bipush 16, 2) := by decide +kernel
theorem dL_law_20 : decode cL_law 20 = .ok (.newarray .long, 2) := by decide +kernel
theorem dL_law_22 : decode cL_law 22 = .ok (.astore 4, 2) := by decide +kernel
theorem dL_law_24 : decode cL_law 24 = .ok (.bipush 24, 2) := by decide +kernel
theorem dL_law_26 : decode cL_law 26 = .ok (.newarray .int, 2) := by decide +kernel
theorem dL_law_28 : decode cL_law 28 = .ok (.astore 5, 2) := by decide +kernel
theorem dL_law_30 : decode cL_law 30 = .ok (.bipush 61, 2) := by decide +kernel
theorem dL_law_32 : decode cL_law 32 = .ok (.newarray .int, 2) := by decide +kernel
theorem dL_law_34 : decode cL_law 34 = .ok (.astore 6, 2) := by decide +kernel
theorem dL_law_36 : decode cL_law 36 = .ok (.aload_n 2, 1) := by decide +kernel
theorem dL_law_37 : decode cL_law 37 = .ok (.iconst 0, 1) := by decide +kernel
theorem dL_law_38 : decode cL_law 38 = .ok (.bipush 6, 2) := by decide +kernel
theorem dL_law_40 : decode cL_law 40 = .ok (.aload_n 0, 1) := by decide +kernel
theorem dL_law_41 : decode cL_law 41 = .ok (.iconst 0, 1) := by decide +kernel
theorem dL_law_42 : decode cL_law 42 = .ok (.invokestatic 107, 3) := by decide +kernel
theorem dL_law_45 : decode cL_law 45 = .ok (.bipush 9, 2) := by decide +kernel
theorem dL_law_47 : decode cL_law 47 = .ok (.invokestatic 34, 3) := by decide +kernel
theorem dL_law_50 : decode cL_law 50 = .ok (.iadd, 1) := by decide +kernel
theorem dL_law_51 : decode cL_law 51 = .ok (.iastore, 1) := by decide +kernel
theorem dL_law_52 : decode cL_law 52 = .ok (.aload_n 2, 1) := by decide +kernel
theorem dL_law_53 : decode cL_law 53 = .ok (.iconst 1, 1) := by decide +kernel
theorem dL_law_54 : decode cL_law 54 = .ok (.bipush 10, 2) := by decide +kernel
theorem dL_law_56 : decode cL_law 56 = .ok (.iastore, 1) := by decide +kernel
theorem dL_law_57 : decode cL_law 57 = .ok (.aload_n 2, 1) := by decide +kernel
theorem dL_law_58 : decode cL_law 58 = .ok (.iconst 3, 1) := by decide +kernel
theorem dL_law_59 : decode cL_law 59 = .ok (.bipush 100, 2) := by decide +kernel
theorem dL_law_61 : decode cL_law 61 = .ok (.iastore, 1) := by decide +kernel
theorem dL_law_62 : decode cL_law 62 = .ok (.aload_n 1, 1) := by decide +kernel
theorem dL_law_63 : decode cL_law 63 = .ok (.aload_n 2, 1) := by decide +kernel
theorem dL_law_64 : decode cL_law 64 = .ok (.iconst 0, 1) := by decide +kernel
theorem dL_law_65 : decode cL_law 65 = .ok (.iaload, 1) := by decide +kernel
theorem dL_law_66 : decode cL_law 66 = .ok (.invokevirtual 38, 3) := by decide +kernel
theorem dL_law_69 : decode cL_law 69 = .ok (.bipush 20, 2) := by decide +kernel
theorem dL_law_71 : decode cL_law 71 = .ok (.if_icmp .ne 7, 3) := by decide +kernel
theorem dL_law_74 : decode cL_law 74 = .ok (.iconst 1, 1) := by decide +kernel
theorem dL_law_75 : decode cL_law 75 = .ok (.goto 4, 3) := by decide +kernel
theorem dL_law_78 : decode cL_law 78 = .ok (.iconst 0, 1) := by decide +kernel
theorem dL_law_79 : decode cL_law 79 = .ok (.istore 7, 2) := by decide +kernel
theorem dL_law_81 : decode cL_law 81 = .ok (.bipush 10, 2) := by decide +kernel
theorem dL_law_83 : decode cL_law 83 = .ok (.aload_n 0, 1) := by decide +kernel
theorem dL_law_84 : decode cL_law 84 = .ok (.iconst 0, 1) := by decide +kernel
theorem dL_law_85 : decode cL_law 85 = .ok (.invokestatic 107, 3) := by decide +kernel
theorem dL_law_88 : decode cL_law 88 = .ok (.iconst 4, 1) := by decide +kernel
theorem dL_law_89 : decode cL_law 89 = .ok (.ishr, 1) := by decide +kernel
theorem dL_law_90 : decode cL_law 90 = .ok (.bipush 60, 2) := by decide +kernel
theorem dL_law_92 : decode cL_law 92 = .ok (.invokestatic 34, 3) := by decide +kernel
theorem dL_law_95 : decode cL_law 95 = .ok (.iadd, 1) := by decide +kernel
theorem dL_law_96 : decode cL_law 96 = .ok (.istore 8, 2) := by decide +kernel
theorem dL_law_98 : decode cL_law 98 = .ok (.iconst 0, 1) := by decide +kernel
theorem dL_law_99 : decode cL_law 99 = .ok (.istore 9, 2) := by decide +kernel
theorem dL_law_101 : decode cL_law 101 = .ok (.iload 9, 2) := by decide +kernel
theorem dL_law_103 : decode cL_law 103 = .ok (.iload 8, 2) := by decide +kernel
theorem dL_law_105 : decode cL_law 105 = .ok (.if_icmp .ge 73, 3) := by decide +kernel
theorem dL_law_108 : decode cL_law 108 = .ok (.iload 7, 2) := by decide +kernel
theorem dL_law_110 : decode cL_law 110 = .ok (.ifCond .eq 68, 3) := by decide +kernel
theorem dL_law_113 : decode cL_law 113 = .ok (.aload_n 1, 1) := by decide +kernel
theorem dL_law_114 : decode cL_law 114 = .ok (.aload_n 2, 1) := by decide +kernel
theorem dL_law_115 : decode cL_law 115 = .ok (.aload_n 3, 1) := by decide +kernel
theorem dL_law_116 : decode cL_law 116 = .ok (.aload 4, 2) := by decide +kernel
theorem dL_law_118 : decode cL_law 118 = .ok (.aload 5, 2) := by decide +kernel
theorem dL_law_120 : decode cL_law 120 = .ok (.aload 6, 2) := by decide +kernel
theorem dL_law_122 : decode cL_law 122 = .ok (.aload_n 0, 1) := by decide +kernel
theorem dL_law_123 : decode cL_law 123 = .ok (.iconst 1, 1) := by decide +kernel
theorem dL_law_124 : decode cL_law 124 = .ok (.iload 9, 2) := by decide +kernel
theorem dL_law_126 : decode cL_law 126 = .ok (.iadd, 1) := by decide +kernel
theorem dL_law_127 : decode cL_law 127 = .ok (.invokestatic 107, 3) := by decide +kernel
theorem dL_law_130 : decode cL_law 130 = .ok (.sipush 7919, 3) := by decide +kernel
theorem dL_law_133 : decode cL_law 133 = .ok (.iload 9, 2) := by decide +kernel
theorem dL_law_135 : decode cL_law 135 = .ok (.imul, 1) := by decide +kernel
theorem dL_law_136 : decode cL_law 136 = .ok (.ixor, 1) := by decide +kernel
theorem dL_law_137 : decode cL_law 137 = .ok (.invokestatic 111, 3) := by decide +kernel
theorem dL_law_140 : decode cL_law 140 = .ok (.ifCond .eq 29, 3) := by decide +kernel
theorem dL_law_143 : decode cL_law 143 = .ok (.iload 9, 2) := by decide +kernel
theorem dL_law_145 : decode cL_law 145 = .ok (.iconst 2, 1) := by decide +kernel
theorem dL_law_146 : decode cL_law 146 = .ok (.irem, 1) := by decide +kernel
theorem dL_law_147 : decode cL_law 147 = .ok (.ifCond .gt 18, 3) := by decide +kernel
theorem dL_law_150 : decode cL_law 150 = .ok (.aload_n 1, 1) := by decide +kernel
theorem dL_law_151 : decode cL_law 151 = .ok (.aload_n 2, 1) := by decide +kernel
theorem dL_law_152 : decode cL_law 152 = .ok (.aload_n 3, 1) := by decide +kernel
theorem dL_law_153 : decode cL_law 153 = .ok (.aload 4, 2) := by decide +kernel
theorem dL_law_155 : decode cL_law 155 = .ok (.aload 5, 2) := by decide +kernel
theorem dL_law_157 : decode cL_law 157 = .ok (.aload 6, 2) := by decide +kernel
theorem dL_law_159 : decode cL_law 159 = .ok (.invokestatic 115, 3) := by decide +kernel
theorem dL_law_162 : decode cL_law 162 = .ok (.ifCond .eq 7, 3) := by decide +kernel
theorem dL_law_165 : decode cL_law 165 = .ok (.iconst 1, 1) := by decide +kernel
theorem dL_law_166 : decode cL_law 166 = .ok (.goto 4, 3) := by decide +kernel
theorem dL_law_169 : decode cL_law 169 = .ok (.iconst 0, 1) := by decide +kernel
theorem dL_law_170 : decode cL_law 170 = .ok (.istore 7, 2) := by decide +kernel
theorem dL_law_172 : decode cL_law 172 = .ok (.iinc 9 1, 3) := by decide +kernel
theorem dL_law_175 : decode cL_law 175 = .ok (.goto (-74), 3) := by decide +kernel
theorem dL_law_178 : decode cL_law 178 = .ok (.iload 7, 2) := by decide +kernel
theorem dL_law_180 : decode cL_law 180 = .ok (.ifCond .eq 63, 3) := by decide +kernel
theorem dL_law_183 : decode cL_law 183 = .ok (.aload_n 1, 1) := by decide +kernel
theorem dL_law_184 : decode cL_law 184 = .ok (.aload_n 2, 1) := by decide +kernel
theorem dL_law_185 : decode cL_law 185 = .ok (.aload_n 3, 1) := by decide +kernel
theorem dL_law_186 : decode cL_law 186 = .ok (.aload 4, 2) := by decide +kernel
theorem dL_law_188 : decode cL_law 188 = .ok (.aload 5, 2) := by decide +kernel
theorem dL_law_190 : decode cL_law 190 = .ok (.aload 6, 2) := by decide +kernel
theorem dL_law_192 : decode cL_law 192 = .ok (.invokestatic 115, 3) := by decide +kernel
theorem dL_law_195 : decode cL_law 195 = .ok (.ifCond .eq 48, 3) := by decide +kernel
theorem dL_law_198 : decode cL_law 198 = .ok (.aload_n 1, 1) := by decide +kernel
theorem dL_law_199 : decode cL_law 199 = .ok (.aload_n 2, 1) := by decide +kernel
theorem dL_law_200 : decode cL_law 200 = .ok (.iconst 0, 1) := by decide +kernel
theorem dL_law_201 : decode cL_law 201 = .ok (.iaload, 1) := by decide +kernel
theorem dL_law_202 : decode cL_law 202 = .ok (.iconst 0, 1) := by decide +kernel
theorem dL_law_203 : decode cL_law 203 = .ok (.invokevirtual 89, 3) := by decide +kernel
theorem dL_law_206 : decode cL_law 206 = .ok (.sipush (-1001), 3) := by decide +kernel
theorem dL_law_209 : decode cL_law 209 = .ok (.if_icmp .ne 34, 3) := by decide +kernel
theorem dL_law_212 : decode cL_law 212 = .ok (.aload_n 1, 1) := by decide +kernel
theorem dL_law_213 : decode cL_law 213 = .ok (.aload 6, 2) := by decide +kernel
theorem dL_law_215 : decode cL_law 215 = .ok (.bipush 60, 2) := by decide +kernel
theorem dL_law_217 : decode cL_law 217 = .ok (.iaload, 1) := by decide +kernel
theorem dL_law_218 : decode cL_law 218 = .ok (.invokevirtual 98, 3) := by decide +kernel
theorem dL_law_221 : decode cL_law 221 = .ok (.sipush (-1001), 3) := by decide +kernel
theorem dL_law_224 : decode cL_law 224 = .ok (.if_icmp .ne 19, 3) := by decide +kernel
theorem dL_law_227 : decode cL_law 227 = .ok (.aload_n 1, 1) := by decide +kernel
theorem dL_law_228 : decode cL_law 228 = .ok (.bipush 21, 2) := by decide +kernel
theorem dL_law_230 : decode cL_law 230 = .ok (.invokevirtual 103, 3) := by decide +kernel
theorem dL_law_233 : decode cL_law 233 = .ok (.sipush (-1001), 3) := by decide +kernel
theorem dL_law_236 : decode cL_law 236 = .ok (.if_icmp .ne 7, 3) := by decide +kernel
theorem dL_law_239 : decode cL_law 239 = .ok (.iconst 1, 1) := by decide +kernel
theorem dL_law_240 : decode cL_law 240 = .ok (.goto 4, 3) := by decide +kernel
theorem dL_law_243 : decode cL_law 243 = .ok (.iconst 0, 1) := by decide +kernel
theorem dL_law_244 : decode cL_law 244 = .ok (.ireturn, 1) := by decide +kernel
