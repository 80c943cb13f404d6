theorem dX10_init_0 : decode cX10_init 0 = .ok (.aload_n 0, 1) := by decide +kernel
theorem dX10_init_1 : decode cX10_init 1 = .ok (.invokespecial 1, 3) := by decide +kernel
theorem dX10_init_4 : decode cX10_init 4 = .ok (.aload_n 0, 1) := by decide +kernel
theorem dX10_init_5 : decode cX10_init 5 = .ok (.sipush 729, 3) := by decide +kernel
theorem dX10_init_8 : decode cX10_init 8 = .ok (.newarray .int, 2) := by decide +kernel
theorem dX10_init_10 : decode cX10_init 10 = .ok (.putfield 7, 3) := by decide +kernel
theorem dX10_init_13 : decode cX10_init 13 = .ok (.aload_n 0, 1) := by decide +kernel
theorem dX10_init_14 : decode cX10_init 14 = .ok (.sipush 4374, 3) := by decide +kernel
theorem dX10_init_17 : decode cX10_init 17 = .ok (.newarray .int, 2) := by decide +kernel
theorem dX10_init_19 : decode cX10_init 19 = .ok (.putfield 13, 3) := by decide +kernel
theorem dX10_init_22 : decode cX10_init 22 = .ok (.aload_n 0, 1) := by decide +kernel
theorem dX10_init_23 : decode cX10_init 23 = .ok (.sipush 729, 3) := by decide +kernel
theorem dX10_init_26 : decode cX10_init 26 = .ok (.newarray .int, 2) := by decide +kernel
theorem dX10_init_28 : decode cX10_init 28 = .ok (.putfield 16, 3) := by decide +kernel
theorem dX10_init_31 : decode cX10_init 31 = .ok (.aload_n 0, 1) := by decide +kernel
theorem dX10_init_32 : decode cX10_init 32 = .ok (.sipush 729, 3) := by decide +kernel
theorem dX10_init_35 : decode cX10_init 35 = .ok (.newarray .int, 2) := by decide +kernel
theorem dX10_init_37 : decode cX10_init 37 = .ok (.putfield 19, 3) := by decide +kernel
theorem dX10_init_40 : decode cX10_init 40 = .ok (.aload_n 0, 1) := by decide +kernel
theorem dX10_init_41 : decode cX10_init 41 = .ok (.bipush 120, 2) := by decide +kernel
theorem dX10_init_43 : decode cX10_init 43 = .ok (.newarray .int, 2) := by decide +kernel
theorem dX10_init_45 : decode cX10_init 45 = .ok (.putfield 22, 3) := by decide +kernel
theorem dX10_init_48 : decode cX10_init 48 = .ok (.aload_n 0, 1) := by decide +kernel
theorem dX10_init_49 : decode cX10_init 49 = .ok (.bipush 40, 2) := by decide +kernel
theorem dX10_init_51 : decode cX10_init 51 = .ok (.newarray .int, 2) := by decide +kernel
theorem dX10_init_53 : decode cX10_init 53 = .ok (.putfield 25, 3) := by decide +kernel
theorem dX10_init_56 : decode cX10_init 56 = .ok (.aload_n 0, 1) := by decide +kernel
theorem dX10_init_57 : decode cX10_init 57 = .ok (.bipush 40, 2) := by decide +kernel
theorem dX10_init_59 : decode cX10_init 59 = .ok (.newarray .int, 2) := by decide +kernel
theorem dX10_init_61 : decode cX10_init 61 = .ok (.putfield 28, 3) := by decide +kernel
theorem dX10_init_64 : decode cX10_init 64 = .ok (.aload_n 0, 1) := by decide +kernel
theorem dX10_init_65 : decode cX10_init 65 = .ok (.bipush 40, 2) := by decide +kernel
theorem dX10_init_67 : decode cX10_init 67 = .ok (.newarray .int, 2) := by decide +kernel
theorem dX10_init_69 : decode cX10_init 69 = .ok (.putfield 31, 3) := by decide +kernel
theorem dX10_init_72 : decode cX10_init 72 = .ok (.aload_n 0, 1) := by decide +kernel
theorem dX10_init_73 : decode cX10_init 73 = .ok (.iconst 5, 1) := by decide +kernel
theorem dX10_init_74 : decode cX10_init 74 = .ok (.newarray .int, 2) := by decide +kernel
theorem dX10_init_76 : decode cX10_init 76 = .ok (.putfield 34, 3) := by decide +kernel
theorem dX10_init_79 : decode cX10_init 79 = .ok (.aload_n 0, 1) := by decide +kernel
theorem dX10_init_80 : decode cX10_init 80 = .ok (.iconst 5, 1) := by decide +kernel
theorem dX10_init_81 : decode cX10_init 81 = .ok (.newarray .int, 2) := by decide +kernel
theorem dX10_init_83 : decode cX10_init 83 = .ok (.putfield 37, 3) := by decide +kernel
theorem dX10_init_86 : decode cX10_init 86 = .ok (.aload_n 0, 1) := by decide +kernel
theorem dX10_init_87 : decode cX10_init 87 = .ok (.bipush 8, 2) := by decide +kernel
theorem dX10_init_89 : decode cX10_init 89 = .ok (.newarray .int, 2) := by decide +kernel
theorem dX10_init_91 : decode cX10_init 91 = .ok (.putfield 40, 3) := by decide +kernel
theorem dX10_init_94 : decode cX10_init 94 = .ok (.aload_n 0, 1) := by decide +kernel
theorem dX10_init_95 : decode cX10_init 95 = .ok (.bipush 64, 2) := by decide +kernel
theorem dX10_init_97 : decode cX10_init 97 = .ok (.newarray .int, 2) := by decide +kernel
theorem dX10_init_99 : decode cX10_init 99 = .ok (.putfield 43, 3) := by decide +kernel
theorem dX10_init_102 : decode cX10_init 102 = .ok (.aload_n 0, 1) := by decide +kernel
theorem dX10_init_103 : decode cX10_init 103 = .ok (.getfield 7, 3) := by decide +kernel
theorem dX10_init_106 : decode cX10_init 106 = .ok (.iconst 0, 1) := by decide +kernel
theorem dX10_init_107 : decode cX10_init 107 = .ok (.bipush 20, 2) := by decide +kernel
theorem dX10_init_109 : decode cX10_init 109 = .ok (.iastore, 1) := by decide +kernel
theorem dX10_init_110 : decode cX10_init 110 = .ok (.aload_n 0, 1) := by decide +kernel
theorem dX10_init_111 : decode cX10_init 111 = .ok (.getfield 7, 3) := by decide +kernel
theorem dX10_init_114 : decode cX10_init 114 = .ok (.iconst 1, 1) := by decide +kernel
theorem dX10_init_115 : decode cX10_init 115 = .ok (.bipush 10, 2) := by decide +kernel
theorem dX10_init_117 : decode cX10_init 117 = .ok (.iastore, 1) := by decide +kernel
theorem dX10_init_118 : decode cX10_init 118 = .ok (.aload_n 0, 1) := by decide +kernel
theorem dX10_init_119 : decode cX10_init 119 = .ok (.getfield 7, 3) := by decide +kernel
theorem dX10_init_122 : decode cX10_init 122 = .ok (.iconst 3, 1) := by decide +kernel
theorem dX10_init_123 : decode cX10_init 123 = .ok (.bipush 100, 2) := by decide +kernel
theorem dX10_init_125 : decode cX10_init 125 = .ok (.iastore, 1) := by decide +kernel
theorem dX10_init_126 : decode cX10_init 126 = .ok (.return_, 1) := by decide +kernel
theorem dX10_in_0 : decode cX10_in 0 = .ok (.iload_n 0, 1) := by decide +kernel
theorem dX10_in_1 : decode cX10_in 1 = .ok (.iload_n 1, 1) := by decide +kernel
theorem dX10_in_2 : decode cX10_in 2 = .ok (.if_icmp .lt 12, 3) := by decide +kernel
theorem dX10_in_5 : decode cX10_in 5 = .ok (.iload_n 0, 1) := by decide +kernel
theorem dX10_in_6 : decode cX10_in 6 = .ok (.iload_n 2, 1) := by decide +kernel
theorem dX10_in_7 : decode cX10_in 7 = .ok (.if_icmp .gt 7, 3) := by decide +kernel
theorem dX10_in_10 : decode cX10_in 10 = .ok (.iconst 1, 1) := by decide +kernel
theorem dX10_in_11 : decode cX10_in 11 = .ok (.goto 4, 3) := by decide +kernel
theorem dX10_in_14 : decode cX10_in 14 = .ok (.iconst 0, 1) := by decide +kernel
theorem dX10_in_15 : decode cX10_in 15 = .ok (.ireturn, 1) := by decide +kernel
theorem dX10_copies_0 : decode cX10_copies 0 = .ok (.iconst 0, 1) := by decide +kernel
theorem dX10_copies_1 : decode cX10_copies 1 = .ok (.istore_n 2, 1) := by decide +kernel
theorem dX10_copies_2 : decode cX10_copies 2 = .ok (.iload_n 2, 1) := by decide +kernel
theorem dX10_copies_3 : decode cX10_copies 3 = .ok (.sipush 729, 3) := by decide +kernel
theorem dX10_copies_6 : decode cX10_copies 6 = .ok (.if_icmp .ge 15, 3) := by decide +kernel
theorem dX10_copies_9 : decode cX10_copies 9 = .ok (.aload_n 0, 1) := by decide +kernel
theorem dX10_copies_10 : decode cX10_copies 10 = .ok (.iload_n 2, 1) := by decide +kernel
theorem dX10_copies_11 : decode cX10_copies 11 = .ok (.aload_n 1, 1) := by decide +kernel
theorem dX10_copies_12 : decode cX10_copies 12 = .ok (.iload_n 2, 1) := by decide +kernel
theorem dX10_copies_13 : decode cX10_copies 13 = .ok (.iaload, 1) := by decide +kernel
theorem dX10_copies_14 : decode cX10_copies 14 = .ok (.iastore, 1) := by decide +kernel
theorem dX10_copies_15 : decode cX10_copies 15 = .ok (.iinc 2 1, 3) := by decide +kernel
theorem dX10_copies_18 : decode cX10_copies 18 = .ok (.goto (-16), 3) := by decide +kernel
theorem dX10_copies_21 : decode cX10_copies 21 = .ok (.return_, 1) := by decide +kernel
theorem dX10_hold_0 : decode cX10_hold 0 = .ok (.aload_n 0, 1) := by decide +kernel
theorem dX10_hold_1 : decode cX10_hold 1 = .ok (.getfield 16, 3) := by decide +kernel
theorem dX10_hold_4 : decode cX10_hold 4 = .ok (.aload_n 0, 1) := by decide +kernel
theorem dX10_hold_5 : decode cX10_hold 5 = .ok (.getfield 7, 3) := by decide +kernel
theorem dX10_hold_8 : decode cX10_hold 8 = .ok (.invokestatic 46, 3) := by decide +kernel
theorem dX10_hold_11 : decode cX10_hold 11 = .ok (.return_, 1) := by decide +kernel
theorem dX10_ends_0 : decode cX10_ends 0 = .ok (.aload_n 0, 1) := by decide +kernel
theorem dX10_ends_1 : decode cX10_ends 1 = .ok (.getfield 50, 3) := by decide +kernel
theorem dX10_ends_4 : decode cX10_ends 4 = .ok (.bipush 6, 2) := by decide +kernel
theorem dX10_ends_6 : decode cX10_ends 6 = .ok (.if_icmp .ne 44, 3) := by decide +kernel
theorem dX10_ends_9 : decode cX10_ends 9 = .ok (.iconst 0, 1) := by decide +kernel
theorem dX10_ends_10 : decode cX10_ends 10 = .ok (.istore_n 2, 1) := by decide +kernel
theorem dX10_ends_11 : decode cX10_ends 11 = .ok (.iload_n 2, 1) := by decide +kernel
theorem dX10_ends_12 : decode cX10_ends 12 = .ok (.sipush 3645, 3) := by decide +kernel
theorem dX10_ends_15 : decode cX10_ends 15 = .ok (.if_icmp .ge 25, 3) := by decide +kernel
theorem dX10_ends_18 : decode cX10_ends 18 = .ok (.aload_n 0, 1) := by decide +kernel
theorem dX10_ends_19 : decode cX10_ends 19 = .ok (.getfield 13, 3) := by decide +kernel
theorem dX10_ends_22 : decode cX10_ends 22 = .ok (.iload_n 2, 1) := by decide +kernel
theorem dX10_ends_23 : decode cX10_ends 23 = .ok (.aload_n 0, 1) := by decide +kernel
theorem dX10_ends_24 : decode cX10_ends 24 = .ok (.getfield 13, 3) := by decide +kernel
theorem dX10_ends_27 : decode cX10_ends 27 = .ok (.iload_n 2, 1) := by decide +kernel
theorem dX10_ends_28 : decode cX10_ends 28 = .ok (.sipush 729, 3) := by decide +kernel
theorem dX10_ends_31 : decode cX10_ends 31 = .ok (.iadd, 1) := by decide +kernel
theorem dX10_ends_32 : decode cX10_ends 32 = .ok (.iaload, 1) := by decide +kernel
theorem dX10_ends_33 : decode cX10_ends 33 = .ok (.iastore, 1) := by decide +kernel
theorem dX10_ends_34 : decode cX10_ends 34 = .ok (.iinc 2 1, 3) := by decide +kernel
theorem dX10_ends_37 : decode cX10_ends 37 = .ok (.goto (-26), 3) := by decide +kernel
theorem dX10_ends_40 : decode cX10_ends 40 = .ok (.aload_n 0, 1) := by decide +kernel
theorem dX10_ends_41 : decode cX10_ends 41 = .ok (.dup, 1) := by decide +kernel
theorem dX10_ends_42 : decode cX10_ends 42 = .ok (.getfield 50, 3) := by decide +kernel
theorem dX10_ends_45 : decode cX10_ends 45 = .ok (.iconst 1, 1) := by decide +kernel
theorem dX10_ends_46 : decode cX10_ends 46 = .ok (.isub, 1) := by decide +kernel
theorem dX10_ends_47 : decode cX10_ends 47 = .ok (.putfield 50, 3) := by decide +kernel
theorem dX10_ends_50 : decode cX10_ends 50 = .ok (.iconst 0, 1) := by decide +kernel
theorem dX10_ends_51 : decode cX10_ends 51 = .ok (.istore_n 2, 1) := by decide +kernel
theorem dX10_ends_52 : decode cX10_ends 52 = .ok (.iload_n 2, 1) := by decide +kernel
theorem dX10_ends_53 : decode cX10_ends 53 = .ok (.sipush 729, 3) := by decide +kernel
theorem dX10_ends_56 : decode cX10_ends 56 = .ok (.if_icmp .ge 30, 3) := by decide +kernel
theorem dX10_ends_59 : decode cX10_ends 59 = .ok (.aload_n 0, 1) := by decide +kernel
theorem dX10_ends_60 : decode cX10_ends 60 = .ok (.getfield 13, 3) := by decide +kernel
theorem dX10_ends_63 : decode cX10_ends 63 = .ok (.sipush 729, 3) := by decide +kernel
theorem dX10_ends_66 : decode cX10_ends 66 = .ok (.aload_n 0, 1) := by decide +kernel
theorem dX10_ends_67 : decode cX10_ends 67 = .ok (.getfield 50, 3) := by decide +kernel
theorem dX10_ends_70 : decode cX10_ends 70 = .ok (.imul, 1) := by decide +kernel
theorem dX10_ends_71 : decode cX10_ends 71 = .ok (.iload_n 2, 1) := by decide +kernel
theorem dX10_ends_72 : decode cX10_ends 72 = .ok (.iadd, 1) := by decide +kernel
theorem dX10_ends_73 : decode cX10_ends 73 = .ok (.aload_n 0, 1) := by decide +kernel
theorem dX10_ends_74 : decode cX10_ends 74 = .ok (.getfield 16, 3) := by decide +kernel
theorem dX10_ends_77 : decode cX10_ends 77 = .ok (.iload_n 2, 1) := by decide +kernel
theorem dX10_ends_78 : decode cX10_ends 78 = .ok (.iaload, 1) := by decide +kernel
theorem dX10_ends_79 : decode cX10_ends 79 = .ok (.iastore, 1) := by decide +kernel
theorem dX10_ends_80 : decode cX10_ends 80 = .ok (.iinc 2 1, 3) := by decide +kernel
theorem dX10_ends_83 : decode cX10_ends 83 = .ok (.goto (-31), 3) := by decide +kernel
theorem dX10_ends_86 : decode cX10_ends 86 = .ok (.aload_n 0, 1) := by decide +kernel
theorem dX10_ends_87 : decode cX10_ends 87 = .ok (.dup, 1) := by decide +kernel
theorem dX10_ends_88 : decode cX10_ends 88 = .ok (.getfield 50, 3) := by decide +kernel
theorem dX10_ends_91 : decode cX10_ends 91 = .ok (.iconst 1, 1) := by decide +kernel
theorem dX10_ends_92 : decode cX10_ends 92 = .ok (.iadd, 1) := by decide +kernel
theorem dX10_ends_93 : decode cX10_ends 93 = .ok (.putfield 50, 3) := by decide +kernel
theorem dX10_ends_96 : decode cX10_ends 96 = .ok (.iload_n 1, 1) := by decide +kernel
theorem dX10_ends_97 : decode cX10_ends 97 = .ok (.ireturn, 1) := by decide +kernel
theorem dX10_isColumn_0 : decode cX10_isColumn 0 = .ok (.iload_n 1, 1) := by decide +kernel
theorem dX10_isColumn_1 : decode cX10_isColumn 1 = .ok (.ifCond .lt 17, 3) := by decide +kernel
theorem dX10_isColumn_4 : decode cX10_isColumn 4 = .ok (.iload_n 1, 1) := by decide +kernel
theorem dX10_isColumn_5 : decode cX10_isColumn 5 = .ok (.aload_n 0, 1) := by decide +kernel
theorem dX10_isColumn_6 : decode cX10_isColumn 6 = .ok (.getfield 7, 3) := by decide +kernel
theorem dX10_isColumn_9 : decode cX10_isColumn 9 = .ok (.iconst 0, 1) := by decide +kernel
theorem dX10_isColumn_10 : decode cX10_isColumn 10 = .ok (.iaload, 1) := by decide +kernel
theorem dX10_isColumn_11 : decode cX10_isColumn 11 = .ok (.if_icmp .ge 7, 3) := by decide +kernel
theorem dX10_isColumn_14 : decode cX10_isColumn 14 = .ok (.iconst 1, 1) := by decide +kernel
theorem dX10_isColumn_15 : decode cX10_isColumn 15 = .ok (.goto 4, 3) := by decide +kernel
theorem dX10_isColumn_18 : decode cX10_isColumn 18 = .ok (.iconst 0, 1) := by decide +kernel
theorem dX10_isColumn_19 : decode cX10_isColumn 19 = .ok (.ireturn, 1) := by decide +kernel
theorem dX10_isMessage_0 : decode cX10_isMessage 0 = .ok (.iload_n 1, 1) := by decide +kernel
theorem dX10_isMessage_1 : decode cX10_isMessage 1 = .ok (.ifCond .lt 17, 3) := by decide +kernel
theorem dX10_isMessage_4 : decode cX10_isMessage 4 = .ok (.iload_n 1, 1) := by decide +kernel
theorem dX10_isMessage_5 : decode cX10_isMessage 5 = .ok (.aload_n 0, 1) := by decide +kernel
theorem dX10_isMessage_6 : decode cX10_isMessage 6 = .ok (.getfield 7, 3) := by decide +kernel
theorem dX10_isMessage_9 : decode cX10_isMessage 9 = .ok (.iconst 4, 1) := by decide +kernel
theorem dX10_isMessage_10 : decode cX10_isMessage 10 = .ok (.iaload, 1) := by decide +kernel
theorem dX10_isMessage_11 : decode cX10_isMessage 11 = .ok (.if_icmp .ge 7, 3) := by decide +kernel
theorem dX10_isMessage_14 : decode cX10_isMessage 14 = .ok (.iconst 1, 1) := by decide +kernel
theorem dX10_isMessage_15 : decode cX10_isMessage 15 = .ok (.goto 4, 3) := by decide +kernel
theorem dX10_isMessage_18 : decode cX10_isMessage 18 = .ok (.iconst 0, 1) := by decide +kernel
theorem dX10_isMessage_19 : decode cX10_isMessage 19 = .ok (.ireturn, 1) := by decide +kernel
theorem dX10_bits_0 : decode cX10_bits 0 = .ok (.iconst 0, 1) := by decide +kernel
theorem dX10_bits_1 : decode cX10_bits 1 = .ok (.istore_n 1, 1) := by decide +kernel
theorem dX10_bits_2 : decode cX10_bits 2 = .ok (.iconst 0, 1) := by decide +kernel
theorem dX10_bits_3 : decode cX10_bits 3 = .ok (.istore_n 2, 1) := by decide +kernel
theorem dX10_bits_4 : decode cX10_bits 4 = .ok (.iload_n 2, 1) := by decide +kernel
theorem dX10_bits_5 : decode cX10_bits 5 = .ok (.bipush 8, 2) := by decide +kernel
theorem dX10_bits_7 : decode cX10_bits 7 = .ok (.if_icmp .ge 17, 3) := by decide +kernel
theorem dX10_bits_10 : decode cX10_bits 10 = .ok (.iload_n 1, 1) := by decide +kernel
theorem dX10_bits_11 : decode cX10_bits 11 = .ok (.iload_n 0, 1) := by decide +kernel
theorem dX10_bits_12 : decode cX10_bits 12 = .ok (.iload_n 2, 1) := by decide +kernel
theorem dX10_bits_13 : decode cX10_bits 13 = .ok (.ishr, 1) := by decide +kernel
theorem dX10_bits_14 : decode cX10_bits 14 = .ok (.iconst 1, 1) := by decide +kernel
theorem dX10_bits_15 : decode cX10_bits 15 = .ok (.iand, 1) := by decide +kernel
theorem dX10_bits_16 : decode cX10_bits 16 = .ok (.iadd, 1) := by decide +kernel
theorem dX10_bits_17 : decode cX10_bits 17 = .ok (.istore_n 1, 1) := by decide +kernel
theorem dX10_bits_18 : decode cX10_bits 18 = .ok (.iinc 2 1, 3) := by decide +kernel
theorem dX10_bits_21 : decode cX10_bits 21 = .ok (.goto (-17), 3) := by decide +kernel
theorem dX10_bits_24 : decode cX10_bits 24 = .ok (.iload_n 1, 1) := by decide +kernel
theorem dX10_bits_25 : decode cX10_bits 25 = .ok (.ireturn, 1) := by decide +kernel
theorem dX10_lengthOf_0 : decode cX10_lengthOf 0 = .ok (.aload_n 0, 1) := by decide +kernel
theorem dX10_lengthOf_1 : decode cX10_lengthOf 1 = .ok (.getfield 7, 3) := by decide +kernel
theorem dX10_lengthOf_4 : decode cX10_lengthOf 4 = .ok (.sipush 605, 3) := by decide +kernel
theorem dX10_lengthOf_7 : decode cX10_lengthOf 7 = .ok (.bipush 13, 2) := by decide +kernel
theorem dX10_lengthOf_9 : decode cX10_lengthOf 9 = .ok (.iload_n 1, 1) := by decide +kernel
theorem dX10_lengthOf_10 : decode cX10_lengthOf 10 = .ok (.imul, 1) := by decide +kernel
theorem dX10_lengthOf_11 : decode cX10_lengthOf 11 = .ok (.iadd, 1) := by decide +kernel
theorem dX10_lengthOf_12 : decode cX10_lengthOf 12 = .ok (.iaload, 1) := by decide +kernel
theorem dX10_lengthOf_13 : decode cX10_lengthOf 13 = .ok (.ireturn, 1) := by decide +kernel
theorem dX10_characterOf_0 : decode cX10_characterOf 0 = .ok (.aload_n 0, 1) := by decide +kernel
theorem dX10_characterOf_1 : decode cX10_characterOf 1 = .ok (.getfield 7, 3) := by decide +kernel
theorem dX10_characterOf_4 : decode cX10_characterOf 4 = .ok (.sipush 605, 3) := by decide +kernel
theorem dX10_characterOf_7 : decode cX10_characterOf 7 = .ok (.bipush 13, 2) := by decide +kernel
theorem dX10_characterOf_9 : decode cX10_characterOf 9 = .ok (.iload_n 1, 1) := by decide +kernel
theorem dX10_characterOf_10 : decode cX10_characterOf 10 = .ok (.imul, 1) := by decide +kernel
theorem dX10_characterOf_11 : decode cX10_characterOf 11 = .ok (.iadd, 1) := by decide +kernel
theorem dX10_characterOf_12 : decode cX10_characterOf 12 = .ok (.iconst 1, 1) := by decide +kernel
theorem dX10_characterOf_13 : decode cX10_characterOf 13 = .ok (.iadd, 1) := by decide +kernel
theorem dX10_characterOf_14 : decode cX10_characterOf 14 = .ok (.iload_n 2, 1) := by decide +kernel
theorem dX10_characterOf_15 : decode cX10_characterOf 15 = .ok (.iadd, 1) := by decide +kernel
theorem dX10_characterOf_16 : decode cX10_characterOf 16 = .ok (.iaload, 1) := by decide +kernel
theorem dX10_characterOf_17 : decode cX10_characterOf 17 = .ok (.ireturn, 1) := by decide +kernel
theorem dX10_wideOf_0 : decode cX10_wideOf 0 = .ok (.iload_n 1, 1) := by decide +kernel
theorem dX10_wideOf_1 : decode cX10_wideOf 1 = .ok (.bipush 26, 2) := by decide +kernel
theorem dX10_wideOf_3 : decode cX10_wideOf 3 = .ok (.if_icmp .ne 7, 3) := by decide +kernel
theorem dX10_wideOf_6 : decode cX10_wideOf 6 = .ok (.iconst 2, 1) := by decide +kernel
theorem dX10_wideOf_7 : decode cX10_wideOf 7 = .ok (.goto 16, 3) := by decide +kernel
theorem dX10_wideOf_10 : decode cX10_wideOf 10 = .ok (.aload_n 0, 1) := by decide +kernel
theorem dX10_wideOf_11 : decode cX10_wideOf 11 = .ok (.getfield 7, 3) := by decide +kernel
theorem dX10_wideOf_14 : decode cX10_wideOf 14 = .ok (.sipush 449, 3) := by decide +kernel
theorem dX10_wideOf_17 : decode cX10_wideOf 17 = .ok (.bipush 6, 2) := by decide +kernel
theorem dX10_wideOf_19 : decode cX10_wideOf 19 = .ok (.iload_n 1, 1) := by decide +kernel
theorem dX10_wideOf_20 : decode cX10_wideOf 20 = .ok (.imul, 1) := by decide +kernel
theorem dX10_wideOf_21 : decode cX10_wideOf 21 = .ok (.iadd, 1) := by decide +kernel
theorem dX10_wideOf_22 : decode cX10_wideOf 22 = .ok (.iaload, 1) := by decide +kernel
theorem dX10_wideOf_23 : decode cX10_wideOf 23 = .ok (.ireturn, 1) := by decide +kernel
theorem dX10_stripOf_0 : decode cX10_stripOf 0 = .ok (.aload_n 0, 1) := by decide +kernel
theorem dX10_stripOf_1 : decode cX10_stripOf 1 = .ok (.iload_n 1, 1) := by decide +kernel
theorem dX10_stripOf_2 : decode cX10_stripOf 2 = .ok (.invokevirtual 54, 3) := by decide +kernel
theorem dX10_stripOf_5 : decode cX10_stripOf 5 = .ok (.iconst 1, 1) := by decide +kernel
theorem dX10_stripOf_6 : decode cX10_stripOf 6 = .ok (.isub, 1) := by decide +kernel
theorem dX10_stripOf_7 : decode cX10_stripOf 7 = .ok (.istore_n 2, 1) := by decide +kernel
theorem dX10_stripOf_8 : decode cX10_stripOf 8 = .ok (.iconst 0, 1) := by decide +kernel
theorem dX10_stripOf_9 : decode cX10_stripOf 9 = .ok (.istore_n 3, 1) := by decide +kernel
theorem dX10_stripOf_10 : decode cX10_stripOf 10 = .ok (.iload_n 3, 1) := by decide +kernel
theorem dX10_stripOf_11 : decode cX10_stripOf 11 = .ok (.aload_n 0, 1) := by decide +kernel
theorem dX10_stripOf_12 : decode cX10_stripOf 12 = .ok (.iload_n 1, 1) := by decide +kernel
theorem dX10_stripOf_13 : decode cX10_stripOf 13 = .ok (.invokevirtual 54, 3) := by decide +kernel
theorem dX10_stripOf_16 : decode cX10_stripOf 16 = .ok (.if_icmp .ge 22, 3) := by decide +kernel
theorem dX10_stripOf_19 : decode cX10_stripOf 19 = .ok (.iload_n 2, 1) := by decide +kernel
theorem dX10_stripOf_20 : decode cX10_stripOf 20 = .ok (.aload_n 0, 1) := by decide +kernel
theorem dX10_stripOf_21 : decode cX10_stripOf 21 = .ok (.aload_n 0, 1) := by decide +kernel
theorem dX10_stripOf_22 : decode cX10_stripOf 22 = .ok (.iload_n 1, 1) := by decide +kernel
theorem dX10_stripOf_23 : decode cX10_stripOf 23 = .ok (.iload_n 3, 1) := by decide +kernel
theorem dX10_stripOf_24 : decode cX10_stripOf 24 = .ok (.invokevirtual 58, 3) := by decide +kernel
theorem dX10_stripOf_27 : decode cX10_stripOf 27 = .ok (.invokevirtual 62, 3) := by decide +kernel
theorem dX10_stripOf_30 : decode cX10_stripOf 30 = .ok (.iadd, 1) := by decide +kernel
theorem dX10_stripOf_31 : decode cX10_stripOf 31 = .ok (.istore_n 2, 1) := by decide +kernel
theorem dX10_stripOf_32 : decode cX10_stripOf 32 = .ok (.iinc 3 1, 3) := by decide +kernel
theorem dX10_stripOf_35 : decode cX10_stripOf 35 = .ok (.goto (-25), 3) := by decide +kernel
theorem dX10_stripOf_38 : decode cX10_stripOf 38 = .ok (.iload_n 2, 1) := by decide +kernel
theorem dX10_stripOf_39 : decode cX10_stripOf 39 = .ok (.ireturn, 1) := by decide +kernel
theorem dX10_lays_0 : decode cX10_lays 0 = .ok (.iconst 0, 1) := by decide +kernel
theorem dX10_lays_1 : decode cX10_lays 1 = .ok (.istore 4, 2) := by decide +kernel
theorem dX10_lays_3 : decode cX10_lays 3 = .ok (.iload 4, 2) := by decide +kernel
theorem dX10_lays_5 : decode cX10_lays 5 = .ok (.bipush 40, 2) := by decide +kernel
theorem dX10_lays_7 : decode cX10_lays 7 = .ok (.if_icmp .ge 14, 3) := by decide +kernel
theorem dX10_lays_10 : decode cX10_lays 10 = .ok (.aload_n 3, 1) := by decide +kernel
theorem dX10_lays_11 : decode cX10_lays 11 = .ok (.iload 4, 2) := by decide +kernel
theorem dX10_lays_13 : decode cX10_lays 13 = .ok (.iconst 0, 1) := by decide +kernel
theorem dX10_lays_14 : decode cX10_lays 14 = .ok (.iastore, 1) := by decide +kernel
theorem dX10_lays_15 : decode cX10_lays 15 = .ok (.iinc 4 1, 3) := by decide +kernel
theorem dX10_lays_18 : decode cX10_lays 18 = .ok (.goto (-15), 3) := by decide +kernel
theorem dX10_lays_21 : decode cX10_lays 21 = .ok (.aload_n 0, 1) := by decide +kernel
theorem dX10_lays_22 : decode cX10_lays 22 = .ok (.iload_n 1, 1) := by decide +kernel
theorem dX10_lays_23 : decode cX10_lays 23 = .ok (.invokevirtual 65, 3) := by decide +kernel
theorem dX10_lays_26 : decode cX10_lays 26 = .ok (.istore 4, 2) := by decide +kernel
theorem dX10_lays_28 : decode cX10_lays 28 = .ok (.iload 4, 2) := by decide +kernel
theorem dX10_lays_30 : decode cX10_lays 30 = .ok (.aload_n 0, 1) := by decide +kernel
theorem dX10_lays_31 : decode cX10_lays 31 = .ok (.getfield 7, 3) := by decide +kernel
theorem dX10_lays_34 : decode cX10_lays 34 = .ok (.iconst 0, 1) := by decide +kernel
theorem dX10_lays_35 : decode cX10_lays 35 = .ok (.iaload, 1) := by decide +kernel
theorem dX10_lays_36 : decode cX10_lays 36 = .ok (.if_icmp .gt 19, 3) := by decide +kernel
theorem dX10_lays_39 : decode cX10_lays 39 = .ok (.aload_n 0, 1) := by decide +kernel
theorem dX10_lays_40 : decode cX10_lays 40 = .ok (.getfield 7, 3) := by decide +kernel
theorem dX10_lays_43 : decode cX10_lays 43 = .ok (.iconst 0, 1) := by decide +kernel
theorem dX10_lays_44 : decode cX10_lays 44 = .ok (.iaload, 1) := by decide +kernel
theorem dX10_lays_45 : decode cX10_lays 45 = .ok (.iload 4, 2) := by decide +kernel
theorem dX10_lays_47 : decode cX10_lays 47 = .ok (.isub, 1) := by decide +kernel
theorem dX10_lays_48 : decode cX10_lays 48 = .ok (.iconst 2, 1) := by decide +kernel
theorem dX10_lays_49 : decode cX10_lays 49 = .ok (.idiv, 1) := by decide +kernel
theorem dX10_lays_50 : decode cX10_lays 50 = .ok (.iload_n 2, 1) := by decide +kernel
theorem dX10_lays_51 : decode cX10_lays 51 = .ok (.iadd, 1) := by decide +kernel
theorem dX10_lays_52 : decode cX10_lays 52 = .ok (.goto 4, 3) := by decide +kernel
theorem dX10_lays_55 : decode cX10_lays 55 = .ok (.iload_n 2, 1) := by decide +kernel
theorem dX10_lays_56 : decode cX10_lays 56 = .ok (.istore 5, 2) := by decide +kernel
theorem dX10_lays_58 : decode cX10_lays 58 = .ok (.iconst 0, 1) := by decide +kernel
theorem dX10_lays_59 : decode cX10_lays 59 = .ok (.istore 6, 2) := by decide +kernel
theorem dX10_lays_61 : decode cX10_lays 61 = .ok (.iload 6, 2) := by decide +kernel
theorem dX10_lays_63 : decode cX10_lays 63 = .ok (.aload_n 0, 1) := by decide +kernel
theorem dX10_lays_64 : decode cX10_lays 64 = .ok (.iload_n 1, 1) := by decide +kernel
theorem dX10_lays_65 : decode cX10_lays 65 = .ok (.invokevirtual 54, 3) := by decide +kernel
theorem dX10_lays_68 : decode cX10_lays 68 = .ok (.if_icmp .ge 87, 3) := by decide +kernel
theorem dX10_lays_71 : decode cX10_lays 71 = .ok (.aload_n 0, 1) := by decide +kernel
theorem dX10_lays_72 : decode cX10_lays 72 = .ok (.iload_n 1, 1) := by decide +kernel
theorem dX10_lays_73 : decode cX10_lays 73 = .ok (.iload 6, 2) := by decide +kernel
theorem dX10_lays_75 : decode cX10_lays 75 = .ok (.invokevirtual 58, 3) := by decide +kernel
theorem dX10_lays_78 : decode cX10_lays 78 = .ok (.istore 7, 2) := by decide +kernel
theorem dX10_lays_80 : decode cX10_lays 80 = .ok (.iconst 0, 1) := by decide +kernel
theorem dX10_lays_81 : decode cX10_lays 81 = .ok (.istore 8, 2) := by decide +kernel
theorem dX10_lays_83 : decode cX10_lays 83 = .ok (.iload 8, 2) := by decide +kernel
theorem dX10_lays_85 : decode cX10_lays 85 = .ok (.aload_n 0, 1) := by decide +kernel
theorem dX10_lays_86 : decode cX10_lays 86 = .ok (.iload 7, 2) := by decide +kernel
theorem dX10_lays_88 : decode cX10_lays 88 = .ok (.invokevirtual 62, 3) := by decide +kernel
theorem dX10_lays_91 : decode cX10_lays 91 = .ok (.if_icmp .ge 55, 3) := by decide +kernel
theorem dX10_lays_94 : decode cX10_lays 94 = .ok (.aload_n 0, 1) := by decide +kernel
theorem dX10_lays_95 : decode cX10_lays 95 = .ok (.iload 5, 2) := by decide +kernel
theorem dX10_lays_97 : decode cX10_lays 97 = .ok (.invokevirtual 68, 3) := by decide +kernel
theorem dX10_lays_100 : decode cX10_lays 100 = .ok (.ifCond .eq 37, 3) := by decide +kernel
theorem dX10_lays_103 : decode cX10_lays 103 = .ok (.aload_n 3, 1) := by decide +kernel
theorem dX10_lays_104 : decode cX10_lays 104 = .ok (.iload 5, 2) := by decide +kernel
theorem dX10_lays_106 : decode cX10_lays 106 = .ok (.iload 7, 2) := by decide +kernel
theorem dX10_lays_108 : decode cX10_lays 108 = .ok (.bipush 26, 2) := by decide +kernel
theorem dX10_lays_110 : decode cX10_lays 110 = .ok (.if_icmp .ne 7, 3) := by decide +kernel
theorem dX10_lays_113 : decode cX10_lays 113 = .ok (.iconst 0, 1) := by decide +kernel
theorem dX10_lays_114 : decode cX10_lays 114 = .ok (.goto 22, 3) := by decide +kernel
theorem dX10_lays_117 : decode cX10_lays 117 = .ok (.aload_n 0, 1) := by decide +kernel
theorem dX10_lays_118 : decode cX10_lays 118 = .ok (.getfield 7, 3) := by decide +kernel
theorem dX10_lays_121 : decode cX10_lays 121 = .ok (.sipush 449, 3) := by decide +kernel
theorem dX10_lays_124 : decode cX10_lays 124 = .ok (.bipush 6, 2) := by decide +kernel
theorem dX10_lays_126 : decode cX10_lays 126 = .ok (.iload 7, 2) := by decide +kernel
theorem dX10_lays_128 : decode cX10_lays 128 = .ok (.imul, 1) := by decide +kernel
theorem dX10_lays_129 : decode cX10_lays 129 = .ok (.iadd, 1) := by decide +kernel
theorem dX10_lays_130 : decode cX10_lays 130 = .ok (.iconst 1, 1) := by decide +kernel
theorem dX10_lays_131 : decode cX10_lays 131 = .ok (.iadd, 1) := by decide +kernel
theorem dX10_lays_132 : decode cX10_lays 132 = .ok (.iload 8, 2) := by decide +kernel
theorem dX10_lays_134 : decode cX10_lays 134 = .ok (.iadd, 1) := by decide +kernel
theorem dX10_lays_135 : decode cX10_lays 135 = .ok (.iaload, 1) := by decide +kernel
theorem dX10_lays_136 : decode cX10_lays 136 = .ok (.iastore, 1) := by decide +kernel
theorem dX10_lays_137 : decode cX10_lays 137 = .ok (.iinc 5 1, 3) := by decide +kernel
theorem dX10_lays_140 : decode cX10_lays 140 = .ok (.iinc 8 1, 3) := by decide +kernel
theorem dX10_lays_143 : decode cX10_lays 143 = .ok (.goto (-60), 3) := by decide +kernel
theorem dX10_lays_146 : decode cX10_lays 146 = .ok (.iinc 5 1, 3) := by decide +kernel
theorem dX10_lays_149 : decode cX10_lays 149 = .ok (.iinc 6 1, 3) := by decide +kernel
theorem dX10_lays_152 : decode cX10_lays 152 = .ok (.goto (-91), 3) := by decide +kernel
theorem dX10_lays_155 : decode cX10_lays 155 = .ok (.return_, 1) := by decide +kernel
theorem dX10_differs_0 : decode cX10_differs 0 = .ok (.iconst 0, 1) := by decide +kernel
theorem dX10_differs_1 : decode cX10_differs 1 = .ok (.istore 5, 2) := by decide +kernel
theorem dX10_differs_3 : decode cX10_differs 3 = .ok (.iconst 0, 1) := by decide +kernel
theorem dX10_differs_4 : decode cX10_differs 4 = .ok (.istore 6, 2) := by decide +kernel
theorem dX10_differs_6 : decode cX10_differs 6 = .ok (.iload 6, 2) := by decide +kernel
theorem dX10_differs_8 : decode cX10_differs 8 = .ok (.aload_n 0, 1) := by decide +kernel
theorem dX10_differs_9 : decode cX10_differs 9 = .ok (.getfield 7, 3) := by decide +kernel
theorem dX10_differs_12 : decode cX10_differs 12 = .ok (.iconst 0, 1) := by decide +kernel
theorem dX10_differs_13 : decode cX10_differs 13 = .ok (.iaload, 1) := by decide +kernel
theorem dX10_differs_14 : decode cX10_differs 14 = .ok (.if_icmp .ge 68, 3) := by decide +kernel
theorem dX10_differs_17 : decode cX10_differs 17 = .ok (.aload_n 1, 1) := by decide +kernel
theorem dX10_differs_18 : decode cX10_differs 18 = .ok (.iload_n 2, 1) := by decide +kernel
theorem dX10_differs_19 : decode cX10_differs 19 = .ok (.iload 6, 2) := by decide +kernel
theorem dX10_differs_21 : decode cX10_differs 21 = .ok (.iadd, 1) := by decide +kernel
theorem dX10_differs_22 : decode cX10_differs 22 = .ok (.iaload, 1) := by decide +kernel
theorem dX10_differs_23 : decode cX10_differs 23 = .ok (.aload_n 3, 1) := by decide +kernel
theorem dX10_differs_24 : decode cX10_differs 24 = .ok (.iload 6, 2) := by decide +kernel
theorem dX10_differs_26 : decode cX10_differs 26 = .ok (.iaload, 1) := by decide +kernel
theorem dX10_differs_27 : decode cX10_differs 27 = .ok (.ixor, 1) := by decide +kernel
theorem dX10_differs_28 : decode cX10_differs 28 = .ok (.istore 7, 2) := by decide +kernel
theorem dX10_differs_30 : decode cX10_differs 30 = .ok (.iload 5, 2) := by decide +kernel
theorem dX10_differs_32 : decode cX10_differs 32 = .ok (.iload 4, 2) := by decide +kernel
theorem dX10_differs_34 : decode cX10_differs 34 = .ok (.ifCond .eq 20, 3) := by decide +kernel
theorem dX10_differs_37 : decode cX10_differs 37 = .ok (.iload 7, 2) := by decide +kernel
theorem dX10_differs_39 : decode cX10_differs 39 = .ok (.aload_n 0, 1) := by decide +kernel
theorem dX10_differs_40 : decode cX10_differs 40 = .ok (.getfield 7, 3) := by decide +kernel
theorem dX10_differs_43 : decode cX10_differs 43 = .ok (.sipush 129, 3) := by decide +kernel
theorem dX10_differs_46 : decode cX10_differs 46 = .ok (.iload 6, 2) := by decide +kernel
theorem dX10_differs_48 : decode cX10_differs 48 = .ok (.iadd, 1) := by decide +kernel
theorem dX10_differs_49 : decode cX10_differs 49 = .ok (.iaload, 1) := by decide +kernel
theorem dX10_differs_50 : decode cX10_differs 50 = .ok (.iand, 1) := by decide +kernel
theorem dX10_differs_51 : decode cX10_differs 51 = .ok (.goto 19, 3) := by decide +kernel
theorem dX10_differs_54 : decode cX10_differs 54 = .ok (.iload 7, 2) := by decide +kernel
theorem dX10_differs_56 : decode cX10_differs 56 = .ok (.aload_n 0, 1) := by decide +kernel
theorem dX10_differs_57 : decode cX10_differs 57 = .ok (.getfield 7, 3) := by decide +kernel
theorem dX10_differs_60 : decode cX10_differs 60 = .ok (.sipush 129, 3) := by decide +kernel
theorem dX10_differs_63 : decode cX10_differs 63 = .ok (.iload 6, 2) := by decide +kernel
theorem dX10_differs_65 : decode cX10_differs 65 = .ok (.iadd, 1) := by decide +kernel
theorem dX10_differs_66 : decode cX10_differs 66 = .ok (.iaload, 1) := by decide +kernel
theorem dX10_differs_67 : decode cX10_differs 67 = .ok (.iconst (-1), 1) := by decide +kernel
theorem dX10_differs_68 : decode cX10_differs 68 = .ok (.ixor, 1) := by decide +kernel
theorem dX10_differs_69 : decode cX10_differs 69 = .ok (.iand, 1) := by decide +kernel
theorem dX10_differs_70 : decode cX10_differs 70 = .ok (.invokestatic 72, 3) := by decide +kernel
theorem dX10_differs_73 : decode cX10_differs 73 = .ok (.iadd, 1) := by decide +kernel
theorem dX10_differs_74 : decode cX10_differs 74 = .ok (.istore 5, 2) := by decide +kernel
theorem dX10_differs_76 : decode cX10_differs 76 = .ok (.iinc 6 1, 3) := by decide +kernel
theorem dX10_differs_79 : decode cX10_differs 79 = .ok (.goto (-73), 3) := by decide +kernel
theorem dX10_differs_82 : decode cX10_differs 82 = .ok (.iload 5, 2) := by decide +kernel
theorem dX10_differs_84 : decode cX10_differs 84 = .ok (.ireturn, 1) := by decide +kernel
theorem dX10_bestOf_0 : decode cX10_bestOf 0 = .ok (.iconst 0, 1) := by decide +kernel
theorem dX10_bestOf_1 : decode cX10_bestOf 1 = .ok (.istore_n 2, 1) := by decide +kernel
theorem dX10_bestOf_2 : decode cX10_bestOf 2 = .ok (.iconst 0, 1) := by decide +kernel
theorem dX10_bestOf_3 : decode cX10_bestOf 3 = .ok (.istore_n 3, 1) := by decide +kernel
theorem dX10_bestOf_4 : decode cX10_bestOf 4 = .ok (.iconst 0, 1) := by decide +kernel
theorem dX10_bestOf_5 : decode cX10_bestOf 5 = .ok (.istore 4, 2) := by decide +kernel
theorem dX10_bestOf_7 : decode cX10_bestOf 7 = .ok (.iconst 0, 1) := by decide +kernel
theorem dX10_bestOf_8 : decode cX10_bestOf 8 = .ok (.istore 5, 2) := by decide +kernel
theorem dX10_bestOf_10 : decode cX10_bestOf 10 = .ok (.iload 5, 2) := by decide +kernel
theorem dX10_bestOf_12 : decode cX10_bestOf 12 = .ok (.iconst 5, 1) := by decide +kernel
theorem dX10_bestOf_13 : decode cX10_bestOf 13 = .ok (.if_icmp .ge 112, 3) := by decide +kernel
theorem dX10_bestOf_16 : decode cX10_bestOf 16 = .ok (.iload 5, 2) := by decide +kernel
theorem dX10_bestOf_18 : decode cX10_bestOf 18 = .ok (.iconst 2, 1) := by decide +kernel
theorem dX10_bestOf_19 : decode cX10_bestOf 19 = .ok (.irem, 1) := by decide +kernel
theorem dX10_bestOf_20 : decode cX10_bestOf 20 = .ok (.iconst 1, 1) := by decide +kernel
theorem dX10_bestOf_21 : decode cX10_bestOf 21 = .ok (.if_icmp .ne 13, 3) := by decide +kernel
theorem dX10_bestOf_24 : decode cX10_bestOf 24 = .ok (.iload 5, 2) := by decide +kernel
theorem dX10_bestOf_26 : decode cX10_bestOf 26 = .ok (.iconst 1, 1) := by decide +kernel
theorem dX10_bestOf_27 : decode cX10_bestOf 27 = .ok (.iadd, 1) := by decide +kernel
theorem dX10_bestOf_28 : decode cX10_bestOf 28 = .ok (.ineg, 1) := by decide +kernel
theorem dX10_bestOf_29 : decode cX10_bestOf 29 = .ok (.iconst 2, 1) := by decide +kernel
theorem dX10_bestOf_30 : decode cX10_bestOf 30 = .ok (.idiv, 1) := by decide +kernel
theorem dX10_bestOf_31 : decode cX10_bestOf 31 = .ok (.goto 7, 3) := by decide +kernel
theorem dX10_bestOf_34 : decode cX10_bestOf 34 = .ok (.iload 5, 2) := by decide +kernel
theorem dX10_bestOf_36 : decode cX10_bestOf 36 = .ok (.iconst 2, 1) := by decide +kernel
theorem dX10_bestOf_37 : decode cX10_bestOf 37 = .ok (.idiv, 1) := by decide +kernel
theorem dX10_bestOf_38 : decode cX10_bestOf 38 = .ok (.istore 6, 2) := by decide +kernel
theorem dX10_bestOf_40 : decode cX10_bestOf 40 = .ok (.aload_n 0, 1) := by decide +kernel
theorem dX10_bestOf_41 : decode cX10_bestOf 41 = .ok (.iload_n 1, 1) := by decide +kernel
theorem dX10_bestOf_42 : decode cX10_bestOf 42 = .ok (.iload 6, 2) := by decide +kernel
theorem dX10_bestOf_44 : decode cX10_bestOf 44 = .ok (.aload_n 0, 1) := by decide +kernel
theorem dX10_bestOf_45 : decode cX10_bestOf 45 = .ok (.getfield 25, 3) := by decide +kernel
theorem dX10_bestOf_48 : decode cX10_bestOf 48 = .ok (.invokevirtual 75, 3) := by decide +kernel
theorem dX10_bestOf_51 : decode cX10_bestOf 51 = .ok (.aload_n 0, 1) := by decide +kernel
theorem dX10_bestOf_52 : decode cX10_bestOf 52 = .ok (.aload_n 0, 1) := by decide +kernel
theorem dX10_bestOf_53 : decode cX10_bestOf 53 = .ok (.getfield 7, 3) := by decide +kernel
theorem dX10_bestOf_56 : decode cX10_bestOf 56 = .ok (.bipush 9, 2) := by decide +kernel
theorem dX10_bestOf_58 : decode cX10_bestOf 58 = .ok (.aload_n 0, 1) := by decide +kernel
theorem dX10_bestOf_59 : decode cX10_bestOf 59 = .ok (.getfield 25, 3) := by decide +kernel
theorem dX10_bestOf_62 : decode cX10_bestOf 62 = .ok (.iconst 1, 1) := by decide +kernel
theorem dX10_bestOf_63 : decode cX10_bestOf 63 = .ok (.invokevirtual 79, 3) := by decide +kernel
theorem dX10_bestOf_66 : decode cX10_bestOf 66 = .ok (.istore 7, 2) := by decide +kernel
theorem dX10_bestOf_68 : decode cX10_bestOf 68 = .ok (.aload_n 0, 1) := by decide +kernel
theorem dX10_bestOf_69 : decode cX10_bestOf 69 = .ok (.aload_n 0, 1) := by decide +kernel
theorem dX10_bestOf_70 : decode cX10_bestOf 70 = .ok (.getfield 7, 3) := by decide +kernel
theorem dX10_bestOf_73 : decode cX10_bestOf 73 = .ok (.bipush 9, 2) := by decide +kernel
theorem dX10_bestOf_75 : decode cX10_bestOf 75 = .ok (.aload_n 0, 1) := by decide +kernel
theorem dX10_bestOf_76 : decode cX10_bestOf 76 = .ok (.getfield 25, 3) := by decide +kernel
theorem dX10_bestOf_79 : decode cX10_bestOf 79 = .ok (.iconst 0, 1) := by decide +kernel
theorem dX10_bestOf_80 : decode cX10_bestOf 80 = .ok (.invokevirtual 79, 3) := by decide +kernel
theorem dX10_bestOf_83 : decode cX10_bestOf 83 = .ok (.istore 8, 2) := by decide +kernel
theorem dX10_bestOf_85 : decode cX10_bestOf 85 = .ok (.iload 5, 2) := by decide +kernel
theorem dX10_bestOf_87 : decode cX10_bestOf 87 = .ok (.ifCond .eq 22, 3) := by decide +kernel
theorem dX10_bestOf_90 : decode cX10_bestOf 90 = .ok (.iload 7, 2) := by decide +kernel
theorem dX10_bestOf_92 : decode cX10_bestOf 92 = .ok (.iload_n 3, 1) := by decide +kernel
theorem dX10_bestOf_93 : decode cX10_bestOf 93 = .ok (.if_icmp .lt 16, 3) := by decide +kernel
theorem dX10_bestOf_96 : decode cX10_bestOf 96 = .ok (.iload 7, 2) := by decide +kernel
theorem dX10_bestOf_98 : decode cX10_bestOf 98 = .ok (.iload_n 3, 1) := by decide +kernel
theorem dX10_bestOf_99 : decode cX10_bestOf 99 = .ok (.if_icmp .ne 20, 3) := by decide +kernel
theorem dX10_bestOf_102 : decode cX10_bestOf 102 = .ok (.iload 8, 2) := by decide +kernel
theorem dX10_bestOf_104 : decode cX10_bestOf 104 = .ok (.iload 4, 2) := by decide +kernel
theorem dX10_bestOf_106 : decode cX10_bestOf 106 = .ok (.if_icmp .ge 13, 3) := by decide +kernel
theorem dX10_bestOf_109 : decode cX10_bestOf 109 = .ok (.iload 6, 2) := by decide +kernel
theorem dX10_bestOf_111 : decode cX10_bestOf 111 = .ok (.istore_n 2, 1) := by decide +kernel
theorem dX10_bestOf_112 : decode cX10_bestOf 112 = .ok (.iload 7, 2) := by decide +kernel
theorem dX10_bestOf_114 : decode cX10_bestOf 114 = .ok (.istore_n 3, 1) := by decide +kernel
theorem dX10_bestOf_115 : decode cX10_bestOf 115 = .ok (.iload 8, 2) := by decide +kernel
theorem dX10_bestOf_117 : decode cX10_bestOf 117 = .ok (.istore 4, 2) := by decide +kernel
theorem dX10_bestOf_119 : decode cX10_bestOf 119 = .ok (.iinc 5 1, 3) := by decide +kernel
theorem dX10_bestOf_122 : decode cX10_bestOf 122 = .ok (.goto (-112), 3) := by decide +kernel
theorem dX10_bestOf_125 : decode cX10_bestOf 125 = .ok (.iload_n 2, 1) := by decide +kernel
theorem dX10_bestOf_126 : decode cX10_bestOf 126 = .ok (.ireturn, 1) := by decide +kernel
theorem dX10_shiftFor_0 : decode cX10_shiftFor 0 = .ok (.iload_n 2, 1) := by decide +kernel
theorem dX10_shiftFor_1 : decode cX10_shiftFor 1 = .ok (.ifCond .ne 7, 3) := by decide +kernel
theorem dX10_shiftFor_4 : decode cX10_shiftFor 4 = .ok (.iconst 0, 1) := by decide +kernel
theorem dX10_shiftFor_5 : decode cX10_shiftFor 5 = .ok (.goto 8, 3) := by decide +kernel
theorem dX10_shiftFor_8 : decode cX10_shiftFor 8 = .ok (.aload_n 0, 1) := by decide +kernel
theorem dX10_shiftFor_9 : decode cX10_shiftFor 9 = .ok (.iload_n 1, 1) := by decide +kernel
theorem dX10_shiftFor_10 : decode cX10_shiftFor 10 = .ok (.invokevirtual 83, 3) := by decide +kernel
theorem dX10_shiftFor_13 : decode cX10_shiftFor 13 = .ok (.ireturn, 1) := by decide +kernel
theorem dX10_dueOf_0 : decode cX10_dueOf 0 = .ok (.aload_n 0, 1) := by decide +kernel
theorem dX10_dueOf_1 : decode cX10_dueOf 1 = .ok (.getfield 7, 3) := by decide +kernel
theorem dX10_dueOf_4 : decode cX10_dueOf 4 = .ok (.bipush 9, 2) := by decide +kernel
theorem dX10_dueOf_6 : decode cX10_dueOf 6 = .ok (.iload_n 1, 1) := by decide +kernel
theorem dX10_dueOf_7 : decode cX10_dueOf 7 = .ok (.iadd, 1) := by decide +kernel
theorem dX10_dueOf_8 : decode cX10_dueOf 8 = .ok (.iaload, 1) := by decide +kernel
theorem dX10_dueOf_9 : decode cX10_dueOf 9 = .ok (.aload_n 0, 1) := by decide +kernel
theorem dX10_dueOf_10 : decode cX10_dueOf 10 = .ok (.getfield 7, 3) := by decide +kernel
theorem dX10_dueOf_13 : decode cX10_dueOf 13 = .ok (.bipush 49, 2) := by decide +kernel
theorem dX10_dueOf_15 : decode cX10_dueOf 15 = .ok (.iload_n 1, 1) := by decide +kernel
theorem dX10_dueOf_16 : decode cX10_dueOf 16 = .ok (.iadd, 1) := by decide +kernel
theorem dX10_dueOf_17 : decode cX10_dueOf 17 = .ok (.iaload, 1) := by decide +kernel
theorem dX10_dueOf_18 : decode cX10_dueOf 18 = .ok (.ixor, 1) := by decide +kernel
theorem dX10_dueOf_19 : decode cX10_dueOf 19 = .ok (.aload_n 0, 1) := by decide +kernel
theorem dX10_dueOf_20 : decode cX10_dueOf 20 = .ok (.getfield 7, 3) := by decide +kernel
theorem dX10_dueOf_23 : decode cX10_dueOf 23 = .ok (.sipush 129, 3) := by decide +kernel
theorem dX10_dueOf_26 : decode cX10_dueOf 26 = .ok (.iload_n 1, 1) := by decide +kernel
theorem dX10_dueOf_27 : decode cX10_dueOf 27 = .ok (.iadd, 1) := by decide +kernel
theorem dX10_dueOf_28 : decode cX10_dueOf 28 = .ok (.iaload, 1) := by decide +kernel
theorem dX10_dueOf_29 : decode cX10_dueOf 29 = .ok (.iconst (-1), 1) := by decide +kernel
theorem dX10_dueOf_30 : decode cX10_dueOf 30 = .ok (.ixor, 1) := by decide +kernel
theorem dX10_dueOf_31 : decode cX10_dueOf 31 = .ok (.iand, 1) := by decide +kernel
theorem dX10_dueOf_32 : decode cX10_dueOf 32 = .ok (.ireturn, 1) := by decide +kernel
theorem dX10_dueMany_0 : decode cX10_dueMany 0 = .ok (.iconst 0, 1) := by decide +kernel
theorem dX10_dueMany_1 : decode cX10_dueMany 1 = .ok (.istore_n 1, 1) := by decide +kernel
theorem dX10_dueMany_2 : decode cX10_dueMany 2 = .ok (.iconst 0, 1) := by decide +kernel
theorem dX10_dueMany_3 : decode cX10_dueMany 3 = .ok (.istore_n 2, 1) := by decide +kernel
theorem dX10_dueMany_4 : decode cX10_dueMany 4 = .ok (.iload_n 2, 1) := by decide +kernel
theorem dX10_dueMany_5 : decode cX10_dueMany 5 = .ok (.aload_n 0, 1) := by decide +kernel
theorem dX10_dueMany_6 : decode cX10_dueMany 6 = .ok (.getfield 7, 3) := by decide +kernel
theorem dX10_dueMany_9 : decode cX10_dueMany 9 = .ok (.iconst 0, 1) := by decide +kernel
theorem dX10_dueMany_10 : decode cX10_dueMany 10 = .ok (.iaload, 1) := by decide +kernel
theorem dX10_dueMany_11 : decode cX10_dueMany 11 = .ok (.if_icmp .ge 20, 3) := by decide +kernel
theorem dX10_dueMany_14 : decode cX10_dueMany 14 = .ok (.iload_n 1, 1) := by decide +kernel
theorem dX10_dueMany_15 : decode cX10_dueMany 15 = .ok (.aload_n 0, 1) := by decide +kernel
theorem dX10_dueMany_16 : decode cX10_dueMany 16 = .ok (.iload_n 2, 1) := by decide +kernel
theorem dX10_dueMany_17 : decode cX10_dueMany 17 = .ok (.invokevirtual 86, 3) := by decide +kernel
theorem dX10_dueMany_20 : decode cX10_dueMany 20 = .ok (.invokestatic 72, 3) := by decide +kernel
theorem dX10_dueMany_23 : decode cX10_dueMany 23 = .ok (.iadd, 1) := by decide +kernel
theorem dX10_dueMany_24 : decode cX10_dueMany 24 = .ok (.istore_n 1, 1) := by decide +kernel
theorem dX10_dueMany_25 : decode cX10_dueMany 25 = .ok (.iinc 2 1, 3) := by decide +kernel
theorem dX10_dueMany_28 : decode cX10_dueMany 28 = .ok (.goto (-24), 3) := by decide +kernel
theorem dX10_dueMany_31 : decode cX10_dueMany 31 = .ok (.iload_n 1, 1) := by decide +kernel
theorem dX10_dueMany_32 : decode cX10_dueMany 32 = .ok (.ireturn, 1) := by decide +kernel
theorem dX10_nextColumn_0 : decode cX10_nextColumn 0 = .ok (.aload_n 0, 1) := by decide +kernel
theorem dX10_nextColumn_1 : decode cX10_nextColumn 1 = .ok (.getfield 7, 3) := by decide +kernel
theorem dX10_nextColumn_4 : decode cX10_nextColumn 4 = .ok (.iconst 2, 1) := by decide +kernel
theorem dX10_nextColumn_5 : decode cX10_nextColumn 5 = .ok (.iaload, 1) := by decide +kernel
theorem dX10_nextColumn_6 : decode cX10_nextColumn 6 = .ok (.iconst 2, 1) := by decide +kernel
theorem dX10_nextColumn_7 : decode cX10_nextColumn 7 = .ok (.if_icmp .ge 27, 3) := by decide +kernel
theorem dX10_nextColumn_10 : decode cX10_nextColumn 10 = .ok (.aload_n 0, 1) := by decide +kernel
theorem dX10_nextColumn_11 : decode cX10_nextColumn 11 = .ok (.getfield 7, 3) := by decide +kernel
theorem dX10_nextColumn_14 : decode cX10_nextColumn 14 = .ok (.iconst 2, 1) := by decide +kernel
theorem dX10_nextColumn_15 : decode cX10_nextColumn 15 = .ok (.iaload, 1) := by decide +kernel
theorem dX10_nextColumn_16 : decode cX10_nextColumn 16 = .ok (.ifCond .ne 7, 3) := by decide +kernel
theorem dX10_nextColumn_19 : decode cX10_nextColumn 19 = .ok (.iload_n 1, 1) := by decide +kernel
theorem dX10_nextColumn_20 : decode cX10_nextColumn 20 = .ok (.goto 13, 3) := by decide +kernel
theorem dX10_nextColumn_23 : decode cX10_nextColumn 23 = .ok (.aload_n 0, 1) := by decide +kernel
theorem dX10_nextColumn_24 : decode cX10_nextColumn 24 = .ok (.getfield 7, 3) := by decide +kernel
theorem dX10_nextColumn_27 : decode cX10_nextColumn 27 = .ok (.iconst 0, 1) := by decide +kernel
theorem dX10_nextColumn_28 : decode cX10_nextColumn 28 = .ok (.iaload, 1) := by decide +kernel
theorem dX10_nextColumn_29 : decode cX10_nextColumn 29 = .ok (.iconst 1, 1) := by decide +kernel
theorem dX10_nextColumn_30 : decode cX10_nextColumn 30 = .ok (.isub, 1) := by decide +kernel
theorem dX10_nextColumn_31 : decode cX10_nextColumn 31 = .ok (.iload_n 1, 1) := by decide +kernel
theorem dX10_nextColumn_32 : decode cX10_nextColumn 32 = .ok (.isub, 1) := by decide +kernel
theorem dX10_nextColumn_33 : decode cX10_nextColumn 33 = .ok (.ireturn, 1) := by decide +kernel
theorem dX10_nextColumn_34 : decode cX10_nextColumn 34 = .ok (.iconst 0, 1) := by decide +kernel
theorem dX10_nextColumn_35 : decode cX10_nextColumn 35 = .ok (.istore_n 2, 1) := by decide +kernel
theorem dX10_nextColumn_36 : decode cX10_nextColumn 36 = .ok (.iconst 1, 1) := by decide +kernel
theorem dX10_nextColumn_37 : decode cX10_nextColumn 37 = .ok (.istore_n 3, 1) := by decide +kernel
theorem dX10_nextColumn_38 : decode cX10_nextColumn 38 = .ok (.iload_n 3, 1) := by decide +kernel
theorem dX10_nextColumn_39 : decode cX10_nextColumn 39 = .ok (.aload_n 0, 1) := by decide +kernel
theorem dX10_nextColumn_40 : decode cX10_nextColumn 40 = .ok (.getfield 7, 3) := by decide +kernel
theorem dX10_nextColumn_43 : decode cX10_nextColumn 43 = .ok (.iconst 0, 1) := by decide +kernel
theorem dX10_nextColumn_44 : decode cX10_nextColumn 44 = .ok (.iaload, 1) := by decide +kernel
theorem dX10_nextColumn_45 : decode cX10_nextColumn 45 = .ok (.if_icmp .ge 30, 3) := by decide +kernel
theorem dX10_nextColumn_48 : decode cX10_nextColumn 48 = .ok (.aload_n 0, 1) := by decide +kernel
theorem dX10_nextColumn_49 : decode cX10_nextColumn 49 = .ok (.getfield 31, 3) := by decide +kernel
theorem dX10_nextColumn_52 : decode cX10_nextColumn 52 = .ok (.iload_n 3, 1) := by decide +kernel
theorem dX10_nextColumn_53 : decode cX10_nextColumn 53 = .ok (.iaload, 1) := by decide +kernel
theorem dX10_nextColumn_54 : decode cX10_nextColumn 54 = .ok (.aload_n 0, 1) := by decide +kernel
theorem dX10_nextColumn_55 : decode cX10_nextColumn 55 = .ok (.getfield 31, 3) := by decide +kernel
theorem dX10_nextColumn_58 : decode cX10_nextColumn 58 = .ok (.iload_n 2, 1) := by decide +kernel
theorem dX10_nextColumn_59 : decode cX10_nextColumn 59 = .ok (.iaload, 1) := by decide +kernel
theorem dX10_nextColumn_60 : decode cX10_nextColumn 60 = .ok (.if_icmp .le 7, 3) := by decide +kernel
theorem dX10_nextColumn_63 : decode cX10_nextColumn 63 = .ok (.iload_n 3, 1) := by decide +kernel
theorem dX10_nextColumn_64 : decode cX10_nextColumn 64 = .ok (.goto 4, 3) := by decide +kernel
theorem dX10_nextColumn_67 : decode cX10_nextColumn 67 = .ok (.iload_n 2, 1) := by decide +kernel
theorem dX10_nextColumn_68 : decode cX10_nextColumn 68 = .ok (.istore_n 2, 1) := by decide +kernel
theorem dX10_nextColumn_69 : decode cX10_nextColumn 69 = .ok (.iinc 3 1, 3) := by decide +kernel
theorem dX10_nextColumn_72 : decode cX10_nextColumn 72 = .ok (.goto (-34), 3) := by decide +kernel
theorem dX10_nextColumn_75 : decode cX10_nextColumn 75 = .ok (.iload_n 2, 1) := by decide +kernel
theorem dX10_nextColumn_76 : decode cX10_nextColumn 76 = .ok (.ireturn, 1) := by decide +kernel
theorem dX10_flipsAt_0 : decode cX10_flipsAt 0 = .ok (.sipush 169, 3) := by decide +kernel
theorem dX10_flipsAt_3 : decode cX10_flipsAt 3 = .ok (.bipush 7, 2) := by decide +kernel
theorem dX10_flipsAt_5 : decode cX10_flipsAt 5 = .ok (.iload_n 1, 1) := by decide +kernel
theorem dX10_flipsAt_6 : decode cX10_flipsAt 6 = .ok (.imul, 1) := by decide +kernel
theorem dX10_flipsAt_7 : decode cX10_flipsAt 7 = .ok (.iadd, 1) := by decide +kernel
theorem dX10_flipsAt_8 : decode cX10_flipsAt 8 = .ok (.iload_n 2, 1) := by decide +kernel
theorem dX10_flipsAt_9 : decode cX10_flipsAt 9 = .ok (.iadd, 1) := by decide +kernel
theorem dX10_flipsAt_10 : decode cX10_flipsAt 10 = .ok (.istore_n 3, 1) := by decide +kernel
theorem dX10_flipsAt_11 : decode cX10_flipsAt 11 = .ok (.aload_n 0, 1) := by decide +kernel
theorem dX10_flipsAt_12 : decode cX10_flipsAt 12 = .ok (.getfield 7, 3) := by decide +kernel
theorem dX10_flipsAt_15 : decode cX10_flipsAt 15 = .ok (.bipush 89, 2) := by decide +kernel
theorem dX10_flipsAt_17 : decode cX10_flipsAt 17 = .ok (.iload_n 1, 1) := by decide +kernel
theorem dX10_flipsAt_18 : decode cX10_flipsAt 18 = .ok (.iadd, 1) := by decide +kernel
theorem dX10_flipsAt_19 : decode cX10_flipsAt 19 = .ok (.iaload, 1) := by decide +kernel
theorem dX10_flipsAt_20 : decode cX10_flipsAt 20 = .ok (.iload_n 2, 1) := by decide +kernel
theorem dX10_flipsAt_21 : decode cX10_flipsAt 21 = .ok (.ishr, 1) := by decide +kernel
theorem dX10_flipsAt_22 : decode cX10_flipsAt 22 = .ok (.iconst 1, 1) := by decide +kernel
theorem dX10_flipsAt_23 : decode cX10_flipsAt 23 = .ok (.iand, 1) := by decide +kernel
theorem dX10_flipsAt_24 : decode cX10_flipsAt 24 = .ok (.iconst 1, 1) := by decide +kernel
theorem dX10_flipsAt_25 : decode cX10_flipsAt 25 = .ok (.if_icmp .ne 31, 3) := by decide +kernel
theorem dX10_flipsAt_28 : decode cX10_flipsAt 28 = .ok (.aload_n 0, 1) := by decide +kernel
theorem dX10_flipsAt_29 : decode cX10_flipsAt 29 = .ok (.getfield 7, 3) := by decide +kernel
theorem dX10_flipsAt_32 : decode cX10_flipsAt 32 = .ok (.sipush 129, 3) := by decide +kernel
theorem dX10_flipsAt_35 : decode cX10_flipsAt 35 = .ok (.iload_n 1, 1) := by decide +kernel
theorem dX10_flipsAt_36 : decode cX10_flipsAt 36 = .ok (.iadd, 1) := by decide +kernel
theorem dX10_flipsAt_37 : decode cX10_flipsAt 37 = .ok (.dup2, 1) := by decide +kernel
theorem dX10_flipsAt_38 : decode cX10_flipsAt 38 = .ok (.iaload, 1) := by decide +kernel
theorem dX10_flipsAt_39 : decode cX10_flipsAt 39 = .ok (.iconst 1, 1) := by decide +kernel
theorem dX10_flipsAt_40 : decode cX10_flipsAt 40 = .ok (.iload_n 2, 1) := by decide +kernel
theorem dX10_flipsAt_41 : decode cX10_flipsAt 41 = .ok (.ishl, 1) := by decide +kernel
theorem dX10_flipsAt_42 : decode cX10_flipsAt 42 = .ok (.ior, 1) := by decide +kernel
theorem dX10_flipsAt_43 : decode cX10_flipsAt 43 = .ok (.iastore, 1) := by decide +kernel
theorem dX10_flipsAt_44 : decode cX10_flipsAt 44 = .ok (.aload_n 0, 1) := by decide +kernel
theorem dX10_flipsAt_45 : decode cX10_flipsAt 45 = .ok (.getfield 7, 3) := by decide +kernel
theorem dX10_flipsAt_48 : decode cX10_flipsAt 48 = .ok (.bipush 6, 2) := by decide +kernel
theorem dX10_flipsAt_50 : decode cX10_flipsAt 50 = .ok (.dup2, 1) := by decide +kernel
theorem dX10_flipsAt_51 : decode cX10_flipsAt 51 = .ok (.iaload, 1) := by decide +kernel
theorem dX10_flipsAt_52 : decode cX10_flipsAt 52 = .ok (.iconst 1, 1) := by decide +kernel
theorem dX10_flipsAt_53 : decode cX10_flipsAt 53 = .ok (.iadd, 1) := by decide +kernel
theorem dX10_flipsAt_54 : decode cX10_flipsAt 54 = .ok (.iastore, 1) := by decide +kernel
theorem dX10_flipsAt_55 : decode cX10_flipsAt 55 = .ok (.return_, 1) := by decide +kernel
theorem dX10_flipsAt_56 : decode cX10_flipsAt 56 = .ok (.aload_n 0, 1) := by decide +kernel
theorem dX10_flipsAt_57 : decode cX10_flipsAt 57 = .ok (.getfield 7, 3) := by decide +kernel
theorem dX10_flipsAt_60 : decode cX10_flipsAt 60 = .ok (.bipush 9, 2) := by decide +kernel
theorem dX10_flipsAt_62 : decode cX10_flipsAt 62 = .ok (.iload_n 1, 1) := by decide +kernel
theorem dX10_flipsAt_63 : decode cX10_flipsAt 63 = .ok (.iadd, 1) := by decide +kernel
theorem dX10_flipsAt_64 : decode cX10_flipsAt 64 = .ok (.dup2, 1) := by decide +kernel
theorem dX10_flipsAt_65 : decode cX10_flipsAt 65 = .ok (.iaload, 1) := by decide +kernel
theorem dX10_flipsAt_66 : decode cX10_flipsAt 66 = .ok (.iconst 1, 1) := by decide +kernel
theorem dX10_flipsAt_67 : decode cX10_flipsAt 67 = .ok (.iload_n 2, 1) := by decide +kernel
theorem dX10_flipsAt_68 : decode cX10_flipsAt 68 = .ok (.ishl, 1) := by decide +kernel
theorem dX10_flipsAt_69 : decode cX10_flipsAt 69 = .ok (.ixor, 1) := by decide +kernel
theorem dX10_flipsAt_70 : decode cX10_flipsAt 70 = .ok (.iastore, 1) := by decide +kernel
theorem dX10_flipsAt_71 : decode cX10_flipsAt 71 = .ok (.aload_n 0, 1) := by decide +kernel
theorem dX10_flipsAt_72 : decode cX10_flipsAt 72 = .ok (.getfield 7, 3) := by decide +kernel
theorem dX10_flipsAt_75 : decode cX10_flipsAt 75 = .ok (.iload_n 3, 1) := by decide +kernel
theorem dX10_flipsAt_76 : decode cX10_flipsAt 76 = .ok (.dup2, 1) := by decide +kernel
theorem dX10_flipsAt_77 : decode cX10_flipsAt 77 = .ok (.iaload, 1) := by decide +kernel
theorem dX10_flipsAt_78 : decode cX10_flipsAt 78 = .ok (.iconst 1, 1) := by decide +kernel
theorem dX10_flipsAt_79 : decode cX10_flipsAt 79 = .ok (.iadd, 1) := by decide +kernel
theorem dX10_flipsAt_80 : decode cX10_flipsAt 80 = .ok (.iastore, 1) := by decide +kernel
theorem dX10_flipsAt_81 : decode cX10_flipsAt 81 = .ok (.aload_n 0, 1) := by decide +kernel
theorem dX10_flipsAt_82 : decode cX10_flipsAt 82 = .ok (.getfield 7, 3) := by decide +kernel
theorem dX10_flipsAt_85 : decode cX10_flipsAt 85 = .ok (.iconst 5, 1) := by decide +kernel
theorem dX10_flipsAt_86 : decode cX10_flipsAt 86 = .ok (.dup2, 1) := by decide +kernel
theorem dX10_flipsAt_87 : decode cX10_flipsAt 87 = .ok (.iaload, 1) := by decide +kernel
theorem dX10_flipsAt_88 : decode cX10_flipsAt 88 = .ok (.iconst 1, 1) := by decide +kernel
theorem dX10_flipsAt_89 : decode cX10_flipsAt 89 = .ok (.iadd, 1) := by decide +kernel
theorem dX10_flipsAt_90 : decode cX10_flipsAt 90 = .ok (.iastore, 1) := by decide +kernel
theorem dX10_flipsAt_91 : decode cX10_flipsAt 91 = .ok (.aload_n 0, 1) := by decide +kernel
theorem dX10_flipsAt_92 : decode cX10_flipsAt 92 = .ok (.getfield 7, 3) := by decide +kernel
theorem dX10_flipsAt_95 : decode cX10_flipsAt 95 = .ok (.bipush 89, 2) := by decide +kernel
theorem dX10_flipsAt_97 : decode cX10_flipsAt 97 = .ok (.iload_n 1, 1) := by decide +kernel
theorem dX10_flipsAt_98 : decode cX10_flipsAt 98 = .ok (.iadd, 1) := by decide +kernel
theorem dX10_flipsAt_99 : decode cX10_flipsAt 99 = .ok (.dup2, 1) := by decide +kernel
theorem dX10_flipsAt_100 : decode cX10_flipsAt 100 = .ok (.iaload, 1) := by decide +kernel
theorem dX10_flipsAt_101 : decode cX10_flipsAt 101 = .ok (.aload_n 0, 1) := by decide +kernel
theorem dX10_flipsAt_102 : decode cX10_flipsAt 102 = .ok (.getfield 7, 3) := by decide +kernel
theorem dX10_flipsAt_105 : decode cX10_flipsAt 105 = .ok (.iload_n 3, 1) := by decide +kernel
theorem dX10_flipsAt_106 : decode cX10_flipsAt 106 = .ok (.iaload, 1) := by decide +kernel
theorem dX10_flipsAt_107 : decode cX10_flipsAt 107 = .ok (.aload_n 0, 1) := by decide +kernel
theorem dX10_flipsAt_108 : decode cX10_flipsAt 108 = .ok (.getfield 7, 3) := by decide +kernel
theorem dX10_flipsAt_111 : decode cX10_flipsAt 111 = .ok (.iconst 3, 1) := by decide +kernel
theorem dX10_flipsAt_112 : decode cX10_flipsAt 112 = .ok (.iaload, 1) := by decide +kernel
theorem dX10_flipsAt_113 : decode cX10_flipsAt 113 = .ok (.if_icmp .lt 9, 3) := by decide +kernel
theorem dX10_flipsAt_116 : decode cX10_flipsAt 116 = .ok (.iconst 1, 1) := by decide +kernel
theorem dX10_flipsAt_117 : decode cX10_flipsAt 117 = .ok (.iload_n 2, 1) := by decide +kernel
theorem dX10_flipsAt_118 : decode cX10_flipsAt 118 = .ok (.ishl, 1) := by decide +kernel
theorem dX10_flipsAt_119 : decode cX10_flipsAt 119 = .ok (.goto 4, 3) := by decide +kernel
theorem dX10_flipsAt_122 : decode cX10_flipsAt 122 = .ok (.iconst 0, 1) := by decide +kernel
theorem dX10_flipsAt_123 : decode cX10_flipsAt 123 = .ok (.ior, 1) := by decide +kernel
theorem dX10_flipsAt_124 : decode cX10_flipsAt 124 = .ok (.iastore, 1) := by decide +kernel
theorem dX10_flipsAt_125 : decode cX10_flipsAt 125 = .ok (.return_, 1) := by decide +kernel
theorem dX10_second_0 : decode cX10_second 0 = .ok (.aload_n 0, 1) := by decide +kernel
theorem dX10_second_1 : decode cX10_second 1 = .ok (.getfield 7, 3) := by decide +kernel
theorem dX10_second_4 : decode cX10_second 4 = .ok (.iconst 1, 1) := by decide +kernel
theorem dX10_second_5 : decode cX10_second 5 = .ok (.iaload, 1) := by decide +kernel
theorem dX10_second_6 : decode cX10_second 6 = .ok (.istore_n 1, 1) := by decide +kernel
theorem dX10_second_7 : decode cX10_second 7 = .ok (.iconst 0, 1) := by decide +kernel
theorem dX10_second_8 : decode cX10_second 8 = .ok (.istore_n 2, 1) := by decide +kernel
theorem dX10_second_9 : decode cX10_second 9 = .ok (.iload_n 2, 1) := by decide +kernel
theorem dX10_second_10 : decode cX10_second 10 = .ok (.aload_n 0, 1) := by decide +kernel
theorem dX10_second_11 : decode cX10_second 11 = .ok (.getfield 7, 3) := by decide +kernel
theorem dX10_second_14 : decode cX10_second 14 = .ok (.iconst 0, 1) := by decide +kernel
theorem dX10_second_15 : decode cX10_second 15 = .ok (.iaload, 1) := by decide +kernel
theorem dX10_second_16 : decode cX10_second 16 = .ok (.if_icmp .ge 23, 3) := by decide +kernel
theorem dX10_second_19 : decode cX10_second 19 = .ok (.aload_n 0, 1) := by decide +kernel
theorem dX10_second_20 : decode cX10_second 20 = .ok (.getfield 31, 3) := by decide +kernel
theorem dX10_second_23 : decode cX10_second 23 = .ok (.iload_n 2, 1) := by decide +kernel
theorem dX10_second_24 : decode cX10_second 24 = .ok (.aload_n 0, 1) := by decide +kernel
theorem dX10_second_25 : decode cX10_second 25 = .ok (.iload_n 2, 1) := by decide +kernel
theorem dX10_second_26 : decode cX10_second 26 = .ok (.invokevirtual 86, 3) := by decide +kernel
theorem dX10_second_29 : decode cX10_second 29 = .ok (.invokestatic 72, 3) := by decide +kernel
theorem dX10_second_32 : decode cX10_second 32 = .ok (.iastore, 1) := by decide +kernel
theorem dX10_second_33 : decode cX10_second 33 = .ok (.iinc 2 1, 3) := by decide +kernel
theorem dX10_second_36 : decode cX10_second 36 = .ok (.goto (-27), 3) := by decide +kernel
theorem dX10_second_39 : decode cX10_second 39 = .ok (.iconst 0, 1) := by decide +kernel
theorem dX10_second_40 : decode cX10_second 40 = .ok (.istore_n 2, 1) := by decide +kernel
theorem dX10_second_41 : decode cX10_second 41 = .ok (.iload_n 2, 1) := by decide +kernel
theorem dX10_second_42 : decode cX10_second 42 = .ok (.aload_n 0, 1) := by decide +kernel
theorem dX10_second_43 : decode cX10_second 43 = .ok (.getfield 7, 3) := by decide +kernel
theorem dX10_second_46 : decode cX10_second 46 = .ok (.iconst 0, 1) := by decide +kernel
theorem dX10_second_47 : decode cX10_second 47 = .ok (.iaload, 1) := by decide +kernel
theorem dX10_second_48 : decode cX10_second 48 = .ok (.if_icmp .ge 101, 3) := by decide +kernel
theorem dX10_second_51 : decode cX10_second 51 = .ok (.iload_n 1, 1) := by decide +kernel
theorem dX10_second_52 : decode cX10_second 52 = .ok (.iconst 1, 1) := by decide +kernel
theorem dX10_second_53 : decode cX10_second 53 = .ok (.if_icmp .le 96, 3) := by decide +kernel
theorem dX10_second_56 : decode cX10_second 56 = .ok (.aload_n 0, 1) := by decide +kernel
theorem dX10_second_57 : decode cX10_second 57 = .ok (.iload_n 2, 1) := by decide +kernel
theorem dX10_second_58 : decode cX10_second 58 = .ok (.invokevirtual 89, 3) := by decide +kernel
theorem dX10_second_61 : decode cX10_second 61 = .ok (.istore_n 3, 1) := by decide +kernel
theorem dX10_second_62 : decode cX10_second 62 = .ok (.aload_n 0, 1) := by decide +kernel
theorem dX10_second_63 : decode cX10_second 63 = .ok (.getfield 31, 3) := by decide +kernel
theorem dX10_second_66 : decode cX10_second 66 = .ok (.iload_n 3, 1) := by decide +kernel
theorem dX10_second_67 : decode cX10_second 67 = .ok (.iaload, 1) := by decide +kernel
theorem dX10_second_68 : decode cX10_second 68 = .ok (.ifCond .le 11, 3) := by decide +kernel
theorem dX10_second_71 : decode cX10_second 71 = .ok (.aload_n 0, 1) := by decide +kernel
theorem dX10_second_72 : decode cX10_second 72 = .ok (.iload_n 3, 1) := by decide +kernel
theorem dX10_second_73 : decode cX10_second 73 = .ok (.invokevirtual 86, 3) := by decide +kernel
theorem dX10_second_76 : decode cX10_second 76 = .ok (.goto 4, 3) := by decide +kernel
theorem dX10_second_79 : decode cX10_second 79 = .ok (.iconst 0, 1) := by decide +kernel
theorem dX10_second_80 : decode cX10_second 80 = .ok (.istore 4, 2) := by decide +kernel
theorem dX10_second_82 : decode cX10_second 82 = .ok (.aload_n 0, 1) := by decide +kernel
theorem dX10_second_83 : decode cX10_second 83 = .ok (.getfield 31, 3) := by decide +kernel
theorem dX10_second_86 : decode cX10_second 86 = .ok (.iload_n 3, 1) := by decide +kernel
theorem dX10_second_87 : decode cX10_second 87 = .ok (.iconst (-1), 1) := by decide +kernel
theorem dX10_second_88 : decode cX10_second 88 = .ok (.iastore, 1) := by decide +kernel
theorem dX10_second_89 : decode cX10_second 89 = .ok (.iload_n 1, 1) := by decide +kernel
theorem dX10_second_90 : decode cX10_second 90 = .ok (.iload 4, 2) := by decide +kernel
theorem dX10_second_92 : decode cX10_second 92 = .ok (.ifCond .ne 7, 3) := by decide +kernel
theorem dX10_second_95 : decode cX10_second 95 = .ok (.iconst 0, 1) := by decide +kernel
theorem dX10_second_96 : decode cX10_second 96 = .ok (.goto 4, 3) := by decide +kernel
theorem dX10_second_99 : decode cX10_second 99 = .ok (.iconst 1, 1) := by decide +kernel
theorem dX10_second_100 : decode cX10_second 100 = .ok (.isub, 1) := by decide +kernel
theorem dX10_second_101 : decode cX10_second 101 = .ok (.istore_n 1, 1) := by decide +kernel
theorem dX10_second_102 : decode cX10_second 102 = .ok (.iconst 0, 1) := by decide +kernel
theorem dX10_second_103 : decode cX10_second 103 = .ok (.istore 5, 2) := by decide +kernel
theorem dX10_second_105 : decode cX10_second 105 = .ok (.iload 5, 2) := by decide +kernel
theorem dX10_second_107 : decode cX10_second 107 = .ok (.bipush 7, 2) := by decide +kernel
theorem dX10_second_109 : decode cX10_second 109 = .ok (.if_icmp .ge 34, 3) := by decide +kernel
theorem dX10_second_112 : decode cX10_second 112 = .ok (.iload_n 1, 1) := by decide +kernel
theorem dX10_second_113 : decode cX10_second 113 = .ok (.ifCond .le 30, 3) := by decide +kernel
theorem dX10_second_116 : decode cX10_second 116 = .ok (.iload 4, 2) := by decide +kernel
theorem dX10_second_118 : decode cX10_second 118 = .ok (.iload 5, 2) := by decide +kernel
theorem dX10_second_120 : decode cX10_second 120 = .ok (.ishr, 1) := by decide +kernel
theorem dX10_second_121 : decode cX10_second 121 = .ok (.iconst 1, 1) := by decide +kernel
theorem dX10_second_122 : decode cX10_second 122 = .ok (.iand, 1) := by decide +kernel
theorem dX10_second_123 : decode cX10_second 123 = .ok (.iconst 1, 1) := by decide +kernel
theorem dX10_second_124 : decode cX10_second 124 = .ok (.if_icmp .ne 13, 3) := by decide +kernel
theorem dX10_second_127 : decode cX10_second 127 = .ok (.aload_n 0, 1) := by decide +kernel
theorem dX10_second_128 : decode cX10_second 128 = .ok (.iload_n 3, 1) := by decide +kernel
theorem dX10_second_129 : decode cX10_second 129 = .ok (.iload 5, 2) := by decide +kernel
theorem dX10_second_131 : decode cX10_second 131 = .ok (.invokevirtual 92, 3) := by decide +kernel
theorem dX10_second_134 : decode cX10_second 134 = .ok (.iinc 1 (-1), 3) := by decide +kernel
theorem dX10_second_137 : decode cX10_second 137 = .ok (.iinc 5 1, 3) := by decide +kernel
theorem dX10_second_140 : decode cX10_second 140 = .ok (.goto (-35), 3) := by decide +kernel
theorem dX10_second_143 : decode cX10_second 143 = .ok (.iinc 2 1, 3) := by decide +kernel
theorem dX10_second_146 : decode cX10_second 146 = .ok (.goto (-105), 3) := by decide +kernel
theorem dX10_second_149 : decode cX10_second 149 = .ok (.bipush 19, 2) := by decide +kernel
theorem dX10_second_151 : decode cX10_second 151 = .ok (.istore_n 2, 1) := by decide +kernel
theorem dX10_second_152 : decode cX10_second 152 = .ok (.iload_n 2, 1) := by decide +kernel
theorem dX10_second_153 : decode cX10_second 153 = .ok (.ifCond .le 31, 3) := by decide +kernel
theorem dX10_second_156 : decode cX10_second 156 = .ok (.aload_n 0, 1) := by decide +kernel
theorem dX10_second_157 : decode cX10_second 157 = .ok (.getfield 7, 3) := by decide +kernel
theorem dX10_second_160 : decode cX10_second 160 = .ok (.sipush 709, 3) := by decide +kernel
theorem dX10_second_163 : decode cX10_second 163 = .ok (.iload_n 2, 1) := by decide +kernel
theorem dX10_second_164 : decode cX10_second 164 = .ok (.iadd, 1) := by decide +kernel
theorem dX10_second_165 : decode cX10_second 165 = .ok (.aload_n 0, 1) := by decide +kernel
theorem dX10_second_166 : decode cX10_second 166 = .ok (.getfield 7, 3) := by decide +kernel
theorem dX10_second_169 : decode cX10_second 169 = .ok (.sipush 709, 3) := by decide +kernel
theorem dX10_second_172 : decode cX10_second 172 = .ok (.iload_n 2, 1) := by decide +kernel
theorem dX10_second_173 : decode cX10_second 173 = .ok (.iadd, 1) := by decide +kernel
theorem dX10_second_174 : decode cX10_second 174 = .ok (.iconst 1, 1) := by decide +kernel
theorem dX10_second_175 : decode cX10_second 175 = .ok (.isub, 1) := by decide +kernel
theorem dX10_second_176 : decode cX10_second 176 = .ok (.iaload, 1) := by decide +kernel
theorem dX10_second_177 : decode cX10_second 177 = .ok (.iastore, 1) := by decide +kernel
theorem dX10_second_178 : decode cX10_second 178 = .ok (.iinc 2 (-1), 3) := by decide +kernel
theorem dX10_second_181 : decode cX10_second 181 = .ok (.goto (-29), 3) := by decide +kernel
theorem dX10_second_184 : decode cX10_second 184 = .ok (.aload_n 0, 1) := by decide +kernel
theorem dX10_second_185 : decode cX10_second 185 = .ok (.getfield 7, 3) := by decide +kernel
theorem dX10_second_188 : decode cX10_second 188 = .ok (.sipush 709, 3) := by decide +kernel
theorem dX10_second_191 : decode cX10_second 191 = .ok (.aload_n 0, 1) := by decide +kernel
theorem dX10_second_192 : decode cX10_second 192 = .ok (.getfield 7, 3) := by decide +kernel
theorem dX10_second_195 : decode cX10_second 195 = .ok (.iconst 1, 1) := by decide +kernel
theorem dX10_second_196 : decode cX10_second 196 = .ok (.iaload, 1) := by decide +kernel
theorem dX10_second_197 : decode cX10_second 197 = .ok (.iload_n 1, 1) := by decide +kernel
theorem dX10_second_198 : decode cX10_second 198 = .ok (.isub, 1) := by decide +kernel
theorem dX10_second_199 : decode cX10_second 199 = .ok (.iastore, 1) := by decide +kernel
theorem dX10_second_200 : decode cX10_second 200 = .ok (.aload_n 0, 1) := by decide +kernel
theorem dX10_second_201 : decode cX10_second 201 = .ok (.getfield 7, 3) := by decide +kernel
theorem dX10_second_204 : decode cX10_second 204 = .ok (.bipush 7, 2) := by decide +kernel
theorem dX10_second_206 : decode cX10_second 206 = .ok (.dup2, 1) := by decide +kernel
theorem dX10_second_207 : decode cX10_second 207 = .ok (.iaload, 1) := by decide +kernel
theorem dX10_second_208 : decode cX10_second 208 = .ok (.aload_n 0, 1) := by decide +kernel
theorem dX10_second_209 : decode cX10_second 209 = .ok (.getfield 7, 3) := by decide +kernel
theorem dX10_second_212 : decode cX10_second 212 = .ok (.iconst 1, 1) := by decide +kernel
theorem dX10_second_213 : decode cX10_second 213 = .ok (.iaload, 1) := by decide +kernel
theorem dX10_second_214 : decode cX10_second 214 = .ok (.iload_n 1, 1) := by decide +kernel
theorem dX10_second_215 : decode cX10_second 215 = .ok (.isub, 1) := by decide +kernel
theorem dX10_second_216 : decode cX10_second 216 = .ok (.iadd, 1) := by decide +kernel
theorem dX10_second_217 : decode cX10_second 217 = .ok (.iastore, 1) := by decide +kernel
theorem dX10_second_218 : decode cX10_second 218 = .ok (.aload_n 0, 1) := by decide +kernel
theorem dX10_second_219 : decode cX10_second 219 = .ok (.getfield 7, 3) := by decide +kernel
theorem dX10_second_222 : decode cX10_second 222 = .ok (.bipush 8, 2) := by decide +kernel
theorem dX10_second_224 : decode cX10_second 224 = .ok (.dup2, 1) := by decide +kernel
theorem dX10_second_225 : decode cX10_second 225 = .ok (.iaload, 1) := by decide +kernel
theorem dX10_second_226 : decode cX10_second 226 = .ok (.iconst 1, 1) := by decide +kernel
theorem dX10_second_227 : decode cX10_second 227 = .ok (.iadd, 1) := by decide +kernel
theorem dX10_second_228 : decode cX10_second 228 = .ok (.iastore, 1) := by decide +kernel
theorem dX10_second_229 : decode cX10_second 229 = .ok (.return_, 1) := by decide +kernel
theorem dX10_begin_0 : decode cX10_begin 0 = .ok (.iload_n 1, 1) := by decide +kernel
theorem dX10_begin_1 : decode cX10_begin 1 = .ok (.bipush 6, 2) := by decide +kernel
theorem dX10_begin_3 : decode cX10_begin 3 = .ok (.bipush 40, 2) := by decide +kernel
theorem dX10_begin_5 : decode cX10_begin 5 = .ok (.invokestatic 96, 3) := by decide +kernel
theorem dX10_begin_8 : decode cX10_begin 8 = .ok (.ifCond .ne 7, 3) := by decide +kernel
theorem dX10_begin_11 : decode cX10_begin 11 = .ok (.sipush (-1001), 3) := by decide +kernel
theorem dX10_begin_14 : decode cX10_begin 14 = .ok (.ireturn, 1) := by decide +kernel
theorem dX10_begin_15 : decode cX10_begin 15 = .ok (.aload_n 0, 1) := by decide +kernel
theorem dX10_begin_16 : decode cX10_begin 16 = .ok (.invokevirtual 100, 3) := by decide +kernel
theorem dX10_begin_19 : decode cX10_begin 19 = .ok (.aload_n 0, 1) := by decide +kernel
theorem dX10_begin_20 : decode cX10_begin 20 = .ok (.getfield 7, 3) := by decide +kernel
theorem dX10_begin_23 : decode cX10_begin 23 = .ok (.iconst 0, 1) := by decide +kernel
theorem dX10_begin_24 : decode cX10_begin 24 = .ok (.iaload, 1) := by decide +kernel
theorem dX10_begin_25 : decode cX10_begin 25 = .ok (.istore_n 2, 1) := by decide +kernel
theorem dX10_begin_26 : decode cX10_begin 26 = .ok (.aload_n 0, 1) := by decide +kernel
theorem dX10_begin_27 : decode cX10_begin 27 = .ok (.getfield 7, 3) := by decide +kernel
theorem dX10_begin_30 : decode cX10_begin 30 = .ok (.iconst 0, 1) := by decide +kernel
theorem dX10_begin_31 : decode cX10_begin 31 = .ok (.iload_n 1, 1) := by decide +kernel
theorem dX10_begin_32 : decode cX10_begin 32 = .ok (.iastore, 1) := by decide +kernel
theorem dX10_begin_33 : decode cX10_begin 33 = .ok (.iconst 5, 1) := by decide +kernel
theorem dX10_begin_34 : decode cX10_begin 34 = .ok (.istore_n 3, 1) := by decide +kernel
theorem dX10_begin_35 : decode cX10_begin 35 = .ok (.iload_n 3, 1) := by decide +kernel
theorem dX10_begin_36 : decode cX10_begin 36 = .ok (.sipush 449, 3) := by decide +kernel
theorem dX10_begin_39 : decode cX10_begin 39 = .ok (.if_icmp .ge 16, 3) := by decide +kernel
theorem dX10_begin_42 : decode cX10_begin 42 = .ok (.aload_n 0, 1) := by decide +kernel
theorem dX10_begin_43 : decode cX10_begin 43 = .ok (.getfield 7, 3) := by decide +kernel
theorem dX10_begin_46 : decode cX10_begin 46 = .ok (.iload_n 3, 1) := by decide +kernel
theorem dX10_begin_47 : decode cX10_begin 47 = .ok (.iconst 0, 1) := by decide +kernel
theorem dX10_begin_48 : decode cX10_begin 48 = .ok (.iastore, 1) := by decide +kernel
theorem dX10_begin_49 : decode cX10_begin 49 = .ok (.iinc 3 1, 3) := by decide +kernel
theorem dX10_begin_52 : decode cX10_begin 52 = .ok (.goto (-17), 3) := by decide +kernel
theorem dX10_begin_55 : decode cX10_begin 55 = .ok (.iconst 0, 1) := by decide +kernel
theorem dX10_begin_56 : decode cX10_begin 56 = .ok (.istore_n 3, 1) := by decide +kernel
theorem dX10_begin_57 : decode cX10_begin 57 = .ok (.iload_n 3, 1) := by decide +kernel
theorem dX10_begin_58 : decode cX10_begin 58 = .ok (.bipush 20, 2) := by decide +kernel
theorem dX10_begin_60 : decode cX10_begin 60 = .ok (.if_icmp .ge 20, 3) := by decide +kernel
theorem dX10_begin_63 : decode cX10_begin 63 = .ok (.aload_n 0, 1) := by decide +kernel
theorem dX10_begin_64 : decode cX10_begin 64 = .ok (.getfield 7, 3) := by decide +kernel
theorem dX10_begin_67 : decode cX10_begin 67 = .ok (.sipush 709, 3) := by decide +kernel
theorem dX10_begin_70 : decode cX10_begin 70 = .ok (.iload_n 3, 1) := by decide +kernel
theorem dX10_begin_71 : decode cX10_begin 71 = .ok (.iadd, 1) := by decide +kernel
theorem dX10_begin_72 : decode cX10_begin 72 = .ok (.iconst 0, 1) := by decide +kernel
theorem dX10_begin_73 : decode cX10_begin 73 = .ok (.iastore, 1) := by decide +kernel
theorem dX10_begin_74 : decode cX10_begin 74 = .ok (.iinc 3 1, 3) := by decide +kernel
theorem dX10_begin_77 : decode cX10_begin 77 = .ok (.goto (-20), 3) := by decide +kernel
theorem dX10_begin_80 : decode cX10_begin 80 = .ok (.aload_n 0, 1) := by decide +kernel
theorem dX10_begin_81 : decode cX10_begin 81 = .ok (.iload_n 2, 1) := by decide +kernel
theorem dX10_begin_82 : decode cX10_begin 82 = .ok (.invokevirtual 103, 3) := by decide +kernel
theorem dX10_begin_85 : decode cX10_begin 85 = .ok (.ireturn, 1) := by decide +kernel
theorem dX10_isNumber_0 : decode cX10_isNumber 0 = .ok (.iload_n 0, 1) := by decide +kernel
theorem dX10_isNumber_1 : decode cX10_isNumber 1 = .ok (.tableswitch 51 0 2 #[27, 35, 42], 27) := by decide +kernel
theorem dX10_isNumber_28 : decode cX10_isNumber 28 = .ok (.iload_n 1, 1) := by decide +kernel
theorem dX10_isNumber_29 : decode cX10_isNumber 29 = .ok (.iconst 2, 1) := by decide +kernel
theorem dX10_isNumber_30 : decode cX10_isNumber 30 = .ok (.bipush 50, 2) := by decide +kernel
theorem dX10_isNumber_32 : decode cX10_isNumber 32 = .ok (.invokestatic 96, 3) := by decide +kernel
theorem dX10_isNumber_35 : decode cX10_isNumber 35 = .ok (.ireturn, 1) := by decide +kernel
theorem dX10_isNumber_36 : decode cX10_isNumber 36 = .ok (.iload_n 1, 1) := by decide +kernel
theorem dX10_isNumber_37 : decode cX10_isNumber 37 = .ok (.iconst 0, 1) := by decide +kernel
theorem dX10_isNumber_38 : decode cX10_isNumber 38 = .ok (.iconst 2, 1) := by decide +kernel
theorem dX10_isNumber_39 : decode cX10_isNumber 39 = .ok (.invokestatic 96, 3) := by decide +kernel
theorem dX10_isNumber_42 : decode cX10_isNumber 42 = .ok (.ireturn, 1) := by decide +kernel
theorem dX10_isNumber_43 : decode cX10_isNumber 43 = .ok (.iload_n 1, 1) := by decide +kernel
theorem dX10_isNumber_44 : decode cX10_isNumber 44 = .ok (.iconst 1, 1) := by decide +kernel
theorem dX10_isNumber_45 : decode cX10_isNumber 45 = .ok (.sipush 200, 3) := by decide +kernel
theorem dX10_isNumber_48 : decode cX10_isNumber 48 = .ok (.invokestatic 96, 3) := by decide +kernel
theorem dX10_isNumber_51 : decode cX10_isNumber 51 = .ok (.ireturn, 1) := by decide +kernel
theorem dX10_isNumber_52 : decode cX10_isNumber 52 = .ok (.iconst 0, 1) := by decide +kernel
theorem dX10_isNumber_53 : decode cX10_isNumber 53 = .ok (.ireturn, 1) := by decide +kernel
theorem dX10_setNumber_0 : decode cX10_setNumber 0 = .ok (.iload_n 1, 1) := by decide +kernel
theorem dX10_setNumber_1 : decode cX10_setNumber 1 = .ok (.iload_n 2, 1) := by decide +kernel
theorem dX10_setNumber_2 : decode cX10_setNumber 2 = .ok (.invokestatic 106, 3) := by decide +kernel
theorem dX10_setNumber_5 : decode cX10_setNumber 5 = .ok (.ifCond .ne 7, 3) := by decide +kernel
theorem dX10_setNumber_8 : decode cX10_setNumber 8 = .ok (.sipush (-1001), 3) := by decide +kernel
theorem dX10_setNumber_11 : decode cX10_setNumber 11 = .ok (.ireturn, 1) := by decide +kernel
theorem dX10_setNumber_12 : decode cX10_setNumber 12 = .ok (.aload_n 0, 1) := by decide +kernel
theorem dX10_setNumber_13 : decode cX10_setNumber 13 = .ok (.invokevirtual 100, 3) := by decide +kernel
theorem dX10_setNumber_16 : decode cX10_setNumber 16 = .ok (.aload_n 0, 1) := by decide +kernel
theorem dX10_setNumber_17 : decode cX10_setNumber 17 = .ok (.getfield 7, 3) := by decide +kernel
theorem dX10_setNumber_20 : decode cX10_setNumber 20 = .ok (.iconst 1, 1) := by decide +kernel
theorem dX10_setNumber_21 : decode cX10_setNumber 21 = .ok (.iload_n 1, 1) := by decide +kernel
theorem dX10_setNumber_22 : decode cX10_setNumber 22 = .ok (.iadd, 1) := by decide +kernel
theorem dX10_setNumber_23 : decode cX10_setNumber 23 = .ok (.iaload, 1) := by decide +kernel
theorem dX10_setNumber_24 : decode cX10_setNumber 24 = .ok (.istore_n 3, 1) := by decide +kernel
theorem dX10_setNumber_25 : decode cX10_setNumber 25 = .ok (.aload_n 0, 1) := by decide +kernel
theorem dX10_setNumber_26 : decode cX10_setNumber 26 = .ok (.getfield 7, 3) := by decide +kernel
theorem dX10_setNumber_29 : decode cX10_setNumber 29 = .ok (.iconst 1, 1) := by decide +kernel
theorem dX10_setNumber_30 : decode cX10_setNumber 30 = .ok (.iload_n 1, 1) := by decide +kernel
theorem dX10_setNumber_31 : decode cX10_setNumber 31 = .ok (.iadd, 1) := by decide +kernel
theorem dX10_setNumber_32 : decode cX10_setNumber 32 = .ok (.iload_n 2, 1) := by decide +kernel
theorem dX10_setNumber_33 : decode cX10_setNumber 33 = .ok (.iastore, 1) := by decide +kernel
theorem dX10_setNumber_34 : decode cX10_setNumber 34 = .ok (.aload_n 0, 1) := by decide +kernel
theorem dX10_setNumber_35 : decode cX10_setNumber 35 = .ok (.iload_n 3, 1) := by decide +kernel
theorem dX10_setNumber_36 : decode cX10_setNumber 36 = .ok (.invokevirtual 103, 3) := by decide +kernel
theorem dX10_setNumber_39 : decode cX10_setNumber 39 = .ok (.ireturn, 1) := by decide +kernel
theorem dX10_setColumn_0 : decode cX10_setColumn 0 = .ok (.iload_n 1, 1) := by decide +kernel
theorem dX10_setColumn_1 : decode cX10_setColumn 1 = .ok (.iconst 0, 1) := by decide +kernel
theorem dX10_setColumn_2 : decode cX10_setColumn 2 = .ok (.bipush 25, 2) := by decide +kernel
theorem dX10_setColumn_4 : decode cX10_setColumn 4 = .ok (.invokestatic 96, 3) := by decide +kernel
theorem dX10_setColumn_7 : decode cX10_setColumn 7 = .ok (.ifCond .eq 39, 3) := by decide +kernel
theorem dX10_setColumn_10 : decode cX10_setColumn 10 = .ok (.iload_n 2, 1) := by decide +kernel
theorem dX10_setColumn_11 : decode cX10_setColumn 11 = .ok (.ifCond .lt 35, 3) := by decide +kernel
theorem dX10_setColumn_14 : decode cX10_setColumn 14 = .ok (.iload_n 2, 1) := by decide +kernel
theorem dX10_setColumn_15 : decode cX10_setColumn 15 = .ok (.iconst 4, 1) := by decide +kernel
theorem dX10_setColumn_16 : decode cX10_setColumn 16 = .ok (.if_icmp .gt 30, 3) := by decide +kernel
theorem dX10_setColumn_19 : decode cX10_setColumn 19 = .ok (.iload_n 2, 1) := by decide +kernel
theorem dX10_setColumn_20 : decode cX10_setColumn 20 = .ok (.aload_n 0, 1) := by decide +kernel
theorem dX10_setColumn_21 : decode cX10_setColumn 21 = .ok (.getfield 7, 3) := by decide +kernel
theorem dX10_setColumn_24 : decode cX10_setColumn 24 = .ok (.sipush 449, 3) := by decide +kernel
theorem dX10_setColumn_27 : decode cX10_setColumn 27 = .ok (.bipush 6, 2) := by decide +kernel
theorem dX10_setColumn_29 : decode cX10_setColumn 29 = .ok (.iload_n 1, 1) := by decide +kernel
theorem dX10_setColumn_30 : decode cX10_setColumn 30 = .ok (.imul, 1) := by decide +kernel
theorem dX10_setColumn_31 : decode cX10_setColumn 31 = .ok (.iadd, 1) := by decide +kernel
theorem dX10_setColumn_32 : decode cX10_setColumn 32 = .ok (.iaload, 1) := by decide +kernel
theorem dX10_setColumn_33 : decode cX10_setColumn 33 = .ok (.if_icmp .gt 13, 3) := by decide +kernel
theorem dX10_setColumn_36 : decode cX10_setColumn 36 = .ok (.iload_n 3, 1) := by decide +kernel
theorem dX10_setColumn_37 : decode cX10_setColumn 37 = .ok (.iconst 0, 1) := by decide +kernel
theorem dX10_setColumn_38 : decode cX10_setColumn 38 = .ok (.bipush 127, 2) := by decide +kernel
theorem dX10_setColumn_40 : decode cX10_setColumn 40 = .ok (.invokestatic 96, 3) := by decide +kernel
theorem dX10_setColumn_43 : decode cX10_setColumn 43 = .ok (.ifCond .ne 7, 3) := by decide +kernel
theorem dX10_setColumn_46 : decode cX10_setColumn 46 = .ok (.sipush (-1001), 3) := by decide +kernel
theorem dX10_setColumn_49 : decode cX10_setColumn 49 = .ok (.ireturn, 1) := by decide +kernel
theorem dX10_setColumn_50 : decode cX10_setColumn 50 = .ok (.aload_n 0, 1) := by decide +kernel
theorem dX10_setColumn_51 : decode cX10_setColumn 51 = .ok (.invokevirtual 100, 3) := by decide +kernel
theorem dX10_setColumn_54 : decode cX10_setColumn 54 = .ok (.sipush 449, 3) := by decide +kernel
theorem dX10_setColumn_57 : decode cX10_setColumn 57 = .ok (.bipush 6, 2) := by decide +kernel
theorem dX10_setColumn_59 : decode cX10_setColumn 59 = .ok (.iload_n 1, 1) := by decide +kernel
theorem dX10_setColumn_60 : decode cX10_setColumn 60 = .ok (.imul, 1) := by decide +kernel
theorem dX10_setColumn_61 : decode cX10_setColumn 61 = .ok (.iadd, 1) := by decide +kernel
theorem dX10_setColumn_62 : decode cX10_setColumn 62 = .ok (.istore 4, 2) := by decide +kernel
theorem dX10_setColumn_64 : decode cX10_setColumn 64 = .ok (.aload_n 0, 1) := by decide +kernel
theorem dX10_setColumn_65 : decode cX10_setColumn 65 = .ok (.getfield 7, 3) := by decide +kernel
theorem dX10_setColumn_68 : decode cX10_setColumn 68 = .ok (.iload 4, 2) := by decide +kernel
theorem dX10_setColumn_70 : decode cX10_setColumn 70 = .ok (.dup2, 1) := by decide +kernel
theorem dX10_setColumn_71 : decode cX10_setColumn 71 = .ok (.iaload, 1) := by decide +kernel
theorem dX10_setColumn_72 : decode cX10_setColumn 72 = .ok (.iload_n 2, 1) := by decide +kernel
theorem dX10_setColumn_73 : decode cX10_setColumn 73 = .ok (.aload_n 0, 1) := by decide +kernel
theorem dX10_setColumn_74 : decode cX10_setColumn 74 = .ok (.getfield 7, 3) := by decide +kernel
theorem dX10_setColumn_77 : decode cX10_setColumn 77 = .ok (.iload 4, 2) := by decide +kernel
theorem dX10_setColumn_79 : decode cX10_setColumn 79 = .ok (.iaload, 1) := by decide +kernel
theorem dX10_setColumn_80 : decode cX10_setColumn 80 = .ok (.if_icmp .ne 7, 3) := by decide +kernel
theorem dX10_setColumn_83 : decode cX10_setColumn 83 = .ok (.iconst 1, 1) := by decide +kernel
theorem dX10_setColumn_84 : decode cX10_setColumn 84 = .ok (.goto 4, 3) := by decide +kernel
theorem dX10_setColumn_87 : decode cX10_setColumn 87 = .ok (.iconst 0, 1) := by decide +kernel
theorem dX10_setColumn_88 : decode cX10_setColumn 88 = .ok (.iadd, 1) := by decide +kernel
theorem dX10_setColumn_89 : decode cX10_setColumn 89 = .ok (.iastore, 1) := by decide +kernel
theorem dX10_setColumn_90 : decode cX10_setColumn 90 = .ok (.aload_n 0, 1) := by decide +kernel
theorem dX10_setColumn_91 : decode cX10_setColumn 91 = .ok (.getfield 7, 3) := by decide +kernel
theorem dX10_setColumn_94 : decode cX10_setColumn 94 = .ok (.iload 4, 2) := by decide +kernel
theorem dX10_setColumn_96 : decode cX10_setColumn 96 = .ok (.iconst 1, 1) := by decide +kernel
theorem dX10_setColumn_97 : decode cX10_setColumn 97 = .ok (.iadd, 1) := by decide +kernel
theorem dX10_setColumn_98 : decode cX10_setColumn 98 = .ok (.iload_n 2, 1) := by decide +kernel
theorem dX10_setColumn_99 : decode cX10_setColumn 99 = .ok (.iadd, 1) := by decide +kernel
theorem dX10_setColumn_100 : decode cX10_setColumn 100 = .ok (.iload_n 3, 1) := by decide +kernel
theorem dX10_setColumn_101 : decode cX10_setColumn 101 = .ok (.iastore, 1) := by decide +kernel
theorem dX10_setColumn_102 : decode cX10_setColumn 102 = .ok (.aload_n 0, 1) := by decide +kernel
theorem dX10_setColumn_103 : decode cX10_setColumn 103 = .ok (.aload_n 0, 1) := by decide +kernel
theorem dX10_setColumn_104 : decode cX10_setColumn 104 = .ok (.getfield 7, 3) := by decide +kernel
theorem dX10_setColumn_107 : decode cX10_setColumn 107 = .ok (.iload 4, 2) := by decide +kernel
theorem dX10_setColumn_109 : decode cX10_setColumn 109 = .ok (.iaload, 1) := by decide +kernel
theorem dX10_setColumn_110 : decode cX10_setColumn 110 = .ok (.invokevirtual 103, 3) := by decide +kernel
theorem dX10_setColumn_113 : decode cX10_setColumn 113 = .ok (.ireturn, 1) := by decide +kernel
theorem dX10_addMessage_0 : decode cX10_addMessage 0 = .ok (.iload_n 1, 1) := by decide +kernel
theorem dX10_addMessage_1 : decode cX10_addMessage 1 = .ok (.iconst 0, 1) := by decide +kernel
theorem dX10_addMessage_2 : decode cX10_addMessage 2 = .ok (.bipush 26, 2) := by decide +kernel
theorem dX10_addMessage_4 : decode cX10_addMessage 4 = .ok (.invokestatic 96, 3) := by decide +kernel
theorem dX10_addMessage_7 : decode cX10_addMessage 7 = .ok (.ifCond .eq 13, 3) := by decide +kernel
theorem dX10_addMessage_10 : decode cX10_addMessage 10 = .ok (.iload_n 2, 1) := by decide +kernel
theorem dX10_addMessage_11 : decode cX10_addMessage 11 = .ok (.iconst (-1), 1) := by decide +kernel
theorem dX10_addMessage_12 : decode cX10_addMessage 12 = .ok (.bipush 26, 2) := by decide +kernel
theorem dX10_addMessage_14 : decode cX10_addMessage 14 = .ok (.invokestatic 96, 3) := by decide +kernel
theorem dX10_addMessage_17 : decode cX10_addMessage 17 = .ok (.ifCond .ne 7, 3) := by decide +kernel
theorem dX10_addMessage_20 : decode cX10_addMessage 20 = .ok (.sipush (-1001), 3) := by decide +kernel
theorem dX10_addMessage_23 : decode cX10_addMessage 23 = .ok (.ireturn, 1) := by decide +kernel
theorem dX10_addMessage_24 : decode cX10_addMessage 24 = .ok (.aload_n 0, 1) := by decide +kernel
theorem dX10_addMessage_25 : decode cX10_addMessage 25 = .ok (.getfield 7, 3) := by decide +kernel
theorem dX10_addMessage_28 : decode cX10_addMessage 28 = .ok (.iconst 4, 1) := by decide +kernel
theorem dX10_addMessage_29 : decode cX10_addMessage 29 = .ok (.iaload, 1) := by decide +kernel
theorem dX10_addMessage_30 : decode cX10_addMessage 30 = .ok (.bipush 8, 2) := by decide +kernel
theorem dX10_addMessage_32 : decode cX10_addMessage 32 = .ok (.if_icmp .ne 7, 3) := by decide +kernel
theorem dX10_addMessage_35 : decode cX10_addMessage 35 = .ok (.sipush (-1003), 3) := by decide +kernel
theorem dX10_addMessage_38 : decode cX10_addMessage 38 = .ok (.ireturn, 1) := by decide +kernel
theorem dX10_addMessage_39 : decode cX10_addMessage 39 = .ok (.aload_n 0, 1) := by decide +kernel
theorem dX10_addMessage_40 : decode cX10_addMessage 40 = .ok (.invokevirtual 100, 3) := by decide +kernel
theorem dX10_addMessage_43 : decode cX10_addMessage 43 = .ok (.sipush 605, 3) := by decide +kernel
theorem dX10_addMessage_46 : decode cX10_addMessage 46 = .ok (.bipush 13, 2) := by decide +kernel
theorem dX10_addMessage_48 : decode cX10_addMessage 48 = .ok (.aload_n 0, 1) := by decide +kernel
theorem dX10_addMessage_49 : decode cX10_addMessage 49 = .ok (.getfield 7, 3) := by decide +kernel
theorem dX10_addMessage_52 : decode cX10_addMessage 52 = .ok (.iconst 4, 1) := by decide +kernel
theorem dX10_addMessage_53 : decode cX10_addMessage 53 = .ok (.iaload, 1) := by decide +kernel
theorem dX10_addMessage_54 : decode cX10_addMessage 54 = .ok (.imul, 1) := by decide +kernel
theorem dX10_addMessage_55 : decode cX10_addMessage 55 = .ok (.iadd, 1) := by decide +kernel
theorem dX10_addMessage_56 : decode cX10_addMessage 56 = .ok (.istore_n 3, 1) := by decide +kernel
theorem dX10_addMessage_57 : decode cX10_addMessage 57 = .ok (.aload_n 0, 1) := by decide +kernel
theorem dX10_addMessage_58 : decode cX10_addMessage 58 = .ok (.getfield 7, 3) := by decide +kernel
theorem dX10_addMessage_61 : decode cX10_addMessage 61 = .ok (.iload_n 3, 1) := by decide +kernel
theorem dX10_addMessage_62 : decode cX10_addMessage 62 = .ok (.iload_n 2, 1) := by decide +kernel
theorem dX10_addMessage_63 : decode cX10_addMessage 63 = .ok (.ifCond .ge 7, 3) := by decide +kernel
theorem dX10_addMessage_66 : decode cX10_addMessage 66 = .ok (.iconst 1, 1) := by decide +kernel
theorem dX10_addMessage_67 : decode cX10_addMessage 67 = .ok (.goto 4, 3) := by decide +kernel
theorem dX10_addMessage_70 : decode cX10_addMessage 70 = .ok (.iconst 2, 1) := by decide +kernel
theorem dX10_addMessage_71 : decode cX10_addMessage 71 = .ok (.iastore, 1) := by decide +kernel
theorem dX10_addMessage_72 : decode cX10_addMessage 72 = .ok (.aload_n 0, 1) := by decide +kernel
theorem dX10_addMessage_73 : decode cX10_addMessage 73 = .ok (.getfield 7, 3) := by decide +kernel
theorem dX10_addMessage_76 : decode cX10_addMessage 76 = .ok (.iload_n 3, 1) := by decide +kernel
theorem dX10_addMessage_77 : decode cX10_addMessage 77 = .ok (.iconst 1, 1) := by decide +kernel
theorem dX10_addMessage_78 : decode cX10_addMessage 78 = .ok (.iadd, 1) := by decide +kernel
theorem dX10_addMessage_79 : decode cX10_addMessage 79 = .ok (.iload_n 1, 1) := by decide +kernel
theorem dX10_addMessage_80 : decode cX10_addMessage 80 = .ok (.iastore, 1) := by decide +kernel
theorem dX10_addMessage_81 : decode cX10_addMessage 81 = .ok (.aload_n 0, 1) := by decide +kernel
theorem dX10_addMessage_82 : decode cX10_addMessage 82 = .ok (.getfield 7, 3) := by decide +kernel
theorem dX10_addMessage_85 : decode cX10_addMessage 85 = .ok (.iload_n 3, 1) := by decide +kernel
theorem dX10_addMessage_86 : decode cX10_addMessage 86 = .ok (.iconst 2, 1) := by decide +kernel
theorem dX10_addMessage_87 : decode cX10_addMessage 87 = .ok (.iadd, 1) := by decide +kernel
theorem dX10_addMessage_88 : decode cX10_addMessage 88 = .ok (.iload_n 2, 1) := by decide +kernel
theorem dX10_addMessage_89 : decode cX10_addMessage 89 = .ok (.ifCond .ge 7, 3) := by decide +kernel
theorem dX10_addMessage_92 : decode cX10_addMessage 92 = .ok (.iconst 0, 1) := by decide +kernel
theorem dX10_addMessage_93 : decode cX10_addMessage 93 = .ok (.goto 4, 3) := by decide +kernel
theorem dX10_addMessage_96 : decode cX10_addMessage 96 = .ok (.iload_n 2, 1) := by decide +kernel
theorem dX10_addMessage_97 : decode cX10_addMessage 97 = .ok (.iastore, 1) := by decide +kernel
theorem dX10_addMessage_98 : decode cX10_addMessage 98 = .ok (.aload_n 0, 1) := by decide +kernel
theorem dX10_addMessage_99 : decode cX10_addMessage 99 = .ok (.getfield 7, 3) := by decide +kernel
theorem dX10_addMessage_102 : decode cX10_addMessage 102 = .ok (.iconst 4, 1) := by decide +kernel
theorem dX10_addMessage_103 : decode cX10_addMessage 103 = .ok (.dup2, 1) := by decide +kernel
theorem dX10_addMessage_104 : decode cX10_addMessage 104 = .ok (.iaload, 1) := by decide +kernel
theorem dX10_addMessage_105 : decode cX10_addMessage 105 = .ok (.iconst 1, 1) := by decide +kernel
theorem dX10_addMessage_106 : decode cX10_addMessage 106 = .ok (.iadd, 1) := by decide +kernel
theorem dX10_addMessage_107 : decode cX10_addMessage 107 = .ok (.iastore, 1) := by decide +kernel
theorem dX10_addMessage_108 : decode cX10_addMessage 108 = .ok (.aload_n 0, 1) := by decide +kernel
theorem dX10_addMessage_109 : decode cX10_addMessage 109 = .ok (.aload_n 0, 1) := by decide +kernel
theorem dX10_addMessage_110 : decode cX10_addMessage 110 = .ok (.getfield 7, 3) := by decide +kernel
theorem dX10_addMessage_113 : decode cX10_addMessage 113 = .ok (.iconst 4, 1) := by decide +kernel
theorem dX10_addMessage_114 : decode cX10_addMessage 114 = .ok (.iaload, 1) := by decide +kernel
theorem dX10_addMessage_115 : decode cX10_addMessage 115 = .ok (.iconst 1, 1) := by decide +kernel
theorem dX10_addMessage_116 : decode cX10_addMessage 116 = .ok (.isub, 1) := by decide +kernel
theorem dX10_addMessage_117 : decode cX10_addMessage 117 = .ok (.invokevirtual 103, 3) := by decide +kernel
theorem dX10_addMessage_120 : decode cX10_addMessage 120 = .ok (.ireturn, 1) := by decide +kernel
theorem dX10_removeMessage_0 : decode cX10_removeMessage 0 = .ok (.aload_n 0, 1) := by decide +kernel
theorem dX10_removeMessage_1 : decode cX10_removeMessage 1 = .ok (.iload_n 1, 1) := by decide +kernel
theorem dX10_removeMessage_2 : decode cX10_removeMessage 2 = .ok (.invokevirtual 110, 3) := by decide +kernel
theorem dX10_removeMessage_5 : decode cX10_removeMessage 5 = .ok (.ifCond .ne 7, 3) := by decide +kernel
theorem dX10_removeMessage_8 : decode cX10_removeMessage 8 = .ok (.sipush (-1001), 3) := by decide +kernel
theorem dX10_removeMessage_11 : decode cX10_removeMessage 11 = .ok (.ireturn, 1) := by decide +kernel
theorem dX10_removeMessage_12 : decode cX10_removeMessage 12 = .ok (.aload_n 0, 1) := by decide +kernel
theorem dX10_removeMessage_13 : decode cX10_removeMessage 13 = .ok (.invokevirtual 100, 3) := by decide +kernel
theorem dX10_removeMessage_16 : decode cX10_removeMessage 16 = .ok (.aload_n 0, 1) := by decide +kernel
theorem dX10_removeMessage_17 : decode cX10_removeMessage 17 = .ok (.getfield 7, 3) := by decide +kernel
theorem dX10_removeMessage_20 : decode cX10_removeMessage 20 = .ok (.iconst 4, 1) := by decide +kernel
theorem dX10_removeMessage_21 : decode cX10_removeMessage 21 = .ok (.dup2, 1) := by decide +kernel
theorem dX10_removeMessage_22 : decode cX10_removeMessage 22 = .ok (.iaload, 1) := by decide +kernel
theorem dX10_removeMessage_23 : decode cX10_removeMessage 23 = .ok (.iconst 1, 1) := by decide +kernel
theorem dX10_removeMessage_24 : decode cX10_removeMessage 24 = .ok (.isub, 1) := by decide +kernel
theorem dX10_removeMessage_25 : decode cX10_removeMessage 25 = .ok (.iastore, 1) := by decide +kernel
theorem dX10_removeMessage_26 : decode cX10_removeMessage 26 = .ok (.sipush 605, 3) := by decide +kernel
theorem dX10_removeMessage_29 : decode cX10_removeMessage 29 = .ok (.bipush 13, 2) := by decide +kernel
theorem dX10_removeMessage_31 : decode cX10_removeMessage 31 = .ok (.iload_n 1, 1) := by decide +kernel
theorem dX10_removeMessage_32 : decode cX10_removeMessage 32 = .ok (.imul, 1) := by decide +kernel
theorem dX10_removeMessage_33 : decode cX10_removeMessage 33 = .ok (.iadd, 1) := by decide +kernel
theorem dX10_removeMessage_34 : decode cX10_removeMessage 34 = .ok (.istore_n 2, 1) := by decide +kernel
theorem dX10_removeMessage_35 : decode cX10_removeMessage 35 = .ok (.iload_n 2, 1) := by decide +kernel
theorem dX10_removeMessage_36 : decode cX10_removeMessage 36 = .ok (.sipush 605, 3) := by decide +kernel
theorem dX10_removeMessage_39 : decode cX10_removeMessage 39 = .ok (.bipush 13, 2) := by decide +kernel
theorem dX10_removeMessage_41 : decode cX10_removeMessage 41 = .ok (.aload_n 0, 1) := by decide +kernel
theorem dX10_removeMessage_42 : decode cX10_removeMessage 42 = .ok (.getfield 7, 3) := by decide +kernel
theorem dX10_removeMessage_45 : decode cX10_removeMessage 45 = .ok (.iconst 4, 1) := by decide +kernel
theorem dX10_removeMessage_46 : decode cX10_removeMessage 46 = .ok (.iaload, 1) := by decide +kernel
theorem dX10_removeMessage_47 : decode cX10_removeMessage 47 = .ok (.imul, 1) := by decide +kernel
theorem dX10_removeMessage_48 : decode cX10_removeMessage 48 = .ok (.iadd, 1) := by decide +kernel
theorem dX10_removeMessage_49 : decode cX10_removeMessage 49 = .ok (.if_icmp .ge 24, 3) := by decide +kernel
theorem dX10_removeMessage_52 : decode cX10_removeMessage 52 = .ok (.aload_n 0, 1) := by decide +kernel
theorem dX10_removeMessage_53 : decode cX10_removeMessage 53 = .ok (.getfield 7, 3) := by decide +kernel
theorem dX10_removeMessage_56 : decode cX10_removeMessage 56 = .ok (.iload_n 2, 1) := by decide +kernel
theorem dX10_removeMessage_57 : decode cX10_removeMessage 57 = .ok (.aload_n 0, 1) := by decide +kernel
theorem dX10_removeMessage_58 : decode cX10_removeMessage 58 = .ok (.getfield 7, 3) := by decide +kernel
theorem dX10_removeMessage_61 : decode cX10_removeMessage 61 = .ok (.iload_n 2, 1) := by decide +kernel
theorem dX10_removeMessage_62 : decode cX10_removeMessage 62 = .ok (.bipush 13, 2) := by decide +kernel
theorem dX10_removeMessage_64 : decode cX10_removeMessage 64 = .ok (.iadd, 1) := by decide +kernel
theorem dX10_removeMessage_65 : decode cX10_removeMessage 65 = .ok (.iaload, 1) := by decide +kernel
theorem dX10_removeMessage_66 : decode cX10_removeMessage 66 = .ok (.iastore, 1) := by decide +kernel
theorem dX10_removeMessage_67 : decode cX10_removeMessage 67 = .ok (.iinc 2 1, 3) := by decide +kernel
theorem dX10_removeMessage_70 : decode cX10_removeMessage 70 = .ok (.goto (-35), 3) := by decide +kernel
theorem dX10_removeMessage_73 : decode cX10_removeMessage 73 = .ok (.aload_n 0, 1) := by decide +kernel
theorem dX10_removeMessage_74 : decode cX10_removeMessage 74 = .ok (.aload_n 0, 1) := by decide +kernel
theorem dX10_removeMessage_75 : decode cX10_removeMessage 75 = .ok (.getfield 7, 3) := by decide +kernel
theorem dX10_removeMessage_78 : decode cX10_removeMessage 78 = .ok (.iconst 4, 1) := by decide +kernel
theorem dX10_removeMessage_79 : decode cX10_removeMessage 79 = .ok (.iaload, 1) := by decide +kernel
theorem dX10_removeMessage_80 : decode cX10_removeMessage 80 = .ok (.invokevirtual 103, 3) := by decide +kernel
theorem dX10_removeMessage_83 : decode cX10_removeMessage 83 = .ok (.ireturn, 1) := by decide +kernel
theorem dX10_appendCharacter_0 : decode cX10_appendCharacter 0 = .ok (.iload_n 1, 1) := by decide +kernel
theorem dX10_appendCharacter_1 : decode cX10_appendCharacter 1 = .ok (.iconst 0, 1) := by decide +kernel
theorem dX10_appendCharacter_2 : decode cX10_appendCharacter 2 = .ok (.sipush 255, 3) := by decide +kernel
theorem dX10_appendCharacter_5 : decode cX10_appendCharacter 5 = .ok (.invokestatic 96, 3) := by decide +kernel
theorem dX10_appendCharacter_8 : decode cX10_appendCharacter 8 = .ok (.ifCond .ne 7, 3) := by decide +kernel
theorem dX10_appendCharacter_11 : decode cX10_appendCharacter 11 = .ok (.sipush (-1001), 3) := by decide +kernel
theorem dX10_appendCharacter_14 : decode cX10_appendCharacter 14 = .ok (.ireturn, 1) := by decide +kernel
theorem dX10_appendCharacter_15 : decode cX10_appendCharacter 15 = .ok (.aload_n 0, 1) := by decide +kernel
theorem dX10_appendCharacter_16 : decode cX10_appendCharacter 16 = .ok (.getfield 113, 3) := by decide +kernel
theorem dX10_appendCharacter_19 : decode cX10_appendCharacter 19 = .ok (.bipush 120, 2) := by decide +kernel
theorem dX10_appendCharacter_21 : decode cX10_appendCharacter 21 = .ok (.if_icmp .ne 7, 3) := by decide +kernel
theorem dX10_appendCharacter_24 : decode cX10_appendCharacter 24 = .ok (.sipush (-1003), 3) := by decide +kernel
theorem dX10_appendCharacter_27 : decode cX10_appendCharacter 27 = .ok (.ireturn, 1) := by decide +kernel
theorem dX10_appendCharacter_28 : decode cX10_appendCharacter 28 = .ok (.aload_n 0, 1) := by decide +kernel
theorem dX10_appendCharacter_29 : decode cX10_appendCharacter 29 = .ok (.getfield 22, 3) := by decide +kernel
theorem dX10_appendCharacter_32 : decode cX10_appendCharacter 32 = .ok (.aload_n 0, 1) := by decide +kernel
theorem dX10_appendCharacter_33 : decode cX10_appendCharacter 33 = .ok (.getfield 113, 3) := by decide +kernel
theorem dX10_appendCharacter_36 : decode cX10_appendCharacter 36 = .ok (.iload_n 1, 1) := by decide +kernel
theorem dX10_appendCharacter_37 : decode cX10_appendCharacter 37 = .ok (.iastore, 1) := by decide +kernel
theorem dX10_appendCharacter_38 : decode cX10_appendCharacter 38 = .ok (.aload_n 0, 1) := by decide +kernel
theorem dX10_appendCharacter_39 : decode cX10_appendCharacter 39 = .ok (.dup, 1) := by decide +kernel
theorem dX10_appendCharacter_40 : decode cX10_appendCharacter 40 = .ok (.getfield 113, 3) := by decide +kernel
theorem dX10_appendCharacter_43 : decode cX10_appendCharacter 43 = .ok (.iconst 1, 1) := by decide +kernel
theorem dX10_appendCharacter_44 : decode cX10_appendCharacter 44 = .ok (.iadd, 1) := by decide +kernel
theorem dX10_appendCharacter_45 : decode cX10_appendCharacter 45 = .ok (.putfield 113, 3) := by decide +kernel
theorem dX10_appendCharacter_48 : decode cX10_appendCharacter 48 = .ok (.aload_n 0, 1) := by decide +kernel
theorem dX10_appendCharacter_49 : decode cX10_appendCharacter 49 = .ok (.getfield 113, 3) := by decide +kernel
theorem dX10_appendCharacter_52 : decode cX10_appendCharacter 52 = .ok (.ireturn, 1) := by decide +kernel
theorem dX10_clearText_0 : decode cX10_clearText 0 = .ok (.aload_n 0, 1) := by decide +kernel
theorem dX10_clearText_1 : decode cX10_clearText 1 = .ok (.getfield 113, 3) := by decide +kernel
theorem dX10_clearText_4 : decode cX10_clearText 4 = .ok (.istore_n 1, 1) := by decide +kernel
theorem dX10_clearText_5 : decode cX10_clearText 5 = .ok (.aload_n 0, 1) := by decide +kernel
theorem dX10_clearText_6 : decode cX10_clearText 6 = .ok (.iconst 0, 1) := by decide +kernel
theorem dX10_clearText_7 : decode cX10_clearText 7 = .ok (.putfield 113, 3) := by decide +kernel
theorem dX10_clearText_10 : decode cX10_clearText 10 = .ok (.iload_n 1, 1) := by decide +kernel
theorem dX10_clearText_11 : decode cX10_clearText 11 = .ok (.ireturn, 1) := by decide +kernel
theorem dX10_here_0 : decode cX10_here 0 = .ok (.aload_n 0, 1) := by decide +kernel
theorem dX10_here_1 : decode cX10_here 1 = .ok (.getfield 116, 3) := by decide +kernel
theorem dX10_here_4 : decode cX10_here 4 = .ok (.aload_n 0, 1) := by decide +kernel
theorem dX10_here_5 : decode cX10_here 5 = .ok (.getfield 113, 3) := by decide +kernel
theorem dX10_here_8 : decode cX10_here 8 = .ok (.if_icmp .ge 15, 3) := by decide +kernel
theorem dX10_here_11 : decode cX10_here 11 = .ok (.aload_n 0, 1) := by decide +kernel
theorem dX10_here_12 : decode cX10_here 12 = .ok (.getfield 22, 3) := by decide +kernel
theorem dX10_here_15 : decode cX10_here 15 = .ok (.aload_n 0, 1) := by decide +kernel
theorem dX10_here_16 : decode cX10_here 16 = .ok (.getfield 116, 3) := by decide +kernel
theorem dX10_here_19 : decode cX10_here 19 = .ok (.iaload, 1) := by decide +kernel
theorem dX10_here_20 : decode cX10_here 20 = .ok (.goto 4, 3) := by decide +kernel
theorem dX10_here_23 : decode cX10_here 23 = .ok (.iconst (-1), 1) := by decide +kernel
theorem dX10_here_24 : decode cX10_here 24 = .ok (.ireturn, 1) := by decide +kernel
theorem dX10_skips_0 : decode cX10_skips 0 = .ok (.aload_n 0, 1) := by decide +kernel
theorem dX10_skips_1 : decode cX10_skips 1 = .ok (.invokevirtual 119, 3) := by decide +kernel
theorem dX10_skips_4 : decode cX10_skips 4 = .ok (.bipush 32, 2) := by decide +kernel
theorem dX10_skips_6 : decode cX10_skips 6 = .ok (.if_icmp .ne 16, 3) := by decide +kernel
theorem dX10_skips_9 : decode cX10_skips 9 = .ok (.aload_n 0, 1) := by decide +kernel
theorem dX10_skips_10 : decode cX10_skips 10 = .ok (.dup, 1) := by decide +kernel
theorem dX10_skips_11 : decode cX10_skips 11 = .ok (.getfield 116, 3) := by decide +kernel
theorem dX10_skips_14 : decode cX10_skips 14 = .ok (.iconst 1, 1) := by decide +kernel
theorem dX10_skips_15 : decode cX10_skips 15 = .ok (.iadd, 1) := by decide +kernel
theorem dX10_skips_16 : decode cX10_skips 16 = .ok (.putfield 116, 3) := by decide +kernel
theorem dX10_skips_19 : decode cX10_skips 19 = .ok (.goto (-19), 3) := by decide +kernel
theorem dX10_skips_22 : decode cX10_skips 22 = .ok (.return_, 1) := by decide +kernel
theorem dX10_digitOf_0 : decode cX10_digitOf 0 = .ok (.iload_n 0, 1) := by decide +kernel
theorem dX10_digitOf_1 : decode cX10_digitOf 1 = .ok (.bipush 48, 2) := by decide +kernel
theorem dX10_digitOf_3 : decode cX10_digitOf 3 = .ok (.bipush 57, 2) := by decide +kernel
theorem dX10_digitOf_5 : decode cX10_digitOf 5 = .ok (.invokestatic 96, 3) := by decide +kernel
theorem dX10_digitOf_8 : decode cX10_digitOf 8 = .ok (.ifCond .eq 10, 3) := by decide +kernel
theorem dX10_digitOf_11 : decode cX10_digitOf 11 = .ok (.iload_n 0, 1) := by decide +kernel
theorem dX10_digitOf_12 : decode cX10_digitOf 12 = .ok (.bipush 48, 2) := by decide +kernel
theorem dX10_digitOf_14 : decode cX10_digitOf 14 = .ok (.isub, 1) := by decide +kernel
theorem dX10_digitOf_15 : decode cX10_digitOf 15 = .ok (.goto 25, 3) := by decide +kernel
theorem dX10_digitOf_18 : decode cX10_digitOf 18 = .ok (.iload_n 0, 1) := by decide +kernel
theorem dX10_digitOf_19 : decode cX10_digitOf 19 = .ok (.bipush 97, 2) := by decide +kernel
theorem dX10_digitOf_21 : decode cX10_digitOf 21 = .ok (.bipush 102, 2) := by decide +kernel
theorem dX10_digitOf_23 : decode cX10_digitOf 23 = .ok (.invokestatic 96, 3) := by decide +kernel
theorem dX10_digitOf_26 : decode cX10_digitOf 26 = .ok (.ifCond .eq 13, 3) := by decide +kernel
theorem dX10_digitOf_29 : decode cX10_digitOf 29 = .ok (.iload_n 0, 1) := by decide +kernel
theorem dX10_digitOf_30 : decode cX10_digitOf 30 = .ok (.bipush 97, 2) := by decide +kernel
theorem dX10_digitOf_32 : decode cX10_digitOf 32 = .ok (.isub, 1) := by decide +kernel
theorem dX10_digitOf_33 : decode cX10_digitOf 33 = .ok (.bipush 10, 2) := by decide +kernel
theorem dX10_digitOf_35 : decode cX10_digitOf 35 = .ok (.iadd, 1) := by decide +kernel
theorem dX10_digitOf_36 : decode cX10_digitOf 36 = .ok (.goto 4, 3) := by decide +kernel
theorem dX10_digitOf_39 : decode cX10_digitOf 39 = .ok (.iconst (-1), 1) := by decide +kernel
theorem dX10_digitOf_40 : decode cX10_digitOf 40 = .ok (.ireturn, 1) := by decide +kernel
theorem dX10_isLetter_0 : decode cX10_isLetter 0 = .ok (.sipush 449, 3) := by decide +kernel
theorem dX10_isLetter_3 : decode cX10_isLetter 3 = .ok (.bipush 6, 2) := by decide +kernel
theorem dX10_isLetter_5 : decode cX10_isLetter 5 = .ok (.aload_n 0, 1) := by decide +kernel
theorem dX10_isLetter_6 : decode cX10_isLetter 6 = .ok (.invokevirtual 119, 3) := by decide +kernel
theorem dX10_isLetter_9 : decode cX10_isLetter 9 = .ok (.bipush 97, 2) := by decide +kernel
theorem dX10_isLetter_11 : decode cX10_isLetter 11 = .ok (.isub, 1) := by decide +kernel
theorem dX10_isLetter_12 : decode cX10_isLetter 12 = .ok (.imul, 1) := by decide +kernel
theorem dX10_isLetter_13 : decode cX10_isLetter 13 = .ok (.iadd, 1) := by decide +kernel
theorem dX10_isLetter_14 : decode cX10_isLetter 14 = .ok (.istore_n 1, 1) := by decide +kernel
theorem dX10_isLetter_15 : decode cX10_isLetter 15 = .ok (.aload_n 0, 1) := by decide +kernel
theorem dX10_isLetter_16 : decode cX10_isLetter 16 = .ok (.dup, 1) := by decide +kernel
theorem dX10_isLetter_17 : decode cX10_isLetter 17 = .ok (.getfield 116, 3) := by decide +kernel
theorem dX10_isLetter_20 : decode cX10_isLetter 20 = .ok (.iconst 1, 1) := by decide +kernel
theorem dX10_isLetter_21 : decode cX10_isLetter 21 = .ok (.iadd, 1) := by decide +kernel
theorem dX10_isLetter_22 : decode cX10_isLetter 22 = .ok (.putfield 116, 3) := by decide +kernel
theorem dX10_isLetter_25 : decode cX10_isLetter 25 = .ok (.aload_n 0, 1) := by decide +kernel
theorem dX10_isLetter_26 : decode cX10_isLetter 26 = .ok (.invokevirtual 123, 3) := by decide +kernel
theorem dX10_isLetter_29 : decode cX10_isLetter 29 = .ok (.aload_n 0, 1) := by decide +kernel
theorem dX10_isLetter_30 : decode cX10_isLetter 30 = .ok (.invokevirtual 119, 3) := by decide +kernel
theorem dX10_isLetter_33 : decode cX10_isLetter 33 = .ok (.bipush 61, 2) := by decide +kernel
theorem dX10_isLetter_35 : decode cX10_isLetter 35 = .ok (.if_icmp .eq 5, 3) := by decide +kernel
theorem dX10_isLetter_38 : decode cX10_isLetter 38 = .ok (.iconst 0, 1) := by decide +kernel
theorem dX10_isLetter_39 : decode cX10_isLetter 39 = .ok (.ireturn, 1) := by decide +kernel
theorem dX10_isLetter_40 : decode cX10_isLetter 40 = .ok (.aload_n 0, 1) := by decide +kernel
theorem dX10_isLetter_41 : decode cX10_isLetter 41 = .ok (.dup, 1) := by decide +kernel
theorem dX10_isLetter_42 : decode cX10_isLetter 42 = .ok (.getfield 116, 3) := by decide +kernel
theorem dX10_isLetter_45 : decode cX10_isLetter 45 = .ok (.iconst 1, 1) := by decide +kernel
theorem dX10_isLetter_46 : decode cX10_isLetter 46 = .ok (.iadd, 1) := by decide +kernel
theorem dX10_isLetter_47 : decode cX10_isLetter 47 = .ok (.putfield 116, 3) := by decide +kernel
theorem dX10_isLetter_50 : decode cX10_isLetter 50 = .ok (.aload_n 0, 1) := by decide +kernel
theorem dX10_isLetter_51 : decode cX10_isLetter 51 = .ok (.invokevirtual 123, 3) := by decide +kernel
theorem dX10_isLetter_54 : decode cX10_isLetter 54 = .ok (.iconst 0, 1) := by decide +kernel
theorem dX10_isLetter_55 : decode cX10_isLetter 55 = .ok (.istore_n 2, 1) := by decide +kernel
theorem dX10_isLetter_56 : decode cX10_isLetter 56 = .ok (.iload_n 2, 1) := by decide +kernel
theorem dX10_isLetter_57 : decode cX10_isLetter 57 = .ok (.ifCond .eq 12, 3) := by decide +kernel
theorem dX10_isLetter_60 : decode cX10_isLetter 60 = .ok (.aload_n 0, 1) := by decide +kernel
theorem dX10_isLetter_61 : decode cX10_isLetter 61 = .ok (.invokevirtual 119, 3) := by decide +kernel
theorem dX10_isLetter_64 : decode cX10_isLetter 64 = .ok (.bipush 59, 2) := by decide +kernel
theorem dX10_isLetter_66 : decode cX10_isLetter 66 = .ok (.if_icmp .eq 91, 3) := by decide +kernel
theorem dX10_isLetter_69 : decode cX10_isLetter 69 = .ok (.aload_n 0, 1) := by decide +kernel
theorem dX10_isLetter_70 : decode cX10_isLetter 70 = .ok (.invokevirtual 119, 3) := by decide +kernel
theorem dX10_isLetter_73 : decode cX10_isLetter 73 = .ok (.invokestatic 126, 3) := by decide +kernel
theorem dX10_isLetter_76 : decode cX10_isLetter 76 = .ok (.istore_n 3, 1) := by decide +kernel
theorem dX10_isLetter_77 : decode cX10_isLetter 77 = .ok (.iload_n 2, 1) := by decide +kernel
theorem dX10_isLetter_78 : decode cX10_isLetter 78 = .ok (.iconst 5, 1) := by decide +kernel
theorem dX10_isLetter_79 : decode cX10_isLetter 79 = .ok (.if_icmp .eq 13, 3) := by decide +kernel
theorem dX10_isLetter_82 : decode cX10_isLetter 82 = .ok (.iload_n 3, 1) := by decide +kernel
theorem dX10_isLetter_83 : decode cX10_isLetter 83 = .ok (.iconst 0, 1) := by decide +kernel
theorem dX10_isLetter_84 : decode cX10_isLetter 84 = .ok (.bipush 7, 2) := by decide +kernel
theorem dX10_isLetter_86 : decode cX10_isLetter 86 = .ok (.invokestatic 96, 3) := by decide +kernel
theorem dX10_isLetter_89 : decode cX10_isLetter 89 = .ok (.ifCond .ne 5, 3) := by decide +kernel
theorem dX10_isLetter_92 : decode cX10_isLetter 92 = .ok (.iconst 0, 1) := by decide +kernel
theorem dX10_isLetter_93 : decode cX10_isLetter 93 = .ok (.ireturn, 1) := by decide +kernel
theorem dX10_isLetter_94 : decode cX10_isLetter 94 = .ok (.aload_n 0, 1) := by decide +kernel
theorem dX10_isLetter_95 : decode cX10_isLetter 95 = .ok (.dup, 1) := by decide +kernel
theorem dX10_isLetter_96 : decode cX10_isLetter 96 = .ok (.getfield 116, 3) := by decide +kernel
theorem dX10_isLetter_99 : decode cX10_isLetter 99 = .ok (.iconst 1, 1) := by decide +kernel
theorem dX10_isLetter_100 : decode cX10_isLetter 100 = .ok (.iadd, 1) := by decide +kernel
theorem dX10_isLetter_101 : decode cX10_isLetter 101 = .ok (.putfield 116, 3) := by decide +kernel
theorem dX10_isLetter_104 : decode cX10_isLetter 104 = .ok (.aload_n 0, 1) := by decide +kernel
theorem dX10_isLetter_105 : decode cX10_isLetter 105 = .ok (.invokevirtual 119, 3) := by decide +kernel
theorem dX10_isLetter_108 : decode cX10_isLetter 108 = .ok (.invokestatic 126, 3) := by decide +kernel
theorem dX10_isLetter_111 : decode cX10_isLetter 111 = .ok (.istore 4, 2) := by decide +kernel
theorem dX10_isLetter_113 : decode cX10_isLetter 113 = .ok (.iload 4, 2) := by decide +kernel
theorem dX10_isLetter_115 : decode cX10_isLetter 115 = .ok (.ifCond .ge 5, 3) := by decide +kernel
theorem dX10_isLetter_118 : decode cX10_isLetter 118 = .ok (.iconst 0, 1) := by decide +kernel
theorem dX10_isLetter_119 : decode cX10_isLetter 119 = .ok (.ireturn, 1) := by decide +kernel
theorem dX10_isLetter_120 : decode cX10_isLetter 120 = .ok (.aload_n 0, 1) := by decide +kernel
theorem dX10_isLetter_121 : decode cX10_isLetter 121 = .ok (.dup, 1) := by decide +kernel
theorem dX10_isLetter_122 : decode cX10_isLetter 122 = .ok (.getfield 116, 3) := by decide +kernel
theorem dX10_isLetter_125 : decode cX10_isLetter 125 = .ok (.iconst 1, 1) := by decide +kernel
theorem dX10_isLetter_126 : decode cX10_isLetter 126 = .ok (.iadd, 1) := by decide +kernel
theorem dX10_isLetter_127 : decode cX10_isLetter 127 = .ok (.putfield 116, 3) := by decide +kernel
theorem dX10_isLetter_130 : decode cX10_isLetter 130 = .ok (.aload_n 0, 1) := by decide +kernel
theorem dX10_isLetter_131 : decode cX10_isLetter 131 = .ok (.invokevirtual 123, 3) := by decide +kernel
theorem dX10_isLetter_134 : decode cX10_isLetter 134 = .ok (.aload_n 0, 1) := by decide +kernel
theorem dX10_isLetter_135 : decode cX10_isLetter 135 = .ok (.getfield 7, 3) := by decide +kernel
theorem dX10_isLetter_138 : decode cX10_isLetter 138 = .ok (.iload_n 1, 1) := by decide +kernel
theorem dX10_isLetter_139 : decode cX10_isLetter 139 = .ok (.iconst 1, 1) := by decide +kernel
theorem dX10_isLetter_140 : decode cX10_isLetter 140 = .ok (.iadd, 1) := by decide +kernel
theorem dX10_isLetter_141 : decode cX10_isLetter 141 = .ok (.iload_n 2, 1) := by decide +kernel
theorem dX10_isLetter_142 : decode cX10_isLetter 142 = .ok (.iadd, 1) := by decide +kernel
theorem dX10_isLetter_143 : decode cX10_isLetter 143 = .ok (.bipush 16, 2) := by decide +kernel
theorem dX10_isLetter_145 : decode cX10_isLetter 145 = .ok (.iload_n 3, 1) := by decide +kernel
theorem dX10_isLetter_146 : decode cX10_isLetter 146 = .ok (.imul, 1) := by decide +kernel
theorem dX10_isLetter_147 : decode cX10_isLetter 147 = .ok (.iload 4, 2) := by decide +kernel
theorem dX10_isLetter_149 : decode cX10_isLetter 149 = .ok (.iadd, 1) := by decide +kernel
theorem dX10_isLetter_150 : decode cX10_isLetter 150 = .ok (.iastore, 1) := by decide +kernel
theorem dX10_isLetter_151 : decode cX10_isLetter 151 = .ok (.iinc 2 1, 3) := by decide +kernel
theorem dX10_isLetter_154 : decode cX10_isLetter 154 = .ok (.goto (-98), 3) := by decide +kernel
theorem dX10_isLetter_157 : decode cX10_isLetter 157 = .ok (.aload_n 0, 1) := by decide +kernel
theorem dX10_isLetter_158 : decode cX10_isLetter 158 = .ok (.getfield 7, 3) := by decide +kernel
theorem dX10_isLetter_161 : decode cX10_isLetter 161 = .ok (.iload_n 1, 1) := by decide +kernel
theorem dX10_isLetter_162 : decode cX10_isLetter 162 = .ok (.iload_n 2, 1) := by decide +kernel
theorem dX10_isLetter_163 : decode cX10_isLetter 163 = .ok (.iastore, 1) := by decide +kernel
theorem dX10_isLetter_164 : decode cX10_isLetter 164 = .ok (.aload_n 0, 1) := by decide +kernel
theorem dX10_isLetter_165 : decode cX10_isLetter 165 = .ok (.dup, 1) := by decide +kernel
theorem dX10_isLetter_166 : decode cX10_isLetter 166 = .ok (.getfield 116, 3) := by decide +kernel
theorem dX10_isLetter_169 : decode cX10_isLetter 169 = .ok (.iconst 1, 1) := by decide +kernel
theorem dX10_isLetter_170 : decode cX10_isLetter 170 = .ok (.iadd, 1) := by decide +kernel
theorem dX10_isLetter_171 : decode cX10_isLetter 171 = .ok (.putfield 116, 3) := by decide +kernel
theorem dX10_isLetter_174 : decode cX10_isLetter 174 = .ok (.iconst 1, 1) := by decide +kernel
theorem dX10_isLetter_175 : decode cX10_isLetter 175 = .ok (.ireturn, 1) := by decide +kernel
theorem dX10_isText_0 : decode cX10_isText 0 = .ok (.aload_n 0, 1) := by decide +kernel
theorem dX10_isText_1 : decode cX10_isText 1 = .ok (.getfield 7, 3) := by decide +kernel
theorem dX10_isText_4 : decode cX10_isText 4 = .ok (.iconst 4, 1) := by decide +kernel
theorem dX10_isText_5 : decode cX10_isText 5 = .ok (.iaload, 1) := by decide +kernel
theorem dX10_isText_6 : decode cX10_isText 6 = .ok (.bipush 8, 2) := by decide +kernel
theorem dX10_isText_8 : decode cX10_isText 8 = .ok (.if_icmp .ne 5, 3) := by decide +kernel
theorem dX10_isText_11 : decode cX10_isText 11 = .ok (.iconst 0, 1) := by decide +kernel
theorem dX10_isText_12 : decode cX10_isText 12 = .ok (.ireturn, 1) := by decide +kernel
theorem dX10_isText_13 : decode cX10_isText 13 = .ok (.sipush 605, 3) := by decide +kernel
theorem dX10_isText_16 : decode cX10_isText 16 = .ok (.bipush 13, 2) := by decide +kernel
theorem dX10_isText_18 : decode cX10_isText 18 = .ok (.aload_n 0, 1) := by decide +kernel
theorem dX10_isText_19 : decode cX10_isText 19 = .ok (.getfield 7, 3) := by decide +kernel
theorem dX10_isText_22 : decode cX10_isText 22 = .ok (.iconst 4, 1) := by decide +kernel
theorem dX10_isText_23 : decode cX10_isText 23 = .ok (.iaload, 1) := by decide +kernel
theorem dX10_isText_24 : decode cX10_isText 24 = .ok (.imul, 1) := by decide +kernel
theorem dX10_isText_25 : decode cX10_isText 25 = .ok (.iadd, 1) := by decide +kernel
theorem dX10_isText_26 : decode cX10_isText 26 = .ok (.istore_n 1, 1) := by decide +kernel
theorem dX10_isText_27 : decode cX10_isText 27 = .ok (.aload_n 0, 1) := by decide +kernel
theorem dX10_isText_28 : decode cX10_isText 28 = .ok (.dup, 1) := by decide +kernel
theorem dX10_isText_29 : decode cX10_isText 29 = .ok (.getfield 116, 3) := by decide +kernel
theorem dX10_isText_32 : decode cX10_isText 32 = .ok (.iconst 1, 1) := by decide +kernel
theorem dX10_isText_33 : decode cX10_isText 33 = .ok (.iadd, 1) := by decide +kernel
theorem dX10_isText_34 : decode cX10_isText 34 = .ok (.putfield 116, 3) := by decide +kernel
theorem dX10_isText_37 : decode cX10_isText 37 = .ok (.aload_n 0, 1) := by decide +kernel
theorem dX10_isText_38 : decode cX10_isText 38 = .ok (.invokevirtual 123, 3) := by decide +kernel
theorem dX10_isText_41 : decode cX10_isText 41 = .ok (.iconst 0, 1) := by decide +kernel
theorem dX10_isText_42 : decode cX10_isText 42 = .ok (.istore_n 2, 1) := by decide +kernel
theorem dX10_isText_43 : decode cX10_isText 43 = .ok (.iload_n 2, 1) := by decide +kernel
theorem dX10_isText_44 : decode cX10_isText 44 = .ok (.ifCond .eq 12, 3) := by decide +kernel
theorem dX10_isText_47 : decode cX10_isText 47 = .ok (.aload_n 0, 1) := by decide +kernel
theorem dX10_isText_48 : decode cX10_isText 48 = .ok (.invokevirtual 119, 3) := by decide +kernel
theorem dX10_isText_51 : decode cX10_isText 51 = .ok (.bipush 59, 2) := by decide +kernel
theorem dX10_isText_53 : decode cX10_isText 53 = .ok (.if_icmp .eq 78, 3) := by decide +kernel
theorem dX10_isText_56 : decode cX10_isText 56 = .ok (.aload_n 0, 1) := by decide +kernel
theorem dX10_isText_57 : decode cX10_isText 57 = .ok (.invokevirtual 119, 3) := by decide +kernel
theorem dX10_isText_60 : decode cX10_isText 60 = .ok (.istore_n 3, 1) := by decide +kernel
theorem dX10_isText_61 : decode cX10_isText 61 = .ok (.iload_n 2, 1) := by decide +kernel
theorem dX10_isText_62 : decode cX10_isText 62 = .ok (.bipush 12, 2) := by decide +kernel
theorem dX10_isText_64 : decode cX10_isText 64 = .ok (.if_icmp .eq 20, 3) := by decide +kernel
theorem dX10_isText_67 : decode cX10_isText 67 = .ok (.iload_n 3, 1) := by decide +kernel
theorem dX10_isText_68 : decode cX10_isText 68 = .ok (.bipush 97, 2) := by decide +kernel
theorem dX10_isText_70 : decode cX10_isText 70 = .ok (.bipush 122, 2) := by decide +kernel
theorem dX10_isText_72 : decode cX10_isText 72 = .ok (.invokestatic 96, 3) := by decide +kernel
theorem dX10_isText_75 : decode cX10_isText 75 = .ok (.ifCond .ne 11, 3) := by decide +kernel
theorem dX10_isText_78 : decode cX10_isText 78 = .ok (.iload_n 3, 1) := by decide +kernel
theorem dX10_isText_79 : decode cX10_isText 79 = .ok (.bipush 95, 2) := by decide +kernel
theorem dX10_isText_81 : decode cX10_isText 81 = .ok (.if_icmp .eq 5, 3) := by decide +kernel
theorem dX10_isText_84 : decode cX10_isText 84 = .ok (.iconst 0, 1) := by decide +kernel
theorem dX10_isText_85 : decode cX10_isText 85 = .ok (.ireturn, 1) := by decide +kernel
theorem dX10_isText_86 : decode cX10_isText 86 = .ok (.aload_n 0, 1) := by decide +kernel
theorem dX10_isText_87 : decode cX10_isText 87 = .ok (.getfield 7, 3) := by decide +kernel
theorem dX10_isText_90 : decode cX10_isText 90 = .ok (.iload_n 1, 1) := by decide +kernel
theorem dX10_isText_91 : decode cX10_isText 91 = .ok (.iconst 1, 1) := by decide +kernel
theorem dX10_isText_92 : decode cX10_isText 92 = .ok (.iadd, 1) := by decide +kernel
theorem dX10_isText_93 : decode cX10_isText 93 = .ok (.iload_n 2, 1) := by decide +kernel
theorem dX10_isText_94 : decode cX10_isText 94 = .ok (.iadd, 1) := by decide +kernel
theorem dX10_isText_95 : decode cX10_isText 95 = .ok (.iload_n 3, 1) := by decide +kernel
theorem dX10_isText_96 : decode cX10_isText 96 = .ok (.bipush 95, 2) := by decide +kernel
theorem dX10_isText_98 : decode cX10_isText 98 = .ok (.if_icmp .ne 8, 3) := by decide +kernel
theorem dX10_isText_101 : decode cX10_isText 101 = .ok (.bipush 26, 2) := by decide +kernel
theorem dX10_isText_103 : decode cX10_isText 103 = .ok (.goto 7, 3) := by decide +kernel
theorem dX10_isText_106 : decode cX10_isText 106 = .ok (.iload_n 3, 1) := by decide +kernel
theorem dX10_isText_107 : decode cX10_isText 107 = .ok (.bipush 97, 2) := by decide +kernel
theorem dX10_isText_109 : decode cX10_isText 109 = .ok (.isub, 1) := by decide +kernel
theorem dX10_isText_110 : decode cX10_isText 110 = .ok (.iastore, 1) := by decide +kernel
theorem dX10_isText_111 : decode cX10_isText 111 = .ok (.iinc 2 1, 3) := by decide +kernel
theorem dX10_isText_114 : decode cX10_isText 114 = .ok (.aload_n 0, 1) := by decide +kernel
theorem dX10_isText_115 : decode cX10_isText 115 = .ok (.dup, 1) := by decide +kernel
theorem dX10_isText_116 : decode cX10_isText 116 = .ok (.getfield 116, 3) := by decide +kernel
theorem dX10_isText_119 : decode cX10_isText 119 = .ok (.iconst 1, 1) := by decide +kernel
theorem dX10_isText_120 : decode cX10_isText 120 = .ok (.iadd, 1) := by decide +kernel
theorem dX10_isText_121 : decode cX10_isText 121 = .ok (.putfield 116, 3) := by decide +kernel
theorem dX10_isText_124 : decode cX10_isText 124 = .ok (.aload_n 0, 1) := by decide +kernel
theorem dX10_isText_125 : decode cX10_isText 125 = .ok (.invokevirtual 123, 3) := by decide +kernel
theorem dX10_isText_128 : decode cX10_isText 128 = .ok (.goto (-85), 3) := by decide +kernel
theorem dX10_isText_131 : decode cX10_isText 131 = .ok (.aload_n 0, 1) := by decide +kernel
theorem dX10_isText_132 : decode cX10_isText 132 = .ok (.getfield 7, 3) := by decide +kernel
theorem dX10_isText_135 : decode cX10_isText 135 = .ok (.iload_n 1, 1) := by decide +kernel
theorem dX10_isText_136 : decode cX10_isText 136 = .ok (.iload_n 2, 1) := by decide +kernel
theorem dX10_isText_137 : decode cX10_isText 137 = .ok (.iastore, 1) := by decide +kernel
theorem dX10_isText_138 : decode cX10_isText 138 = .ok (.aload_n 0, 1) := by decide +kernel
theorem dX10_isText_139 : decode cX10_isText 139 = .ok (.getfield 7, 3) := by decide +kernel
theorem dX10_isText_142 : decode cX10_isText 142 = .ok (.iconst 4, 1) := by decide +kernel
theorem dX10_isText_143 : decode cX10_isText 143 = .ok (.dup2, 1) := by decide +kernel
theorem dX10_isText_144 : decode cX10_isText 144 = .ok (.iaload, 1) := by decide +kernel
theorem dX10_isText_145 : decode cX10_isText 145 = .ok (.iconst 1, 1) := by decide +kernel
theorem dX10_isText_146 : decode cX10_isText 146 = .ok (.iadd, 1) := by decide +kernel
theorem dX10_isText_147 : decode cX10_isText 147 = .ok (.iastore, 1) := by decide +kernel
theorem dX10_isText_148 : decode cX10_isText 148 = .ok (.aload_n 0, 1) := by decide +kernel
theorem dX10_isText_149 : decode cX10_isText 149 = .ok (.dup, 1) := by decide +kernel
theorem dX10_isText_150 : decode cX10_isText 150 = .ok (.getfield 116, 3) := by decide +kernel
theorem dX10_isText_153 : decode cX10_isText 153 = .ok (.iconst 1, 1) := by decide +kernel
theorem dX10_isText_154 : decode cX10_isText 154 = .ok (.iadd, 1) := by decide +kernel
theorem dX10_isText_155 : decode cX10_isText 155 = .ok (.putfield 116, 3) := by decide +kernel
theorem dX10_isText_158 : decode cX10_isText 158 = .ok (.iconst 1, 1) := by decide +kernel
theorem dX10_isText_159 : decode cX10_isText 159 = .ok (.ireturn, 1) := by decide +kernel
theorem dX10_load_0 : decode cX10_load 0 = .ok (.aload_n 0, 1) := by decide +kernel
theorem dX10_load_1 : decode cX10_load 1 = .ok (.invokevirtual 100, 3) := by decide +kernel
theorem dX10_load_4 : decode cX10_load 4 = .ok (.aload_n 0, 1) := by decide +kernel
theorem dX10_load_5 : decode cX10_load 5 = .ok (.iconst 0, 1) := by decide +kernel
theorem dX10_load_6 : decode cX10_load 6 = .ok (.putfield 116, 3) := by decide +kernel
theorem dX10_load_9 : decode cX10_load 9 = .ok (.iconst 0, 1) := by decide +kernel
theorem dX10_load_10 : decode cX10_load 10 = .ok (.istore_n 1, 1) := by decide +kernel
theorem dX10_load_11 : decode cX10_load 11 = .ok (.aload_n 0, 1) := by decide +kernel
theorem dX10_load_12 : decode cX10_load 12 = .ok (.invokevirtual 123, 3) := by decide +kernel
theorem dX10_load_15 : decode cX10_load 15 = .ok (.aload_n 0, 1) := by decide +kernel
theorem dX10_load_16 : decode cX10_load 16 = .ok (.getfield 116, 3) := by decide +kernel
theorem dX10_load_19 : decode cX10_load 19 = .ok (.aload_n 0, 1) := by decide +kernel
theorem dX10_load_20 : decode cX10_load 20 = .ok (.getfield 113, 3) := by decide +kernel
theorem dX10_load_23 : decode cX10_load 23 = .ok (.if_icmp .ge 80, 3) := by decide +kernel
theorem dX10_load_26 : decode cX10_load 26 = .ok (.aload_n 0, 1) := by decide +kernel
theorem dX10_load_27 : decode cX10_load 27 = .ok (.invokevirtual 119, 3) := by decide +kernel
theorem dX10_load_30 : decode cX10_load 30 = .ok (.bipush 97, 2) := by decide +kernel
theorem dX10_load_32 : decode cX10_load 32 = .ok (.bipush 122, 2) := by decide +kernel
theorem dX10_load_34 : decode cX10_load 34 = .ok (.invokestatic 96, 3) := by decide +kernel
theorem dX10_load_37 : decode cX10_load 37 = .ok (.ifCond .eq 10, 3) := by decide +kernel
theorem dX10_load_40 : decode cX10_load 40 = .ok (.aload_n 0, 1) := by decide +kernel
theorem dX10_load_41 : decode cX10_load 41 = .ok (.invokevirtual 129, 3) := by decide +kernel
theorem dX10_load_44 : decode cX10_load 44 = .ok (.goto 24, 3) := by decide +kernel
theorem dX10_load_47 : decode cX10_load 47 = .ok (.aload_n 0, 1) := by decide +kernel
theorem dX10_load_48 : decode cX10_load 48 = .ok (.invokevirtual 119, 3) := by decide +kernel
theorem dX10_load_51 : decode cX10_load 51 = .ok (.bipush 62, 2) := by decide +kernel
theorem dX10_load_53 : decode cX10_load 53 = .ok (.if_icmp .ne 14, 3) := by decide +kernel
theorem dX10_load_56 : decode cX10_load 56 = .ok (.aload_n 0, 1) := by decide +kernel
theorem dX10_load_57 : decode cX10_load 57 = .ok (.invokevirtual 133, 3) := by decide +kernel
theorem dX10_load_60 : decode cX10_load 60 = .ok (.ifCond .eq 7, 3) := by decide +kernel
theorem dX10_load_63 : decode cX10_load 63 = .ok (.iconst 1, 1) := by decide +kernel
theorem dX10_load_64 : decode cX10_load 64 = .ok (.goto 4, 3) := by decide +kernel
theorem dX10_load_67 : decode cX10_load 67 = .ok (.iconst 0, 1) := by decide +kernel
theorem dX10_load_68 : decode cX10_load 68 = .ok (.istore_n 2, 1) := by decide +kernel
theorem dX10_load_69 : decode cX10_load 69 = .ok (.iload_n 2, 1) := by decide +kernel
theorem dX10_load_70 : decode cX10_load 70 = .ok (.ifCond .ne 23, 3) := by decide +kernel
theorem dX10_load_73 : decode cX10_load 73 = .ok (.aload_n 0, 1) := by decide +kernel
theorem dX10_load_74 : decode cX10_load 74 = .ok (.getfield 7, 3) := by decide +kernel
theorem dX10_load_77 : decode cX10_load 77 = .ok (.aload_n 0, 1) := by decide +kernel
theorem dX10_load_78 : decode cX10_load 78 = .ok (.getfield 16, 3) := by decide +kernel
theorem dX10_load_81 : decode cX10_load 81 = .ok (.invokestatic 46, 3) := by decide +kernel
theorem dX10_load_84 : decode cX10_load 84 = .ok (.sipush (-2000), 3) := by decide +kernel
theorem dX10_load_87 : decode cX10_load 87 = .ok (.aload_n 0, 1) := by decide +kernel
theorem dX10_load_88 : decode cX10_load 88 = .ok (.getfield 116, 3) := by decide +kernel
theorem dX10_load_91 : decode cX10_load 91 = .ok (.isub, 1) := by decide +kernel
theorem dX10_load_92 : decode cX10_load 92 = .ok (.ireturn, 1) := by decide +kernel
theorem dX10_load_93 : decode cX10_load 93 = .ok (.iinc 1 1, 3) := by decide +kernel
theorem dX10_load_96 : decode cX10_load 96 = .ok (.aload_n 0, 1) := by decide +kernel
theorem dX10_load_97 : decode cX10_load 97 = .ok (.invokevirtual 123, 3) := by decide +kernel
theorem dX10_load_100 : decode cX10_load 100 = .ok (.goto (-85), 3) := by decide +kernel
theorem dX10_load_103 : decode cX10_load 103 = .ok (.aload_n 0, 1) := by decide +kernel
theorem dX10_load_104 : decode cX10_load 104 = .ok (.iconst 0, 1) := by decide +kernel
theorem dX10_load_105 : decode cX10_load 105 = .ok (.putfield 113, 3) := by decide +kernel
theorem dX10_load_108 : decode cX10_load 108 = .ok (.aload_n 0, 1) := by decide +kernel
theorem dX10_load_109 : decode cX10_load 109 = .ok (.iload_n 1, 1) := by decide +kernel
theorem dX10_load_110 : decode cX10_load 110 = .ok (.invokevirtual 103, 3) := by decide +kernel
theorem dX10_load_113 : decode cX10_load 113 = .ok (.ireturn, 1) := by decide +kernel
theorem dX10_aims_0 : decode cX10_aims 0 = .ok (.aload_n 0, 1) := by decide +kernel
theorem dX10_aims_1 : decode cX10_aims 1 = .ok (.iload_n 1, 1) := by decide +kernel
theorem dX10_aims_2 : decode cX10_aims 2 = .ok (.aload_n 0, 1) := by decide +kernel
theorem dX10_aims_3 : decode cX10_aims 3 = .ok (.iload_n 1, 1) := by decide +kernel
theorem dX10_aims_4 : decode cX10_aims 4 = .ok (.iload_n 2, 1) := by decide +kernel
theorem dX10_aims_5 : decode cX10_aims 5 = .ok (.invokevirtual 136, 3) := by decide +kernel
theorem dX10_aims_8 : decode cX10_aims 8 = .ok (.aload_n 0, 1) := by decide +kernel
theorem dX10_aims_9 : decode cX10_aims 9 = .ok (.getfield 25, 3) := by decide +kernel
theorem dX10_aims_12 : decode cX10_aims 12 = .ok (.invokevirtual 75, 3) := by decide +kernel
theorem dX10_aims_15 : decode cX10_aims 15 = .ok (.iconst 0, 1) := by decide +kernel
theorem dX10_aims_16 : decode cX10_aims 16 = .ok (.istore_n 3, 1) := by decide +kernel
theorem dX10_aims_17 : decode cX10_aims 17 = .ok (.iload_n 3, 1) := by decide +kernel
theorem dX10_aims_18 : decode cX10_aims 18 = .ok (.bipush 40, 2) := by decide +kernel
theorem dX10_aims_20 : decode cX10_aims 20 = .ok (.if_icmp .ge 24, 3) := by decide +kernel
theorem dX10_aims_23 : decode cX10_aims 23 = .ok (.aload_n 0, 1) := by decide +kernel
theorem dX10_aims_24 : decode cX10_aims 24 = .ok (.getfield 7, 3) := by decide +kernel
theorem dX10_aims_27 : decode cX10_aims 27 = .ok (.bipush 49, 2) := by decide +kernel
theorem dX10_aims_29 : decode cX10_aims 29 = .ok (.iload_n 3, 1) := by decide +kernel
theorem dX10_aims_30 : decode cX10_aims 30 = .ok (.iadd, 1) := by decide +kernel
theorem dX10_aims_31 : decode cX10_aims 31 = .ok (.aload_n 0, 1) := by decide +kernel
theorem dX10_aims_32 : decode cX10_aims 32 = .ok (.getfield 25, 3) := by decide +kernel
theorem dX10_aims_35 : decode cX10_aims 35 = .ok (.iload_n 3, 1) := by decide +kernel
theorem dX10_aims_36 : decode cX10_aims 36 = .ok (.iaload, 1) := by decide +kernel
theorem dX10_aims_37 : decode cX10_aims 37 = .ok (.iastore, 1) := by decide +kernel
theorem dX10_aims_38 : decode cX10_aims 38 = .ok (.iinc 3 1, 3) := by decide +kernel
theorem dX10_aims_41 : decode cX10_aims 41 = .ok (.goto (-24), 3) := by decide +kernel
theorem dX10_aims_44 : decode cX10_aims 44 = .ok (.return_, 1) := by decide +kernel
theorem dX10_isShow_0 : decode cX10_isShow 0 = .ok (.aload_n 0, 1) := by decide +kernel
theorem dX10_isShow_1 : decode cX10_isShow 1 = .ok (.iload_n 1, 1) := by decide +kernel
theorem dX10_isShow_2 : decode cX10_isShow 2 = .ok (.invokevirtual 110, 3) := by decide +kernel
theorem dX10_isShow_5 : decode cX10_isShow 5 = .ok (.ifCond .eq 16, 3) := by decide +kernel
theorem dX10_isShow_8 : decode cX10_isShow 8 = .ok (.iload_n 2, 1) := by decide +kernel
theorem dX10_isShow_9 : decode cX10_isShow 9 = .ok (.iconst 0, 1) := by decide +kernel
theorem dX10_isShow_10 : decode cX10_isShow 10 = .ok (.iconst 1, 1) := by decide +kernel
theorem dX10_isShow_11 : decode cX10_isShow 11 = .ok (.invokestatic 96, 3) := by decide +kernel
theorem dX10_isShow_14 : decode cX10_isShow 14 = .ok (.ifCond .eq 7, 3) := by decide +kernel
theorem dX10_isShow_17 : decode cX10_isShow 17 = .ok (.iconst 1, 1) := by decide +kernel
theorem dX10_isShow_18 : decode cX10_isShow 18 = .ok (.goto 4, 3) := by decide +kernel
theorem dX10_isShow_21 : decode cX10_isShow 21 = .ok (.iconst 0, 1) := by decide +kernel
theorem dX10_isShow_22 : decode cX10_isShow 22 = .ok (.ireturn, 1) := by decide +kernel
theorem dX10_show_0 : decode cX10_show 0 = .ok (.aload_n 0, 1) := by decide +kernel
theorem dX10_show_1 : decode cX10_show 1 = .ok (.iload_n 1, 1) := by decide +kernel
theorem dX10_show_2 : decode cX10_show 2 = .ok (.iload_n 2, 1) := by decide +kernel
theorem dX10_show_3 : decode cX10_show 3 = .ok (.invokevirtual 139, 3) := by decide +kernel
theorem dX10_show_6 : decode cX10_show 6 = .ok (.ifCond .ne 7, 3) := by decide +kernel
theorem dX10_show_9 : decode cX10_show 9 = .ok (.sipush (-1001), 3) := by decide +kernel
theorem dX10_show_12 : decode cX10_show 12 = .ok (.ireturn, 1) := by decide +kernel
theorem dX10_show_13 : decode cX10_show 13 = .ok (.aload_n 0, 1) := by decide +kernel
theorem dX10_show_14 : decode cX10_show 14 = .ok (.invokevirtual 100, 3) := by decide +kernel
theorem dX10_show_17 : decode cX10_show 17 = .ok (.aload_n 0, 1) := by decide +kernel
theorem dX10_show_18 : decode cX10_show 18 = .ok (.iload_n 1, 1) := by decide +kernel
theorem dX10_show_19 : decode cX10_show 19 = .ok (.iload_n 2, 1) := by decide +kernel
theorem dX10_show_20 : decode cX10_show 20 = .ok (.invokevirtual 142, 3) := by decide +kernel
theorem dX10_show_23 : decode cX10_show 23 = .ok (.aload_n 0, 1) := by decide +kernel
theorem dX10_show_24 : decode cX10_show 24 = .ok (.aload_n 0, 1) := by decide +kernel
theorem dX10_show_25 : decode cX10_show 25 = .ok (.invokevirtual 145, 3) := by decide +kernel
theorem dX10_show_28 : decode cX10_show 28 = .ok (.invokevirtual 103, 3) := by decide +kernel
theorem dX10_show_31 : decode cX10_show 31 = .ok (.ireturn, 1) := by decide +kernel
theorem dX10_darken_0 : decode cX10_darken 0 = .ok (.aload_n 0, 1) := by decide +kernel
theorem dX10_darken_1 : decode cX10_darken 1 = .ok (.invokevirtual 100, 3) := by decide +kernel
theorem dX10_darken_4 : decode cX10_darken 4 = .ok (.iconst 0, 1) := by decide +kernel
theorem dX10_darken_5 : decode cX10_darken 5 = .ok (.istore_n 1, 1) := by decide +kernel
theorem dX10_darken_6 : decode cX10_darken 6 = .ok (.iload_n 1, 1) := by decide +kernel
theorem dX10_darken_7 : decode cX10_darken 7 = .ok (.bipush 40, 2) := by decide +kernel
theorem dX10_darken_9 : decode cX10_darken 9 = .ok (.if_icmp .ge 19, 3) := by decide +kernel
theorem dX10_darken_12 : decode cX10_darken 12 = .ok (.aload_n 0, 1) := by decide +kernel
theorem dX10_darken_13 : decode cX10_darken 13 = .ok (.getfield 7, 3) := by decide +kernel
theorem dX10_darken_16 : decode cX10_darken 16 = .ok (.bipush 49, 2) := by decide +kernel
theorem dX10_darken_18 : decode cX10_darken 18 = .ok (.iload_n 1, 1) := by decide +kernel
theorem dX10_darken_19 : decode cX10_darken 19 = .ok (.iadd, 1) := by decide +kernel
theorem dX10_darken_20 : decode cX10_darken 20 = .ok (.iconst 0, 1) := by decide +kernel
theorem dX10_darken_21 : decode cX10_darken 21 = .ok (.iastore, 1) := by decide +kernel
theorem dX10_darken_22 : decode cX10_darken 22 = .ok (.iinc 1 1, 3) := by decide +kernel
theorem dX10_darken_25 : decode cX10_darken 25 = .ok (.goto (-19), 3) := by decide +kernel
theorem dX10_darken_28 : decode cX10_darken 28 = .ok (.aload_n 0, 1) := by decide +kernel
theorem dX10_darken_29 : decode cX10_darken 29 = .ok (.aload_n 0, 1) := by decide +kernel
theorem dX10_darken_30 : decode cX10_darken 30 = .ok (.invokevirtual 145, 3) := by decide +kernel
theorem dX10_darken_33 : decode cX10_darken 33 = .ok (.invokevirtual 103, 3) := by decide +kernel
theorem dX10_darken_36 : decode cX10_darken 36 = .ok (.ireturn, 1) := by decide +kernel
theorem dX10_isDot_0 : decode cX10_isDot 0 = .ok (.aload_n 0, 1) := by decide +kernel
theorem dX10_isDot_1 : decode cX10_isDot 1 = .ok (.iload_n 1, 1) := by decide +kernel
theorem dX10_isDot_2 : decode cX10_isDot 2 = .ok (.invokevirtual 68, 3) := by decide +kernel
theorem dX10_isDot_5 : decode cX10_isDot 5 = .ok (.ifCond .eq 17, 3) := by decide +kernel
theorem dX10_isDot_8 : decode cX10_isDot 8 = .ok (.iload_n 2, 1) := by decide +kernel
theorem dX10_isDot_9 : decode cX10_isDot 9 = .ok (.iconst 0, 1) := by decide +kernel
theorem dX10_isDot_10 : decode cX10_isDot 10 = .ok (.bipush 6, 2) := by decide +kernel
theorem dX10_isDot_12 : decode cX10_isDot 12 = .ok (.invokestatic 96, 3) := by decide +kernel
theorem dX10_isDot_15 : decode cX10_isDot 15 = .ok (.ifCond .eq 7, 3) := by decide +kernel
theorem dX10_isDot_18 : decode cX10_isDot 18 = .ok (.iconst 1, 1) := by decide +kernel
theorem dX10_isDot_19 : decode cX10_isDot 19 = .ok (.goto 4, 3) := by decide +kernel
theorem dX10_isDot_22 : decode cX10_isDot 22 = .ok (.iconst 0, 1) := by decide +kernel
theorem dX10_isDot_23 : decode cX10_isDot 23 = .ok (.ireturn, 1) := by decide +kernel
theorem dX10_jam_0 : decode cX10_jam 0 = .ok (.aload_n 0, 1) := by decide +kernel
theorem dX10_jam_1 : decode cX10_jam 1 = .ok (.iload_n 1, 1) := by decide +kernel
theorem dX10_jam_2 : decode cX10_jam 2 = .ok (.iload_n 2, 1) := by decide +kernel
theorem dX10_jam_3 : decode cX10_jam 3 = .ok (.invokevirtual 148, 3) := by decide +kernel
theorem dX10_jam_6 : decode cX10_jam 6 = .ok (.ifCond .ne 7, 3) := by decide +kernel
theorem dX10_jam_9 : decode cX10_jam 9 = .ok (.sipush (-1001), 3) := by decide +kernel
theorem dX10_jam_12 : decode cX10_jam 12 = .ok (.ireturn, 1) := by decide +kernel
theorem dX10_jam_13 : decode cX10_jam 13 = .ok (.aload_n 0, 1) := by decide +kernel
theorem dX10_jam_14 : decode cX10_jam 14 = .ok (.getfield 7, 3) := by decide +kernel
theorem dX10_jam_17 : decode cX10_jam 17 = .ok (.bipush 89, 2) := by decide +kernel
theorem dX10_jam_19 : decode cX10_jam 19 = .ok (.iload_n 1, 1) := by decide +kernel
theorem dX10_jam_20 : decode cX10_jam 20 = .ok (.iadd, 1) := by decide +kernel
theorem dX10_jam_21 : decode cX10_jam 21 = .ok (.iaload, 1) := by decide +kernel
theorem dX10_jam_22 : decode cX10_jam 22 = .ok (.iload_n 2, 1) := by decide +kernel
theorem dX10_jam_23 : decode cX10_jam 23 = .ok (.ishr, 1) := by decide +kernel
theorem dX10_jam_24 : decode cX10_jam 24 = .ok (.iconst 1, 1) := by decide +kernel
theorem dX10_jam_25 : decode cX10_jam 25 = .ok (.iand, 1) := by decide +kernel
theorem dX10_jam_26 : decode cX10_jam 26 = .ok (.iconst 1, 1) := by decide +kernel
theorem dX10_jam_27 : decode cX10_jam 27 = .ok (.if_icmp .ne 7, 3) := by decide +kernel
theorem dX10_jam_30 : decode cX10_jam 30 = .ok (.sipush (-1002), 3) := by decide +kernel
theorem dX10_jam_33 : decode cX10_jam 33 = .ok (.ireturn, 1) := by decide +kernel
theorem dX10_jam_34 : decode cX10_jam 34 = .ok (.aload_n 0, 1) := by decide +kernel
theorem dX10_jam_35 : decode cX10_jam 35 = .ok (.invokevirtual 100, 3) := by decide +kernel
theorem dX10_jam_38 : decode cX10_jam 38 = .ok (.aload_n 0, 1) := by decide +kernel
theorem dX10_jam_39 : decode cX10_jam 39 = .ok (.getfield 7, 3) := by decide +kernel
theorem dX10_jam_42 : decode cX10_jam 42 = .ok (.bipush 89, 2) := by decide +kernel
theorem dX10_jam_44 : decode cX10_jam 44 = .ok (.iload_n 1, 1) := by decide +kernel
theorem dX10_jam_45 : decode cX10_jam 45 = .ok (.iadd, 1) := by decide +kernel
theorem dX10_jam_46 : decode cX10_jam 46 = .ok (.dup2, 1) := by decide +kernel
theorem dX10_jam_47 : decode cX10_jam 47 = .ok (.iaload, 1) := by decide +kernel
theorem dX10_jam_48 : decode cX10_jam 48 = .ok (.iconst 1, 1) := by decide +kernel
theorem dX10_jam_49 : decode cX10_jam 49 = .ok (.iload_n 2, 1) := by decide +kernel
theorem dX10_jam_50 : decode cX10_jam 50 = .ok (.ishl, 1) := by decide +kernel
theorem dX10_jam_51 : decode cX10_jam 51 = .ok (.ior, 1) := by decide +kernel
theorem dX10_jam_52 : decode cX10_jam 52 = .ok (.iastore, 1) := by decide +kernel
theorem dX10_jam_53 : decode cX10_jam 53 = .ok (.aload_n 0, 1) := by decide +kernel
theorem dX10_jam_54 : decode cX10_jam 54 = .ok (.aload_n 0, 1) := by decide +kernel
theorem dX10_jam_55 : decode cX10_jam 55 = .ok (.getfield 7, 3) := by decide +kernel
theorem dX10_jam_58 : decode cX10_jam 58 = .ok (.sipush 169, 3) := by decide +kernel
theorem dX10_jam_61 : decode cX10_jam 61 = .ok (.bipush 7, 2) := by decide +kernel
theorem dX10_jam_63 : decode cX10_jam 63 = .ok (.iload_n 1, 1) := by decide +kernel
theorem dX10_jam_64 : decode cX10_jam 64 = .ok (.imul, 1) := by decide +kernel
theorem dX10_jam_65 : decode cX10_jam 65 = .ok (.iadd, 1) := by decide +kernel
theorem dX10_jam_66 : decode cX10_jam 66 = .ok (.iload_n 2, 1) := by decide +kernel
theorem dX10_jam_67 : decode cX10_jam 67 = .ok (.iadd, 1) := by decide +kernel
theorem dX10_jam_68 : decode cX10_jam 68 = .ok (.iaload, 1) := by decide +kernel
theorem dX10_jam_69 : decode cX10_jam 69 = .ok (.invokevirtual 103, 3) := by decide +kernel
theorem dX10_jam_72 : decode cX10_jam 72 = .ok (.ireturn, 1) := by decide +kernel
theorem dX10_mend_0 : decode cX10_mend 0 = .ok (.aload_n 0, 1) := by decide +kernel
theorem dX10_mend_1 : decode cX10_mend 1 = .ok (.iload_n 1, 1) := by decide +kernel
theorem dX10_mend_2 : decode cX10_mend 2 = .ok (.iload_n 2, 1) := by decide +kernel
theorem dX10_mend_3 : decode cX10_mend 3 = .ok (.invokevirtual 148, 3) := by decide +kernel
theorem dX10_mend_6 : decode cX10_mend 6 = .ok (.ifCond .ne 7, 3) := by decide +kernel
theorem dX10_mend_9 : decode cX10_mend 9 = .ok (.sipush (-1001), 3) := by decide +kernel
theorem dX10_mend_12 : decode cX10_mend 12 = .ok (.ireturn, 1) := by decide +kernel
theorem dX10_mend_13 : decode cX10_mend 13 = .ok (.aload_n 0, 1) := by decide +kernel
theorem dX10_mend_14 : decode cX10_mend 14 = .ok (.invokevirtual 100, 3) := by decide +kernel
theorem dX10_mend_17 : decode cX10_mend 17 = .ok (.aload_n 0, 1) := by decide +kernel
theorem dX10_mend_18 : decode cX10_mend 18 = .ok (.getfield 7, 3) := by decide +kernel
theorem dX10_mend_21 : decode cX10_mend 21 = .ok (.bipush 89, 2) := by decide +kernel
theorem dX10_mend_23 : decode cX10_mend 23 = .ok (.iload_n 1, 1) := by decide +kernel
theorem dX10_mend_24 : decode cX10_mend 24 = .ok (.iadd, 1) := by decide +kernel
theorem dX10_mend_25 : decode cX10_mend 25 = .ok (.iaload, 1) := by decide +kernel
theorem dX10_mend_26 : decode cX10_mend 26 = .ok (.iload_n 2, 1) := by decide +kernel
theorem dX10_mend_27 : decode cX10_mend 27 = .ok (.ishr, 1) := by decide +kernel
theorem dX10_mend_28 : decode cX10_mend 28 = .ok (.iconst 1, 1) := by decide +kernel
theorem dX10_mend_29 : decode cX10_mend 29 = .ok (.iand, 1) := by decide +kernel
theorem dX10_mend_30 : decode cX10_mend 30 = .ok (.istore_n 3, 1) := by decide +kernel
theorem dX10_mend_31 : decode cX10_mend 31 = .ok (.aload_n 0, 1) := by decide +kernel
theorem dX10_mend_32 : decode cX10_mend 32 = .ok (.getfield 7, 3) := by decide +kernel
theorem dX10_mend_35 : decode cX10_mend 35 = .ok (.bipush 89, 2) := by decide +kernel
theorem dX10_mend_37 : decode cX10_mend 37 = .ok (.iload_n 1, 1) := by decide +kernel
theorem dX10_mend_38 : decode cX10_mend 38 = .ok (.iadd, 1) := by decide +kernel
theorem dX10_mend_39 : decode cX10_mend 39 = .ok (.dup2, 1) := by decide +kernel
theorem dX10_mend_40 : decode cX10_mend 40 = .ok (.iaload, 1) := by decide +kernel
theorem dX10_mend_41 : decode cX10_mend 41 = .ok (.iconst 1, 1) := by decide +kernel
theorem dX10_mend_42 : decode cX10_mend 42 = .ok (.iload_n 2, 1) := by decide +kernel
theorem dX10_mend_43 : decode cX10_mend 43 = .ok (.ishl, 1) := by decide +kernel
theorem dX10_mend_44 : decode cX10_mend 44 = .ok (.iconst (-1), 1) := by decide +kernel
theorem dX10_mend_45 : decode cX10_mend 45 = .ok (.ixor, 1) := by decide +kernel
theorem dX10_mend_46 : decode cX10_mend 46 = .ok (.iand, 1) := by decide +kernel
theorem dX10_mend_47 : decode cX10_mend 47 = .ok (.iastore, 1) := by decide +kernel
theorem dX10_mend_48 : decode cX10_mend 48 = .ok (.aload_n 0, 1) := by decide +kernel
theorem dX10_mend_49 : decode cX10_mend 49 = .ok (.getfield 7, 3) := by decide +kernel
theorem dX10_mend_52 : decode cX10_mend 52 = .ok (.sipush 129, 3) := by decide +kernel
theorem dX10_mend_55 : decode cX10_mend 55 = .ok (.iload_n 1, 1) := by decide +kernel
theorem dX10_mend_56 : decode cX10_mend 56 = .ok (.iadd, 1) := by decide +kernel
theorem dX10_mend_57 : decode cX10_mend 57 = .ok (.dup2, 1) := by decide +kernel
theorem dX10_mend_58 : decode cX10_mend 58 = .ok (.iaload, 1) := by decide +kernel
theorem dX10_mend_59 : decode cX10_mend 59 = .ok (.iconst 1, 1) := by decide +kernel
theorem dX10_mend_60 : decode cX10_mend 60 = .ok (.iload_n 2, 1) := by decide +kernel
theorem dX10_mend_61 : decode cX10_mend 61 = .ok (.ishl, 1) := by decide +kernel
theorem dX10_mend_62 : decode cX10_mend 62 = .ok (.iconst (-1), 1) := by decide +kernel
theorem dX10_mend_63 : decode cX10_mend 63 = .ok (.ixor, 1) := by decide +kernel
theorem dX10_mend_64 : decode cX10_mend 64 = .ok (.iand, 1) := by decide +kernel
theorem dX10_mend_65 : decode cX10_mend 65 = .ok (.iastore, 1) := by decide +kernel
theorem dX10_mend_66 : decode cX10_mend 66 = .ok (.aload_n 0, 1) := by decide +kernel
theorem dX10_mend_67 : decode cX10_mend 67 = .ok (.getfield 7, 3) := by decide +kernel
theorem dX10_mend_70 : decode cX10_mend 70 = .ok (.sipush 169, 3) := by decide +kernel
theorem dX10_mend_73 : decode cX10_mend 73 = .ok (.bipush 7, 2) := by decide +kernel
theorem dX10_mend_75 : decode cX10_mend 75 = .ok (.iload_n 1, 1) := by decide +kernel
theorem dX10_mend_76 : decode cX10_mend 76 = .ok (.imul, 1) := by decide +kernel
theorem dX10_mend_77 : decode cX10_mend 77 = .ok (.iadd, 1) := by decide +kernel
theorem dX10_mend_78 : decode cX10_mend 78 = .ok (.iload_n 2, 1) := by decide +kernel
theorem dX10_mend_79 : decode cX10_mend 79 = .ok (.iadd, 1) := by decide +kernel
theorem dX10_mend_80 : decode cX10_mend 80 = .ok (.iconst 0, 1) := by decide +kernel
theorem dX10_mend_81 : decode cX10_mend 81 = .ok (.iastore, 1) := by decide +kernel
theorem dX10_mend_82 : decode cX10_mend 82 = .ok (.aload_n 0, 1) := by decide +kernel
theorem dX10_mend_83 : decode cX10_mend 83 = .ok (.iload_n 3, 1) := by decide +kernel
theorem dX10_mend_84 : decode cX10_mend 84 = .ok (.invokevirtual 103, 3) := by decide +kernel
theorem dX10_mend_87 : decode cX10_mend 87 = .ok (.ireturn, 1) := by decide +kernel
theorem dX10_pass_0 : decode cX10_pass 0 = .ok (.iload_n 1, 1) := by decide +kernel
theorem dX10_pass_1 : decode cX10_pass 1 = .ok (.iconst 1, 1) := by decide +kernel
theorem dX10_pass_2 : decode cX10_pass 2 = .ok (.sipush 200, 3) := by decide +kernel
theorem dX10_pass_5 : decode cX10_pass 5 = .ok (.invokestatic 96, 3) := by decide +kernel
theorem dX10_pass_8 : decode cX10_pass 8 = .ok (.ifCond .ne 7, 3) := by decide +kernel
theorem dX10_pass_11 : decode cX10_pass 11 = .ok (.sipush (-1001), 3) := by decide +kernel
theorem dX10_pass_14 : decode cX10_pass 14 = .ok (.ireturn, 1) := by decide +kernel
theorem dX10_pass_15 : decode cX10_pass 15 = .ok (.aload_n 0, 1) := by decide +kernel
theorem dX10_pass_16 : decode cX10_pass 16 = .ok (.invokevirtual 100, 3) := by decide +kernel
theorem dX10_pass_19 : decode cX10_pass 19 = .ok (.iconst 0, 1) := by decide +kernel
theorem dX10_pass_20 : decode cX10_pass 20 = .ok (.istore_n 2, 1) := by decide +kernel
theorem dX10_pass_21 : decode cX10_pass 21 = .ok (.iload_n 2, 1) := by decide +kernel
theorem dX10_pass_22 : decode cX10_pass 22 = .ok (.iload_n 1, 1) := by decide +kernel
theorem dX10_pass_23 : decode cX10_pass 23 = .ok (.if_icmp .ge 13, 3) := by decide +kernel
theorem dX10_pass_26 : decode cX10_pass 26 = .ok (.aload_n 0, 1) := by decide +kernel
theorem dX10_pass_27 : decode cX10_pass 27 = .ok (.invokevirtual 151, 3) := by decide +kernel
theorem dX10_pass_30 : decode cX10_pass 30 = .ok (.iinc 2 1, 3) := by decide +kernel
theorem dX10_pass_33 : decode cX10_pass 33 = .ok (.goto (-12), 3) := by decide +kernel
theorem dX10_pass_36 : decode cX10_pass 36 = .ok (.aload_n 0, 1) := by decide +kernel
theorem dX10_pass_37 : decode cX10_pass 37 = .ok (.aload_n 0, 1) := by decide +kernel
theorem dX10_pass_38 : decode cX10_pass 38 = .ok (.invokevirtual 145, 3) := by decide +kernel
theorem dX10_pass_41 : decode cX10_pass 41 = .ok (.invokevirtual 103, 3) := by decide +kernel
theorem dX10_pass_44 : decode cX10_pass 44 = .ok (.ireturn, 1) := by decide +kernel
theorem dX10_bitsOf_0 : decode cX10_bitsOf 0 = .ok (.iconst 0, 1) := by decide +kernel
theorem dX10_bitsOf_1 : decode cX10_bitsOf 1 = .ok (.istore_n 2, 1) := by decide +kernel
theorem dX10_bitsOf_2 : decode cX10_bitsOf 2 = .ok (.iconst 0, 1) := by decide +kernel
theorem dX10_bitsOf_3 : decode cX10_bitsOf 3 = .ok (.istore_n 3, 1) := by decide +kernel
theorem dX10_bitsOf_4 : decode cX10_bitsOf 4 = .ok (.iload_n 3, 1) := by decide +kernel
theorem dX10_bitsOf_5 : decode cX10_bitsOf 5 = .ok (.aload_n 0, 1) := by decide +kernel
theorem dX10_bitsOf_6 : decode cX10_bitsOf 6 = .ok (.getfield 7, 3) := by decide +kernel
theorem dX10_bitsOf_9 : decode cX10_bitsOf 9 = .ok (.iconst 0, 1) := by decide +kernel
theorem dX10_bitsOf_10 : decode cX10_bitsOf 10 = .ok (.iaload, 1) := by decide +kernel
theorem dX10_bitsOf_11 : decode cX10_bitsOf 11 = .ok (.if_icmp .ge 23, 3) := by decide +kernel
theorem dX10_bitsOf_14 : decode cX10_bitsOf 14 = .ok (.iload_n 2, 1) := by decide +kernel
theorem dX10_bitsOf_15 : decode cX10_bitsOf 15 = .ok (.aload_n 0, 1) := by decide +kernel
theorem dX10_bitsOf_16 : decode cX10_bitsOf 16 = .ok (.getfield 7, 3) := by decide +kernel
theorem dX10_bitsOf_19 : decode cX10_bitsOf 19 = .ok (.iload_n 1, 1) := by decide +kernel
theorem dX10_bitsOf_20 : decode cX10_bitsOf 20 = .ok (.iload_n 3, 1) := by decide +kernel
theorem dX10_bitsOf_21 : decode cX10_bitsOf 21 = .ok (.iadd, 1) := by decide +kernel
theorem dX10_bitsOf_22 : decode cX10_bitsOf 22 = .ok (.iaload, 1) := by decide +kernel
theorem dX10_bitsOf_23 : decode cX10_bitsOf 23 = .ok (.invokestatic 72, 3) := by decide +kernel
theorem dX10_bitsOf_26 : decode cX10_bitsOf 26 = .ok (.iadd, 1) := by decide +kernel
theorem dX10_bitsOf_27 : decode cX10_bitsOf 27 = .ok (.istore_n 2, 1) := by decide +kernel
theorem dX10_bitsOf_28 : decode cX10_bitsOf 28 = .ok (.iinc 3 1, 3) := by decide +kernel
theorem dX10_bitsOf_31 : decode cX10_bitsOf 31 = .ok (.goto (-27), 3) := by decide +kernel
theorem dX10_bitsOf_34 : decode cX10_bitsOf 34 = .ok (.iload_n 2, 1) := by decide +kernel
theorem dX10_bitsOf_35 : decode cX10_bitsOf 35 = .ok (.ireturn, 1) := by decide +kernel
theorem dX10_offMany_0 : decode cX10_offMany 0 = .ok (.iconst 0, 1) := by decide +kernel
theorem dX10_offMany_1 : decode cX10_offMany 1 = .ok (.istore_n 1, 1) := by decide +kernel
theorem dX10_offMany_2 : decode cX10_offMany 2 = .ok (.iconst 0, 1) := by decide +kernel
theorem dX10_offMany_3 : decode cX10_offMany 3 = .ok (.istore_n 2, 1) := by decide +kernel
theorem dX10_offMany_4 : decode cX10_offMany 4 = .ok (.iload_n 2, 1) := by decide +kernel
theorem dX10_offMany_5 : decode cX10_offMany 5 = .ok (.aload_n 0, 1) := by decide +kernel
theorem dX10_offMany_6 : decode cX10_offMany 6 = .ok (.getfield 7, 3) := by decide +kernel
theorem dX10_offMany_9 : decode cX10_offMany 9 = .ok (.iconst 0, 1) := by decide +kernel
theorem dX10_offMany_10 : decode cX10_offMany 10 = .ok (.iaload, 1) := by decide +kernel
theorem dX10_offMany_11 : decode cX10_offMany 11 = .ok (.if_icmp .ge 34, 3) := by decide +kernel
theorem dX10_offMany_14 : decode cX10_offMany 14 = .ok (.iload_n 1, 1) := by decide +kernel
theorem dX10_offMany_15 : decode cX10_offMany 15 = .ok (.aload_n 0, 1) := by decide +kernel
theorem dX10_offMany_16 : decode cX10_offMany 16 = .ok (.getfield 7, 3) := by decide +kernel
theorem dX10_offMany_19 : decode cX10_offMany 19 = .ok (.bipush 9, 2) := by decide +kernel
theorem dX10_offMany_21 : decode cX10_offMany 21 = .ok (.iload_n 2, 1) := by decide +kernel
theorem dX10_offMany_22 : decode cX10_offMany 22 = .ok (.iadd, 1) := by decide +kernel
theorem dX10_offMany_23 : decode cX10_offMany 23 = .ok (.iaload, 1) := by decide +kernel
theorem dX10_offMany_24 : decode cX10_offMany 24 = .ok (.aload_n 0, 1) := by decide +kernel
theorem dX10_offMany_25 : decode cX10_offMany 25 = .ok (.getfield 7, 3) := by decide +kernel
theorem dX10_offMany_28 : decode cX10_offMany 28 = .ok (.bipush 49, 2) := by decide +kernel
theorem dX10_offMany_30 : decode cX10_offMany 30 = .ok (.iload_n 2, 1) := by decide +kernel
theorem dX10_offMany_31 : decode cX10_offMany 31 = .ok (.iadd, 1) := by decide +kernel
theorem dX10_offMany_32 : decode cX10_offMany 32 = .ok (.iaload, 1) := by decide +kernel
theorem dX10_offMany_33 : decode cX10_offMany 33 = .ok (.ixor, 1) := by decide +kernel
theorem dX10_offMany_34 : decode cX10_offMany 34 = .ok (.invokestatic 72, 3) := by decide +kernel
theorem dX10_offMany_37 : decode cX10_offMany 37 = .ok (.iadd, 1) := by decide +kernel
theorem dX10_offMany_38 : decode cX10_offMany 38 = .ok (.istore_n 1, 1) := by decide +kernel
theorem dX10_offMany_39 : decode cX10_offMany 39 = .ok (.iinc 2 1, 3) := by decide +kernel
theorem dX10_offMany_42 : decode cX10_offMany 42 = .ok (.goto (-38), 3) := by decide +kernel
theorem dX10_offMany_45 : decode cX10_offMany 45 = .ok (.iload_n 1, 1) := by decide +kernel
theorem dX10_offMany_46 : decode cX10_offMany 46 = .ok (.ireturn, 1) := by decide +kernel
theorem dX10_count_0 : decode cX10_count 0 = .ok (.iload_n 1, 1) := by decide +kernel
theorem dX10_count_1 : decode cX10_count 1 = .ok (.tableswitch 129 0 14 #[75, 75, 75, 75, 75, 82, 87, 94, 102, 107, 107, 107, 107, 119, 124], 75) := by decide +kernel
theorem dX10_count_76 : decode cX10_count 76 = .ok (.aload_n 0, 1) := by decide +kernel
theorem dX10_count_77 : decode cX10_count 77 = .ok (.getfield 7, 3) := by decide +kernel
theorem dX10_count_80 : decode cX10_count 80 = .ok (.iload_n 1, 1) := by decide +kernel
theorem dX10_count_81 : decode cX10_count 81 = .ok (.iaload, 1) := by decide +kernel
theorem dX10_count_82 : decode cX10_count 82 = .ok (.ireturn, 1) := by decide +kernel
theorem dX10_count_83 : decode cX10_count 83 = .ok (.aload_n 0, 1) := by decide +kernel
theorem dX10_count_84 : decode cX10_count 84 = .ok (.invokevirtual 145, 3) := by decide +kernel
theorem dX10_count_87 : decode cX10_count 87 = .ok (.ireturn, 1) := by decide +kernel
theorem dX10_count_88 : decode cX10_count 88 = .ok (.aload_n 0, 1) := by decide +kernel
theorem dX10_count_89 : decode cX10_count 89 = .ok (.bipush 89, 2) := by decide +kernel
theorem dX10_count_91 : decode cX10_count 91 = .ok (.invokevirtual 154, 3) := by decide +kernel
theorem dX10_count_94 : decode cX10_count 94 = .ok (.ireturn, 1) := by decide +kernel
theorem dX10_count_95 : decode cX10_count 95 = .ok (.aload_n 0, 1) := by decide +kernel
theorem dX10_count_96 : decode cX10_count 96 = .ok (.sipush 129, 3) := by decide +kernel
theorem dX10_count_99 : decode cX10_count 99 = .ok (.invokevirtual 154, 3) := by decide +kernel
theorem dX10_count_102 : decode cX10_count 102 = .ok (.ireturn, 1) := by decide +kernel
theorem dX10_count_103 : decode cX10_count 103 = .ok (.aload_n 0, 1) := by decide +kernel
theorem dX10_count_104 : decode cX10_count 104 = .ok (.invokevirtual 157, 3) := by decide +kernel
theorem dX10_count_107 : decode cX10_count 107 = .ok (.ireturn, 1) := by decide +kernel
theorem dX10_count_108 : decode cX10_count 108 = .ok (.aload_n 0, 1) := by decide +kernel
theorem dX10_count_109 : decode cX10_count 109 = .ok (.getfield 7, 3) := by decide +kernel
theorem dX10_count_112 : decode cX10_count 112 = .ok (.iconst 5, 1) := by decide +kernel
theorem dX10_count_113 : decode cX10_count 113 = .ok (.iload_n 1, 1) := by decide +kernel
theorem dX10_count_114 : decode cX10_count 114 = .ok (.iadd, 1) := by decide +kernel
theorem dX10_count_115 : decode cX10_count 115 = .ok (.bipush 9, 2) := by decide +kernel
theorem dX10_count_117 : decode cX10_count 117 = .ok (.isub, 1) := by decide +kernel
theorem dX10_count_118 : decode cX10_count 118 = .ok (.iaload, 1) := by decide +kernel
theorem dX10_count_119 : decode cX10_count 119 = .ok (.ireturn, 1) := by decide +kernel
theorem dX10_count_120 : decode cX10_count 120 = .ok (.aload_n 0, 1) := by decide +kernel
theorem dX10_count_121 : decode cX10_count 121 = .ok (.getfield 113, 3) := by decide +kernel
theorem dX10_count_124 : decode cX10_count 124 = .ok (.ireturn, 1) := by decide +kernel
theorem dX10_count_125 : decode cX10_count 125 = .ok (.aload_n 0, 1) := by decide +kernel
theorem dX10_count_126 : decode cX10_count 126 = .ok (.getfield 50, 3) := by decide +kernel
theorem dX10_count_129 : decode cX10_count 129 = .ok (.ireturn, 1) := by decide +kernel
theorem dX10_count_130 : decode cX10_count 130 = .ok (.sipush (-1001), 3) := by decide +kernel
theorem dX10_count_133 : decode cX10_count 133 = .ok (.ireturn, 1) := by decide +kernel
theorem dX10_column_0 : decode cX10_column 0 = .ok (.aload_n 0, 1) := by decide +kernel
theorem dX10_column_1 : decode cX10_column 1 = .ok (.iload_n 1, 1) := by decide +kernel
theorem dX10_column_2 : decode cX10_column 2 = .ok (.invokevirtual 68, 3) := by decide +kernel
theorem dX10_column_5 : decode cX10_column 5 = .ok (.ifCond .eq 29, 3) := by decide +kernel
theorem dX10_column_8 : decode cX10_column 8 = .ok (.iload_n 2, 1) := by decide +kernel
theorem dX10_column_9 : decode cX10_column 9 = .ok (.iconst 0, 1) := by decide +kernel
theorem dX10_column_10 : decode cX10_column 10 = .ok (.iconst 3, 1) := by decide +kernel
theorem dX10_column_11 : decode cX10_column 11 = .ok (.invokestatic 96, 3) := by decide +kernel
theorem dX10_column_14 : decode cX10_column 14 = .ok (.ifCond .eq 20, 3) := by decide +kernel
theorem dX10_column_17 : decode cX10_column 17 = .ok (.aload_n 0, 1) := by decide +kernel
theorem dX10_column_18 : decode cX10_column 18 = .ok (.getfield 7, 3) := by decide +kernel
theorem dX10_column_21 : decode cX10_column 21 = .ok (.bipush 9, 2) := by decide +kernel
theorem dX10_column_23 : decode cX10_column 23 = .ok (.bipush 40, 2) := by decide +kernel
theorem dX10_column_25 : decode cX10_column 25 = .ok (.iload_n 2, 1) := by decide +kernel
theorem dX10_column_26 : decode cX10_column 26 = .ok (.imul, 1) := by decide +kernel
theorem dX10_column_27 : decode cX10_column 27 = .ok (.iadd, 1) := by decide +kernel
theorem dX10_column_28 : decode cX10_column 28 = .ok (.iload_n 1, 1) := by decide +kernel
theorem dX10_column_29 : decode cX10_column 29 = .ok (.iadd, 1) := by decide +kernel
theorem dX10_column_30 : decode cX10_column 30 = .ok (.iaload, 1) := by decide +kernel
theorem dX10_column_31 : decode cX10_column 31 = .ok (.goto 6, 3) := by decide +kernel
theorem dX10_column_34 : decode cX10_column 34 = .ok (.sipush (-1001), 3) := by decide +kernel
theorem dX10_column_37 : decode cX10_column 37 = .ok (.ireturn, 1) := by decide +kernel
theorem dX10_flips_0 : decode cX10_flips 0 = .ok (.aload_n 0, 1) := by decide +kernel
theorem dX10_flips_1 : decode cX10_flips 1 = .ok (.iload_n 1, 1) := by decide +kernel
theorem dX10_flips_2 : decode cX10_flips 2 = .ok (.iload_n 2, 1) := by decide +kernel
theorem dX10_flips_3 : decode cX10_flips 3 = .ok (.invokevirtual 148, 3) := by decide +kernel
theorem dX10_flips_6 : decode cX10_flips 6 = .ok (.ifCond .eq 21, 3) := by decide +kernel
theorem dX10_flips_9 : decode cX10_flips 9 = .ok (.aload_n 0, 1) := by decide +kernel
theorem dX10_flips_10 : decode cX10_flips 10 = .ok (.getfield 7, 3) := by decide +kernel
theorem dX10_flips_13 : decode cX10_flips 13 = .ok (.sipush 169, 3) := by decide +kernel
theorem dX10_flips_16 : decode cX10_flips 16 = .ok (.bipush 7, 2) := by decide +kernel
theorem dX10_flips_18 : decode cX10_flips 18 = .ok (.iload_n 1, 1) := by decide +kernel
theorem dX10_flips_19 : decode cX10_flips 19 = .ok (.imul, 1) := by decide +kernel
theorem dX10_flips_20 : decode cX10_flips 20 = .ok (.iadd, 1) := by decide +kernel
theorem dX10_flips_21 : decode cX10_flips 21 = .ok (.iload_n 2, 1) := by decide +kernel
theorem dX10_flips_22 : decode cX10_flips 22 = .ok (.iadd, 1) := by decide +kernel
theorem dX10_flips_23 : decode cX10_flips 23 = .ok (.iaload, 1) := by decide +kernel
theorem dX10_flips_24 : decode cX10_flips 24 = .ok (.goto 6, 3) := by decide +kernel
theorem dX10_flips_27 : decode cX10_flips 27 = .ok (.sipush (-1001), 3) := by decide +kernel
theorem dX10_flips_30 : decode cX10_flips 30 = .ok (.ireturn, 1) := by decide +kernel
theorem dX10_letter_0 : decode cX10_letter 0 = .ok (.iload_n 1, 1) := by decide +kernel
theorem dX10_letter_1 : decode cX10_letter 1 = .ok (.iconst 0, 1) := by decide +kernel
theorem dX10_letter_2 : decode cX10_letter 2 = .ok (.bipush 25, 2) := by decide +kernel
theorem dX10_letter_4 : decode cX10_letter 4 = .ok (.invokestatic 96, 3) := by decide +kernel
theorem dX10_letter_7 : decode cX10_letter 7 = .ok (.ifCond .eq 7, 3) := by decide +kernel
theorem dX10_letter_10 : decode cX10_letter 10 = .ok (.iload_n 2, 1) := by decide +kernel
theorem dX10_letter_11 : decode cX10_letter 11 = .ok (.ifCond .ge 7, 3) := by decide +kernel
theorem dX10_letter_14 : decode cX10_letter 14 = .ok (.sipush (-1001), 3) := by decide +kernel
theorem dX10_letter_17 : decode cX10_letter 17 = .ok (.ireturn, 1) := by decide +kernel
theorem dX10_letter_18 : decode cX10_letter 18 = .ok (.iload_n 2, 1) := by decide +kernel
theorem dX10_letter_19 : decode cX10_letter 19 = .ok (.aload_n 0, 1) := by decide +kernel
theorem dX10_letter_20 : decode cX10_letter 20 = .ok (.getfield 7, 3) := by decide +kernel
theorem dX10_letter_23 : decode cX10_letter 23 = .ok (.sipush 449, 3) := by decide +kernel
theorem dX10_letter_26 : decode cX10_letter 26 = .ok (.bipush 6, 2) := by decide +kernel
theorem dX10_letter_28 : decode cX10_letter 28 = .ok (.iload_n 1, 1) := by decide +kernel
theorem dX10_letter_29 : decode cX10_letter 29 = .ok (.imul, 1) := by decide +kernel
theorem dX10_letter_30 : decode cX10_letter 30 = .ok (.iadd, 1) := by decide +kernel
theorem dX10_letter_31 : decode cX10_letter 31 = .ok (.iaload, 1) := by decide +kernel
theorem dX10_letter_32 : decode cX10_letter 32 = .ok (.if_icmp .ge 23, 3) := by decide +kernel
theorem dX10_letter_35 : decode cX10_letter 35 = .ok (.aload_n 0, 1) := by decide +kernel
theorem dX10_letter_36 : decode cX10_letter 36 = .ok (.getfield 7, 3) := by decide +kernel
theorem dX10_letter_39 : decode cX10_letter 39 = .ok (.sipush 449, 3) := by decide +kernel
theorem dX10_letter_42 : decode cX10_letter 42 = .ok (.bipush 6, 2) := by decide +kernel
theorem dX10_letter_44 : decode cX10_letter 44 = .ok (.iload_n 1, 1) := by decide +kernel
theorem dX10_letter_45 : decode cX10_letter 45 = .ok (.imul, 1) := by decide +kernel
theorem dX10_letter_46 : decode cX10_letter 46 = .ok (.iadd, 1) := by decide +kernel
theorem dX10_letter_47 : decode cX10_letter 47 = .ok (.iconst 1, 1) := by decide +kernel
theorem dX10_letter_48 : decode cX10_letter 48 = .ok (.iadd, 1) := by decide +kernel
theorem dX10_letter_49 : decode cX10_letter 49 = .ok (.iload_n 2, 1) := by decide +kernel
theorem dX10_letter_50 : decode cX10_letter 50 = .ok (.iadd, 1) := by decide +kernel
theorem dX10_letter_51 : decode cX10_letter 51 = .ok (.iaload, 1) := by decide +kernel
theorem dX10_letter_52 : decode cX10_letter 52 = .ok (.goto 6, 3) := by decide +kernel
theorem dX10_letter_55 : decode cX10_letter 55 = .ok (.sipush (-1009), 3) := by decide +kernel
theorem dX10_letter_58 : decode cX10_letter 58 = .ok (.ireturn, 1) := by decide +kernel
theorem dX10_message_0 : decode cX10_message 0 = .ok (.aload_n 0, 1) := by decide +kernel
theorem dX10_message_1 : decode cX10_message 1 = .ok (.iload_n 1, 1) := by decide +kernel
theorem dX10_message_2 : decode cX10_message 2 = .ok (.invokevirtual 110, 3) := by decide +kernel
theorem dX10_message_5 : decode cX10_message 5 = .ok (.ifCond .eq 7, 3) := by decide +kernel
theorem dX10_message_8 : decode cX10_message 8 = .ok (.iload_n 2, 1) := by decide +kernel
theorem dX10_message_9 : decode cX10_message 9 = .ok (.ifCond .ge 7, 3) := by decide +kernel
theorem dX10_message_12 : decode cX10_message 12 = .ok (.sipush (-1001), 3) := by decide +kernel
theorem dX10_message_15 : decode cX10_message 15 = .ok (.ireturn, 1) := by decide +kernel
theorem dX10_message_16 : decode cX10_message 16 = .ok (.iload_n 2, 1) := by decide +kernel
theorem dX10_message_17 : decode cX10_message 17 = .ok (.aload_n 0, 1) := by decide +kernel
theorem dX10_message_18 : decode cX10_message 18 = .ok (.iload_n 1, 1) := by decide +kernel
theorem dX10_message_19 : decode cX10_message 19 = .ok (.invokevirtual 54, 3) := by decide +kernel
theorem dX10_message_22 : decode cX10_message 22 = .ok (.if_icmp .ge 12, 3) := by decide +kernel
theorem dX10_message_25 : decode cX10_message 25 = .ok (.aload_n 0, 1) := by decide +kernel
theorem dX10_message_26 : decode cX10_message 26 = .ok (.iload_n 1, 1) := by decide +kernel
theorem dX10_message_27 : decode cX10_message 27 = .ok (.iload_n 2, 1) := by decide +kernel
theorem dX10_message_28 : decode cX10_message 28 = .ok (.invokevirtual 58, 3) := by decide +kernel
theorem dX10_message_31 : decode cX10_message 31 = .ok (.goto 6, 3) := by decide +kernel
theorem dX10_message_34 : decode cX10_message 34 = .ok (.sipush (-1009), 3) := by decide +kernel
theorem dX10_message_37 : decode cX10_message 37 = .ok (.ireturn, 1) := by decide +kernel
theorem dX10_strip_0 : decode cX10_strip 0 = .ok (.aload_n 0, 1) := by decide +kernel
theorem dX10_strip_1 : decode cX10_strip 1 = .ok (.iload_n 1, 1) := by decide +kernel
theorem dX10_strip_2 : decode cX10_strip 2 = .ok (.invokevirtual 110, 3) := by decide +kernel
theorem dX10_strip_5 : decode cX10_strip 5 = .ok (.ifCond .eq 11, 3) := by decide +kernel
theorem dX10_strip_8 : decode cX10_strip 8 = .ok (.aload_n 0, 1) := by decide +kernel
theorem dX10_strip_9 : decode cX10_strip 9 = .ok (.iload_n 1, 1) := by decide +kernel
theorem dX10_strip_10 : decode cX10_strip 10 = .ok (.invokevirtual 65, 3) := by decide +kernel
theorem dX10_strip_13 : decode cX10_strip 13 = .ok (.goto 6, 3) := by decide +kernel
theorem dX10_strip_16 : decode cX10_strip 16 = .ok (.sipush (-1001), 3) := by decide +kernel
theorem dX10_strip_19 : decode cX10_strip 19 = .ok (.ireturn, 1) := by decide +kernel
theorem dX10_picture_0 : decode cX10_picture 0 = .ok (.aload_n 0, 1) := by decide +kernel
theorem dX10_picture_1 : decode cX10_picture 1 = .ok (.iload_n 1, 1) := by decide +kernel
theorem dX10_picture_2 : decode cX10_picture 2 = .ok (.invokevirtual 110, 3) := by decide +kernel
theorem dX10_picture_5 : decode cX10_picture 5 = .ok (.ifCond .eq 21, 3) := by decide +kernel
theorem dX10_picture_8 : decode cX10_picture 8 = .ok (.iload_n 2, 1) := by decide +kernel
theorem dX10_picture_9 : decode cX10_picture 9 = .ok (.bipush (-2), 2) := by decide +kernel
theorem dX10_picture_11 : decode cX10_picture 11 = .ok (.iconst 2, 1) := by decide +kernel
theorem dX10_picture_12 : decode cX10_picture 12 = .ok (.invokestatic 96, 3) := by decide +kernel
theorem dX10_picture_15 : decode cX10_picture 15 = .ok (.ifCond .eq 11, 3) := by decide +kernel
theorem dX10_picture_18 : decode cX10_picture 18 = .ok (.aload_n 0, 1) := by decide +kernel
theorem dX10_picture_19 : decode cX10_picture 19 = .ok (.iload_n 3, 1) := by decide +kernel
theorem dX10_picture_20 : decode cX10_picture 20 = .ok (.invokevirtual 68, 3) := by decide +kernel
theorem dX10_picture_23 : decode cX10_picture 23 = .ok (.ifCond .ne 7, 3) := by decide +kernel
theorem dX10_picture_26 : decode cX10_picture 26 = .ok (.sipush (-1001), 3) := by decide +kernel
theorem dX10_picture_29 : decode cX10_picture 29 = .ok (.ireturn, 1) := by decide +kernel
theorem dX10_picture_30 : decode cX10_picture 30 = .ok (.aload_n 0, 1) := by decide +kernel
theorem dX10_picture_31 : decode cX10_picture 31 = .ok (.iload_n 1, 1) := by decide +kernel
theorem dX10_picture_32 : decode cX10_picture 32 = .ok (.iload_n 2, 1) := by decide +kernel
theorem dX10_picture_33 : decode cX10_picture 33 = .ok (.aload_n 0, 1) := by decide +kernel
theorem dX10_picture_34 : decode cX10_picture 34 = .ok (.getfield 25, 3) := by decide +kernel
theorem dX10_picture_37 : decode cX10_picture 37 = .ok (.invokevirtual 75, 3) := by decide +kernel
theorem dX10_picture_40 : decode cX10_picture 40 = .ok (.aload_n 0, 1) := by decide +kernel
theorem dX10_picture_41 : decode cX10_picture 41 = .ok (.getfield 25, 3) := by decide +kernel
theorem dX10_picture_44 : decode cX10_picture 44 = .ok (.iload_n 3, 1) := by decide +kernel
theorem dX10_picture_45 : decode cX10_picture 45 = .ok (.iaload, 1) := by decide +kernel
theorem dX10_picture_46 : decode cX10_picture 46 = .ok (.ireturn, 1) := by decide +kernel
theorem dX10_power_0 : decode cX10_power 0 = .ok (.iload_n 1, 1) := by decide +kernel
theorem dX10_power_1 : decode cX10_power 1 = .ok (.iconst 1, 1) := by decide +kernel
theorem dX10_power_2 : decode cX10_power 2 = .ok (.bipush 20, 2) := by decide +kernel
theorem dX10_power_4 : decode cX10_power 4 = .ok (.invokestatic 96, 3) := by decide +kernel
theorem dX10_power_7 : decode cX10_power 7 = .ok (.ifCond .ne 7, 3) := by decide +kernel
theorem dX10_power_10 : decode cX10_power 10 = .ok (.sipush (-1001), 3) := by decide +kernel
theorem dX10_power_13 : decode cX10_power 13 = .ok (.ireturn, 1) := by decide +kernel
theorem dX10_power_14 : decode cX10_power 14 = .ok (.iload_n 1, 1) := by decide +kernel
theorem dX10_power_15 : decode cX10_power 15 = .ok (.aload_n 0, 1) := by decide +kernel
theorem dX10_power_16 : decode cX10_power 16 = .ok (.getfield 7, 3) := by decide +kernel
theorem dX10_power_19 : decode cX10_power 19 = .ok (.bipush 8, 2) := by decide +kernel
theorem dX10_power_21 : decode cX10_power 21 = .ok (.iaload, 1) := by decide +kernel
theorem dX10_power_22 : decode cX10_power 22 = .ok (.if_icmp .le 9, 3) := by decide +kernel
theorem dX10_power_25 : decode cX10_power 25 = .ok (.sipush (-1009), 3) := by decide +kernel
theorem dX10_power_28 : decode cX10_power 28 = .ok (.goto 15, 3) := by decide +kernel
theorem dX10_power_31 : decode cX10_power 31 = .ok (.aload_n 0, 1) := by decide +kernel
theorem dX10_power_32 : decode cX10_power 32 = .ok (.getfield 7, 3) := by decide +kernel
theorem dX10_power_35 : decode cX10_power 35 = .ok (.sipush 709, 3) := by decide +kernel
theorem dX10_power_38 : decode cX10_power 38 = .ok (.iload_n 1, 1) := by decide +kernel
theorem dX10_power_39 : decode cX10_power 39 = .ok (.iadd, 1) := by decide +kernel
theorem dX10_power_40 : decode cX10_power 40 = .ok (.iconst 1, 1) := by decide +kernel
theorem dX10_power_41 : decode cX10_power 41 = .ok (.isub, 1) := by decide +kernel
theorem dX10_power_42 : decode cX10_power 42 = .ok (.iaload, 1) := by decide +kernel
theorem dX10_power_43 : decode cX10_power 43 = .ok (.ireturn, 1) := by decide +kernel
theorem dX10_bestShift_0 : decode cX10_bestShift 0 = .ok (.aload_n 0, 1) := by decide +kernel
theorem dX10_bestShift_1 : decode cX10_bestShift 1 = .ok (.iload_n 1, 1) := by decide +kernel
theorem dX10_bestShift_2 : decode cX10_bestShift 2 = .ok (.invokevirtual 110, 3) := by decide +kernel
theorem dX10_bestShift_5 : decode cX10_bestShift 5 = .ok (.ifCond .eq 11, 3) := by decide +kernel
theorem dX10_bestShift_8 : decode cX10_bestShift 8 = .ok (.aload_n 0, 1) := by decide +kernel
theorem dX10_bestShift_9 : decode cX10_bestShift 9 = .ok (.iload_n 1, 1) := by decide +kernel
theorem dX10_bestShift_10 : decode cX10_bestShift 10 = .ok (.invokevirtual 83, 3) := by decide +kernel
theorem dX10_bestShift_13 : decode cX10_bestShift 13 = .ok (.goto 6, 3) := by decide +kernel
theorem dX10_bestShift_16 : decode cX10_bestShift 16 = .ok (.sipush (-1001), 3) := by decide +kernel
theorem dX10_bestShift_19 : decode cX10_bestShift 19 = .ok (.ireturn, 1) := by decide +kernel
theorem dX10_due_0 : decode cX10_due 0 = .ok (.aload_n 0, 1) := by decide +kernel
theorem dX10_due_1 : decode cX10_due 1 = .ok (.iload_n 1, 1) := by decide +kernel
theorem dX10_due_2 : decode cX10_due 2 = .ok (.iload_n 2, 1) := by decide +kernel
theorem dX10_due_3 : decode cX10_due 3 = .ok (.invokevirtual 139, 3) := by decide +kernel
theorem dX10_due_6 : decode cX10_due 6 = .ok (.ifCond .ne 7, 3) := by decide +kernel
theorem dX10_due_9 : decode cX10_due 9 = .ok (.sipush (-1001), 3) := by decide +kernel
theorem dX10_due_12 : decode cX10_due 12 = .ok (.ireturn, 1) := by decide +kernel
theorem dX10_due_13 : decode cX10_due 13 = .ok (.aload_n 0, 1) := by decide +kernel
theorem dX10_due_14 : decode cX10_due 14 = .ok (.iload_n 1, 1) := by decide +kernel
theorem dX10_due_15 : decode cX10_due 15 = .ok (.aload_n 0, 1) := by decide +kernel
theorem dX10_due_16 : decode cX10_due 16 = .ok (.iload_n 1, 1) := by decide +kernel
theorem dX10_due_17 : decode cX10_due 17 = .ok (.iload_n 2, 1) := by decide +kernel
theorem dX10_due_18 : decode cX10_due 18 = .ok (.invokevirtual 136, 3) := by decide +kernel
theorem dX10_due_21 : decode cX10_due 21 = .ok (.aload_n 0, 1) := by decide +kernel
theorem dX10_due_22 : decode cX10_due 22 = .ok (.getfield 25, 3) := by decide +kernel
theorem dX10_due_25 : decode cX10_due 25 = .ok (.invokevirtual 75, 3) := by decide +kernel
theorem dX10_due_28 : decode cX10_due 28 = .ok (.aload_n 0, 1) := by decide +kernel
theorem dX10_due_29 : decode cX10_due 29 = .ok (.aload_n 0, 1) := by decide +kernel
theorem dX10_due_30 : decode cX10_due 30 = .ok (.getfield 7, 3) := by decide +kernel
theorem dX10_due_33 : decode cX10_due 33 = .ok (.bipush 9, 2) := by decide +kernel
theorem dX10_due_35 : decode cX10_due 35 = .ok (.aload_n 0, 1) := by decide +kernel
theorem dX10_due_36 : decode cX10_due 36 = .ok (.getfield 25, 3) := by decide +kernel
theorem dX10_due_39 : decode cX10_due 39 = .ok (.iconst 0, 1) := by decide +kernel
theorem dX10_due_40 : decode cX10_due 40 = .ok (.invokevirtual 79, 3) := by decide +kernel
theorem dX10_due_43 : decode cX10_due 43 = .ok (.ireturn, 1) := by decide +kernel
theorem dX10_secondsFor_0 : decode cX10_secondsFor 0 = .ok (.aload_n 0, 1) := by decide +kernel
theorem dX10_secondsFor_1 : decode cX10_secondsFor 1 = .ok (.iload_n 1, 1) := by decide +kernel
theorem dX10_secondsFor_2 : decode cX10_secondsFor 2 = .ok (.iload_n 2, 1) := by decide +kernel
theorem dX10_secondsFor_3 : decode cX10_secondsFor 3 = .ok (.invokevirtual 139, 3) := by decide +kernel
theorem dX10_secondsFor_6 : decode cX10_secondsFor 6 = .ok (.ifCond .ne 7, 3) := by decide +kernel
theorem dX10_secondsFor_9 : decode cX10_secondsFor 9 = .ok (.sipush (-1001), 3) := by decide +kernel
theorem dX10_secondsFor_12 : decode cX10_secondsFor 12 = .ok (.ireturn, 1) := by decide +kernel
theorem dX10_secondsFor_13 : decode cX10_secondsFor 13 = .ok (.aload_n 0, 1) := by decide +kernel
theorem dX10_secondsFor_14 : decode cX10_secondsFor 14 = .ok (.getfield 19, 3) := by decide +kernel
theorem dX10_secondsFor_17 : decode cX10_secondsFor 17 = .ok (.aload_n 0, 1) := by decide +kernel
theorem dX10_secondsFor_18 : decode cX10_secondsFor 18 = .ok (.getfield 7, 3) := by decide +kernel
theorem dX10_secondsFor_21 : decode cX10_secondsFor 21 = .ok (.invokestatic 46, 3) := by decide +kernel
theorem dX10_secondsFor_24 : decode cX10_secondsFor 24 = .ok (.aload_n 0, 1) := by decide +kernel
theorem dX10_secondsFor_25 : decode cX10_secondsFor 25 = .ok (.iload_n 1, 1) := by decide +kernel
theorem dX10_secondsFor_26 : decode cX10_secondsFor 26 = .ok (.iload_n 2, 1) := by decide +kernel
theorem dX10_secondsFor_27 : decode cX10_secondsFor 27 = .ok (.invokevirtual 142, 3) := by decide +kernel
theorem dX10_secondsFor_30 : decode cX10_secondsFor 30 = .ok (.iconst 0, 1) := by decide +kernel
theorem dX10_secondsFor_31 : decode cX10_secondsFor 31 = .ok (.istore_n 3, 1) := by decide +kernel
theorem dX10_secondsFor_32 : decode cX10_secondsFor 32 = .ok (.iload_n 3, 1) := by decide +kernel
theorem dX10_secondsFor_33 : decode cX10_secondsFor 33 = .ok (.sipush 300, 3) := by decide +kernel
theorem dX10_secondsFor_36 : decode cX10_secondsFor 36 = .ok (.if_icmp .ge 20, 3) := by decide +kernel
theorem dX10_secondsFor_39 : decode cX10_secondsFor 39 = .ok (.aload_n 0, 1) := by decide +kernel
theorem dX10_secondsFor_40 : decode cX10_secondsFor 40 = .ok (.invokevirtual 145, 3) := by decide +kernel
theorem dX10_secondsFor_43 : decode cX10_secondsFor 43 = .ok (.ifCond .le 13, 3) := by decide +kernel
theorem dX10_secondsFor_46 : decode cX10_secondsFor 46 = .ok (.aload_n 0, 1) := by decide +kernel
theorem dX10_secondsFor_47 : decode cX10_secondsFor 47 = .ok (.invokevirtual 151, 3) := by decide +kernel
theorem dX10_secondsFor_50 : decode cX10_secondsFor 50 = .ok (.iinc 3 1, 3) := by decide +kernel
theorem dX10_secondsFor_53 : decode cX10_secondsFor 53 = .ok (.goto (-21), 3) := by decide +kernel
theorem dX10_secondsFor_56 : decode cX10_secondsFor 56 = .ok (.aload_n 0, 1) := by decide +kernel
theorem dX10_secondsFor_57 : decode cX10_secondsFor 57 = .ok (.invokevirtual 145, 3) := by decide +kernel
theorem dX10_secondsFor_60 : decode cX10_secondsFor 60 = .ok (.ifCond .ne 7, 3) := by decide +kernel
theorem dX10_secondsFor_63 : decode cX10_secondsFor 63 = .ok (.iconst 1, 1) := by decide +kernel
theorem dX10_secondsFor_64 : decode cX10_secondsFor 64 = .ok (.goto 4, 3) := by decide +kernel
theorem dX10_secondsFor_67 : decode cX10_secondsFor 67 = .ok (.iconst 0, 1) := by decide +kernel
theorem dX10_secondsFor_68 : decode cX10_secondsFor 68 = .ok (.istore 4, 2) := by decide +kernel
theorem dX10_secondsFor_70 : decode cX10_secondsFor 70 = .ok (.aload_n 0, 1) := by decide +kernel
theorem dX10_secondsFor_71 : decode cX10_secondsFor 71 = .ok (.getfield 7, 3) := by decide +kernel
theorem dX10_secondsFor_74 : decode cX10_secondsFor 74 = .ok (.aload_n 0, 1) := by decide +kernel
theorem dX10_secondsFor_75 : decode cX10_secondsFor 75 = .ok (.getfield 19, 3) := by decide +kernel
theorem dX10_secondsFor_78 : decode cX10_secondsFor 78 = .ok (.invokestatic 46, 3) := by decide +kernel
theorem dX10_secondsFor_81 : decode cX10_secondsFor 81 = .ok (.iload 4, 2) := by decide +kernel
theorem dX10_secondsFor_83 : decode cX10_secondsFor 83 = .ok (.ifCond .eq 7, 3) := by decide +kernel
theorem dX10_secondsFor_86 : decode cX10_secondsFor 86 = .ok (.iload_n 3, 1) := by decide +kernel
theorem dX10_secondsFor_87 : decode cX10_secondsFor 87 = .ok (.goto 6, 3) := by decide +kernel
theorem dX10_secondsFor_90 : decode cX10_secondsFor 90 = .ok (.sipush (-1009), 3) := by decide +kernel
theorem dX10_secondsFor_93 : decode cX10_secondsFor 93 = .ok (.ireturn, 1) := by decide +kernel
theorem dX10_betweenOf_0 : decode cX10_betweenOf 0 = .ok (.aload_n 0, 1) := by decide +kernel
theorem dX10_betweenOf_1 : decode cX10_betweenOf 1 = .ok (.iload_n 1, 1) := by decide +kernel
theorem dX10_betweenOf_2 : decode cX10_betweenOf 2 = .ok (.iconst 0, 1) := by decide +kernel
theorem dX10_betweenOf_3 : decode cX10_betweenOf 3 = .ok (.aload_n 0, 1) := by decide +kernel
theorem dX10_betweenOf_4 : decode cX10_betweenOf 4 = .ok (.getfield 28, 3) := by decide +kernel
theorem dX10_betweenOf_7 : decode cX10_betweenOf 7 = .ok (.invokevirtual 75, 3) := by decide +kernel
theorem dX10_betweenOf_10 : decode cX10_betweenOf 10 = .ok (.aload_n 0, 1) := by decide +kernel
theorem dX10_betweenOf_11 : decode cX10_betweenOf 11 = .ok (.iload_n 2, 1) := by decide +kernel
theorem dX10_betweenOf_12 : decode cX10_betweenOf 12 = .ok (.iconst 0, 1) := by decide +kernel
theorem dX10_betweenOf_13 : decode cX10_betweenOf 13 = .ok (.aload_n 0, 1) := by decide +kernel
theorem dX10_betweenOf_14 : decode cX10_betweenOf 14 = .ok (.getfield 25, 3) := by decide +kernel
theorem dX10_betweenOf_17 : decode cX10_betweenOf 17 = .ok (.invokevirtual 75, 3) := by decide +kernel
theorem dX10_betweenOf_20 : decode cX10_betweenOf 20 = .ok (.aload_n 0, 1) := by decide +kernel
theorem dX10_betweenOf_21 : decode cX10_betweenOf 21 = .ok (.aload_n 0, 1) := by decide +kernel
theorem dX10_betweenOf_22 : decode cX10_betweenOf 22 = .ok (.getfield 28, 3) := by decide +kernel
theorem dX10_betweenOf_25 : decode cX10_betweenOf 25 = .ok (.iconst 0, 1) := by decide +kernel
theorem dX10_betweenOf_26 : decode cX10_betweenOf 26 = .ok (.aload_n 0, 1) := by decide +kernel
theorem dX10_betweenOf_27 : decode cX10_betweenOf 27 = .ok (.getfield 25, 3) := by decide +kernel
theorem dX10_betweenOf_30 : decode cX10_betweenOf 30 = .ok (.iconst 0, 1) := by decide +kernel
theorem dX10_betweenOf_31 : decode cX10_betweenOf 31 = .ok (.invokevirtual 79, 3) := by decide +kernel
theorem dX10_betweenOf_34 : decode cX10_betweenOf 34 = .ok (.ireturn, 1) := by decide +kernel
theorem dX10_between_0 : decode cX10_between 0 = .ok (.aload_n 0, 1) := by decide +kernel
theorem dX10_between_1 : decode cX10_between 1 = .ok (.iload_n 1, 1) := by decide +kernel
theorem dX10_between_2 : decode cX10_between 2 = .ok (.invokevirtual 110, 3) := by decide +kernel
theorem dX10_between_5 : decode cX10_between 5 = .ok (.ifCond .eq 20, 3) := by decide +kernel
theorem dX10_between_8 : decode cX10_between 8 = .ok (.aload_n 0, 1) := by decide +kernel
theorem dX10_between_9 : decode cX10_between 9 = .ok (.iload_n 2, 1) := by decide +kernel
theorem dX10_between_10 : decode cX10_between 10 = .ok (.invokevirtual 110, 3) := by decide +kernel
theorem dX10_between_13 : decode cX10_between 13 = .ok (.ifCond .eq 12, 3) := by decide +kernel
theorem dX10_between_16 : decode cX10_between 16 = .ok (.aload_n 0, 1) := by decide +kernel
theorem dX10_between_17 : decode cX10_between 17 = .ok (.iload_n 1, 1) := by decide +kernel
theorem dX10_between_18 : decode cX10_between 18 = .ok (.iload_n 2, 1) := by decide +kernel
theorem dX10_between_19 : decode cX10_between 19 = .ok (.invokevirtual 160, 3) := by decide +kernel
theorem dX10_between_22 : decode cX10_between 22 = .ok (.goto 6, 3) := by decide +kernel
theorem dX10_between_25 : decode cX10_between 25 = .ok (.sipush (-1001), 3) := by decide +kernel
theorem dX10_between_28 : decode cX10_between 28 = .ok (.ireturn, 1) := by decide +kernel
theorem dX10_flipsFor_0 : decode cX10_flipsFor 0 = .ok (.aload_n 0, 1) := by decide +kernel
theorem dX10_flipsFor_1 : decode cX10_flipsFor 1 = .ok (.getfield 40, 3) := by decide +kernel
theorem dX10_flipsFor_4 : decode cX10_flipsFor 4 = .ok (.aload_n 0, 1) := by decide +kernel
theorem dX10_flipsFor_5 : decode cX10_flipsFor 5 = .ok (.getfield 34, 3) := by decide +kernel
theorem dX10_flipsFor_8 : decode cX10_flipsFor 8 = .ok (.iconst 0, 1) := by decide +kernel
theorem dX10_flipsFor_9 : decode cX10_flipsFor 9 = .ok (.iaload, 1) := by decide +kernel
theorem dX10_flipsFor_10 : decode cX10_flipsFor 10 = .ok (.iaload, 1) := by decide +kernel
theorem dX10_flipsFor_11 : decode cX10_flipsFor 11 = .ok (.istore_n 1, 1) := by decide +kernel
theorem dX10_flipsFor_12 : decode cX10_flipsFor 12 = .ok (.iconst 1, 1) := by decide +kernel
theorem dX10_flipsFor_13 : decode cX10_flipsFor 13 = .ok (.istore_n 2, 1) := by decide +kernel
theorem dX10_flipsFor_14 : decode cX10_flipsFor 14 = .ok (.iload_n 2, 1) := by decide +kernel
theorem dX10_flipsFor_15 : decode cX10_flipsFor 15 = .ok (.aload_n 0, 1) := by decide +kernel
theorem dX10_flipsFor_16 : decode cX10_flipsFor 16 = .ok (.getfield 163, 3) := by decide +kernel
theorem dX10_flipsFor_19 : decode cX10_flipsFor 19 = .ok (.if_icmp .ge 35, 3) := by decide +kernel
theorem dX10_flipsFor_22 : decode cX10_flipsFor 22 = .ok (.iload_n 1, 1) := by decide +kernel
theorem dX10_flipsFor_23 : decode cX10_flipsFor 23 = .ok (.aload_n 0, 1) := by decide +kernel
theorem dX10_flipsFor_24 : decode cX10_flipsFor 24 = .ok (.getfield 43, 3) := by decide +kernel
theorem dX10_flipsFor_27 : decode cX10_flipsFor 27 = .ok (.bipush 8, 2) := by decide +kernel
theorem dX10_flipsFor_29 : decode cX10_flipsFor 29 = .ok (.aload_n 0, 1) := by decide +kernel
theorem dX10_flipsFor_30 : decode cX10_flipsFor 30 = .ok (.getfield 34, 3) := by decide +kernel
theorem dX10_flipsFor_33 : decode cX10_flipsFor 33 = .ok (.iload_n 2, 1) := by decide +kernel
theorem dX10_flipsFor_34 : decode cX10_flipsFor 34 = .ok (.iconst 1, 1) := by decide +kernel
theorem dX10_flipsFor_35 : decode cX10_flipsFor 35 = .ok (.isub, 1) := by decide +kernel
theorem dX10_flipsFor_36 : decode cX10_flipsFor 36 = .ok (.iaload, 1) := by decide +kernel
theorem dX10_flipsFor_37 : decode cX10_flipsFor 37 = .ok (.imul, 1) := by decide +kernel
theorem dX10_flipsFor_38 : decode cX10_flipsFor 38 = .ok (.aload_n 0, 1) := by decide +kernel
theorem dX10_flipsFor_39 : decode cX10_flipsFor 39 = .ok (.getfield 34, 3) := by decide +kernel
theorem dX10_flipsFor_42 : decode cX10_flipsFor 42 = .ok (.iload_n 2, 1) := by decide +kernel
theorem dX10_flipsFor_43 : decode cX10_flipsFor 43 = .ok (.iaload, 1) := by decide +kernel
theorem dX10_flipsFor_44 : decode cX10_flipsFor 44 = .ok (.iadd, 1) := by decide +kernel
theorem dX10_flipsFor_45 : decode cX10_flipsFor 45 = .ok (.iaload, 1) := by decide +kernel
theorem dX10_flipsFor_46 : decode cX10_flipsFor 46 = .ok (.iadd, 1) := by decide +kernel
theorem dX10_flipsFor_47 : decode cX10_flipsFor 47 = .ok (.istore_n 1, 1) := by decide +kernel
theorem dX10_flipsFor_48 : decode cX10_flipsFor 48 = .ok (.iinc 2 1, 3) := by decide +kernel
theorem dX10_flipsFor_51 : decode cX10_flipsFor 51 = .ok (.goto (-37), 3) := by decide +kernel
theorem dX10_flipsFor_54 : decode cX10_flipsFor 54 = .ok (.iload_n 1, 1) := by decide +kernel
theorem dX10_flipsFor_55 : decode cX10_flipsFor 55 = .ok (.ireturn, 1) := by decide +kernel
theorem dX10_swaps_0 : decode cX10_swaps 0 = .ok (.aload_n 0, 1) := by decide +kernel
theorem dX10_swaps_1 : decode cX10_swaps 1 = .ok (.getfield 34, 3) := by decide +kernel
theorem dX10_swaps_4 : decode cX10_swaps 4 = .ok (.iload_n 1, 1) := by decide +kernel
theorem dX10_swaps_5 : decode cX10_swaps 5 = .ok (.iaload, 1) := by decide +kernel
theorem dX10_swaps_6 : decode cX10_swaps 6 = .ok (.istore_n 3, 1) := by decide +kernel
theorem dX10_swaps_7 : decode cX10_swaps 7 = .ok (.aload_n 0, 1) := by decide +kernel
theorem dX10_swaps_8 : decode cX10_swaps 8 = .ok (.getfield 34, 3) := by decide +kernel
theorem dX10_swaps_11 : decode cX10_swaps 11 = .ok (.iload_n 1, 1) := by decide +kernel
theorem dX10_swaps_12 : decode cX10_swaps 12 = .ok (.aload_n 0, 1) := by decide +kernel
theorem dX10_swaps_13 : decode cX10_swaps 13 = .ok (.getfield 34, 3) := by decide +kernel
theorem dX10_swaps_16 : decode cX10_swaps 16 = .ok (.iload_n 2, 1) := by decide +kernel
theorem dX10_swaps_17 : decode cX10_swaps 17 = .ok (.iaload, 1) := by decide +kernel
theorem dX10_swaps_18 : decode cX10_swaps 18 = .ok (.iastore, 1) := by decide +kernel
theorem dX10_swaps_19 : decode cX10_swaps 19 = .ok (.aload_n 0, 1) := by decide +kernel
theorem dX10_swaps_20 : decode cX10_swaps 20 = .ok (.getfield 34, 3) := by decide +kernel
theorem dX10_swaps_23 : decode cX10_swaps 23 = .ok (.iload_n 2, 1) := by decide +kernel
theorem dX10_swaps_24 : decode cX10_swaps 24 = .ok (.iload_n 3, 1) := by decide +kernel
theorem dX10_swaps_25 : decode cX10_swaps 25 = .ok (.iastore, 1) := by decide +kernel
theorem dX10_swaps_26 : decode cX10_swaps 26 = .ok (.return_, 1) := by decide +kernel
theorem dX10_goesOn_0 : decode cX10_goesOn 0 = .ok (.aload_n 0, 1) := by decide +kernel
theorem dX10_goesOn_1 : decode cX10_goesOn 1 = .ok (.getfield 163, 3) := by decide +kernel
theorem dX10_goesOn_4 : decode cX10_goesOn 4 = .ok (.iconst 2, 1) := by decide +kernel
theorem dX10_goesOn_5 : decode cX10_goesOn 5 = .ok (.isub, 1) := by decide +kernel
theorem dX10_goesOn_6 : decode cX10_goesOn 6 = .ok (.istore_n 1, 1) := by decide +kernel
theorem dX10_goesOn_7 : decode cX10_goesOn 7 = .ok (.iload_n 1, 1) := by decide +kernel
theorem dX10_goesOn_8 : decode cX10_goesOn 8 = .ok (.ifCond .lt 26, 3) := by decide +kernel
theorem dX10_goesOn_11 : decode cX10_goesOn 11 = .ok (.aload_n 0, 1) := by decide +kernel
theorem dX10_goesOn_12 : decode cX10_goesOn 12 = .ok (.getfield 34, 3) := by decide +kernel
theorem dX10_goesOn_15 : decode cX10_goesOn 15 = .ok (.iload_n 1, 1) := by decide +kernel
theorem dX10_goesOn_16 : decode cX10_goesOn 16 = .ok (.iaload, 1) := by decide +kernel
theorem dX10_goesOn_17 : decode cX10_goesOn 17 = .ok (.aload_n 0, 1) := by decide +kernel
theorem dX10_goesOn_18 : decode cX10_goesOn 18 = .ok (.getfield 34, 3) := by decide +kernel
theorem dX10_goesOn_21 : decode cX10_goesOn 21 = .ok (.iload_n 1, 1) := by decide +kernel
theorem dX10_goesOn_22 : decode cX10_goesOn 22 = .ok (.iconst 1, 1) := by decide +kernel
theorem dX10_goesOn_23 : decode cX10_goesOn 23 = .ok (.iadd, 1) := by decide +kernel
theorem dX10_goesOn_24 : decode cX10_goesOn 24 = .ok (.iaload, 1) := by decide +kernel
theorem dX10_goesOn_25 : decode cX10_goesOn 25 = .ok (.if_icmp .le 9, 3) := by decide +kernel
theorem dX10_goesOn_28 : decode cX10_goesOn 28 = .ok (.iinc 1 (-1), 3) := by decide +kernel
theorem dX10_goesOn_31 : decode cX10_goesOn 31 = .ok (.goto (-24), 3) := by decide +kernel
theorem dX10_goesOn_34 : decode cX10_goesOn 34 = .ok (.iload_n 1, 1) := by decide +kernel
theorem dX10_goesOn_35 : decode cX10_goesOn 35 = .ok (.ifCond .ge 5, 3) := by decide +kernel
theorem dX10_goesOn_38 : decode cX10_goesOn 38 = .ok (.iconst 0, 1) := by decide +kernel
theorem dX10_goesOn_39 : decode cX10_goesOn 39 = .ok (.ireturn, 1) := by decide +kernel
theorem dX10_goesOn_40 : decode cX10_goesOn 40 = .ok (.aload_n 0, 1) := by decide +kernel
theorem dX10_goesOn_41 : decode cX10_goesOn 41 = .ok (.getfield 163, 3) := by decide +kernel
theorem dX10_goesOn_44 : decode cX10_goesOn 44 = .ok (.iconst 1, 1) := by decide +kernel
theorem dX10_goesOn_45 : decode cX10_goesOn 45 = .ok (.isub, 1) := by decide +kernel
theorem dX10_goesOn_46 : decode cX10_goesOn 46 = .ok (.istore_n 2, 1) := by decide +kernel
theorem dX10_goesOn_47 : decode cX10_goesOn 47 = .ok (.aload_n 0, 1) := by decide +kernel
theorem dX10_goesOn_48 : decode cX10_goesOn 48 = .ok (.getfield 34, 3) := by decide +kernel
theorem dX10_goesOn_51 : decode cX10_goesOn 51 = .ok (.iload_n 2, 1) := by decide +kernel
theorem dX10_goesOn_52 : decode cX10_goesOn 52 = .ok (.iaload, 1) := by decide +kernel
theorem dX10_goesOn_53 : decode cX10_goesOn 53 = .ok (.aload_n 0, 1) := by decide +kernel
theorem dX10_goesOn_54 : decode cX10_goesOn 54 = .ok (.getfield 34, 3) := by decide +kernel
theorem dX10_goesOn_57 : decode cX10_goesOn 57 = .ok (.iload_n 1, 1) := by decide +kernel
theorem dX10_goesOn_58 : decode cX10_goesOn 58 = .ok (.iaload, 1) := by decide +kernel
theorem dX10_goesOn_59 : decode cX10_goesOn 59 = .ok (.if_icmp .ge 9, 3) := by decide +kernel
theorem dX10_goesOn_62 : decode cX10_goesOn 62 = .ok (.iinc 2 (-1), 3) := by decide +kernel
theorem dX10_goesOn_65 : decode cX10_goesOn 65 = .ok (.goto (-18), 3) := by decide +kernel
theorem dX10_goesOn_68 : decode cX10_goesOn 68 = .ok (.aload_n 0, 1) := by decide +kernel
theorem dX10_goesOn_69 : decode cX10_goesOn 69 = .ok (.iload_n 1, 1) := by decide +kernel
theorem dX10_goesOn_70 : decode cX10_goesOn 70 = .ok (.iload_n 2, 1) := by decide +kernel
theorem dX10_goesOn_71 : decode cX10_goesOn 71 = .ok (.invokevirtual 166, 3) := by decide +kernel
theorem dX10_goesOn_74 : decode cX10_goesOn 74 = .ok (.iload_n 1, 1) := by decide +kernel
theorem dX10_goesOn_75 : decode cX10_goesOn 75 = .ok (.iconst 1, 1) := by decide +kernel
theorem dX10_goesOn_76 : decode cX10_goesOn 76 = .ok (.iadd, 1) := by decide +kernel
theorem dX10_goesOn_77 : decode cX10_goesOn 77 = .ok (.istore_n 3, 1) := by decide +kernel
theorem dX10_goesOn_78 : decode cX10_goesOn 78 = .ok (.aload_n 0, 1) := by decide +kernel
theorem dX10_goesOn_79 : decode cX10_goesOn 79 = .ok (.getfield 163, 3) := by decide +kernel
theorem dX10_goesOn_82 : decode cX10_goesOn 82 = .ok (.iconst 1, 1) := by decide +kernel
theorem dX10_goesOn_83 : decode cX10_goesOn 83 = .ok (.isub, 1) := by decide +kernel
theorem dX10_goesOn_84 : decode cX10_goesOn 84 = .ok (.istore 4, 2) := by decide +kernel
theorem dX10_goesOn_86 : decode cX10_goesOn 86 = .ok (.iload_n 3, 1) := by decide +kernel
theorem dX10_goesOn_87 : decode cX10_goesOn 87 = .ok (.iload 4, 2) := by decide +kernel
theorem dX10_goesOn_89 : decode cX10_goesOn 89 = .ok (.if_icmp .ge 19, 3) := by decide +kernel
theorem dX10_goesOn_92 : decode cX10_goesOn 92 = .ok (.aload_n 0, 1) := by decide +kernel
theorem dX10_goesOn_93 : decode cX10_goesOn 93 = .ok (.iload_n 3, 1) := by decide +kernel
theorem dX10_goesOn_94 : decode cX10_goesOn 94 = .ok (.iload 4, 2) := by decide +kernel
theorem dX10_goesOn_96 : decode cX10_goesOn 96 = .ok (.invokevirtual 166, 3) := by decide +kernel
theorem dX10_goesOn_99 : decode cX10_goesOn 99 = .ok (.iinc 3 1, 3) := by decide +kernel
theorem dX10_goesOn_102 : decode cX10_goesOn 102 = .ok (.iinc 4 (-1), 3) := by decide +kernel
theorem dX10_goesOn_105 : decode cX10_goesOn 105 = .ok (.goto (-19), 3) := by decide +kernel
theorem dX10_goesOn_108 : decode cX10_goesOn 108 = .ok (.iconst 1, 1) := by decide +kernel
theorem dX10_goesOn_109 : decode cX10_goesOn 109 = .ok (.ireturn, 1) := by decide +kernel
theorem dX10_laysFlips_0 : decode cX10_laysFlips 0 = .ok (.iconst 0, 1) := by decide +kernel
theorem dX10_laysFlips_1 : decode cX10_laysFlips 1 = .ok (.istore_n 1, 1) := by decide +kernel
theorem dX10_laysFlips_2 : decode cX10_laysFlips 2 = .ok (.iload_n 1, 1) := by decide +kernel
theorem dX10_laysFlips_3 : decode cX10_laysFlips 3 = .ok (.aload_n 0, 1) := by decide +kernel
theorem dX10_laysFlips_4 : decode cX10_laysFlips 4 = .ok (.getfield 7, 3) := by decide +kernel
theorem dX10_laysFlips_7 : decode cX10_laysFlips 7 = .ok (.iconst 4, 1) := by decide +kernel
theorem dX10_laysFlips_8 : decode cX10_laysFlips 8 = .ok (.iaload, 1) := by decide +kernel
theorem dX10_laysFlips_9 : decode cX10_laysFlips 9 = .ok (.if_icmp .ge 75, 3) := by decide +kernel
theorem dX10_laysFlips_12 : decode cX10_laysFlips 12 = .ok (.aload_n 0, 1) := by decide +kernel
theorem dX10_laysFlips_13 : decode cX10_laysFlips 13 = .ok (.iload_n 1, 1) := by decide +kernel
theorem dX10_laysFlips_14 : decode cX10_laysFlips 14 = .ok (.iconst 0, 1) := by decide +kernel
theorem dX10_laysFlips_15 : decode cX10_laysFlips 15 = .ok (.aload_n 0, 1) := by decide +kernel
theorem dX10_laysFlips_16 : decode cX10_laysFlips 16 = .ok (.getfield 25, 3) := by decide +kernel
theorem dX10_laysFlips_19 : decode cX10_laysFlips 19 = .ok (.invokevirtual 75, 3) := by decide +kernel
theorem dX10_laysFlips_22 : decode cX10_laysFlips 22 = .ok (.aload_n 0, 1) := by decide +kernel
theorem dX10_laysFlips_23 : decode cX10_laysFlips 23 = .ok (.getfield 40, 3) := by decide +kernel
theorem dX10_laysFlips_26 : decode cX10_laysFlips 26 = .ok (.iload_n 1, 1) := by decide +kernel
theorem dX10_laysFlips_27 : decode cX10_laysFlips 27 = .ok (.aload_n 0, 1) := by decide +kernel
theorem dX10_laysFlips_28 : decode cX10_laysFlips 28 = .ok (.aload_n 0, 1) := by decide +kernel
theorem dX10_laysFlips_29 : decode cX10_laysFlips 29 = .ok (.getfield 7, 3) := by decide +kernel
theorem dX10_laysFlips_32 : decode cX10_laysFlips 32 = .ok (.bipush 9, 2) := by decide +kernel
theorem dX10_laysFlips_34 : decode cX10_laysFlips 34 = .ok (.aload_n 0, 1) := by decide +kernel
theorem dX10_laysFlips_35 : decode cX10_laysFlips 35 = .ok (.getfield 25, 3) := by decide +kernel
theorem dX10_laysFlips_38 : decode cX10_laysFlips 38 = .ok (.iconst 0, 1) := by decide +kernel
theorem dX10_laysFlips_39 : decode cX10_laysFlips 39 = .ok (.invokevirtual 79, 3) := by decide +kernel
theorem dX10_laysFlips_42 : decode cX10_laysFlips 42 = .ok (.iastore, 1) := by decide +kernel
theorem dX10_laysFlips_43 : decode cX10_laysFlips 43 = .ok (.iconst 0, 1) := by decide +kernel
theorem dX10_laysFlips_44 : decode cX10_laysFlips 44 = .ok (.istore_n 2, 1) := by decide +kernel
theorem dX10_laysFlips_45 : decode cX10_laysFlips 45 = .ok (.iload_n 2, 1) := by decide +kernel
theorem dX10_laysFlips_46 : decode cX10_laysFlips 46 = .ok (.aload_n 0, 1) := by decide +kernel
theorem dX10_laysFlips_47 : decode cX10_laysFlips 47 = .ok (.getfield 7, 3) := by decide +kernel
theorem dX10_laysFlips_50 : decode cX10_laysFlips 50 = .ok (.iconst 4, 1) := by decide +kernel
theorem dX10_laysFlips_51 : decode cX10_laysFlips 51 = .ok (.iaload, 1) := by decide +kernel
theorem dX10_laysFlips_52 : decode cX10_laysFlips 52 = .ok (.if_icmp .ge 26, 3) := by decide +kernel
theorem dX10_laysFlips_55 : decode cX10_laysFlips 55 = .ok (.aload_n 0, 1) := by decide +kernel
theorem dX10_laysFlips_56 : decode cX10_laysFlips 56 = .ok (.getfield 43, 3) := by decide +kernel
theorem dX10_laysFlips_59 : decode cX10_laysFlips 59 = .ok (.bipush 8, 2) := by decide +kernel
theorem dX10_laysFlips_61 : decode cX10_laysFlips 61 = .ok (.iload_n 1, 1) := by decide +kernel
theorem dX10_laysFlips_62 : decode cX10_laysFlips 62 = .ok (.imul, 1) := by decide +kernel
theorem dX10_laysFlips_63 : decode cX10_laysFlips 63 = .ok (.iload_n 2, 1) := by decide +kernel
theorem dX10_laysFlips_64 : decode cX10_laysFlips 64 = .ok (.iadd, 1) := by decide +kernel
theorem dX10_laysFlips_65 : decode cX10_laysFlips 65 = .ok (.aload_n 0, 1) := by decide +kernel
theorem dX10_laysFlips_66 : decode cX10_laysFlips 66 = .ok (.iload_n 1, 1) := by decide +kernel
theorem dX10_laysFlips_67 : decode cX10_laysFlips 67 = .ok (.iload_n 2, 1) := by decide +kernel
theorem dX10_laysFlips_68 : decode cX10_laysFlips 68 = .ok (.invokevirtual 160, 3) := by decide +kernel
theorem dX10_laysFlips_71 : decode cX10_laysFlips 71 = .ok (.iastore, 1) := by decide +kernel
theorem dX10_laysFlips_72 : decode cX10_laysFlips 72 = .ok (.iinc 2 1, 3) := by decide +kernel
theorem dX10_laysFlips_75 : decode cX10_laysFlips 75 = .ok (.goto (-30), 3) := by decide +kernel
theorem dX10_laysFlips_78 : decode cX10_laysFlips 78 = .ok (.iinc 1 1, 3) := by decide +kernel
theorem dX10_laysFlips_81 : decode cX10_laysFlips 81 = .ok (.goto (-79), 3) := by decide +kernel
theorem dX10_laysFlips_84 : decode cX10_laysFlips 84 = .ok (.return_, 1) := by decide +kernel
theorem dX10_bestOrder_0 : decode cX10_bestOrder 0 = .ok (.iload_n 1, 1) := by decide +kernel
theorem dX10_bestOrder_1 : decode cX10_bestOrder 1 = .ok (.ifCond .le 32, 3) := by decide +kernel
theorem dX10_bestOrder_4 : decode cX10_bestOrder 4 = .ok (.iload_n 1, 1) := by decide +kernel
theorem dX10_bestOrder_5 : decode cX10_bestOrder 5 = .ok (.iconst 1, 1) := by decide +kernel
theorem dX10_bestOrder_6 : decode cX10_bestOrder 6 = .ok (.aload_n 0, 1) := by decide +kernel
theorem dX10_bestOrder_7 : decode cX10_bestOrder 7 = .ok (.getfield 7, 3) := by decide +kernel
theorem dX10_bestOrder_10 : decode cX10_bestOrder 10 = .ok (.iconst 4, 1) := by decide +kernel
theorem dX10_bestOrder_11 : decode cX10_bestOrder 11 = .ok (.iaload, 1) := by decide +kernel
theorem dX10_bestOrder_12 : decode cX10_bestOrder 12 = .ok (.ishl, 1) := by decide +kernel
theorem dX10_bestOrder_13 : decode cX10_bestOrder 13 = .ok (.if_icmp .ge 20, 3) := by decide +kernel
theorem dX10_bestOrder_16 : decode cX10_bestOrder 16 = .ok (.iload_n 1, 1) := by decide +kernel
theorem dX10_bestOrder_17 : decode cX10_bestOrder 17 = .ok (.invokestatic 72, 3) := by decide +kernel
theorem dX10_bestOrder_20 : decode cX10_bestOrder 20 = .ok (.iconst 5, 1) := by decide +kernel
theorem dX10_bestOrder_21 : decode cX10_bestOrder 21 = .ok (.if_icmp .gt 12, 3) := by decide +kernel
theorem dX10_bestOrder_24 : decode cX10_bestOrder 24 = .ok (.iload_n 2, 1) := by decide +kernel
theorem dX10_bestOrder_25 : decode cX10_bestOrder 25 = .ok (.iconst 0, 1) := by decide +kernel
theorem dX10_bestOrder_26 : decode cX10_bestOrder 26 = .ok (.iconst 5, 1) := by decide +kernel
theorem dX10_bestOrder_27 : decode cX10_bestOrder 27 = .ok (.invokestatic 96, 3) := by decide +kernel
theorem dX10_bestOrder_30 : decode cX10_bestOrder 30 = .ok (.ifCond .ne 7, 3) := by decide +kernel
theorem dX10_bestOrder_33 : decode cX10_bestOrder 33 = .ok (.sipush (-1001), 3) := by decide +kernel
theorem dX10_bestOrder_36 : decode cX10_bestOrder 36 = .ok (.ireturn, 1) := by decide +kernel
theorem dX10_bestOrder_37 : decode cX10_bestOrder 37 = .ok (.aload_n 0, 1) := by decide +kernel
theorem dX10_bestOrder_38 : decode cX10_bestOrder 38 = .ok (.iconst 0, 1) := by decide +kernel
theorem dX10_bestOrder_39 : decode cX10_bestOrder 39 = .ok (.putfield 163, 3) := by decide +kernel
theorem dX10_bestOrder_42 : decode cX10_bestOrder 42 = .ok (.iconst 0, 1) := by decide +kernel
theorem dX10_bestOrder_43 : decode cX10_bestOrder 43 = .ok (.istore_n 3, 1) := by decide +kernel
theorem dX10_bestOrder_44 : decode cX10_bestOrder 44 = .ok (.iload_n 3, 1) := by decide +kernel
theorem dX10_bestOrder_45 : decode cX10_bestOrder 45 = .ok (.aload_n 0, 1) := by decide +kernel
theorem dX10_bestOrder_46 : decode cX10_bestOrder 46 = .ok (.getfield 7, 3) := by decide +kernel
theorem dX10_bestOrder_49 : decode cX10_bestOrder 49 = .ok (.iconst 4, 1) := by decide +kernel
theorem dX10_bestOrder_50 : decode cX10_bestOrder 50 = .ok (.iaload, 1) := by decide +kernel
theorem dX10_bestOrder_51 : decode cX10_bestOrder 51 = .ok (.if_icmp .ge 38, 3) := by decide +kernel
theorem dX10_bestOrder_54 : decode cX10_bestOrder 54 = .ok (.iload_n 1, 1) := by decide +kernel
theorem dX10_bestOrder_55 : decode cX10_bestOrder 55 = .ok (.iload_n 3, 1) := by decide +kernel
theorem dX10_bestOrder_56 : decode cX10_bestOrder 56 = .ok (.ishr, 1) := by decide +kernel
theorem dX10_bestOrder_57 : decode cX10_bestOrder 57 = .ok (.iconst 1, 1) := by decide +kernel
theorem dX10_bestOrder_58 : decode cX10_bestOrder 58 = .ok (.iand, 1) := by decide +kernel
theorem dX10_bestOrder_59 : decode cX10_bestOrder 59 = .ok (.iconst 1, 1) := by decide +kernel
theorem dX10_bestOrder_60 : decode cX10_bestOrder 60 = .ok (.if_icmp .ne 23, 3) := by decide +kernel
theorem dX10_bestOrder_63 : decode cX10_bestOrder 63 = .ok (.aload_n 0, 1) := by decide +kernel
theorem dX10_bestOrder_64 : decode cX10_bestOrder 64 = .ok (.getfield 34, 3) := by decide +kernel
theorem dX10_bestOrder_67 : decode cX10_bestOrder 67 = .ok (.aload_n 0, 1) := by decide +kernel
theorem dX10_bestOrder_68 : decode cX10_bestOrder 68 = .ok (.getfield 163, 3) := by decide +kernel
theorem dX10_bestOrder_71 : decode cX10_bestOrder 71 = .ok (.iload_n 3, 1) := by decide +kernel
theorem dX10_bestOrder_72 : decode cX10_bestOrder 72 = .ok (.iastore, 1) := by decide +kernel
theorem dX10_bestOrder_73 : decode cX10_bestOrder 73 = .ok (.aload_n 0, 1) := by decide +kernel
theorem dX10_bestOrder_74 : decode cX10_bestOrder 74 = .ok (.dup, 1) := by decide +kernel
theorem dX10_bestOrder_75 : decode cX10_bestOrder 75 = .ok (.getfield 163, 3) := by decide +kernel
theorem dX10_bestOrder_78 : decode cX10_bestOrder 78 = .ok (.iconst 1, 1) := by decide +kernel
theorem dX10_bestOrder_79 : decode cX10_bestOrder 79 = .ok (.iadd, 1) := by decide +kernel
theorem dX10_bestOrder_80 : decode cX10_bestOrder 80 = .ok (.putfield 163, 3) := by decide +kernel
theorem dX10_bestOrder_83 : decode cX10_bestOrder 83 = .ok (.iinc 3 1, 3) := by decide +kernel
theorem dX10_bestOrder_86 : decode cX10_bestOrder 86 = .ok (.goto (-42), 3) := by decide +kernel
theorem dX10_bestOrder_89 : decode cX10_bestOrder 89 = .ok (.aload_n 0, 1) := by decide +kernel
theorem dX10_bestOrder_90 : decode cX10_bestOrder 90 = .ok (.invokevirtual 169, 3) := by decide +kernel
theorem dX10_bestOrder_93 : decode cX10_bestOrder 93 = .ok (.iconst (-1), 1) := by decide +kernel
theorem dX10_bestOrder_94 : decode cX10_bestOrder 94 = .ok (.istore_n 3, 1) := by decide +kernel
theorem dX10_bestOrder_95 : decode cX10_bestOrder 95 = .ok (.iconst 1, 1) := by decide +kernel
theorem dX10_bestOrder_96 : decode cX10_bestOrder 96 = .ok (.istore 4, 2) := by decide +kernel
theorem dX10_bestOrder_98 : decode cX10_bestOrder 98 = .ok (.iload 4, 2) := by decide +kernel
theorem dX10_bestOrder_100 : decode cX10_bestOrder 100 = .ok (.ifCond .eq 63, 3) := by decide +kernel
theorem dX10_bestOrder_103 : decode cX10_bestOrder 103 = .ok (.aload_n 0, 1) := by decide +kernel
theorem dX10_bestOrder_104 : decode cX10_bestOrder 104 = .ok (.invokevirtual 172, 3) := by decide +kernel
theorem dX10_bestOrder_107 : decode cX10_bestOrder 107 = .ok (.istore 5, 2) := by decide +kernel
theorem dX10_bestOrder_109 : decode cX10_bestOrder 109 = .ok (.iload_n 3, 1) := by decide +kernel
theorem dX10_bestOrder_110 : decode cX10_bestOrder 110 = .ok (.ifCond .lt 9, 3) := by decide +kernel
theorem dX10_bestOrder_113 : decode cX10_bestOrder 113 = .ok (.iload 5, 2) := by decide +kernel
theorem dX10_bestOrder_115 : decode cX10_bestOrder 115 = .ok (.iload_n 3, 1) := by decide +kernel
theorem dX10_bestOrder_116 : decode cX10_bestOrder 116 = .ok (.if_icmp .ge 38, 3) := by decide +kernel
theorem dX10_bestOrder_119 : decode cX10_bestOrder 119 = .ok (.iload 5, 2) := by decide +kernel
theorem dX10_bestOrder_121 : decode cX10_bestOrder 121 = .ok (.istore_n 3, 1) := by decide +kernel
theorem dX10_bestOrder_122 : decode cX10_bestOrder 122 = .ok (.iconst 0, 1) := by decide +kernel
theorem dX10_bestOrder_123 : decode cX10_bestOrder 123 = .ok (.istore 6, 2) := by decide +kernel
theorem dX10_bestOrder_125 : decode cX10_bestOrder 125 = .ok (.iload 6, 2) := by decide +kernel
theorem dX10_bestOrder_127 : decode cX10_bestOrder 127 = .ok (.aload_n 0, 1) := by decide +kernel
theorem dX10_bestOrder_128 : decode cX10_bestOrder 128 = .ok (.getfield 163, 3) := by decide +kernel
theorem dX10_bestOrder_131 : decode cX10_bestOrder 131 = .ok (.if_icmp .ge 23, 3) := by decide +kernel
theorem dX10_bestOrder_134 : decode cX10_bestOrder 134 = .ok (.aload_n 0, 1) := by decide +kernel
theorem dX10_bestOrder_135 : decode cX10_bestOrder 135 = .ok (.getfield 37, 3) := by decide +kernel
theorem dX10_bestOrder_138 : decode cX10_bestOrder 138 = .ok (.iload 6, 2) := by decide +kernel
theorem dX10_bestOrder_140 : decode cX10_bestOrder 140 = .ok (.aload_n 0, 1) := by decide +kernel
theorem dX10_bestOrder_141 : decode cX10_bestOrder 141 = .ok (.getfield 34, 3) := by decide +kernel
theorem dX10_bestOrder_144 : decode cX10_bestOrder 144 = .ok (.iload 6, 2) := by decide +kernel
theorem dX10_bestOrder_146 : decode cX10_bestOrder 146 = .ok (.iaload, 1) := by decide +kernel
theorem dX10_bestOrder_147 : decode cX10_bestOrder 147 = .ok (.iastore, 1) := by decide +kernel
theorem dX10_bestOrder_148 : decode cX10_bestOrder 148 = .ok (.iinc 6 1, 3) := by decide +kernel
theorem dX10_bestOrder_151 : decode cX10_bestOrder 151 = .ok (.goto (-26), 3) := by decide +kernel
theorem dX10_bestOrder_154 : decode cX10_bestOrder 154 = .ok (.aload_n 0, 1) := by decide +kernel
theorem dX10_bestOrder_155 : decode cX10_bestOrder 155 = .ok (.invokevirtual 175, 3) := by decide +kernel
theorem dX10_bestOrder_158 : decode cX10_bestOrder 158 = .ok (.istore 4, 2) := by decide +kernel
theorem dX10_bestOrder_160 : decode cX10_bestOrder 160 = .ok (.goto (-62), 3) := by decide +kernel
theorem dX10_bestOrder_163 : decode cX10_bestOrder 163 = .ok (.iload_n 2, 1) := by decide +kernel
theorem dX10_bestOrder_164 : decode cX10_bestOrder 164 = .ok (.ifCond .ne 7, 3) := by decide +kernel
theorem dX10_bestOrder_167 : decode cX10_bestOrder 167 = .ok (.iload_n 3, 1) := by decide +kernel
theorem dX10_bestOrder_168 : decode cX10_bestOrder 168 = .ok (.goto 25, 3) := by decide +kernel
theorem dX10_bestOrder_171 : decode cX10_bestOrder 171 = .ok (.iload_n 2, 1) := by decide +kernel
theorem dX10_bestOrder_172 : decode cX10_bestOrder 172 = .ok (.aload_n 0, 1) := by decide +kernel
theorem dX10_bestOrder_173 : decode cX10_bestOrder 173 = .ok (.getfield 163, 3) := by decide +kernel
theorem dX10_bestOrder_176 : decode cX10_bestOrder 176 = .ok (.if_icmp .gt 14, 3) := by decide +kernel
theorem dX10_bestOrder_179 : decode cX10_bestOrder 179 = .ok (.aload_n 0, 1) := by decide +kernel
theorem dX10_bestOrder_180 : decode cX10_bestOrder 180 = .ok (.getfield 37, 3) := by decide +kernel
theorem dX10_bestOrder_183 : decode cX10_bestOrder 183 = .ok (.iload_n 2, 1) := by decide +kernel
theorem dX10_bestOrder_184 : decode cX10_bestOrder 184 = .ok (.iconst 1, 1) := by decide +kernel
theorem dX10_bestOrder_185 : decode cX10_bestOrder 185 = .ok (.isub, 1) := by decide +kernel
theorem dX10_bestOrder_186 : decode cX10_bestOrder 186 = .ok (.iaload, 1) := by decide +kernel
theorem dX10_bestOrder_187 : decode cX10_bestOrder 187 = .ok (.goto 6, 3) := by decide +kernel
theorem dX10_bestOrder_190 : decode cX10_bestOrder 190 = .ok (.sipush (-1009), 3) := by decide +kernel
theorem dX10_bestOrder_193 : decode cX10_bestOrder 193 = .ok (.ireturn, 1) := by decide +kernel
theorem dX10_undo_0 : decode cX10_undo 0 = .ok (.aload_n 0, 1) := by decide +kernel
theorem dX10_undo_1 : decode cX10_undo 1 = .ok (.getfield 50, 3) := by decide +kernel
theorem dX10_undo_4 : decode cX10_undo 4 = .ok (.ifCond .ne 7, 3) := by decide +kernel
theorem dX10_undo_7 : decode cX10_undo 7 = .ok (.sipush (-1002), 3) := by decide +kernel
theorem dX10_undo_10 : decode cX10_undo 10 = .ok (.ireturn, 1) := by decide +kernel
theorem dX10_undo_11 : decode cX10_undo 11 = .ok (.aload_n 0, 1) := by decide +kernel
theorem dX10_undo_12 : decode cX10_undo 12 = .ok (.dup, 1) := by decide +kernel
theorem dX10_undo_13 : decode cX10_undo 13 = .ok (.getfield 50, 3) := by decide +kernel
theorem dX10_undo_16 : decode cX10_undo 16 = .ok (.iconst 1, 1) := by decide +kernel
theorem dX10_undo_17 : decode cX10_undo 17 = .ok (.isub, 1) := by decide +kernel
theorem dX10_undo_18 : decode cX10_undo 18 = .ok (.putfield 50, 3) := by decide +kernel
theorem dX10_undo_21 : decode cX10_undo 21 = .ok (.iconst 0, 1) := by decide +kernel
theorem dX10_undo_22 : decode cX10_undo 22 = .ok (.istore_n 1, 1) := by decide +kernel
theorem dX10_undo_23 : decode cX10_undo 23 = .ok (.iload_n 1, 1) := by decide +kernel
theorem dX10_undo_24 : decode cX10_undo 24 = .ok (.sipush 729, 3) := by decide +kernel
theorem dX10_undo_27 : decode cX10_undo 27 = .ok (.if_icmp .ge 30, 3) := by decide +kernel
theorem dX10_undo_30 : decode cX10_undo 30 = .ok (.aload_n 0, 1) := by decide +kernel
theorem dX10_undo_31 : decode cX10_undo 31 = .ok (.getfield 7, 3) := by decide +kernel
theorem dX10_undo_34 : decode cX10_undo 34 = .ok (.iload_n 1, 1) := by decide +kernel
theorem dX10_undo_35 : decode cX10_undo 35 = .ok (.aload_n 0, 1) := by decide +kernel
theorem dX10_undo_36 : decode cX10_undo 36 = .ok (.getfield 13, 3) := by decide +kernel
theorem dX10_undo_39 : decode cX10_undo 39 = .ok (.sipush 729, 3) := by decide +kernel
theorem dX10_undo_42 : decode cX10_undo 42 = .ok (.aload_n 0, 1) := by decide +kernel
theorem dX10_undo_43 : decode cX10_undo 43 = .ok (.getfield 50, 3) := by decide +kernel
theorem dX10_undo_46 : decode cX10_undo 46 = .ok (.imul, 1) := by decide +kernel
theorem dX10_undo_47 : decode cX10_undo 47 = .ok (.iload_n 1, 1) := by decide +kernel
theorem dX10_undo_48 : decode cX10_undo 48 = .ok (.iadd, 1) := by decide +kernel
theorem dX10_undo_49 : decode cX10_undo 49 = .ok (.iaload, 1) := by decide +kernel
theorem dX10_undo_50 : decode cX10_undo 50 = .ok (.iastore, 1) := by decide +kernel
theorem dX10_undo_51 : decode cX10_undo 51 = .ok (.iinc 1 1, 3) := by decide +kernel
theorem dX10_undo_54 : decode cX10_undo 54 = .ok (.goto (-31), 3) := by decide +kernel
theorem dX10_undo_57 : decode cX10_undo 57 = .ok (.aload_n 0, 1) := by decide +kernel
theorem dX10_undo_58 : decode cX10_undo 58 = .ok (.getfield 50, 3) := by decide +kernel
theorem dX10_undo_61 : decode cX10_undo 61 = .ok (.ireturn, 1) := by decide +kernel
theorem dL_law_0 : decode cL_law 0 = .ok (.new 7, 3) := by decide +kernel
theorem dL_law_3 : decode cL_law 3 = .ok (.dup, 1) := by decide +kernel
theorem dL_law_4 : decode cL_law 4 = .ok (.invokespecial 9, 3) := by decide +kernel
theorem dL_law_7 : decode cL_law 7 = .ok (.astore_n 1, 1) := by decide +kernel
theorem dL_law_8 : decode cL_law 8 = .ok (.new 10, 3) := by decide +kernel
theorem dL_law_11 : decode cL_law 11 = .ok (.dup, 1) := by decide +kernel
theorem dL_law_12 : decode cL_law 12 = .ok (.invokespecial 12, 3) := by decide +kernel
theorem dL_law_15 : decode cL_law 15 = .ok (.astore_n 2, 1) := by decide +kernel
theorem dL_law_16 : decode cL_law 16 = .ok (.iconst 0, 1) := by decide +kernel
theorem dL_law_17 : decode cL_law 17 = .ok (.istore_n 3, 1) := by decide +kernel
theorem dL_law_18 : decode cL_law 18 = .ok (.iload_n 3, 1) := by decide +kernel
theorem dL_law_19 : decode cL_law 19 = .ok (.aload_n 0, 1) := by decide +kernel
theorem dL_law_20 : decode cL_law 20 = .ok (.arraylength, 1) := by decide +kernel
theorem dL_law_21 : decode cL_law 21 = .ok (.iconst 4, 1) := by decide +kernel
theorem dL_law_22 : decode cL_law 22 = .ok (.isub, 1) := by decide +kernel
theorem dL_law_23 : decode cL_law 23 = .ok (.if_icmp .gt 890, 3) := by decide +kernel
theorem dL_law_26 : decode cL_law 26 = .ok (.aload_n 0, 1) := by decide +kernel
theorem dL_law_27 : decode cL_law 27 = .ok (.iload_n 3, 1) := by decide +kernel
theorem dL_law_28 : decode cL_law 28 = .ok (.iaload, 1) := by decide +kernel
theorem dL_law_29 : decode cL_law 29 = .ok (.bipush 31, 2) := by decide +kernel
theorem dL_law_31 : decode cL_law 31 = .ok (.iand, 1) := by decide +kernel
theorem dL_law_32 : decode cL_law 32 = .ok (.tableswitch 875 0 26 #[124, 147, 180, 223, 256, 279, 302, 315, 328, 361, 374, 407, 440, 463, 486, 519, 552, 585, 618, 641, 684, 707, 730, 763, 796, 829, 862], 124) := by decide +kernel
theorem dL_law_156 : decode cL_law 156 = .ok (.aload_n 1, 1) := by decide +kernel
theorem dL_law_157 : decode cL_law 157 = .ok (.aload_n 0, 1) := by decide +kernel
theorem dL_law_158 : decode cL_law 158 = .ok (.iload_n 3, 1) := by decide +kernel
theorem dL_law_159 : decode cL_law 159 = .ok (.iconst 1, 1) := by decide +kernel
theorem dL_law_160 : decode cL_law 160 = .ok (.iadd, 1) := by decide +kernel
theorem dL_law_161 : decode cL_law 161 = .ok (.iaload, 1) := by decide +kernel
theorem dL_law_162 : decode cL_law 162 = .ok (.invokevirtual 13, 3) := by decide +kernel
theorem dL_law_165 : decode cL_law 165 = .ok (.aload_n 2, 1) := by decide +kernel
theorem dL_law_166 : decode cL_law 166 = .ok (.aload_n 0, 1) := by decide +kernel
theorem dL_law_167 : decode cL_law 167 = .ok (.iload_n 3, 1) := by decide +kernel
theorem dL_law_168 : decode cL_law 168 = .ok (.iconst 1, 1) := by decide +kernel
theorem dL_law_169 : decode cL_law 169 = .ok (.iadd, 1) := by decide +kernel
theorem dL_law_170 : decode cL_law 170 = .ok (.iaload, 1) := by decide +kernel
theorem dL_law_171 : decode cL_law 171 = .ok (.invokevirtual 17, 3) := by decide +kernel
theorem dL_law_174 : decode cL_law 174 = .ok (.if_icmp .eq 733, 3) := by decide +kernel
theorem dL_law_177 : decode cL_law 177 = .ok (.iconst 0, 1) := by decide +kernel
theorem dL_law_178 : decode cL_law 178 = .ok (.ireturn, 1) := by decide +kernel
theorem dL_law_179 : decode cL_law 179 = .ok (.aload_n 1, 1) := by decide +kernel
theorem dL_law_180 : decode cL_law 180 = .ok (.aload_n 0, 1) := by decide +kernel
theorem dL_law_181 : decode cL_law 181 = .ok (.iload_n 3, 1) := by decide +kernel
theorem dL_law_182 : decode cL_law 182 = .ok (.iconst 1, 1) := by decide +kernel
theorem dL_law_183 : decode cL_law 183 = .ok (.iadd, 1) := by decide +kernel
theorem dL_law_184 : decode cL_law 184 = .ok (.iaload, 1) := by decide +kernel
theorem dL_law_185 : decode cL_law 185 = .ok (.aload_n 0, 1) := by decide +kernel
theorem dL_law_186 : decode cL_law 186 = .ok (.iload_n 3, 1) := by decide +kernel
theorem dL_law_187 : decode cL_law 187 = .ok (.iconst 2, 1) := by decide +kernel
theorem dL_law_188 : decode cL_law 188 = .ok (.iadd, 1) := by decide +kernel
theorem dL_law_189 : decode cL_law 189 = .ok (.iaload, 1) := by decide +kernel
theorem dL_law_190 : decode cL_law 190 = .ok (.invokevirtual 18, 3) := by decide +kernel
theorem dL_law_193 : decode cL_law 193 = .ok (.aload_n 2, 1) := by decide +kernel
theorem dL_law_194 : decode cL_law 194 = .ok (.aload_n 0, 1) := by decide +kernel
theorem dL_law_195 : decode cL_law 195 = .ok (.iload_n 3, 1) := by decide +kernel
theorem dL_law_196 : decode cL_law 196 = .ok (.iconst 1, 1) := by decide +kernel
theorem dL_law_197 : decode cL_law 197 = .ok (.iadd, 1) := by decide +kernel
theorem dL_law_198 : decode cL_law 198 = .ok (.iaload, 1) := by decide +kernel
theorem dL_law_199 : decode cL_law 199 = .ok (.aload_n 0, 1) := by decide +kernel
theorem dL_law_200 : decode cL_law 200 = .ok (.iload_n 3, 1) := by decide +kernel
theorem dL_law_201 : decode cL_law 201 = .ok (.iconst 2, 1) := by decide +kernel
theorem dL_law_202 : decode cL_law 202 = .ok (.iadd, 1) := by decide +kernel
theorem dL_law_203 : decode cL_law 203 = .ok (.iaload, 1) := by decide +kernel
theorem dL_law_204 : decode cL_law 204 = .ok (.invokevirtual 22, 3) := by decide +kernel
theorem dL_law_207 : decode cL_law 207 = .ok (.if_icmp .eq 700, 3) := by decide +kernel
theorem dL_law_210 : decode cL_law 210 = .ok (.iconst 0, 1) := by decide +kernel
theorem dL_law_211 : decode cL_law 211 = .ok (.ireturn, 1) := by decide +kernel
theorem dL_law_212 : decode cL_law 212 = .ok (.aload_n 1, 1) := by decide +kernel
theorem dL_law_213 : decode cL_law 213 = .ok (.aload_n 0, 1) := by decide +kernel
theorem dL_law_214 : decode cL_law 214 = .ok (.iload_n 3, 1) := by decide +kernel
theorem dL_law_215 : decode cL_law 215 = .ok (.iconst 1, 1) := by decide +kernel
theorem dL_law_216 : decode cL_law 216 = .ok (.iadd, 1) := by decide +kernel
theorem dL_law_217 : decode cL_law 217 = .ok (.iaload, 1) := by decide +kernel
theorem dL_law_218 : decode cL_law 218 = .ok (.aload_n 0, 1) := by decide +kernel
theorem dL_law_219 : decode cL_law 219 = .ok (.iload_n 3, 1) := by decide +kernel
theorem dL_law_220 : decode cL_law 220 = .ok (.iconst 2, 1) := by decide +kernel
theorem dL_law_221 : decode cL_law 221 = .ok (.iadd, 1) := by decide +kernel
theorem dL_law_222 : decode cL_law 222 = .ok (.iaload, 1) := by decide +kernel
theorem dL_law_223 : decode cL_law 223 = .ok (.aload_n 0, 1) := by decide +kernel
theorem dL_law_224 : decode cL_law 224 = .ok (.iload_n 3, 1) := by decide +kernel
theorem dL_law_225 : decode cL_law 225 = .ok (.iconst 3, 1) := by decide +kernel
theorem dL_law_226 : decode cL_law 226 = .ok (.iadd, 1) := by decide +kernel
theorem dL_law_227 : decode cL_law 227 = .ok (.iaload, 1) := by decide +kernel
theorem dL_law_228 : decode cL_law 228 = .ok (.invokevirtual 23, 3) := by decide +kernel
theorem dL_law_231 : decode cL_law 231 = .ok (.aload_n 2, 1) := by decide +kernel
theorem dL_law_232 : decode cL_law 232 = .ok (.aload_n 0, 1) := by decide +kernel
theorem dL_law_233 : decode cL_law 233 = .ok (.iload_n 3, 1) := by decide +kernel
theorem dL_law_234 : decode cL_law 234 = .ok (.iconst 1, 1) := by decide +kernel
theorem dL_law_235 : decode cL_law 235 = .ok (.iadd, 1) := by decide +kernel
theorem dL_law_236 : decode cL_law 236 = .ok (.iaload, 1) := by decide +kernel
theorem dL_law_237 : decode cL_law 237 = .ok (.aload_n 0, 1) := by decide +kernel
theorem dL_law_238 : decode cL_law 238 = .ok (.iload_n 3, 1) := by decide +kernel
theorem dL_law_239 : decode cL_law 239 = .ok (.iconst 2, 1) := by decide +kernel
theorem dL_law_240 : decode cL_law 240 = .ok (.iadd, 1) := by decide +kernel
theorem dL_law_241 : decode cL_law 241 = .ok (.iaload, 1) := by decide +kernel
theorem dL_law_242 : decode cL_law 242 = .ok (.aload_n 0, 1) := by decide +kernel
theorem dL_law_243 : decode cL_law 243 = .ok (.iload_n 3, 1) := by decide +kernel
theorem dL_law_244 : decode cL_law 244 = .ok (.iconst 3, 1) := by decide +kernel
theorem dL_law_245 : decode cL_law 245 = .ok (.iadd, 1) := by decide +kernel
theorem dL_law_246 : decode cL_law 246 = .ok (.iaload, 1) := by decide +kernel
theorem dL_law_247 : decode cL_law 247 = .ok (.invokevirtual 27, 3) := by decide +kernel
theorem dL_law_250 : decode cL_law 250 = .ok (.if_icmp .eq 657, 3) := by decide +kernel
theorem dL_law_253 : decode cL_law 253 = .ok (.iconst 0, 1) := by decide +kernel
theorem dL_law_254 : decode cL_law 254 = .ok (.ireturn, 1) := by decide +kernel
theorem dL_law_255 : decode cL_law 255 = .ok (.aload_n 1, 1) := by decide +kernel
theorem dL_law_256 : decode cL_law 256 = .ok (.aload_n 0, 1) := by decide +kernel
theorem dL_law_257 : decode cL_law 257 = .ok (.iload_n 3, 1) := by decide +kernel
theorem dL_law_258 : decode cL_law 258 = .ok (.iconst 1, 1) := by decide +kernel
theorem dL_law_259 : decode cL_law 259 = .ok (.iadd, 1) := by decide +kernel
theorem dL_law_260 : decode cL_law 260 = .ok (.iaload, 1) := by decide +kernel
theorem dL_law_261 : decode cL_law 261 = .ok (.aload_n 0, 1) := by decide +kernel
theorem dL_law_262 : decode cL_law 262 = .ok (.iload_n 3, 1) := by decide +kernel
theorem dL_law_263 : decode cL_law 263 = .ok (.iconst 2, 1) := by decide +kernel
theorem dL_law_264 : decode cL_law 264 = .ok (.iadd, 1) := by decide +kernel
theorem dL_law_265 : decode cL_law 265 = .ok (.iaload, 1) := by decide +kernel
theorem dL_law_266 : decode cL_law 266 = .ok (.invokevirtual 28, 3) := by decide +kernel
theorem dL_law_269 : decode cL_law 269 = .ok (.aload_n 2, 1) := by decide +kernel
theorem dL_law_270 : decode cL_law 270 = .ok (.aload_n 0, 1) := by decide +kernel
theorem dL_law_271 : decode cL_law 271 = .ok (.iload_n 3, 1) := by decide +kernel
theorem dL_law_272 : decode cL_law 272 = .ok (.iconst 1, 1) := by decide +kernel
theorem dL_law_273 : decode cL_law 273 = .ok (.iadd, 1) := by decide +kernel
theorem dL_law_274 : decode cL_law 274 = .ok (.iaload, 1) := by decide +kernel
theorem dL_law_275 : decode cL_law 275 = .ok (.aload_n 0, 1) := by decide +kernel
theorem dL_law_276 : decode cL_law 276 = .ok (.iload_n 3, 1) := by decide +kernel
theorem dL_law_277 : decode cL_law 277 = .ok (.iconst 2, 1) := by decide +kernel
theorem dL_law_278 : decode cL_law 278 = .ok (.iadd, 1) := by decide +kernel
theorem dL_law_279 : decode cL_law 279 = .ok (.iaload, 1) := by decide +kernel
theorem dL_law_280 : decode cL_law 280 = .ok (.invokevirtual 31, 3) := by decide +kernel
theorem dL_law_283 : decode cL_law 283 = .ok (.if_icmp .eq 624, 3) := by decide +kernel
theorem dL_law_286 : decode cL_law 286 = .ok (.iconst 0, 1) := by decide +kernel
theorem dL_law_287 : decode cL_law 287 = .ok (.ireturn, 1) := by decide +kernel
theorem dL_law_288 : decode cL_law 288 = .ok (.aload_n 1, 1) := by decide +kernel
theorem dL_law_289 : decode cL_law 289 = .ok (.aload_n 0, 1) := by decide +kernel
theorem dL_law_290 : decode cL_law 290 = .ok (.iload_n 3, 1) := by decide +kernel
theorem dL_law_291 : decode cL_law 291 = .ok (.iconst 1, 1) := by decide +kernel
theorem dL_law_292 : decode cL_law 292 = .ok (.iadd, 1) := by decide +kernel
theorem dL_law_293 : decode cL_law 293 = .ok (.iaload, 1) := by decide +kernel
theorem dL_law_294 : decode cL_law 294 = .ok (.invokevirtual 32, 3) := by decide +kernel
theorem dL_law_297 : decode cL_law 297 = .ok (.aload_n 2, 1) := by decide +kernel
theorem dL_law_298 : decode cL_law 298 = .ok (.aload_n 0, 1) := by decide +kernel
theorem dL_law_299 : decode cL_law 299 = .ok (.iload_n 3, 1) := by decide +kernel
theorem dL_law_300 : decode cL_law 300 = .ok (.iconst 1, 1) := by decide +kernel
theorem dL_law_301 : decode cL_law 301 = .ok (.iadd, 1) := by decide +kernel
theorem dL_law_302 : decode cL_law 302 = .ok (.iaload, 1) := by decide +kernel
theorem dL_law_303 : decode cL_law 303 = .ok (.invokevirtual 35, 3) := by decide +kernel
theorem dL_law_306 : decode cL_law 306 = .ok (.if_icmp .eq 601, 3) := by decide +kernel
theorem dL_law_309 : decode cL_law 309 = .ok (.iconst 0, 1) := by decide +kernel
theorem dL_law_310 : decode cL_law 310 = .ok (.ireturn, 1) := by decide +kernel
theorem dL_law_311 : decode cL_law 311 = .ok (.aload_n 1, 1) := by decide +kernel
theorem dL_law_312 : decode cL_law 312 = .ok (.aload_n 0, 1) := by decide +kernel
theorem dL_law_313 : decode cL_law 313 = .ok (.iload_n 3, 1) := by decide +kernel
theorem dL_law_314 : decode cL_law 314 = .ok (.iconst 1, 1) := by decide +kernel
theorem dL_law_315 : decode cL_law 315 = .ok (.iadd, 1) := by decide +kernel
theorem dL_law_316 : decode cL_law 316 = .ok (.iaload, 1) := by decide +kernel
theorem dL_law_317 : decode cL_law 317 = .ok (.invokevirtual 36, 3) := by decide +kernel
theorem dL_law_320 : decode cL_law 320 = .ok (.aload_n 2, 1) := by decide +kernel
theorem dL_law_321 : decode cL_law 321 = .ok (.aload_n 0, 1) := by decide +kernel
theorem dL_law_322 : decode cL_law 322 = .ok (.iload_n 3, 1) := by decide +kernel
theorem dL_law_323 : decode cL_law 323 = .ok (.iconst 1, 1) := by decide +kernel
theorem dL_law_324 : decode cL_law 324 = .ok (.iadd, 1) := by decide +kernel
theorem dL_law_325 : decode cL_law 325 = .ok (.iaload, 1) := by decide +kernel
theorem dL_law_326 : decode cL_law 326 = .ok (.invokevirtual 39, 3) := by decide +kernel
theorem dL_law_329 : decode cL_law 329 = .ok (.if_icmp .eq 578, 3) := by decide +kernel
theorem dL_law_332 : decode cL_law 332 = .ok (.iconst 0, 1) := by decide +kernel
theorem dL_law_333 : decode cL_law 333 = .ok (.ireturn, 1) := by decide +kernel
theorem dL_law_334 : decode cL_law 334 = .ok (.aload_n 1, 1) := by decide +kernel
theorem dL_law_335 : decode cL_law 335 = .ok (.invokevirtual 40, 3) := by decide +kernel
theorem dL_law_338 : decode cL_law 338 = .ok (.aload_n 2, 1) := by decide +kernel
theorem dL_law_339 : decode cL_law 339 = .ok (.invokevirtual 44, 3) := by decide +kernel
theorem dL_law_342 : decode cL_law 342 = .ok (.if_icmp .eq 565, 3) := by decide +kernel
theorem dL_law_345 : decode cL_law 345 = .ok (.iconst 0, 1) := by decide +kernel
theorem dL_law_346 : decode cL_law 346 = .ok (.ireturn, 1) := by decide +kernel
theorem dL_law_347 : decode cL_law 347 = .ok (.aload_n 1, 1) := by decide +kernel
theorem dL_law_348 : decode cL_law 348 = .ok (.invokevirtual 45, 3) := by decide +kernel
theorem dL_law_351 : decode cL_law 351 = .ok (.aload_n 2, 1) := by decide +kernel
theorem dL_law_352 : decode cL_law 352 = .ok (.invokevirtual 48, 3) := by decide +kernel
theorem dL_law_355 : decode cL_law 355 = .ok (.if_icmp .eq 552, 3) := by decide +kernel
theorem dL_law_358 : decode cL_law 358 = .ok (.iconst 0, 1) := by decide +kernel
theorem dL_law_359 : decode cL_law 359 = .ok (.ireturn, 1) := by decide +kernel
theorem dL_law_360 : decode cL_law 360 = .ok (.aload_n 1, 1) := by decide +kernel
theorem dL_law_361 : decode cL_law 361 = .ok (.aload_n 0, 1) := by decide +kernel
theorem dL_law_362 : decode cL_law 362 = .ok (.iload_n 3, 1) := by decide +kernel
theorem dL_law_363 : decode cL_law 363 = .ok (.iconst 1, 1) := by decide +kernel
theorem dL_law_364 : decode cL_law 364 = .ok (.iadd, 1) := by decide +kernel
theorem dL_law_365 : decode cL_law 365 = .ok (.iaload, 1) := by decide +kernel
theorem dL_law_366 : decode cL_law 366 = .ok (.aload_n 0, 1) := by decide +kernel
theorem dL_law_367 : decode cL_law 367 = .ok (.iload_n 3, 1) := by decide +kernel
theorem dL_law_368 : decode cL_law 368 = .ok (.iconst 2, 1) := by decide +kernel
theorem dL_law_369 : decode cL_law 369 = .ok (.iadd, 1) := by decide +kernel
theorem dL_law_370 : decode cL_law 370 = .ok (.iaload, 1) := by decide +kernel
theorem dL_law_371 : decode cL_law 371 = .ok (.invokevirtual 49, 3) := by decide +kernel
theorem dL_law_374 : decode cL_law 374 = .ok (.aload_n 2, 1) := by decide +kernel
theorem dL_law_375 : decode cL_law 375 = .ok (.aload_n 0, 1) := by decide +kernel
theorem dL_law_376 : decode cL_law 376 = .ok (.iload_n 3, 1) := by decide +kernel
theorem dL_law_377 : decode cL_law 377 = .ok (.iconst 1, 1) := by decide +kernel
theorem dL_law_378 : decode cL_law 378 = .ok (.iadd, 1) := by decide +kernel
theorem dL_law_379 : decode cL_law 379 = .ok (.iaload, 1) := by decide +kernel
theorem dL_law_380 : decode cL_law 380 = .ok (.aload_n 0, 1) := by decide +kernel
theorem dL_law_381 : decode cL_law 381 = .ok (.iload_n 3, 1) := by decide +kernel
theorem dL_law_382 : decode cL_law 382 = .ok (.iconst 2, 1) := by decide +kernel
theorem dL_law_383 : decode cL_law 383 = .ok (.iadd, 1) := by decide +kernel
theorem dL_law_384 : decode cL_law 384 = .ok (.iaload, 1) := by decide +kernel
theorem dL_law_385 : decode cL_law 385 = .ok (.invokevirtual 52, 3) := by decide +kernel
theorem dL_law_388 : decode cL_law 388 = .ok (.if_icmp .eq 519, 3) := by decide +kernel
theorem dL_law_391 : decode cL_law 391 = .ok (.iconst 0, 1) := by decide +kernel
theorem dL_law_392 : decode cL_law 392 = .ok (.ireturn, 1) := by decide +kernel
theorem dL_law_393 : decode cL_law 393 = .ok (.aload_n 1, 1) := by decide +kernel
theorem dL_law_394 : decode cL_law 394 = .ok (.invokevirtual 53, 3) := by decide +kernel
theorem dL_law_397 : decode cL_law 397 = .ok (.aload_n 2, 1) := by decide +kernel
theorem dL_law_398 : decode cL_law 398 = .ok (.invokevirtual 56, 3) := by decide +kernel
theorem dL_law_401 : decode cL_law 401 = .ok (.if_icmp .eq 506, 3) := by decide +kernel
theorem dL_law_404 : decode cL_law 404 = .ok (.iconst 0, 1) := by decide +kernel
theorem dL_law_405 : decode cL_law 405 = .ok (.ireturn, 1) := by decide +kernel
theorem dL_law_406 : decode cL_law 406 = .ok (.aload_n 1, 1) := by decide +kernel
theorem dL_law_407 : decode cL_law 407 = .ok (.aload_n 0, 1) := by decide +kernel
theorem dL_law_408 : decode cL_law 408 = .ok (.iload_n 3, 1) := by decide +kernel
theorem dL_law_409 : decode cL_law 409 = .ok (.iconst 1, 1) := by decide +kernel
theorem dL_law_410 : decode cL_law 410 = .ok (.iadd, 1) := by decide +kernel
theorem dL_law_411 : decode cL_law 411 = .ok (.iaload, 1) := by decide +kernel
theorem dL_law_412 : decode cL_law 412 = .ok (.aload_n 0, 1) := by decide +kernel
theorem dL_law_413 : decode cL_law 413 = .ok (.iload_n 3, 1) := by decide +kernel
theorem dL_law_414 : decode cL_law 414 = .ok (.iconst 2, 1) := by decide +kernel
theorem dL_law_415 : decode cL_law 415 = .ok (.iadd, 1) := by decide +kernel
theorem dL_law_416 : decode cL_law 416 = .ok (.iaload, 1) := by decide +kernel
theorem dL_law_417 : decode cL_law 417 = .ok (.invokevirtual 57, 3) := by decide +kernel
theorem dL_law_420 : decode cL_law 420 = .ok (.aload_n 2, 1) := by decide +kernel
theorem dL_law_421 : decode cL_law 421 = .ok (.aload_n 0, 1) := by decide +kernel
theorem dL_law_422 : decode cL_law 422 = .ok (.iload_n 3, 1) := by decide +kernel
theorem dL_law_423 : decode cL_law 423 = .ok (.iconst 1, 1) := by decide +kernel
theorem dL_law_424 : decode cL_law 424 = .ok (.iadd, 1) := by decide +kernel
theorem dL_law_425 : decode cL_law 425 = .ok (.iaload, 1) := by decide +kernel
theorem dL_law_426 : decode cL_law 426 = .ok (.aload_n 0, 1) := by decide +kernel
theorem dL_law_427 : decode cL_law 427 = .ok (.iload_n 3, 1) := by decide +kernel
theorem dL_law_428 : decode cL_law 428 = .ok (.iconst 2, 1) := by decide +kernel
theorem dL_law_429 : decode cL_law 429 = .ok (.iadd, 1) := by decide +kernel
theorem dL_law_430 : decode cL_law 430 = .ok (.iaload, 1) := by decide +kernel
theorem dL_law_431 : decode cL_law 431 = .ok (.invokevirtual 60, 3) := by decide +kernel
theorem dL_law_434 : decode cL_law 434 = .ok (.if_icmp .eq 473, 3) := by decide +kernel
theorem dL_law_437 : decode cL_law 437 = .ok (.iconst 0, 1) := by decide +kernel
theorem dL_law_438 : decode cL_law 438 = .ok (.ireturn, 1) := by decide +kernel
theorem dL_law_439 : decode cL_law 439 = .ok (.aload_n 1, 1) := by decide +kernel
theorem dL_law_440 : decode cL_law 440 = .ok (.aload_n 0, 1) := by decide +kernel
theorem dL_law_441 : decode cL_law 441 = .ok (.iload_n 3, 1) := by decide +kernel
theorem dL_law_442 : decode cL_law 442 = .ok (.iconst 1, 1) := by decide +kernel
theorem dL_law_443 : decode cL_law 443 = .ok (.iadd, 1) := by decide +kernel
theorem dL_law_444 : decode cL_law 444 = .ok (.iaload, 1) := by decide +kernel
theorem dL_law_445 : decode cL_law 445 = .ok (.aload_n 0, 1) := by decide +kernel
theorem dL_law_446 : decode cL_law 446 = .ok (.iload_n 3, 1) := by decide +kernel
theorem dL_law_447 : decode cL_law 447 = .ok (.iconst 2, 1) := by decide +kernel
theorem dL_law_448 : decode cL_law 448 = .ok (.iadd, 1) := by decide +kernel
theorem dL_law_449 : decode cL_law 449 = .ok (.iaload, 1) := by decide +kernel
theorem dL_law_450 : decode cL_law 450 = .ok (.invokevirtual 61, 3) := by decide +kernel
theorem dL_law_453 : decode cL_law 453 = .ok (.aload_n 2, 1) := by decide +kernel
theorem dL_law_454 : decode cL_law 454 = .ok (.aload_n 0, 1) := by decide +kernel
theorem dL_law_455 : decode cL_law 455 = .ok (.iload_n 3, 1) := by decide +kernel
theorem dL_law_456 : decode cL_law 456 = .ok (.iconst 1, 1) := by decide +kernel
theorem dL_law_457 : decode cL_law 457 = .ok (.iadd, 1) := by decide +kernel
theorem dL_law_458 : decode cL_law 458 = .ok (.iaload, 1) := by decide +kernel
theorem dL_law_459 : decode cL_law 459 = .ok (.aload_n 0, 1) := by decide +kernel
theorem dL_law_460 : decode cL_law 460 = .ok (.iload_n 3, 1) := by decide +kernel
theorem dL_law_461 : decode cL_law 461 = .ok (.iconst 2, 1) := by decide +kernel
theorem dL_law_462 : decode cL_law 462 = .ok (.iadd, 1) := by decide +kernel
theorem dL_law_463 : decode cL_law 463 = .ok (.iaload, 1) := by decide +kernel
theorem dL_law_464 : decode cL_law 464 = .ok (.invokevirtual 64, 3) := by decide +kernel
theorem dL_law_467 : decode cL_law 467 = .ok (.if_icmp .eq 440, 3) := by decide +kernel
theorem dL_law_470 : decode cL_law 470 = .ok (.iconst 0, 1) := by decide +kernel
theorem dL_law_471 : decode cL_law 471 = .ok (.ireturn, 1) := by decide +kernel
theorem dL_law_472 : decode cL_law 472 = .ok (.aload_n 1, 1) := by decide +kernel
theorem dL_law_473 : decode cL_law 473 = .ok (.aload_n 0, 1) := by decide +kernel
theorem dL_law_474 : decode cL_law 474 = .ok (.iload_n 3, 1) := by decide +kernel
theorem dL_law_475 : decode cL_law 475 = .ok (.iconst 1, 1) := by decide +kernel
theorem dL_law_476 : decode cL_law 476 = .ok (.iadd, 1) := by decide +kernel
theorem dL_law_477 : decode cL_law 477 = .ok (.iaload, 1) := by decide +kernel
theorem dL_law_478 : decode cL_law 478 = .ok (.invokevirtual 65, 3) := by decide +kernel
theorem dL_law_481 : decode cL_law 481 = .ok (.aload_n 2, 1) := by decide +kernel
theorem dL_law_482 : decode cL_law 482 = .ok (.aload_n 0, 1) := by decide +kernel
theorem dL_law_483 : decode cL_law 483 = .ok (.iload_n 3, 1) := by decide +kernel
theorem dL_law_484 : decode cL_law 484 = .ok (.iconst 1, 1) := by decide +kernel
theorem dL_law_485 : decode cL_law 485 = .ok (.iadd, 1) := by decide +kernel
theorem dL_law_486 : decode cL_law 486 = .ok (.iaload, 1) := by decide +kernel
theorem dL_law_487 : decode cL_law 487 = .ok (.invokevirtual 68, 3) := by decide +kernel
theorem dL_law_490 : decode cL_law 490 = .ok (.if_icmp .eq 417, 3) := by decide +kernel
theorem dL_law_493 : decode cL_law 493 = .ok (.iconst 0, 1) := by decide +kernel
theorem dL_law_494 : decode cL_law 494 = .ok (.ireturn, 1) := by decide +kernel
theorem dL_law_495 : decode cL_law 495 = .ok (.aload_n 1, 1) := by decide +kernel
theorem dL_law_496 : decode cL_law 496 = .ok (.aload_n 0, 1) := by decide +kernel
theorem dL_law_497 : decode cL_law 497 = .ok (.iload_n 3, 1) := by decide +kernel
theorem dL_law_498 : decode cL_law 498 = .ok (.iconst 1, 1) := by decide +kernel
theorem dL_law_499 : decode cL_law 499 = .ok (.iadd, 1) := by decide +kernel
theorem dL_law_500 : decode cL_law 500 = .ok (.iaload, 1) := by decide +kernel
theorem dL_law_501 : decode cL_law 501 = .ok (.invokevirtual 69, 3) := by decide +kernel
theorem dL_law_504 : decode cL_law 504 = .ok (.aload_n 2, 1) := by decide +kernel
theorem dL_law_505 : decode cL_law 505 = .ok (.aload_n 0, 1) := by decide +kernel
theorem dL_law_506 : decode cL_law 506 = .ok (.iload_n 3, 1) := by decide +kernel
theorem dL_law_507 : decode cL_law 507 = .ok (.iconst 1, 1) := by decide +kernel
theorem dL_law_508 : decode cL_law 508 = .ok (.iadd, 1) := by decide +kernel
theorem dL_law_509 : decode cL_law 509 = .ok (.iaload, 1) := by decide +kernel
theorem dL_law_510 : decode cL_law 510 = .ok (.invokevirtual 72, 3) := by decide +kernel
theorem dL_law_513 : decode cL_law 513 = .ok (.if_icmp .eq 394, 3) := by decide +kernel
theorem dL_law_516 : decode cL_law 516 = .ok (.iconst 0, 1) := by decide +kernel
theorem dL_law_517 : decode cL_law 517 = .ok (.ireturn, 1) := by decide +kernel
theorem dL_law_518 : decode cL_law 518 = .ok (.aload_n 1, 1) := by decide +kernel
theorem dL_law_519 : decode cL_law 519 = .ok (.aload_n 0, 1) := by decide +kernel
theorem dL_law_520 : decode cL_law 520 = .ok (.iload_n 3, 1) := by decide +kernel
theorem dL_law_521 : decode cL_law 521 = .ok (.iconst 1, 1) := by decide +kernel
theorem dL_law_522 : decode cL_law 522 = .ok (.iadd, 1) := by decide +kernel
theorem dL_law_523 : decode cL_law 523 = .ok (.iaload, 1) := by decide +kernel
theorem dL_law_524 : decode cL_law 524 = .ok (.aload_n 0, 1) := by decide +kernel
theorem dL_law_525 : decode cL_law 525 = .ok (.iload_n 3, 1) := by decide +kernel
theorem dL_law_526 : decode cL_law 526 = .ok (.iconst 2, 1) := by decide +kernel
theorem dL_law_527 : decode cL_law 527 = .ok (.iadd, 1) := by decide +kernel
theorem dL_law_528 : decode cL_law 528 = .ok (.iaload, 1) := by decide +kernel
theorem dL_law_529 : decode cL_law 529 = .ok (.invokevirtual 73, 3) := by decide +kernel
theorem dL_law_532 : decode cL_law 532 = .ok (.aload_n 2, 1) := by decide +kernel
theorem dL_law_533 : decode cL_law 533 = .ok (.aload_n 0, 1) := by decide +kernel
theorem dL_law_534 : decode cL_law 534 = .ok (.iload_n 3, 1) := by decide +kernel
theorem dL_law_535 : decode cL_law 535 = .ok (.iconst 1, 1) := by decide +kernel
theorem dL_law_536 : decode cL_law 536 = .ok (.iadd, 1) := by decide +kernel
theorem dL_law_537 : decode cL_law 537 = .ok (.iaload, 1) := by decide +kernel
theorem dL_law_538 : decode cL_law 538 = .ok (.aload_n 0, 1) := by decide +kernel
theorem dL_law_539 : decode cL_law 539 = .ok (.iload_n 3, 1) := by decide +kernel
theorem dL_law_540 : decode cL_law 540 = .ok (.iconst 2, 1) := by decide +kernel
theorem dL_law_541 : decode cL_law 541 = .ok (.iadd, 1) := by decide +kernel
theorem dL_law_542 : decode cL_law 542 = .ok (.iaload, 1) := by decide +kernel
theorem dL_law_543 : decode cL_law 543 = .ok (.invokevirtual 76, 3) := by decide +kernel
theorem dL_law_546 : decode cL_law 546 = .ok (.if_icmp .eq 361, 3) := by decide +kernel
theorem dL_law_549 : decode cL_law 549 = .ok (.iconst 0, 1) := by decide +kernel
theorem dL_law_550 : decode cL_law 550 = .ok (.ireturn, 1) := by decide +kernel
theorem dL_law_551 : decode cL_law 551 = .ok (.aload_n 1, 1) := by decide +kernel
theorem dL_law_552 : decode cL_law 552 = .ok (.aload_n 0, 1) := by decide +kernel
theorem dL_law_553 : decode cL_law 553 = .ok (.iload_n 3, 1) := by decide +kernel
theorem dL_law_554 : decode cL_law 554 = .ok (.iconst 1, 1) := by decide +kernel
theorem dL_law_555 : decode cL_law 555 = .ok (.iadd, 1) := by decide +kernel
theorem dL_law_556 : decode cL_law 556 = .ok (.iaload, 1) := by decide +kernel
theorem dL_law_557 : decode cL_law 557 = .ok (.aload_n 0, 1) := by decide +kernel
theorem dL_law_558 : decode cL_law 558 = .ok (.iload_n 3, 1) := by decide +kernel
theorem dL_law_559 : decode cL_law 559 = .ok (.iconst 2, 1) := by decide +kernel
theorem dL_law_560 : decode cL_law 560 = .ok (.iadd, 1) := by decide +kernel
theorem dL_law_561 : decode cL_law 561 = .ok (.iaload, 1) := by decide +kernel
theorem dL_law_562 : decode cL_law 562 = .ok (.invokevirtual 77, 3) := by decide +kernel
theorem dL_law_565 : decode cL_law 565 = .ok (.aload_n 2, 1) := by decide +kernel
theorem dL_law_566 : decode cL_law 566 = .ok (.aload_n 0, 1) := by decide +kernel
theorem dL_law_567 : decode cL_law 567 = .ok (.iload_n 3, 1) := by decide +kernel
theorem dL_law_568 : decode cL_law 568 = .ok (.iconst 1, 1) := by decide +kernel
theorem dL_law_569 : decode cL_law 569 = .ok (.iadd, 1) := by decide +kernel
theorem dL_law_570 : decode cL_law 570 = .ok (.iaload, 1) := by decide +kernel
theorem dL_law_571 : decode cL_law 571 = .ok (.aload_n 0, 1) := by decide +kernel
theorem dL_law_572 : decode cL_law 572 = .ok (.iload_n 3, 1) := by decide +kernel
theorem dL_law_573 : decode cL_law 573 = .ok (.iconst 2, 1) := by decide +kernel
theorem dL_law_574 : decode cL_law 574 = .ok (.iadd, 1) := by decide +kernel
theorem dL_law_575 : decode cL_law 575 = .ok (.iaload, 1) := by decide +kernel
theorem dL_law_576 : decode cL_law 576 = .ok (.invokevirtual 80, 3) := by decide +kernel
theorem dL_law_579 : decode cL_law 579 = .ok (.if_icmp .eq 328, 3) := by decide +kernel
theorem dL_law_582 : decode cL_law 582 = .ok (.iconst 0, 1) := by decide +kernel
theorem dL_law_583 : decode cL_law 583 = .ok (.ireturn, 1) := by decide +kernel
theorem dL_law_584 : decode cL_law 584 = .ok (.aload_n 1, 1) := by decide +kernel
theorem dL_law_585 : decode cL_law 585 = .ok (.aload_n 0, 1) := by decide +kernel
theorem dL_law_586 : decode cL_law 586 = .ok (.iload_n 3, 1) := by decide +kernel
theorem dL_law_587 : decode cL_law 587 = .ok (.iconst 1, 1) := by decide +kernel
theorem dL_law_588 : decode cL_law 588 = .ok (.iadd, 1) := by decide +kernel
theorem dL_law_589 : decode cL_law 589 = .ok (.iaload, 1) := by decide +kernel
theorem dL_law_590 : decode cL_law 590 = .ok (.aload_n 0, 1) := by decide +kernel
theorem dL_law_591 : decode cL_law 591 = .ok (.iload_n 3, 1) := by decide +kernel
theorem dL_law_592 : decode cL_law 592 = .ok (.iconst 2, 1) := by decide +kernel
theorem dL_law_593 : decode cL_law 593 = .ok (.iadd, 1) := by decide +kernel
theorem dL_law_594 : decode cL_law 594 = .ok (.iaload, 1) := by decide +kernel
theorem dL_law_595 : decode cL_law 595 = .ok (.invokevirtual 81, 3) := by decide +kernel
theorem dL_law_598 : decode cL_law 598 = .ok (.aload_n 2, 1) := by decide +kernel
theorem dL_law_599 : decode cL_law 599 = .ok (.aload_n 0, 1) := by decide +kernel
theorem dL_law_600 : decode cL_law 600 = .ok (.iload_n 3, 1) := by decide +kernel
theorem dL_law_601 : decode cL_law 601 = .ok (.iconst 1, 1) := by decide +kernel
theorem dL_law_602 : decode cL_law 602 = .ok (.iadd, 1) := by decide +kernel
theorem dL_law_603 : decode cL_law 603 = .ok (.iaload, 1) := by decide +kernel
theorem dL_law_604 : decode cL_law 604 = .ok (.aload_n 0, 1) := by decide +kernel
theorem dL_law_605 : decode cL_law 605 = .ok (.iload_n 3, 1) := by decide +kernel
theorem dL_law_606 : decode cL_law 606 = .ok (.iconst 2, 1) := by decide +kernel
theorem dL_law_607 : decode cL_law 607 = .ok (.iadd, 1) := by decide +kernel
theorem dL_law_608 : decode cL_law 608 = .ok (.iaload, 1) := by decide +kernel
theorem dL_law_609 : decode cL_law 609 = .ok (.invokevirtual 84, 3) := by decide +kernel
theorem dL_law_612 : decode cL_law 612 = .ok (.if_icmp .eq 295, 3) := by decide +kernel
theorem dL_law_615 : decode cL_law 615 = .ok (.iconst 0, 1) := by decide +kernel
theorem dL_law_616 : decode cL_law 616 = .ok (.ireturn, 1) := by decide +kernel
theorem dL_law_617 : decode cL_law 617 = .ok (.aload_n 1, 1) := by decide +kernel
theorem dL_law_618 : decode cL_law 618 = .ok (.aload_n 0, 1) := by decide +kernel
theorem dL_law_619 : decode cL_law 619 = .ok (.iload_n 3, 1) := by decide +kernel
theorem dL_law_620 : decode cL_law 620 = .ok (.iconst 1, 1) := by decide +kernel
theorem dL_law_621 : decode cL_law 621 = .ok (.iadd, 1) := by decide +kernel
theorem dL_law_622 : decode cL_law 622 = .ok (.iaload, 1) := by decide +kernel
theorem dL_law_623 : decode cL_law 623 = .ok (.aload_n 0, 1) := by decide +kernel
theorem dL_law_624 : decode cL_law 624 = .ok (.iload_n 3, 1) := by decide +kernel
theorem dL_law_625 : decode cL_law 625 = .ok (.iconst 2, 1) := by decide +kernel
theorem dL_law_626 : decode cL_law 626 = .ok (.iadd, 1) := by decide +kernel
theorem dL_law_627 : decode cL_law 627 = .ok (.iaload, 1) := by decide +kernel
theorem dL_law_628 : decode cL_law 628 = .ok (.invokevirtual 85, 3) := by decide +kernel
theorem dL_law_631 : decode cL_law 631 = .ok (.aload_n 2, 1) := by decide +kernel
theorem dL_law_632 : decode cL_law 632 = .ok (.aload_n 0, 1) := by decide +kernel
theorem dL_law_633 : decode cL_law 633 = .ok (.iload_n 3, 1) := by decide +kernel
theorem dL_law_634 : decode cL_law 634 = .ok (.iconst 1, 1) := by decide +kernel
theorem dL_law_635 : decode cL_law 635 = .ok (.iadd, 1) := by decide +kernel
theorem dL_law_636 : decode cL_law 636 = .ok (.iaload, 1) := by decide +kernel
theorem dL_law_637 : decode cL_law 637 = .ok (.aload_n 0, 1) := by decide +kernel
theorem dL_law_638 : decode cL_law 638 = .ok (.iload_n 3, 1) := by decide +kernel
theorem dL_law_639 : decode cL_law 639 = .ok (.iconst 2, 1) := by decide +kernel
theorem dL_law_640 : decode cL_law 640 = .ok (.iadd, 1) := by decide +kernel
theorem dL_law_641 : decode cL_law 641 = .ok (.iaload, 1) := by decide +kernel
theorem dL_law_642 : decode cL_law 642 = .ok (.invokevirtual 88, 3) := by decide +kernel
theorem dL_law_645 : decode cL_law 645 = .ok (.if_icmp .eq 262, 3) := by decide +kernel
theorem dL_law_648 : decode cL_law 648 = .ok (.iconst 0, 1) := by decide +kernel
theorem dL_law_649 : decode cL_law 649 = .ok (.ireturn, 1) := by decide +kernel
theorem dL_law_650 : decode cL_law 650 = .ok (.aload_n 1, 1) := by decide +kernel
theorem dL_law_651 : decode cL_law 651 = .ok (.aload_n 0, 1) := by decide +kernel
theorem dL_law_652 : decode cL_law 652 = .ok (.iload_n 3, 1) := by decide +kernel
theorem dL_law_653 : decode cL_law 653 = .ok (.iconst 1, 1) := by decide +kernel
theorem dL_law_654 : decode cL_law 654 = .ok (.iadd, 1) := by decide +kernel
theorem dL_law_655 : decode cL_law 655 = .ok (.iaload, 1) := by decide +kernel
theorem dL_law_656 : decode cL_law 656 = .ok (.invokevirtual 89, 3) := by decide +kernel
theorem dL_law_659 : decode cL_law 659 = .ok (.aload_n 2, 1) := by decide +kernel
theorem dL_law_660 : decode cL_law 660 = .ok (.aload_n 0, 1) := by decide +kernel
theorem dL_law_661 : decode cL_law 661 = .ok (.iload_n 3, 1) := by decide +kernel
theorem dL_law_662 : decode cL_law 662 = .ok (.iconst 1, 1) := by decide +kernel
theorem dL_law_663 : decode cL_law 663 = .ok (.iadd, 1) := by decide +kernel
theorem dL_law_664 : decode cL_law 664 = .ok (.iaload, 1) := by decide +kernel
theorem dL_law_665 : decode cL_law 665 = .ok (.invokevirtual 92, 3) := by decide +kernel
theorem dL_law_668 : decode cL_law 668 = .ok (.if_icmp .eq 239, 3) := by decide +kernel
theorem dL_law_671 : decode cL_law 671 = .ok (.iconst 0, 1) := by decide +kernel
theorem dL_law_672 : decode cL_law 672 = .ok (.ireturn, 1) := by decide +kernel
theorem dL_law_673 : decode cL_law 673 = .ok (.aload_n 1, 1) := by decide +kernel
theorem dL_law_674 : decode cL_law 674 = .ok (.aload_n 0, 1) := by decide +kernel
theorem dL_law_675 : decode cL_law 675 = .ok (.iload_n 3, 1) := by decide +kernel
theorem dL_law_676 : decode cL_law 676 = .ok (.iconst 1, 1) := by decide +kernel
theorem dL_law_677 : decode cL_law 677 = .ok (.iadd, 1) := by decide +kernel
theorem dL_law_678 : decode cL_law 678 = .ok (.iaload, 1) := by decide +kernel
theorem dL_law_679 : decode cL_law 679 = .ok (.aload_n 0, 1) := by decide +kernel
theorem dL_law_680 : decode cL_law 680 = .ok (.iload_n 3, 1) := by decide +kernel
theorem dL_law_681 : decode cL_law 681 = .ok (.iconst 2, 1) := by decide +kernel
theorem dL_law_682 : decode cL_law 682 = .ok (.iadd, 1) := by decide +kernel
theorem dL_law_683 : decode cL_law 683 = .ok (.iaload, 1) := by decide +kernel
theorem dL_law_684 : decode cL_law 684 = .ok (.aload_n 0, 1) := by decide +kernel
theorem dL_law_685 : decode cL_law 685 = .ok (.iload_n 3, 1) := by decide +kernel
theorem dL_law_686 : decode cL_law 686 = .ok (.iconst 3, 1) := by decide +kernel
theorem dL_law_687 : decode cL_law 687 = .ok (.iadd, 1) := by decide +kernel
theorem dL_law_688 : decode cL_law 688 = .ok (.iaload, 1) := by decide +kernel
theorem dL_law_689 : decode cL_law 689 = .ok (.invokevirtual 93, 3) := by decide +kernel
theorem dL_law_692 : decode cL_law 692 = .ok (.aload_n 2, 1) := by decide +kernel
theorem dL_law_693 : decode cL_law 693 = .ok (.aload_n 0, 1) := by decide +kernel
theorem dL_law_694 : decode cL_law 694 = .ok (.iload_n 3, 1) := by decide +kernel
theorem dL_law_695 : decode cL_law 695 = .ok (.iconst 1, 1) := by decide +kernel
theorem dL_law_696 : decode cL_law 696 = .ok (.iadd, 1) := by decide +kernel
theorem dL_law_697 : decode cL_law 697 = .ok (.iaload, 1) := by decide +kernel
theorem dL_law_698 : decode cL_law 698 = .ok (.aload_n 0, 1) := by decide +kernel
theorem dL_law_699 : decode cL_law 699 = .ok (.iload_n 3, 1) := by decide +kernel
theorem dL_law_700 : decode cL_law 700 = .ok (.iconst 2, 1) := by decide +kernel
theorem dL_law_701 : decode cL_law 701 = .ok (.iadd, 1) := by decide +kernel
theorem dL_law_702 : decode cL_law 702 = .ok (.iaload, 1) := by decide +kernel
theorem dL_law_703 : decode cL_law 703 = .ok (.aload_n 0, 1) := by decide +kernel
theorem dL_law_704 : decode cL_law 704 = .ok (.iload_n 3, 1) := by decide +kernel
theorem dL_law_705 : decode cL_law 705 = .ok (.iconst 3, 1) := by decide +kernel
theorem dL_law_706 : decode cL_law 706 = .ok (.iadd, 1) := by decide +kernel
theorem dL_law_707 : decode cL_law 707 = .ok (.iaload, 1) := by decide +kernel
theorem dL_law_708 : decode cL_law 708 = .ok (.invokevirtual 96, 3) := by decide +kernel
theorem dL_law_711 : decode cL_law 711 = .ok (.if_icmp .eq 196, 3) := by decide +kernel
theorem dL_law_714 : decode cL_law 714 = .ok (.iconst 0, 1) := by decide +kernel
theorem dL_law_715 : decode cL_law 715 = .ok (.ireturn, 1) := by decide +kernel
theorem dL_law_716 : decode cL_law 716 = .ok (.aload_n 1, 1) := by decide +kernel
theorem dL_law_717 : decode cL_law 717 = .ok (.aload_n 0, 1) := by decide +kernel
theorem dL_law_718 : decode cL_law 718 = .ok (.iload_n 3, 1) := by decide +kernel
theorem dL_law_719 : decode cL_law 719 = .ok (.iconst 1, 1) := by decide +kernel
theorem dL_law_720 : decode cL_law 720 = .ok (.iadd, 1) := by decide +kernel
theorem dL_law_721 : decode cL_law 721 = .ok (.iaload, 1) := by decide +kernel
theorem dL_law_722 : decode cL_law 722 = .ok (.invokevirtual 97, 3) := by decide +kernel
theorem dL_law_725 : decode cL_law 725 = .ok (.aload_n 2, 1) := by decide +kernel
theorem dL_law_726 : decode cL_law 726 = .ok (.aload_n 0, 1) := by decide +kernel
theorem dL_law_727 : decode cL_law 727 = .ok (.iload_n 3, 1) := by decide +kernel
theorem dL_law_728 : decode cL_law 728 = .ok (.iconst 1, 1) := by decide +kernel
theorem dL_law_729 : decode cL_law 729 = .ok (.iadd, 1) := by decide +kernel
theorem dL_law_730 : decode cL_law 730 = .ok (.iaload, 1) := by decide +kernel
theorem dL_law_731 : decode cL_law 731 = .ok (.invokevirtual 100, 3) := by decide +kernel
theorem dL_law_734 : decode cL_law 734 = .ok (.if_icmp .eq 173, 3) := by decide +kernel
theorem dL_law_737 : decode cL_law 737 = .ok (.iconst 0, 1) := by decide +kernel
theorem dL_law_738 : decode cL_law 738 = .ok (.ireturn, 1) := by decide +kernel
theorem dL_law_739 : decode cL_law 739 = .ok (.aload_n 1, 1) := by decide +kernel
theorem dL_law_740 : decode cL_law 740 = .ok (.aload_n 0, 1) := by decide +kernel
theorem dL_law_741 : decode cL_law 741 = .ok (.iload_n 3, 1) := by decide +kernel
theorem dL_law_742 : decode cL_law 742 = .ok (.iconst 1, 1) := by decide +kernel
theorem dL_law_743 : decode cL_law 743 = .ok (.iadd, 1) := by decide +kernel
theorem dL_law_744 : decode cL_law 744 = .ok (.iaload, 1) := by decide +kernel
theorem dL_law_745 : decode cL_law 745 = .ok (.invokevirtual 101, 3) := by decide +kernel
theorem dL_law_748 : decode cL_law 748 = .ok (.aload_n 2, 1) := by decide +kernel
theorem dL_law_749 : decode cL_law 749 = .ok (.aload_n 0, 1) := by decide +kernel
theorem dL_law_750 : decode cL_law 750 = .ok (.iload_n 3, 1) := by decide +kernel
theorem dL_law_751 : decode cL_law 751 = .ok (.iconst 1, 1) := by decide +kernel
theorem dL_law_752 : decode cL_law 752 = .ok (.iadd, 1) := by decide +kernel
theorem dL_law_753 : decode cL_law 753 = .ok (.iaload, 1) := by decide +kernel
theorem dL_law_754 : decode cL_law 754 = .ok (.invokevirtual 104, 3) := by decide +kernel
theorem dL_law_757 : decode cL_law 757 = .ok (.if_icmp .eq 150, 3) := by decide +kernel
theorem dL_law_760 : decode cL_law 760 = .ok (.iconst 0, 1) := by decide +kernel
theorem dL_law_761 : decode cL_law 761 = .ok (.ireturn, 1) := by decide +kernel
theorem dL_law_762 : decode cL_law 762 = .ok (.aload_n 1, 1) := by decide +kernel
theorem dL_law_763 : decode cL_law 763 = .ok (.aload_n 0, 1) := by decide +kernel
theorem dL_law_764 : decode cL_law 764 = .ok (.iload_n 3, 1) := by decide +kernel
theorem dL_law_765 : decode cL_law 765 = .ok (.iconst 1, 1) := by decide +kernel
theorem dL_law_766 : decode cL_law 766 = .ok (.iadd, 1) := by decide +kernel
theorem dL_law_767 : decode cL_law 767 = .ok (.iaload, 1) := by decide +kernel
theorem dL_law_768 : decode cL_law 768 = .ok (.aload_n 0, 1) := by decide +kernel
theorem dL_law_769 : decode cL_law 769 = .ok (.iload_n 3, 1) := by decide +kernel
theorem dL_law_770 : decode cL_law 770 = .ok (.iconst 2, 1) := by decide +kernel
theorem dL_law_771 : decode cL_law 771 = .ok (.iadd, 1) := by decide +kernel
theorem dL_law_772 : decode cL_law 772 = .ok (.iaload, 1) := by decide +kernel
theorem dL_law_773 : decode cL_law 773 = .ok (.invokevirtual 105, 3) := by decide +kernel
theorem dL_law_776 : decode cL_law 776 = .ok (.aload_n 2, 1) := by decide +kernel
theorem dL_law_777 : decode cL_law 777 = .ok (.aload_n 0, 1) := by decide +kernel
theorem dL_law_778 : decode cL_law 778 = .ok (.iload_n 3, 1) := by decide +kernel
theorem dL_law_779 : decode cL_law 779 = .ok (.iconst 1, 1) := by decide +kernel
theorem dL_law_780 : decode cL_law 780 = .ok (.iadd, 1) := by decide +kernel
theorem dL_law_781 : decode cL_law 781 = .ok (.iaload, 1) := by decide +kernel
theorem dL_law_782 : decode cL_law 782 = .ok (.aload_n 0, 1) := by decide +kernel
theorem dL_law_783 : decode cL_law 783 = .ok (.iload_n 3, 1) := by decide +kernel
theorem dL_law_784 : decode cL_law 784 = .ok (.iconst 2, 1) := by decide +kernel
theorem dL_law_785 : decode cL_law 785 = .ok (.iadd, 1) := by decide +kernel
theorem dL_law_786 : decode cL_law 786 = .ok (.iaload, 1) := by decide +kernel
theorem dL_law_787 : decode cL_law 787 = .ok (.invokevirtual 108, 3) := by decide +kernel
theorem dL_law_790 : decode cL_law 790 = .ok (.if_icmp .eq 117, 3) := by decide +kernel
theorem dL_law_793 : decode cL_law 793 = .ok (.iconst 0, 1) := by decide +kernel
theorem dL_law_794 : decode cL_law 794 = .ok (.ireturn, 1) := by decide +kernel
theorem dL_law_795 : decode cL_law 795 = .ok (.aload_n 1, 1) := by decide +kernel
theorem dL_law_796 : decode cL_law 796 = .ok (.aload_n 0, 1) := by decide +kernel
theorem dL_law_797 : decode cL_law 797 = .ok (.iload_n 3, 1) := by decide +kernel
theorem dL_law_798 : decode cL_law 798 = .ok (.iconst 1, 1) := by decide +kernel
theorem dL_law_799 : decode cL_law 799 = .ok (.iadd, 1) := by decide +kernel
theorem dL_law_800 : decode cL_law 800 = .ok (.iaload, 1) := by decide +kernel
theorem dL_law_801 : decode cL_law 801 = .ok (.aload_n 0, 1) := by decide +kernel
theorem dL_law_802 : decode cL_law 802 = .ok (.iload_n 3, 1) := by decide +kernel
theorem dL_law_803 : decode cL_law 803 = .ok (.iconst 2, 1) := by decide +kernel
theorem dL_law_804 : decode cL_law 804 = .ok (.iadd, 1) := by decide +kernel
theorem dL_law_805 : decode cL_law 805 = .ok (.iaload, 1) := by decide +kernel
theorem dL_law_806 : decode cL_law 806 = .ok (.invokevirtual 109, 3) := by decide +kernel
theorem dL_law_809 : decode cL_law 809 = .ok (.aload_n 2, 1) := by decide +kernel
theorem dL_law_810 : decode cL_law 810 = .ok (.aload_n 0, 1) := by decide +kernel
theorem dL_law_811 : decode cL_law 811 = .ok (.iload_n 3, 1) := by decide +kernel
theorem dL_law_812 : decode cL_law 812 = .ok (.iconst 1, 1) := by decide +kernel
theorem dL_law_813 : decode cL_law 813 = .ok (.iadd, 1) := by decide +kernel
theorem dL_law_814 : decode cL_law 814 = .ok (.iaload, 1) := by decide +kernel
theorem dL_law_815 : decode cL_law 815 = .ok (.aload_n 0, 1) := by decide +kernel
theorem dL_law_816 : decode cL_law 816 = .ok (.iload_n 3, 1) := by decide +kernel
theorem dL_law_817 : decode cL_law 817 = .ok (.iconst 2, 1) := by decide +kernel
theorem dL_law_818 : decode cL_law 818 = .ok (.iadd, 1) := by decide +kernel
theorem dL_law_819 : decode cL_law 819 = .ok (.iaload, 1) := by decide +kernel
theorem dL_law_820 : decode cL_law 820 = .ok (.invokevirtual 112, 3) := by decide +kernel
theorem dL_law_823 : decode cL_law 823 = .ok (.if_icmp .eq 84, 3) := by decide +kernel
theorem dL_law_826 : decode cL_law 826 = .ok (.iconst 0, 1) := by decide +kernel
theorem dL_law_827 : decode cL_law 827 = .ok (.ireturn, 1) := by decide +kernel
theorem dL_law_828 : decode cL_law 828 = .ok (.aload_n 1, 1) := by decide +kernel
theorem dL_law_829 : decode cL_law 829 = .ok (.aload_n 0, 1) := by decide +kernel
theorem dL_law_830 : decode cL_law 830 = .ok (.iload_n 3, 1) := by decide +kernel
theorem dL_law_831 : decode cL_law 831 = .ok (.iconst 1, 1) := by decide +kernel
theorem dL_law_832 : decode cL_law 832 = .ok (.iadd, 1) := by decide +kernel
theorem dL_law_833 : decode cL_law 833 = .ok (.iaload, 1) := by decide +kernel
theorem dL_law_834 : decode cL_law 834 = .ok (.aload_n 0, 1) := by decide +kernel
theorem dL_law_835 : decode cL_law 835 = .ok (.iload_n 3, 1) := by decide +kernel
theorem dL_law_836 : decode cL_law 836 = .ok (.iconst 2, 1) := by decide +kernel
theorem dL_law_837 : decode cL_law 837 = .ok (.iadd, 1) := by decide +kernel
theorem dL_law_838 : decode cL_law 838 = .ok (.iaload, 1) := by decide +kernel
theorem dL_law_839 : decode cL_law 839 = .ok (.invokevirtual 113, 3) := by decide +kernel
theorem dL_law_842 : decode cL_law 842 = .ok (.aload_n 2, 1) := by decide +kernel
theorem dL_law_843 : decode cL_law 843 = .ok (.aload_n 0, 1) := by decide +kernel
theorem dL_law_844 : decode cL_law 844 = .ok (.iload_n 3, 1) := by decide +kernel
theorem dL_law_845 : decode cL_law 845 = .ok (.iconst 1, 1) := by decide +kernel
theorem dL_law_846 : decode cL_law 846 = .ok (.iadd, 1) := by decide +kernel
theorem dL_law_847 : decode cL_law 847 = .ok (.iaload, 1) := by decide +kernel
theorem dL_law_848 : decode cL_law 848 = .ok (.aload_n 0, 1) := by decide +kernel
theorem dL_law_849 : decode cL_law 849 = .ok (.iload_n 3, 1) := by decide +kernel
theorem dL_law_850 : decode cL_law 850 = .ok (.iconst 2, 1) := by decide +kernel
theorem dL_law_851 : decode cL_law 851 = .ok (.iadd, 1) := by decide +kernel
theorem dL_law_852 : decode cL_law 852 = .ok (.iaload, 1) := by decide +kernel
theorem dL_law_853 : decode cL_law 853 = .ok (.invokevirtual 116, 3) := by decide +kernel
theorem dL_law_856 : decode cL_law 856 = .ok (.if_icmp .eq 51, 3) := by decide +kernel
theorem dL_law_859 : decode cL_law 859 = .ok (.iconst 0, 1) := by decide +kernel
theorem dL_law_860 : decode cL_law 860 = .ok (.ireturn, 1) := by decide +kernel
theorem dL_law_861 : decode cL_law 861 = .ok (.aload_n 1, 1) := by decide +kernel
theorem dL_law_862 : decode cL_law 862 = .ok (.aload_n 0, 1) := by decide +kernel
theorem dL_law_863 : decode cL_law 863 = .ok (.iload_n 3, 1) := by decide +kernel
theorem dL_law_864 : decode cL_law 864 = .ok (.iconst 1, 1) := by decide +kernel
theorem dL_law_865 : decode cL_law 865 = .ok (.iadd, 1) := by decide +kernel
theorem dL_law_866 : decode cL_law 866 = .ok (.iaload, 1) := by decide +kernel
theorem dL_law_867 : decode cL_law 867 = .ok (.aload_n 0, 1) := by decide +kernel
theorem dL_law_868 : decode cL_law 868 = .ok (.iload_n 3, 1) := by decide +kernel
theorem dL_law_869 : decode cL_law 869 = .ok (.iconst 2, 1) := by decide +kernel
theorem dL_law_870 : decode cL_law 870 = .ok (.iadd, 1) := by decide +kernel
theorem dL_law_871 : decode cL_law 871 = .ok (.iaload, 1) := by decide +kernel
theorem dL_law_872 : decode cL_law 872 = .ok (.invokevirtual 117, 3) := by decide +kernel
theorem dL_law_875 : decode cL_law 875 = .ok (.aload_n 2, 1) := by decide +kernel
theorem dL_law_876 : decode cL_law 876 = .ok (.aload_n 0, 1) := by decide +kernel
theorem dL_law_877 : decode cL_law 877 = .ok (.iload_n 3, 1) := by decide +kernel
theorem dL_law_878 : decode cL_law 878 = .ok (.iconst 1, 1) := by decide +kernel
theorem dL_law_879 : decode cL_law 879 = .ok (.iadd, 1) := by decide +kernel
theorem dL_law_880 : decode cL_law 880 = .ok (.iaload, 1) := by decide +kernel
theorem dL_law_881 : decode cL_law 881 = .ok (.aload_n 0, 1) := by decide +kernel
theorem dL_law_882 : decode cL_law 882 = .ok (.iload_n 3, 1) := by decide +kernel
theorem dL_law_883 : decode cL_law 883 = .ok (.iconst 2, 1) := by decide +kernel
theorem dL_law_884 : decode cL_law 884 = .ok (.iadd, 1) := by decide +kernel
theorem dL_law_885 : decode cL_law 885 = .ok (.iaload, 1) := by decide +kernel
theorem dL_law_886 : decode cL_law 886 = .ok (.invokevirtual 120, 3) := by decide +kernel
theorem dL_law_889 : decode cL_law 889 = .ok (.if_icmp .eq 18, 3) := by decide +kernel
theorem dL_law_892 : decode cL_law 892 = .ok (.iconst 0, 1) := by decide +kernel
theorem dL_law_893 : decode cL_law 893 = .ok (.ireturn, 1) := by decide +kernel
theorem dL_law_894 : decode cL_law 894 = .ok (.aload_n 1, 1) := by decide +kernel
theorem dL_law_895 : decode cL_law 895 = .ok (.invokevirtual 121, 3) := by decide +kernel
theorem dL_law_898 : decode cL_law 898 = .ok (.aload_n 2, 1) := by decide +kernel
theorem dL_law_899 : decode cL_law 899 = .ok (.invokevirtual 124, 3) := by decide +kernel
theorem dL_law_902 : decode cL_law 902 = .ok (.if_icmp .eq 5, 3) := by decide +kernel
theorem dL_law_905 : decode cL_law 905 = .ok (.iconst 0, 1) := by decide +kernel
theorem dL_law_906 : decode cL_law 906 = .ok (.ireturn, 1) := by decide +kernel
theorem dL_law_907 : decode cL_law 907 = .ok (.iinc 3 4, 3) := by decide +kernel
theorem dL_law_910 : decode cL_law 910 = .ok (.goto (-892), 3) := by decide +kernel
theorem dL_law_913 : decode cL_law 913 = .ok (.iconst 1, 1) := by decide +kernel
theorem dL_law_914 : decode cL_law 914 = .ok (.ireturn, 1) := by decide +kernel
