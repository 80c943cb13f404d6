theorem dX0_init_0 : decode cX0_init 0 = .ok (.aload_n 0, 1) := by decide +kernel
theorem dX0_init_1 : decode cX0_init 1 = .ok (.invokespecial 3, 3) := by decide +kernel
theorem dX0_init_4 : decode cX0_init 4 = .ok (.aload_n 0, 1) := by decide +kernel
theorem dX0_init_5 : decode cX0_init 5 = .ok (.bipush 20, 2) := by decide +kernel
theorem dX0_init_7 : decode cX0_init 7 = .ok (.putfield 9, 3) := by decide +kernel
theorem dX0_init_10 : decode cX0_init 10 = .ok (.aload_n 0, 1) := by decide +kernel
theorem dX0_init_11 : decode cX0_init 11 = .ok (.bipush 40, 2) := by decide +kernel
theorem dX0_init_13 : decode cX0_init 13 = .ok (.newarray .int, 2) := by decide +kernel
theorem dX0_init_15 : decode cX0_init 15 = .ok (.putfield 15, 3) := by decide +kernel
theorem dX0_init_18 : decode cX0_init 18 = .ok (.aload_n 0, 1) := by decide +kernel
theorem dX0_init_19 : decode cX0_init 19 = .ok (.bipush 40, 2) := by decide +kernel
theorem dX0_init_21 : decode cX0_init 21 = .ok (.newarray .int, 2) := by decide +kernel
theorem dX0_init_23 : decode cX0_init 23 = .ok (.putfield 19, 3) := by decide +kernel
theorem dX0_init_26 : decode cX0_init 26 = .ok (.aload_n 0, 1) := by decide +kernel
theorem dX0_init_27 : decode cX0_init 27 = .ok (.bipush 40, 2) := by decide +kernel
theorem dX0_init_29 : decode cX0_init 29 = .ok (.newarray .int, 2) := by decide +kernel
theorem dX0_init_31 : decode cX0_init 31 = .ok (.putfield 22, 3) := by decide +kernel
theorem dX0_init_34 : decode cX0_init 34 = .ok (.aload_n 0, 1) := by decide +kernel
theorem dX0_init_35 : decode cX0_init 35 = .ok (.bipush 40, 2) := by decide +kernel
theorem dX0_init_37 : decode cX0_init 37 = .ok (.newarray .int, 2) := by decide +kernel
theorem dX0_init_39 : decode cX0_init 39 = .ok (.putfield 25, 3) := by decide +kernel
theorem dX0_init_42 : decode cX0_init 42 = .ok (.aload_n 0, 1) := by decide +kernel
theorem dX0_init_43 : decode cX0_init 43 = .ok (.sipush 280, 3) := by decide +kernel
theorem dX0_init_46 : decode cX0_init 46 = .ok (.newarray .int, 2) := by decide +kernel
theorem dX0_init_48 : decode cX0_init 48 = .ok (.putfield 28, 3) := by decide +kernel
theorem dX0_init_51 : decode cX0_init 51 = .ok (.return_, 1) := by decide +kernel
theorem dX0_copyFrom_0 : decode cX0_copyFrom 0 = .ok (.aload_n 0, 1) := by decide +kernel
theorem dX0_copyFrom_1 : decode cX0_copyFrom 1 = .ok (.aload_n 1, 1) := by decide +kernel
theorem dX0_copyFrom_2 : decode cX0_copyFrom 2 = .ok (.getfield 9, 3) := by decide +kernel
theorem dX0_copyFrom_5 : decode cX0_copyFrom 5 = .ok (.putfield 9, 3) := by decide +kernel
theorem dX0_copyFrom_8 : decode cX0_copyFrom 8 = .ok (.aload_n 1, 1) := by decide +kernel
theorem dX0_copyFrom_9 : decode cX0_copyFrom 9 = .ok (.getfield 15, 3) := by decide +kernel
theorem dX0_copyFrom_12 : decode cX0_copyFrom 12 = .ok (.aload_n 0, 1) := by decide +kernel
theorem dX0_copyFrom_13 : decode cX0_copyFrom 13 = .ok (.getfield 15, 3) := by decide +kernel
theorem dX0_copyFrom_16 : decode cX0_copyFrom 16 = .ok (.invokestatic 31, 3) := by decide +kernel
theorem dX0_copyFrom_19 : decode cX0_copyFrom 19 = .ok (.aload_n 1, 1) := by decide +kernel
theorem dX0_copyFrom_20 : decode cX0_copyFrom 20 = .ok (.getfield 19, 3) := by decide +kernel
theorem dX0_copyFrom_23 : decode cX0_copyFrom 23 = .ok (.aload_n 0, 1) := by decide +kernel
theorem dX0_copyFrom_24 : decode cX0_copyFrom 24 = .ok (.getfield 19, 3) := by decide +kernel
theorem dX0_copyFrom_27 : decode cX0_copyFrom 27 = .ok (.invokestatic 31, 3) := by decide +kernel
theorem dX0_copyFrom_30 : decode cX0_copyFrom 30 = .ok (.aload_n 1, 1) := by decide +kernel
theorem dX0_copyFrom_31 : decode cX0_copyFrom 31 = .ok (.getfield 22, 3) := by decide +kernel
theorem dX0_copyFrom_34 : decode cX0_copyFrom 34 = .ok (.aload_n 0, 1) := by decide +kernel
theorem dX0_copyFrom_35 : decode cX0_copyFrom 35 = .ok (.getfield 22, 3) := by decide +kernel
theorem dX0_copyFrom_38 : decode cX0_copyFrom 38 = .ok (.invokestatic 31, 3) := by decide +kernel
theorem dX0_copyFrom_41 : decode cX0_copyFrom 41 = .ok (.aload_n 1, 1) := by decide +kernel
theorem dX0_copyFrom_42 : decode cX0_copyFrom 42 = .ok (.getfield 25, 3) := by decide +kernel
theorem dX0_copyFrom_45 : decode cX0_copyFrom 45 = .ok (.aload_n 0, 1) := by decide +kernel
theorem dX0_copyFrom_46 : decode cX0_copyFrom 46 = .ok (.getfield 25, 3) := by decide +kernel
theorem dX0_copyFrom_49 : decode cX0_copyFrom 49 = .ok (.invokestatic 31, 3) := by decide +kernel
theorem dX0_copyFrom_52 : decode cX0_copyFrom 52 = .ok (.aload_n 1, 1) := by decide +kernel
theorem dX0_copyFrom_53 : decode cX0_copyFrom 53 = .ok (.getfield 28, 3) := by decide +kernel
theorem dX0_copyFrom_56 : decode cX0_copyFrom 56 = .ok (.aload_n 0, 1) := by decide +kernel
theorem dX0_copyFrom_57 : decode cX0_copyFrom 57 = .ok (.getfield 28, 3) := by decide +kernel
theorem dX0_copyFrom_60 : decode cX0_copyFrom 60 = .ok (.invokestatic 31, 3) := by decide +kernel
theorem dX0_copyFrom_63 : decode cX0_copyFrom 63 = .ok (.return_, 1) := by decide +kernel
theorem dX0_renew_0 : decode cX0_renew 0 = .ok (.aload_n 0, 1) := by decide +kernel
theorem dX0_renew_1 : decode cX0_renew 1 = .ok (.iload_n 1, 1) := by decide +kernel
theorem dX0_renew_2 : decode cX0_renew 2 = .ok (.putfield 9, 3) := by decide +kernel
theorem dX0_renew_5 : decode cX0_renew 5 = .ok (.aload_n 0, 1) := by decide +kernel
theorem dX0_renew_6 : decode cX0_renew 6 = .ok (.getfield 15, 3) := by decide +kernel
theorem dX0_renew_9 : decode cX0_renew 9 = .ok (.iconst 0, 1) := by decide +kernel
theorem dX0_renew_10 : decode cX0_renew 10 = .ok (.invokestatic 35, 3) := by decide +kernel
theorem dX0_renew_13 : decode cX0_renew 13 = .ok (.aload_n 0, 1) := by decide +kernel
theorem dX0_renew_14 : decode cX0_renew 14 = .ok (.getfield 19, 3) := by decide +kernel
theorem dX0_renew_17 : decode cX0_renew 17 = .ok (.iconst 0, 1) := by decide +kernel
theorem dX0_renew_18 : decode cX0_renew 18 = .ok (.invokestatic 35, 3) := by decide +kernel
theorem dX0_renew_21 : decode cX0_renew 21 = .ok (.aload_n 0, 1) := by decide +kernel
theorem dX0_renew_22 : decode cX0_renew 22 = .ok (.getfield 22, 3) := by decide +kernel
theorem dX0_renew_25 : decode cX0_renew 25 = .ok (.iconst 0, 1) := by decide +kernel
theorem dX0_renew_26 : decode cX0_renew 26 = .ok (.invokestatic 35, 3) := by decide +kernel
theorem dX0_renew_29 : decode cX0_renew 29 = .ok (.aload_n 0, 1) := by decide +kernel
theorem dX0_renew_30 : decode cX0_renew 30 = .ok (.getfield 25, 3) := by decide +kernel
theorem dX0_renew_33 : decode cX0_renew 33 = .ok (.iconst 0, 1) := by decide +kernel
theorem dX0_renew_34 : decode cX0_renew 34 = .ok (.invokestatic 35, 3) := by decide +kernel
theorem dX0_renew_37 : decode cX0_renew 37 = .ok (.aload_n 0, 1) := by decide +kernel
theorem dX0_renew_38 : decode cX0_renew 38 = .ok (.getfield 28, 3) := by decide +kernel
theorem dX0_renew_41 : decode cX0_renew 41 = .ok (.iconst 0, 1) := by decide +kernel
theorem dX0_renew_42 : decode cX0_renew 42 = .ok (.invokestatic 35, 3) := by decide +kernel
theorem dX0_renew_45 : decode cX0_renew 45 = .ok (.return_, 1) := by decide +kernel
theorem dX0_hasColumn_0 : decode cX0_hasColumn 0 = .ok (.iload_n 1, 1) := by decide +kernel
theorem dX0_hasColumn_1 : decode cX0_hasColumn 1 = .ok (.ifCond .lt 21, 3) := by decide +kernel
theorem dX0_hasColumn_4 : decode cX0_hasColumn 4 = .ok (.iload_n 1, 1) := by decide +kernel
theorem dX0_hasColumn_5 : decode cX0_hasColumn 5 = .ok (.aload_n 0, 1) := by decide +kernel
theorem dX0_hasColumn_6 : decode cX0_hasColumn 6 = .ok (.getfield 9, 3) := by decide +kernel
theorem dX0_hasColumn_9 : decode cX0_hasColumn 9 = .ok (.if_icmp .ge 13, 3) := by decide +kernel
theorem dX0_hasColumn_12 : decode cX0_hasColumn 12 = .ok (.iload_n 1, 1) := by decide +kernel
theorem dX0_hasColumn_13 : decode cX0_hasColumn 13 = .ok (.bipush 40, 2) := by decide +kernel
theorem dX0_hasColumn_15 : decode cX0_hasColumn 15 = .ok (.if_icmp .ge 7, 3) := by decide +kernel
theorem dX0_hasColumn_18 : decode cX0_hasColumn 18 = .ok (.iconst 1, 1) := by decide +kernel
theorem dX0_hasColumn_19 : decode cX0_hasColumn 19 = .ok (.goto 4, 3) := by decide +kernel
theorem dX0_hasColumn_22 : decode cX0_hasColumn 22 = .ok (.iconst 0, 1) := by decide +kernel
theorem dX0_hasColumn_23 : decode cX0_hasColumn 23 = .ok (.ireturn, 1) := by decide +kernel
theorem dX0_hasDot_0 : decode cX0_hasDot 0 = .ok (.aload_n 0, 1) := by decide +kernel
theorem dX0_hasDot_1 : decode cX0_hasDot 1 = .ok (.iload_n 1, 1) := by decide +kernel
theorem dX0_hasDot_2 : decode cX0_hasDot 2 = .ok (.invokevirtual 41, 3) := by decide +kernel
theorem dX0_hasDot_5 : decode cX0_hasDot 5 = .ok (.ifCond .eq 17, 3) := by decide +kernel
theorem dX0_hasDot_8 : decode cX0_hasDot 8 = .ok (.iload_n 2, 1) := by decide +kernel
theorem dX0_hasDot_9 : decode cX0_hasDot 9 = .ok (.ifCond .lt 13, 3) := by decide +kernel
theorem dX0_hasDot_12 : decode cX0_hasDot 12 = .ok (.iload_n 2, 1) := by decide +kernel
theorem dX0_hasDot_13 : decode cX0_hasDot 13 = .ok (.bipush 7, 2) := by decide +kernel
theorem dX0_hasDot_15 : decode cX0_hasDot 15 = .ok (.if_icmp .ge 7, 3) := by decide +kernel
theorem dX0_hasDot_18 : decode cX0_hasDot 18 = .ok (.iconst 1, 1) := by decide +kernel
theorem dX0_hasDot_19 : decode cX0_hasDot 19 = .ok (.goto 4, 3) := by decide +kernel
theorem dX0_hasDot_22 : decode cX0_hasDot 22 = .ok (.iconst 0, 1) := by decide +kernel
theorem dX0_hasDot_23 : decode cX0_hasDot 23 = .ok (.ireturn, 1) := by decide +kernel
theorem dX0_aimAt_0 : decode cX0_aimAt 0 = .ok (.aload_n 1, 1) := by decide +kernel
theorem dX0_aimAt_1 : decode cX0_aimAt 1 = .ok (.aload_n 0, 1) := by decide +kernel
theorem dX0_aimAt_2 : decode cX0_aimAt 2 = .ok (.getfield 19, 3) := by decide +kernel
theorem dX0_aimAt_5 : decode cX0_aimAt 5 = .ok (.invokestatic 31, 3) := by decide +kernel
theorem dX0_aimAt_8 : decode cX0_aimAt 8 = .ok (.return_, 1) := by decide +kernel
theorem dX0_aimAtDark_0 : decode cX0_aimAtDark 0 = .ok (.aload_n 0, 1) := by decide +kernel
theorem dX0_aimAtDark_1 : decode cX0_aimAtDark 1 = .ok (.getfield 19, 3) := by decide +kernel
theorem dX0_aimAtDark_4 : decode cX0_aimAtDark 4 = .ok (.iconst 0, 1) := by decide +kernel
theorem dX0_aimAtDark_5 : decode cX0_aimAtDark 5 = .ok (.invokestatic 35, 3) := by decide +kernel
theorem dX0_aimAtDark_8 : decode cX0_aimAtDark 8 = .ok (.return_, 1) := by decide +kernel
theorem dX0_dueBits_0 : decode cX0_dueBits 0 = .ok (.aload_n 0, 1) := by decide +kernel
theorem dX0_dueBits_1 : decode cX0_dueBits 1 = .ok (.iload_n 1, 1) := by decide +kernel
theorem dX0_dueBits_2 : decode cX0_dueBits 2 = .ok (.invokevirtual 41, 3) := by decide +kernel
theorem dX0_dueBits_5 : decode cX0_dueBits 5 = .ok (.ifCond .eq 28, 3) := by decide +kernel
theorem dX0_dueBits_8 : decode cX0_dueBits 8 = .ok (.aload_n 0, 1) := by decide +kernel
theorem dX0_dueBits_9 : decode cX0_dueBits 9 = .ok (.getfield 19, 3) := by decide +kernel
theorem dX0_dueBits_12 : decode cX0_dueBits 12 = .ok (.iload_n 1, 1) := by decide +kernel
theorem dX0_dueBits_13 : decode cX0_dueBits 13 = .ok (.iaload, 1) := by decide +kernel
theorem dX0_dueBits_14 : decode cX0_dueBits 14 = .ok (.aload_n 0, 1) := by decide +kernel
theorem dX0_dueBits_15 : decode cX0_dueBits 15 = .ok (.getfield 15, 3) := by decide +kernel
theorem dX0_dueBits_18 : decode cX0_dueBits 18 = .ok (.iload_n 1, 1) := by decide +kernel
theorem dX0_dueBits_19 : decode cX0_dueBits 19 = .ok (.iaload, 1) := by decide +kernel
theorem dX0_dueBits_20 : decode cX0_dueBits 20 = .ok (.ixor, 1) := by decide +kernel
theorem dX0_dueBits_21 : decode cX0_dueBits 21 = .ok (.aload_n 0, 1) := by decide +kernel
theorem dX0_dueBits_22 : decode cX0_dueBits 22 = .ok (.getfield 25, 3) := by decide +kernel
theorem dX0_dueBits_25 : decode cX0_dueBits 25 = .ok (.iload_n 1, 1) := by decide +kernel
theorem dX0_dueBits_26 : decode cX0_dueBits 26 = .ok (.iaload, 1) := by decide +kernel
theorem dX0_dueBits_27 : decode cX0_dueBits 27 = .ok (.iconst (-1), 1) := by decide +kernel
theorem dX0_dueBits_28 : decode cX0_dueBits 28 = .ok (.ixor, 1) := by decide +kernel
theorem dX0_dueBits_29 : decode cX0_dueBits 29 = .ok (.iand, 1) := by decide +kernel
theorem dX0_dueBits_30 : decode cX0_dueBits 30 = .ok (.goto 4, 3) := by decide +kernel
theorem dX0_dueBits_33 : decode cX0_dueBits 33 = .ok (.iconst 0, 1) := by decide +kernel
theorem dX0_dueBits_34 : decode cX0_dueBits 34 = .ok (.ireturn, 1) := by decide +kernel
theorem dX0_dueDots_0 : decode cX0_dueDots 0 = .ok (.aload_n 0, 1) := by decide +kernel
theorem dX0_dueDots_1 : decode cX0_dueDots 1 = .ok (.aload_n 0, 1) := by decide +kernel
theorem dX0_dueDots_2 : decode cX0_dueDots 2 = .ok (.getfield 19, 3) := by decide +kernel
theorem dX0_dueDots_5 : decode cX0_dueDots 5 = .ok (.aload_n 0, 1) := by decide +kernel
theorem dX0_dueDots_6 : decode cX0_dueDots 6 = .ok (.getfield 15, 3) := by decide +kernel
theorem dX0_dueDots_9 : decode cX0_dueDots 9 = .ok (.invokevirtual 45, 3) := by decide +kernel
theorem dX0_dueDots_12 : decode cX0_dueDots 12 = .ok (.ireturn, 1) := by decide +kernel
theorem dX0_differing_0 : decode cX0_differing 0 = .ok (.iconst 0, 1) := by decide +kernel
theorem dX0_differing_1 : decode cX0_differing 1 = .ok (.istore_n 3, 1) := by decide +kernel
theorem dX0_differing_2 : decode cX0_differing 2 = .ok (.iconst 0, 1) := by decide +kernel
theorem dX0_differing_3 : decode cX0_differing 3 = .ok (.istore 4, 2) := by decide +kernel
theorem dX0_differing_5 : decode cX0_differing 5 = .ok (.iload 4, 2) := by decide +kernel
theorem dX0_differing_7 : decode cX0_differing 7 = .ok (.bipush 40, 2) := by decide +kernel
theorem dX0_differing_9 : decode cX0_differing 9 = .ok (.if_icmp .ge 52, 3) := by decide +kernel
theorem dX0_differing_12 : decode cX0_differing 12 = .ok (.iload 4, 2) := by decide +kernel
theorem dX0_differing_14 : decode cX0_differing 14 = .ok (.aload_n 1, 1) := by decide +kernel
theorem dX0_differing_15 : decode cX0_differing 15 = .ok (.arraylength, 1) := by decide +kernel
theorem dX0_differing_16 : decode cX0_differing 16 = .ok (.if_icmp .ge 39, 3) := by decide +kernel
theorem dX0_differing_19 : decode cX0_differing 19 = .ok (.iload 4, 2) := by decide +kernel
theorem dX0_differing_21 : decode cX0_differing 21 = .ok (.aload_n 2, 1) := by decide +kernel
theorem dX0_differing_22 : decode cX0_differing 22 = .ok (.arraylength, 1) := by decide +kernel
theorem dX0_differing_23 : decode cX0_differing 23 = .ok (.if_icmp .ge 32, 3) := by decide +kernel
theorem dX0_differing_26 : decode cX0_differing 26 = .ok (.aload_n 1, 1) := by decide +kernel
theorem dX0_differing_27 : decode cX0_differing 27 = .ok (.iload 4, 2) := by decide +kernel
theorem dX0_differing_29 : decode cX0_differing 29 = .ok (.iaload, 1) := by decide +kernel
theorem dX0_differing_30 : decode cX0_differing 30 = .ok (.aload_n 2, 1) := by decide +kernel
theorem dX0_differing_31 : decode cX0_differing 31 = .ok (.iload 4, 2) := by decide +kernel
theorem dX0_differing_33 : decode cX0_differing 33 = .ok (.iaload, 1) := by decide +kernel
theorem dX0_differing_34 : decode cX0_differing 34 = .ok (.ixor, 1) := by decide +kernel
theorem dX0_differing_35 : decode cX0_differing 35 = .ok (.istore 5, 2) := by decide +kernel
theorem dX0_differing_37 : decode cX0_differing 37 = .ok (.iload_n 3, 1) := by decide +kernel
theorem dX0_differing_38 : decode cX0_differing 38 = .ok (.iload 5, 2) := by decide +kernel
theorem dX0_differing_40 : decode cX0_differing 40 = .ok (.aload_n 0, 1) := by decide +kernel
theorem dX0_differing_41 : decode cX0_differing 41 = .ok (.getfield 25, 3) := by decide +kernel
theorem dX0_differing_44 : decode cX0_differing 44 = .ok (.iload 4, 2) := by decide +kernel
theorem dX0_differing_46 : decode cX0_differing 46 = .ok (.iaload, 1) := by decide +kernel
theorem dX0_differing_47 : decode cX0_differing 47 = .ok (.iconst (-1), 1) := by decide +kernel
theorem dX0_differing_48 : decode cX0_differing 48 = .ok (.ixor, 1) := by decide +kernel
theorem dX0_differing_49 : decode cX0_differing 49 = .ok (.iand, 1) := by decide +kernel
theorem dX0_differing_50 : decode cX0_differing 50 = .ok (.invokestatic 49, 3) := by decide +kernel
theorem dX0_differing_53 : decode cX0_differing 53 = .ok (.iadd, 1) := by decide +kernel
theorem dX0_differing_54 : decode cX0_differing 54 = .ok (.istore_n 3, 1) := by decide +kernel
theorem dX0_differing_55 : decode cX0_differing 55 = .ok (.iinc 4 1, 3) := by decide +kernel
theorem dX0_differing_58 : decode cX0_differing 58 = .ok (.goto (-53), 3) := by decide +kernel
theorem dX0_differing_61 : decode cX0_differing 61 = .ok (.iload_n 3, 1) := by decide +kernel
theorem dX0_differing_62 : decode cX0_differing 62 = .ok (.ireturn, 1) := by decide +kernel
theorem dX0_stuckDots_0 : decode cX0_stuckDots 0 = .ok (.aload_n 0, 1) := by decide +kernel
theorem dX0_stuckDots_1 : decode cX0_stuckDots 1 = .ok (.getfield 22, 3) := by decide +kernel
theorem dX0_stuckDots_4 : decode cX0_stuckDots 4 = .ok (.invokestatic 55, 3) := by decide +kernel
theorem dX0_stuckDots_7 : decode cX0_stuckDots 7 = .ok (.ireturn, 1) := by decide +kernel
theorem dX0_knownDots_0 : decode cX0_knownDots 0 = .ok (.aload_n 0, 1) := by decide +kernel
theorem dX0_knownDots_1 : decode cX0_knownDots 1 = .ok (.getfield 25, 3) := by decide +kernel
theorem dX0_knownDots_4 : decode cX0_knownDots 4 = .ok (.invokestatic 55, 3) := by decide +kernel
theorem dX0_knownDots_7 : decode cX0_knownDots 7 = .ok (.ireturn, 1) := by decide +kernel
theorem dX0_dotsIn_0 : decode cX0_dotsIn 0 = .ok (.iconst 0, 1) := by decide +kernel
theorem dX0_dotsIn_1 : decode cX0_dotsIn 1 = .ok (.istore_n 1, 1) := by decide +kernel
theorem dX0_dotsIn_2 : decode cX0_dotsIn 2 = .ok (.iconst 0, 1) := by decide +kernel
theorem dX0_dotsIn_3 : decode cX0_dotsIn 3 = .ok (.istore_n 2, 1) := by decide +kernel
theorem dX0_dotsIn_4 : decode cX0_dotsIn 4 = .ok (.iload_n 2, 1) := by decide +kernel
theorem dX0_dotsIn_5 : decode cX0_dotsIn 5 = .ok (.aload_n 0, 1) := by decide +kernel
theorem dX0_dotsIn_6 : decode cX0_dotsIn 6 = .ok (.arraylength, 1) := by decide +kernel
theorem dX0_dotsIn_7 : decode cX0_dotsIn 7 = .ok (.if_icmp .ge 18, 3) := by decide +kernel
theorem dX0_dotsIn_10 : decode cX0_dotsIn 10 = .ok (.iload_n 1, 1) := by decide +kernel
theorem dX0_dotsIn_11 : decode cX0_dotsIn 11 = .ok (.aload_n 0, 1) := by decide +kernel
theorem dX0_dotsIn_12 : decode cX0_dotsIn 12 = .ok (.iload_n 2, 1) := by decide +kernel
theorem dX0_dotsIn_13 : decode cX0_dotsIn 13 = .ok (.iaload, 1) := by decide +kernel
theorem dX0_dotsIn_14 : decode cX0_dotsIn 14 = .ok (.invokestatic 49, 3) := by decide +kernel
theorem dX0_dotsIn_17 : decode cX0_dotsIn 17 = .ok (.iadd, 1) := by decide +kernel
theorem dX0_dotsIn_18 : decode cX0_dotsIn 18 = .ok (.istore_n 1, 1) := by decide +kernel
theorem dX0_dotsIn_19 : decode cX0_dotsIn 19 = .ok (.iinc 2 1, 3) := by decide +kernel
theorem dX0_dotsIn_22 : decode cX0_dotsIn 22 = .ok (.goto (-18), 3) := by decide +kernel
theorem dX0_dotsIn_25 : decode cX0_dotsIn 25 = .ok (.iload_n 1, 1) := by decide +kernel
theorem dX0_dotsIn_26 : decode cX0_dotsIn 26 = .ok (.ireturn, 1) := by decide +kernel
theorem dX0_otherDots_0 : decode cX0_otherDots 0 = .ok (.iconst 0, 1) := by decide +kernel
theorem dX0_otherDots_1 : decode cX0_otherDots 1 = .ok (.istore_n 1, 1) := by decide +kernel
theorem dX0_otherDots_2 : decode cX0_otherDots 2 = .ok (.iconst 0, 1) := by decide +kernel
theorem dX0_otherDots_3 : decode cX0_otherDots 3 = .ok (.istore_n 2, 1) := by decide +kernel
theorem dX0_otherDots_4 : decode cX0_otherDots 4 = .ok (.iload_n 2, 1) := by decide +kernel
theorem dX0_otherDots_5 : decode cX0_otherDots 5 = .ok (.bipush 40, 2) := by decide +kernel
theorem dX0_otherDots_7 : decode cX0_otherDots 7 = .ok (.if_icmp .ge 28, 3) := by decide +kernel
theorem dX0_otherDots_10 : decode cX0_otherDots 10 = .ok (.iload_n 1, 1) := by decide +kernel
theorem dX0_otherDots_11 : decode cX0_otherDots 11 = .ok (.aload_n 0, 1) := by decide +kernel
theorem dX0_otherDots_12 : decode cX0_otherDots 12 = .ok (.getfield 19, 3) := by decide +kernel
theorem dX0_otherDots_15 : decode cX0_otherDots 15 = .ok (.iload_n 2, 1) := by decide +kernel
theorem dX0_otherDots_16 : decode cX0_otherDots 16 = .ok (.iaload, 1) := by decide +kernel
theorem dX0_otherDots_17 : decode cX0_otherDots 17 = .ok (.aload_n 0, 1) := by decide +kernel
theorem dX0_otherDots_18 : decode cX0_otherDots 18 = .ok (.getfield 15, 3) := by decide +kernel
theorem dX0_otherDots_21 : decode cX0_otherDots 21 = .ok (.iload_n 2, 1) := by decide +kernel
theorem dX0_otherDots_22 : decode cX0_otherDots 22 = .ok (.iaload, 1) := by decide +kernel
theorem dX0_otherDots_23 : decode cX0_otherDots 23 = .ok (.ixor, 1) := by decide +kernel
theorem dX0_otherDots_24 : decode cX0_otherDots 24 = .ok (.invokestatic 49, 3) := by decide +kernel
theorem dX0_otherDots_27 : decode cX0_otherDots 27 = .ok (.iadd, 1) := by decide +kernel
theorem dX0_otherDots_28 : decode cX0_otherDots 28 = .ok (.istore_n 1, 1) := by decide +kernel
theorem dX0_otherDots_29 : decode cX0_otherDots 29 = .ok (.iinc 2 1, 3) := by decide +kernel
theorem dX0_otherDots_32 : decode cX0_otherDots 32 = .ok (.goto (-28), 3) := by decide +kernel
theorem dX0_otherDots_35 : decode cX0_otherDots 35 = .ok (.iload_n 1, 1) := by decide +kernel
theorem dX0_otherDots_36 : decode cX0_otherDots 36 = .ok (.ireturn, 1) := by decide +kernel
theorem dX0_knownAgainst_0 : decode cX0_knownAgainst 0 = .ok (.iconst 0, 1) := by decide +kernel
theorem dX0_knownAgainst_1 : decode cX0_knownAgainst 1 = .ok (.istore_n 2, 1) := by decide +kernel
theorem dX0_knownAgainst_2 : decode cX0_knownAgainst 2 = .ok (.iconst 0, 1) := by decide +kernel
theorem dX0_knownAgainst_3 : decode cX0_knownAgainst 3 = .ok (.istore_n 3, 1) := by decide +kernel
theorem dX0_knownAgainst_4 : decode cX0_knownAgainst 4 = .ok (.iload_n 3, 1) := by decide +kernel
theorem dX0_knownAgainst_5 : decode cX0_knownAgainst 5 = .ok (.bipush 40, 2) := by decide +kernel
theorem dX0_knownAgainst_7 : decode cX0_knownAgainst 7 = .ok (.if_icmp .ge 42, 3) := by decide +kernel
theorem dX0_knownAgainst_10 : decode cX0_knownAgainst 10 = .ok (.iload_n 3, 1) := by decide +kernel
theorem dX0_knownAgainst_11 : decode cX0_knownAgainst 11 = .ok (.aload_n 1, 1) := by decide +kernel
theorem dX0_knownAgainst_12 : decode cX0_knownAgainst 12 = .ok (.arraylength, 1) := by decide +kernel
theorem dX0_knownAgainst_13 : decode cX0_knownAgainst 13 = .ok (.if_icmp .ge 36, 3) := by decide +kernel
theorem dX0_knownAgainst_16 : decode cX0_knownAgainst 16 = .ok (.aload_n 1, 1) := by decide +kernel
theorem dX0_knownAgainst_17 : decode cX0_knownAgainst 17 = .ok (.iload_n 3, 1) := by decide +kernel
theorem dX0_knownAgainst_18 : decode cX0_knownAgainst 18 = .ok (.iaload, 1) := by decide +kernel
theorem dX0_knownAgainst_19 : decode cX0_knownAgainst 19 = .ok (.aload_n 0, 1) := by decide +kernel
theorem dX0_knownAgainst_20 : decode cX0_knownAgainst 20 = .ok (.getfield 15, 3) := by decide +kernel
theorem dX0_knownAgainst_23 : decode cX0_knownAgainst 23 = .ok (.iload_n 3, 1) := by decide +kernel
theorem dX0_knownAgainst_24 : decode cX0_knownAgainst 24 = .ok (.iaload, 1) := by decide +kernel
theorem dX0_knownAgainst_25 : decode cX0_knownAgainst 25 = .ok (.ixor, 1) := by decide +kernel
theorem dX0_knownAgainst_26 : decode cX0_knownAgainst 26 = .ok (.istore 4, 2) := by decide +kernel
theorem dX0_knownAgainst_28 : decode cX0_knownAgainst 28 = .ok (.iload_n 2, 1) := by decide +kernel
theorem dX0_knownAgainst_29 : decode cX0_knownAgainst 29 = .ok (.iload 4, 2) := by decide +kernel
theorem dX0_knownAgainst_31 : decode cX0_knownAgainst 31 = .ok (.aload_n 0, 1) := by decide +kernel
theorem dX0_knownAgainst_32 : decode cX0_knownAgainst 32 = .ok (.getfield 25, 3) := by decide +kernel
theorem dX0_knownAgainst_35 : decode cX0_knownAgainst 35 = .ok (.iload_n 3, 1) := by decide +kernel
theorem dX0_knownAgainst_36 : decode cX0_knownAgainst 36 = .ok (.iaload, 1) := by decide +kernel
theorem dX0_knownAgainst_37 : decode cX0_knownAgainst 37 = .ok (.iand, 1) := by decide +kernel
theorem dX0_knownAgainst_38 : decode cX0_knownAgainst 38 = .ok (.invokestatic 49, 3) := by decide +kernel
theorem dX0_knownAgainst_41 : decode cX0_knownAgainst 41 = .ok (.iadd, 1) := by decide +kernel
theorem dX0_knownAgainst_42 : decode cX0_knownAgainst 42 = .ok (.istore_n 2, 1) := by decide +kernel
theorem dX0_knownAgainst_43 : decode cX0_knownAgainst 43 = .ok (.iinc 3 1, 3) := by decide +kernel
theorem dX0_knownAgainst_46 : decode cX0_knownAgainst 46 = .ok (.goto (-42), 3) := by decide +kernel
theorem dX0_knownAgainst_49 : decode cX0_knownAgainst 49 = .ok (.iload_n 2, 1) := by decide +kernel
theorem dX0_knownAgainst_50 : decode cX0_knownAgainst 50 = .ok (.ireturn, 1) := by decide +kernel
theorem dX0_isStuck_0 : decode cX0_isStuck 0 = .ok (.aload_n 0, 1) := by decide +kernel
theorem dX0_isStuck_1 : decode cX0_isStuck 1 = .ok (.iload_n 1, 1) := by decide +kernel
theorem dX0_isStuck_2 : decode cX0_isStuck 2 = .ok (.iload_n 2, 1) := by decide +kernel
theorem dX0_isStuck_3 : decode cX0_isStuck 3 = .ok (.invokevirtual 59, 3) := by decide +kernel
theorem dX0_isStuck_6 : decode cX0_isStuck 6 = .ok (.ifCond .eq 20, 3) := by decide +kernel
theorem dX0_isStuck_9 : decode cX0_isStuck 9 = .ok (.aload_n 0, 1) := by decide +kernel
theorem dX0_isStuck_10 : decode cX0_isStuck 10 = .ok (.getfield 22, 3) := by decide +kernel
theorem dX0_isStuck_13 : decode cX0_isStuck 13 = .ok (.iload_n 1, 1) := by decide +kernel
theorem dX0_isStuck_14 : decode cX0_isStuck 14 = .ok (.iaload, 1) := by decide +kernel
theorem dX0_isStuck_15 : decode cX0_isStuck 15 = .ok (.iconst 1, 1) := by decide +kernel
theorem dX0_isStuck_16 : decode cX0_isStuck 16 = .ok (.iload_n 2, 1) := by decide +kernel
theorem dX0_isStuck_17 : decode cX0_isStuck 17 = .ok (.ishl, 1) := by decide +kernel
theorem dX0_isStuck_18 : decode cX0_isStuck 18 = .ok (.iand, 1) := by decide +kernel
theorem dX0_isStuck_19 : decode cX0_isStuck 19 = .ok (.ifCond .eq 7, 3) := by decide +kernel
theorem dX0_isStuck_22 : decode cX0_isStuck 22 = .ok (.iconst 1, 1) := by decide +kernel
theorem dX0_isStuck_23 : decode cX0_isStuck 23 = .ok (.goto 4, 3) := by decide +kernel
theorem dX0_isStuck_26 : decode cX0_isStuck 26 = .ok (.iconst 0, 1) := by decide +kernel
theorem dX0_isStuck_27 : decode cX0_isStuck 27 = .ok (.ireturn, 1) := by decide +kernel
theorem dX0_stick_0 : decode cX0_stick 0 = .ok (.aload_n 0, 1) := by decide +kernel
theorem dX0_stick_1 : decode cX0_stick 1 = .ok (.iload_n 1, 1) := by decide +kernel
theorem dX0_stick_2 : decode cX0_stick 2 = .ok (.iload_n 2, 1) := by decide +kernel
theorem dX0_stick_3 : decode cX0_stick 3 = .ok (.invokevirtual 59, 3) := by decide +kernel
theorem dX0_stick_6 : decode cX0_stick 6 = .ok (.ifCond .eq 15, 3) := by decide +kernel
theorem dX0_stick_9 : decode cX0_stick 9 = .ok (.aload_n 0, 1) := by decide +kernel
theorem dX0_stick_10 : decode cX0_stick 10 = .ok (.getfield 22, 3) := by decide +kernel
theorem dX0_stick_13 : decode cX0_stick 13 = .ok (.iload_n 1, 1) := by decide +kernel
theorem dX0_stick_14 : decode cX0_stick 14 = .ok (.dup2, 1) := by decide +kernel
theorem dX0_stick_15 : decode cX0_stick 15 = .ok (.iaload, 1) := by decide +kernel
theorem dX0_stick_16 : decode cX0_stick 16 = .ok (.iconst 1, 1) := by decide +kernel
theorem dX0_stick_17 : decode cX0_stick 17 = .ok (.iload_n 2, 1) := by decide +kernel
theorem dX0_stick_18 : decode cX0_stick 18 = .ok (.ishl, 1) := by decide +kernel
theorem dX0_stick_19 : decode cX0_stick 19 = .ok (.ior, 1) := by decide +kernel
theorem dX0_stick_20 : decode cX0_stick 20 = .ok (.iastore, 1) := by decide +kernel
theorem dX0_stick_21 : decode cX0_stick 21 = .ok (.return_, 1) := by decide +kernel
theorem dX0_makeKnown_0 : decode cX0_makeKnown 0 = .ok (.aload_n 0, 1) := by decide +kernel
theorem dX0_makeKnown_1 : decode cX0_makeKnown 1 = .ok (.iload_n 1, 1) := by decide +kernel
theorem dX0_makeKnown_2 : decode cX0_makeKnown 2 = .ok (.iload_n 2, 1) := by decide +kernel
theorem dX0_makeKnown_3 : decode cX0_makeKnown 3 = .ok (.invokevirtual 59, 3) := by decide +kernel
theorem dX0_makeKnown_6 : decode cX0_makeKnown 6 = .ok (.ifCond .eq 15, 3) := by decide +kernel
theorem dX0_makeKnown_9 : decode cX0_makeKnown 9 = .ok (.aload_n 0, 1) := by decide +kernel
theorem dX0_makeKnown_10 : decode cX0_makeKnown 10 = .ok (.getfield 25, 3) := by decide +kernel
theorem dX0_makeKnown_13 : decode cX0_makeKnown 13 = .ok (.iload_n 1, 1) := by decide +kernel
theorem dX0_makeKnown_14 : decode cX0_makeKnown 14 = .ok (.dup2, 1) := by decide +kernel
theorem dX0_makeKnown_15 : decode cX0_makeKnown 15 = .ok (.iaload, 1) := by decide +kernel
theorem dX0_makeKnown_16 : decode cX0_makeKnown 16 = .ok (.iconst 1, 1) := by decide +kernel
theorem dX0_makeKnown_17 : decode cX0_makeKnown 17 = .ok (.iload_n 2, 1) := by decide +kernel
theorem dX0_makeKnown_18 : decode cX0_makeKnown 18 = .ok (.ishl, 1) := by decide +kernel
theorem dX0_makeKnown_19 : decode cX0_makeKnown 19 = .ok (.ior, 1) := by decide +kernel
theorem dX0_makeKnown_20 : decode cX0_makeKnown 20 = .ok (.iastore, 1) := by decide +kernel
theorem dX0_makeKnown_21 : decode cX0_makeKnown 21 = .ok (.return_, 1) := by decide +kernel
theorem dX0_flip_0 : decode cX0_flip 0 = .ok (.aload_n 0, 1) := by decide +kernel
theorem dX0_flip_1 : decode cX0_flip 1 = .ok (.iload_n 1, 1) := by decide +kernel
theorem dX0_flip_2 : decode cX0_flip 2 = .ok (.iload_n 2, 1) := by decide +kernel
theorem dX0_flip_3 : decode cX0_flip 3 = .ok (.invokevirtual 59, 3) := by decide +kernel
theorem dX0_flip_6 : decode cX0_flip 6 = .ok (.ifCond .eq 30, 3) := by decide +kernel
theorem dX0_flip_9 : decode cX0_flip 9 = .ok (.aload_n 0, 1) := by decide +kernel
theorem dX0_flip_10 : decode cX0_flip 10 = .ok (.getfield 15, 3) := by decide +kernel
theorem dX0_flip_13 : decode cX0_flip 13 = .ok (.iload_n 1, 1) := by decide +kernel
theorem dX0_flip_14 : decode cX0_flip 14 = .ok (.dup2, 1) := by decide +kernel
theorem dX0_flip_15 : decode cX0_flip 15 = .ok (.iaload, 1) := by decide +kernel
theorem dX0_flip_16 : decode cX0_flip 16 = .ok (.iconst 1, 1) := by decide +kernel
theorem dX0_flip_17 : decode cX0_flip 17 = .ok (.iload_n 2, 1) := by decide +kernel
theorem dX0_flip_18 : decode cX0_flip 18 = .ok (.ishl, 1) := by decide +kernel
theorem dX0_flip_19 : decode cX0_flip 19 = .ok (.ixor, 1) := by decide +kernel
theorem dX0_flip_20 : decode cX0_flip 20 = .ok (.iastore, 1) := by decide +kernel
theorem dX0_flip_21 : decode cX0_flip 21 = .ok (.aload_n 0, 1) := by decide +kernel
theorem dX0_flip_22 : decode cX0_flip 22 = .ok (.getfield 28, 3) := by decide +kernel
theorem dX0_flip_25 : decode cX0_flip 25 = .ok (.iload_n 1, 1) := by decide +kernel
theorem dX0_flip_26 : decode cX0_flip 26 = .ok (.bipush 7, 2) := by decide +kernel
theorem dX0_flip_28 : decode cX0_flip 28 = .ok (.imul, 1) := by decide +kernel
theorem dX0_flip_29 : decode cX0_flip 29 = .ok (.iload_n 2, 1) := by decide +kernel
theorem dX0_flip_30 : decode cX0_flip 30 = .ok (.iadd, 1) := by decide +kernel
theorem dX0_flip_31 : decode cX0_flip 31 = .ok (.dup2, 1) := by decide +kernel
theorem dX0_flip_32 : decode cX0_flip 32 = .ok (.iaload, 1) := by decide +kernel
theorem dX0_flip_33 : decode cX0_flip 33 = .ok (.iconst 1, 1) := by decide +kernel
theorem dX0_flip_34 : decode cX0_flip 34 = .ok (.iadd, 1) := by decide +kernel
theorem dX0_flip_35 : decode cX0_flip 35 = .ok (.iastore, 1) := by decide +kernel
theorem dX0_flip_36 : decode cX0_flip 36 = .ok (.return_, 1) := by decide +kernel
theorem dX0_flipsOf_0 : decode cX0_flipsOf 0 = .ok (.aload_n 0, 1) := by decide +kernel
theorem dX0_flipsOf_1 : decode cX0_flipsOf 1 = .ok (.iload_n 1, 1) := by decide +kernel
theorem dX0_flipsOf_2 : decode cX0_flipsOf 2 = .ok (.iload_n 2, 1) := by decide +kernel
theorem dX0_flipsOf_3 : decode cX0_flipsOf 3 = .ok (.invokevirtual 59, 3) := by decide +kernel
theorem dX0_flipsOf_6 : decode cX0_flipsOf 6 = .ok (.ifCond .eq 17, 3) := by decide +kernel
theorem dX0_flipsOf_9 : decode cX0_flipsOf 9 = .ok (.aload_n 0, 1) := by decide +kernel
theorem dX0_flipsOf_10 : decode cX0_flipsOf 10 = .ok (.getfield 28, 3) := by decide +kernel
theorem dX0_flipsOf_13 : decode cX0_flipsOf 13 = .ok (.iload_n 1, 1) := by decide +kernel
theorem dX0_flipsOf_14 : decode cX0_flipsOf 14 = .ok (.bipush 7, 2) := by decide +kernel
theorem dX0_flipsOf_16 : decode cX0_flipsOf 16 = .ok (.imul, 1) := by decide +kernel
theorem dX0_flipsOf_17 : decode cX0_flipsOf 17 = .ok (.iload_n 2, 1) := by decide +kernel
theorem dX0_flipsOf_18 : decode cX0_flipsOf 18 = .ok (.iadd, 1) := by decide +kernel
theorem dX0_flipsOf_19 : decode cX0_flipsOf 19 = .ok (.iaload, 1) := by decide +kernel
theorem dX0_flipsOf_20 : decode cX0_flipsOf 20 = .ok (.goto 4, 3) := by decide +kernel
theorem dX0_flipsOf_23 : decode cX0_flipsOf 23 = .ok (.iconst 0, 1) := by decide +kernel
theorem dX0_flipsOf_24 : decode cX0_flipsOf 24 = .ok (.ireturn, 1) := by decide +kernel
theorem dX0_renewDot_0 : decode cX0_renewDot 0 = .ok (.aload_n 0, 1) := by decide +kernel
theorem dX0_renewDot_1 : decode cX0_renewDot 1 = .ok (.iload_n 1, 1) := by decide +kernel
theorem dX0_renewDot_2 : decode cX0_renewDot 2 = .ok (.iload_n 2, 1) := by decide +kernel
theorem dX0_renewDot_3 : decode cX0_renewDot 3 = .ok (.invokevirtual 59, 3) := by decide +kernel
theorem dX0_renewDot_6 : decode cX0_renewDot 6 = .ok (.ifCond .eq 43, 3) := by decide +kernel
theorem dX0_renewDot_9 : decode cX0_renewDot 9 = .ok (.aload_n 0, 1) := by decide +kernel
theorem dX0_renewDot_10 : decode cX0_renewDot 10 = .ok (.getfield 22, 3) := by decide +kernel
theorem dX0_renewDot_13 : decode cX0_renewDot 13 = .ok (.iload_n 1, 1) := by decide +kernel
theorem dX0_renewDot_14 : decode cX0_renewDot 14 = .ok (.dup2, 1) := by decide +kernel
theorem dX0_renewDot_15 : decode cX0_renewDot 15 = .ok (.iaload, 1) := by decide +kernel
theorem dX0_renewDot_16 : decode cX0_renewDot 16 = .ok (.iconst 1, 1) := by decide +kernel
theorem dX0_renewDot_17 : decode cX0_renewDot 17 = .ok (.iload_n 2, 1) := by decide +kernel
theorem dX0_renewDot_18 : decode cX0_renewDot 18 = .ok (.ishl, 1) := by decide +kernel
theorem dX0_renewDot_19 : decode cX0_renewDot 19 = .ok (.iconst (-1), 1) := by decide +kernel
theorem dX0_renewDot_20 : decode cX0_renewDot 20 = .ok (.ixor, 1) := by decide +kernel
theorem dX0_renewDot_21 : decode cX0_renewDot 21 = .ok (.iand, 1) := by decide +kernel
theorem dX0_renewDot_22 : decode cX0_renewDot 22 = .ok (.iastore, 1) := by decide +kernel
theorem dX0_renewDot_23 : decode cX0_renewDot 23 = .ok (.aload_n 0, 1) := by decide +kernel
theorem dX0_renewDot_24 : decode cX0_renewDot 24 = .ok (.getfield 25, 3) := by decide +kernel
theorem dX0_renewDot_27 : decode cX0_renewDot 27 = .ok (.iload_n 1, 1) := by decide +kernel
theorem dX0_renewDot_28 : decode cX0_renewDot 28 = .ok (.dup2, 1) := by decide +kernel
theorem dX0_renewDot_29 : decode cX0_renewDot 29 = .ok (.iaload, 1) := by decide +kernel
theorem dX0_renewDot_30 : decode cX0_renewDot 30 = .ok (.iconst 1, 1) := by decide +kernel
theorem dX0_renewDot_31 : decode cX0_renewDot 31 = .ok (.iload_n 2, 1) := by decide +kernel
theorem dX0_renewDot_32 : decode cX0_renewDot 32 = .ok (.ishl, 1) := by decide +kernel
theorem dX0_renewDot_33 : decode cX0_renewDot 33 = .ok (.iconst (-1), 1) := by decide +kernel
theorem dX0_renewDot_34 : decode cX0_renewDot 34 = .ok (.ixor, 1) := by decide +kernel
theorem dX0_renewDot_35 : decode cX0_renewDot 35 = .ok (.iand, 1) := by decide +kernel
theorem dX0_renewDot_36 : decode cX0_renewDot 36 = .ok (.iastore, 1) := by decide +kernel
theorem dX0_renewDot_37 : decode cX0_renewDot 37 = .ok (.aload_n 0, 1) := by decide +kernel
theorem dX0_renewDot_38 : decode cX0_renewDot 38 = .ok (.getfield 28, 3) := by decide +kernel
theorem dX0_renewDot_41 : decode cX0_renewDot 41 = .ok (.iload_n 1, 1) := by decide +kernel
theorem dX0_renewDot_42 : decode cX0_renewDot 42 = .ok (.bipush 7, 2) := by decide +kernel
theorem dX0_renewDot_44 : decode cX0_renewDot 44 = .ok (.imul, 1) := by decide +kernel
theorem dX0_renewDot_45 : decode cX0_renewDot 45 = .ok (.iload_n 2, 1) := by decide +kernel
theorem dX0_renewDot_46 : decode cX0_renewDot 46 = .ok (.iadd, 1) := by decide +kernel
theorem dX0_renewDot_47 : decode cX0_renewDot 47 = .ok (.iconst 0, 1) := by decide +kernel
theorem dX0_renewDot_48 : decode cX0_renewDot 48 = .ok (.iastore, 1) := by decide +kernel
theorem dX0_renewDot_49 : decode cX0_renewDot 49 = .ok (.return_, 1) := by decide +kernel
theorem dX1_init_0 : decode cX1_init 0 = .ok (.aload_n 0, 1) := by decide +kernel
theorem dX1_init_1 : decode cX1_init 1 = .ok (.invokespecial 3, 3) := by decide +kernel
theorem dX1_init_4 : decode cX1_init 4 = .ok (.aload_n 0, 1) := by decide +kernel
theorem dX1_init_5 : decode cX1_init 5 = .ok (.bipush 40, 2) := by decide +kernel
theorem dX1_init_7 : decode cX1_init 7 = .ok (.newarray .int, 2) := by decide +kernel
theorem dX1_init_9 : decode cX1_init 9 = .ok (.putfield 9, 3) := by decide +kernel
theorem dX1_init_12 : decode cX1_init 12 = .ok (.return_, 1) := by decide +kernel
theorem dX1_passSecond_0 : decode cX1_passSecond 0 = .ok (.aload_n 1, 1) := by decide +kernel
theorem dX1_passSecond_1 : decode cX1_passSecond 1 = .ok (.getfield 15, 3) := by decide +kernel
theorem dX1_passSecond_4 : decode cX1_passSecond 4 = .ok (.iconst 0, 1) := by decide +kernel
theorem dX1_passSecond_5 : decode cX1_passSecond 5 = .ok (.iaload, 1) := by decide +kernel
theorem dX1_passSecond_6 : decode cX1_passSecond 6 = .ok (.istore_n 2, 1) := by decide +kernel
theorem dX1_passSecond_7 : decode cX1_passSecond 7 = .ok (.iload_n 2, 1) := by decide +kernel
theorem dX1_passSecond_8 : decode cX1_passSecond 8 = .ok (.istore_n 3, 1) := by decide +kernel
theorem dX1_passSecond_9 : decode cX1_passSecond 9 = .ok (.aload_n 0, 1) := by decide +kernel
theorem dX1_passSecond_10 : decode cX1_passSecond 10 = .ok (.aload_n 1, 1) := by decide +kernel
theorem dX1_passSecond_11 : decode cX1_passSecond 11 = .ok (.getfield 20, 3) := by decide +kernel
theorem dX1_passSecond_14 : decode cX1_passSecond 14 = .ok (.aload_n 1, 1) := by decide +kernel
theorem dX1_passSecond_15 : decode cX1_passSecond 15 = .ok (.getfield 15, 3) := by decide +kernel
theorem dX1_passSecond_18 : decode cX1_passSecond 18 = .ok (.iconst 1, 1) := by decide +kernel
theorem dX1_passSecond_19 : decode cX1_passSecond 19 = .ok (.iaload, 1) := by decide +kernel
theorem dX1_passSecond_20 : decode cX1_passSecond 20 = .ok (.invokevirtual 24, 3) := by decide +kernel
theorem dX1_passSecond_23 : decode cX1_passSecond 23 = .ok (.iconst 0, 1) := by decide +kernel
theorem dX1_passSecond_24 : decode cX1_passSecond 24 = .ok (.istore 4, 2) := by decide +kernel
theorem dX1_passSecond_26 : decode cX1_passSecond 26 = .ok (.iload 4, 2) := by decide +kernel
theorem dX1_passSecond_28 : decode cX1_passSecond 28 = .ok (.bipush 40, 2) := by decide +kernel
theorem dX1_passSecond_30 : decode cX1_passSecond 30 = .ok (.if_icmp .ge 46, 3) := by decide +kernel
theorem dX1_passSecond_33 : decode cX1_passSecond 33 = .ok (.iload_n 3, 1) := by decide +kernel
theorem dX1_passSecond_34 : decode cX1_passSecond 34 = .ok (.iconst 1, 1) := by decide +kernel
theorem dX1_passSecond_35 : decode cX1_passSecond 35 = .ok (.if_icmp .le 41, 3) := by decide +kernel
theorem dX1_passSecond_38 : decode cX1_passSecond 38 = .ok (.aload_n 0, 1) := by decide +kernel
theorem dX1_passSecond_39 : decode cX1_passSecond 39 = .ok (.getfield 9, 3) := by decide +kernel
theorem dX1_passSecond_42 : decode cX1_passSecond 42 = .ok (.iload 4, 2) := by decide +kernel
theorem dX1_passSecond_44 : decode cX1_passSecond 44 = .ok (.iaload, 1) := by decide +kernel
theorem dX1_passSecond_45 : decode cX1_passSecond 45 = .ok (.istore 5, 2) := by decide +kernel
theorem dX1_passSecond_47 : decode cX1_passSecond 47 = .ok (.aload_n 1, 1) := by decide +kernel
theorem dX1_passSecond_48 : decode cX1_passSecond 48 = .ok (.getfield 20, 3) := by decide +kernel
theorem dX1_passSecond_51 : decode cX1_passSecond 51 = .ok (.iload 5, 2) := by decide +kernel
theorem dX1_passSecond_53 : decode cX1_passSecond 53 = .ok (.invokevirtual 28, 3) := by decide +kernel
theorem dX1_passSecond_56 : decode cX1_passSecond 56 = .ok (.ifCond .eq 14, 3) := by decide +kernel
theorem dX1_passSecond_59 : decode cX1_passSecond 59 = .ok (.aload_n 0, 1) := by decide +kernel
theorem dX1_passSecond_60 : decode cX1_passSecond 60 = .ok (.aload_n 1, 1) := by decide +kernel
theorem dX1_passSecond_61 : decode cX1_passSecond 61 = .ok (.iload 5, 2) := by decide +kernel
theorem dX1_passSecond_63 : decode cX1_passSecond 63 = .ok (.iload_n 3, 1) := by decide +kernel
theorem dX1_passSecond_64 : decode cX1_passSecond 64 = .ok (.iconst 1, 1) := by decide +kernel
theorem dX1_passSecond_65 : decode cX1_passSecond 65 = .ok (.isub, 1) := by decide +kernel
theorem dX1_passSecond_66 : decode cX1_passSecond 66 = .ok (.invokevirtual 34, 3) := by decide +kernel
theorem dX1_passSecond_69 : decode cX1_passSecond 69 = .ok (.istore_n 3, 1) := by decide +kernel
theorem dX1_passSecond_70 : decode cX1_passSecond 70 = .ok (.iinc 4 1, 3) := by decide +kernel
theorem dX1_passSecond_73 : decode cX1_passSecond 73 = .ok (.goto (-47), 3) := by decide +kernel
theorem dX1_passSecond_76 : decode cX1_passSecond 76 = .ok (.aload_n 1, 1) := by decide +kernel
theorem dX1_passSecond_77 : decode cX1_passSecond 77 = .ok (.getfield 38, 3) := by decide +kernel
theorem dX1_passSecond_80 : decode cX1_passSecond 80 = .ok (.iload_n 2, 1) := by decide +kernel
theorem dX1_passSecond_81 : decode cX1_passSecond 81 = .ok (.iload_n 3, 1) := by decide +kernel
theorem dX1_passSecond_82 : decode cX1_passSecond 82 = .ok (.isub, 1) := by decide +kernel
theorem dX1_passSecond_83 : decode cX1_passSecond 83 = .ok (.invokevirtual 42, 3) := by decide +kernel
theorem dX1_passSecond_86 : decode cX1_passSecond 86 = .ok (.return_, 1) := by decide +kernel
theorem dX1_flipColumn_0 : decode cX1_flipColumn 0 = .ok (.iload_n 3, 1) := by decide +kernel
theorem dX1_flipColumn_1 : decode cX1_flipColumn 1 = .ok (.istore 4, 2) := by decide +kernel
theorem dX1_flipColumn_3 : decode cX1_flipColumn 3 = .ok (.aload_n 1, 1) := by decide +kernel
theorem dX1_flipColumn_4 : decode cX1_flipColumn 4 = .ok (.getfield 20, 3) := by decide +kernel
theorem dX1_flipColumn_7 : decode cX1_flipColumn 7 = .ok (.iload_n 2, 1) := by decide +kernel
theorem dX1_flipColumn_8 : decode cX1_flipColumn 8 = .ok (.invokevirtual 28, 3) := by decide +kernel
theorem dX1_flipColumn_11 : decode cX1_flipColumn 11 = .ok (.istore 5, 2) := by decide +kernel
theorem dX1_flipColumn_13 : decode cX1_flipColumn 13 = .ok (.iconst 0, 1) := by decide +kernel
theorem dX1_flipColumn_14 : decode cX1_flipColumn 14 = .ok (.istore 6, 2) := by decide +kernel
theorem dX1_flipColumn_16 : decode cX1_flipColumn 16 = .ok (.iload 6, 2) := by decide +kernel
theorem dX1_flipColumn_18 : decode cX1_flipColumn 18 = .ok (.bipush 7, 2) := by decide +kernel
theorem dX1_flipColumn_20 : decode cX1_flipColumn 20 = .ok (.if_icmp .ge 34, 3) := by decide +kernel
theorem dX1_flipColumn_23 : decode cX1_flipColumn 23 = .ok (.iload 4, 2) := by decide +kernel
theorem dX1_flipColumn_25 : decode cX1_flipColumn 25 = .ok (.ifCond .le 29, 3) := by decide +kernel
theorem dX1_flipColumn_28 : decode cX1_flipColumn 28 = .ok (.iload 5, 2) := by decide +kernel
theorem dX1_flipColumn_30 : decode cX1_flipColumn 30 = .ok (.iconst 1, 1) := by decide +kernel
theorem dX1_flipColumn_31 : decode cX1_flipColumn 31 = .ok (.iload 6, 2) := by decide +kernel
theorem dX1_flipColumn_33 : decode cX1_flipColumn 33 = .ok (.ishl, 1) := by decide +kernel
theorem dX1_flipColumn_34 : decode cX1_flipColumn 34 = .ok (.iand, 1) := by decide +kernel
theorem dX1_flipColumn_35 : decode cX1_flipColumn 35 = .ok (.ifCond .eq 13, 3) := by decide +kernel
theorem dX1_flipColumn_38 : decode cX1_flipColumn 38 = .ok (.aload_n 1, 1) := by decide +kernel
theorem dX1_flipColumn_39 : decode cX1_flipColumn 39 = .ok (.iload_n 2, 1) := by decide +kernel
theorem dX1_flipColumn_40 : decode cX1_flipColumn 40 = .ok (.iload 6, 2) := by decide +kernel
theorem dX1_flipColumn_42 : decode cX1_flipColumn 42 = .ok (.invokevirtual 48, 3) := by decide +kernel
theorem dX1_flipColumn_45 : decode cX1_flipColumn 45 = .ok (.iinc 4 (-1), 3) := by decide +kernel
theorem dX1_flipColumn_48 : decode cX1_flipColumn 48 = .ok (.iinc 6 1, 3) := by decide +kernel
theorem dX1_flipColumn_51 : decode cX1_flipColumn 51 = .ok (.goto (-35), 3) := by decide +kernel
theorem dX1_flipColumn_54 : decode cX1_flipColumn 54 = .ok (.iload 4, 2) := by decide +kernel
theorem dX1_flipColumn_56 : decode cX1_flipColumn 56 = .ok (.ireturn, 1) := by decide +kernel
theorem dX1_arrange_0 : decode cX1_arrange 0 = .ok (.iload_n 2, 1) := by decide +kernel
theorem dX1_arrange_1 : decode cX1_arrange 1 = .ok (.iconst 2, 1) := by decide +kernel
theorem dX1_arrange_2 : decode cX1_arrange 2 = .ok (.if_icmp .ne 9, 3) := by decide +kernel
theorem dX1_arrange_5 : decode cX1_arrange 5 = .ok (.aload_n 0, 1) := by decide +kernel
theorem dX1_arrange_6 : decode cX1_arrange 6 = .ok (.aload_n 1, 1) := by decide +kernel
theorem dX1_arrange_7 : decode cX1_arrange 7 = .ok (.invokevirtual 52, 3) := by decide +kernel
theorem dX1_arrange_10 : decode cX1_arrange 10 = .ok (.return_, 1) := by decide +kernel
theorem dX1_arrange_11 : decode cX1_arrange 11 = .ok (.iconst 0, 1) := by decide +kernel
theorem dX1_arrange_12 : decode cX1_arrange 12 = .ok (.istore_n 3, 1) := by decide +kernel
theorem dX1_arrange_13 : decode cX1_arrange 13 = .ok (.iload_n 3, 1) := by decide +kernel
theorem dX1_arrange_14 : decode cX1_arrange 14 = .ok (.bipush 40, 2) := by decide +kernel
theorem dX1_arrange_16 : decode cX1_arrange 16 = .ok (.if_icmp .ge 28, 3) := by decide +kernel
theorem dX1_arrange_19 : decode cX1_arrange 19 = .ok (.aload_n 0, 1) := by decide +kernel
theorem dX1_arrange_20 : decode cX1_arrange 20 = .ok (.getfield 9, 3) := by decide +kernel
theorem dX1_arrange_23 : decode cX1_arrange 23 = .ok (.iload_n 3, 1) := by decide +kernel
theorem dX1_arrange_24 : decode cX1_arrange 24 = .ok (.iload_n 2, 1) := by decide +kernel
theorem dX1_arrange_25 : decode cX1_arrange 25 = .ok (.iconst 1, 1) := by decide +kernel
theorem dX1_arrange_26 : decode cX1_arrange 26 = .ok (.if_icmp .ne 10, 3) := by decide +kernel
theorem dX1_arrange_29 : decode cX1_arrange 29 = .ok (.bipush 39, 2) := by decide +kernel
theorem dX1_arrange_31 : decode cX1_arrange 31 = .ok (.iload_n 3, 1) := by decide +kernel
theorem dX1_arrange_32 : decode cX1_arrange 32 = .ok (.isub, 1) := by decide +kernel
theorem dX1_arrange_33 : decode cX1_arrange 33 = .ok (.goto 4, 3) := by decide +kernel
theorem dX1_arrange_36 : decode cX1_arrange 36 = .ok (.iload_n 3, 1) := by decide +kernel
theorem dX1_arrange_37 : decode cX1_arrange 37 = .ok (.iastore, 1) := by decide +kernel
theorem dX1_arrange_38 : decode cX1_arrange 38 = .ok (.iinc 3 1, 3) := by decide +kernel
theorem dX1_arrange_41 : decode cX1_arrange 41 = .ok (.goto (-28), 3) := by decide +kernel
theorem dX1_arrange_44 : decode cX1_arrange 44 = .ok (.return_, 1) := by decide +kernel
theorem dX1_arrangeByDueDots_0 : decode cX1_arrangeByDueDots 0 = .ok (.iconst 0, 1) := by decide +kernel
theorem dX1_arrangeByDueDots_1 : decode cX1_arrangeByDueDots 1 = .ok (.istore_n 2, 1) := by decide +kernel
theorem dX1_arrangeByDueDots_2 : decode cX1_arrangeByDueDots 2 = .ok (.bipush 7, 2) := by decide +kernel
theorem dX1_arrangeByDueDots_4 : decode cX1_arrangeByDueDots 4 = .ok (.istore_n 3, 1) := by decide +kernel
theorem dX1_arrangeByDueDots_5 : decode cX1_arrangeByDueDots 5 = .ok (.iload_n 3, 1) := by decide +kernel
theorem dX1_arrangeByDueDots_6 : decode cX1_arrangeByDueDots 6 = .ok (.ifCond .lt 67, 3) := by decide +kernel
theorem dX1_arrangeByDueDots_9 : decode cX1_arrangeByDueDots 9 = .ok (.iconst 0, 1) := by decide +kernel
theorem dX1_arrangeByDueDots_10 : decode cX1_arrangeByDueDots 10 = .ok (.istore 4, 2) := by decide +kernel
theorem dX1_arrangeByDueDots_12 : decode cX1_arrangeByDueDots 12 = .ok (.iload 4, 2) := by decide +kernel
theorem dX1_arrangeByDueDots_14 : decode cX1_arrangeByDueDots 14 = .ok (.bipush 40, 2) := by decide +kernel
theorem dX1_arrangeByDueDots_16 : decode cX1_arrangeByDueDots 16 = .ok (.if_icmp .ge 51, 3) := by decide +kernel
theorem dX1_arrangeByDueDots_19 : decode cX1_arrangeByDueDots 19 = .ok (.aload_n 1, 1) := by decide +kernel
theorem dX1_arrangeByDueDots_20 : decode cX1_arrangeByDueDots 20 = .ok (.iload 4, 2) := by decide +kernel
theorem dX1_arrangeByDueDots_22 : decode cX1_arrangeByDueDots 22 = .ok (.invokevirtual 28, 3) := by decide +kernel
theorem dX1_arrangeByDueDots_25 : decode cX1_arrangeByDueDots 25 = .ok (.invokestatic 56, 3) := by decide +kernel
theorem dX1_arrangeByDueDots_28 : decode cX1_arrangeByDueDots 28 = .ok (.iload_n 3, 1) := by decide +kernel
theorem dX1_arrangeByDueDots_29 : decode cX1_arrangeByDueDots 29 = .ok (.if_icmp .ne 7, 3) := by decide +kernel
theorem dX1_arrangeByDueDots_32 : decode cX1_arrangeByDueDots 32 = .ok (.iconst 1, 1) := by decide +kernel
theorem dX1_arrangeByDueDots_33 : decode cX1_arrangeByDueDots 33 = .ok (.goto 4, 3) := by decide +kernel
theorem dX1_arrangeByDueDots_36 : decode cX1_arrangeByDueDots 36 = .ok (.iconst 0, 1) := by decide +kernel
theorem dX1_arrangeByDueDots_37 : decode cX1_arrangeByDueDots 37 = .ok (.istore 5, 2) := by decide +kernel
theorem dX1_arrangeByDueDots_39 : decode cX1_arrangeByDueDots 39 = .ok (.iload 5, 2) := by decide +kernel
theorem dX1_arrangeByDueDots_41 : decode cX1_arrangeByDueDots 41 = .ok (.ifCond .eq 20, 3) := by decide +kernel
theorem dX1_arrangeByDueDots_44 : decode cX1_arrangeByDueDots 44 = .ok (.iload_n 2, 1) := by decide +kernel
theorem dX1_arrangeByDueDots_45 : decode cX1_arrangeByDueDots 45 = .ok (.bipush 40, 2) := by decide +kernel
theorem dX1_arrangeByDueDots_47 : decode cX1_arrangeByDueDots 47 = .ok (.if_icmp .ge 14, 3) := by decide +kernel
theorem dX1_arrangeByDueDots_50 : decode cX1_arrangeByDueDots 50 = .ok (.aload_n 0, 1) := by decide +kernel
theorem dX1_arrangeByDueDots_51 : decode cX1_arrangeByDueDots 51 = .ok (.getfield 9, 3) := by decide +kernel
theorem dX1_arrangeByDueDots_54 : decode cX1_arrangeByDueDots 54 = .ok (.iload_n 2, 1) := by decide +kernel
theorem dX1_arrangeByDueDots_55 : decode cX1_arrangeByDueDots 55 = .ok (.iload 4, 2) := by decide +kernel
theorem dX1_arrangeByDueDots_57 : decode cX1_arrangeByDueDots 57 = .ok (.iastore, 1) := by decide +kernel
theorem dX1_arrangeByDueDots_58 : decode cX1_arrangeByDueDots 58 = .ok (.iinc 2 1, 3) := by decide +kernel
theorem dX1_arrangeByDueDots_61 : decode cX1_arrangeByDueDots 61 = .ok (.iinc 4 1, 3) := by decide +kernel
theorem dX1_arrangeByDueDots_64 : decode cX1_arrangeByDueDots 64 = .ok (.goto (-52), 3) := by decide +kernel
theorem dX1_arrangeByDueDots_67 : decode cX1_arrangeByDueDots 67 = .ok (.iinc 3 (-1), 3) := by decide +kernel
theorem dX1_arrangeByDueDots_70 : decode cX1_arrangeByDueDots 70 = .ok (.goto (-65), 3) := by decide +kernel
theorem dX1_arrangeByDueDots_73 : decode cX1_arrangeByDueDots 73 = .ok (.return_, 1) := by decide +kernel
theorem dX2_init_0 : decode cX2_init 0 = .ok (.aload_n 0, 1) := by decide +kernel
theorem dX2_init_1 : decode cX2_init 1 = .ok (.invokespecial 3, 3) := by decide +kernel
theorem dX2_init_4 : decode cX2_init 4 = .ok (.aload_n 0, 1) := by decide +kernel
theorem dX2_init_5 : decode cX2_init 5 = .ok (.bipush 6, 2) := by decide +kernel
theorem dX2_init_7 : decode cX2_init 7 = .ok (.anewarray 9, 3) := by decide +kernel
theorem dX2_init_10 : decode cX2_init 10 = .ok (.putfield 11, 3) := by decide +kernel
theorem dX2_init_13 : decode cX2_init 13 = .ok (.aload_n 0, 1) := by decide +kernel
theorem dX2_init_14 : decode cX2_init 14 = .ok (.iconst 0, 1) := by decide +kernel
theorem dX2_init_15 : decode cX2_init 15 = .ok (.putfield 17, 3) := by decide +kernel
theorem dX2_init_18 : decode cX2_init 18 = .ok (.aload_n 0, 1) := by decide +kernel
theorem dX2_init_19 : decode cX2_init 19 = .ok (.iconst 0, 1) := by decide +kernel
theorem dX2_init_20 : decode cX2_init 20 = .ok (.putfield 21, 3) := by decide +kernel
theorem dX2_init_23 : decode cX2_init 23 = .ok (.iconst 0, 1) := by decide +kernel
theorem dX2_init_24 : decode cX2_init 24 = .ok (.istore_n 1, 1) := by decide +kernel
theorem dX2_init_25 : decode cX2_init 25 = .ok (.iload_n 1, 1) := by decide +kernel
theorem dX2_init_26 : decode cX2_init 26 = .ok (.bipush 6, 2) := by decide +kernel
theorem dX2_init_28 : decode cX2_init 28 = .ok (.if_icmp .ge 22, 3) := by decide +kernel
theorem dX2_init_31 : decode cX2_init 31 = .ok (.aload_n 0, 1) := by decide +kernel
theorem dX2_init_32 : decode cX2_init 32 = .ok (.getfield 11, 3) := by decide +kernel
theorem dX2_init_35 : decode cX2_init 35 = .ok (.iload_n 1, 1) := by decide +kernel
theorem dX2_init_36 : decode cX2_init 36 = .ok (.new 9, 3) := by decide +kernel
theorem dX2_init_39 : decode cX2_init 39 = .ok (.dup, 1) := by decide +kernel
theorem dX2_init_40 : decode cX2_init 40 = .ok (.invokespecial 24, 3) := by decide +kernel
theorem dX2_init_43 : decode cX2_init 43 = .ok (.aastore, 1) := by decide +kernel
theorem dX2_init_44 : decode cX2_init 44 = .ok (.iinc 1 1, 3) := by decide +kernel
theorem dX2_init_47 : decode cX2_init 47 = .ok (.goto (-22), 3) := by decide +kernel
theorem dX2_init_50 : decode cX2_init 50 = .ok (.return_, 1) := by decide +kernel
theorem dX2_keep_0 : decode cX2_keep 0 = .ok (.aload_n 0, 1) := by decide +kernel
theorem dX2_keep_1 : decode cX2_keep 1 = .ok (.aload_n 0, 1) := by decide +kernel
theorem dX2_keep_2 : decode cX2_keep 2 = .ok (.getfield 21, 3) := by decide +kernel
theorem dX2_keep_5 : decode cX2_keep 5 = .ok (.invokevirtual 25, 3) := by decide +kernel
theorem dX2_keep_8 : decode cX2_keep 8 = .ok (.astore_n 2, 1) := by decide +kernel
theorem dX2_keep_9 : decode cX2_keep 9 = .ok (.aload_n 2, 1) := by decide +kernel
theorem dX2_keep_10 : decode cX2_keep 10 = .ok (.ifnull 8, 3) := by decide +kernel
theorem dX2_keep_13 : decode cX2_keep 13 = .ok (.aload_n 2, 1) := by decide +kernel
theorem dX2_keep_14 : decode cX2_keep 14 = .ok (.aload_n 1, 1) := by decide +kernel
theorem dX2_keep_15 : decode cX2_keep 15 = .ok (.invokevirtual 29, 3) := by decide +kernel
theorem dX2_keep_18 : decode cX2_keep 18 = .ok (.aload_n 0, 1) := by decide +kernel
theorem dX2_keep_19 : decode cX2_keep 19 = .ok (.getfield 21, 3) := by decide +kernel
theorem dX2_keep_22 : decode cX2_keep 22 = .ok (.bipush 6, 2) := by decide +kernel
theorem dX2_keep_24 : decode cX2_keep 24 = .ok (.if_icmp .ge 16, 3) := by decide +kernel
theorem dX2_keep_27 : decode cX2_keep 27 = .ok (.aload_n 0, 1) := by decide +kernel
theorem dX2_keep_28 : decode cX2_keep 28 = .ok (.dup, 1) := by decide +kernel
theorem dX2_keep_29 : decode cX2_keep 29 = .ok (.getfield 21, 3) := by decide +kernel
theorem dX2_keep_32 : decode cX2_keep 32 = .ok (.iconst 1, 1) := by decide +kernel
theorem dX2_keep_33 : decode cX2_keep 33 = .ok (.iadd, 1) := by decide +kernel
theorem dX2_keep_34 : decode cX2_keep 34 = .ok (.putfield 21, 3) := by decide +kernel
theorem dX2_keep_37 : decode cX2_keep 37 = .ok (.goto 18, 3) := by decide +kernel
theorem dX2_keep_40 : decode cX2_keep 40 = .ok (.aload_n 0, 1) := by decide +kernel
theorem dX2_keep_41 : decode cX2_keep 41 = .ok (.aload_n 0, 1) := by decide +kernel
theorem dX2_keep_42 : decode cX2_keep 42 = .ok (.getfield 17, 3) := by decide +kernel
theorem dX2_keep_45 : decode cX2_keep 45 = .ok (.iconst 1, 1) := by decide +kernel
theorem dX2_keep_46 : decode cX2_keep 46 = .ok (.iadd, 1) := by decide +kernel
theorem dX2_keep_47 : decode cX2_keep 47 = .ok (.bipush 6, 2) := by decide +kernel
theorem dX2_keep_49 : decode cX2_keep 49 = .ok (.invokestatic 33, 3) := by decide +kernel
theorem dX2_keep_52 : decode cX2_keep 52 = .ok (.putfield 17, 3) := by decide +kernel
theorem dX2_keep_55 : decode cX2_keep 55 = .ok (.return_, 1) := by decide +kernel
theorem dX2_stateAt_0 : decode cX2_stateAt 0 = .ok (.aload_n 0, 1) := by decide +kernel
theorem dX2_stateAt_1 : decode cX2_stateAt 1 = .ok (.getfield 11, 3) := by decide +kernel
theorem dX2_stateAt_4 : decode cX2_stateAt 4 = .ok (.aload_n 0, 1) := by decide +kernel
theorem dX2_stateAt_5 : decode cX2_stateAt 5 = .ok (.getfield 17, 3) := by decide +kernel
theorem dX2_stateAt_8 : decode cX2_stateAt 8 = .ok (.iload_n 1, 1) := by decide +kernel
theorem dX2_stateAt_9 : decode cX2_stateAt 9 = .ok (.iadd, 1) := by decide +kernel
theorem dX2_stateAt_10 : decode cX2_stateAt 10 = .ok (.bipush 6, 2) := by decide +kernel
theorem dX2_stateAt_12 : decode cX2_stateAt 12 = .ok (.invokestatic 33, 3) := by decide +kernel
theorem dX2_stateAt_15 : decode cX2_stateAt 15 = .ok (.aaload, 1) := by decide +kernel
theorem dX2_stateAt_16 : decode cX2_stateAt 16 = .ok (.areturn, 1) := by decide +kernel
theorem dX3_init_0 : decode cX3_init 0 = .ok (.aload_n 0, 1) := by decide +kernel
theorem dX3_init_1 : decode cX3_init 1 = .ok (.invokespecial 3, 3) := by decide +kernel
theorem dX3_init_4 : decode cX3_init 4 = .ok (.aload_n 0, 1) := by decide +kernel
theorem dX3_init_5 : decode cX3_init 5 = .ok (.iconst 0, 1) := by decide +kernel
theorem dX3_init_6 : decode cX3_init 6 = .ok (.putfield 9, 3) := by decide +kernel
theorem dX3_init_9 : decode cX3_init 9 = .ok (.aload_n 0, 1) := by decide +kernel
theorem dX3_init_10 : decode cX3_init 10 = .ok (.iconst 0, 1) := by decide +kernel
theorem dX3_init_11 : decode cX3_init 11 = .ok (.putfield 15, 3) := by decide +kernel
theorem dX3_init_14 : decode cX3_init 14 = .ok (.aload_n 0, 1) := by decide +kernel
theorem dX3_init_15 : decode cX3_init 15 = .ok (.iconst 0, 1) := by decide +kernel
theorem dX3_init_16 : decode cX3_init 16 = .ok (.putfield 18, 3) := by decide +kernel
theorem dX3_init_19 : decode cX3_init 19 = .ok (.aload_n 0, 1) := by decide +kernel
theorem dX3_init_20 : decode cX3_init 20 = .ok (.iconst 0, 1) := by decide +kernel
theorem dX3_init_21 : decode cX3_init 21 = .ok (.putfield 21, 3) := by decide +kernel
theorem dX3_init_24 : decode cX3_init 24 = .ok (.aload_n 0, 1) := by decide +kernel
theorem dX3_init_25 : decode cX3_init 25 = .ok (.bipush 20, 2) := by decide +kernel
theorem dX3_init_27 : decode cX3_init 27 = .ok (.newarray .int, 2) := by decide +kernel
theorem dX3_init_29 : decode cX3_init 29 = .ok (.putfield 24, 3) := by decide +kernel
theorem dX3_init_32 : decode cX3_init 32 = .ok (.return_, 1) := by decide +kernel
theorem dX3_copyFrom_0 : decode cX3_copyFrom 0 = .ok (.aload_n 0, 1) := by decide +kernel
theorem dX3_copyFrom_1 : decode cX3_copyFrom 1 = .ok (.aload_n 1, 1) := by decide +kernel
theorem dX3_copyFrom_2 : decode cX3_copyFrom 2 = .ok (.getfield 9, 3) := by decide +kernel
theorem dX3_copyFrom_5 : decode cX3_copyFrom 5 = .ok (.putfield 9, 3) := by decide +kernel
theorem dX3_copyFrom_8 : decode cX3_copyFrom 8 = .ok (.aload_n 0, 1) := by decide +kernel
theorem dX3_copyFrom_9 : decode cX3_copyFrom 9 = .ok (.aload_n 1, 1) := by decide +kernel
theorem dX3_copyFrom_10 : decode cX3_copyFrom 10 = .ok (.getfield 15, 3) := by decide +kernel
theorem dX3_copyFrom_13 : decode cX3_copyFrom 13 = .ok (.putfield 15, 3) := by decide +kernel
theorem dX3_copyFrom_16 : decode cX3_copyFrom 16 = .ok (.aload_n 0, 1) := by decide +kernel
theorem dX3_copyFrom_17 : decode cX3_copyFrom 17 = .ok (.aload_n 1, 1) := by decide +kernel
theorem dX3_copyFrom_18 : decode cX3_copyFrom 18 = .ok (.getfield 18, 3) := by decide +kernel
theorem dX3_copyFrom_21 : decode cX3_copyFrom 21 = .ok (.putfield 18, 3) := by decide +kernel
theorem dX3_copyFrom_24 : decode cX3_copyFrom 24 = .ok (.aload_n 0, 1) := by decide +kernel
theorem dX3_copyFrom_25 : decode cX3_copyFrom 25 = .ok (.aload_n 1, 1) := by decide +kernel
theorem dX3_copyFrom_26 : decode cX3_copyFrom 26 = .ok (.getfield 21, 3) := by decide +kernel
theorem dX3_copyFrom_29 : decode cX3_copyFrom 29 = .ok (.putfield 21, 3) := by decide +kernel
theorem dX3_copyFrom_32 : decode cX3_copyFrom 32 = .ok (.aload_n 1, 1) := by decide +kernel
theorem dX3_copyFrom_33 : decode cX3_copyFrom 33 = .ok (.getfield 24, 3) := by decide +kernel
theorem dX3_copyFrom_36 : decode cX3_copyFrom 36 = .ok (.aload_n 0, 1) := by decide +kernel
theorem dX3_copyFrom_37 : decode cX3_copyFrom 37 = .ok (.getfield 24, 3) := by decide +kernel
theorem dX3_copyFrom_40 : decode cX3_copyFrom 40 = .ok (.invokestatic 28, 3) := by decide +kernel
theorem dX3_copyFrom_43 : decode cX3_copyFrom 43 = .ok (.return_, 1) := by decide +kernel
theorem dX3_renew_0 : decode cX3_renew 0 = .ok (.aload_n 0, 1) := by decide +kernel
theorem dX3_renew_1 : decode cX3_renew 1 = .ok (.iconst 0, 1) := by decide +kernel
theorem dX3_renew_2 : decode cX3_renew 2 = .ok (.putfield 9, 3) := by decide +kernel
theorem dX3_renew_5 : decode cX3_renew 5 = .ok (.aload_n 0, 1) := by decide +kernel
theorem dX3_renew_6 : decode cX3_renew 6 = .ok (.iconst 0, 1) := by decide +kernel
theorem dX3_renew_7 : decode cX3_renew 7 = .ok (.putfield 15, 3) := by decide +kernel
theorem dX3_renew_10 : decode cX3_renew 10 = .ok (.aload_n 0, 1) := by decide +kernel
theorem dX3_renew_11 : decode cX3_renew 11 = .ok (.iconst 0, 1) := by decide +kernel
theorem dX3_renew_12 : decode cX3_renew 12 = .ok (.putfield 18, 3) := by decide +kernel
theorem dX3_renew_15 : decode cX3_renew 15 = .ok (.aload_n 0, 1) := by decide +kernel
theorem dX3_renew_16 : decode cX3_renew 16 = .ok (.iconst 0, 1) := by decide +kernel
theorem dX3_renew_17 : decode cX3_renew 17 = .ok (.putfield 21, 3) := by decide +kernel
theorem dX3_renew_20 : decode cX3_renew 20 = .ok (.aload_n 0, 1) := by decide +kernel
theorem dX3_renew_21 : decode cX3_renew 21 = .ok (.getfield 24, 3) := by decide +kernel
theorem dX3_renew_24 : decode cX3_renew 24 = .ok (.iconst 0, 1) := by decide +kernel
theorem dX3_renew_25 : decode cX3_renew 25 = .ok (.invokestatic 32, 3) := by decide +kernel
theorem dX3_renew_28 : decode cX3_renew 28 = .ok (.return_, 1) := by decide +kernel
theorem dX3_addSecond_0 : decode cX3_addSecond 0 = .ok (.aload_n 0, 1) := by decide +kernel
theorem dX3_addSecond_1 : decode cX3_addSecond 1 = .ok (.getfield 24, 3) := by decide +kernel
theorem dX3_addSecond_4 : decode cX3_addSecond 4 = .ok (.aload_n 0, 1) := by decide +kernel
theorem dX3_addSecond_5 : decode cX3_addSecond 5 = .ok (.getfield 21, 3) := by decide +kernel
theorem dX3_addSecond_8 : decode cX3_addSecond 8 = .ok (.bipush 20, 2) := by decide +kernel
theorem dX3_addSecond_10 : decode cX3_addSecond 10 = .ok (.invokestatic 38, 3) := by decide +kernel
theorem dX3_addSecond_13 : decode cX3_addSecond 13 = .ok (.iload_n 1, 1) := by decide +kernel
theorem dX3_addSecond_14 : decode cX3_addSecond 14 = .ok (.iastore, 1) := by decide +kernel
theorem dX3_addSecond_15 : decode cX3_addSecond 15 = .ok (.aload_n 0, 1) := by decide +kernel
theorem dX3_addSecond_16 : decode cX3_addSecond 16 = .ok (.dup, 1) := by decide +kernel
theorem dX3_addSecond_17 : decode cX3_addSecond 17 = .ok (.getfield 21, 3) := by decide +kernel
theorem dX3_addSecond_20 : decode cX3_addSecond 20 = .ok (.iconst 1, 1) := by decide +kernel
theorem dX3_addSecond_21 : decode cX3_addSecond 21 = .ok (.iadd, 1) := by decide +kernel
theorem dX3_addSecond_22 : decode cX3_addSecond 22 = .ok (.putfield 21, 3) := by decide +kernel
theorem dX3_addSecond_25 : decode cX3_addSecond 25 = .ok (.aload_n 0, 1) := by decide +kernel
theorem dX3_addSecond_26 : decode cX3_addSecond 26 = .ok (.dup, 1) := by decide +kernel
theorem dX3_addSecond_27 : decode cX3_addSecond 27 = .ok (.getfield 18, 3) := by decide +kernel
theorem dX3_addSecond_30 : decode cX3_addSecond 30 = .ok (.iload_n 1, 1) := by decide +kernel
theorem dX3_addSecond_31 : decode cX3_addSecond 31 = .ok (.iadd, 1) := by decide +kernel
theorem dX3_addSecond_32 : decode cX3_addSecond 32 = .ok (.putfield 18, 3) := by decide +kernel
theorem dX3_addSecond_35 : decode cX3_addSecond 35 = .ok (.return_, 1) := by decide +kernel
theorem dX3_powerOf_0 : decode cX3_powerOf 0 = .ok (.aload_n 0, 1) := by decide +kernel
theorem dX3_powerOf_1 : decode cX3_powerOf 1 = .ok (.getfield 24, 3) := by decide +kernel
theorem dX3_powerOf_4 : decode cX3_powerOf 4 = .ok (.aload_n 0, 1) := by decide +kernel
theorem dX3_powerOf_5 : decode cX3_powerOf 5 = .ok (.getfield 21, 3) := by decide +kernel
theorem dX3_powerOf_8 : decode cX3_powerOf 8 = .ok (.iload_n 1, 1) := by decide +kernel
theorem dX3_powerOf_9 : decode cX3_powerOf 9 = .ok (.isub, 1) := by decide +kernel
theorem dX3_powerOf_10 : decode cX3_powerOf 10 = .ok (.bipush 20, 2) := by decide +kernel
theorem dX3_powerOf_12 : decode cX3_powerOf 12 = .ok (.invokestatic 38, 3) := by decide +kernel
theorem dX3_powerOf_15 : decode cX3_powerOf 15 = .ok (.iaload, 1) := by decide +kernel
theorem dX3_powerOf_16 : decode cX3_powerOf 16 = .ok (.ireturn, 1) := by decide +kernel
theorem dX4_init_0 : decode cX4_init 0 = .ok (.aload_n 0, 1) := by decide +kernel
theorem dX4_init_1 : decode cX4_init 1 = .ok (.invokespecial 3, 3) := by decide +kernel
theorem dX4_init_4 : decode cX4_init 4 = .ok (.aload_n 0, 1) := by decide +kernel
theorem dX4_init_5 : decode cX4_init 5 = .ok (.bipush 6, 2) := by decide +kernel
theorem dX4_init_7 : decode cX4_init 7 = .ok (.newarray .int, 2) := by decide +kernel
theorem dX4_init_9 : decode cX4_init 9 = .ok (.putfield 11, 3) := by decide +kernel
theorem dX4_init_12 : decode cX4_init 12 = .ok (.aload_n 0, 1) := by decide +kernel
theorem dX4_init_13 : decode cX4_init 13 = .ok (.bipush 6, 2) := by decide +kernel
theorem dX4_init_15 : decode cX4_init 15 = .ok (.bipush 40, 2) := by decide +kernel
theorem dX4_init_17 : decode cX4_init 17 = .ok (.multianewarray 15 2, 4) := by decide +kernel
theorem dX4_init_21 : decode cX4_init 21 = .ok (.putfield 17, 3) := by decide +kernel
theorem dX4_init_24 : decode cX4_init 24 = .ok (.aload_n 0, 1) := by decide +kernel
theorem dX4_init_25 : decode cX4_init 25 = .ok (.bipush 6, 2) := by decide +kernel
theorem dX4_init_27 : decode cX4_init 27 = .ok (.bipush 6, 2) := by decide +kernel
theorem dX4_init_29 : decode cX4_init 29 = .ok (.multianewarray 15 2, 4) := by decide +kernel
theorem dX4_init_33 : decode cX4_init 33 = .ok (.putfield 20, 3) := by decide +kernel
theorem dX4_init_36 : decode cX4_init 36 = .ok (.aload_n 0, 1) := by decide +kernel
theorem dX4_init_37 : decode cX4_init 37 = .ok (.bipush 32, 2) := by decide +kernel
theorem dX4_init_39 : decode cX4_init 39 = .ok (.bipush 6, 2) := by decide +kernel
theorem dX4_init_41 : decode cX4_init 41 = .ok (.multianewarray 15 2, 4) := by decide +kernel
theorem dX4_init_45 : decode cX4_init 45 = .ok (.putfield 23, 3) := by decide +kernel
theorem dX4_init_48 : decode cX4_init 48 = .ok (.aload_n 0, 1) := by decide +kernel
theorem dX4_init_49 : decode cX4_init 49 = .ok (.iconst 0, 1) := by decide +kernel
theorem dX4_init_50 : decode cX4_init 50 = .ok (.putfield 26, 3) := by decide +kernel
theorem dX4_init_53 : decode cX4_init 53 = .ok (.return_, 1) := by decide +kernel
theorem dX5_init_0 : decode cX5_init 0 = .ok (.aload_n 0, 1) := by decide +kernel
theorem dX5_init_1 : decode cX5_init 1 = .ok (.invokespecial 3, 3) := by decide +kernel
theorem dX5_init_4 : decode cX5_init 4 = .ok (.aload_n 0, 1) := by decide +kernel
theorem dX5_init_5 : decode cX5_init 5 = .ok (.bipush 40, 2) := by decide +kernel
theorem dX5_init_7 : decode cX5_init 7 = .ok (.newarray .int, 2) := by decide +kernel
theorem dX5_init_9 : decode cX5_init 9 = .ok (.putfield 9, 3) := by decide +kernel
theorem dX5_init_12 : decode cX5_init 12 = .ok (.aload_n 0, 1) := by decide +kernel
theorem dX5_init_13 : decode cX5_init 13 = .ok (.bipush 40, 2) := by decide +kernel
theorem dX5_init_15 : decode cX5_init 15 = .ok (.newarray .int, 2) := by decide +kernel
theorem dX5_init_17 : decode cX5_init 17 = .ok (.putfield 15, 3) := by decide +kernel
theorem dX5_init_20 : decode cX5_init 20 = .ok (.return_, 1) := by decide +kernel
theorem dX5_draw_0 : decode cX5_draw 0 = .ok (.aload_n 1, 1) := by decide +kernel
theorem dX5_draw_1 : decode cX5_draw 1 = .ok (.getfield 18, 3) := by decide +kernel
theorem dX5_draw_4 : decode cX5_draw 4 = .ok (.getfield 24, 3) := by decide +kernel
theorem dX5_draw_7 : decode cX5_draw 7 = .ok (.istore 5, 2) := by decide +kernel
theorem dX5_draw_9 : decode cX5_draw 9 = .ok (.aload_n 1, 1) := by decide +kernel
theorem dX5_draw_10 : decode cX5_draw 10 = .ok (.getfield 30, 3) := by decide +kernel
theorem dX5_draw_13 : decode cX5_draw 13 = .ok (.iload_n 2, 1) := by decide +kernel
theorem dX5_draw_14 : decode cX5_draw 14 = .ok (.invokevirtual 34, 3) := by decide +kernel
theorem dX5_draw_17 : decode cX5_draw 17 = .ok (.istore 6, 2) := by decide +kernel
theorem dX5_draw_19 : decode cX5_draw 19 = .ok (.iload 6, 2) := by decide +kernel
theorem dX5_draw_21 : decode cX5_draw 21 = .ok (.iload 5, 2) := by decide +kernel
theorem dX5_draw_23 : decode cX5_draw 23 = .ok (.if_icmp .gt 15, 3) := by decide +kernel
theorem dX5_draw_26 : decode cX5_draw 26 = .ok (.iload 5, 2) := by decide +kernel
theorem dX5_draw_28 : decode cX5_draw 28 = .ok (.iload 6, 2) := by decide +kernel
theorem dX5_draw_30 : decode cX5_draw 30 = .ok (.isub, 1) := by decide +kernel
theorem dX5_draw_31 : decode cX5_draw 31 = .ok (.iconst 2, 1) := by decide +kernel
theorem dX5_draw_32 : decode cX5_draw 32 = .ok (.idiv, 1) := by decide +kernel
theorem dX5_draw_33 : decode cX5_draw 33 = .ok (.iload_n 3, 1) := by decide +kernel
theorem dX5_draw_34 : decode cX5_draw 34 = .ok (.iadd, 1) := by decide +kernel
theorem dX5_draw_35 : decode cX5_draw 35 = .ok (.goto 4, 3) := by decide +kernel
theorem dX5_draw_38 : decode cX5_draw 38 = .ok (.iload_n 3, 1) := by decide +kernel
theorem dX5_draw_39 : decode cX5_draw 39 = .ok (.istore 7, 2) := by decide +kernel
theorem dX5_draw_41 : decode cX5_draw 41 = .ok (.iconst 0, 1) := by decide +kernel
theorem dX5_draw_42 : decode cX5_draw 42 = .ok (.istore 8, 2) := by decide +kernel
theorem dX5_draw_44 : decode cX5_draw 44 = .ok (.iload 8, 2) := by decide +kernel
theorem dX5_draw_46 : decode cX5_draw 46 = .ok (.aload 4, 2) := by decide +kernel
theorem dX5_draw_48 : decode cX5_draw 48 = .ok (.arraylength, 1) := by decide +kernel
theorem dX5_draw_49 : decode cX5_draw 49 = .ok (.if_icmp .ge 38, 3) := by decide +kernel
theorem dX5_draw_52 : decode cX5_draw 52 = .ok (.aload 4, 2) := by decide +kernel
theorem dX5_draw_54 : decode cX5_draw 54 = .ok (.iload 8, 2) := by decide +kernel
theorem dX5_draw_56 : decode cX5_draw 56 = .ok (.iload 8, 2) := by decide +kernel
theorem dX5_draw_58 : decode cX5_draw 58 = .ok (.iload 5, 2) := by decide +kernel
theorem dX5_draw_60 : decode cX5_draw 60 = .ok (.if_icmp .ge 19, 3) := by decide +kernel
theorem dX5_draw_63 : decode cX5_draw 63 = .ok (.aload_n 1, 1) := by decide +kernel
theorem dX5_draw_64 : decode cX5_draw 64 = .ok (.getfield 30, 3) := by decide +kernel
theorem dX5_draw_67 : decode cX5_draw 67 = .ok (.iload_n 2, 1) := by decide +kernel
theorem dX5_draw_68 : decode cX5_draw 68 = .ok (.iload 8, 2) := by decide +kernel
theorem dX5_draw_70 : decode cX5_draw 70 = .ok (.iload 7, 2) := by decide +kernel
theorem dX5_draw_72 : decode cX5_draw 72 = .ok (.isub, 1) := by decide +kernel
theorem dX5_draw_73 : decode cX5_draw 73 = .ok (.invokevirtual 40, 3) := by decide +kernel
theorem dX5_draw_76 : decode cX5_draw 76 = .ok (.goto 4, 3) := by decide +kernel
theorem dX5_draw_79 : decode cX5_draw 79 = .ok (.iconst 0, 1) := by decide +kernel
theorem dX5_draw_80 : decode cX5_draw 80 = .ok (.iastore, 1) := by decide +kernel
theorem dX5_draw_81 : decode cX5_draw 81 = .ok (.iinc 8 1, 3) := by decide +kernel
theorem dX5_draw_84 : decode cX5_draw 84 = .ok (.goto (-40), 3) := by decide +kernel
theorem dX5_draw_87 : decode cX5_draw 87 = .ok (.return_, 1) := by decide +kernel
theorem dX5_drawAs_0 : decode cX5_drawAs 0 = .ok (.iload_n 3, 1) := by decide +kernel
theorem dX5_drawAs_1 : decode cX5_drawAs 1 = .ok (.iconst 1, 1) := by decide +kernel
theorem dX5_drawAs_2 : decode cX5_drawAs 2 = .ok (.if_icmp .ne 12, 3) := by decide +kernel
theorem dX5_drawAs_5 : decode cX5_drawAs 5 = .ok (.aload_n 0, 1) := by decide +kernel
theorem dX5_drawAs_6 : decode cX5_drawAs 6 = .ok (.aload_n 1, 1) := by decide +kernel
theorem dX5_drawAs_7 : decode cX5_drawAs 7 = .ok (.iload_n 2, 1) := by decide +kernel
theorem dX5_drawAs_8 : decode cX5_drawAs 8 = .ok (.invokevirtual 44, 3) := by decide +kernel
theorem dX5_drawAs_11 : decode cX5_drawAs 11 = .ok (.goto 4, 3) := by decide +kernel
theorem dX5_drawAs_14 : decode cX5_drawAs 14 = .ok (.iconst 0, 1) := by decide +kernel
theorem dX5_drawAs_15 : decode cX5_drawAs 15 = .ok (.istore 4, 2) := by decide +kernel
theorem dX5_drawAs_17 : decode cX5_drawAs 17 = .ok (.aload_n 0, 1) := by decide +kernel
theorem dX5_drawAs_18 : decode cX5_drawAs 18 = .ok (.aload_n 1, 1) := by decide +kernel
theorem dX5_drawAs_19 : decode cX5_drawAs 19 = .ok (.iload_n 2, 1) := by decide +kernel
theorem dX5_drawAs_20 : decode cX5_drawAs 20 = .ok (.iload 4, 2) := by decide +kernel
theorem dX5_drawAs_22 : decode cX5_drawAs 22 = .ok (.aload_n 0, 1) := by decide +kernel
theorem dX5_drawAs_23 : decode cX5_drawAs 23 = .ok (.getfield 9, 3) := by decide +kernel
theorem dX5_drawAs_26 : decode cX5_drawAs 26 = .ok (.invokevirtual 48, 3) := by decide +kernel
theorem dX5_drawAs_29 : decode cX5_drawAs 29 = .ok (.return_, 1) := by decide +kernel
theorem dX5_bestShiftOf_0 : decode cX5_bestShiftOf 0 = .ok (.iconst 0, 1) := by decide +kernel
theorem dX5_bestShiftOf_1 : decode cX5_bestShiftOf 1 = .ok (.istore_n 3, 1) := by decide +kernel
theorem dX5_bestShiftOf_2 : decode cX5_bestShiftOf 2 = .ok (.ldc 54, 2) := by decide +kernel
theorem dX5_bestShiftOf_4 : decode cX5_bestShiftOf 4 = .ok (.istore 4, 2) := by decide +kernel
theorem dX5_bestShiftOf_6 : decode cX5_bestShiftOf 6 = .ok (.ldc 54, 2) := by decide +kernel
theorem dX5_bestShiftOf_8 : decode cX5_bestShiftOf 8 = .ok (.istore 5, 2) := by decide +kernel
theorem dX5_bestShiftOf_10 : decode cX5_bestShiftOf 10 = .ok (.getstatic 55, 3) := by decide +kernel
theorem dX5_bestShiftOf_13 : decode cX5_bestShiftOf 13 = .ok (.astore 6, 2) := by decide +kernel
theorem dX5_bestShiftOf_15 : decode cX5_bestShiftOf 15 = .ok (.aload 6, 2) := by decide +kernel
theorem dX5_bestShiftOf_17 : decode cX5_bestShiftOf 17 = .ok (.arraylength, 1) := by decide +kernel
theorem dX5_bestShiftOf_18 : decode cX5_bestShiftOf 18 = .ok (.istore 7, 2) := by decide +kernel
theorem dX5_bestShiftOf_20 : decode cX5_bestShiftOf 20 = .ok (.iconst 0, 1) := by decide +kernel
theorem dX5_bestShiftOf_21 : decode cX5_bestShiftOf 21 = .ok (.istore 8, 2) := by decide +kernel
theorem dX5_bestShiftOf_23 : decode cX5_bestShiftOf 23 = .ok (.iload 8, 2) := by decide +kernel
theorem dX5_bestShiftOf_25 : decode cX5_bestShiftOf 25 = .ok (.iload 7, 2) := by decide +kernel
theorem dX5_bestShiftOf_27 : decode cX5_bestShiftOf 27 = .ok (.if_icmp .ge 93, 3) := by decide +kernel
theorem dX5_bestShiftOf_30 : decode cX5_bestShiftOf 30 = .ok (.aload 6, 2) := by decide +kernel
theorem dX5_bestShiftOf_32 : decode cX5_bestShiftOf 32 = .ok (.iload 8, 2) := by decide +kernel
theorem dX5_bestShiftOf_34 : decode cX5_bestShiftOf 34 = .ok (.iaload, 1) := by decide +kernel
theorem dX5_bestShiftOf_35 : decode cX5_bestShiftOf 35 = .ok (.istore 9, 2) := by decide +kernel
theorem dX5_bestShiftOf_37 : decode cX5_bestShiftOf 37 = .ok (.aload_n 0, 1) := by decide +kernel
theorem dX5_bestShiftOf_38 : decode cX5_bestShiftOf 38 = .ok (.aload_n 1, 1) := by decide +kernel
theorem dX5_bestShiftOf_39 : decode cX5_bestShiftOf 39 = .ok (.iload_n 2, 1) := by decide +kernel
theorem dX5_bestShiftOf_40 : decode cX5_bestShiftOf 40 = .ok (.iload 9, 2) := by decide +kernel
theorem dX5_bestShiftOf_42 : decode cX5_bestShiftOf 42 = .ok (.aload_n 0, 1) := by decide +kernel
theorem dX5_bestShiftOf_43 : decode cX5_bestShiftOf 43 = .ok (.getfield 9, 3) := by decide +kernel
theorem dX5_bestShiftOf_46 : decode cX5_bestShiftOf 46 = .ok (.invokevirtual 48, 3) := by decide +kernel
theorem dX5_bestShiftOf_49 : decode cX5_bestShiftOf 49 = .ok (.aload_n 1, 1) := by decide +kernel
theorem dX5_bestShiftOf_50 : decode cX5_bestShiftOf 50 = .ok (.getfield 18, 3) := by decide +kernel
theorem dX5_bestShiftOf_53 : decode cX5_bestShiftOf 53 = .ok (.aload_n 0, 1) := by decide +kernel
theorem dX5_bestShiftOf_54 : decode cX5_bestShiftOf 54 = .ok (.getfield 9, 3) := by decide +kernel
theorem dX5_bestShiftOf_57 : decode cX5_bestShiftOf 57 = .ok (.invokevirtual 58, 3) := by decide +kernel
theorem dX5_bestShiftOf_60 : decode cX5_bestShiftOf 60 = .ok (.istore 10, 2) := by decide +kernel
theorem dX5_bestShiftOf_62 : decode cX5_bestShiftOf 62 = .ok (.aload_n 1, 1) := by decide +kernel
theorem dX5_bestShiftOf_63 : decode cX5_bestShiftOf 63 = .ok (.getfield 18, 3) := by decide +kernel
theorem dX5_bestShiftOf_66 : decode cX5_bestShiftOf 66 = .ok (.aload_n 0, 1) := by decide +kernel
theorem dX5_bestShiftOf_67 : decode cX5_bestShiftOf 67 = .ok (.getfield 9, 3) := by decide +kernel
theorem dX5_bestShiftOf_70 : decode cX5_bestShiftOf 70 = .ok (.aload_n 1, 1) := by decide +kernel
theorem dX5_bestShiftOf_71 : decode cX5_bestShiftOf 71 = .ok (.getfield 18, 3) := by decide +kernel
theorem dX5_bestShiftOf_74 : decode cX5_bestShiftOf 74 = .ok (.getfield 62, 3) := by decide +kernel
theorem dX5_bestShiftOf_77 : decode cX5_bestShiftOf 77 = .ok (.invokevirtual 65, 3) := by decide +kernel
theorem dX5_bestShiftOf_80 : decode cX5_bestShiftOf 80 = .ok (.istore 11, 2) := by decide +kernel
theorem dX5_bestShiftOf_82 : decode cX5_bestShiftOf 82 = .ok (.iload 10, 2) := by decide +kernel
theorem dX5_bestShiftOf_84 : decode cX5_bestShiftOf 84 = .ok (.iload 4, 2) := by decide +kernel
theorem dX5_bestShiftOf_86 : decode cX5_bestShiftOf 86 = .ok (.if_icmp .lt 17, 3) := by decide +kernel
theorem dX5_bestShiftOf_89 : decode cX5_bestShiftOf 89 = .ok (.iload 10, 2) := by decide +kernel
theorem dX5_bestShiftOf_91 : decode cX5_bestShiftOf 91 = .ok (.iload 4, 2) := by decide +kernel
theorem dX5_bestShiftOf_93 : decode cX5_bestShiftOf 93 = .ok (.if_icmp .ne 21, 3) := by decide +kernel
theorem dX5_bestShiftOf_96 : decode cX5_bestShiftOf 96 = .ok (.iload 11, 2) := by decide +kernel
theorem dX5_bestShiftOf_98 : decode cX5_bestShiftOf 98 = .ok (.iload 5, 2) := by decide +kernel
theorem dX5_bestShiftOf_100 : decode cX5_bestShiftOf 100 = .ok (.if_icmp .ge 14, 3) := by decide +kernel
theorem dX5_bestShiftOf_103 : decode cX5_bestShiftOf 103 = .ok (.iload 9, 2) := by decide +kernel
theorem dX5_bestShiftOf_105 : decode cX5_bestShiftOf 105 = .ok (.istore_n 3, 1) := by decide +kernel
theorem dX5_bestShiftOf_106 : decode cX5_bestShiftOf 106 = .ok (.iload 10, 2) := by decide +kernel
theorem dX5_bestShiftOf_108 : decode cX5_bestShiftOf 108 = .ok (.istore 4, 2) := by decide +kernel
theorem dX5_bestShiftOf_110 : decode cX5_bestShiftOf 110 = .ok (.iload 11, 2) := by decide +kernel
theorem dX5_bestShiftOf_112 : decode cX5_bestShiftOf 112 = .ok (.istore 5, 2) := by decide +kernel
theorem dX5_bestShiftOf_114 : decode cX5_bestShiftOf 114 = .ok (.iinc 8 1, 3) := by decide +kernel
theorem dX5_bestShiftOf_117 : decode cX5_bestShiftOf 117 = .ok (.goto (-94), 3) := by decide +kernel
theorem dX5_bestShiftOf_120 : decode cX5_bestShiftOf 120 = .ok (.iload_n 3, 1) := by decide +kernel
theorem dX5_bestShiftOf_121 : decode cX5_bestShiftOf 121 = .ok (.ireturn, 1) := by decide +kernel
theorem dX6_init_0 : decode cX6_init 0 = .ok (.aload_n 0, 1) := by decide +kernel
theorem dX6_init_1 : decode cX6_init 1 = .ok (.invokespecial 3, 3) := by decide +kernel
theorem dX6_init_4 : decode cX6_init 4 = .ok (.aload_n 0, 1) := by decide +kernel
theorem dX6_init_5 : decode cX6_init 5 = .ok (.new 9, 3) := by decide +kernel
theorem dX6_init_8 : decode cX6_init 8 = .ok (.dup, 1) := by decide +kernel
theorem dX6_init_9 : decode cX6_init 9 = .ok (.invokespecial 11, 3) := by decide +kernel
theorem dX6_init_12 : decode cX6_init 12 = .ok (.putfield 12, 3) := by decide +kernel
theorem dX6_init_15 : decode cX6_init 15 = .ok (.aload_n 0, 1) := by decide +kernel
theorem dX6_init_16 : decode cX6_init 16 = .ok (.iconst 0, 1) := by decide +kernel
theorem dX6_init_17 : decode cX6_init 17 = .ok (.putfield 18, 3) := by decide +kernel
theorem dX6_init_20 : decode cX6_init 20 = .ok (.aload_n 0, 1) := by decide +kernel
theorem dX6_init_21 : decode cX6_init 21 = .ok (.iconst 0, 1) := by decide +kernel
theorem dX6_init_22 : decode cX6_init 22 = .ok (.putfield 22, 3) := by decide +kernel
theorem dX6_init_25 : decode cX6_init 25 = .ok (.aload_n 0, 1) := by decide +kernel
theorem dX6_init_26 : decode cX6_init 26 = .ok (.iconst 0, 1) := by decide +kernel
theorem dX6_init_27 : decode cX6_init 27 = .ok (.putfield 25, 3) := by decide +kernel
theorem dX6_init_30 : decode cX6_init 30 = .ok (.aload_n 0, 1) := by decide +kernel
theorem dX6_init_31 : decode cX6_init 31 = .ok (.iconst 0, 1) := by decide +kernel
theorem dX6_init_32 : decode cX6_init 32 = .ok (.putfield 28, 3) := by decide +kernel
theorem dX6_init_35 : decode cX6_init 35 = .ok (.return_, 1) := by decide +kernel
theorem dX7_init_0 : decode cX7_init 0 = .ok (.aload_n 0, 1) := by decide +kernel
theorem dX7_init_1 : decode cX7_init 1 = .ok (.invokespecial 3, 3) := by decide +kernel
theorem dX7_init_4 : decode cX7_init 4 = .ok (.aload_n 0, 1) := by decide +kernel
theorem dX7_init_5 : decode cX7_init 5 = .ok (.sipush 130, 3) := by decide +kernel
theorem dX7_init_8 : decode cX7_init 8 = .ok (.newarray .int, 2) := by decide +kernel
theorem dX7_init_10 : decode cX7_init 10 = .ok (.putfield 9, 3) := by decide +kernel
theorem dX7_init_13 : decode cX7_init 13 = .ok (.aload_n 0, 1) := by decide +kernel
theorem dX7_init_14 : decode cX7_init 14 = .ok (.bipush 26, 2) := by decide +kernel
theorem dX7_init_16 : decode cX7_init 16 = .ok (.newarray .int, 2) := by decide +kernel
theorem dX7_init_18 : decode cX7_init 18 = .ok (.putfield 15, 3) := by decide +kernel
theorem dX7_init_21 : decode cX7_init 21 = .ok (.aload_n 0, 1) := by decide +kernel
theorem dX7_init_22 : decode cX7_init 22 = .ok (.bipush 96, 2) := by decide +kernel
theorem dX7_init_24 : decode cX7_init 24 = .ok (.newarray .int, 2) := by decide +kernel
theorem dX7_init_26 : decode cX7_init 26 = .ok (.putfield 18, 3) := by decide +kernel
theorem dX7_init_29 : decode cX7_init 29 = .ok (.aload_n 0, 1) := by decide +kernel
theorem dX7_init_30 : decode cX7_init 30 = .ok (.bipush 8, 2) := by decide +kernel
theorem dX7_init_32 : decode cX7_init 32 = .ok (.newarray .int, 2) := by decide +kernel
theorem dX7_init_34 : decode cX7_init 34 = .ok (.putfield 21, 3) := by decide +kernel
theorem dX7_init_37 : decode cX7_init 37 = .ok (.aload_n 0, 1) := by decide +kernel
theorem dX7_init_38 : decode cX7_init 38 = .ok (.iconst 0, 1) := by decide +kernel
theorem dX7_init_39 : decode cX7_init 39 = .ok (.putfield 24, 3) := by decide +kernel
theorem dX7_init_42 : decode cX7_init 42 = .ok (.return_, 1) := by decide +kernel
theorem dX7_copyFrom_0 : decode cX7_copyFrom 0 = .ok (.aload_n 1, 1) := by decide +kernel
theorem dX7_copyFrom_1 : decode cX7_copyFrom 1 = .ok (.getfield 9, 3) := by decide +kernel
theorem dX7_copyFrom_4 : decode cX7_copyFrom 4 = .ok (.aload_n 0, 1) := by decide +kernel
theorem dX7_copyFrom_5 : decode cX7_copyFrom 5 = .ok (.getfield 9, 3) := by decide +kernel
theorem dX7_copyFrom_8 : decode cX7_copyFrom 8 = .ok (.invokestatic 28, 3) := by decide +kernel
theorem dX7_copyFrom_11 : decode cX7_copyFrom 11 = .ok (.aload_n 1, 1) := by decide +kernel
theorem dX7_copyFrom_12 : decode cX7_copyFrom 12 = .ok (.getfield 15, 3) := by decide +kernel
theorem dX7_copyFrom_15 : decode cX7_copyFrom 15 = .ok (.aload_n 0, 1) := by decide +kernel
theorem dX7_copyFrom_16 : decode cX7_copyFrom 16 = .ok (.getfield 15, 3) := by decide +kernel
theorem dX7_copyFrom_19 : decode cX7_copyFrom 19 = .ok (.invokestatic 28, 3) := by decide +kernel
theorem dX7_copyFrom_22 : decode cX7_copyFrom 22 = .ok (.aload_n 1, 1) := by decide +kernel
theorem dX7_copyFrom_23 : decode cX7_copyFrom 23 = .ok (.getfield 18, 3) := by decide +kernel
theorem dX7_copyFrom_26 : decode cX7_copyFrom 26 = .ok (.aload_n 0, 1) := by decide +kernel
theorem dX7_copyFrom_27 : decode cX7_copyFrom 27 = .ok (.getfield 18, 3) := by decide +kernel
theorem dX7_copyFrom_30 : decode cX7_copyFrom 30 = .ok (.invokestatic 28, 3) := by decide +kernel
theorem dX7_copyFrom_33 : decode cX7_copyFrom 33 = .ok (.aload_n 1, 1) := by decide +kernel
theorem dX7_copyFrom_34 : decode cX7_copyFrom 34 = .ok (.getfield 21, 3) := by decide +kernel
theorem dX7_copyFrom_37 : decode cX7_copyFrom 37 = .ok (.aload_n 0, 1) := by decide +kernel
theorem dX7_copyFrom_38 : decode cX7_copyFrom 38 = .ok (.getfield 21, 3) := by decide +kernel
theorem dX7_copyFrom_41 : decode cX7_copyFrom 41 = .ok (.invokestatic 28, 3) := by decide +kernel
theorem dX7_copyFrom_44 : decode cX7_copyFrom 44 = .ok (.aload_n 0, 1) := by decide +kernel
theorem dX7_copyFrom_45 : decode cX7_copyFrom 45 = .ok (.aload_n 1, 1) := by decide +kernel
theorem dX7_copyFrom_46 : decode cX7_copyFrom 46 = .ok (.getfield 24, 3) := by decide +kernel
theorem dX7_copyFrom_49 : decode cX7_copyFrom 49 = .ok (.putfield 24, 3) := by decide +kernel
theorem dX7_copyFrom_52 : decode cX7_copyFrom 52 = .ok (.return_, 1) := by decide +kernel
theorem dX7_widthOf_0 : decode cX7_widthOf 0 = .ok (.iload_n 1, 1) := by decide +kernel
theorem dX7_widthOf_1 : decode cX7_widthOf 1 = .ok (.bipush 26, 2) := by decide +kernel
theorem dX7_widthOf_3 : decode cX7_widthOf 3 = .ok (.if_icmp .ne 5, 3) := by decide +kernel
theorem dX7_widthOf_6 : decode cX7_widthOf 6 = .ok (.iconst 2, 1) := by decide +kernel
theorem dX7_widthOf_7 : decode cX7_widthOf 7 = .ok (.ireturn, 1) := by decide +kernel
theorem dX7_widthOf_8 : decode cX7_widthOf 8 = .ok (.aload_n 0, 1) := by decide +kernel
theorem dX7_widthOf_9 : decode cX7_widthOf 9 = .ok (.iload_n 1, 1) := by decide +kernel
theorem dX7_widthOf_10 : decode cX7_widthOf 10 = .ok (.invokevirtual 32, 3) := by decide +kernel
theorem dX7_widthOf_13 : decode cX7_widthOf 13 = .ok (.ifCond .eq 12, 3) := by decide +kernel
theorem dX7_widthOf_16 : decode cX7_widthOf 16 = .ok (.aload_n 0, 1) := by decide +kernel
theorem dX7_widthOf_17 : decode cX7_widthOf 17 = .ok (.getfield 15, 3) := by decide +kernel
theorem dX7_widthOf_20 : decode cX7_widthOf 20 = .ok (.iload_n 1, 1) := by decide +kernel
theorem dX7_widthOf_21 : decode cX7_widthOf 21 = .ok (.iaload, 1) := by decide +kernel
theorem dX7_widthOf_22 : decode cX7_widthOf 22 = .ok (.goto 4, 3) := by decide +kernel
theorem dX7_widthOf_25 : decode cX7_widthOf 25 = .ok (.iconst 0, 1) := by decide +kernel
theorem dX7_widthOf_26 : decode cX7_widthOf 26 = .ok (.ireturn, 1) := by decide +kernel
theorem dX7_columnOf_0 : decode cX7_columnOf 0 = .ok (.aload_n 0, 1) := by decide +kernel
theorem dX7_columnOf_1 : decode cX7_columnOf 1 = .ok (.iload_n 1, 1) := by decide +kernel
theorem dX7_columnOf_2 : decode cX7_columnOf 2 = .ok (.invokevirtual 32, 3) := by decide +kernel
theorem dX7_columnOf_5 : decode cX7_columnOf 5 = .ok (.ifCond .eq 26, 3) := by decide +kernel
theorem dX7_columnOf_8 : decode cX7_columnOf 8 = .ok (.iload_n 2, 1) := by decide +kernel
theorem dX7_columnOf_9 : decode cX7_columnOf 9 = .ok (.ifCond .lt 22, 3) := by decide +kernel
theorem dX7_columnOf_12 : decode cX7_columnOf 12 = .ok (.iload_n 2, 1) := by decide +kernel
theorem dX7_columnOf_13 : decode cX7_columnOf 13 = .ok (.iconst 5, 1) := by decide +kernel
theorem dX7_columnOf_14 : decode cX7_columnOf 14 = .ok (.if_icmp .ge 17, 3) := by decide +kernel
theorem dX7_columnOf_17 : decode cX7_columnOf 17 = .ok (.iload_n 2, 1) := by decide +kernel
theorem dX7_columnOf_18 : decode cX7_columnOf 18 = .ok (.aload_n 0, 1) := by decide +kernel
theorem dX7_columnOf_19 : decode cX7_columnOf 19 = .ok (.getfield 15, 3) := by decide +kernel
theorem dX7_columnOf_22 : decode cX7_columnOf 22 = .ok (.iload_n 1, 1) := by decide +kernel
theorem dX7_columnOf_23 : decode cX7_columnOf 23 = .ok (.iaload, 1) := by decide +kernel
theorem dX7_columnOf_24 : decode cX7_columnOf 24 = .ok (.if_icmp .ge 7, 3) := by decide +kernel
theorem dX7_columnOf_27 : decode cX7_columnOf 27 = .ok (.iconst 1, 1) := by decide +kernel
theorem dX7_columnOf_28 : decode cX7_columnOf 28 = .ok (.goto 4, 3) := by decide +kernel
theorem dX7_columnOf_31 : decode cX7_columnOf 31 = .ok (.iconst 0, 1) := by decide +kernel
theorem dX7_columnOf_32 : decode cX7_columnOf 32 = .ok (.istore_n 3, 1) := by decide +kernel
theorem dX7_columnOf_33 : decode cX7_columnOf 33 = .ok (.iload_n 3, 1) := by decide +kernel
theorem dX7_columnOf_34 : decode cX7_columnOf 34 = .ok (.ifCond .eq 16, 3) := by decide +kernel
theorem dX7_columnOf_37 : decode cX7_columnOf 37 = .ok (.aload_n 0, 1) := by decide +kernel
theorem dX7_columnOf_38 : decode cX7_columnOf 38 = .ok (.getfield 9, 3) := by decide +kernel
theorem dX7_columnOf_41 : decode cX7_columnOf 41 = .ok (.iload_n 1, 1) := by decide +kernel
theorem dX7_columnOf_42 : decode cX7_columnOf 42 = .ok (.iconst 5, 1) := by decide +kernel
theorem dX7_columnOf_43 : decode cX7_columnOf 43 = .ok (.imul, 1) := by decide +kernel
theorem dX7_columnOf_44 : decode cX7_columnOf 44 = .ok (.iload_n 2, 1) := by decide +kernel
theorem dX7_columnOf_45 : decode cX7_columnOf 45 = .ok (.iadd, 1) := by decide +kernel
theorem dX7_columnOf_46 : decode cX7_columnOf 46 = .ok (.iaload, 1) := by decide +kernel
theorem dX7_columnOf_47 : decode cX7_columnOf 47 = .ok (.goto 4, 3) := by decide +kernel
theorem dX7_columnOf_50 : decode cX7_columnOf 50 = .ok (.iconst 0, 1) := by decide +kernel
theorem dX7_columnOf_51 : decode cX7_columnOf 51 = .ok (.ireturn, 1) := by decide +kernel
theorem dX7_putColumn_0 : decode cX7_putColumn 0 = .ok (.aload_n 0, 1) := by decide +kernel
theorem dX7_putColumn_1 : decode cX7_putColumn 1 = .ok (.iload_n 1, 1) := by decide +kernel
theorem dX7_putColumn_2 : decode cX7_putColumn 2 = .ok (.invokevirtual 32, 3) := by decide +kernel
theorem dX7_putColumn_5 : decode cX7_putColumn 5 = .ok (.ifCond .eq 41, 3) := by decide +kernel
theorem dX7_putColumn_8 : decode cX7_putColumn 8 = .ok (.iload_n 2, 1) := by decide +kernel
theorem dX7_putColumn_9 : decode cX7_putColumn 9 = .ok (.ifCond .lt 37, 3) := by decide +kernel
theorem dX7_putColumn_12 : decode cX7_putColumn 12 = .ok (.iload_n 2, 1) := by decide +kernel
theorem dX7_putColumn_13 : decode cX7_putColumn 13 = .ok (.iconst 5, 1) := by decide +kernel
theorem dX7_putColumn_14 : decode cX7_putColumn 14 = .ok (.if_icmp .ge 32, 3) := by decide +kernel
theorem dX7_putColumn_17 : decode cX7_putColumn 17 = .ok (.aload_n 0, 1) := by decide +kernel
theorem dX7_putColumn_18 : decode cX7_putColumn 18 = .ok (.getfield 9, 3) := by decide +kernel
theorem dX7_putColumn_21 : decode cX7_putColumn 21 = .ok (.iload_n 1, 1) := by decide +kernel
theorem dX7_putColumn_22 : decode cX7_putColumn 22 = .ok (.iconst 5, 1) := by decide +kernel
theorem dX7_putColumn_23 : decode cX7_putColumn 23 = .ok (.imul, 1) := by decide +kernel
theorem dX7_putColumn_24 : decode cX7_putColumn 24 = .ok (.iload_n 2, 1) := by decide +kernel
theorem dX7_putColumn_25 : decode cX7_putColumn 25 = .ok (.iadd, 1) := by decide +kernel
theorem dX7_putColumn_26 : decode cX7_putColumn 26 = .ok (.iload_n 3, 1) := by decide +kernel
theorem dX7_putColumn_27 : decode cX7_putColumn 27 = .ok (.iastore, 1) := by decide +kernel
theorem dX7_putColumn_28 : decode cX7_putColumn 28 = .ok (.aload_n 0, 1) := by decide +kernel
theorem dX7_putColumn_29 : decode cX7_putColumn 29 = .ok (.getfield 15, 3) := by decide +kernel
theorem dX7_putColumn_32 : decode cX7_putColumn 32 = .ok (.iload_n 1, 1) := by decide +kernel
theorem dX7_putColumn_33 : decode cX7_putColumn 33 = .ok (.aload_n 0, 1) := by decide +kernel
theorem dX7_putColumn_34 : decode cX7_putColumn 34 = .ok (.getfield 15, 3) := by decide +kernel
theorem dX7_putColumn_37 : decode cX7_putColumn 37 = .ok (.iload_n 1, 1) := by decide +kernel
theorem dX7_putColumn_38 : decode cX7_putColumn 38 = .ok (.iaload, 1) := by decide +kernel
theorem dX7_putColumn_39 : decode cX7_putColumn 39 = .ok (.iload_n 2, 1) := by decide +kernel
theorem dX7_putColumn_40 : decode cX7_putColumn 40 = .ok (.iconst 1, 1) := by decide +kernel
theorem dX7_putColumn_41 : decode cX7_putColumn 41 = .ok (.iadd, 1) := by decide +kernel
theorem dX7_putColumn_42 : decode cX7_putColumn 42 = .ok (.invokestatic 36, 3) := by decide +kernel
theorem dX7_putColumn_45 : decode cX7_putColumn 45 = .ok (.iastore, 1) := by decide +kernel
theorem dX7_putColumn_46 : decode cX7_putColumn 46 = .ok (.return_, 1) := by decide +kernel
theorem dX7_isLetter_0 : decode cX7_isLetter 0 = .ok (.iload_n 1, 1) := by decide +kernel
theorem dX7_isLetter_1 : decode cX7_isLetter 1 = .ok (.ifCond .lt 13, 3) := by decide +kernel
theorem dX7_isLetter_4 : decode cX7_isLetter 4 = .ok (.iload_n 1, 1) := by decide +kernel
theorem dX7_isLetter_5 : decode cX7_isLetter 5 = .ok (.bipush 26, 2) := by decide +kernel
theorem dX7_isLetter_7 : decode cX7_isLetter 7 = .ok (.if_icmp .ge 7, 3) := by decide +kernel
theorem dX7_isLetter_10 : decode cX7_isLetter 10 = .ok (.iconst 1, 1) := by decide +kernel
theorem dX7_isLetter_11 : decode cX7_isLetter 11 = .ok (.goto 4, 3) := by decide +kernel
theorem dX7_isLetter_14 : decode cX7_isLetter 14 = .ok (.iconst 0, 1) := by decide +kernel
theorem dX7_isLetter_15 : decode cX7_isLetter 15 = .ok (.ireturn, 1) := by decide +kernel
theorem dX7_hasMessage_0 : decode cX7_hasMessage 0 = .ok (.iload_n 1, 1) := by decide +kernel
theorem dX7_hasMessage_1 : decode cX7_hasMessage 1 = .ok (.ifCond .lt 21, 3) := by decide +kernel
theorem dX7_hasMessage_4 : decode cX7_hasMessage 4 = .ok (.iload_n 1, 1) := by decide +kernel
theorem dX7_hasMessage_5 : decode cX7_hasMessage 5 = .ok (.aload_n 0, 1) := by decide +kernel
theorem dX7_hasMessage_6 : decode cX7_hasMessage 6 = .ok (.getfield 24, 3) := by decide +kernel
theorem dX7_hasMessage_9 : decode cX7_hasMessage 9 = .ok (.if_icmp .ge 13, 3) := by decide +kernel
theorem dX7_hasMessage_12 : decode cX7_hasMessage 12 = .ok (.iload_n 1, 1) := by decide +kernel
theorem dX7_hasMessage_13 : decode cX7_hasMessage 13 = .ok (.bipush 8, 2) := by decide +kernel
theorem dX7_hasMessage_15 : decode cX7_hasMessage 15 = .ok (.if_icmp .ge 7, 3) := by decide +kernel
theorem dX7_hasMessage_18 : decode cX7_hasMessage 18 = .ok (.iconst 1, 1) := by decide +kernel
theorem dX7_hasMessage_19 : decode cX7_hasMessage 19 = .ok (.goto 4, 3) := by decide +kernel
theorem dX7_hasMessage_22 : decode cX7_hasMessage 22 = .ok (.iconst 0, 1) := by decide +kernel
theorem dX7_hasMessage_23 : decode cX7_hasMessage 23 = .ok (.ireturn, 1) := by decide +kernel
theorem dX7_lengthOf_0 : decode cX7_lengthOf 0 = .ok (.aload_n 0, 1) := by decide +kernel
theorem dX7_lengthOf_1 : decode cX7_lengthOf 1 = .ok (.iload_n 1, 1) := by decide +kernel
theorem dX7_lengthOf_2 : decode cX7_lengthOf 2 = .ok (.invokevirtual 42, 3) := by decide +kernel
theorem dX7_lengthOf_5 : decode cX7_lengthOf 5 = .ok (.ifCond .eq 12, 3) := by decide +kernel
theorem dX7_lengthOf_8 : decode cX7_lengthOf 8 = .ok (.aload_n 0, 1) := by decide +kernel
theorem dX7_lengthOf_9 : decode cX7_lengthOf 9 = .ok (.getfield 21, 3) := by decide +kernel
theorem dX7_lengthOf_12 : decode cX7_lengthOf 12 = .ok (.iload_n 1, 1) := by decide +kernel
theorem dX7_lengthOf_13 : decode cX7_lengthOf 13 = .ok (.iaload, 1) := by decide +kernel
theorem dX7_lengthOf_14 : decode cX7_lengthOf 14 = .ok (.goto 4, 3) := by decide +kernel
theorem dX7_lengthOf_17 : decode cX7_lengthOf 17 = .ok (.iconst 0, 1) := by decide +kernel
theorem dX7_lengthOf_18 : decode cX7_lengthOf 18 = .ok (.ireturn, 1) := by decide +kernel
theorem dX7_characterOf_0 : decode cX7_characterOf 0 = .ok (.aload_n 0, 1) := by decide +kernel
theorem dX7_characterOf_1 : decode cX7_characterOf 1 = .ok (.iload_n 1, 1) := by decide +kernel
theorem dX7_characterOf_2 : decode cX7_characterOf 2 = .ok (.invokevirtual 42, 3) := by decide +kernel
theorem dX7_characterOf_5 : decode cX7_characterOf 5 = .ok (.ifCond .eq 17, 3) := by decide +kernel
theorem dX7_characterOf_8 : decode cX7_characterOf 8 = .ok (.iload_n 2, 1) := by decide +kernel
theorem dX7_characterOf_9 : decode cX7_characterOf 9 = .ok (.ifCond .lt 13, 3) := by decide +kernel
theorem dX7_characterOf_12 : decode cX7_characterOf 12 = .ok (.iload_n 2, 1) := by decide +kernel
theorem dX7_characterOf_13 : decode cX7_characterOf 13 = .ok (.bipush 12, 2) := by decide +kernel
theorem dX7_characterOf_15 : decode cX7_characterOf 15 = .ok (.if_icmp .ge 7, 3) := by decide +kernel
theorem dX7_characterOf_18 : decode cX7_characterOf 18 = .ok (.iconst 1, 1) := by decide +kernel
theorem dX7_characterOf_19 : decode cX7_characterOf 19 = .ok (.goto 4, 3) := by decide +kernel
theorem dX7_characterOf_22 : decode cX7_characterOf 22 = .ok (.iconst 0, 1) := by decide +kernel
theorem dX7_characterOf_23 : decode cX7_characterOf 23 = .ok (.istore_n 3, 1) := by decide +kernel
theorem dX7_characterOf_24 : decode cX7_characterOf 24 = .ok (.iload_n 3, 1) := by decide +kernel
theorem dX7_characterOf_25 : decode cX7_characterOf 25 = .ok (.ifCond .eq 17, 3) := by decide +kernel
theorem dX7_characterOf_28 : decode cX7_characterOf 28 = .ok (.aload_n 0, 1) := by decide +kernel
theorem dX7_characterOf_29 : decode cX7_characterOf 29 = .ok (.getfield 18, 3) := by decide +kernel
theorem dX7_characterOf_32 : decode cX7_characterOf 32 = .ok (.iload_n 1, 1) := by decide +kernel
theorem dX7_characterOf_33 : decode cX7_characterOf 33 = .ok (.bipush 12, 2) := by decide +kernel
theorem dX7_characterOf_35 : decode cX7_characterOf 35 = .ok (.imul, 1) := by decide +kernel
theorem dX7_characterOf_36 : decode cX7_characterOf 36 = .ok (.iload_n 2, 1) := by decide +kernel
theorem dX7_characterOf_37 : decode cX7_characterOf 37 = .ok (.iadd, 1) := by decide +kernel
theorem dX7_characterOf_38 : decode cX7_characterOf 38 = .ok (.iaload, 1) := by decide +kernel
theorem dX7_characterOf_39 : decode cX7_characterOf 39 = .ok (.goto 5, 3) := by decide +kernel
theorem dX7_characterOf_42 : decode cX7_characterOf 42 = .ok (.bipush 26, 2) := by decide +kernel
theorem dX7_characterOf_44 : decode cX7_characterOf 44 = .ok (.ireturn, 1) := by decide +kernel
theorem dX7_startMessage_0 : decode cX7_startMessage 0 = .ok (.aload_n 0, 1) := by decide +kernel
theorem dX7_startMessage_1 : decode cX7_startMessage 1 = .ok (.getfield 24, 3) := by decide +kernel
theorem dX7_startMessage_4 : decode cX7_startMessage 4 = .ok (.ifCond .lt 32, 3) := by decide +kernel
theorem dX7_startMessage_7 : decode cX7_startMessage 7 = .ok (.aload_n 0, 1) := by decide +kernel
theorem dX7_startMessage_8 : decode cX7_startMessage 8 = .ok (.getfield 24, 3) := by decide +kernel
theorem dX7_startMessage_11 : decode cX7_startMessage 11 = .ok (.bipush 8, 2) := by decide +kernel
theorem dX7_startMessage_13 : decode cX7_startMessage 13 = .ok (.if_icmp .ge 23, 3) := by decide +kernel
theorem dX7_startMessage_16 : decode cX7_startMessage 16 = .ok (.aload_n 0, 1) := by decide +kernel
theorem dX7_startMessage_17 : decode cX7_startMessage 17 = .ok (.getfield 21, 3) := by decide +kernel
theorem dX7_startMessage_20 : decode cX7_startMessage 20 = .ok (.aload_n 0, 1) := by decide +kernel
theorem dX7_startMessage_21 : decode cX7_startMessage 21 = .ok (.getfield 24, 3) := by decide +kernel
theorem dX7_startMessage_24 : decode cX7_startMessage 24 = .ok (.iconst 0, 1) := by decide +kernel
theorem dX7_startMessage_25 : decode cX7_startMessage 25 = .ok (.iastore, 1) := by decide +kernel
theorem dX7_startMessage_26 : decode cX7_startMessage 26 = .ok (.aload_n 0, 1) := by decide +kernel
theorem dX7_startMessage_27 : decode cX7_startMessage 27 = .ok (.dup, 1) := by decide +kernel
theorem dX7_startMessage_28 : decode cX7_startMessage 28 = .ok (.getfield 24, 3) := by decide +kernel
theorem dX7_startMessage_31 : decode cX7_startMessage 31 = .ok (.iconst 1, 1) := by decide +kernel
theorem dX7_startMessage_32 : decode cX7_startMessage 32 = .ok (.iadd, 1) := by decide +kernel
theorem dX7_startMessage_33 : decode cX7_startMessage 33 = .ok (.putfield 24, 3) := by decide +kernel
theorem dX7_startMessage_36 : decode cX7_startMessage 36 = .ok (.return_, 1) := by decide +kernel
theorem dX7_addCharacter_0 : decode cX7_addCharacter 0 = .ok (.aload_n 0, 1) := by decide +kernel
theorem dX7_addCharacter_1 : decode cX7_addCharacter 1 = .ok (.getfield 24, 3) := by decide +kernel
theorem dX7_addCharacter_4 : decode cX7_addCharacter 4 = .ok (.iconst 1, 1) := by decide +kernel
theorem dX7_addCharacter_5 : decode cX7_addCharacter 5 = .ok (.isub, 1) := by decide +kernel
theorem dX7_addCharacter_6 : decode cX7_addCharacter 6 = .ok (.istore_n 2, 1) := by decide +kernel
theorem dX7_addCharacter_7 : decode cX7_addCharacter 7 = .ok (.aload_n 0, 1) := by decide +kernel
theorem dX7_addCharacter_8 : decode cX7_addCharacter 8 = .ok (.iload_n 2, 1) := by decide +kernel
theorem dX7_addCharacter_9 : decode cX7_addCharacter 9 = .ok (.invokevirtual 45, 3) := by decide +kernel
theorem dX7_addCharacter_12 : decode cX7_addCharacter 12 = .ok (.istore_n 3, 1) := by decide +kernel
theorem dX7_addCharacter_13 : decode cX7_addCharacter 13 = .ok (.aload_n 0, 1) := by decide +kernel
theorem dX7_addCharacter_14 : decode cX7_addCharacter 14 = .ok (.iload_n 2, 1) := by decide +kernel
theorem dX7_addCharacter_15 : decode cX7_addCharacter 15 = .ok (.invokevirtual 42, 3) := by decide +kernel
theorem dX7_addCharacter_18 : decode cX7_addCharacter 18 = .ok (.ifCond .eq 34, 3) := by decide +kernel
theorem dX7_addCharacter_21 : decode cX7_addCharacter 21 = .ok (.iload_n 3, 1) := by decide +kernel
theorem dX7_addCharacter_22 : decode cX7_addCharacter 22 = .ok (.ifCond .lt 30, 3) := by decide +kernel
theorem dX7_addCharacter_25 : decode cX7_addCharacter 25 = .ok (.iload_n 3, 1) := by decide +kernel
theorem dX7_addCharacter_26 : decode cX7_addCharacter 26 = .ok (.bipush 12, 2) := by decide +kernel
theorem dX7_addCharacter_28 : decode cX7_addCharacter 28 = .ok (.if_icmp .ge 24, 3) := by decide +kernel
theorem dX7_addCharacter_31 : decode cX7_addCharacter 31 = .ok (.aload_n 0, 1) := by decide +kernel
theorem dX7_addCharacter_32 : decode cX7_addCharacter 32 = .ok (.getfield 18, 3) := by decide +kernel
theorem dX7_addCharacter_35 : decode cX7_addCharacter 35 = .ok (.iload_n 2, 1) := by decide +kernel
theorem dX7_addCharacter_36 : decode cX7_addCharacter 36 = .ok (.bipush 12, 2) := by decide +kernel
theorem dX7_addCharacter_38 : decode cX7_addCharacter 38 = .ok (.imul, 1) := by decide +kernel
theorem dX7_addCharacter_39 : decode cX7_addCharacter 39 = .ok (.iload_n 3, 1) := by decide +kernel
theorem dX7_addCharacter_40 : decode cX7_addCharacter 40 = .ok (.iadd, 1) := by decide +kernel
theorem dX7_addCharacter_41 : decode cX7_addCharacter 41 = .ok (.iload_n 1, 1) := by decide +kernel
theorem dX7_addCharacter_42 : decode cX7_addCharacter 42 = .ok (.iastore, 1) := by decide +kernel
theorem dX7_addCharacter_43 : decode cX7_addCharacter 43 = .ok (.aload_n 0, 1) := by decide +kernel
theorem dX7_addCharacter_44 : decode cX7_addCharacter 44 = .ok (.getfield 21, 3) := by decide +kernel
theorem dX7_addCharacter_47 : decode cX7_addCharacter 47 = .ok (.iload_n 2, 1) := by decide +kernel
theorem dX7_addCharacter_48 : decode cX7_addCharacter 48 = .ok (.iload_n 3, 1) := by decide +kernel
theorem dX7_addCharacter_49 : decode cX7_addCharacter 49 = .ok (.iconst 1, 1) := by decide +kernel
theorem dX7_addCharacter_50 : decode cX7_addCharacter 50 = .ok (.iadd, 1) := by decide +kernel
theorem dX7_addCharacter_51 : decode cX7_addCharacter 51 = .ok (.iastore, 1) := by decide +kernel
theorem dX7_addCharacter_52 : decode cX7_addCharacter 52 = .ok (.return_, 1) := by decide +kernel
theorem dX7_dropMessage_0 : decode cX7_dropMessage 0 = .ok (.aload_n 0, 1) := by decide +kernel
theorem dX7_dropMessage_1 : decode cX7_dropMessage 1 = .ok (.iload_n 1, 1) := by decide +kernel
theorem dX7_dropMessage_2 : decode cX7_dropMessage 2 = .ok (.invokevirtual 42, 3) := by decide +kernel
theorem dX7_dropMessage_5 : decode cX7_dropMessage 5 = .ok (.ifCond .ne 4, 3) := by decide +kernel
theorem dX7_dropMessage_8 : decode cX7_dropMessage 8 = .ok (.return_, 1) := by decide +kernel
theorem dX7_dropMessage_9 : decode cX7_dropMessage 9 = .ok (.iload_n 1, 1) := by decide +kernel
theorem dX7_dropMessage_10 : decode cX7_dropMessage 10 = .ok (.istore_n 2, 1) := by decide +kernel
theorem dX7_dropMessage_11 : decode cX7_dropMessage 11 = .ok (.iload_n 2, 1) := by decide +kernel
theorem dX7_dropMessage_12 : decode cX7_dropMessage 12 = .ok (.iconst 1, 1) := by decide +kernel
theorem dX7_dropMessage_13 : decode cX7_dropMessage 13 = .ok (.iadd, 1) := by decide +kernel
theorem dX7_dropMessage_14 : decode cX7_dropMessage 14 = .ok (.bipush 8, 2) := by decide +kernel
theorem dX7_dropMessage_16 : decode cX7_dropMessage 16 = .ok (.if_icmp .ge 65, 3) := by decide +kernel
theorem dX7_dropMessage_19 : decode cX7_dropMessage 19 = .ok (.aload_n 0, 1) := by decide +kernel
theorem dX7_dropMessage_20 : decode cX7_dropMessage 20 = .ok (.getfield 21, 3) := by decide +kernel
theorem dX7_dropMessage_23 : decode cX7_dropMessage 23 = .ok (.iload_n 2, 1) := by decide +kernel
theorem dX7_dropMessage_24 : decode cX7_dropMessage 24 = .ok (.aload_n 0, 1) := by decide +kernel
theorem dX7_dropMessage_25 : decode cX7_dropMessage 25 = .ok (.getfield 21, 3) := by decide +kernel
theorem dX7_dropMessage_28 : decode cX7_dropMessage 28 = .ok (.iload_n 2, 1) := by decide +kernel
theorem dX7_dropMessage_29 : decode cX7_dropMessage 29 = .ok (.iconst 1, 1) := by decide +kernel
theorem dX7_dropMessage_30 : decode cX7_dropMessage 30 = .ok (.iadd, 1) := by decide +kernel
theorem dX7_dropMessage_31 : decode cX7_dropMessage 31 = .ok (.iaload, 1) := by decide +kernel
theorem dX7_dropMessage_32 : decode cX7_dropMessage 32 = .ok (.iastore, 1) := by decide +kernel
theorem dX7_dropMessage_33 : decode cX7_dropMessage 33 = .ok (.iconst 0, 1) := by decide +kernel
theorem dX7_dropMessage_34 : decode cX7_dropMessage 34 = .ok (.istore_n 3, 1) := by decide +kernel
theorem dX7_dropMessage_35 : decode cX7_dropMessage 35 = .ok (.iload_n 3, 1) := by decide +kernel
theorem dX7_dropMessage_36 : decode cX7_dropMessage 36 = .ok (.bipush 12, 2) := by decide +kernel
theorem dX7_dropMessage_38 : decode cX7_dropMessage 38 = .ok (.if_icmp .ge 37, 3) := by decide +kernel
theorem dX7_dropMessage_41 : decode cX7_dropMessage 41 = .ok (.iload_n 2, 1) := by decide +kernel
theorem dX7_dropMessage_42 : decode cX7_dropMessage 42 = .ok (.iconst 1, 1) := by decide +kernel
theorem dX7_dropMessage_43 : decode cX7_dropMessage 43 = .ok (.iadd, 1) := by decide +kernel
theorem dX7_dropMessage_44 : decode cX7_dropMessage 44 = .ok (.bipush 12, 2) := by decide +kernel
theorem dX7_dropMessage_46 : decode cX7_dropMessage 46 = .ok (.imul, 1) := by decide +kernel
theorem dX7_dropMessage_47 : decode cX7_dropMessage 47 = .ok (.iload_n 3, 1) := by decide +kernel
theorem dX7_dropMessage_48 : decode cX7_dropMessage 48 = .ok (.iadd, 1) := by decide +kernel
theorem dX7_dropMessage_49 : decode cX7_dropMessage 49 = .ok (.istore 4, 2) := by decide +kernel
theorem dX7_dropMessage_51 : decode cX7_dropMessage 51 = .ok (.aload_n 0, 1) := by decide +kernel
theorem dX7_dropMessage_52 : decode cX7_dropMessage 52 = .ok (.getfield 18, 3) := by decide +kernel
theorem dX7_dropMessage_55 : decode cX7_dropMessage 55 = .ok (.iload_n 2, 1) := by decide +kernel
theorem dX7_dropMessage_56 : decode cX7_dropMessage 56 = .ok (.bipush 12, 2) := by decide +kernel
theorem dX7_dropMessage_58 : decode cX7_dropMessage 58 = .ok (.imul, 1) := by decide +kernel
theorem dX7_dropMessage_59 : decode cX7_dropMessage 59 = .ok (.iload_n 3, 1) := by decide +kernel
theorem dX7_dropMessage_60 : decode cX7_dropMessage 60 = .ok (.iadd, 1) := by decide +kernel
theorem dX7_dropMessage_61 : decode cX7_dropMessage 61 = .ok (.aload_n 0, 1) := by decide +kernel
theorem dX7_dropMessage_62 : decode cX7_dropMessage 62 = .ok (.getfield 18, 3) := by decide +kernel
theorem dX7_dropMessage_65 : decode cX7_dropMessage 65 = .ok (.iload 4, 2) := by decide +kernel
theorem dX7_dropMessage_67 : decode cX7_dropMessage 67 = .ok (.iaload, 1) := by decide +kernel
theorem dX7_dropMessage_68 : decode cX7_dropMessage 68 = .ok (.iastore, 1) := by decide +kernel
theorem dX7_dropMessage_69 : decode cX7_dropMessage 69 = .ok (.iinc 3 1, 3) := by decide +kernel
theorem dX7_dropMessage_72 : decode cX7_dropMessage 72 = .ok (.goto (-37), 3) := by decide +kernel
theorem dX7_dropMessage_75 : decode cX7_dropMessage 75 = .ok (.iinc 2 1, 3) := by decide +kernel
theorem dX7_dropMessage_78 : decode cX7_dropMessage 78 = .ok (.goto (-67), 3) := by decide +kernel
theorem dX7_dropMessage_81 : decode cX7_dropMessage 81 = .ok (.aload_n 0, 1) := by decide +kernel
theorem dX7_dropMessage_82 : decode cX7_dropMessage 82 = .ok (.dup, 1) := by decide +kernel
theorem dX7_dropMessage_83 : decode cX7_dropMessage 83 = .ok (.getfield 24, 3) := by decide +kernel
theorem dX7_dropMessage_86 : decode cX7_dropMessage 86 = .ok (.iconst 1, 1) := by decide +kernel
theorem dX7_dropMessage_87 : decode cX7_dropMessage 87 = .ok (.isub, 1) := by decide +kernel
theorem dX7_dropMessage_88 : decode cX7_dropMessage 88 = .ok (.putfield 24, 3) := by decide +kernel
theorem dX7_dropMessage_91 : decode cX7_dropMessage 91 = .ok (.return_, 1) := by decide +kernel
theorem dX7_stripColumns_0 : decode cX7_stripColumns 0 = .ok (.aload_n 0, 1) := by decide +kernel
theorem dX7_stripColumns_1 : decode cX7_stripColumns 1 = .ok (.iload_n 1, 1) := by decide +kernel
theorem dX7_stripColumns_2 : decode cX7_stripColumns 2 = .ok (.invokevirtual 45, 3) := by decide +kernel
theorem dX7_stripColumns_5 : decode cX7_stripColumns 5 = .ok (.istore_n 2, 1) := by decide +kernel
theorem dX7_stripColumns_6 : decode cX7_stripColumns 6 = .ok (.iload_n 2, 1) := by decide +kernel
theorem dX7_stripColumns_7 : decode cX7_stripColumns 7 = .ok (.iconst 1, 1) := by decide +kernel
theorem dX7_stripColumns_8 : decode cX7_stripColumns 8 = .ok (.isub, 1) := by decide +kernel
theorem dX7_stripColumns_9 : decode cX7_stripColumns 9 = .ok (.iconst 0, 1) := by decide +kernel
theorem dX7_stripColumns_10 : decode cX7_stripColumns 10 = .ok (.invokestatic 36, 3) := by decide +kernel
theorem dX7_stripColumns_13 : decode cX7_stripColumns 13 = .ok (.istore_n 3, 1) := by decide +kernel
theorem dX7_stripColumns_14 : decode cX7_stripColumns 14 = .ok (.iconst 0, 1) := by decide +kernel
theorem dX7_stripColumns_15 : decode cX7_stripColumns 15 = .ok (.istore 4, 2) := by decide +kernel
theorem dX7_stripColumns_17 : decode cX7_stripColumns 17 = .ok (.iload 4, 2) := by decide +kernel
theorem dX7_stripColumns_19 : decode cX7_stripColumns 19 = .ok (.iload_n 2, 1) := by decide +kernel
theorem dX7_stripColumns_20 : decode cX7_stripColumns 20 = .ok (.if_icmp .ge 23, 3) := by decide +kernel
theorem dX7_stripColumns_23 : decode cX7_stripColumns 23 = .ok (.iload_n 3, 1) := by decide +kernel
theorem dX7_stripColumns_24 : decode cX7_stripColumns 24 = .ok (.aload_n 0, 1) := by decide +kernel
theorem dX7_stripColumns_25 : decode cX7_stripColumns 25 = .ok (.aload_n 0, 1) := by decide +kernel
theorem dX7_stripColumns_26 : decode cX7_stripColumns 26 = .ok (.iload_n 1, 1) := by decide +kernel
theorem dX7_stripColumns_27 : decode cX7_stripColumns 27 = .ok (.iload 4, 2) := by decide +kernel
theorem dX7_stripColumns_29 : decode cX7_stripColumns 29 = .ok (.invokevirtual 49, 3) := by decide +kernel
theorem dX7_stripColumns_32 : decode cX7_stripColumns 32 = .ok (.invokevirtual 52, 3) := by decide +kernel
theorem dX7_stripColumns_35 : decode cX7_stripColumns 35 = .ok (.iadd, 1) := by decide +kernel
theorem dX7_stripColumns_36 : decode cX7_stripColumns 36 = .ok (.istore_n 3, 1) := by decide +kernel
theorem dX7_stripColumns_37 : decode cX7_stripColumns 37 = .ok (.iinc 4 1, 3) := by decide +kernel
theorem dX7_stripColumns_40 : decode cX7_stripColumns 40 = .ok (.goto (-23), 3) := by decide +kernel
theorem dX7_stripColumns_43 : decode cX7_stripColumns 43 = .ok (.iload_n 3, 1) := by decide +kernel
theorem dX7_stripColumns_44 : decode cX7_stripColumns 44 = .ok (.ireturn, 1) := by decide +kernel
theorem dX7_stripBits_0 : decode cX7_stripBits 0 = .ok (.iload_n 2, 1) := by decide +kernel
theorem dX7_stripBits_1 : decode cX7_stripBits 1 = .ok (.istore_n 3, 1) := by decide +kernel
theorem dX7_stripBits_2 : decode cX7_stripBits 2 = .ok (.iconst 0, 1) := by decide +kernel
theorem dX7_stripBits_3 : decode cX7_stripBits 3 = .ok (.istore 4, 2) := by decide +kernel
theorem dX7_stripBits_5 : decode cX7_stripBits 5 = .ok (.iload 4, 2) := by decide +kernel
theorem dX7_stripBits_7 : decode cX7_stripBits 7 = .ok (.aload_n 0, 1) := by decide +kernel
theorem dX7_stripBits_8 : decode cX7_stripBits 8 = .ok (.iload_n 1, 1) := by decide +kernel
theorem dX7_stripBits_9 : decode cX7_stripBits 9 = .ok (.invokevirtual 45, 3) := by decide +kernel
theorem dX7_stripBits_12 : decode cX7_stripBits 12 = .ok (.if_icmp .ge 51, 3) := by decide +kernel
theorem dX7_stripBits_15 : decode cX7_stripBits 15 = .ok (.iload_n 3, 1) := by decide +kernel
theorem dX7_stripBits_16 : decode cX7_stripBits 16 = .ok (.ifCond .lt 47, 3) := by decide +kernel
theorem dX7_stripBits_19 : decode cX7_stripBits 19 = .ok (.aload_n 0, 1) := by decide +kernel
theorem dX7_stripBits_20 : decode cX7_stripBits 20 = .ok (.iload_n 1, 1) := by decide +kernel
theorem dX7_stripBits_21 : decode cX7_stripBits 21 = .ok (.iload 4, 2) := by decide +kernel
theorem dX7_stripBits_23 : decode cX7_stripBits 23 = .ok (.invokevirtual 49, 3) := by decide +kernel
theorem dX7_stripBits_26 : decode cX7_stripBits 26 = .ok (.istore 5, 2) := by decide +kernel
theorem dX7_stripBits_28 : decode cX7_stripBits 28 = .ok (.aload_n 0, 1) := by decide +kernel
theorem dX7_stripBits_29 : decode cX7_stripBits 29 = .ok (.iload 5, 2) := by decide +kernel
theorem dX7_stripBits_31 : decode cX7_stripBits 31 = .ok (.invokevirtual 52, 3) := by decide +kernel
theorem dX7_stripBits_34 : decode cX7_stripBits 34 = .ok (.istore 6, 2) := by decide +kernel
theorem dX7_stripBits_36 : decode cX7_stripBits 36 = .ok (.iload_n 3, 1) := by decide +kernel
theorem dX7_stripBits_37 : decode cX7_stripBits 37 = .ok (.iload 6, 2) := by decide +kernel
theorem dX7_stripBits_39 : decode cX7_stripBits 39 = .ok (.if_icmp .ge 11, 3) := by decide +kernel
theorem dX7_stripBits_42 : decode cX7_stripBits 42 = .ok (.aload_n 0, 1) := by decide +kernel
theorem dX7_stripBits_43 : decode cX7_stripBits 43 = .ok (.iload 5, 2) := by decide +kernel
theorem dX7_stripBits_45 : decode cX7_stripBits 45 = .ok (.iload_n 3, 1) := by decide +kernel
theorem dX7_stripBits_46 : decode cX7_stripBits 46 = .ok (.invokevirtual 55, 3) := by decide +kernel
theorem dX7_stripBits_49 : decode cX7_stripBits 49 = .ok (.ireturn, 1) := by decide +kernel
theorem dX7_stripBits_50 : decode cX7_stripBits 50 = .ok (.iload_n 3, 1) := by decide +kernel
theorem dX7_stripBits_51 : decode cX7_stripBits 51 = .ok (.iload 6, 2) := by decide +kernel
theorem dX7_stripBits_53 : decode cX7_stripBits 53 = .ok (.iconst 1, 1) := by decide +kernel
theorem dX7_stripBits_54 : decode cX7_stripBits 54 = .ok (.iadd, 1) := by decide +kernel
theorem dX7_stripBits_55 : decode cX7_stripBits 55 = .ok (.isub, 1) := by decide +kernel
theorem dX7_stripBits_56 : decode cX7_stripBits 56 = .ok (.istore_n 3, 1) := by decide +kernel
theorem dX7_stripBits_57 : decode cX7_stripBits 57 = .ok (.iinc 4 1, 3) := by decide +kernel
theorem dX7_stripBits_60 : decode cX7_stripBits 60 = .ok (.goto (-55), 3) := by decide +kernel
theorem dX7_stripBits_63 : decode cX7_stripBits 63 = .ok (.iconst 0, 1) := by decide +kernel
theorem dX7_stripBits_64 : decode cX7_stripBits 64 = .ok (.ireturn, 1) := by decide +kernel
theorem dX8_init_0 : decode cX8_init 0 = .ok (.aload_n 0, 1) := by decide +kernel
theorem dX8_init_1 : decode cX8_init 1 = .ok (.invokespecial 3, 3) := by decide +kernel
theorem dX8_init_4 : decode cX8_init 4 = .ok (.aload_n 0, 1) := by decide +kernel
theorem dX8_init_5 : decode cX8_init 5 = .ok (.new 9, 3) := by decide +kernel
theorem dX8_init_8 : decode cX8_init 8 = .ok (.dup, 1) := by decide +kernel
theorem dX8_init_9 : decode cX8_init 9 = .ok (.invokespecial 11, 3) := by decide +kernel
theorem dX8_init_12 : decode cX8_init 12 = .ok (.putfield 12, 3) := by decide +kernel
theorem dX8_init_15 : decode cX8_init 15 = .ok (.aload_n 0, 1) := by decide +kernel
theorem dX8_init_16 : decode cX8_init 16 = .ok (.new 18, 3) := by decide +kernel
theorem dX8_init_19 : decode cX8_init 19 = .ok (.dup, 1) := by decide +kernel
theorem dX8_init_20 : decode cX8_init 20 = .ok (.invokespecial 20, 3) := by decide +kernel
theorem dX8_init_23 : decode cX8_init 23 = .ok (.putfield 21, 3) := by decide +kernel
theorem dX8_init_26 : decode cX8_init 26 = .ok (.aload_n 0, 1) := by decide +kernel
theorem dX8_init_27 : decode cX8_init 27 = .ok (.new 25, 3) := by decide +kernel
theorem dX8_init_30 : decode cX8_init 30 = .ok (.dup, 1) := by decide +kernel
theorem dX8_init_31 : decode cX8_init 31 = .ok (.invokespecial 27, 3) := by decide +kernel
theorem dX8_init_34 : decode cX8_init 34 = .ok (.putfield 28, 3) := by decide +kernel
theorem dX8_init_37 : decode cX8_init 37 = .ok (.aload_n 0, 1) := by decide +kernel
theorem dX8_init_38 : decode cX8_init 38 = .ok (.getstatic 32, 3) := by decide +kernel
theorem dX8_init_41 : decode cX8_init 41 = .ok (.invokevirtual 36, 3) := by decide +kernel
theorem dX8_init_44 : decode cX8_init 44 = .ok (.checkcast 37, 3) := by decide +kernel
theorem dX8_init_47 : decode cX8_init 47 = .ok (.putfield 41, 3) := by decide +kernel
theorem dX8_init_50 : decode cX8_init 50 = .ok (.return_, 1) := by decide +kernel
theorem dX8_copyFrom_0 : decode cX8_copyFrom 0 = .ok (.aload_n 0, 1) := by decide +kernel
theorem dX8_copyFrom_1 : decode cX8_copyFrom 1 = .ok (.getfield 12, 3) := by decide +kernel
theorem dX8_copyFrom_4 : decode cX8_copyFrom 4 = .ok (.aload_n 1, 1) := by decide +kernel
theorem dX8_copyFrom_5 : decode cX8_copyFrom 5 = .ok (.getfield 12, 3) := by decide +kernel
theorem dX8_copyFrom_8 : decode cX8_copyFrom 8 = .ok (.invokevirtual 44, 3) := by decide +kernel
theorem dX8_copyFrom_11 : decode cX8_copyFrom 11 = .ok (.aload_n 0, 1) := by decide +kernel
theorem dX8_copyFrom_12 : decode cX8_copyFrom 12 = .ok (.getfield 21, 3) := by decide +kernel
theorem dX8_copyFrom_15 : decode cX8_copyFrom 15 = .ok (.aload_n 1, 1) := by decide +kernel
theorem dX8_copyFrom_16 : decode cX8_copyFrom 16 = .ok (.getfield 21, 3) := by decide +kernel
theorem dX8_copyFrom_19 : decode cX8_copyFrom 19 = .ok (.invokevirtual 48, 3) := by decide +kernel
theorem dX8_copyFrom_22 : decode cX8_copyFrom 22 = .ok (.aload_n 0, 1) := by decide +kernel
theorem dX8_copyFrom_23 : decode cX8_copyFrom 23 = .ok (.getfield 28, 3) := by decide +kernel
theorem dX8_copyFrom_26 : decode cX8_copyFrom 26 = .ok (.aload_n 1, 1) := by decide +kernel
theorem dX8_copyFrom_27 : decode cX8_copyFrom 27 = .ok (.getfield 28, 3) := by decide +kernel
theorem dX8_copyFrom_30 : decode cX8_copyFrom 30 = .ok (.invokevirtual 51, 3) := by decide +kernel
theorem dX8_copyFrom_33 : decode cX8_copyFrom 33 = .ok (.aload_n 1, 1) := by decide +kernel
theorem dX8_copyFrom_34 : decode cX8_copyFrom 34 = .ok (.getfield 41, 3) := by decide +kernel
theorem dX8_copyFrom_37 : decode cX8_copyFrom 37 = .ok (.aload_n 0, 1) := by decide +kernel
theorem dX8_copyFrom_38 : decode cX8_copyFrom 38 = .ok (.getfield 41, 3) := by decide +kernel
theorem dX8_copyFrom_41 : decode cX8_copyFrom 41 = .ok (.invokestatic 54, 3) := by decide +kernel
theorem dX8_copyFrom_44 : decode cX8_copyFrom 44 = .ok (.return_, 1) := by decide +kernel
theorem dX8_hasNumber_0 : decode cX8_hasNumber 0 = .ok (.iload_n 1, 1) := by decide +kernel
theorem dX8_hasNumber_1 : decode cX8_hasNumber 1 = .ok (.ifCond .lt 16, 3) := by decide +kernel
theorem dX8_hasNumber_4 : decode cX8_hasNumber 4 = .ok (.iload_n 1, 1) := by decide +kernel
theorem dX8_hasNumber_5 : decode cX8_hasNumber 5 = .ok (.aload_n 0, 1) := by decide +kernel
theorem dX8_hasNumber_6 : decode cX8_hasNumber 6 = .ok (.getfield 41, 3) := by decide +kernel
theorem dX8_hasNumber_9 : decode cX8_hasNumber 9 = .ok (.arraylength, 1) := by decide +kernel
theorem dX8_hasNumber_10 : decode cX8_hasNumber 10 = .ok (.if_icmp .ge 7, 3) := by decide +kernel
theorem dX8_hasNumber_13 : decode cX8_hasNumber 13 = .ok (.iconst 1, 1) := by decide +kernel
theorem dX8_hasNumber_14 : decode cX8_hasNumber 14 = .ok (.goto 4, 3) := by decide +kernel
theorem dX8_hasNumber_17 : decode cX8_hasNumber 17 = .ok (.iconst 0, 1) := by decide +kernel
theorem dX8_hasNumber_18 : decode cX8_hasNumber 18 = .ok (.ireturn, 1) := by decide +kernel
theorem dX8_tryDot_0 : decode cX8_tryDot 0 = .ok (.aload_n 0, 1) := by decide +kernel
theorem dX8_tryDot_1 : decode cX8_tryDot 1 = .ok (.getfield 12, 3) := by decide +kernel
theorem dX8_tryDot_4 : decode cX8_tryDot 4 = .ok (.iload_n 1, 1) := by decide +kernel
theorem dX8_tryDot_5 : decode cX8_tryDot 5 = .ok (.iload_n 2, 1) := by decide +kernel
theorem dX8_tryDot_6 : decode cX8_tryDot 6 = .ok (.invokevirtual 58, 3) := by decide +kernel
theorem dX8_tryDot_9 : decode cX8_tryDot 9 = .ok (.ifCond .eq 26, 3) := by decide +kernel
theorem dX8_tryDot_12 : decode cX8_tryDot 12 = .ok (.aload_n 0, 1) := by decide +kernel
theorem dX8_tryDot_13 : decode cX8_tryDot 13 = .ok (.getfield 12, 3) := by decide +kernel
theorem dX8_tryDot_16 : decode cX8_tryDot 16 = .ok (.iload_n 1, 1) := by decide +kernel
theorem dX8_tryDot_17 : decode cX8_tryDot 17 = .ok (.iload_n 2, 1) := by decide +kernel
theorem dX8_tryDot_18 : decode cX8_tryDot 18 = .ok (.invokevirtual 62, 3) := by decide +kernel
theorem dX8_tryDot_21 : decode cX8_tryDot 21 = .ok (.aload_n 0, 1) := by decide +kernel
theorem dX8_tryDot_22 : decode cX8_tryDot 22 = .ok (.getfield 21, 3) := by decide +kernel
theorem dX8_tryDot_25 : decode cX8_tryDot 25 = .ok (.dup, 1) := by decide +kernel
theorem dX8_tryDot_26 : decode cX8_tryDot 26 = .ok (.getfield 66, 3) := by decide +kernel
theorem dX8_tryDot_29 : decode cX8_tryDot 29 = .ok (.iconst 1, 1) := by decide +kernel
theorem dX8_tryDot_30 : decode cX8_tryDot 30 = .ok (.iadd, 1) := by decide +kernel
theorem dX8_tryDot_31 : decode cX8_tryDot 31 = .ok (.putfield 66, 3) := by decide +kernel
theorem dX8_tryDot_34 : decode cX8_tryDot 34 = .ok (.return_, 1) := by decide +kernel
theorem dX8_tryDot_35 : decode cX8_tryDot 35 = .ok (.aload_n 0, 1) := by decide +kernel
theorem dX8_tryDot_36 : decode cX8_tryDot 36 = .ok (.getfield 12, 3) := by decide +kernel
theorem dX8_tryDot_39 : decode cX8_tryDot 39 = .ok (.iload_n 1, 1) := by decide +kernel
theorem dX8_tryDot_40 : decode cX8_tryDot 40 = .ok (.iload_n 2, 1) := by decide +kernel
theorem dX8_tryDot_41 : decode cX8_tryDot 41 = .ok (.invokevirtual 70, 3) := by decide +kernel
theorem dX8_tryDot_44 : decode cX8_tryDot 44 = .ok (.aload_n 0, 1) := by decide +kernel
theorem dX8_tryDot_45 : decode cX8_tryDot 45 = .ok (.getfield 21, 3) := by decide +kernel
theorem dX8_tryDot_48 : decode cX8_tryDot 48 = .ok (.dup, 1) := by decide +kernel
theorem dX8_tryDot_49 : decode cX8_tryDot 49 = .ok (.getfield 73, 3) := by decide +kernel
theorem dX8_tryDot_52 : decode cX8_tryDot 52 = .ok (.iconst 1, 1) := by decide +kernel
theorem dX8_tryDot_53 : decode cX8_tryDot 53 = .ok (.iadd, 1) := by decide +kernel
theorem dX8_tryDot_54 : decode cX8_tryDot 54 = .ok (.putfield 73, 3) := by decide +kernel
theorem dX8_tryDot_57 : decode cX8_tryDot 57 = .ok (.aload_n 0, 1) := by decide +kernel
theorem dX8_tryDot_58 : decode cX8_tryDot 58 = .ok (.getfield 12, 3) := by decide +kernel
theorem dX8_tryDot_61 : decode cX8_tryDot 61 = .ok (.iload_n 1, 1) := by decide +kernel
theorem dX8_tryDot_62 : decode cX8_tryDot 62 = .ok (.iload_n 2, 1) := by decide +kernel
theorem dX8_tryDot_63 : decode cX8_tryDot 63 = .ok (.invokevirtual 76, 3) := by decide +kernel
theorem dX8_tryDot_66 : decode cX8_tryDot 66 = .ok (.aload_n 0, 1) := by decide +kernel
theorem dX8_tryDot_67 : decode cX8_tryDot 67 = .ok (.getfield 41, 3) := by decide +kernel
theorem dX8_tryDot_70 : decode cX8_tryDot 70 = .ok (.iconst 2, 1) := by decide +kernel
theorem dX8_tryDot_71 : decode cX8_tryDot 71 = .ok (.iaload, 1) := by decide +kernel
theorem dX8_tryDot_72 : decode cX8_tryDot 72 = .ok (.if_icmp .lt 12, 3) := by decide +kernel
theorem dX8_tryDot_75 : decode cX8_tryDot 75 = .ok (.aload_n 0, 1) := by decide +kernel
theorem dX8_tryDot_76 : decode cX8_tryDot 76 = .ok (.getfield 12, 3) := by decide +kernel
theorem dX8_tryDot_79 : decode cX8_tryDot 79 = .ok (.iload_n 1, 1) := by decide +kernel
theorem dX8_tryDot_80 : decode cX8_tryDot 80 = .ok (.iload_n 2, 1) := by decide +kernel
theorem dX8_tryDot_81 : decode cX8_tryDot 81 = .ok (.invokevirtual 80, 3) := by decide +kernel
theorem dX8_tryDot_84 : decode cX8_tryDot 84 = .ok (.return_, 1) := by decide +kernel
theorem dX9_init_0 : decode cX9_init 0 = .ok (.aload_n 0, 1) := by decide +kernel
theorem dX9_init_1 : decode cX9_init 1 = .ok (.invokespecial 1, 3) := by decide +kernel
theorem dX9_init_4 : decode cX9_init 4 = .ok (.aload_n 0, 1) := by decide +kernel
theorem dX9_init_5 : decode cX9_init 5 = .ok (.new 7, 3) := by decide +kernel
theorem dX9_init_8 : decode cX9_init 8 = .ok (.dup, 1) := by decide +kernel
theorem dX9_init_9 : decode cX9_init 9 = .ok (.invokespecial 9, 3) := by decide +kernel
theorem dX9_init_12 : decode cX9_init 12 = .ok (.putfield 10, 3) := by decide +kernel
theorem dX9_init_15 : decode cX9_init 15 = .ok (.aload_n 0, 1) := by decide +kernel
theorem dX9_init_16 : decode cX9_init 16 = .ok (.new 7, 3) := by decide +kernel
theorem dX9_init_19 : decode cX9_init 19 = .ok (.dup, 1) := by decide +kernel
theorem dX9_init_20 : decode cX9_init 20 = .ok (.invokespecial 9, 3) := by decide +kernel
theorem dX9_init_23 : decode cX9_init 23 = .ok (.putfield 16, 3) := by decide +kernel
theorem dX9_init_26 : decode cX9_init 26 = .ok (.aload_n 0, 1) := by decide +kernel
theorem dX9_init_27 : decode cX9_init 27 = .ok (.new 19, 3) := by decide +kernel
theorem dX9_init_30 : decode cX9_init 30 = .ok (.dup, 1) := by decide +kernel
theorem dX9_init_31 : decode cX9_init 31 = .ok (.invokespecial 21, 3) := by decide +kernel
theorem dX9_init_34 : decode cX9_init 34 = .ok (.putfield 22, 3) := by decide +kernel
theorem dX9_init_37 : decode cX9_init 37 = .ok (.aload_n 0, 1) := by decide +kernel
theorem dX9_init_38 : decode cX9_init 38 = .ok (.new 26, 3) := by decide +kernel
theorem dX9_init_41 : decode cX9_init 41 = .ok (.dup, 1) := by decide +kernel
theorem dX9_init_42 : decode cX9_init 42 = .ok (.invokespecial 28, 3) := by decide +kernel
theorem dX9_init_45 : decode cX9_init 45 = .ok (.putfield 29, 3) := by decide +kernel
theorem dX9_init_48 : decode cX9_init 48 = .ok (.aload_n 0, 1) := by decide +kernel
theorem dX9_init_49 : decode cX9_init 49 = .ok (.new 33, 3) := by decide +kernel
theorem dX9_init_52 : decode cX9_init 52 = .ok (.dup, 1) := by decide +kernel
theorem dX9_init_53 : decode cX9_init 53 = .ok (.invokespecial 35, 3) := by decide +kernel
theorem dX9_init_56 : decode cX9_init 56 = .ok (.putfield 36, 3) := by decide +kernel
theorem dX9_init_59 : decode cX9_init 59 = .ok (.aload_n 0, 1) := by decide +kernel
theorem dX9_init_60 : decode cX9_init 60 = .ok (.new 40, 3) := by decide +kernel
theorem dX9_init_63 : decode cX9_init 63 = .ok (.dup, 1) := by decide +kernel
theorem dX9_init_64 : decode cX9_init 64 = .ok (.invokespecial 42, 3) := by decide +kernel
theorem dX9_init_67 : decode cX9_init 67 = .ok (.putfield 43, 3) := by decide +kernel
theorem dX9_init_70 : decode cX9_init 70 = .ok (.aload_n 0, 1) := by decide +kernel
theorem dX9_init_71 : decode cX9_init 71 = .ok (.new 47, 3) := by decide +kernel
theorem dX9_init_74 : decode cX9_init 74 = .ok (.dup, 1) := by decide +kernel
theorem dX9_init_75 : decode cX9_init 75 = .ok (.invokespecial 49, 3) := by decide +kernel
theorem dX9_init_78 : decode cX9_init 78 = .ok (.putfield 50, 3) := by decide +kernel
theorem dX9_init_81 : decode cX9_init 81 = .ok (.aload_n 0, 1) := by decide +kernel
theorem dX9_init_82 : decode cX9_init 82 = .ok (.bipush 120, 2) := by decide +kernel
theorem dX9_init_84 : decode cX9_init 84 = .ok (.newarray .int, 2) := by decide +kernel
theorem dX9_init_86 : decode cX9_init 86 = .ok (.putfield 54, 3) := by decide +kernel
theorem dX9_init_89 : decode cX9_init 89 = .ok (.aload_n 0, 1) := by decide +kernel
theorem dX9_init_90 : decode cX9_init 90 = .ok (.iconst 0, 1) := by decide +kernel
theorem dX9_init_91 : decode cX9_init 91 = .ok (.putfield 58, 3) := by decide +kernel
theorem dX9_init_94 : decode cX9_init 94 = .ok (.return_, 1) := by decide +kernel
theorem dX9_begin_0 : decode cX9_begin 0 = .ok (.iload_n 1, 1) := by decide +kernel
theorem dX9_begin_1 : decode cX9_begin 1 = .ok (.bipush 6, 2) := by decide +kernel
theorem dX9_begin_3 : decode cX9_begin 3 = .ok (.if_icmp .lt 9, 3) := by decide +kernel
theorem dX9_begin_6 : decode cX9_begin 6 = .ok (.iload_n 1, 1) := by decide +kernel
theorem dX9_begin_7 : decode cX9_begin 7 = .ok (.bipush 40, 2) := by decide +kernel
theorem dX9_begin_9 : decode cX9_begin 9 = .ok (.if_icmp .le 7, 3) := by decide +kernel
theorem dX9_begin_12 : decode cX9_begin 12 = .ok (.sipush (-1001), 3) := by decide +kernel
theorem dX9_begin_15 : decode cX9_begin 15 = .ok (.ireturn, 1) := by decide +kernel
theorem dX9_begin_16 : decode cX9_begin 16 = .ok (.aload_n 0, 1) := by decide +kernel
theorem dX9_begin_17 : decode cX9_begin 17 = .ok (.getfield 22, 3) := by decide +kernel
theorem dX9_begin_20 : decode cX9_begin 20 = .ok (.aload_n 0, 1) := by decide +kernel
theorem dX9_begin_21 : decode cX9_begin 21 = .ok (.getfield 10, 3) := by decide +kernel
theorem dX9_begin_24 : decode cX9_begin 24 = .ok (.invokevirtual 62, 3) := by decide +kernel
theorem dX9_begin_27 : decode cX9_begin 27 = .ok (.aload_n 0, 1) := by decide +kernel
theorem dX9_begin_28 : decode cX9_begin 28 = .ok (.getfield 10, 3) := by decide +kernel
theorem dX9_begin_31 : decode cX9_begin 31 = .ok (.getfield 66, 3) := by decide +kernel
theorem dX9_begin_34 : decode cX9_begin 34 = .ok (.getfield 70, 3) := by decide +kernel
theorem dX9_begin_37 : decode cX9_begin 37 = .ok (.istore_n 2, 1) := by decide +kernel
theorem dX9_begin_38 : decode cX9_begin 38 = .ok (.aload_n 0, 1) := by decide +kernel
theorem dX9_begin_39 : decode cX9_begin 39 = .ok (.getfield 10, 3) := by decide +kernel
theorem dX9_begin_42 : decode cX9_begin 42 = .ok (.getfield 66, 3) := by decide +kernel
theorem dX9_begin_45 : decode cX9_begin 45 = .ok (.iload_n 1, 1) := by decide +kernel
theorem dX9_begin_46 : decode cX9_begin 46 = .ok (.invokevirtual 75, 3) := by decide +kernel
theorem dX9_begin_49 : decode cX9_begin 49 = .ok (.aload_n 0, 1) := by decide +kernel
theorem dX9_begin_50 : decode cX9_begin 50 = .ok (.getfield 10, 3) := by decide +kernel
theorem dX9_begin_53 : decode cX9_begin 53 = .ok (.getfield 79, 3) := by decide +kernel
theorem dX9_begin_56 : decode cX9_begin 56 = .ok (.invokevirtual 83, 3) := by decide +kernel
theorem dX9_begin_59 : decode cX9_begin 59 = .ok (.iload_n 2, 1) := by decide +kernel
theorem dX9_begin_60 : decode cX9_begin 60 = .ok (.ireturn, 1) := by decide +kernel
theorem dX9_setNumber_0 : decode cX9_setNumber 0 = .ok (.aload_n 0, 1) := by decide +kernel
theorem dX9_setNumber_1 : decode cX9_setNumber 1 = .ok (.getfield 10, 3) := by decide +kernel
theorem dX9_setNumber_4 : decode cX9_setNumber 4 = .ok (.iload_n 1, 1) := by decide +kernel
theorem dX9_setNumber_5 : decode cX9_setNumber 5 = .ok (.invokevirtual 87, 3) := by decide +kernel
theorem dX9_setNumber_8 : decode cX9_setNumber 8 = .ok (.ifCond .eq 21, 3) := by decide +kernel
theorem dX9_setNumber_11 : decode cX9_setNumber 11 = .ok (.iload_n 2, 1) := by decide +kernel
theorem dX9_setNumber_12 : decode cX9_setNumber 12 = .ok (.getstatic 91, 3) := by decide +kernel
theorem dX9_setNumber_15 : decode cX9_setNumber 15 = .ok (.iload_n 1, 1) := by decide +kernel
theorem dX9_setNumber_16 : decode cX9_setNumber 16 = .ok (.iaload, 1) := by decide +kernel
theorem dX9_setNumber_17 : decode cX9_setNumber 17 = .ok (.if_icmp .lt 12, 3) := by decide +kernel
theorem dX9_setNumber_20 : decode cX9_setNumber 20 = .ok (.iload_n 2, 1) := by decide +kernel
theorem dX9_setNumber_21 : decode cX9_setNumber 21 = .ok (.getstatic 94, 3) := by decide +kernel
theorem dX9_setNumber_24 : decode cX9_setNumber 24 = .ok (.iload_n 1, 1) := by decide +kernel
theorem dX9_setNumber_25 : decode cX9_setNumber 25 = .ok (.iaload, 1) := by decide +kernel
theorem dX9_setNumber_26 : decode cX9_setNumber 26 = .ok (.if_icmp .le 7, 3) := by decide +kernel
theorem dX9_setNumber_29 : decode cX9_setNumber 29 = .ok (.sipush (-1001), 3) := by decide +kernel
theorem dX9_setNumber_32 : decode cX9_setNumber 32 = .ok (.ireturn, 1) := by decide +kernel
theorem dX9_setNumber_33 : decode cX9_setNumber 33 = .ok (.aload_n 0, 1) := by decide +kernel
theorem dX9_setNumber_34 : decode cX9_setNumber 34 = .ok (.getfield 22, 3) := by decide +kernel
theorem dX9_setNumber_37 : decode cX9_setNumber 37 = .ok (.aload_n 0, 1) := by decide +kernel
theorem dX9_setNumber_38 : decode cX9_setNumber 38 = .ok (.getfield 10, 3) := by decide +kernel
theorem dX9_setNumber_41 : decode cX9_setNumber 41 = .ok (.invokevirtual 62, 3) := by decide +kernel
theorem dX9_setNumber_44 : decode cX9_setNumber 44 = .ok (.aload_n 0, 1) := by decide +kernel
theorem dX9_setNumber_45 : decode cX9_setNumber 45 = .ok (.getfield 10, 3) := by decide +kernel
theorem dX9_setNumber_48 : decode cX9_setNumber 48 = .ok (.getfield 97, 3) := by decide +kernel
theorem dX9_setNumber_51 : decode cX9_setNumber 51 = .ok (.iload_n 1, 1) := by decide +kernel
theorem dX9_setNumber_52 : decode cX9_setNumber 52 = .ok (.iaload, 1) := by decide +kernel
theorem dX9_setNumber_53 : decode cX9_setNumber 53 = .ok (.istore_n 3, 1) := by decide +kernel
theorem dX9_setNumber_54 : decode cX9_setNumber 54 = .ok (.aload_n 0, 1) := by decide +kernel
theorem dX9_setNumber_55 : decode cX9_setNumber 55 = .ok (.getfield 10, 3) := by decide +kernel
theorem dX9_setNumber_58 : decode cX9_setNumber 58 = .ok (.getfield 97, 3) := by decide +kernel
theorem dX9_setNumber_61 : decode cX9_setNumber 61 = .ok (.iload_n 1, 1) := by decide +kernel
theorem dX9_setNumber_62 : decode cX9_setNumber 62 = .ok (.iload_n 2, 1) := by decide +kernel
theorem dX9_setNumber_63 : decode cX9_setNumber 63 = .ok (.iastore, 1) := by decide +kernel
theorem dX9_setNumber_64 : decode cX9_setNumber 64 = .ok (.iload_n 3, 1) := by decide +kernel
theorem dX9_setNumber_65 : decode cX9_setNumber 65 = .ok (.ireturn, 1) := by decide +kernel
theorem dX9_setColumn_0 : decode cX9_setColumn 0 = .ok (.iload_n 1, 1) := by decide +kernel
theorem dX9_setColumn_1 : decode cX9_setColumn 1 = .ok (.ifCond .lt 19, 3) := by decide +kernel
theorem dX9_setColumn_4 : decode cX9_setColumn 4 = .ok (.iload_n 1, 1) := by decide +kernel
theorem dX9_setColumn_5 : decode cX9_setColumn 5 = .ok (.bipush 26, 2) := by decide +kernel
theorem dX9_setColumn_7 : decode cX9_setColumn 7 = .ok (.if_icmp .ge 13, 3) := by decide +kernel
theorem dX9_setColumn_10 : decode cX9_setColumn 10 = .ok (.iload_n 3, 1) := by decide +kernel
theorem dX9_setColumn_11 : decode cX9_setColumn 11 = .ok (.ifCond .lt 9, 3) := by decide +kernel
theorem dX9_setColumn_14 : decode cX9_setColumn 14 = .ok (.iload_n 3, 1) := by decide +kernel
theorem dX9_setColumn_15 : decode cX9_setColumn 15 = .ok (.bipush 127, 2) := by decide +kernel
theorem dX9_setColumn_17 : decode cX9_setColumn 17 = .ok (.if_icmp .le 7, 3) := by decide +kernel
theorem dX9_setColumn_20 : decode cX9_setColumn 20 = .ok (.sipush (-1001), 3) := by decide +kernel
theorem dX9_setColumn_23 : decode cX9_setColumn 23 = .ok (.ireturn, 1) := by decide +kernel
theorem dX9_setColumn_24 : decode cX9_setColumn 24 = .ok (.iload_n 2, 1) := by decide +kernel
theorem dX9_setColumn_25 : decode cX9_setColumn 25 = .ok (.ifCond .lt 23, 3) := by decide +kernel
theorem dX9_setColumn_28 : decode cX9_setColumn 28 = .ok (.iload_n 2, 1) := by decide +kernel
theorem dX9_setColumn_29 : decode cX9_setColumn 29 = .ok (.iconst 5, 1) := by decide +kernel
theorem dX9_setColumn_30 : decode cX9_setColumn 30 = .ok (.if_icmp .ge 18, 3) := by decide +kernel
theorem dX9_setColumn_33 : decode cX9_setColumn 33 = .ok (.iload_n 2, 1) := by decide +kernel
theorem dX9_setColumn_34 : decode cX9_setColumn 34 = .ok (.aload_n 0, 1) := by decide +kernel
theorem dX9_setColumn_35 : decode cX9_setColumn 35 = .ok (.getfield 10, 3) := by decide +kernel
theorem dX9_setColumn_38 : decode cX9_setColumn 38 = .ok (.getfield 100, 3) := by decide +kernel
theorem dX9_setColumn_41 : decode cX9_setColumn 41 = .ok (.iload_n 1, 1) := by decide +kernel
theorem dX9_setColumn_42 : decode cX9_setColumn 42 = .ok (.invokevirtual 104, 3) := by decide +kernel
theorem dX9_setColumn_45 : decode cX9_setColumn 45 = .ok (.if_icmp .le 7, 3) := by decide +kernel
theorem dX9_setColumn_48 : decode cX9_setColumn 48 = .ok (.sipush (-1001), 3) := by decide +kernel
theorem dX9_setColumn_51 : decode cX9_setColumn 51 = .ok (.ireturn, 1) := by decide +kernel
theorem dX9_setColumn_52 : decode cX9_setColumn 52 = .ok (.aload_n 0, 1) := by decide +kernel
theorem dX9_setColumn_53 : decode cX9_setColumn 53 = .ok (.getfield 22, 3) := by decide +kernel
theorem dX9_setColumn_56 : decode cX9_setColumn 56 = .ok (.aload_n 0, 1) := by decide +kernel
theorem dX9_setColumn_57 : decode cX9_setColumn 57 = .ok (.getfield 10, 3) := by decide +kernel
theorem dX9_setColumn_60 : decode cX9_setColumn 60 = .ok (.invokevirtual 62, 3) := by decide +kernel
theorem dX9_setColumn_63 : decode cX9_setColumn 63 = .ok (.aload_n 0, 1) := by decide +kernel
theorem dX9_setColumn_64 : decode cX9_setColumn 64 = .ok (.getfield 10, 3) := by decide +kernel
theorem dX9_setColumn_67 : decode cX9_setColumn 67 = .ok (.getfield 100, 3) := by decide +kernel
theorem dX9_setColumn_70 : decode cX9_setColumn 70 = .ok (.iload_n 1, 1) := by decide +kernel
theorem dX9_setColumn_71 : decode cX9_setColumn 71 = .ok (.iload_n 2, 1) := by decide +kernel
theorem dX9_setColumn_72 : decode cX9_setColumn 72 = .ok (.iload_n 3, 1) := by decide +kernel
theorem dX9_setColumn_73 : decode cX9_setColumn 73 = .ok (.invokevirtual 110, 3) := by decide +kernel
theorem dX9_setColumn_76 : decode cX9_setColumn 76 = .ok (.aload_n 0, 1) := by decide +kernel
theorem dX9_setColumn_77 : decode cX9_setColumn 77 = .ok (.getfield 10, 3) := by decide +kernel
theorem dX9_setColumn_80 : decode cX9_setColumn 80 = .ok (.getfield 100, 3) := by decide +kernel
theorem dX9_setColumn_83 : decode cX9_setColumn 83 = .ok (.iload_n 1, 1) := by decide +kernel
theorem dX9_setColumn_84 : decode cX9_setColumn 84 = .ok (.invokevirtual 104, 3) := by decide +kernel
theorem dX9_setColumn_87 : decode cX9_setColumn 87 = .ok (.ireturn, 1) := by decide +kernel
theorem dX9_addMessage_0 : decode cX9_addMessage 0 = .ok (.iload_n 1, 1) := by decide +kernel
theorem dX9_addMessage_1 : decode cX9_addMessage 1 = .ok (.ifCond .lt 20, 3) := by decide +kernel
theorem dX9_addMessage_4 : decode cX9_addMessage 4 = .ok (.iload_n 1, 1) := by decide +kernel
theorem dX9_addMessage_5 : decode cX9_addMessage 5 = .ok (.bipush 26, 2) := by decide +kernel
theorem dX9_addMessage_7 : decode cX9_addMessage 7 = .ok (.if_icmp .gt 14, 3) := by decide +kernel
theorem dX9_addMessage_10 : decode cX9_addMessage 10 = .ok (.iload_n 2, 1) := by decide +kernel
theorem dX9_addMessage_11 : decode cX9_addMessage 11 = .ok (.iconst (-1), 1) := by decide +kernel
theorem dX9_addMessage_12 : decode cX9_addMessage 12 = .ok (.if_icmp .lt 9, 3) := by decide +kernel
theorem dX9_addMessage_15 : decode cX9_addMessage 15 = .ok (.iload_n 2, 1) := by decide +kernel
theorem dX9_addMessage_16 : decode cX9_addMessage 16 = .ok (.bipush 26, 2) := by decide +kernel
theorem dX9_addMessage_18 : decode cX9_addMessage 18 = .ok (.if_icmp .le 7, 3) := by decide +kernel
theorem dX9_addMessage_21 : decode cX9_addMessage 21 = .ok (.sipush (-1001), 3) := by decide +kernel
theorem dX9_addMessage_24 : decode cX9_addMessage 24 = .ok (.ireturn, 1) := by decide +kernel
theorem dX9_addMessage_25 : decode cX9_addMessage 25 = .ok (.aload_n 0, 1) := by decide +kernel
theorem dX9_addMessage_26 : decode cX9_addMessage 26 = .ok (.getfield 10, 3) := by decide +kernel
theorem dX9_addMessage_29 : decode cX9_addMessage 29 = .ok (.getfield 100, 3) := by decide +kernel
theorem dX9_addMessage_32 : decode cX9_addMessage 32 = .ok (.getfield 114, 3) := by decide +kernel
theorem dX9_addMessage_35 : decode cX9_addMessage 35 = .ok (.bipush 8, 2) := by decide +kernel
theorem dX9_addMessage_37 : decode cX9_addMessage 37 = .ok (.if_icmp .lt 7, 3) := by decide +kernel
theorem dX9_addMessage_40 : decode cX9_addMessage 40 = .ok (.sipush (-1003), 3) := by decide +kernel
theorem dX9_addMessage_43 : decode cX9_addMessage 43 = .ok (.ireturn, 1) := by decide +kernel
theorem dX9_addMessage_44 : decode cX9_addMessage 44 = .ok (.aload_n 0, 1) := by decide +kernel
theorem dX9_addMessage_45 : decode cX9_addMessage 45 = .ok (.getfield 22, 3) := by decide +kernel
theorem dX9_addMessage_48 : decode cX9_addMessage 48 = .ok (.aload_n 0, 1) := by decide +kernel
theorem dX9_addMessage_49 : decode cX9_addMessage 49 = .ok (.getfield 10, 3) := by decide +kernel
theorem dX9_addMessage_52 : decode cX9_addMessage 52 = .ok (.invokevirtual 62, 3) := by decide +kernel
theorem dX9_addMessage_55 : decode cX9_addMessage 55 = .ok (.aload_n 0, 1) := by decide +kernel
theorem dX9_addMessage_56 : decode cX9_addMessage 56 = .ok (.getfield 10, 3) := by decide +kernel
theorem dX9_addMessage_59 : decode cX9_addMessage 59 = .ok (.getfield 100, 3) := by decide +kernel
theorem dX9_addMessage_62 : decode cX9_addMessage 62 = .ok (.invokevirtual 117, 3) := by decide +kernel
theorem dX9_addMessage_65 : decode cX9_addMessage 65 = .ok (.aload_n 0, 1) := by decide +kernel
theorem dX9_addMessage_66 : decode cX9_addMessage 66 = .ok (.getfield 10, 3) := by decide +kernel
theorem dX9_addMessage_69 : decode cX9_addMessage 69 = .ok (.getfield 100, 3) := by decide +kernel
theorem dX9_addMessage_72 : decode cX9_addMessage 72 = .ok (.iload_n 1, 1) := by decide +kernel
theorem dX9_addMessage_73 : decode cX9_addMessage 73 = .ok (.invokevirtual 120, 3) := by decide +kernel
theorem dX9_addMessage_76 : decode cX9_addMessage 76 = .ok (.iload_n 2, 1) := by decide +kernel
theorem dX9_addMessage_77 : decode cX9_addMessage 77 = .ok (.iconst (-1), 1) := by decide +kernel
theorem dX9_addMessage_78 : decode cX9_addMessage 78 = .ok (.if_icmp .eq 14, 3) := by decide +kernel
theorem dX9_addMessage_81 : decode cX9_addMessage 81 = .ok (.aload_n 0, 1) := by decide +kernel
theorem dX9_addMessage_82 : decode cX9_addMessage 82 = .ok (.getfield 10, 3) := by decide +kernel
theorem dX9_addMessage_85 : decode cX9_addMessage 85 = .ok (.getfield 100, 3) := by decide +kernel
theorem dX9_addMessage_88 : decode cX9_addMessage 88 = .ok (.iload_n 2, 1) := by decide +kernel
theorem dX9_addMessage_89 : decode cX9_addMessage 89 = .ok (.invokevirtual 120, 3) := by decide +kernel
theorem dX9_addMessage_92 : decode cX9_addMessage 92 = .ok (.aload_n 0, 1) := by decide +kernel
theorem dX9_addMessage_93 : decode cX9_addMessage 93 = .ok (.getfield 10, 3) := by decide +kernel
theorem dX9_addMessage_96 : decode cX9_addMessage 96 = .ok (.getfield 100, 3) := by decide +kernel
theorem dX9_addMessage_99 : decode cX9_addMessage 99 = .ok (.getfield 114, 3) := by decide +kernel
theorem dX9_addMessage_102 : decode cX9_addMessage 102 = .ok (.iconst 1, 1) := by decide +kernel
theorem dX9_addMessage_103 : decode cX9_addMessage 103 = .ok (.isub, 1) := by decide +kernel
theorem dX9_addMessage_104 : decode cX9_addMessage 104 = .ok (.ireturn, 1) := by decide +kernel
theorem dX9_removeMessage_0 : decode cX9_removeMessage 0 = .ok (.aload_n 0, 1) := by decide +kernel
theorem dX9_removeMessage_1 : decode cX9_removeMessage 1 = .ok (.getfield 10, 3) := by decide +kernel
theorem dX9_removeMessage_4 : decode cX9_removeMessage 4 = .ok (.getfield 100, 3) := by decide +kernel
theorem dX9_removeMessage_7 : decode cX9_removeMessage 7 = .ok (.iload_n 1, 1) := by decide +kernel
theorem dX9_removeMessage_8 : decode cX9_removeMessage 8 = .ok (.invokevirtual 123, 3) := by decide +kernel
theorem dX9_removeMessage_11 : decode cX9_removeMessage 11 = .ok (.ifCond .ne 7, 3) := by decide +kernel
theorem dX9_removeMessage_14 : decode cX9_removeMessage 14 = .ok (.sipush (-1001), 3) := by decide +kernel
theorem dX9_removeMessage_17 : decode cX9_removeMessage 17 = .ok (.ireturn, 1) := by decide +kernel
theorem dX9_removeMessage_18 : decode cX9_removeMessage 18 = .ok (.aload_n 0, 1) := by decide +kernel
theorem dX9_removeMessage_19 : decode cX9_removeMessage 19 = .ok (.getfield 22, 3) := by decide +kernel
theorem dX9_removeMessage_22 : decode cX9_removeMessage 22 = .ok (.aload_n 0, 1) := by decide +kernel
theorem dX9_removeMessage_23 : decode cX9_removeMessage 23 = .ok (.getfield 10, 3) := by decide +kernel
theorem dX9_removeMessage_26 : decode cX9_removeMessage 26 = .ok (.invokevirtual 62, 3) := by decide +kernel
theorem dX9_removeMessage_29 : decode cX9_removeMessage 29 = .ok (.aload_n 0, 1) := by decide +kernel
theorem dX9_removeMessage_30 : decode cX9_removeMessage 30 = .ok (.getfield 10, 3) := by decide +kernel
theorem dX9_removeMessage_33 : decode cX9_removeMessage 33 = .ok (.getfield 100, 3) := by decide +kernel
theorem dX9_removeMessage_36 : decode cX9_removeMessage 36 = .ok (.iload_n 1, 1) := by decide +kernel
theorem dX9_removeMessage_37 : decode cX9_removeMessage 37 = .ok (.invokevirtual 126, 3) := by decide +kernel
theorem dX9_removeMessage_40 : decode cX9_removeMessage 40 = .ok (.aload_n 0, 1) := by decide +kernel
theorem dX9_removeMessage_41 : decode cX9_removeMessage 41 = .ok (.getfield 10, 3) := by decide +kernel
theorem dX9_removeMessage_44 : decode cX9_removeMessage 44 = .ok (.getfield 100, 3) := by decide +kernel
theorem dX9_removeMessage_47 : decode cX9_removeMessage 47 = .ok (.getfield 114, 3) := by decide +kernel
theorem dX9_removeMessage_50 : decode cX9_removeMessage 50 = .ok (.ireturn, 1) := by decide +kernel
theorem dX9_show_0 : decode cX9_show 0 = .ok (.aload_n 0, 1) := by decide +kernel
theorem dX9_show_1 : decode cX9_show 1 = .ok (.iload_n 1, 1) := by decide +kernel
theorem dX9_show_2 : decode cX9_show 2 = .ok (.iload_n 2, 1) := by decide +kernel
theorem dX9_show_3 : decode cX9_show 3 = .ok (.invokevirtual 143, 3) := by decide +kernel
theorem dX9_show_6 : decode cX9_show 6 = .ok (.ifCond .ne 7, 3) := by decide +kernel
theorem dX9_show_9 : decode cX9_show 9 = .ok (.sipush (-1001), 3) := by decide +kernel
theorem dX9_show_12 : decode cX9_show 12 = .ok (.ireturn, 1) := by decide +kernel
theorem dX9_show_13 : decode cX9_show 13 = .ok (.aload_n 0, 1) := by decide +kernel
theorem dX9_show_14 : decode cX9_show 14 = .ok (.getfield 22, 3) := by decide +kernel
theorem dX9_show_17 : decode cX9_show 17 = .ok (.aload_n 0, 1) := by decide +kernel
theorem dX9_show_18 : decode cX9_show 18 = .ok (.getfield 10, 3) := by decide +kernel
theorem dX9_show_21 : decode cX9_show 21 = .ok (.invokevirtual 62, 3) := by decide +kernel
theorem dX9_show_24 : decode cX9_show 24 = .ok (.aload_n 0, 1) := by decide +kernel
theorem dX9_show_25 : decode cX9_show 25 = .ok (.getfield 29, 3) := by decide +kernel
theorem dX9_show_28 : decode cX9_show 28 = .ok (.aload_n 0, 1) := by decide +kernel
theorem dX9_show_29 : decode cX9_show 29 = .ok (.getfield 10, 3) := by decide +kernel
theorem dX9_show_32 : decode cX9_show 32 = .ok (.iload_n 1, 1) := by decide +kernel
theorem dX9_show_33 : decode cX9_show 33 = .ok (.iload_n 2, 1) := by decide +kernel
theorem dX9_show_34 : decode cX9_show 34 = .ok (.invokevirtual 147, 3) := by decide +kernel
theorem dX9_show_37 : decode cX9_show 37 = .ok (.aload_n 0, 1) := by decide +kernel
theorem dX9_show_38 : decode cX9_show 38 = .ok (.getfield 10, 3) := by decide +kernel
theorem dX9_show_41 : decode cX9_show 41 = .ok (.getfield 66, 3) := by decide +kernel
theorem dX9_show_44 : decode cX9_show 44 = .ok (.aload_n 0, 1) := by decide +kernel
theorem dX9_show_45 : decode cX9_show 45 = .ok (.getfield 29, 3) := by decide +kernel
theorem dX9_show_48 : decode cX9_show 48 = .ok (.getfield 151, 3) := by decide +kernel
theorem dX9_show_51 : decode cX9_show 51 = .ok (.invokevirtual 154, 3) := by decide +kernel
theorem dX9_show_54 : decode cX9_show 54 = .ok (.aload_n 0, 1) := by decide +kernel
theorem dX9_show_55 : decode cX9_show 55 = .ok (.getfield 10, 3) := by decide +kernel
theorem dX9_show_58 : decode cX9_show 58 = .ok (.getfield 66, 3) := by decide +kernel
theorem dX9_show_61 : decode cX9_show 61 = .ok (.invokevirtual 158, 3) := by decide +kernel
theorem dX9_show_64 : decode cX9_show 64 = .ok (.ireturn, 1) := by decide +kernel
theorem dX9_darken_0 : decode cX9_darken 0 = .ok (.aload_n 0, 1) := by decide +kernel
theorem dX9_darken_1 : decode cX9_darken 1 = .ok (.getfield 22, 3) := by decide +kernel
theorem dX9_darken_4 : decode cX9_darken 4 = .ok (.aload_n 0, 1) := by decide +kernel
theorem dX9_darken_5 : decode cX9_darken 5 = .ok (.getfield 10, 3) := by decide +kernel
theorem dX9_darken_8 : decode cX9_darken 8 = .ok (.invokevirtual 62, 3) := by decide +kernel
theorem dX9_darken_11 : decode cX9_darken 11 = .ok (.aload_n 0, 1) := by decide +kernel
theorem dX9_darken_12 : decode cX9_darken 12 = .ok (.getfield 10, 3) := by decide +kernel
theorem dX9_darken_15 : decode cX9_darken 15 = .ok (.getfield 66, 3) := by decide +kernel
theorem dX9_darken_18 : decode cX9_darken 18 = .ok (.invokevirtual 162, 3) := by decide +kernel
theorem dX9_darken_21 : decode cX9_darken 21 = .ok (.aload_n 0, 1) := by decide +kernel
theorem dX9_darken_22 : decode cX9_darken 22 = .ok (.getfield 10, 3) := by decide +kernel
theorem dX9_darken_25 : decode cX9_darken 25 = .ok (.getfield 66, 3) := by decide +kernel
theorem dX9_darken_28 : decode cX9_darken 28 = .ok (.invokevirtual 158, 3) := by decide +kernel
theorem dX9_darken_31 : decode cX9_darken 31 = .ok (.ireturn, 1) := by decide +kernel
theorem dX9_jam_0 : decode cX9_jam 0 = .ok (.aload_n 0, 1) := by decide +kernel
theorem dX9_jam_1 : decode cX9_jam 1 = .ok (.getfield 10, 3) := by decide +kernel
theorem dX9_jam_4 : decode cX9_jam 4 = .ok (.getfield 66, 3) := by decide +kernel
theorem dX9_jam_7 : decode cX9_jam 7 = .ok (.iload_n 1, 1) := by decide +kernel
theorem dX9_jam_8 : decode cX9_jam 8 = .ok (.iload_n 2, 1) := by decide +kernel
theorem dX9_jam_9 : decode cX9_jam 9 = .ok (.invokevirtual 165, 3) := by decide +kernel
theorem dX9_jam_12 : decode cX9_jam 12 = .ok (.ifCond .ne 7, 3) := by decide +kernel
theorem dX9_jam_15 : decode cX9_jam 15 = .ok (.sipush (-1001), 3) := by decide +kernel
theorem dX9_jam_18 : decode cX9_jam 18 = .ok (.ireturn, 1) := by decide +kernel
theorem dX9_jam_19 : decode cX9_jam 19 = .ok (.aload_n 0, 1) := by decide +kernel
theorem dX9_jam_20 : decode cX9_jam 20 = .ok (.getfield 10, 3) := by decide +kernel
theorem dX9_jam_23 : decode cX9_jam 23 = .ok (.getfield 66, 3) := by decide +kernel
theorem dX9_jam_26 : decode cX9_jam 26 = .ok (.iload_n 1, 1) := by decide +kernel
theorem dX9_jam_27 : decode cX9_jam 27 = .ok (.iload_n 2, 1) := by decide +kernel
theorem dX9_jam_28 : decode cX9_jam 28 = .ok (.invokevirtual 168, 3) := by decide +kernel
theorem dX9_jam_31 : decode cX9_jam 31 = .ok (.ifCond .eq 7, 3) := by decide +kernel
theorem dX9_jam_34 : decode cX9_jam 34 = .ok (.sipush (-1002), 3) := by decide +kernel
theorem dX9_jam_37 : decode cX9_jam 37 = .ok (.ireturn, 1) := by decide +kernel
theorem dX9_jam_38 : decode cX9_jam 38 = .ok (.aload_n 0, 1) := by decide +kernel
theorem dX9_jam_39 : decode cX9_jam 39 = .ok (.getfield 22, 3) := by decide +kernel
theorem dX9_jam_42 : decode cX9_jam 42 = .ok (.aload_n 0, 1) := by decide +kernel
theorem dX9_jam_43 : decode cX9_jam 43 = .ok (.getfield 10, 3) := by decide +kernel
theorem dX9_jam_46 : decode cX9_jam 46 = .ok (.invokevirtual 62, 3) := by decide +kernel
theorem dX9_jam_49 : decode cX9_jam 49 = .ok (.aload_n 0, 1) := by decide +kernel
theorem dX9_jam_50 : decode cX9_jam 50 = .ok (.getfield 10, 3) := by decide +kernel
theorem dX9_jam_53 : decode cX9_jam 53 = .ok (.getfield 66, 3) := by decide +kernel
theorem dX9_jam_56 : decode cX9_jam 56 = .ok (.iload_n 1, 1) := by decide +kernel
theorem dX9_jam_57 : decode cX9_jam 57 = .ok (.iload_n 2, 1) := by decide +kernel
theorem dX9_jam_58 : decode cX9_jam 58 = .ok (.invokevirtual 171, 3) := by decide +kernel
theorem dX9_jam_61 : decode cX9_jam 61 = .ok (.aload_n 0, 1) := by decide +kernel
theorem dX9_jam_62 : decode cX9_jam 62 = .ok (.getfield 10, 3) := by decide +kernel
theorem dX9_jam_65 : decode cX9_jam 65 = .ok (.getfield 66, 3) := by decide +kernel
theorem dX9_jam_68 : decode cX9_jam 68 = .ok (.iload_n 1, 1) := by decide +kernel
theorem dX9_jam_69 : decode cX9_jam 69 = .ok (.iload_n 2, 1) := by decide +kernel
theorem dX9_jam_70 : decode cX9_jam 70 = .ok (.invokevirtual 175, 3) := by decide +kernel
theorem dX9_jam_73 : decode cX9_jam 73 = .ok (.ireturn, 1) := by decide +kernel
theorem dX9_mend_0 : decode cX9_mend 0 = .ok (.aload_n 0, 1) := by decide +kernel
theorem dX9_mend_1 : decode cX9_mend 1 = .ok (.getfield 10, 3) := by decide +kernel
theorem dX9_mend_4 : decode cX9_mend 4 = .ok (.getfield 66, 3) := by decide +kernel
theorem dX9_mend_7 : decode cX9_mend 7 = .ok (.iload_n 1, 1) := by decide +kernel
theorem dX9_mend_8 : decode cX9_mend 8 = .ok (.iload_n 2, 1) := by decide +kernel
theorem dX9_mend_9 : decode cX9_mend 9 = .ok (.invokevirtual 165, 3) := by decide +kernel
theorem dX9_mend_12 : decode cX9_mend 12 = .ok (.ifCond .ne 7, 3) := by decide +kernel
theorem dX9_mend_15 : decode cX9_mend 15 = .ok (.sipush (-1001), 3) := by decide +kernel
theorem dX9_mend_18 : decode cX9_mend 18 = .ok (.ireturn, 1) := by decide +kernel
theorem dX9_mend_19 : decode cX9_mend 19 = .ok (.aload_n 0, 1) := by decide +kernel
theorem dX9_mend_20 : decode cX9_mend 20 = .ok (.getfield 22, 3) := by decide +kernel
theorem dX9_mend_23 : decode cX9_mend 23 = .ok (.aload_n 0, 1) := by decide +kernel
theorem dX9_mend_24 : decode cX9_mend 24 = .ok (.getfield 10, 3) := by decide +kernel
theorem dX9_mend_27 : decode cX9_mend 27 = .ok (.invokevirtual 62, 3) := by decide +kernel
theorem dX9_mend_30 : decode cX9_mend 30 = .ok (.aload_n 0, 1) := by decide +kernel
theorem dX9_mend_31 : decode cX9_mend 31 = .ok (.getfield 10, 3) := by decide +kernel
theorem dX9_mend_34 : decode cX9_mend 34 = .ok (.getfield 66, 3) := by decide +kernel
theorem dX9_mend_37 : decode cX9_mend 37 = .ok (.iload_n 1, 1) := by decide +kernel
theorem dX9_mend_38 : decode cX9_mend 38 = .ok (.iload_n 2, 1) := by decide +kernel
theorem dX9_mend_39 : decode cX9_mend 39 = .ok (.invokevirtual 168, 3) := by decide +kernel
theorem dX9_mend_42 : decode cX9_mend 42 = .ok (.ifCond .eq 7, 3) := by decide +kernel
theorem dX9_mend_45 : decode cX9_mend 45 = .ok (.iconst 1, 1) := by decide +kernel
theorem dX9_mend_46 : decode cX9_mend 46 = .ok (.goto 4, 3) := by decide +kernel
theorem dX9_mend_49 : decode cX9_mend 49 = .ok (.iconst 0, 1) := by decide +kernel
theorem dX9_mend_50 : decode cX9_mend 50 = .ok (.istore_n 3, 1) := by decide +kernel
theorem dX9_mend_51 : decode cX9_mend 51 = .ok (.aload_n 0, 1) := by decide +kernel
theorem dX9_mend_52 : decode cX9_mend 52 = .ok (.getfield 10, 3) := by decide +kernel
theorem dX9_mend_55 : decode cX9_mend 55 = .ok (.getfield 66, 3) := by decide +kernel
theorem dX9_mend_58 : decode cX9_mend 58 = .ok (.iload_n 1, 1) := by decide +kernel
theorem dX9_mend_59 : decode cX9_mend 59 = .ok (.iload_n 2, 1) := by decide +kernel
theorem dX9_mend_60 : decode cX9_mend 60 = .ok (.invokevirtual 179, 3) := by decide +kernel
theorem dX9_mend_63 : decode cX9_mend 63 = .ok (.iload_n 3, 1) := by decide +kernel
theorem dX9_mend_64 : decode cX9_mend 64 = .ok (.ireturn, 1) := by decide +kernel
theorem dX9_pass_0 : decode cX9_pass 0 = .ok (.iload_n 1, 1) := by decide +kernel
theorem dX9_pass_1 : decode cX9_pass 1 = .ok (.iconst 1, 1) := by decide +kernel
theorem dX9_pass_2 : decode cX9_pass 2 = .ok (.if_icmp .lt 10, 3) := by decide +kernel
theorem dX9_pass_5 : decode cX9_pass 5 = .ok (.iload_n 1, 1) := by decide +kernel
theorem dX9_pass_6 : decode cX9_pass 6 = .ok (.sipush 200, 3) := by decide +kernel
theorem dX9_pass_9 : decode cX9_pass 9 = .ok (.if_icmp .le 7, 3) := by decide +kernel
theorem dX9_pass_12 : decode cX9_pass 12 = .ok (.sipush (-1001), 3) := by decide +kernel
theorem dX9_pass_15 : decode cX9_pass 15 = .ok (.ireturn, 1) := by decide +kernel
theorem dX9_pass_16 : decode cX9_pass 16 = .ok (.aload_n 0, 1) := by decide +kernel
theorem dX9_pass_17 : decode cX9_pass 17 = .ok (.getfield 22, 3) := by decide +kernel
theorem dX9_pass_20 : decode cX9_pass 20 = .ok (.aload_n 0, 1) := by decide +kernel
theorem dX9_pass_21 : decode cX9_pass 21 = .ok (.getfield 10, 3) := by decide +kernel
theorem dX9_pass_24 : decode cX9_pass 24 = .ok (.invokevirtual 62, 3) := by decide +kernel
theorem dX9_pass_27 : decode cX9_pass 27 = .ok (.iconst 0, 1) := by decide +kernel
theorem dX9_pass_28 : decode cX9_pass 28 = .ok (.istore_n 2, 1) := by decide +kernel
theorem dX9_pass_29 : decode cX9_pass 29 = .ok (.iload_n 2, 1) := by decide +kernel
theorem dX9_pass_30 : decode cX9_pass 30 = .ok (.iload_n 1, 1) := by decide +kernel
theorem dX9_pass_31 : decode cX9_pass 31 = .ok (.if_icmp .ge 20, 3) := by decide +kernel
theorem dX9_pass_34 : decode cX9_pass 34 = .ok (.aload_n 0, 1) := by decide +kernel
theorem dX9_pass_35 : decode cX9_pass 35 = .ok (.getfield 36, 3) := by decide +kernel
theorem dX9_pass_38 : decode cX9_pass 38 = .ok (.aload_n 0, 1) := by decide +kernel
theorem dX9_pass_39 : decode cX9_pass 39 = .ok (.getfield 10, 3) := by decide +kernel
theorem dX9_pass_42 : decode cX9_pass 42 = .ok (.invokevirtual 182, 3) := by decide +kernel
theorem dX9_pass_45 : decode cX9_pass 45 = .ok (.iinc 2 1, 3) := by decide +kernel
theorem dX9_pass_48 : decode cX9_pass 48 = .ok (.goto (-19), 3) := by decide +kernel
theorem dX9_pass_51 : decode cX9_pass 51 = .ok (.aload_n 0, 1) := by decide +kernel
theorem dX9_pass_52 : decode cX9_pass 52 = .ok (.getfield 10, 3) := by decide +kernel
theorem dX9_pass_55 : decode cX9_pass 55 = .ok (.getfield 66, 3) := by decide +kernel
theorem dX9_pass_58 : decode cX9_pass 58 = .ok (.invokevirtual 158, 3) := by decide +kernel
theorem dX9_pass_61 : decode cX9_pass 61 = .ok (.ireturn, 1) := by decide +kernel
theorem dX9_count_0 : decode cX9_count 0 = .ok (.iload_n 1, 1) := by decide +kernel
theorem dX9_count_1 : decode cX9_count 1 = .ok (.tableswitch 228 0 14 #[75, 86, 96, 106, 116, 127, 138, 149, 160, 171, 182, 193, 204, 215, 220], 75) := by decide +kernel
theorem dX9_count_76 : decode cX9_count 76 = .ok (.aload_n 0, 1) := by decide +kernel
theorem dX9_count_77 : decode cX9_count 77 = .ok (.getfield 10, 3) := by decide +kernel
theorem dX9_count_80 : decode cX9_count 80 = .ok (.getfield 66, 3) := by decide +kernel
theorem dX9_count_83 : decode cX9_count 83 = .ok (.getfield 70, 3) := by decide +kernel
theorem dX9_count_86 : decode cX9_count 86 = .ok (.ireturn, 1) := by decide +kernel
theorem dX9_count_87 : decode cX9_count 87 = .ok (.aload_n 0, 1) := by decide +kernel
theorem dX9_count_88 : decode cX9_count 88 = .ok (.getfield 10, 3) := by decide +kernel
theorem dX9_count_91 : decode cX9_count 91 = .ok (.getfield 97, 3) := by decide +kernel
theorem dX9_count_94 : decode cX9_count 94 = .ok (.iconst 0, 1) := by decide +kernel
theorem dX9_count_95 : decode cX9_count 95 = .ok (.iaload, 1) := by decide +kernel
theorem dX9_count_96 : decode cX9_count 96 = .ok (.ireturn, 1) := by decide +kernel
theorem dX9_count_97 : decode cX9_count 97 = .ok (.aload_n 0, 1) := by decide +kernel
theorem dX9_count_98 : decode cX9_count 98 = .ok (.getfield 10, 3) := by decide +kernel
theorem dX9_count_101 : decode cX9_count 101 = .ok (.getfield 97, 3) := by decide +kernel
theorem dX9_count_104 : decode cX9_count 104 = .ok (.iconst 1, 1) := by decide +kernel
theorem dX9_count_105 : decode cX9_count 105 = .ok (.iaload, 1) := by decide +kernel
theorem dX9_count_106 : decode cX9_count 106 = .ok (.ireturn, 1) := by decide +kernel
theorem dX9_count_107 : decode cX9_count 107 = .ok (.aload_n 0, 1) := by decide +kernel
theorem dX9_count_108 : decode cX9_count 108 = .ok (.getfield 10, 3) := by decide +kernel
theorem dX9_count_111 : decode cX9_count 111 = .ok (.getfield 97, 3) := by decide +kernel
theorem dX9_count_114 : decode cX9_count 114 = .ok (.iconst 2, 1) := by decide +kernel
theorem dX9_count_115 : decode cX9_count 115 = .ok (.iaload, 1) := by decide +kernel
theorem dX9_count_116 : decode cX9_count 116 = .ok (.ireturn, 1) := by decide +kernel
theorem dX9_count_117 : decode cX9_count 117 = .ok (.aload_n 0, 1) := by decide +kernel
theorem dX9_count_118 : decode cX9_count 118 = .ok (.getfield 10, 3) := by decide +kernel
theorem dX9_count_121 : decode cX9_count 121 = .ok (.getfield 100, 3) := by decide +kernel
theorem dX9_count_124 : decode cX9_count 124 = .ok (.getfield 114, 3) := by decide +kernel
theorem dX9_count_127 : decode cX9_count 127 = .ok (.ireturn, 1) := by decide +kernel
theorem dX9_count_128 : decode cX9_count 128 = .ok (.aload_n 0, 1) := by decide +kernel
theorem dX9_count_129 : decode cX9_count 129 = .ok (.getfield 10, 3) := by decide +kernel
theorem dX9_count_132 : decode cX9_count 132 = .ok (.getfield 66, 3) := by decide +kernel
theorem dX9_count_135 : decode cX9_count 135 = .ok (.invokevirtual 158, 3) := by decide +kernel
theorem dX9_count_138 : decode cX9_count 138 = .ok (.ireturn, 1) := by decide +kernel
theorem dX9_count_139 : decode cX9_count 139 = .ok (.aload_n 0, 1) := by decide +kernel
theorem dX9_count_140 : decode cX9_count 140 = .ok (.getfield 10, 3) := by decide +kernel
theorem dX9_count_143 : decode cX9_count 143 = .ok (.getfield 66, 3) := by decide +kernel
theorem dX9_count_146 : decode cX9_count 146 = .ok (.invokevirtual 185, 3) := by decide +kernel
theorem dX9_count_149 : decode cX9_count 149 = .ok (.ireturn, 1) := by decide +kernel
theorem dX9_count_150 : decode cX9_count 150 = .ok (.aload_n 0, 1) := by decide +kernel
theorem dX9_count_151 : decode cX9_count 151 = .ok (.getfield 10, 3) := by decide +kernel
theorem dX9_count_154 : decode cX9_count 154 = .ok (.getfield 66, 3) := by decide +kernel
theorem dX9_count_157 : decode cX9_count 157 = .ok (.invokevirtual 188, 3) := by decide +kernel
theorem dX9_count_160 : decode cX9_count 160 = .ok (.ireturn, 1) := by decide +kernel
theorem dX9_count_161 : decode cX9_count 161 = .ok (.aload_n 0, 1) := by decide +kernel
theorem dX9_count_162 : decode cX9_count 162 = .ok (.getfield 10, 3) := by decide +kernel
theorem dX9_count_165 : decode cX9_count 165 = .ok (.getfield 66, 3) := by decide +kernel
theorem dX9_count_168 : decode cX9_count 168 = .ok (.invokevirtual 191, 3) := by decide +kernel
theorem dX9_count_171 : decode cX9_count 171 = .ok (.ireturn, 1) := by decide +kernel
theorem dX9_count_172 : decode cX9_count 172 = .ok (.aload_n 0, 1) := by decide +kernel
theorem dX9_count_173 : decode cX9_count 173 = .ok (.getfield 10, 3) := by decide +kernel
theorem dX9_count_176 : decode cX9_count 176 = .ok (.getfield 79, 3) := by decide +kernel
theorem dX9_count_179 : decode cX9_count 179 = .ok (.getfield 194, 3) := by decide +kernel
theorem dX9_count_182 : decode cX9_count 182 = .ok (.ireturn, 1) := by decide +kernel
theorem dX9_count_183 : decode cX9_count 183 = .ok (.aload_n 0, 1) := by decide +kernel
theorem dX9_count_184 : decode cX9_count 184 = .ok (.getfield 10, 3) := by decide +kernel
theorem dX9_count_187 : decode cX9_count 187 = .ok (.getfield 79, 3) := by decide +kernel
theorem dX9_count_190 : decode cX9_count 190 = .ok (.getfield 197, 3) := by decide +kernel
theorem dX9_count_193 : decode cX9_count 193 = .ok (.ireturn, 1) := by decide +kernel
theorem dX9_count_194 : decode cX9_count 194 = .ok (.aload_n 0, 1) := by decide +kernel
theorem dX9_count_195 : decode cX9_count 195 = .ok (.getfield 10, 3) := by decide +kernel
theorem dX9_count_198 : decode cX9_count 198 = .ok (.getfield 79, 3) := by decide +kernel
theorem dX9_count_201 : decode cX9_count 201 = .ok (.getfield 200, 3) := by decide +kernel
theorem dX9_count_204 : decode cX9_count 204 = .ok (.ireturn, 1) := by decide +kernel
theorem dX9_count_205 : decode cX9_count 205 = .ok (.aload_n 0, 1) := by decide +kernel
theorem dX9_count_206 : decode cX9_count 206 = .ok (.getfield 10, 3) := by decide +kernel
theorem dX9_count_209 : decode cX9_count 209 = .ok (.getfield 79, 3) := by decide +kernel
theorem dX9_count_212 : decode cX9_count 212 = .ok (.getfield 203, 3) := by decide +kernel
theorem dX9_count_215 : decode cX9_count 215 = .ok (.ireturn, 1) := by decide +kernel
theorem dX9_count_216 : decode cX9_count 216 = .ok (.aload_n 0, 1) := by decide +kernel
theorem dX9_count_217 : decode cX9_count 217 = .ok (.getfield 58, 3) := by decide +kernel
theorem dX9_count_220 : decode cX9_count 220 = .ok (.ireturn, 1) := by decide +kernel
theorem dX9_count_221 : decode cX9_count 221 = .ok (.aload_n 0, 1) := by decide +kernel
theorem dX9_count_222 : decode cX9_count 222 = .ok (.getfield 22, 3) := by decide +kernel
theorem dX9_count_225 : decode cX9_count 225 = .ok (.getfield 206, 3) := by decide +kernel
theorem dX9_count_228 : decode cX9_count 228 = .ok (.ireturn, 1) := by decide +kernel
theorem dX9_count_229 : decode cX9_count 229 = .ok (.sipush (-1001), 3) := by decide +kernel
theorem dX9_count_232 : decode cX9_count 232 = .ok (.ireturn, 1) := by decide +kernel
theorem dX9_column_0 : decode cX9_column 0 = .ok (.aload_n 0, 1) := by decide +kernel
theorem dX9_column_1 : decode cX9_column 1 = .ok (.getfield 10, 3) := by decide +kernel
theorem dX9_column_4 : decode cX9_column 4 = .ok (.getfield 66, 3) := by decide +kernel
theorem dX9_column_7 : decode cX9_column 7 = .ok (.iload_n 1, 1) := by decide +kernel
theorem dX9_column_8 : decode cX9_column 8 = .ok (.invokevirtual 209, 3) := by decide +kernel
theorem dX9_column_11 : decode cX9_column 11 = .ok (.ifCond .ne 7, 3) := by decide +kernel
theorem dX9_column_14 : decode cX9_column 14 = .ok (.sipush (-1001), 3) := by decide +kernel
theorem dX9_column_17 : decode cX9_column 17 = .ok (.ireturn, 1) := by decide +kernel
theorem dX9_column_18 : decode cX9_column 18 = .ok (.iload_n 2, 1) := by decide +kernel
theorem dX9_column_19 : decode cX9_column 19 = .ok (.tableswitch 81 0 3 #[29, 42, 55, 68], 29) := by decide +kernel
theorem dX9_column_48 : decode cX9_column 48 = .ok (.aload_n 0, 1) := by decide +kernel
theorem dX9_column_49 : decode cX9_column 49 = .ok (.getfield 10, 3) := by decide +kernel
theorem dX9_column_52 : decode cX9_column 52 = .ok (.getfield 66, 3) := by decide +kernel
theorem dX9_column_55 : decode cX9_column 55 = .ok (.getfield 212, 3) := by decide +kernel
theorem dX9_column_58 : decode cX9_column 58 = .ok (.iload_n 1, 1) := by decide +kernel
theorem dX9_column_59 : decode cX9_column 59 = .ok (.iaload, 1) := by decide +kernel
theorem dX9_column_60 : decode cX9_column 60 = .ok (.ireturn, 1) := by decide +kernel
theorem dX9_column_61 : decode cX9_column 61 = .ok (.aload_n 0, 1) := by decide +kernel
theorem dX9_column_62 : decode cX9_column 62 = .ok (.getfield 10, 3) := by decide +kernel
theorem dX9_column_65 : decode cX9_column 65 = .ok (.getfield 66, 3) := by decide +kernel
theorem dX9_column_68 : decode cX9_column 68 = .ok (.getfield 215, 3) := by decide +kernel
theorem dX9_column_71 : decode cX9_column 71 = .ok (.iload_n 1, 1) := by decide +kernel
theorem dX9_column_72 : decode cX9_column 72 = .ok (.iaload, 1) := by decide +kernel
theorem dX9_column_73 : decode cX9_column 73 = .ok (.ireturn, 1) := by decide +kernel
theorem dX9_column_74 : decode cX9_column 74 = .ok (.aload_n 0, 1) := by decide +kernel
theorem dX9_column_75 : decode cX9_column 75 = .ok (.getfield 10, 3) := by decide +kernel
theorem dX9_column_78 : decode cX9_column 78 = .ok (.getfield 66, 3) := by decide +kernel
theorem dX9_column_81 : decode cX9_column 81 = .ok (.getfield 218, 3) := by decide +kernel
theorem dX9_column_84 : decode cX9_column 84 = .ok (.iload_n 1, 1) := by decide +kernel
theorem dX9_column_85 : decode cX9_column 85 = .ok (.iaload, 1) := by decide +kernel
theorem dX9_column_86 : decode cX9_column 86 = .ok (.ireturn, 1) := by decide +kernel
theorem dX9_column_87 : decode cX9_column 87 = .ok (.aload_n 0, 1) := by decide +kernel
theorem dX9_column_88 : decode cX9_column 88 = .ok (.getfield 10, 3) := by decide +kernel
theorem dX9_column_91 : decode cX9_column 91 = .ok (.getfield 66, 3) := by decide +kernel
theorem dX9_column_94 : decode cX9_column 94 = .ok (.getfield 221, 3) := by decide +kernel
theorem dX9_column_97 : decode cX9_column 97 = .ok (.iload_n 1, 1) := by decide +kernel
theorem dX9_column_98 : decode cX9_column 98 = .ok (.iaload, 1) := by decide +kernel
theorem dX9_column_99 : decode cX9_column 99 = .ok (.ireturn, 1) := by decide +kernel
theorem dX9_column_100 : decode cX9_column 100 = .ok (.sipush (-1001), 3) := by decide +kernel
theorem dX9_column_103 : decode cX9_column 103 = .ok (.ireturn, 1) := by decide +kernel
theorem dX9_flips_0 : decode cX9_flips 0 = .ok (.aload_n 0, 1) := by decide +kernel
theorem dX9_flips_1 : decode cX9_flips 1 = .ok (.getfield 10, 3) := by decide +kernel
theorem dX9_flips_4 : decode cX9_flips 4 = .ok (.getfield 66, 3) := by decide +kernel
theorem dX9_flips_7 : decode cX9_flips 7 = .ok (.iload_n 1, 1) := by decide +kernel
theorem dX9_flips_8 : decode cX9_flips 8 = .ok (.iload_n 2, 1) := by decide +kernel
theorem dX9_flips_9 : decode cX9_flips 9 = .ok (.invokevirtual 165, 3) := by decide +kernel
theorem dX9_flips_12 : decode cX9_flips 12 = .ok (.ifCond .ne 7, 3) := by decide +kernel
theorem dX9_flips_15 : decode cX9_flips 15 = .ok (.sipush (-1001), 3) := by decide +kernel
theorem dX9_flips_18 : decode cX9_flips 18 = .ok (.ireturn, 1) := by decide +kernel
theorem dX9_flips_19 : decode cX9_flips 19 = .ok (.aload_n 0, 1) := by decide +kernel
theorem dX9_flips_20 : decode cX9_flips 20 = .ok (.getfield 10, 3) := by decide +kernel
theorem dX9_flips_23 : decode cX9_flips 23 = .ok (.getfield 66, 3) := by decide +kernel
theorem dX9_flips_26 : decode cX9_flips 26 = .ok (.iload_n 1, 1) := by decide +kernel
theorem dX9_flips_27 : decode cX9_flips 27 = .ok (.iload_n 2, 1) := by decide +kernel
theorem dX9_flips_28 : decode cX9_flips 28 = .ok (.invokevirtual 175, 3) := by decide +kernel
theorem dX9_flips_31 : decode cX9_flips 31 = .ok (.ireturn, 1) := by decide +kernel
theorem dX9_letter_0 : decode cX9_letter 0 = .ok (.iload_n 1, 1) := by decide +kernel
theorem dX9_letter_1 : decode cX9_letter 1 = .ok (.ifCond .lt 13, 3) := by decide +kernel
theorem dX9_letter_4 : decode cX9_letter 4 = .ok (.iload_n 1, 1) := by decide +kernel
theorem dX9_letter_5 : decode cX9_letter 5 = .ok (.bipush 26, 2) := by decide +kernel
theorem dX9_letter_7 : decode cX9_letter 7 = .ok (.if_icmp .ge 7, 3) := by decide +kernel
theorem dX9_letter_10 : decode cX9_letter 10 = .ok (.iload_n 2, 1) := by decide +kernel
theorem dX9_letter_11 : decode cX9_letter 11 = .ok (.ifCond .ge 7, 3) := by decide +kernel
theorem dX9_letter_14 : decode cX9_letter 14 = .ok (.sipush (-1001), 3) := by decide +kernel
theorem dX9_letter_17 : decode cX9_letter 17 = .ok (.ireturn, 1) := by decide +kernel
theorem dX9_letter_18 : decode cX9_letter 18 = .ok (.iload_n 2, 1) := by decide +kernel
theorem dX9_letter_19 : decode cX9_letter 19 = .ok (.aload_n 0, 1) := by decide +kernel
theorem dX9_letter_20 : decode cX9_letter 20 = .ok (.getfield 10, 3) := by decide +kernel
theorem dX9_letter_23 : decode cX9_letter 23 = .ok (.getfield 100, 3) := by decide +kernel
theorem dX9_letter_26 : decode cX9_letter 26 = .ok (.iload_n 1, 1) := by decide +kernel
theorem dX9_letter_27 : decode cX9_letter 27 = .ok (.invokevirtual 104, 3) := by decide +kernel
theorem dX9_letter_30 : decode cX9_letter 30 = .ok (.if_icmp .lt 7, 3) := by decide +kernel
theorem dX9_letter_33 : decode cX9_letter 33 = .ok (.sipush (-1009), 3) := by decide +kernel
theorem dX9_letter_36 : decode cX9_letter 36 = .ok (.ireturn, 1) := by decide +kernel
theorem dX9_letter_37 : decode cX9_letter 37 = .ok (.aload_n 0, 1) := by decide +kernel
theorem dX9_letter_38 : decode cX9_letter 38 = .ok (.getfield 10, 3) := by decide +kernel
theorem dX9_letter_41 : decode cX9_letter 41 = .ok (.getfield 100, 3) := by decide +kernel
theorem dX9_letter_44 : decode cX9_letter 44 = .ok (.iload_n 1, 1) := by decide +kernel
theorem dX9_letter_45 : decode cX9_letter 45 = .ok (.iload_n 2, 1) := by decide +kernel
theorem dX9_letter_46 : decode cX9_letter 46 = .ok (.invokevirtual 224, 3) := by decide +kernel
theorem dX9_letter_49 : decode cX9_letter 49 = .ok (.ireturn, 1) := by decide +kernel
theorem dX9_message_0 : decode cX9_message 0 = .ok (.aload_n 0, 1) := by decide +kernel
theorem dX9_message_1 : decode cX9_message 1 = .ok (.getfield 10, 3) := by decide +kernel
theorem dX9_message_4 : decode cX9_message 4 = .ok (.getfield 100, 3) := by decide +kernel
theorem dX9_message_7 : decode cX9_message 7 = .ok (.iload_n 1, 1) := by decide +kernel
theorem dX9_message_8 : decode cX9_message 8 = .ok (.invokevirtual 123, 3) := by decide +kernel
theorem dX9_message_11 : decode cX9_message 11 = .ok (.ifCond .eq 7, 3) := by decide +kernel
theorem dX9_message_14 : decode cX9_message 14 = .ok (.iload_n 2, 1) := by decide +kernel
theorem dX9_message_15 : decode cX9_message 15 = .ok (.ifCond .ge 7, 3) := by decide +kernel
theorem dX9_message_18 : decode cX9_message 18 = .ok (.sipush (-1001), 3) := by decide +kernel
theorem dX9_message_21 : decode cX9_message 21 = .ok (.ireturn, 1) := by decide +kernel
theorem dX9_message_22 : decode cX9_message 22 = .ok (.iload_n 2, 1) := by decide +kernel
theorem dX9_message_23 : decode cX9_message 23 = .ok (.aload_n 0, 1) := by decide +kernel
theorem dX9_message_24 : decode cX9_message 24 = .ok (.getfield 10, 3) := by decide +kernel
theorem dX9_message_27 : decode cX9_message 27 = .ok (.getfield 100, 3) := by decide +kernel
theorem dX9_message_30 : decode cX9_message 30 = .ok (.iload_n 1, 1) := by decide +kernel
theorem dX9_message_31 : decode cX9_message 31 = .ok (.invokevirtual 227, 3) := by decide +kernel
theorem dX9_message_34 : decode cX9_message 34 = .ok (.if_icmp .lt 7, 3) := by decide +kernel
theorem dX9_message_37 : decode cX9_message 37 = .ok (.sipush (-1009), 3) := by decide +kernel
theorem dX9_message_40 : decode cX9_message 40 = .ok (.ireturn, 1) := by decide +kernel
theorem dX9_message_41 : decode cX9_message 41 = .ok (.aload_n 0, 1) := by decide +kernel
theorem dX9_message_42 : decode cX9_message 42 = .ok (.getfield 10, 3) := by decide +kernel
theorem dX9_message_45 : decode cX9_message 45 = .ok (.getfield 100, 3) := by decide +kernel
theorem dX9_message_48 : decode cX9_message 48 = .ok (.iload_n 1, 1) := by decide +kernel
theorem dX9_message_49 : decode cX9_message 49 = .ok (.iload_n 2, 1) := by decide +kernel
theorem dX9_message_50 : decode cX9_message 50 = .ok (.invokevirtual 230, 3) := by decide +kernel
theorem dX9_message_53 : decode cX9_message 53 = .ok (.ireturn, 1) := by decide +kernel
theorem dX9_strip_0 : decode cX9_strip 0 = .ok (.aload_n 0, 1) := by decide +kernel
theorem dX9_strip_1 : decode cX9_strip 1 = .ok (.getfield 10, 3) := by decide +kernel
theorem dX9_strip_4 : decode cX9_strip 4 = .ok (.getfield 100, 3) := by decide +kernel
theorem dX9_strip_7 : decode cX9_strip 7 = .ok (.iload_n 1, 1) := by decide +kernel
theorem dX9_strip_8 : decode cX9_strip 8 = .ok (.invokevirtual 123, 3) := by decide +kernel
theorem dX9_strip_11 : decode cX9_strip 11 = .ok (.ifCond .ne 7, 3) := by decide +kernel
theorem dX9_strip_14 : decode cX9_strip 14 = .ok (.sipush (-1001), 3) := by decide +kernel
theorem dX9_strip_17 : decode cX9_strip 17 = .ok (.ireturn, 1) := by decide +kernel
theorem dX9_strip_18 : decode cX9_strip 18 = .ok (.aload_n 0, 1) := by decide +kernel
theorem dX9_strip_19 : decode cX9_strip 19 = .ok (.getfield 10, 3) := by decide +kernel
theorem dX9_strip_22 : decode cX9_strip 22 = .ok (.getfield 100, 3) := by decide +kernel
theorem dX9_strip_25 : decode cX9_strip 25 = .ok (.iload_n 1, 1) := by decide +kernel
theorem dX9_strip_26 : decode cX9_strip 26 = .ok (.invokevirtual 233, 3) := by decide +kernel
theorem dX9_strip_29 : decode cX9_strip 29 = .ok (.ireturn, 1) := by decide +kernel
theorem dX9_power_0 : decode cX9_power 0 = .ok (.iload_n 1, 1) := by decide +kernel
theorem dX9_power_1 : decode cX9_power 1 = .ok (.iconst 1, 1) := by decide +kernel
theorem dX9_power_2 : decode cX9_power 2 = .ok (.if_icmp .lt 9, 3) := by decide +kernel
theorem dX9_power_5 : decode cX9_power 5 = .ok (.iload_n 1, 1) := by decide +kernel
theorem dX9_power_6 : decode cX9_power 6 = .ok (.bipush 20, 2) := by decide +kernel
theorem dX9_power_8 : decode cX9_power 8 = .ok (.if_icmp .le 7, 3) := by decide +kernel
theorem dX9_power_11 : decode cX9_power 11 = .ok (.sipush (-1001), 3) := by decide +kernel
theorem dX9_power_14 : decode cX9_power 14 = .ok (.ireturn, 1) := by decide +kernel
theorem dX9_power_15 : decode cX9_power 15 = .ok (.iload_n 1, 1) := by decide +kernel
theorem dX9_power_16 : decode cX9_power 16 = .ok (.aload_n 0, 1) := by decide +kernel
theorem dX9_power_17 : decode cX9_power 17 = .ok (.getfield 10, 3) := by decide +kernel
theorem dX9_power_20 : decode cX9_power 20 = .ok (.getfield 79, 3) := by decide +kernel
theorem dX9_power_23 : decode cX9_power 23 = .ok (.getfield 203, 3) := by decide +kernel
theorem dX9_power_26 : decode cX9_power 26 = .ok (.if_icmp .le 7, 3) := by decide +kernel
theorem dX9_power_29 : decode cX9_power 29 = .ok (.sipush (-1009), 3) := by decide +kernel
theorem dX9_power_32 : decode cX9_power 32 = .ok (.ireturn, 1) := by decide +kernel
theorem dX9_power_33 : decode cX9_power 33 = .ok (.aload_n 0, 1) := by decide +kernel
theorem dX9_power_34 : decode cX9_power 34 = .ok (.getfield 10, 3) := by decide +kernel
theorem dX9_power_37 : decode cX9_power 37 = .ok (.getfield 79, 3) := by decide +kernel
theorem dX9_power_40 : decode cX9_power 40 = .ok (.iload_n 1, 1) := by decide +kernel
theorem dX9_power_41 : decode cX9_power 41 = .ok (.invokevirtual 240, 3) := by decide +kernel
theorem dX9_power_44 : decode cX9_power 44 = .ok (.ireturn, 1) := by decide +kernel
theorem dX9_canShow_0 : decode cX9_canShow 0 = .ok (.aload_n 0, 1) := by decide +kernel
theorem dX9_canShow_1 : decode cX9_canShow 1 = .ok (.getfield 10, 3) := by decide +kernel
theorem dX9_canShow_4 : decode cX9_canShow 4 = .ok (.getfield 100, 3) := by decide +kernel
theorem dX9_canShow_7 : decode cX9_canShow 7 = .ok (.iload_n 1, 1) := by decide +kernel
theorem dX9_canShow_8 : decode cX9_canShow 8 = .ok (.invokevirtual 123, 3) := by decide +kernel
theorem dX9_canShow_11 : decode cX9_canShow 11 = .ok (.ifCond .eq 16, 3) := by decide +kernel
theorem dX9_canShow_14 : decode cX9_canShow 14 = .ok (.iload_n 2, 1) := by decide +kernel
theorem dX9_canShow_15 : decode cX9_canShow 15 = .ok (.ifCond .lt 12, 3) := by decide +kernel
theorem dX9_canShow_18 : decode cX9_canShow 18 = .ok (.iload_n 2, 1) := by decide +kernel
theorem dX9_canShow_19 : decode cX9_canShow 19 = .ok (.iconst 1, 1) := by decide +kernel
theorem dX9_canShow_20 : decode cX9_canShow 20 = .ok (.if_icmp .gt 7, 3) := by decide +kernel
theorem dX9_canShow_23 : decode cX9_canShow 23 = .ok (.iconst 1, 1) := by decide +kernel
theorem dX9_canShow_24 : decode cX9_canShow 24 = .ok (.goto 4, 3) := by decide +kernel
theorem dX9_canShow_27 : decode cX9_canShow 27 = .ok (.iconst 0, 1) := by decide +kernel
theorem dX9_canShow_28 : decode cX9_canShow 28 = .ok (.ireturn, 1) := by decide +kernel
theorem dX9_copy_0 : decode cX9_copy 0 = .ok (.aload_n 0, 1) := by decide +kernel
theorem dX9_copy_1 : decode cX9_copy 1 = .ok (.iconst 0, 1) := by decide +kernel
theorem dX9_copy_2 : decode cX9_copy 2 = .ok (.aload_n 1, 1) := by decide +kernel
theorem dX9_copy_3 : decode cX9_copy 3 = .ok (.iconst 0, 1) := by decide +kernel
theorem dX9_copy_4 : decode cX9_copy 4 = .ok (.aload_n 0, 1) := by decide +kernel
theorem dX9_copy_5 : decode cX9_copy 5 = .ok (.arraylength, 1) := by decide +kernel
theorem dX9_copy_6 : decode cX9_copy 6 = .ok (.aload_n 1, 1) := by decide +kernel
theorem dX9_copy_7 : decode cX9_copy 7 = .ok (.arraylength, 1) := by decide +kernel
theorem dX9_copy_8 : decode cX9_copy 8 = .ok (.invokestatic 277, 3) := by decide +kernel
theorem dX9_copy_11 : decode cX9_copy 11 = .ok (.invokestatic 282, 3) := by decide +kernel
theorem dX9_copy_14 : decode cX9_copy 14 = .ok (.return_, 1) := by decide +kernel
theorem dJ6_bitCount_0f7a4_0 : decode cJ6_bitCount_0f7a4 0 = .ok (.iload_n 0, 1) := by decide +kernel
theorem dJ6_bitCount_0f7a4_1 : decode cJ6_bitCount_0f7a4 1 = .ok (.iload_n 0, 1) := by decide +kernel
theorem dJ6_bitCount_0f7a4_2 : decode cJ6_bitCount_0f7a4 2 = .ok (.iconst 1, 1) := by decide +kernel
theorem dJ6_bitCount_0f7a4_3 : decode cJ6_bitCount_0f7a4 3 = .ok (.iushr, 1) := by decide +kernel
theorem dJ6_bitCount_0f7a4_4 : decode cJ6_bitCount_0f7a4 4 = .ok (.ldc_w 265, 3) := by decide +kernel
theorem dJ6_bitCount_0f7a4_7 : decode cJ6_bitCount_0f7a4 7 = .ok (.iand, 1) := by decide +kernel
theorem dJ6_bitCount_0f7a4_8 : decode cJ6_bitCount_0f7a4 8 = .ok (.isub, 1) := by decide +kernel
theorem dJ6_bitCount_0f7a4_9 : decode cJ6_bitCount_0f7a4 9 = .ok (.istore_n 0, 1) := by decide +kernel
theorem dJ6_bitCount_0f7a4_10 : decode cJ6_bitCount_0f7a4 10 = .ok (.iload_n 0, 1) := by decide +kernel
theorem dJ6_bitCount_0f7a4_11 : decode cJ6_bitCount_0f7a4 11 = .ok (.ldc_w 266, 3) := by decide +kernel
theorem dJ6_bitCount_0f7a4_14 : decode cJ6_bitCount_0f7a4 14 = .ok (.iand, 1) := by decide +kernel
theorem dJ6_bitCount_0f7a4_15 : decode cJ6_bitCount_0f7a4 15 = .ok (.iload_n 0, 1) := by decide +kernel
theorem dJ6_bitCount_0f7a4_16 : decode cJ6_bitCount_0f7a4 16 = .ok (.iconst 2, 1) := by decide +kernel
theorem dJ6_bitCount_0f7a4_17 : decode cJ6_bitCount_0f7a4 17 = .ok (.iushr, 1) := by decide +kernel
theorem dJ6_bitCount_0f7a4_18 : decode cJ6_bitCount_0f7a4 18 = .ok (.ldc_w 266, 3) := by decide +kernel
theorem dJ6_bitCount_0f7a4_21 : decode cJ6_bitCount_0f7a4 21 = .ok (.iand, 1) := by decide +kernel
theorem dJ6_bitCount_0f7a4_22 : decode cJ6_bitCount_0f7a4 22 = .ok (.iadd, 1) := by decide +kernel
theorem dJ6_bitCount_0f7a4_23 : decode cJ6_bitCount_0f7a4 23 = .ok (.istore_n 0, 1) := by decide +kernel
theorem dJ6_bitCount_0f7a4_24 : decode cJ6_bitCount_0f7a4 24 = .ok (.iload_n 0, 1) := by decide +kernel
theorem dJ6_bitCount_0f7a4_25 : decode cJ6_bitCount_0f7a4 25 = .ok (.iload_n 0, 1) := by decide +kernel
theorem dJ6_bitCount_0f7a4_26 : decode cJ6_bitCount_0f7a4 26 = .ok (.iconst 4, 1) := by decide +kernel
theorem dJ6_bitCount_0f7a4_27 : decode cJ6_bitCount_0f7a4 27 = .ok (.iushr, 1) := by decide +kernel
theorem dJ6_bitCount_0f7a4_28 : decode cJ6_bitCount_0f7a4 28 = .ok (.iadd, 1) := by decide +kernel
theorem dJ6_bitCount_0f7a4_29 : decode cJ6_bitCount_0f7a4 29 = .ok (.ldc_w 267, 3) := by decide +kernel
theorem dJ6_bitCount_0f7a4_32 : decode cJ6_bitCount_0f7a4 32 = .ok (.iand, 1) := by decide +kernel
theorem dJ6_bitCount_0f7a4_33 : decode cJ6_bitCount_0f7a4 33 = .ok (.istore_n 0, 1) := by decide +kernel
theorem dJ6_bitCount_0f7a4_34 : decode cJ6_bitCount_0f7a4 34 = .ok (.iload_n 0, 1) := by decide +kernel
theorem dJ6_bitCount_0f7a4_35 : decode cJ6_bitCount_0f7a4 35 = .ok (.iload_n 0, 1) := by decide +kernel
theorem dJ6_bitCount_0f7a4_36 : decode cJ6_bitCount_0f7a4 36 = .ok (.bipush 8, 2) := by decide +kernel
theorem dJ6_bitCount_0f7a4_38 : decode cJ6_bitCount_0f7a4 38 = .ok (.iushr, 1) := by decide +kernel
theorem dJ6_bitCount_0f7a4_39 : decode cJ6_bitCount_0f7a4 39 = .ok (.iadd, 1) := by decide +kernel
theorem dJ6_bitCount_0f7a4_40 : decode cJ6_bitCount_0f7a4 40 = .ok (.istore_n 0, 1) := by decide +kernel
theorem dJ6_bitCount_0f7a4_41 : decode cJ6_bitCount_0f7a4 41 = .ok (.iload_n 0, 1) := by decide +kernel
theorem dJ6_bitCount_0f7a4_42 : decode cJ6_bitCount_0f7a4 42 = .ok (.iload_n 0, 1) := by decide +kernel
theorem dJ6_bitCount_0f7a4_43 : decode cJ6_bitCount_0f7a4 43 = .ok (.bipush 16, 2) := by decide +kernel
theorem dJ6_bitCount_0f7a4_45 : decode cJ6_bitCount_0f7a4 45 = .ok (.iushr, 1) := by decide +kernel
theorem dJ6_bitCount_0f7a4_46 : decode cJ6_bitCount_0f7a4 46 = .ok (.iadd, 1) := by decide +kernel
theorem dJ6_bitCount_0f7a4_47 : decode cJ6_bitCount_0f7a4 47 = .ok (.istore_n 0, 1) := by decide +kernel
theorem dJ6_bitCount_0f7a4_48 : decode cJ6_bitCount_0f7a4 48 = .ok (.iload_n 0, 1) := by decide +kernel
theorem dJ6_bitCount_0f7a4_49 : decode cJ6_bitCount_0f7a4 49 = .ok (.bipush 63, 2) := by decide +kernel
theorem dJ6_bitCount_0f7a4_51 : decode cJ6_bitCount_0f7a4 51 = .ok (.iand, 1) := by decide +kernel
theorem dJ6_bitCount_0f7a4_52 : decode cJ6_bitCount_0f7a4 52 = .ok (.ireturn, 1) := by decide +kernel
theorem dJ9_floorMod_7cf53_0 : decode cJ9_floorMod_7cf53 0 = .ok (.iload_n 0, 1) := by decide +kernel
theorem dJ9_floorMod_7cf53_1 : decode cJ9_floorMod_7cf53 1 = .ok (.iload_n 1, 1) := by decide +kernel
theorem dJ9_floorMod_7cf53_2 : decode cJ9_floorMod_7cf53 2 = .ok (.irem, 1) := by decide +kernel
theorem dJ9_floorMod_7cf53_3 : decode cJ9_floorMod_7cf53 3 = .ok (.istore_n 2, 1) := by decide +kernel
theorem dJ9_floorMod_7cf53_4 : decode cJ9_floorMod_7cf53 4 = .ok (.iload_n 0, 1) := by decide +kernel
theorem dJ9_floorMod_7cf53_5 : decode cJ9_floorMod_7cf53 5 = .ok (.iload_n 1, 1) := by decide +kernel
theorem dJ9_floorMod_7cf53_6 : decode cJ9_floorMod_7cf53 6 = .ok (.ixor, 1) := by decide +kernel
theorem dJ9_floorMod_7cf53_7 : decode cJ9_floorMod_7cf53 7 = .ok (.ifCond .ge 11, 3) := by decide +kernel
theorem dJ9_floorMod_7cf53_10 : decode cJ9_floorMod_7cf53 10 = .ok (.iload_n 2, 1) := by decide +kernel
theorem dJ9_floorMod_7cf53_11 : decode cJ9_floorMod_7cf53 11 = .ok (.ifCond .eq 7, 3) := by decide +kernel
theorem dJ9_floorMod_7cf53_14 : decode cJ9_floorMod_7cf53 14 = .ok (.iload_n 2, 1) := by decide +kernel
theorem dJ9_floorMod_7cf53_15 : decode cJ9_floorMod_7cf53 15 = .ok (.iload_n 1, 1) := by decide +kernel
theorem dJ9_floorMod_7cf53_16 : decode cJ9_floorMod_7cf53 16 = .ok (.iadd, 1) := by decide +kernel
theorem dJ9_floorMod_7cf53_17 : decode cJ9_floorMod_7cf53 17 = .ok (.ireturn, 1) := by decide +kernel
theorem dJ9_floorMod_7cf53_18 : decode cJ9_floorMod_7cf53 18 = .ok (.iload_n 2, 1) := by decide +kernel
theorem dJ9_floorMod_7cf53_19 : decode cJ9_floorMod_7cf53 19 = .ok (.ireturn, 1) := by decide +kernel
theorem dJ9_max_7cf53_0 : decode cJ9_max_7cf53 0 = .ok (.iload_n 0, 1) := by decide +kernel
theorem dJ9_max_7cf53_1 : decode cJ9_max_7cf53 1 = .ok (.iload_n 1, 1) := by decide +kernel
theorem dJ9_max_7cf53_2 : decode cJ9_max_7cf53 2 = .ok (.if_icmp .lt 7, 3) := by decide +kernel
theorem dJ9_max_7cf53_5 : decode cJ9_max_7cf53 5 = .ok (.iload_n 0, 1) := by decide +kernel
theorem dJ9_max_7cf53_6 : decode cJ9_max_7cf53 6 = .ok (.goto 4, 3) := by decide +kernel
theorem dJ9_max_7cf53_9 : decode cJ9_max_7cf53 9 = .ok (.iload_n 1, 1) := by decide +kernel
theorem dJ9_max_7cf53_10 : decode cJ9_max_7cf53 10 = .ok (.ireturn, 1) := by decide +kernel
theorem dJ9_min_7cf53_0 : decode cJ9_min_7cf53 0 = .ok (.iload_n 0, 1) := by decide +kernel
theorem dJ9_min_7cf53_1 : decode cJ9_min_7cf53 1 = .ok (.iload_n 1, 1) := by decide +kernel
theorem dJ9_min_7cf53_2 : decode cJ9_min_7cf53 2 = .ok (.if_icmp .gt 7, 3) := by decide +kernel
theorem dJ9_min_7cf53_5 : decode cJ9_min_7cf53 5 = .ok (.iload_n 0, 1) := by decide +kernel
theorem dJ9_min_7cf53_6 : decode cJ9_min_7cf53 6 = .ok (.goto 4, 3) := by decide +kernel
theorem dJ9_min_7cf53_9 : decode cJ9_min_7cf53 9 = .ok (.iload_n 1, 1) := by decide +kernel
theorem dJ9_min_7cf53_10 : decode cJ9_min_7cf53 10 = .ok (.ireturn, 1) := by decide +kernel
theorem dJ7_fill_53178_0 : decode cJ7_fill_53178 0 = .ok (.iconst 0, 1) := by decide +kernel
theorem dJ7_fill_53178_1 : decode cJ7_fill_53178 1 = .ok (.istore_n 2, 1) := by decide +kernel
theorem dJ7_fill_53178_2 : decode cJ7_fill_53178 2 = .ok (.aload_n 0, 1) := by decide +kernel
theorem dJ7_fill_53178_3 : decode cJ7_fill_53178 3 = .ok (.arraylength, 1) := by decide +kernel
theorem dJ7_fill_53178_4 : decode cJ7_fill_53178 4 = .ok (.istore_n 3, 1) := by decide +kernel
theorem dJ7_fill_53178_5 : decode cJ7_fill_53178 5 = .ok (.iload_n 2, 1) := by decide +kernel
theorem dJ7_fill_53178_6 : decode cJ7_fill_53178 6 = .ok (.iload_n 3, 1) := by decide +kernel
theorem dJ7_fill_53178_7 : decode cJ7_fill_53178 7 = .ok (.if_icmp .ge 13, 3) := by decide +kernel
theorem dJ7_fill_53178_10 : decode cJ7_fill_53178 10 = .ok (.aload_n 0, 1) := by decide +kernel
theorem dJ7_fill_53178_11 : decode cJ7_fill_53178 11 = .ok (.iload_n 2, 1) := by decide +kernel
theorem dJ7_fill_53178_12 : decode cJ7_fill_53178 12 = .ok (.iload_n 1, 1) := by decide +kernel
theorem dJ7_fill_53178_13 : decode cJ7_fill_53178 13 = .ok (.iastore, 1) := by decide +kernel
theorem dJ7_fill_53178_14 : decode cJ7_fill_53178 14 = .ok (.iinc 2 1, 3) := by decide +kernel
theorem dJ7_fill_53178_17 : decode cJ7_fill_53178 17 = .ok (.goto (-12), 3) := by decide +kernel
theorem dJ7_fill_53178_20 : decode cJ7_fill_53178 20 = .ok (.return_, 1) := by decide +kernel
