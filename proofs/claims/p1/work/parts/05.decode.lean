-- decode rows
theorem dJ6_bitCount_0f7a4_0 : decode cJ6_bitCount_0f7a4 0 = .ok (.iload_n 0, 1) := by decide +kernel
theorem dJ6_bitCount_0f7a4_1 : decode cJ6_bitCount_0f7a4 1 = .ok (.iload_n 0, 1) := by decide +kernel
theorem dJ6_bitCount_0f7a4_2 : decode cJ6_bitCount_0f7a4 2 = .ok (.iconst 1, 1) := by decide +kernel
theorem dJ6_bitCount_0f7a4_3 : decode cJ6_bitCount_0f7a4 3 = .ok (.iushr, 1) := by decide +kernel
theorem dJ6_bitCount_0f7a4_4 : decode cJ6_bitCount_0f7a4 4 = .ok (.ldc_w 265, 3) := by decide +kernel
theorem dJ6_bitCount_0f7a4_7 : decode cJ6_bitCount_0f7a4 7 = .ok (.iand, 1) := by decide +kernel
theorem dJ6_bitCount_0f7a4_8 : decode cJ6_bitCount_0f7a4 8 = .ok (.isub, 1) := by decide +kernel
theorem dJ6_bitCount_0f7a4_9 : decode cJ6_bitCount_0f7a4 9 = .ok (.istore_n 0, 1) := by decide +kernel
theorem dJ6_bitCount_0f7a4_10 : decode cJ6_bitCount_0f7a4 10 = .ok (.iload_n 0, 1) := by decide +kernel
theorem dJ6_bitCount_0f7a4_11 : decode cJ6_bitCount_0f7a4 11 = .ok (.ldc_w 266, 3) := by decide +kernel
theorem dJ6_bitCount_0f7a4_14 : decode cJ6_bitCount_0f7a4 14 = .ok (.iand, 1) := by decide +kernel
theorem dJ6_bitCount_0f7a4_15 : decode cJ6_bitCount_0f7a4 15 = .ok (.iload_n 0, 1) := by decide +kernel
theorem dJ6_bitCount_0f7a4_16 : decode cJ6_bitCount_0f7a4 16 = .ok (.iconst 2, 1) := by decide +kernel
theorem dJ6_bitCount_0f7a4_17 : decode cJ6_bitCount_0f7a4 17 = .ok (.iushr, 1) := by decide +kernel
theorem dJ6_bitCount_0f7a4_18 : decode cJ6_bitCount_0f7a4 18 = .ok (.ldc_w 266, 3) := by decide +kernel
theorem dJ6_bitCount_0f7a4_21 : decode cJ6_bitCount_0f7a4 21 = .ok (.iand, 1) := by decide +kernel
theorem dJ6_bitCount_0f7a4_22 : decode cJ6_bitCount_0f7a4 22 = .ok (.iadd, 1) := by decide +kernel
theorem dJ6_bitCount_0f7a4_23 : decode cJ6_bitCount_0f7a4 23 = .ok (.istore_n 0, 1) := by decide +kernel
theorem dJ6_bitCount_0f7a4_24 : decode cJ6_bitCount_0f7a4 24 = .ok (.iload_n 0, 1) := by decide +kernel
theorem dJ6_bitCount_0f7a4_25 : decode cJ6_bitCount_0f7a4 25 = .ok (.iload_n 0, 1) := by decide +kernel
theorem dJ6_bitCount_0f7a4_26 : decode cJ6_bitCount_0f7a4 26 = .ok (.iconst 4, 1) := by decide +kernel
theorem dJ6_bitCount_0f7a4_27 : decode cJ6_bitCount_0f7a4 27 = .ok (.iushr, 1) := by decide +kernel
theorem dJ6_bitCount_0f7a4_28 : decode cJ6_bitCount_0f7a4 28 = .ok (.iadd, 1) := by decide +kernel
theorem dJ6_bitCount_0f7a4_29 : decode cJ6_bitCount_0f7a4 29 = .ok (.ldc_w 267, 3) := by decide +kernel
theorem dJ6_bitCount_0f7a4_32 : decode cJ6_bitCount_0f7a4 32 = .ok (.iand, 1) := by decide +kernel
theorem dJ6_bitCount_0f7a4_33 : decode cJ6_bitCount_0f7a4 33 = .ok (.istore_n 0, 1) := by decide +kernel
theorem dJ6_bitCount_0f7a4_34 : decode cJ6_bitCount_0f7a4 34 = .ok (.iload_n 0, 1) := by decide +kernel
theorem dJ6_bitCount_0f7a4_35 : decode cJ6_bitCount_0f7a4 35 = .ok (.iload_n 0, 1) := by decide +kernel
theorem dJ6_bitCount_0f7a4_36 : decode cJ6_bitCount_0f7a4 36 = .ok (.bipush 8, 2) := by decide +kernel
theorem dJ6_bitCount_0f7a4_38 : decode cJ6_bitCount_0f7a4 38 = .ok (.iushr, 1) := by decide +kernel
theorem dJ6_bitCount_0f7a4_39 : decode cJ6_bitCount_0f7a4 39 = .ok (.iadd, 1) := by decide +kernel
theorem dJ6_bitCount_0f7a4_40 : decode cJ6_bitCount_0f7a4 40 = .ok (.istore_n 0, 1) := by decide +kernel
theorem dJ6_bitCount_0f7a4_41 : decode cJ6_bitCount_0f7a4 41 = .ok (.iload_n 0, 1) := by decide +kernel
theorem dJ6_bitCount_0f7a4_42 : decode cJ6_bitCount_0f7a4 42 = .ok (.iload_n 0, 1) := by decide +kernel
theorem dJ6_bitCount_0f7a4_43 : decode cJ6_bitCount_0f7a4 43 = .ok (.bipush 16, 2) := by decide +kernel
theorem dJ6_bitCount_0f7a4_45 : decode cJ6_bitCount_0f7a4 45 = .ok (.iushr, 1) := by decide +kernel
theorem dJ6_bitCount_0f7a4_46 : decode cJ6_bitCount_0f7a4 46 = .ok (.iadd, 1) := by decide +kernel
theorem dJ6_bitCount_0f7a4_47 : decode cJ6_bitCount_0f7a4 47 = .ok (.istore_n 0, 1) := by decide +kernel
theorem dJ6_bitCount_0f7a4_48 : decode cJ6_bitCount_0f7a4 48 = .ok (.iload_n 0, 1) := by decide +kernel
theorem dJ6_bitCount_0f7a4_49 : decode cJ6_bitCount_0f7a4 49 = .ok (.bipush 63, 2) := by decide +kernel
theorem dJ6_bitCount_0f7a4_51 : decode cJ6_bitCount_0f7a4 51 = .ok (.iand, 1) := by decide +kernel
theorem dJ6_bitCount_0f7a4_52 : decode cJ6_bitCount_0f7a4 52 = .ok (.ireturn, 1) := by decide +kernel
theorem dX7_has_0 : decode cX7_has 0 = .ok (.iload_n 0, 1) := by decide +kernel
theorem dX7_has_1 : decode cX7_has 1 = .ok (.iload_n 1, 1) := by decide +kernel
theorem dX7_has_2 : decode cX7_has 2 = .ok (.ishr, 1) := by decide +kernel
theorem dX7_has_3 : decode cX7_has 3 = .ok (.iconst 1, 1) := by decide +kernel
theorem dX7_has_4 : decode cX7_has 4 = .ok (.iand, 1) := by decide +kernel
theorem dX7_has_5 : decode cX7_has 5 = .ok (.ifCond .eq 7, 3) := by decide +kernel
theorem dX7_has_8 : decode cX7_has 8 = .ok (.iconst 1, 1) := by decide +kernel
theorem dX7_has_9 : decode cX7_has 9 = .ok (.goto 4, 3) := by decide +kernel
theorem dX7_has_12 : decode cX7_has 12 = .ok (.iconst 0, 1) := by decide +kernel
theorem dX7_has_13 : decode cX7_has 13 = .ok (.ireturn, 1) := by decide +kernel
theorem dX7_setOf_0 : decode cX7_setOf 0 = .ok (.iconst 1, 1) := by decide +kernel
theorem dX7_setOf_1 : decode cX7_setOf 1 = .ok (.iload_n 0, 1) := by decide +kernel
theorem dX7_setOf_2 : decode cX7_setOf 2 = .ok (.ishl, 1) := by decide +kernel
theorem dX7_setOf_3 : decode cX7_setOf 3 = .ok (.ireturn, 1) := by decide +kernel
theorem dX7_isWithin_0 : decode cX7_isWithin 0 = .ok (.iload_n 0, 1) := by decide +kernel
theorem dX7_isWithin_1 : decode cX7_isWithin 1 = .ok (.iload_n 1, 1) := by decide +kernel
theorem dX7_isWithin_2 : decode cX7_isWithin 2 = .ok (.if_icmp .lt 12, 3) := by decide +kernel
theorem dX7_isWithin_5 : decode cX7_isWithin 5 = .ok (.iload_n 0, 1) := by decide +kernel
theorem dX7_isWithin_6 : decode cX7_isWithin 6 = .ok (.iload_n 2, 1) := by decide +kernel
theorem dX7_isWithin_7 : decode cX7_isWithin 7 = .ok (.if_icmp .gt 7, 3) := by decide +kernel
theorem dX7_isWithin_10 : decode cX7_isWithin 10 = .ok (.iconst 1, 1) := by decide +kernel
theorem dX7_isWithin_11 : decode cX7_isWithin 11 = .ok (.goto 4, 3) := by decide +kernel
theorem dX7_isWithin_14 : decode cX7_isWithin 14 = .ok (.iconst 0, 1) := by decide +kernel
theorem dX7_isWithin_15 : decode cX7_isWithin 15 = .ok (.ireturn, 1) := by decide +kernel
theorem dX7_isNumber_0 : decode cX7_isNumber 0 = .ok (.iload_n 0, 1) := by decide +kernel
theorem dX7_isNumber_1 : decode cX7_isNumber 1 = .ok (.bipush (-99), 2) := by decide +kernel
theorem dX7_isNumber_3 : decode cX7_isNumber 3 = .ok (.bipush 99, 2) := by decide +kernel
theorem dX7_isNumber_5 : decode cX7_isNumber 5 = .ok (.invokestatic 52, 3) := by decide +kernel
theorem dX7_isNumber_8 : decode cX7_isNumber 8 = .ok (.ireturn, 1) := by decide +kernel
theorem dX0_become_0 : decode cX0_become 0 = .ok (.aload_n 0, 1) := by decide +kernel
theorem dX0_become_1 : decode cX0_become 1 = .ok (.getfield 7, 3) := by decide +kernel
theorem dX0_become_4 : decode cX0_become 4 = .ok (.istore 4, 2) := by decide +kernel
theorem dX0_become_6 : decode cX0_become 6 = .ok (.aload_n 0, 1) := by decide +kernel
theorem dX0_become_7 : decode cX0_become 7 = .ok (.iload_n 1, 1) := by decide +kernel
theorem dX0_become_8 : decode cX0_become 8 = .ok (.putfield 7, 3) := by decide +kernel
theorem dX0_become_11 : decode cX0_become 11 = .ok (.aload_n 0, 1) := by decide +kernel
theorem dX0_become_12 : decode cX0_become 12 = .ok (.iload_n 2, 1) := by decide +kernel
theorem dX0_become_13 : decode cX0_become 13 = .ok (.putfield 13, 3) := by decide +kernel
theorem dX0_become_16 : decode cX0_become 16 = .ok (.aload_n 0, 1) := by decide +kernel
theorem dX0_become_17 : decode cX0_become 17 = .ok (.iload_n 3, 1) := by decide +kernel
theorem dX0_become_18 : decode cX0_become 18 = .ok (.putfield 16, 3) := by decide +kernel
theorem dX0_become_21 : decode cX0_become 21 = .ok (.iload 4, 2) := by decide +kernel
theorem dX0_become_23 : decode cX0_become 23 = .ok (.ireturn, 1) := by decide +kernel
theorem dX5_isMark_0 : decode cX5_isMark 0 = .ok (.aload_n 0, 1) := by decide +kernel
theorem dX5_isMark_1 : decode cX5_isMark 1 = .ok (.getfield 21, 3) := by decide +kernel
theorem dX5_isMark_4 : decode cX5_isMark 4 = .ok (.iconst 3, 1) := by decide +kernel
theorem dX5_isMark_5 : decode cX5_isMark 5 = .ok (.if_icmp .eq 11, 3) := by decide +kernel
theorem dX5_isMark_8 : decode cX5_isMark 8 = .ok (.aload_n 0, 1) := by decide +kernel
theorem dX5_isMark_9 : decode cX5_isMark 9 = .ok (.getfield 21, 3) := by decide +kernel
theorem dX5_isMark_12 : decode cX5_isMark 12 = .ok (.iconst 4, 1) := by decide +kernel
theorem dX5_isMark_13 : decode cX5_isMark 13 = .ok (.if_icmp .ne 7, 3) := by decide +kernel
theorem dX5_isMark_16 : decode cX5_isMark 16 = .ok (.iconst 1, 1) := by decide +kernel
theorem dX5_isMark_17 : decode cX5_isMark 17 = .ok (.goto 4, 3) := by decide +kernel
theorem dX5_isMark_20 : decode cX5_isMark 20 = .ok (.iconst 0, 1) := by decide +kernel
theorem dX5_isMark_21 : decode cX5_isMark 21 = .ok (.ireturn, 1) := by decide +kernel
theorem dX5_isHolder_0 : decode cX5_isHolder 0 = .ok (.aload_n 0, 1) := by decide +kernel
theorem dX5_isHolder_1 : decode cX5_isHolder 1 = .ok (.getfield 21, 3) := by decide +kernel
theorem dX5_isHolder_4 : decode cX5_isHolder 4 = .ok (.ifCond .eq 11, 3) := by decide +kernel
theorem dX5_isHolder_7 : decode cX5_isHolder 7 = .ok (.aload_n 0, 1) := by decide +kernel
theorem dX5_isHolder_8 : decode cX5_isHolder 8 = .ok (.getfield 21, 3) := by decide +kernel
theorem dX5_isHolder_11 : decode cX5_isHolder 11 = .ok (.iconst 1, 1) := by decide +kernel
theorem dX5_isHolder_12 : decode cX5_isHolder 12 = .ok (.if_icmp .ne 7, 3) := by decide +kernel
theorem dX5_isHolder_15 : decode cX5_isHolder 15 = .ok (.iconst 1, 1) := by decide +kernel
theorem dX5_isHolder_16 : decode cX5_isHolder 16 = .ok (.goto 4, 3) := by decide +kernel
theorem dX5_isHolder_19 : decode cX5_isHolder 19 = .ok (.iconst 0, 1) := by decide +kernel
theorem dX5_isHolder_20 : decode cX5_isHolder 20 = .ok (.ireturn, 1) := by decide +kernel
theorem dX5_putFirst_0 : decode cX5_putFirst 0 = .ok (.aload_n 0, 1) := by decide +kernel
theorem dX5_putFirst_1 : decode cX5_putFirst 1 = .ok (.iload_n 1, 1) := by decide +kernel
theorem dX5_putFirst_2 : decode cX5_putFirst 2 = .ok (.putfield 28, 3) := by decide +kernel
theorem dX5_putFirst_5 : decode cX5_putFirst 5 = .ok (.aload_n 0, 1) := by decide +kernel
theorem dX5_putFirst_6 : decode cX5_putFirst 6 = .ok (.iload_n 1, 1) := by decide +kernel
theorem dX5_putFirst_7 : decode cX5_putFirst 7 = .ok (.invokestatic 31, 3) := by decide +kernel
theorem dX5_putFirst_10 : decode cX5_putFirst 10 = .ok (.putfield 35, 3) := by decide +kernel
theorem dX5_putFirst_13 : decode cX5_putFirst 13 = .ok (.return_, 1) := by decide +kernel
theorem dX5_putPart_0 : decode cX5_putPart 0 = .ok (.aload_n 0, 1) := by decide +kernel
theorem dX5_putPart_1 : decode cX5_putPart 1 = .ok (.getfield 21, 3) := by decide +kernel
theorem dX5_putPart_4 : decode cX5_putPart 4 = .ok (.ifCond .ne 15, 3) := by decide +kernel
theorem dX5_putPart_7 : decode cX5_putPart 7 = .ok (.aload_n 0, 1) := by decide +kernel
theorem dX5_putPart_8 : decode cX5_putPart 8 = .ok (.getfield 38, 3) := by decide +kernel
theorem dX5_putPart_11 : decode cX5_putPart 11 = .ok (.ifCond .ne 8, 3) := by decide +kernel
theorem dX5_putPart_14 : decode cX5_putPart 14 = .ok (.aload_n 0, 1) := by decide +kernel
theorem dX5_putPart_15 : decode cX5_putPart 15 = .ok (.iload_n 1, 1) := by decide +kernel
theorem dX5_putPart_16 : decode cX5_putPart 16 = .ok (.invokevirtual 41, 3) := by decide +kernel
theorem dX5_putPart_19 : decode cX5_putPart 19 = .ok (.aload_n 0, 1) := by decide +kernel
theorem dX5_putPart_20 : decode cX5_putPart 20 = .ok (.dup, 1) := by decide +kernel
theorem dX5_putPart_21 : decode cX5_putPart 21 = .ok (.getfield 38, 3) := by decide +kernel
theorem dX5_putPart_24 : decode cX5_putPart 24 = .ok (.iload_n 1, 1) := by decide +kernel
theorem dX5_putPart_25 : decode cX5_putPart 25 = .ok (.invokestatic 31, 3) := by decide +kernel
theorem dX5_putPart_28 : decode cX5_putPart 28 = .ok (.ior, 1) := by decide +kernel
theorem dX5_putPart_29 : decode cX5_putPart 29 = .ok (.putfield 38, 3) := by decide +kernel
theorem dX5_putPart_32 : decode cX5_putPart 32 = .ok (.aload_n 0, 1) := by decide +kernel
theorem dX5_putPart_33 : decode cX5_putPart 33 = .ok (.getfield 21, 3) := by decide +kernel
theorem dX5_putPart_36 : decode cX5_putPart 36 = .ok (.iconst 1, 1) := by decide +kernel
theorem dX5_putPart_37 : decode cX5_putPart 37 = .ok (.if_icmp .ne 11, 3) := by decide +kernel
theorem dX5_putPart_40 : decode cX5_putPart 40 = .ok (.aload_n 0, 1) := by decide +kernel
theorem dX5_putPart_41 : decode cX5_putPart 41 = .ok (.aload_n 0, 1) := by decide +kernel
theorem dX5_putPart_42 : decode cX5_putPart 42 = .ok (.getfield 38, 3) := by decide +kernel
theorem dX5_putPart_45 : decode cX5_putPart 45 = .ok (.putfield 35, 3) := by decide +kernel
theorem dX5_putPart_48 : decode cX5_putPart 48 = .ok (.return_, 1) := by decide +kernel
theorem dX6_isAllowed_0 : decode cX6_isAllowed 0 = .ok (.aload_n 0, 1) := by decide +kernel
theorem dX6_isAllowed_1 : decode cX6_isAllowed 1 = .ok (.getfield 25, 3) := by decide +kernel
theorem dX6_isAllowed_4 : decode cX6_isAllowed 4 = .ok (.tableswitch 85 1 3 #[28, 47, 66], 28) := by decide +kernel
theorem dX6_isAllowed_32 : decode cX6_isAllowed 32 = .ok (.aload_n 1, 1) := by decide +kernel
theorem dX6_isAllowed_33 : decode cX6_isAllowed 33 = .ok (.aload_n 0, 1) := by decide +kernel
theorem dX6_isAllowed_34 : decode cX6_isAllowed 34 = .ok (.getfield 28, 3) := by decide +kernel
theorem dX6_isAllowed_37 : decode cX6_isAllowed 37 = .ok (.iaload, 1) := by decide +kernel
theorem dX6_isAllowed_38 : decode cX6_isAllowed 38 = .ok (.aload_n 0, 1) := by decide +kernel
theorem dX6_isAllowed_39 : decode cX6_isAllowed 39 = .ok (.getfield 31, 3) := by decide +kernel
theorem dX6_isAllowed_42 : decode cX6_isAllowed 42 = .ok (.if_icmp .ge 7, 3) := by decide +kernel
theorem dX6_isAllowed_45 : decode cX6_isAllowed 45 = .ok (.iconst 1, 1) := by decide +kernel
theorem dX6_isAllowed_46 : decode cX6_isAllowed 46 = .ok (.goto 4, 3) := by decide +kernel
theorem dX6_isAllowed_49 : decode cX6_isAllowed 49 = .ok (.iconst 0, 1) := by decide +kernel
theorem dX6_isAllowed_50 : decode cX6_isAllowed 50 = .ok (.ireturn, 1) := by decide +kernel
theorem dX6_isAllowed_51 : decode cX6_isAllowed 51 = .ok (.aload_n 1, 1) := by decide +kernel
theorem dX6_isAllowed_52 : decode cX6_isAllowed 52 = .ok (.aload_n 0, 1) := by decide +kernel
theorem dX6_isAllowed_53 : decode cX6_isAllowed 53 = .ok (.getfield 28, 3) := by decide +kernel
theorem dX6_isAllowed_56 : decode cX6_isAllowed 56 = .ok (.iaload, 1) := by decide +kernel
theorem dX6_isAllowed_57 : decode cX6_isAllowed 57 = .ok (.aload_n 0, 1) := by decide +kernel
theorem dX6_isAllowed_58 : decode cX6_isAllowed 58 = .ok (.getfield 31, 3) := by decide +kernel
theorem dX6_isAllowed_61 : decode cX6_isAllowed 61 = .ok (.if_icmp .ne 7, 3) := by decide +kernel
theorem dX6_isAllowed_64 : decode cX6_isAllowed 64 = .ok (.iconst 1, 1) := by decide +kernel
theorem dX6_isAllowed_65 : decode cX6_isAllowed 65 = .ok (.goto 4, 3) := by decide +kernel
theorem dX6_isAllowed_68 : decode cX6_isAllowed 68 = .ok (.iconst 0, 1) := by decide +kernel
theorem dX6_isAllowed_69 : decode cX6_isAllowed 69 = .ok (.ireturn, 1) := by decide +kernel
theorem dX6_isAllowed_70 : decode cX6_isAllowed 70 = .ok (.aload_n 1, 1) := by decide +kernel
theorem dX6_isAllowed_71 : decode cX6_isAllowed 71 = .ok (.aload_n 0, 1) := by decide +kernel
theorem dX6_isAllowed_72 : decode cX6_isAllowed 72 = .ok (.getfield 28, 3) := by decide +kernel
theorem dX6_isAllowed_75 : decode cX6_isAllowed 75 = .ok (.iaload, 1) := by decide +kernel
theorem dX6_isAllowed_76 : decode cX6_isAllowed 76 = .ok (.aload_n 0, 1) := by decide +kernel
theorem dX6_isAllowed_77 : decode cX6_isAllowed 77 = .ok (.getfield 31, 3) := by decide +kernel
theorem dX6_isAllowed_80 : decode cX6_isAllowed 80 = .ok (.if_icmp .le 7, 3) := by decide +kernel
theorem dX6_isAllowed_83 : decode cX6_isAllowed 83 = .ok (.iconst 1, 1) := by decide +kernel
theorem dX6_isAllowed_84 : decode cX6_isAllowed 84 = .ok (.goto 4, 3) := by decide +kernel
theorem dX6_isAllowed_87 : decode cX6_isAllowed 87 = .ok (.iconst 0, 1) := by decide +kernel
theorem dX6_isAllowed_88 : decode cX6_isAllowed 88 = .ok (.ireturn, 1) := by decide +kernel
theorem dX6_isAllowed_89 : decode cX6_isAllowed 89 = .ok (.iconst 1, 1) := by decide +kernel
theorem dX6_isAllowed_90 : decode cX6_isAllowed 90 = .ok (.ireturn, 1) := by decide +kernel
theorem dX4_deactivate_0 : decode cX4_deactivate 0 = .ok (.aload_n 0, 1) := by decide +kernel
theorem dX4_deactivate_1 : decode cX4_deactivate 1 = .ok (.iconst 0, 1) := by decide +kernel
theorem dX4_deactivate_2 : decode cX4_deactivate 2 = .ok (.putfield 21, 3) := by decide +kernel
theorem dX4_deactivate_5 : decode cX4_deactivate 5 = .ok (.iconst 0, 1) := by decide +kernel
theorem dX4_deactivate_6 : decode cX4_deactivate 6 = .ok (.istore_n 1, 1) := by decide +kernel
theorem dX4_deactivate_7 : decode cX4_deactivate 7 = .ok (.iload_n 1, 1) := by decide +kernel
theorem dX4_deactivate_8 : decode cX4_deactivate 8 = .ok (.aload_n 0, 1) := by decide +kernel
theorem dX4_deactivate_9 : decode cX4_deactivate 9 = .ok (.getfield 9, 3) := by decide +kernel
theorem dX4_deactivate_12 : decode cX4_deactivate 12 = .ok (.arraylength, 1) := by decide +kernel
theorem dX4_deactivate_13 : decode cX4_deactivate 13 = .ok (.if_icmp .ge 16, 3) := by decide +kernel
theorem dX4_deactivate_16 : decode cX4_deactivate 16 = .ok (.aload_n 0, 1) := by decide +kernel
theorem dX4_deactivate_17 : decode cX4_deactivate 17 = .ok (.getfield 9, 3) := by decide +kernel
theorem dX4_deactivate_20 : decode cX4_deactivate 20 = .ok (.iload_n 1, 1) := by decide +kernel
theorem dX4_deactivate_21 : decode cX4_deactivate 21 = .ok (.iconst (-1), 1) := by decide +kernel
theorem dX4_deactivate_22 : decode cX4_deactivate 22 = .ok (.iastore, 1) := by decide +kernel
theorem dX4_deactivate_23 : decode cX4_deactivate 23 = .ok (.iinc 1 1, 3) := by decide +kernel
theorem dX4_deactivate_26 : decode cX4_deactivate 26 = .ok (.goto (-19), 3) := by decide +kernel
theorem dX4_deactivate_29 : decode cX4_deactivate 29 = .ok (.return_, 1) := by decide +kernel
theorem dX4_clear_0 : decode cX4_clear 0 = .ok (.aload_n 0, 1) := by decide +kernel
theorem dX4_clear_1 : decode cX4_clear 1 = .ok (.invokevirtual 25, 3) := by decide +kernel
theorem dX4_clear_4 : decode cX4_clear 4 = .ok (.iconst 0, 1) := by decide +kernel
theorem dX4_clear_5 : decode cX4_clear 5 = .ok (.istore_n 1, 1) := by decide +kernel
theorem dX4_clear_6 : decode cX4_clear 6 = .ok (.iload_n 1, 1) := by decide +kernel
theorem dX4_clear_7 : decode cX4_clear 7 = .ok (.aload_n 0, 1) := by decide +kernel
theorem dX4_clear_8 : decode cX4_clear 8 = .ok (.getfield 15, 3) := by decide +kernel
theorem dX4_clear_11 : decode cX4_clear 11 = .ok (.arraylength, 1) := by decide +kernel
theorem dX4_clear_12 : decode cX4_clear 12 = .ok (.if_icmp .ge 16, 3) := by decide +kernel
theorem dX4_clear_15 : decode cX4_clear 15 = .ok (.aload_n 0, 1) := by decide +kernel
theorem dX4_clear_16 : decode cX4_clear 16 = .ok (.getfield 15, 3) := by decide +kernel
theorem dX4_clear_19 : decode cX4_clear 19 = .ok (.iload_n 1, 1) := by decide +kernel
theorem dX4_clear_20 : decode cX4_clear 20 = .ok (.iconst 0, 1) := by decide +kernel
theorem dX4_clear_21 : decode cX4_clear 21 = .ok (.iastore, 1) := by decide +kernel
theorem dX4_clear_22 : decode cX4_clear 22 = .ok (.iinc 1 1, 3) := by decide +kernel
theorem dX4_clear_25 : decode cX4_clear 25 = .ok (.goto (-19), 3) := by decide +kernel
theorem dX4_clear_28 : decode cX4_clear 28 = .ok (.iconst 0, 1) := by decide +kernel
theorem dX4_clear_29 : decode cX4_clear 29 = .ok (.istore_n 1, 1) := by decide +kernel
theorem dX4_clear_30 : decode cX4_clear 30 = .ok (.iload_n 1, 1) := by decide +kernel
theorem dX4_clear_31 : decode cX4_clear 31 = .ok (.aload_n 0, 1) := by decide +kernel
theorem dX4_clear_32 : decode cX4_clear 32 = .ok (.getfield 18, 3) := by decide +kernel
theorem dX4_clear_35 : decode cX4_clear 35 = .ok (.arraylength, 1) := by decide +kernel
theorem dX4_clear_36 : decode cX4_clear 36 = .ok (.if_icmp .ge 16, 3) := by decide +kernel
theorem dX4_clear_39 : decode cX4_clear 39 = .ok (.aload_n 0, 1) := by decide +kernel
theorem dX4_clear_40 : decode cX4_clear 40 = .ok (.getfield 18, 3) := by decide +kernel
theorem dX4_clear_43 : decode cX4_clear 43 = .ok (.iload_n 1, 1) := by decide +kernel
theorem dX4_clear_44 : decode cX4_clear 44 = .ok (.iconst 0, 1) := by decide +kernel
theorem dX4_clear_45 : decode cX4_clear 45 = .ok (.iastore, 1) := by decide +kernel
theorem dX4_clear_46 : decode cX4_clear 46 = .ok (.iinc 1 1, 3) := by decide +kernel
theorem dX4_clear_49 : decode cX4_clear 49 = .ok (.goto (-19), 3) := by decide +kernel
theorem dX4_clear_52 : decode cX4_clear 52 = .ok (.return_, 1) := by decide +kernel
theorem dX4_add_0 : decode cX4_add 0 = .ok (.aload_n 0, 1) := by decide +kernel
theorem dX4_add_1 : decode cX4_add 1 = .ok (.getfield 18, 3) := by decide +kernel
theorem dX4_add_4 : decode cX4_add 4 = .ok (.iload_n 1, 1) := by decide +kernel
theorem dX4_add_5 : decode cX4_add 5 = .ok (.iaload, 1) := by decide +kernel
theorem dX4_add_6 : decode cX4_add 6 = .ok (.iload_n 2, 1) := by decide +kernel
theorem dX4_add_7 : decode cX4_add 7 = .ok (.iadd, 1) := by decide +kernel
theorem dX4_add_8 : decode cX4_add 8 = .ok (.istore_n 3, 1) := by decide +kernel
theorem dX4_add_9 : decode cX4_add 9 = .ok (.aload_n 0, 1) := by decide +kernel
theorem dX4_add_10 : decode cX4_add 10 = .ok (.getfield 18, 3) := by decide +kernel
theorem dX4_add_13 : decode cX4_add 13 = .ok (.iload_n 1, 1) := by decide +kernel
theorem dX4_add_14 : decode cX4_add 14 = .ok (.bipush (-99), 2) := by decide +kernel
theorem dX4_add_16 : decode cX4_add 16 = .ok (.bipush 99, 2) := by decide +kernel
theorem dX4_add_18 : decode cX4_add 18 = .ok (.iload_n 3, 1) := by decide +kernel
theorem dX4_add_19 : decode cX4_add 19 = .ok (.invokestatic 28, 3) := by decide +kernel
theorem dX4_add_22 : decode cX4_add 22 = .ok (.invokestatic 34, 3) := by decide +kernel
theorem dX4_add_25 : decode cX4_add 25 = .ok (.iastore, 1) := by decide +kernel
theorem dX4_add_26 : decode cX4_add 26 = .ok (.return_, 1) := by decide +kernel
theorem dX4_copyFrom_0 : decode cX4_copyFrom 0 = .ok (.aload_n 0, 1) := by decide +kernel
theorem dX4_copyFrom_1 : decode cX4_copyFrom 1 = .ok (.aload_n 1, 1) := by decide +kernel
theorem dX4_copyFrom_2 : decode cX4_copyFrom 2 = .ok (.getfield 21, 3) := by decide +kernel
theorem dX4_copyFrom_5 : decode cX4_copyFrom 5 = .ok (.putfield 21, 3) := by decide +kernel
theorem dX4_copyFrom_8 : decode cX4_copyFrom 8 = .ok (.aload_n 1, 1) := by decide +kernel
theorem dX4_copyFrom_9 : decode cX4_copyFrom 9 = .ok (.getfield 9, 3) := by decide +kernel
theorem dX4_copyFrom_12 : decode cX4_copyFrom 12 = .ok (.iconst 0, 1) := by decide +kernel
theorem dX4_copyFrom_13 : decode cX4_copyFrom 13 = .ok (.aload_n 0, 1) := by decide +kernel
theorem dX4_copyFrom_14 : decode cX4_copyFrom 14 = .ok (.getfield 9, 3) := by decide +kernel
theorem dX4_copyFrom_17 : decode cX4_copyFrom 17 = .ok (.iconst 0, 1) := by decide +kernel
theorem dX4_copyFrom_18 : decode cX4_copyFrom 18 = .ok (.aload_n 0, 1) := by decide +kernel
theorem dX4_copyFrom_19 : decode cX4_copyFrom 19 = .ok (.getfield 9, 3) := by decide +kernel
theorem dX4_copyFrom_22 : decode cX4_copyFrom 22 = .ok (.arraylength, 1) := by decide +kernel
theorem dX4_copyFrom_23 : decode cX4_copyFrom 23 = .ok (.invokestatic 37, 3) := by decide +kernel
theorem dX4_copyFrom_26 : decode cX4_copyFrom 26 = .ok (.aload_n 1, 1) := by decide +kernel
theorem dX4_copyFrom_27 : decode cX4_copyFrom 27 = .ok (.getfield 15, 3) := by decide +kernel
theorem dX4_copyFrom_30 : decode cX4_copyFrom 30 = .ok (.iconst 0, 1) := by decide +kernel
theorem dX4_copyFrom_31 : decode cX4_copyFrom 31 = .ok (.aload_n 0, 1) := by decide +kernel
theorem dX4_copyFrom_32 : decode cX4_copyFrom 32 = .ok (.getfield 15, 3) := by decide +kernel
theorem dX4_copyFrom_35 : decode cX4_copyFrom 35 = .ok (.iconst 0, 1) := by decide +kernel
theorem dX4_copyFrom_36 : decode cX4_copyFrom 36 = .ok (.aload_n 0, 1) := by decide +kernel
theorem dX4_copyFrom_37 : decode cX4_copyFrom 37 = .ok (.getfield 15, 3) := by decide +kernel
theorem dX4_copyFrom_40 : decode cX4_copyFrom 40 = .ok (.arraylength, 1) := by decide +kernel
theorem dX4_copyFrom_41 : decode cX4_copyFrom 41 = .ok (.invokestatic 37, 3) := by decide +kernel
theorem dX4_copyFrom_44 : decode cX4_copyFrom 44 = .ok (.aload_n 1, 1) := by decide +kernel
theorem dX4_copyFrom_45 : decode cX4_copyFrom 45 = .ok (.getfield 18, 3) := by decide +kernel
theorem dX4_copyFrom_48 : decode cX4_copyFrom 48 = .ok (.iconst 0, 1) := by decide +kernel
theorem dX4_copyFrom_49 : decode cX4_copyFrom 49 = .ok (.aload_n 0, 1) := by decide +kernel
theorem dX4_copyFrom_50 : decode cX4_copyFrom 50 = .ok (.getfield 18, 3) := by decide +kernel
theorem dX4_copyFrom_53 : decode cX4_copyFrom 53 = .ok (.iconst 0, 1) := by decide +kernel
theorem dX4_copyFrom_54 : decode cX4_copyFrom 54 = .ok (.aload_n 0, 1) := by decide +kernel
theorem dX4_copyFrom_55 : decode cX4_copyFrom 55 = .ok (.getfield 18, 3) := by decide +kernel
theorem dX4_copyFrom_58 : decode cX4_copyFrom 58 = .ok (.arraylength, 1) := by decide +kernel
theorem dX4_copyFrom_59 : decode cX4_copyFrom 59 = .ok (.invokestatic 37, 3) := by decide +kernel
theorem dX4_copyFrom_62 : decode cX4_copyFrom 62 = .ok (.return_, 1) := by decide +kernel
theorem dX4_isSameAs_0 : decode cX4_isSameAs 0 = .ok (.aload_n 0, 1) := by decide +kernel
theorem dX4_isSameAs_1 : decode cX4_isSameAs 1 = .ok (.getfield 21, 3) := by decide +kernel
theorem dX4_isSameAs_4 : decode cX4_isSameAs 4 = .ok (.aload_n 1, 1) := by decide +kernel
theorem dX4_isSameAs_5 : decode cX4_isSameAs 5 = .ok (.getfield 21, 3) := by decide +kernel
theorem dX4_isSameAs_8 : decode cX4_isSameAs 8 = .ok (.if_icmp .eq 5, 3) := by decide +kernel
theorem dX4_isSameAs_11 : decode cX4_isSameAs 11 = .ok (.iconst 0, 1) := by decide +kernel
theorem dX4_isSameAs_12 : decode cX4_isSameAs 12 = .ok (.ireturn, 1) := by decide +kernel
theorem dX4_isSameAs_13 : decode cX4_isSameAs 13 = .ok (.iconst 0, 1) := by decide +kernel
theorem dX4_isSameAs_14 : decode cX4_isSameAs 14 = .ok (.istore_n 2, 1) := by decide +kernel
theorem dX4_isSameAs_15 : decode cX4_isSameAs 15 = .ok (.iload_n 2, 1) := by decide +kernel
theorem dX4_isSameAs_16 : decode cX4_isSameAs 16 = .ok (.aload_n 0, 1) := by decide +kernel
theorem dX4_isSameAs_17 : decode cX4_isSameAs 17 = .ok (.getfield 18, 3) := by decide +kernel
theorem dX4_isSameAs_20 : decode cX4_isSameAs 20 = .ok (.arraylength, 1) := by decide +kernel
theorem dX4_isSameAs_21 : decode cX4_isSameAs 21 = .ok (.if_icmp .ge 26, 3) := by decide +kernel
theorem dX4_isSameAs_24 : decode cX4_isSameAs 24 = .ok (.aload_n 0, 1) := by decide +kernel
theorem dX4_isSameAs_25 : decode cX4_isSameAs 25 = .ok (.getfield 18, 3) := by decide +kernel
theorem dX4_isSameAs_28 : decode cX4_isSameAs 28 = .ok (.iload_n 2, 1) := by decide +kernel
theorem dX4_isSameAs_29 : decode cX4_isSameAs 29 = .ok (.iaload, 1) := by decide +kernel
theorem dX4_isSameAs_30 : decode cX4_isSameAs 30 = .ok (.aload_n 1, 1) := by decide +kernel
theorem dX4_isSameAs_31 : decode cX4_isSameAs 31 = .ok (.getfield 18, 3) := by decide +kernel
theorem dX4_isSameAs_34 : decode cX4_isSameAs 34 = .ok (.iload_n 2, 1) := by decide +kernel
theorem dX4_isSameAs_35 : decode cX4_isSameAs 35 = .ok (.iaload, 1) := by decide +kernel
theorem dX4_isSameAs_36 : decode cX4_isSameAs 36 = .ok (.if_icmp .eq 5, 3) := by decide +kernel
theorem dX4_isSameAs_39 : decode cX4_isSameAs 39 = .ok (.iconst 0, 1) := by decide +kernel
theorem dX4_isSameAs_40 : decode cX4_isSameAs 40 = .ok (.ireturn, 1) := by decide +kernel
theorem dX4_isSameAs_41 : decode cX4_isSameAs 41 = .ok (.iinc 2 1, 3) := by decide +kernel
theorem dX4_isSameAs_44 : decode cX4_isSameAs 44 = .ok (.goto (-29), 3) := by decide +kernel
theorem dX4_isSameAs_47 : decode cX4_isSameAs 47 = .ok (.iconst 0, 1) := by decide +kernel
theorem dX4_isSameAs_48 : decode cX4_isSameAs 48 = .ok (.istore_n 2, 1) := by decide +kernel
theorem dX4_isSameAs_49 : decode cX4_isSameAs 49 = .ok (.iload_n 2, 1) := by decide +kernel
theorem dX4_isSameAs_50 : decode cX4_isSameAs 50 = .ok (.aload_n 0, 1) := by decide +kernel
theorem dX4_isSameAs_51 : decode cX4_isSameAs 51 = .ok (.getfield 9, 3) := by decide +kernel
theorem dX4_isSameAs_54 : decode cX4_isSameAs 54 = .ok (.arraylength, 1) := by decide +kernel
theorem dX4_isSameAs_55 : decode cX4_isSameAs 55 = .ok (.if_icmp .ge 51, 3) := by decide +kernel
theorem dX4_isSameAs_58 : decode cX4_isSameAs 58 = .ok (.aload_n 0, 1) := by decide +kernel
theorem dX4_isSameAs_59 : decode cX4_isSameAs 59 = .ok (.getfield 9, 3) := by decide +kernel
theorem dX4_isSameAs_62 : decode cX4_isSameAs 62 = .ok (.iload_n 2, 1) := by decide +kernel
theorem dX4_isSameAs_63 : decode cX4_isSameAs 63 = .ok (.iaload, 1) := by decide +kernel
theorem dX4_isSameAs_64 : decode cX4_isSameAs 64 = .ok (.bipush 50, 2) := by decide +kernel
theorem dX4_isSameAs_66 : decode cX4_isSameAs 66 = .ok (.invokestatic 28, 3) := by decide +kernel
theorem dX4_isSameAs_69 : decode cX4_isSameAs 69 = .ok (.aload_n 1, 1) := by decide +kernel
theorem dX4_isSameAs_70 : decode cX4_isSameAs 70 = .ok (.getfield 9, 3) := by decide +kernel
theorem dX4_isSameAs_73 : decode cX4_isSameAs 73 = .ok (.iload_n 2, 1) := by decide +kernel
theorem dX4_isSameAs_74 : decode cX4_isSameAs 74 = .ok (.iaload, 1) := by decide +kernel
theorem dX4_isSameAs_75 : decode cX4_isSameAs 75 = .ok (.bipush 50, 2) := by decide +kernel
theorem dX4_isSameAs_77 : decode cX4_isSameAs 77 = .ok (.invokestatic 28, 3) := by decide +kernel
theorem dX4_isSameAs_80 : decode cX4_isSameAs 80 = .ok (.if_icmp .ne 18, 3) := by decide +kernel
theorem dX4_isSameAs_83 : decode cX4_isSameAs 83 = .ok (.aload_n 0, 1) := by decide +kernel
theorem dX4_isSameAs_84 : decode cX4_isSameAs 84 = .ok (.getfield 15, 3) := by decide +kernel
theorem dX4_isSameAs_87 : decode cX4_isSameAs 87 = .ok (.iload_n 2, 1) := by decide +kernel
theorem dX4_isSameAs_88 : decode cX4_isSameAs 88 = .ok (.iaload, 1) := by decide +kernel
theorem dX4_isSameAs_89 : decode cX4_isSameAs 89 = .ok (.aload_n 1, 1) := by decide +kernel
theorem dX4_isSameAs_90 : decode cX4_isSameAs 90 = .ok (.getfield 15, 3) := by decide +kernel
theorem dX4_isSameAs_93 : decode cX4_isSameAs 93 = .ok (.iload_n 2, 1) := by decide +kernel
theorem dX4_isSameAs_94 : decode cX4_isSameAs 94 = .ok (.iaload, 1) := by decide +kernel
theorem dX4_isSameAs_95 : decode cX4_isSameAs 95 = .ok (.if_icmp .eq 5, 3) := by decide +kernel
theorem dX4_isSameAs_98 : decode cX4_isSameAs 98 = .ok (.iconst 0, 1) := by decide +kernel
theorem dX4_isSameAs_99 : decode cX4_isSameAs 99 = .ok (.ireturn, 1) := by decide +kernel
theorem dX4_isSameAs_100 : decode cX4_isSameAs 100 = .ok (.iinc 2 1, 3) := by decide +kernel
theorem dX4_isSameAs_103 : decode cX4_isSameAs 103 = .ok (.goto (-54), 3) := by decide +kernel
theorem dX4_isSameAs_106 : decode cX4_isSameAs 106 = .ok (.iconst 1, 1) := by decide +kernel
theorem dX4_isSameAs_107 : decode cX4_isSameAs 107 = .ok (.ireturn, 1) := by decide +kernel
theorem dX1_putState_0 : decode cX1_putState 0 = .ok (.aload_n 0, 1) := by decide +kernel
theorem dX1_putState_1 : decode cX1_putState 1 = .ok (.getfield 27, 3) := by decide +kernel
theorem dX1_putState_4 : decode cX1_putState 4 = .ok (.istore_n 3, 1) := by decide +kernel
theorem dX1_putState_5 : decode cX1_putState 5 = .ok (.aload_n 0, 1) := by decide +kernel
theorem dX1_putState_6 : decode cX1_putState 6 = .ok (.getfield 11, 3) := by decide +kernel
theorem dX1_putState_9 : decode cX1_putState 9 = .ok (.iload_n 3, 1) := by decide +kernel
theorem dX1_putState_10 : decode cX1_putState 10 = .ok (.aaload, 1) := by decide +kernel
theorem dX1_putState_11 : decode cX1_putState 11 = .ok (.astore 4, 2) := by decide +kernel
theorem dX1_putState_13 : decode cX1_putState 13 = .ok (.aload 4, 2) := by decide +kernel
theorem dX1_putState_15 : decode cX1_putState 15 = .ok (.iload_n 2, 1) := by decide +kernel
theorem dX1_putState_16 : decode cX1_putState 16 = .ok (.putfield 40, 3) := by decide +kernel
theorem dX1_putState_19 : decode cX1_putState 19 = .ok (.aload 4, 2) := by decide +kernel
theorem dX1_putState_21 : decode cX1_putState 21 = .ok (.iload_n 1, 1) := by decide +kernel
theorem dX1_putState_22 : decode cX1_putState 22 = .ok (.putfield 43, 3) := by decide +kernel
theorem dX1_putState_25 : decode cX1_putState 25 = .ok (.aload_n 0, 1) := by decide +kernel
theorem dX1_putState_26 : decode cX1_putState 26 = .ok (.dup, 1) := by decide +kernel
theorem dX1_putState_27 : decode cX1_putState 27 = .ok (.getfield 27, 3) := by decide +kernel
theorem dX1_putState_30 : decode cX1_putState 30 = .ok (.iconst 1, 1) := by decide +kernel
theorem dX1_putState_31 : decode cX1_putState 31 = .ok (.iadd, 1) := by decide +kernel
theorem dX1_putState_32 : decode cX1_putState 32 = .ok (.putfield 27, 3) := by decide +kernel
theorem dX1_putState_35 : decode cX1_putState 35 = .ok (.iconst 0, 1) := by decide +kernel
theorem dX1_putState_36 : decode cX1_putState 36 = .ok (.istore 5, 2) := by decide +kernel
theorem dX1_putState_38 : decode cX1_putState 38 = .ok (.iload 5, 2) := by decide +kernel
theorem dX1_putState_40 : decode cX1_putState 40 = .ok (.iload_n 3, 1) := by decide +kernel
theorem dX1_putState_41 : decode cX1_putState 41 = .ok (.if_icmp .ge 51, 3) := by decide +kernel
theorem dX1_putState_44 : decode cX1_putState 44 = .ok (.iload 5, 2) := by decide +kernel
theorem dX1_putState_46 : decode cX1_putState 46 = .ok (.iload_n 1, 1) := by decide +kernel
theorem dX1_putState_47 : decode cX1_putState 47 = .ok (.if_icmp .eq 20, 3) := by decide +kernel
theorem dX1_putState_50 : decode cX1_putState 50 = .ok (.aload_n 0, 1) := by decide +kernel
theorem dX1_putState_51 : decode cX1_putState 51 = .ok (.getfield 11, 3) := by decide +kernel
theorem dX1_putState_54 : decode cX1_putState 54 = .ok (.iload 5, 2) := by decide +kernel
theorem dX1_putState_56 : decode cX1_putState 56 = .ok (.aaload, 1) := by decide +kernel
theorem dX1_putState_57 : decode cX1_putState 57 = .ok (.getfield 46, 3) := by decide +kernel
theorem dX1_putState_60 : decode cX1_putState 60 = .ok (.iload_n 1, 1) := by decide +kernel
theorem dX1_putState_61 : decode cX1_putState 61 = .ok (.invokestatic 49, 3) := by decide +kernel
theorem dX1_putState_64 : decode cX1_putState 64 = .ok (.ifCond .eq 22, 3) := by decide +kernel
theorem dX1_putState_67 : decode cX1_putState 67 = .ok (.aload_n 0, 1) := by decide +kernel
theorem dX1_putState_68 : decode cX1_putState 68 = .ok (.getfield 11, 3) := by decide +kernel
theorem dX1_putState_71 : decode cX1_putState 71 = .ok (.iload 5, 2) := by decide +kernel
theorem dX1_putState_73 : decode cX1_putState 73 = .ok (.aaload, 1) := by decide +kernel
theorem dX1_putState_74 : decode cX1_putState 74 = .ok (.dup, 1) := by decide +kernel
theorem dX1_putState_75 : decode cX1_putState 75 = .ok (.getfield 46, 3) := by decide +kernel
theorem dX1_putState_78 : decode cX1_putState 78 = .ok (.iload_n 3, 1) := by decide +kernel
theorem dX1_putState_79 : decode cX1_putState 79 = .ok (.invokestatic 31, 3) := by decide +kernel
theorem dX1_putState_82 : decode cX1_putState 82 = .ok (.ior, 1) := by decide +kernel
theorem dX1_putState_83 : decode cX1_putState 83 = .ok (.putfield 46, 3) := by decide +kernel
theorem dX1_putState_86 : decode cX1_putState 86 = .ok (.iinc 5 1, 3) := by decide +kernel
theorem dX1_putState_89 : decode cX1_putState 89 = .ok (.goto (-51), 3) := by decide +kernel
theorem dX1_putState_92 : decode cX1_putState 92 = .ok (.aload 4, 2) := by decide +kernel
theorem dX1_putState_94 : decode cX1_putState 94 = .ok (.invokevirtual 53, 3) := by decide +kernel
theorem dX1_putState_97 : decode cX1_putState 97 = .ok (.ifCond .ne 33, 3) := by decide +kernel
theorem dX1_putState_100 : decode cX1_putState 100 = .ok (.aload_n 0, 1) := by decide +kernel
theorem dX1_putState_101 : decode cX1_putState 101 = .ok (.getfield 11, 3) := by decide +kernel
theorem dX1_putState_104 : decode cX1_putState 104 = .ok (.iload_n 1, 1) := by decide +kernel
theorem dX1_putState_105 : decode cX1_putState 105 = .ok (.aaload, 1) := by decide +kernel
theorem dX1_putState_106 : decode cX1_putState 106 = .ok (.iload_n 3, 1) := by decide +kernel
theorem dX1_putState_107 : decode cX1_putState 107 = .ok (.invokevirtual 57, 3) := by decide +kernel
theorem dX1_putState_110 : decode cX1_putState 110 = .ok (.aload_n 0, 1) := by decide +kernel
theorem dX1_putState_111 : decode cX1_putState 111 = .ok (.aload_n 0, 1) := by decide +kernel
theorem dX1_putState_112 : decode cX1_putState 112 = .ok (.getfield 35, 3) := by decide +kernel
theorem dX1_putState_115 : decode cX1_putState 115 = .ok (.iload_n 1, 1) := by decide +kernel
theorem dX1_putState_116 : decode cX1_putState 116 = .ok (.invokestatic 31, 3) := by decide +kernel
theorem dX1_putState_119 : decode cX1_putState 119 = .ok (.iconst (-1), 1) := by decide +kernel
theorem dX1_putState_120 : decode cX1_putState 120 = .ok (.ixor, 1) := by decide +kernel
theorem dX1_putState_121 : decode cX1_putState 121 = .ok (.iand, 1) := by decide +kernel
theorem dX1_putState_122 : decode cX1_putState 122 = .ok (.iload_n 3, 1) := by decide +kernel
theorem dX1_putState_123 : decode cX1_putState 123 = .ok (.invokestatic 31, 3) := by decide +kernel
theorem dX1_putState_126 : decode cX1_putState 126 = .ok (.ior, 1) := by decide +kernel
theorem dX1_putState_127 : decode cX1_putState 127 = .ok (.putfield 35, 3) := by decide +kernel
theorem dX1_putState_130 : decode cX1_putState 130 = .ok (.iload_n 2, 1) := by decide +kernel
theorem dX1_putState_131 : decode cX1_putState 131 = .ok (.iconst 2, 1) := by decide +kernel
theorem dX1_putState_132 : decode cX1_putState 132 = .ok (.if_icmp .ne 16, 3) := by decide +kernel
theorem dX1_putState_135 : decode cX1_putState 135 = .ok (.aload_n 0, 1) := by decide +kernel
theorem dX1_putState_136 : decode cX1_putState 136 = .ok (.dup, 1) := by decide +kernel
theorem dX1_putState_137 : decode cX1_putState 137 = .ok (.getfield 61, 3) := by decide +kernel
theorem dX1_putState_140 : decode cX1_putState 140 = .ok (.iload_n 3, 1) := by decide +kernel
theorem dX1_putState_141 : decode cX1_putState 141 = .ok (.invokestatic 31, 3) := by decide +kernel
theorem dX1_putState_144 : decode cX1_putState 144 = .ok (.ior, 1) := by decide +kernel
theorem dX1_putState_145 : decode cX1_putState 145 = .ok (.putfield 61, 3) := by decide +kernel
theorem dX1_putState_148 : decode cX1_putState 148 = .ok (.iload_n 3, 1) := by decide +kernel
theorem dX1_putState_149 : decode cX1_putState 149 = .ok (.ireturn, 1) := by decide +kernel
theorem dX1_causeOf_0 : decode cX1_causeOf 0 = .ok (.iload_n 0, 1) := by decide +kernel
theorem dX1_causeOf_1 : decode cX1_causeOf 1 = .ok (.ifCond .ne 5, 3) := by decide +kernel
theorem dX1_causeOf_4 : decode cX1_causeOf 4 = .ok (.iload_n 1, 1) := by decide +kernel
theorem dX1_causeOf_5 : decode cX1_causeOf 5 = .ok (.ireturn, 1) := by decide +kernel
theorem dX1_causeOf_6 : decode cX1_causeOf 6 = .ok (.iload_n 0, 1) := by decide +kernel
theorem dX1_causeOf_7 : decode cX1_causeOf 7 = .ok (.iconst 1, 1) := by decide +kernel
theorem dX1_causeOf_8 : decode cX1_causeOf 8 = .ok (.if_icmp .ne 8, 3) := by decide +kernel
theorem dX1_causeOf_11 : decode cX1_causeOf 11 = .ok (.bipush 10, 2) := by decide +kernel
theorem dX1_causeOf_13 : decode cX1_causeOf 13 = .ok (.goto 5, 3) := by decide +kernel
theorem dX1_causeOf_16 : decode cX1_causeOf 16 = .ok (.bipush 11, 2) := by decide +kernel
theorem dX1_causeOf_18 : decode cX1_causeOf 18 = .ok (.ireturn, 1) := by decide +kernel
theorem dX1_scopeOf_0 : decode cX1_scopeOf 0 = .ok (.iload_n 1, 1) := by decide +kernel
theorem dX1_scopeOf_1 : decode cX1_scopeOf 1 = .ok (.invokestatic 31, 3) := by decide +kernel
theorem dX1_scopeOf_4 : decode cX1_scopeOf 4 = .ok (.iload_n 2, 1) := by decide +kernel
theorem dX1_scopeOf_5 : decode cX1_scopeOf 5 = .ok (.invokestatic 31, 3) := by decide +kernel
theorem dX1_scopeOf_8 : decode cX1_scopeOf 8 = .ok (.ior, 1) := by decide +kernel
theorem dX1_scopeOf_9 : decode cX1_scopeOf 9 = .ok (.istore_n 3, 1) := by decide +kernel
theorem dX1_scopeOf_10 : decode cX1_scopeOf 10 = .ok (.iload_n 1, 1) := by decide +kernel
theorem dX1_scopeOf_11 : decode cX1_scopeOf 11 = .ok (.iconst 1, 1) := by decide +kernel
theorem dX1_scopeOf_12 : decode cX1_scopeOf 12 = .ok (.isub, 1) := by decide +kernel
theorem dX1_scopeOf_13 : decode cX1_scopeOf 13 = .ok (.istore 4, 2) := by decide +kernel
theorem dX1_scopeOf_15 : decode cX1_scopeOf 15 = .ok (.iload 4, 2) := by decide +kernel
theorem dX1_scopeOf_17 : decode cX1_scopeOf 17 = .ok (.ifCond .le 41, 3) := by decide +kernel
theorem dX1_scopeOf_20 : decode cX1_scopeOf 20 = .ok (.aload_n 0, 1) := by decide +kernel
theorem dX1_scopeOf_21 : decode cX1_scopeOf 21 = .ok (.getfield 11, 3) := by decide +kernel
theorem dX1_scopeOf_24 : decode cX1_scopeOf 24 = .ok (.iload 4, 2) := by decide +kernel
theorem dX1_scopeOf_26 : decode cX1_scopeOf 26 = .ok (.aaload, 1) := by decide +kernel
theorem dX1_scopeOf_27 : decode cX1_scopeOf 27 = .ok (.getfield 40, 3) := by decide +kernel
theorem dX1_scopeOf_30 : decode cX1_scopeOf 30 = .ok (.ifCond .ne 22, 3) := by decide +kernel
theorem dX1_scopeOf_33 : decode cX1_scopeOf 33 = .ok (.aload_n 0, 1) := by decide +kernel
theorem dX1_scopeOf_34 : decode cX1_scopeOf 34 = .ok (.getfield 11, 3) := by decide +kernel
theorem dX1_scopeOf_37 : decode cX1_scopeOf 37 = .ok (.iload 4, 2) := by decide +kernel
theorem dX1_scopeOf_39 : decode cX1_scopeOf 39 = .ok (.aaload, 1) := by decide +kernel
theorem dX1_scopeOf_40 : decode cX1_scopeOf 40 = .ok (.getfield 46, 3) := by decide +kernel
theorem dX1_scopeOf_43 : decode cX1_scopeOf 43 = .ok (.iload_n 3, 1) := by decide +kernel
theorem dX1_scopeOf_44 : decode cX1_scopeOf 44 = .ok (.iand, 1) := by decide +kernel
theorem dX1_scopeOf_45 : decode cX1_scopeOf 45 = .ok (.iload_n 3, 1) := by decide +kernel
theorem dX1_scopeOf_46 : decode cX1_scopeOf 46 = .ok (.if_icmp .ne 6, 3) := by decide +kernel
theorem dX1_scopeOf_49 : decode cX1_scopeOf 49 = .ok (.iload 4, 2) := by decide +kernel
theorem dX1_scopeOf_51 : decode cX1_scopeOf 51 = .ok (.ireturn, 1) := by decide +kernel
theorem dX1_scopeOf_52 : decode cX1_scopeOf 52 = .ok (.iinc 4 (-1), 3) := by decide +kernel
theorem dX1_scopeOf_55 : decode cX1_scopeOf 55 = .ok (.goto (-40), 3) := by decide +kernel
theorem dX1_scopeOf_58 : decode cX1_scopeOf 58 = .ok (.iconst 0, 1) := by decide +kernel
theorem dX1_scopeOf_59 : decode cX1_scopeOf 59 = .ok (.ireturn, 1) := by decide +kernel
theorem dX1_putTransition_0 : decode cX1_putTransition 0 = .ok (.aload_n 0, 1) := by decide +kernel
theorem dX1_putTransition_1 : decode cX1_putTransition 1 = .ok (.getfield 64, 3) := by decide +kernel
theorem dX1_putTransition_4 : decode cX1_putTransition 4 = .ok (.istore 5, 2) := by decide +kernel
theorem dX1_putTransition_6 : decode cX1_putTransition 6 = .ok (.aload_n 0, 1) := by decide +kernel
theorem dX1_putTransition_7 : decode cX1_putTransition 7 = .ok (.getfield 19, 3) := by decide +kernel
theorem dX1_putTransition_10 : decode cX1_putTransition 10 = .ok (.iload 5, 2) := by decide +kernel
theorem dX1_putTransition_12 : decode cX1_putTransition 12 = .ok (.aaload, 1) := by decide +kernel
theorem dX1_putTransition_13 : decode cX1_putTransition 13 = .ok (.astore 6, 2) := by decide +kernel
theorem dX1_putTransition_15 : decode cX1_putTransition 15 = .ok (.aload 6, 2) := by decide +kernel
theorem dX1_putTransition_17 : decode cX1_putTransition 17 = .ok (.iload_n 1, 1) := by decide +kernel
theorem dX1_putTransition_18 : decode cX1_putTransition 18 = .ok (.putfield 67, 3) := by decide +kernel
theorem dX1_putTransition_21 : decode cX1_putTransition 21 = .ok (.aload 6, 2) := by decide +kernel
theorem dX1_putTransition_23 : decode cX1_putTransition 23 = .ok (.iload_n 2, 1) := by decide +kernel
theorem dX1_putTransition_24 : decode cX1_putTransition 24 = .ok (.putfield 70, 3) := by decide +kernel
theorem dX1_putTransition_27 : decode cX1_putTransition 27 = .ok (.aload 6, 2) := by decide +kernel
theorem dX1_putTransition_29 : decode cX1_putTransition 29 = .ok (.iload_n 3, 1) := by decide +kernel
theorem dX1_putTransition_30 : decode cX1_putTransition 30 = .ok (.putfield 73, 3) := by decide +kernel
theorem dX1_putTransition_33 : decode cX1_putTransition 33 = .ok (.aload 6, 2) := by decide +kernel
theorem dX1_putTransition_35 : decode cX1_putTransition 35 = .ok (.iload 4, 2) := by decide +kernel
theorem dX1_putTransition_37 : decode cX1_putTransition 37 = .ok (.putfield 76, 3) := by decide +kernel
theorem dX1_putTransition_40 : decode cX1_putTransition 40 = .ok (.aload 6, 2) := by decide +kernel
theorem dX1_putTransition_42 : decode cX1_putTransition 42 = .ok (.iload 4, 2) := by decide +kernel
theorem dX1_putTransition_44 : decode cX1_putTransition 44 = .ok (.iconst (-1), 1) := by decide +kernel
theorem dX1_putTransition_45 : decode cX1_putTransition 45 = .ok (.if_icmp .ne 7, 3) := by decide +kernel
theorem dX1_putTransition_48 : decode cX1_putTransition 48 = .ok (.iconst (-1), 1) := by decide +kernel
theorem dX1_putTransition_49 : decode cX1_putTransition 49 = .ok (.goto 10, 3) := by decide +kernel
theorem dX1_putTransition_52 : decode cX1_putTransition 52 = .ok (.aload_n 0, 1) := by decide +kernel
theorem dX1_putTransition_53 : decode cX1_putTransition 53 = .ok (.iload_n 1, 1) := by decide +kernel
theorem dX1_putTransition_54 : decode cX1_putTransition 54 = .ok (.iload 4, 2) := by decide +kernel
theorem dX1_putTransition_56 : decode cX1_putTransition 56 = .ok (.invokevirtual 79, 3) := by decide +kernel
theorem dX1_putTransition_59 : decode cX1_putTransition 59 = .ok (.putfield 83, 3) := by decide +kernel
theorem dX1_putTransition_62 : decode cX1_putTransition 62 = .ok (.aload_n 0, 1) := by decide +kernel
theorem dX1_putTransition_63 : decode cX1_putTransition 63 = .ok (.getfield 11, 3) := by decide +kernel
theorem dX1_putTransition_66 : decode cX1_putTransition 66 = .ok (.iload_n 1, 1) := by decide +kernel
theorem dX1_putTransition_67 : decode cX1_putTransition 67 = .ok (.aaload, 1) := by decide +kernel
theorem dX1_putTransition_68 : decode cX1_putTransition 68 = .ok (.dup, 1) := by decide +kernel
theorem dX1_putTransition_69 : decode cX1_putTransition 69 = .ok (.getfield 86, 3) := by decide +kernel
theorem dX1_putTransition_72 : decode cX1_putTransition 72 = .ok (.iload 5, 2) := by decide +kernel
theorem dX1_putTransition_74 : decode cX1_putTransition 74 = .ok (.invokestatic 31, 3) := by decide +kernel
theorem dX1_putTransition_77 : decode cX1_putTransition 77 = .ok (.ior, 1) := by decide +kernel
theorem dX1_putTransition_78 : decode cX1_putTransition 78 = .ok (.putfield 86, 3) := by decide +kernel
theorem dX1_putTransition_81 : decode cX1_putTransition 81 = .ok (.aload_n 0, 1) := by decide +kernel
theorem dX1_putTransition_82 : decode cX1_putTransition 82 = .ok (.getfield 23, 3) := by decide +kernel
theorem dX1_putTransition_85 : decode cX1_putTransition 85 = .ok (.iload_n 2, 1) := by decide +kernel
theorem dX1_putTransition_86 : decode cX1_putTransition 86 = .ok (.iload_n 3, 1) := by decide +kernel
theorem dX1_putTransition_87 : decode cX1_putTransition 87 = .ok (.invokestatic 89, 3) := by decide +kernel
theorem dX1_putTransition_90 : decode cX1_putTransition 90 = .ok (.dup2, 1) := by decide +kernel
theorem dX1_putTransition_91 : decode cX1_putTransition 91 = .ok (.iaload, 1) := by decide +kernel
theorem dX1_putTransition_92 : decode cX1_putTransition 92 = .ok (.iload 5, 2) := by decide +kernel
theorem dX1_putTransition_94 : decode cX1_putTransition 94 = .ok (.invokestatic 31, 3) := by decide +kernel
theorem dX1_putTransition_97 : decode cX1_putTransition 97 = .ok (.ior, 1) := by decide +kernel
theorem dX1_putTransition_98 : decode cX1_putTransition 98 = .ok (.iastore, 1) := by decide +kernel
theorem dX1_putTransition_99 : decode cX1_putTransition 99 = .ok (.aload_n 0, 1) := by decide +kernel
theorem dX1_putTransition_100 : decode cX1_putTransition 100 = .ok (.dup, 1) := by decide +kernel
theorem dX1_putTransition_101 : decode cX1_putTransition 101 = .ok (.getfield 64, 3) := by decide +kernel
theorem dX1_putTransition_104 : decode cX1_putTransition 104 = .ok (.iconst 1, 1) := by decide +kernel
theorem dX1_putTransition_105 : decode cX1_putTransition 105 = .ok (.iadd, 1) := by decide +kernel
theorem dX1_putTransition_106 : decode cX1_putTransition 106 = .ok (.putfield 64, 3) := by decide +kernel
theorem dX1_putTransition_109 : decode cX1_putTransition 109 = .ok (.iload 5, 2) := by decide +kernel
theorem dX1_putTransition_111 : decode cX1_putTransition 111 = .ok (.ireturn, 1) := by decide +kernel
theorem dX1_filled_0 : decode cX1_filled 0 = .ok (.iload_n 1, 1) := by decide +kernel
theorem dX1_filled_1 : decode cX1_filled 1 = .ok (.istore_n 2, 1) := by decide +kernel
theorem dX1_filled_2 : decode cX1_filled 2 = .ok (.iconst 0, 1) := by decide +kernel
theorem dX1_filled_3 : decode cX1_filled 3 = .ok (.istore_n 3, 1) := by decide +kernel
theorem dX1_filled_4 : decode cX1_filled 4 = .ok (.iload_n 3, 1) := by decide +kernel
theorem dX1_filled_5 : decode cX1_filled 5 = .ok (.aload_n 0, 1) := by decide +kernel
theorem dX1_filled_6 : decode cX1_filled 6 = .ok (.getfield 27, 3) := by decide +kernel
theorem dX1_filled_9 : decode cX1_filled 9 = .ok (.if_icmp .ge 29, 3) := by decide +kernel
theorem dX1_filled_12 : decode cX1_filled 12 = .ok (.iload_n 2, 1) := by decide +kernel
theorem dX1_filled_13 : decode cX1_filled 13 = .ok (.iload_n 3, 1) := by decide +kernel
theorem dX1_filled_14 : decode cX1_filled 14 = .ok (.invokestatic 49, 3) := by decide +kernel
theorem dX1_filled_17 : decode cX1_filled 17 = .ok (.ifCond .eq 15, 3) := by decide +kernel
theorem dX1_filled_20 : decode cX1_filled 20 = .ok (.iload_n 2, 1) := by decide +kernel
theorem dX1_filled_21 : decode cX1_filled 21 = .ok (.aload_n 0, 1) := by decide +kernel
theorem dX1_filled_22 : decode cX1_filled 22 = .ok (.getfield 11, 3) := by decide +kernel
theorem dX1_filled_25 : decode cX1_filled 25 = .ok (.iload_n 3, 1) := by decide +kernel
theorem dX1_filled_26 : decode cX1_filled 26 = .ok (.aaload, 1) := by decide +kernel
theorem dX1_filled_27 : decode cX1_filled 27 = .ok (.getfield 92, 3) := by decide +kernel
theorem dX1_filled_30 : decode cX1_filled 30 = .ok (.ior, 1) := by decide +kernel
theorem dX1_filled_31 : decode cX1_filled 31 = .ok (.istore_n 2, 1) := by decide +kernel
theorem dX1_filled_32 : decode cX1_filled 32 = .ok (.iinc 3 1, 3) := by decide +kernel
theorem dX1_filled_35 : decode cX1_filled 35 = .ok (.goto (-31), 3) := by decide +kernel
theorem dX1_filled_38 : decode cX1_filled 38 = .ok (.iload_n 2, 1) := by decide +kernel
theorem dX1_filled_39 : decode cX1_filled 39 = .ok (.ireturn, 1) := by decide +kernel
theorem dX1_partsAside_0 : decode cX1_partsAside 0 = .ok (.aload_n 0, 1) := by decide +kernel
theorem dX1_partsAside_1 : decode cX1_partsAside 1 = .ok (.getfield 11, 3) := by decide +kernel
theorem dX1_partsAside_4 : decode cX1_partsAside 4 = .ok (.iload_n 1, 1) := by decide +kernel
theorem dX1_partsAside_5 : decode cX1_partsAside 5 = .ok (.aaload, 1) := by decide +kernel
theorem dX1_partsAside_6 : decode cX1_partsAside 6 = .ok (.getfield 101, 3) := by decide +kernel
theorem dX1_partsAside_9 : decode cX1_partsAside 9 = .ok (.iload_n 2, 1) := by decide +kernel
theorem dX1_partsAside_10 : decode cX1_partsAside 10 = .ok (.iconst (-1), 1) := by decide +kernel
theorem dX1_partsAside_11 : decode cX1_partsAside 11 = .ok (.ixor, 1) := by decide +kernel
theorem dX1_partsAside_12 : decode cX1_partsAside 12 = .ok (.iand, 1) := by decide +kernel
theorem dX1_partsAside_13 : decode cX1_partsAside 13 = .ok (.istore_n 3, 1) := by decide +kernel
theorem dX1_partsAside_14 : decode cX1_partsAside 14 = .ok (.iload_n 1, 1) := by decide +kernel
theorem dX1_partsAside_15 : decode cX1_partsAside 15 = .ok (.iconst 1, 1) := by decide +kernel
theorem dX1_partsAside_16 : decode cX1_partsAside 16 = .ok (.iadd, 1) := by decide +kernel
theorem dX1_partsAside_17 : decode cX1_partsAside 17 = .ok (.istore 4, 2) := by decide +kernel
theorem dX1_partsAside_19 : decode cX1_partsAside 19 = .ok (.iload 4, 2) := by decide +kernel
theorem dX1_partsAside_21 : decode cX1_partsAside 21 = .ok (.aload_n 0, 1) := by decide +kernel
theorem dX1_partsAside_22 : decode cX1_partsAside 22 = .ok (.getfield 27, 3) := by decide +kernel
theorem dX1_partsAside_25 : decode cX1_partsAside 25 = .ok (.if_icmp .ge 34, 3) := by decide +kernel
theorem dX1_partsAside_28 : decode cX1_partsAside 28 = .ok (.aload_n 0, 1) := by decide +kernel
theorem dX1_partsAside_29 : decode cX1_partsAside 29 = .ok (.getfield 11, 3) := by decide +kernel
theorem dX1_partsAside_32 : decode cX1_partsAside 32 = .ok (.iload 4, 2) := by decide +kernel
theorem dX1_partsAside_34 : decode cX1_partsAside 34 = .ok (.aaload, 1) := by decide +kernel
theorem dX1_partsAside_35 : decode cX1_partsAside 35 = .ok (.getfield 46, 3) := by decide +kernel
theorem dX1_partsAside_38 : decode cX1_partsAside 38 = .ok (.iload_n 2, 1) := by decide +kernel
theorem dX1_partsAside_39 : decode cX1_partsAside 39 = .ok (.iand, 1) := by decide +kernel
theorem dX1_partsAside_40 : decode cX1_partsAside 40 = .ok (.ifCond .eq 13, 3) := by decide +kernel
theorem dX1_partsAside_43 : decode cX1_partsAside 43 = .ok (.iload_n 3, 1) := by decide +kernel
theorem dX1_partsAside_44 : decode cX1_partsAside 44 = .ok (.iload 4, 2) := by decide +kernel
theorem dX1_partsAside_46 : decode cX1_partsAside 46 = .ok (.invokestatic 31, 3) := by decide +kernel
theorem dX1_partsAside_49 : decode cX1_partsAside 49 = .ok (.iconst (-1), 1) := by decide +kernel
theorem dX1_partsAside_50 : decode cX1_partsAside 50 = .ok (.ixor, 1) := by decide +kernel
theorem dX1_partsAside_51 : decode cX1_partsAside 51 = .ok (.iand, 1) := by decide +kernel
theorem dX1_partsAside_52 : decode cX1_partsAside 52 = .ok (.istore_n 3, 1) := by decide +kernel
theorem dX1_partsAside_53 : decode cX1_partsAside 53 = .ok (.iinc 4 1, 3) := by decide +kernel
theorem dX1_partsAside_56 : decode cX1_partsAside 56 = .ok (.goto (-37), 3) := by decide +kernel
theorem dX1_partsAside_59 : decode cX1_partsAside 59 = .ok (.iload_n 3, 1) := by decide +kernel
theorem dX1_partsAside_60 : decode cX1_partsAside 60 = .ok (.ireturn, 1) := by decide +kernel
theorem dX1_enteredInto_0 : decode cX1_enteredInto 0 = .ok (.iconst 0, 1) := by decide +kernel
theorem dX1_enteredInto_1 : decode cX1_enteredInto 1 = .ok (.istore_n 3, 1) := by decide +kernel
theorem dX1_enteredInto_2 : decode cX1_enteredInto 2 = .ok (.iload_n 1, 1) := by decide +kernel
theorem dX1_enteredInto_3 : decode cX1_enteredInto 3 = .ok (.istore 4, 2) := by decide +kernel
theorem dX1_enteredInto_5 : decode cX1_enteredInto 5 = .ok (.iload_n 2, 1) := by decide +kernel
theorem dX1_enteredInto_6 : decode cX1_enteredInto 6 = .ok (.iconst 1, 1) := by decide +kernel
theorem dX1_enteredInto_7 : decode cX1_enteredInto 7 = .ok (.iadd, 1) := by decide +kernel
theorem dX1_enteredInto_8 : decode cX1_enteredInto 8 = .ok (.istore 5, 2) := by decide +kernel
theorem dX1_enteredInto_10 : decode cX1_enteredInto 10 = .ok (.iload 5, 2) := by decide +kernel
theorem dX1_enteredInto_12 : decode cX1_enteredInto 12 = .ok (.aload_n 0, 1) := by decide +kernel
theorem dX1_enteredInto_13 : decode cX1_enteredInto 13 = .ok (.getfield 27, 3) := by decide +kernel
theorem dX1_enteredInto_16 : decode cX1_enteredInto 16 = .ok (.if_icmp .ge 75, 3) := by decide +kernel
theorem dX1_enteredInto_19 : decode cX1_enteredInto 19 = .ok (.aload_n 0, 1) := by decide +kernel
theorem dX1_enteredInto_20 : decode cX1_enteredInto 20 = .ok (.getfield 11, 3) := by decide +kernel
theorem dX1_enteredInto_23 : decode cX1_enteredInto 23 = .ok (.iload_n 2, 1) := by decide +kernel
theorem dX1_enteredInto_24 : decode cX1_enteredInto 24 = .ok (.aaload, 1) := by decide +kernel
theorem dX1_enteredInto_25 : decode cX1_enteredInto 25 = .ok (.getfield 46, 3) := by decide +kernel
theorem dX1_enteredInto_28 : decode cX1_enteredInto 28 = .ok (.iload 5, 2) := by decide +kernel
theorem dX1_enteredInto_30 : decode cX1_enteredInto 30 = .ok (.invokestatic 49, 3) := by decide +kernel
theorem dX1_enteredInto_33 : decode cX1_enteredInto 33 = .ok (.ifCond .eq 52, 3) := by decide +kernel
theorem dX1_enteredInto_36 : decode cX1_enteredInto 36 = .ok (.aload_n 0, 1) := by decide +kernel
theorem dX1_enteredInto_37 : decode cX1_enteredInto 37 = .ok (.getfield 11, 3) := by decide +kernel
theorem dX1_enteredInto_40 : decode cX1_enteredInto 40 = .ok (.iload 5, 2) := by decide +kernel
theorem dX1_enteredInto_42 : decode cX1_enteredInto 42 = .ok (.aaload, 1) := by decide +kernel
theorem dX1_enteredInto_43 : decode cX1_enteredInto 43 = .ok (.getfield 46, 3) := by decide +kernel
theorem dX1_enteredInto_46 : decode cX1_enteredInto 46 = .ok (.iload_n 1, 1) := by decide +kernel
theorem dX1_enteredInto_47 : decode cX1_enteredInto 47 = .ok (.iand, 1) := by decide +kernel
theorem dX1_enteredInto_48 : decode cX1_enteredInto 48 = .ok (.ifCond .eq 37, 3) := by decide +kernel
theorem dX1_enteredInto_51 : decode cX1_enteredInto 51 = .ok (.iload_n 3, 1) := by decide +kernel
theorem dX1_enteredInto_52 : decode cX1_enteredInto 52 = .ok (.iload 5, 2) := by decide +kernel
theorem dX1_enteredInto_54 : decode cX1_enteredInto 54 = .ok (.invokestatic 31, 3) := by decide +kernel
theorem dX1_enteredInto_57 : decode cX1_enteredInto 57 = .ok (.ior, 1) := by decide +kernel
theorem dX1_enteredInto_58 : decode cX1_enteredInto 58 = .ok (.istore_n 3, 1) := by decide +kernel
theorem dX1_enteredInto_59 : decode cX1_enteredInto 59 = .ok (.aload_n 0, 1) := by decide +kernel
theorem dX1_enteredInto_60 : decode cX1_enteredInto 60 = .ok (.getfield 11, 3) := by decide +kernel
theorem dX1_enteredInto_63 : decode cX1_enteredInto 63 = .ok (.iload 5, 2) := by decide +kernel
theorem dX1_enteredInto_65 : decode cX1_enteredInto 65 = .ok (.aaload, 1) := by decide +kernel
theorem dX1_enteredInto_66 : decode cX1_enteredInto 66 = .ok (.getfield 40, 3) := by decide +kernel
theorem dX1_enteredInto_69 : decode cX1_enteredInto 69 = .ok (.iconst 1, 1) := by decide +kernel
theorem dX1_enteredInto_70 : decode cX1_enteredInto 70 = .ok (.if_icmp .ne 15, 3) := by decide +kernel
theorem dX1_enteredInto_73 : decode cX1_enteredInto 73 = .ok (.iload 4, 2) := by decide +kernel
theorem dX1_enteredInto_75 : decode cX1_enteredInto 75 = .ok (.aload_n 0, 1) := by decide +kernel
theorem dX1_enteredInto_76 : decode cX1_enteredInto 76 = .ok (.iload 5, 2) := by decide +kernel
theorem dX1_enteredInto_78 : decode cX1_enteredInto 78 = .ok (.iload_n 1, 1) := by decide +kernel
theorem dX1_enteredInto_79 : decode cX1_enteredInto 79 = .ok (.invokevirtual 95, 3) := by decide +kernel
theorem dX1_enteredInto_82 : decode cX1_enteredInto 82 = .ok (.ior, 1) := by decide +kernel
theorem dX1_enteredInto_83 : decode cX1_enteredInto 83 = .ok (.istore 4, 2) := by decide +kernel
theorem dX1_enteredInto_85 : decode cX1_enteredInto 85 = .ok (.iinc 5 1, 3) := by decide +kernel
theorem dX1_enteredInto_88 : decode cX1_enteredInto 88 = .ok (.goto (-78), 3) := by decide +kernel
theorem dX1_enteredInto_91 : decode cX1_enteredInto 91 = .ok (.iload_n 3, 1) := by decide +kernel
theorem dX1_enteredInto_92 : decode cX1_enteredInto 92 = .ok (.aload_n 0, 1) := by decide +kernel
theorem dX1_enteredInto_93 : decode cX1_enteredInto 93 = .ok (.iload 4, 2) := by decide +kernel
theorem dX1_enteredInto_95 : decode cX1_enteredInto 95 = .ok (.invokevirtual 98, 3) := by decide +kernel
theorem dX1_enteredInto_98 : decode cX1_enteredInto 98 = .ok (.ior, 1) := by decide +kernel
theorem dX1_enteredInto_99 : decode cX1_enteredInto 99 = .ok (.ireturn, 1) := by decide +kernel
theorem dX1_endedAmong_0 : decode cX1_endedAmong 0 = .ok (.iconst 0, 1) := by decide +kernel
theorem dX1_endedAmong_1 : decode cX1_endedAmong 1 = .ok (.istore_n 2, 1) := by decide +kernel
theorem dX1_endedAmong_2 : decode cX1_endedAmong 2 = .ok (.aload_n 0, 1) := by decide +kernel
theorem dX1_endedAmong_3 : decode cX1_endedAmong 3 = .ok (.getfield 27, 3) := by decide +kernel
theorem dX1_endedAmong_6 : decode cX1_endedAmong 6 = .ok (.iconst 1, 1) := by decide +kernel
theorem dX1_endedAmong_7 : decode cX1_endedAmong 7 = .ok (.isub, 1) := by decide +kernel
theorem dX1_endedAmong_8 : decode cX1_endedAmong 8 = .ok (.istore_n 3, 1) := by decide +kernel
theorem dX1_endedAmong_9 : decode cX1_endedAmong 9 = .ok (.iload_n 3, 1) := by decide +kernel
theorem dX1_endedAmong_10 : decode cX1_endedAmong 10 = .ok (.ifCond .lt 102, 3) := by decide +kernel
theorem dX1_endedAmong_13 : decode cX1_endedAmong 13 = .ok (.aload_n 0, 1) := by decide +kernel
theorem dX1_endedAmong_14 : decode cX1_endedAmong 14 = .ok (.getfield 11, 3) := by decide +kernel
theorem dX1_endedAmong_17 : decode cX1_endedAmong 17 = .ok (.iload_n 3, 1) := by decide +kernel
theorem dX1_endedAmong_18 : decode cX1_endedAmong 18 = .ok (.aaload, 1) := by decide +kernel
theorem dX1_endedAmong_19 : decode cX1_endedAmong 19 = .ok (.getfield 101, 3) := by decide +kernel
theorem dX1_endedAmong_22 : decode cX1_endedAmong 22 = .ok (.istore 4, 2) := by decide +kernel
theorem dX1_endedAmong_24 : decode cX1_endedAmong 24 = .ok (.aload_n 0, 1) := by decide +kernel
theorem dX1_endedAmong_25 : decode cX1_endedAmong 25 = .ok (.getfield 11, 3) := by decide +kernel
theorem dX1_endedAmong_28 : decode cX1_endedAmong 28 = .ok (.iload_n 3, 1) := by decide +kernel
theorem dX1_endedAmong_29 : decode cX1_endedAmong 29 = .ok (.aaload, 1) := by decide +kernel
theorem dX1_endedAmong_30 : decode cX1_endedAmong 30 = .ok (.getfield 40, 3) := by decide +kernel
theorem dX1_endedAmong_33 : decode cX1_endedAmong 33 = .ok (.ifCond .ne 19, 3) := by decide +kernel
theorem dX1_endedAmong_36 : decode cX1_endedAmong 36 = .ok (.iload 4, 2) := by decide +kernel
theorem dX1_endedAmong_38 : decode cX1_endedAmong 38 = .ok (.aload_n 0, 1) := by decide +kernel
theorem dX1_endedAmong_39 : decode cX1_endedAmong 39 = .ok (.getfield 61, 3) := by decide +kernel
theorem dX1_endedAmong_42 : decode cX1_endedAmong 42 = .ok (.iand, 1) := by decide +kernel
theorem dX1_endedAmong_43 : decode cX1_endedAmong 43 = .ok (.iload_n 1, 1) := by decide +kernel
theorem dX1_endedAmong_44 : decode cX1_endedAmong 44 = .ok (.iand, 1) := by decide +kernel
theorem dX1_endedAmong_45 : decode cX1_endedAmong 45 = .ok (.ifCond .eq 7, 3) := by decide +kernel
theorem dX1_endedAmong_48 : decode cX1_endedAmong 48 = .ok (.iconst 1, 1) := by decide +kernel
theorem dX1_endedAmong_49 : decode cX1_endedAmong 49 = .ok (.goto 4, 3) := by decide +kernel
theorem dX1_endedAmong_52 : decode cX1_endedAmong 52 = .ok (.iconst 0, 1) := by decide +kernel
theorem dX1_endedAmong_53 : decode cX1_endedAmong 53 = .ok (.istore 5, 2) := by decide +kernel
theorem dX1_endedAmong_55 : decode cX1_endedAmong 55 = .ok (.aload_n 0, 1) := by decide +kernel
theorem dX1_endedAmong_56 : decode cX1_endedAmong 56 = .ok (.getfield 11, 3) := by decide +kernel
theorem dX1_endedAmong_59 : decode cX1_endedAmong 59 = .ok (.iload_n 3, 1) := by decide +kernel
theorem dX1_endedAmong_60 : decode cX1_endedAmong 60 = .ok (.aaload, 1) := by decide +kernel
theorem dX1_endedAmong_61 : decode cX1_endedAmong 61 = .ok (.getfield 40, 3) := by decide +kernel
theorem dX1_endedAmong_64 : decode cX1_endedAmong 64 = .ok (.iconst 1, 1) := by decide +kernel
theorem dX1_endedAmong_65 : decode cX1_endedAmong 65 = .ok (.if_icmp .ne 21, 3) := by decide +kernel
theorem dX1_endedAmong_68 : decode cX1_endedAmong 68 = .ok (.iload 4, 2) := by decide +kernel
theorem dX1_endedAmong_70 : decode cX1_endedAmong 70 = .ok (.ifCond .eq 16, 3) := by decide +kernel
theorem dX1_endedAmong_73 : decode cX1_endedAmong 73 = .ok (.iload 4, 2) := by decide +kernel
theorem dX1_endedAmong_75 : decode cX1_endedAmong 75 = .ok (.iload_n 2, 1) := by decide +kernel
theorem dX1_endedAmong_76 : decode cX1_endedAmong 76 = .ok (.iconst (-1), 1) := by decide +kernel
theorem dX1_endedAmong_77 : decode cX1_endedAmong 77 = .ok (.ixor, 1) := by decide +kernel
theorem dX1_endedAmong_78 : decode cX1_endedAmong 78 = .ok (.iand, 1) := by decide +kernel
theorem dX1_endedAmong_79 : decode cX1_endedAmong 79 = .ok (.ifCond .ne 7, 3) := by decide +kernel
theorem dX1_endedAmong_82 : decode cX1_endedAmong 82 = .ok (.iconst 1, 1) := by decide +kernel
theorem dX1_endedAmong_83 : decode cX1_endedAmong 83 = .ok (.goto 4, 3) := by decide +kernel
theorem dX1_endedAmong_86 : decode cX1_endedAmong 86 = .ok (.iconst 0, 1) := by decide +kernel
theorem dX1_endedAmong_87 : decode cX1_endedAmong 87 = .ok (.istore 6, 2) := by decide +kernel
theorem dX1_endedAmong_89 : decode cX1_endedAmong 89 = .ok (.iload 5, 2) := by decide +kernel
theorem dX1_endedAmong_91 : decode cX1_endedAmong 91 = .ok (.ifCond .ne 8, 3) := by decide +kernel
theorem dX1_endedAmong_94 : decode cX1_endedAmong 94 = .ok (.iload 6, 2) := by decide +kernel
theorem dX1_endedAmong_96 : decode cX1_endedAmong 96 = .ok (.ifCond .eq 10, 3) := by decide +kernel
theorem dX1_endedAmong_99 : decode cX1_endedAmong 99 = .ok (.iload_n 2, 1) := by decide +kernel
theorem dX1_endedAmong_100 : decode cX1_endedAmong 100 = .ok (.iload_n 3, 1) := by decide +kernel
theorem dX1_endedAmong_101 : decode cX1_endedAmong 101 = .ok (.invokestatic 31, 3) := by decide +kernel
theorem dX1_endedAmong_104 : decode cX1_endedAmong 104 = .ok (.ior, 1) := by decide +kernel
theorem dX1_endedAmong_105 : decode cX1_endedAmong 105 = .ok (.istore_n 2, 1) := by decide +kernel
theorem dX1_endedAmong_106 : decode cX1_endedAmong 106 = .ok (.iinc 3 (-1), 3) := by decide +kernel
theorem dX1_endedAmong_109 : decode cX1_endedAmong 109 = .ok (.goto (-100), 3) := by decide +kernel
theorem dX1_endedAmong_112 : decode cX1_endedAmong 112 = .ok (.iload_n 2, 1) := by decide +kernel
theorem dX1_endedAmong_113 : decode cX1_endedAmong 113 = .ok (.ireturn, 1) := by decide +kernel
theorem dX3_reset_0 : decode cX3_reset 0 = .ok (.aload_n 0, 1) := by decide +kernel
theorem dX3_reset_1 : decode cX3_reset 1 = .ok (.getfield 12, 3) := by decide +kernel
theorem dX3_reset_4 : decode cX3_reset 4 = .ok (.invokevirtual 32, 3) := by decide +kernel
theorem dX3_reset_7 : decode cX3_reset 7 = .ok (.iconst 0, 1) := by decide +kernel
theorem dX3_reset_8 : decode cX3_reset 8 = .ok (.istore_n 1, 1) := by decide +kernel
theorem dX3_reset_9 : decode cX3_reset 9 = .ok (.iload_n 1, 1) := by decide +kernel
theorem dX3_reset_10 : decode cX3_reset 10 = .ok (.aload_n 0, 1) := by decide +kernel
theorem dX3_reset_11 : decode cX3_reset 11 = .ok (.getfield 18, 3) := by decide +kernel
theorem dX3_reset_14 : decode cX3_reset 14 = .ok (.arraylength, 1) := by decide +kernel
theorem dX3_reset_15 : decode cX3_reset 15 = .ok (.if_icmp .ge 16, 3) := by decide +kernel
theorem dX3_reset_18 : decode cX3_reset 18 = .ok (.aload_n 0, 1) := by decide +kernel
theorem dX3_reset_19 : decode cX3_reset 19 = .ok (.getfield 18, 3) := by decide +kernel
theorem dX3_reset_22 : decode cX3_reset 22 = .ok (.iload_n 1, 1) := by decide +kernel
theorem dX3_reset_23 : decode cX3_reset 23 = .ok (.iconst 0, 1) := by decide +kernel
theorem dX3_reset_24 : decode cX3_reset 24 = .ok (.iastore, 1) := by decide +kernel
theorem dX3_reset_25 : decode cX3_reset 25 = .ok (.iinc 1 1, 3) := by decide +kernel
theorem dX3_reset_28 : decode cX3_reset 28 = .ok (.goto (-19), 3) := by decide +kernel
theorem dX3_reset_31 : decode cX3_reset 31 = .ok (.aload_n 0, 1) := by decide +kernel
theorem dX3_reset_32 : decode cX3_reset 32 = .ok (.iconst 0, 1) := by decide +kernel
theorem dX3_reset_33 : decode cX3_reset 33 = .ok (.putfield 35, 3) := by decide +kernel
theorem dX3_reset_36 : decode cX3_reset 36 = .ok (.aload_n 0, 1) := by decide +kernel
theorem dX3_reset_37 : decode cX3_reset 37 = .ok (.iconst 0, 1) := by decide +kernel
theorem dX3_reset_38 : decode cX3_reset 38 = .ok (.putfield 39, 3) := by decide +kernel
theorem dX3_reset_41 : decode cX3_reset 41 = .ok (.aload_n 0, 1) := by decide +kernel
theorem dX3_reset_42 : decode cX3_reset 42 = .ok (.iconst 0, 1) := by decide +kernel
theorem dX3_reset_43 : decode cX3_reset 43 = .ok (.putfield 42, 3) := by decide +kernel
theorem dX3_reset_46 : decode cX3_reset 46 = .ok (.aload_n 0, 1) := by decide +kernel
theorem dX3_reset_47 : decode cX3_reset 47 = .ok (.iconst 0, 1) := by decide +kernel
theorem dX3_reset_48 : decode cX3_reset 48 = .ok (.putfield 45, 3) := by decide +kernel
theorem dX3_reset_51 : decode cX3_reset 51 = .ok (.return_, 1) := by decide +kernel
theorem dX3_isAtEnd_0 : decode cX3_isAtEnd 0 = .ok (.aload_n 0, 1) := by decide +kernel
theorem dX3_isAtEnd_1 : decode cX3_isAtEnd 1 = .ok (.getfield 28, 3) := by decide +kernel
theorem dX3_isAtEnd_4 : decode cX3_isAtEnd 4 = .ok (.getfield 48, 3) := by decide +kernel
theorem dX3_isAtEnd_7 : decode cX3_isAtEnd 7 = .ok (.iconst 0, 1) := by decide +kernel
theorem dX3_isAtEnd_8 : decode cX3_isAtEnd 8 = .ok (.aaload, 1) := by decide +kernel
theorem dX3_isAtEnd_9 : decode cX3_isAtEnd 9 = .ok (.getfield 54, 3) := by decide +kernel
theorem dX3_isAtEnd_12 : decode cX3_isAtEnd 12 = .ok (.aload_n 0, 1) := by decide +kernel
theorem dX3_isAtEnd_13 : decode cX3_isAtEnd 13 = .ok (.getfield 28, 3) := by decide +kernel
theorem dX3_isAtEnd_16 : decode cX3_isAtEnd 16 = .ok (.getfield 59, 3) := by decide +kernel
theorem dX3_isAtEnd_19 : decode cX3_isAtEnd 19 = .ok (.iand, 1) := by decide +kernel
theorem dX3_isAtEnd_20 : decode cX3_isAtEnd 20 = .ok (.aload_n 0, 1) := by decide +kernel
theorem dX3_isAtEnd_21 : decode cX3_isAtEnd 21 = .ok (.getfield 12, 3) := by decide +kernel
theorem dX3_isAtEnd_24 : decode cX3_isAtEnd 24 = .ok (.getfield 62, 3) := by decide +kernel
theorem dX3_isAtEnd_27 : decode cX3_isAtEnd 27 = .ok (.iand, 1) := by decide +kernel
theorem dX3_isAtEnd_28 : decode cX3_isAtEnd 28 = .ok (.ifCond .eq 7, 3) := by decide +kernel
theorem dX3_isAtEnd_31 : decode cX3_isAtEnd 31 = .ok (.iconst 1, 1) := by decide +kernel
theorem dX3_isAtEnd_32 : decode cX3_isAtEnd 32 = .ok (.goto 4, 3) := by decide +kernel
theorem dX3_isAtEnd_35 : decode cX3_isAtEnd 35 = .ok (.iconst 0, 1) := by decide +kernel
theorem dX3_isAtEnd_36 : decode cX3_isAtEnd 36 = .ok (.ireturn, 1) := by decide +kernel
theorem dX3_growOlder_0 : decode cX3_growOlder 0 = .ok (.aload_n 0, 1) := by decide +kernel
theorem dX3_growOlder_1 : decode cX3_growOlder 1 = .ok (.dup, 1) := by decide +kernel
theorem dX3_growOlder_2 : decode cX3_growOlder 2 = .ok (.getfield 35, 3) := by decide +kernel
theorem dX3_growOlder_5 : decode cX3_growOlder 5 = .ok (.iconst 1, 1) := by decide +kernel
theorem dX3_growOlder_6 : decode cX3_growOlder 6 = .ok (.iadd, 1) := by decide +kernel
theorem dX3_growOlder_7 : decode cX3_growOlder 7 = .ok (.putfield 35, 3) := by decide +kernel
theorem dX3_growOlder_10 : decode cX3_growOlder 10 = .ok (.iconst 0, 1) := by decide +kernel
theorem dX3_growOlder_11 : decode cX3_growOlder 11 = .ok (.istore_n 1, 1) := by decide +kernel
theorem dX3_growOlder_12 : decode cX3_growOlder 12 = .ok (.iload_n 1, 1) := by decide +kernel
theorem dX3_growOlder_13 : decode cX3_growOlder 13 = .ok (.aload_n 0, 1) := by decide +kernel
theorem dX3_growOlder_14 : decode cX3_growOlder 14 = .ok (.getfield 28, 3) := by decide +kernel
theorem dX3_growOlder_17 : decode cX3_growOlder 17 = .ok (.getfield 86, 3) := by decide +kernel
theorem dX3_growOlder_20 : decode cX3_growOlder 20 = .ok (.if_icmp .ge 36, 3) := by decide +kernel
theorem dX3_growOlder_23 : decode cX3_growOlder 23 = .ok (.aload_n 0, 1) := by decide +kernel
theorem dX3_growOlder_24 : decode cX3_growOlder 24 = .ok (.getfield 12, 3) := by decide +kernel
theorem dX3_growOlder_27 : decode cX3_growOlder 27 = .ok (.getfield 62, 3) := by decide +kernel
theorem dX3_growOlder_30 : decode cX3_growOlder 30 = .ok (.iload_n 1, 1) := by decide +kernel
theorem dX3_growOlder_31 : decode cX3_growOlder 31 = .ok (.invokestatic 89, 3) := by decide +kernel
theorem dX3_growOlder_34 : decode cX3_growOlder 34 = .ok (.ifCond .eq 16, 3) := by decide +kernel
theorem dX3_growOlder_37 : decode cX3_growOlder 37 = .ok (.aload_n 0, 1) := by decide +kernel
theorem dX3_growOlder_38 : decode cX3_growOlder 38 = .ok (.getfield 12, 3) := by decide +kernel
theorem dX3_growOlder_41 : decode cX3_growOlder 41 = .ok (.getfield 93, 3) := by decide +kernel
theorem dX3_growOlder_44 : decode cX3_growOlder 44 = .ok (.iload_n 1, 1) := by decide +kernel
theorem dX3_growOlder_45 : decode cX3_growOlder 45 = .ok (.dup2, 1) := by decide +kernel
theorem dX3_growOlder_46 : decode cX3_growOlder 46 = .ok (.iaload, 1) := by decide +kernel
theorem dX3_growOlder_47 : decode cX3_growOlder 47 = .ok (.iconst 1, 1) := by decide +kernel
theorem dX3_growOlder_48 : decode cX3_growOlder 48 = .ok (.iadd, 1) := by decide +kernel
theorem dX3_growOlder_49 : decode cX3_growOlder 49 = .ok (.iastore, 1) := by decide +kernel
theorem dX3_growOlder_50 : decode cX3_growOlder 50 = .ok (.iinc 1 1, 3) := by decide +kernel
theorem dX3_growOlder_53 : decode cX3_growOlder 53 = .ok (.goto (-41), 3) := by decide +kernel
theorem dX3_growOlder_56 : decode cX3_growOlder 56 = .ok (.return_, 1) := by decide +kernel
theorem dX3_raise_0 : decode cX3_raise 0 = .ok (.aload_n 0, 1) := by decide +kernel
theorem dX3_raise_1 : decode cX3_raise 1 = .ok (.getfield 45, 3) := by decide +kernel
theorem dX3_raise_4 : decode cX3_raise 4 = .ok (.aload_n 0, 1) := by decide +kernel
theorem dX3_raise_5 : decode cX3_raise 5 = .ok (.getfield 22, 3) := by decide +kernel
theorem dX3_raise_8 : decode cX3_raise 8 = .ok (.arraylength, 1) := by decide +kernel
theorem dX3_raise_9 : decode cX3_raise 9 = .ok (.if_icmp .ge 26, 3) := by decide +kernel
theorem dX3_raise_12 : decode cX3_raise 12 = .ok (.aload_n 0, 1) := by decide +kernel
theorem dX3_raise_13 : decode cX3_raise 13 = .ok (.getfield 22, 3) := by decide +kernel
theorem dX3_raise_16 : decode cX3_raise 16 = .ok (.aload_n 0, 1) := by decide +kernel
theorem dX3_raise_17 : decode cX3_raise 17 = .ok (.getfield 45, 3) := by decide +kernel
theorem dX3_raise_20 : decode cX3_raise 20 = .ok (.iload_n 1, 1) := by decide +kernel
theorem dX3_raise_21 : decode cX3_raise 21 = .ok (.iastore, 1) := by decide +kernel
theorem dX3_raise_22 : decode cX3_raise 22 = .ok (.aload_n 0, 1) := by decide +kernel
theorem dX3_raise_23 : decode cX3_raise 23 = .ok (.dup, 1) := by decide +kernel
theorem dX3_raise_24 : decode cX3_raise 24 = .ok (.getfield 45, 3) := by decide +kernel
theorem dX3_raise_27 : decode cX3_raise 27 = .ok (.iconst 1, 1) := by decide +kernel
theorem dX3_raise_28 : decode cX3_raise 28 = .ok (.iadd, 1) := by decide +kernel
theorem dX3_raise_29 : decode cX3_raise 29 = .ok (.putfield 45, 3) := by decide +kernel
theorem dX3_raise_32 : decode cX3_raise 32 = .ok (.goto 13, 3) := by decide +kernel
theorem dX3_raise_35 : decode cX3_raise 35 = .ok (.aload_n 0, 1) := by decide +kernel
theorem dX3_raise_36 : decode cX3_raise 36 = .ok (.dup, 1) := by decide +kernel
theorem dX3_raise_37 : decode cX3_raise 37 = .ok (.getfield 39, 3) := by decide +kernel
theorem dX3_raise_40 : decode cX3_raise 40 = .ok (.iconst 1, 1) := by decide +kernel
theorem dX3_raise_41 : decode cX3_raise 41 = .ok (.iadd, 1) := by decide +kernel
theorem dX3_raise_42 : decode cX3_raise 42 = .ok (.putfield 39, 3) := by decide +kernel
theorem dX3_raise_45 : decode cX3_raise 45 = .ok (.return_, 1) := by decide +kernel
theorem dX3_loseQueue_0 : decode cX3_loseQueue 0 = .ok (.aload_n 0, 1) := by decide +kernel
theorem dX3_loseQueue_1 : decode cX3_loseQueue 1 = .ok (.dup, 1) := by decide +kernel
theorem dX3_loseQueue_2 : decode cX3_loseQueue 2 = .ok (.getfield 39, 3) := by decide +kernel
theorem dX3_loseQueue_5 : decode cX3_loseQueue 5 = .ok (.aload_n 0, 1) := by decide +kernel
theorem dX3_loseQueue_6 : decode cX3_loseQueue 6 = .ok (.getfield 45, 3) := by decide +kernel
theorem dX3_loseQueue_9 : decode cX3_loseQueue 9 = .ok (.iadd, 1) := by decide +kernel
theorem dX3_loseQueue_10 : decode cX3_loseQueue 10 = .ok (.putfield 39, 3) := by decide +kernel
theorem dX3_loseQueue_13 : decode cX3_loseQueue 13 = .ok (.aload_n 0, 1) := by decide +kernel
theorem dX3_loseQueue_14 : decode cX3_loseQueue 14 = .ok (.iconst 0, 1) := by decide +kernel
theorem dX3_loseQueue_15 : decode cX3_loseQueue 15 = .ok (.putfield 45, 3) := by decide +kernel
theorem dX3_loseQueue_18 : decode cX3_loseQueue 18 = .ok (.return_, 1) := by decide +kernel
theorem dX3_nextEvent_0 : decode cX3_nextEvent 0 = .ok (.aload_n 0, 1) := by decide +kernel
theorem dX3_nextEvent_1 : decode cX3_nextEvent 1 = .ok (.getfield 22, 3) := by decide +kernel
theorem dX3_nextEvent_4 : decode cX3_nextEvent 4 = .ok (.iconst 0, 1) := by decide +kernel
theorem dX3_nextEvent_5 : decode cX3_nextEvent 5 = .ok (.iaload, 1) := by decide +kernel
theorem dX3_nextEvent_6 : decode cX3_nextEvent 6 = .ok (.istore_n 1, 1) := by decide +kernel
theorem dX3_nextEvent_7 : decode cX3_nextEvent 7 = .ok (.iconst 1, 1) := by decide +kernel
theorem dX3_nextEvent_8 : decode cX3_nextEvent 8 = .ok (.istore_n 2, 1) := by decide +kernel
theorem dX3_nextEvent_9 : decode cX3_nextEvent 9 = .ok (.iload_n 2, 1) := by decide +kernel
theorem dX3_nextEvent_10 : decode cX3_nextEvent 10 = .ok (.aload_n 0, 1) := by decide +kernel
theorem dX3_nextEvent_11 : decode cX3_nextEvent 11 = .ok (.getfield 22, 3) := by decide +kernel
theorem dX3_nextEvent_14 : decode cX3_nextEvent 14 = .ok (.arraylength, 1) := by decide +kernel
theorem dX3_nextEvent_15 : decode cX3_nextEvent 15 = .ok (.if_icmp .ge 23, 3) := by decide +kernel
theorem dX3_nextEvent_18 : decode cX3_nextEvent 18 = .ok (.aload_n 0, 1) := by decide +kernel
theorem dX3_nextEvent_19 : decode cX3_nextEvent 19 = .ok (.getfield 22, 3) := by decide +kernel
theorem dX3_nextEvent_22 : decode cX3_nextEvent 22 = .ok (.iload_n 2, 1) := by decide +kernel
theorem dX3_nextEvent_23 : decode cX3_nextEvent 23 = .ok (.iconst 1, 1) := by decide +kernel
theorem dX3_nextEvent_24 : decode cX3_nextEvent 24 = .ok (.isub, 1) := by decide +kernel
theorem dX3_nextEvent_25 : decode cX3_nextEvent 25 = .ok (.aload_n 0, 1) := by decide +kernel
theorem dX3_nextEvent_26 : decode cX3_nextEvent 26 = .ok (.getfield 22, 3) := by decide +kernel
theorem dX3_nextEvent_29 : decode cX3_nextEvent 29 = .ok (.iload_n 2, 1) := by decide +kernel
theorem dX3_nextEvent_30 : decode cX3_nextEvent 30 = .ok (.iaload, 1) := by decide +kernel
theorem dX3_nextEvent_31 : decode cX3_nextEvent 31 = .ok (.iastore, 1) := by decide +kernel
theorem dX3_nextEvent_32 : decode cX3_nextEvent 32 = .ok (.iinc 2 1, 3) := by decide +kernel
theorem dX3_nextEvent_35 : decode cX3_nextEvent 35 = .ok (.goto (-26), 3) := by decide +kernel
theorem dX3_nextEvent_38 : decode cX3_nextEvent 38 = .ok (.aload_n 0, 1) := by decide +kernel
theorem dX3_nextEvent_39 : decode cX3_nextEvent 39 = .ok (.dup, 1) := by decide +kernel
theorem dX3_nextEvent_40 : decode cX3_nextEvent 40 = .ok (.getfield 45, 3) := by decide +kernel
theorem dX3_nextEvent_43 : decode cX3_nextEvent 43 = .ok (.iconst 1, 1) := by decide +kernel
theorem dX3_nextEvent_44 : decode cX3_nextEvent 44 = .ok (.isub, 1) := by decide +kernel
theorem dX3_nextEvent_45 : decode cX3_nextEvent 45 = .ok (.putfield 45, 3) := by decide +kernel
theorem dX3_nextEvent_48 : decode cX3_nextEvent 48 = .ok (.iload_n 1, 1) := by decide +kernel
theorem dX3_nextEvent_49 : decode cX3_nextEvent 49 = .ok (.ireturn, 1) := by decide +kernel
theorem dX3_isOpen_0 : decode cX3_isOpen 0 = .ok (.aload_n 0, 1) := by decide +kernel
theorem dX3_isOpen_1 : decode cX3_isOpen 1 = .ok (.getfield 12, 3) := by decide +kernel
theorem dX3_isOpen_4 : decode cX3_isOpen 4 = .ok (.getfield 62, 3) := by decide +kernel
theorem dX3_isOpen_7 : decode cX3_isOpen 7 = .ok (.aload_n 1, 1) := by decide +kernel
theorem dX3_isOpen_8 : decode cX3_isOpen 8 = .ok (.getfield 162, 3) := by decide +kernel
theorem dX3_isOpen_11 : decode cX3_isOpen 11 = .ok (.invokestatic 89, 3) := by decide +kernel
theorem dX3_isOpen_14 : decode cX3_isOpen 14 = .ok (.ifCond .eq 17, 3) := by decide +kernel
theorem dX3_isOpen_17 : decode cX3_isOpen 17 = .ok (.aload_n 1, 1) := by decide +kernel
theorem dX3_isOpen_18 : decode cX3_isOpen 18 = .ok (.aload_n 0, 1) := by decide +kernel
theorem dX3_isOpen_19 : decode cX3_isOpen 19 = .ok (.getfield 12, 3) := by decide +kernel
theorem dX3_isOpen_22 : decode cX3_isOpen 22 = .ok (.getfield 165, 3) := by decide +kernel
theorem dX3_isOpen_25 : decode cX3_isOpen 25 = .ok (.invokevirtual 168, 3) := by decide +kernel
theorem dX3_isOpen_28 : decode cX3_isOpen 28 = .ok (.ifCond .ne 5, 3) := by decide +kernel
theorem dX3_isOpen_31 : decode cX3_isOpen 31 = .ok (.iconst 0, 1) := by decide +kernel
theorem dX3_isOpen_32 : decode cX3_isOpen 32 = .ok (.ireturn, 1) := by decide +kernel
theorem dX3_isOpen_33 : decode cX3_isOpen 33 = .ok (.aload_n 1, 1) := by decide +kernel
theorem dX3_isOpen_34 : decode cX3_isOpen 34 = .ok (.getfield 172, 3) := by decide +kernel
theorem dX3_isOpen_37 : decode cX3_isOpen 37 = .ok (.lookupswitch 61 #[(1, 27), (2, 52)], 27) := by decide +kernel
theorem dX3_isOpen_64 : decode cX3_isOpen 64 = .ok (.aload_n 0, 1) := by decide +kernel
theorem dX3_isOpen_65 : decode cX3_isOpen 65 = .ok (.getfield 12, 3) := by decide +kernel
theorem dX3_isOpen_68 : decode cX3_isOpen 68 = .ok (.getfield 93, 3) := by decide +kernel
theorem dX3_isOpen_71 : decode cX3_isOpen 71 = .ok (.aload_n 1, 1) := by decide +kernel
theorem dX3_isOpen_72 : decode cX3_isOpen 72 = .ok (.getfield 162, 3) := by decide +kernel
theorem dX3_isOpen_75 : decode cX3_isOpen 75 = .ok (.iaload, 1) := by decide +kernel
theorem dX3_isOpen_76 : decode cX3_isOpen 76 = .ok (.aload_n 1, 1) := by decide +kernel
theorem dX3_isOpen_77 : decode cX3_isOpen 77 = .ok (.getfield 175, 3) := by decide +kernel
theorem dX3_isOpen_80 : decode cX3_isOpen 80 = .ok (.if_icmp .ne 7, 3) := by decide +kernel
theorem dX3_isOpen_83 : decode cX3_isOpen 83 = .ok (.iconst 1, 1) := by decide +kernel
theorem dX3_isOpen_84 : decode cX3_isOpen 84 = .ok (.goto 4, 3) := by decide +kernel
theorem dX3_isOpen_87 : decode cX3_isOpen 87 = .ok (.iconst 0, 1) := by decide +kernel
theorem dX3_isOpen_88 : decode cX3_isOpen 88 = .ok (.ireturn, 1) := by decide +kernel
theorem dX3_isOpen_89 : decode cX3_isOpen 89 = .ok (.iload_n 2, 1) := by decide +kernel
theorem dX3_isOpen_90 : decode cX3_isOpen 90 = .ok (.aload_n 1, 1) := by decide +kernel
theorem dX3_isOpen_91 : decode cX3_isOpen 91 = .ok (.getfield 162, 3) := by decide +kernel
theorem dX3_isOpen_94 : decode cX3_isOpen 94 = .ok (.invokestatic 89, 3) := by decide +kernel
theorem dX3_isOpen_97 : decode cX3_isOpen 97 = .ok (.ireturn, 1) := by decide +kernel
theorem dX3_isOpen_98 : decode cX3_isOpen 98 = .ok (.iconst 1, 1) := by decide +kernel
theorem dX3_isOpen_99 : decode cX3_isOpen 99 = .ok (.ireturn, 1) := by decide +kernel
theorem dX3_openBy_0 : decode cX3_openBy 0 = .ok (.aload_n 0, 1) := by decide +kernel
theorem dX3_openBy_1 : decode cX3_openBy 1 = .ok (.getfield 28, 3) := by decide +kernel
theorem dX3_openBy_4 : decode cX3_openBy 4 = .ok (.getfield 149, 3) := by decide +kernel
theorem dX3_openBy_7 : decode cX3_openBy 7 = .ok (.iload_n 1, 1) := by decide +kernel
theorem dX3_openBy_8 : decode cX3_openBy 8 = .ok (.iaload, 1) := by decide +kernel
theorem dX3_openBy_9 : decode cX3_openBy 9 = .ok (.istore_n 2, 1) := by decide +kernel
theorem dX3_openBy_10 : decode cX3_openBy 10 = .ok (.iload_n 2, 1) := by decide +kernel
theorem dX3_openBy_11 : decode cX3_openBy 11 = .ok (.ifCond .ne 5, 3) := by decide +kernel
theorem dX3_openBy_14 : decode cX3_openBy 14 = .ok (.iconst 0, 1) := by decide +kernel
theorem dX3_openBy_15 : decode cX3_openBy 15 = .ok (.ireturn, 1) := by decide +kernel
theorem dX3_openBy_16 : decode cX3_openBy 16 = .ok (.aload_n 0, 1) := by decide +kernel
theorem dX3_openBy_17 : decode cX3_openBy 17 = .ok (.getfield 28, 3) := by decide +kernel
theorem dX3_openBy_20 : decode cX3_openBy 20 = .ok (.aload_n 0, 1) := by decide +kernel
theorem dX3_openBy_21 : decode cX3_openBy 21 = .ok (.getfield 12, 3) := by decide +kernel
theorem dX3_openBy_24 : decode cX3_openBy 24 = .ok (.getfield 62, 3) := by decide +kernel
theorem dX3_openBy_27 : decode cX3_openBy 27 = .ok (.invokevirtual 152, 3) := by decide +kernel
theorem dX3_openBy_30 : decode cX3_openBy 30 = .ok (.istore_n 3, 1) := by decide +kernel
theorem dX3_openBy_31 : decode cX3_openBy 31 = .ok (.iconst 0, 1) := by decide +kernel
theorem dX3_openBy_32 : decode cX3_openBy 32 = .ok (.istore 4, 2) := by decide +kernel
theorem dX3_openBy_34 : decode cX3_openBy 34 = .ok (.iconst 0, 1) := by decide +kernel
theorem dX3_openBy_35 : decode cX3_openBy 35 = .ok (.istore 5, 2) := by decide +kernel
theorem dX3_openBy_37 : decode cX3_openBy 37 = .ok (.iload 5, 2) := by decide +kernel
theorem dX3_openBy_39 : decode cX3_openBy 39 = .ok (.aload_n 0, 1) := by decide +kernel
theorem dX3_openBy_40 : decode cX3_openBy 40 = .ok (.getfield 28, 3) := by decide +kernel
theorem dX3_openBy_43 : decode cX3_openBy 43 = .ok (.getfield 155, 3) := by decide +kernel
theorem dX3_openBy_46 : decode cX3_openBy 46 = .ok (.if_icmp .ge 46, 3) := by decide +kernel
theorem dX3_openBy_49 : decode cX3_openBy 49 = .ok (.iload_n 2, 1) := by decide +kernel
theorem dX3_openBy_50 : decode cX3_openBy 50 = .ok (.iload 5, 2) := by decide +kernel
theorem dX3_openBy_52 : decode cX3_openBy 52 = .ok (.invokestatic 89, 3) := by decide +kernel
theorem dX3_openBy_55 : decode cX3_openBy 55 = .ok (.ifCond .eq 31, 3) := by decide +kernel
theorem dX3_openBy_58 : decode cX3_openBy 58 = .ok (.aload_n 0, 1) := by decide +kernel
theorem dX3_openBy_59 : decode cX3_openBy 59 = .ok (.aload_n 0, 1) := by decide +kernel
theorem dX3_openBy_60 : decode cX3_openBy 60 = .ok (.getfield 28, 3) := by decide +kernel
theorem dX3_openBy_63 : decode cX3_openBy 63 = .ok (.getfield 106, 3) := by decide +kernel
theorem dX3_openBy_66 : decode cX3_openBy 66 = .ok (.iload 5, 2) := by decide +kernel
theorem dX3_openBy_68 : decode cX3_openBy 68 = .ok (.aaload, 1) := by decide +kernel
theorem dX3_openBy_69 : decode cX3_openBy 69 = .ok (.iload_n 3, 1) := by decide +kernel
theorem dX3_openBy_70 : decode cX3_openBy 70 = .ok (.invokevirtual 158, 3) := by decide +kernel
theorem dX3_openBy_73 : decode cX3_openBy 73 = .ok (.ifCond .eq 13, 3) := by decide +kernel
theorem dX3_openBy_76 : decode cX3_openBy 76 = .ok (.iload 4, 2) := by decide +kernel
theorem dX3_openBy_78 : decode cX3_openBy 78 = .ok (.iload 5, 2) := by decide +kernel
theorem dX3_openBy_80 : decode cX3_openBy 80 = .ok (.invokestatic 143, 3) := by decide +kernel
theorem dX3_openBy_83 : decode cX3_openBy 83 = .ok (.ior, 1) := by decide +kernel
theorem dX3_openBy_84 : decode cX3_openBy 84 = .ok (.istore 4, 2) := by decide +kernel
theorem dX3_openBy_86 : decode cX3_openBy 86 = .ok (.iinc 5 1, 3) := by decide +kernel
theorem dX3_openBy_89 : decode cX3_openBy 89 = .ok (.goto (-52), 3) := by decide +kernel
theorem dX3_openBy_92 : decode cX3_openBy 92 = .ok (.iload 4, 2) := by decide +kernel
theorem dX3_openBy_94 : decode cX3_openBy 94 = .ok (.ireturn, 1) := by decide +kernel
theorem dX3_smallestOf_0 : decode cX3_smallestOf 0 = .ok (.iload_n 0, 1) := by decide +kernel
theorem dX3_smallestOf_1 : decode cX3_smallestOf 1 = .ok (.iload_n 0, 1) := by decide +kernel
theorem dX3_smallestOf_2 : decode cX3_smallestOf 2 = .ok (.ineg, 1) := by decide +kernel
theorem dX3_smallestOf_3 : decode cX3_smallestOf 3 = .ok (.iand, 1) := by decide +kernel
theorem dX3_smallestOf_4 : decode cX3_smallestOf 4 = .ok (.iconst 1, 1) := by decide +kernel
theorem dX3_smallestOf_5 : decode cX3_smallestOf 5 = .ok (.isub, 1) := by decide +kernel
theorem dX3_smallestOf_6 : decode cX3_smallestOf 6 = .ok (.invokestatic 196, 3) := by decide +kernel
theorem dX3_smallestOf_9 : decode cX3_smallestOf 9 = .ok (.ireturn, 1) := by decide +kernel
theorem dX3_nearestOpen_0 : decode cX3_nearestOpen 0 = .ok (.iload_n 1, 1) := by decide +kernel
theorem dX3_nearestOpen_1 : decode cX3_nearestOpen 1 = .ok (.istore_n 3, 1) := by decide +kernel
theorem dX3_nearestOpen_2 : decode cX3_nearestOpen 2 = .ok (.iload_n 3, 1) := by decide +kernel
theorem dX3_nearestOpen_3 : decode cX3_nearestOpen 3 = .ok (.ifCond .lt 80, 3) := by decide +kernel
theorem dX3_nearestOpen_6 : decode cX3_nearestOpen 6 = .ok (.iload_n 3, 1) := by decide +kernel
theorem dX3_nearestOpen_7 : decode cX3_nearestOpen 7 = .ok (.iload_n 1, 1) := by decide +kernel
theorem dX3_nearestOpen_8 : decode cX3_nearestOpen 8 = .ok (.if_icmp .eq 22, 3) := by decide +kernel
theorem dX3_nearestOpen_11 : decode cX3_nearestOpen 11 = .ok (.aload_n 0, 1) := by decide +kernel
theorem dX3_nearestOpen_12 : decode cX3_nearestOpen 12 = .ok (.getfield 28, 3) := by decide +kernel
theorem dX3_nearestOpen_15 : decode cX3_nearestOpen 15 = .ok (.getfield 48, 3) := by decide +kernel
theorem dX3_nearestOpen_18 : decode cX3_nearestOpen 18 = .ok (.iload_n 3, 1) := by decide +kernel
theorem dX3_nearestOpen_19 : decode cX3_nearestOpen 19 = .ok (.aaload, 1) := by decide +kernel
theorem dX3_nearestOpen_20 : decode cX3_nearestOpen 20 = .ok (.getfield 187, 3) := by decide +kernel
theorem dX3_nearestOpen_23 : decode cX3_nearestOpen 23 = .ok (.iload_n 1, 1) := by decide +kernel
theorem dX3_nearestOpen_24 : decode cX3_nearestOpen 24 = .ok (.invokestatic 89, 3) := by decide +kernel
theorem dX3_nearestOpen_27 : decode cX3_nearestOpen 27 = .ok (.ifCond .eq 7, 3) := by decide +kernel
theorem dX3_nearestOpen_30 : decode cX3_nearestOpen 30 = .ok (.iconst 1, 1) := by decide +kernel
theorem dX3_nearestOpen_31 : decode cX3_nearestOpen 31 = .ok (.goto 4, 3) := by decide +kernel
theorem dX3_nearestOpen_34 : decode cX3_nearestOpen 34 = .ok (.iconst 0, 1) := by decide +kernel
theorem dX3_nearestOpen_35 : decode cX3_nearestOpen 35 = .ok (.istore 4, 2) := by decide +kernel
theorem dX3_nearestOpen_37 : decode cX3_nearestOpen 37 = .ok (.iload 4, 2) := by decide +kernel
theorem dX3_nearestOpen_39 : decode cX3_nearestOpen 39 = .ok (.ifCond .eq 38, 3) := by decide +kernel
theorem dX3_nearestOpen_42 : decode cX3_nearestOpen 42 = .ok (.aload_n 0, 1) := by decide +kernel
theorem dX3_nearestOpen_43 : decode cX3_nearestOpen 43 = .ok (.getfield 28, 3) := by decide +kernel
theorem dX3_nearestOpen_46 : decode cX3_nearestOpen 46 = .ok (.getfield 48, 3) := by decide +kernel
theorem dX3_nearestOpen_49 : decode cX3_nearestOpen 49 = .ok (.iload_n 3, 1) := by decide +kernel
theorem dX3_nearestOpen_50 : decode cX3_nearestOpen 50 = .ok (.aaload, 1) := by decide +kernel
theorem dX3_nearestOpen_51 : decode cX3_nearestOpen 51 = .ok (.getfield 190, 3) := by decide +kernel
theorem dX3_nearestOpen_54 : decode cX3_nearestOpen 54 = .ok (.iload_n 2, 1) := by decide +kernel
theorem dX3_nearestOpen_55 : decode cX3_nearestOpen 55 = .ok (.iand, 1) := by decide +kernel
theorem dX3_nearestOpen_56 : decode cX3_nearestOpen 56 = .ok (.ifCond .eq 21, 3) := by decide +kernel
theorem dX3_nearestOpen_59 : decode cX3_nearestOpen 59 = .ok (.aload_n 0, 1) := by decide +kernel
theorem dX3_nearestOpen_60 : decode cX3_nearestOpen 60 = .ok (.getfield 28, 3) := by decide +kernel
theorem dX3_nearestOpen_63 : decode cX3_nearestOpen 63 = .ok (.getfield 48, 3) := by decide +kernel
theorem dX3_nearestOpen_66 : decode cX3_nearestOpen 66 = .ok (.iload_n 3, 1) := by decide +kernel
theorem dX3_nearestOpen_67 : decode cX3_nearestOpen 67 = .ok (.aaload, 1) := by decide +kernel
theorem dX3_nearestOpen_68 : decode cX3_nearestOpen 68 = .ok (.getfield 190, 3) := by decide +kernel
theorem dX3_nearestOpen_71 : decode cX3_nearestOpen 71 = .ok (.iload_n 2, 1) := by decide +kernel
theorem dX3_nearestOpen_72 : decode cX3_nearestOpen 72 = .ok (.iand, 1) := by decide +kernel
theorem dX3_nearestOpen_73 : decode cX3_nearestOpen 73 = .ok (.invokestatic 193, 3) := by decide +kernel
theorem dX3_nearestOpen_76 : decode cX3_nearestOpen 76 = .ok (.ireturn, 1) := by decide +kernel
theorem dX3_nearestOpen_77 : decode cX3_nearestOpen 77 = .ok (.iinc 3 (-1), 3) := by decide +kernel
theorem dX3_nearestOpen_80 : decode cX3_nearestOpen 80 = .ok (.goto (-78), 3) := by decide +kernel
theorem dX3_nearestOpen_83 : decode cX3_nearestOpen 83 = .ok (.iconst (-1), 1) := by decide +kernel
theorem dX3_nearestOpen_84 : decode cX3_nearestOpen 84 = .ok (.ireturn, 1) := by decide +kernel
theorem dX3_leftBy_0 : decode cX3_leftBy 0 = .ok (.aload_n 1, 1) := by decide +kernel
theorem dX3_leftBy_1 : decode cX3_leftBy 1 = .ok (.getfield 130, 3) := by decide +kernel
theorem dX3_leftBy_4 : decode cX3_leftBy 4 = .ok (.iconst (-1), 1) := by decide +kernel
theorem dX3_leftBy_5 : decode cX3_leftBy 5 = .ok (.if_icmp .ne 7, 3) := by decide +kernel
theorem dX3_leftBy_8 : decode cX3_leftBy 8 = .ok (.iconst 0, 1) := by decide +kernel
theorem dX3_leftBy_9 : decode cX3_leftBy 9 = .ok (.goto 26, 3) := by decide +kernel
theorem dX3_leftBy_12 : decode cX3_leftBy 12 = .ok (.aload_n 0, 1) := by decide +kernel
theorem dX3_leftBy_13 : decode cX3_leftBy 13 = .ok (.getfield 28, 3) := by decide +kernel
theorem dX3_leftBy_16 : decode cX3_leftBy 16 = .ok (.getfield 48, 3) := by decide +kernel
theorem dX3_leftBy_19 : decode cX3_leftBy 19 = .ok (.aload_n 1, 1) := by decide +kernel
theorem dX3_leftBy_20 : decode cX3_leftBy 20 = .ok (.getfield 136, 3) := by decide +kernel
theorem dX3_leftBy_23 : decode cX3_leftBy 23 = .ok (.aaload, 1) := by decide +kernel
theorem dX3_leftBy_24 : decode cX3_leftBy 24 = .ok (.getfield 187, 3) := by decide +kernel
theorem dX3_leftBy_27 : decode cX3_leftBy 27 = .ok (.aload_n 0, 1) := by decide +kernel
theorem dX3_leftBy_28 : decode cX3_leftBy 28 = .ok (.getfield 12, 3) := by decide +kernel
theorem dX3_leftBy_31 : decode cX3_leftBy 31 = .ok (.getfield 62, 3) := by decide +kernel
theorem dX3_leftBy_34 : decode cX3_leftBy 34 = .ok (.iand, 1) := by decide +kernel
theorem dX3_leftBy_35 : decode cX3_leftBy 35 = .ok (.ireturn, 1) := by decide +kernel
theorem dX3_takeIfFree_0 : decode cX3_takeIfFree 0 = .ok (.aload_n 0, 1) := by decide +kernel
theorem dX3_takeIfFree_1 : decode cX3_takeIfFree 1 = .ok (.getfield 28, 3) := by decide +kernel
theorem dX3_takeIfFree_4 : decode cX3_takeIfFree 4 = .ok (.getfield 106, 3) := by decide +kernel
theorem dX3_takeIfFree_7 : decode cX3_takeIfFree 7 = .ok (.iload_n 1, 1) := by decide +kernel
theorem dX3_takeIfFree_8 : decode cX3_takeIfFree 8 = .ok (.aaload, 1) := by decide +kernel
theorem dX3_takeIfFree_9 : decode cX3_takeIfFree 9 = .ok (.astore_n 2, 1) := by decide +kernel
theorem dX3_takeIfFree_10 : decode cX3_takeIfFree 10 = .ok (.aload_n 0, 1) := by decide +kernel
theorem dX3_takeIfFree_11 : decode cX3_takeIfFree 11 = .ok (.aload_n 2, 1) := by decide +kernel
theorem dX3_takeIfFree_12 : decode cX3_takeIfFree 12 = .ok (.invokevirtual 110, 3) := by decide +kernel
theorem dX3_takeIfFree_15 : decode cX3_takeIfFree 15 = .ok (.istore_n 3, 1) := by decide +kernel
theorem dX3_takeIfFree_16 : decode cX3_takeIfFree 16 = .ok (.iconst 0, 1) := by decide +kernel
theorem dX3_takeIfFree_17 : decode cX3_takeIfFree 17 = .ok (.istore 4, 2) := by decide +kernel
theorem dX3_takeIfFree_19 : decode cX3_takeIfFree 19 = .ok (.iload 4, 2) := by decide +kernel
theorem dX3_takeIfFree_21 : decode cX3_takeIfFree 21 = .ok (.aload_n 0, 1) := by decide +kernel
theorem dX3_takeIfFree_22 : decode cX3_takeIfFree 22 = .ok (.getfield 103, 3) := by decide +kernel
theorem dX3_takeIfFree_25 : decode cX3_takeIfFree 25 = .ok (.if_icmp .ge 64, 3) := by decide +kernel
theorem dX3_takeIfFree_28 : decode cX3_takeIfFree 28 = .ok (.aload_n 0, 1) := by decide +kernel
theorem dX3_takeIfFree_29 : decode cX3_takeIfFree 29 = .ok (.getfield 28, 3) := by decide +kernel
theorem dX3_takeIfFree_32 : decode cX3_takeIfFree 32 = .ok (.getfield 106, 3) := by decide +kernel
theorem dX3_takeIfFree_35 : decode cX3_takeIfFree 35 = .ok (.aload_n 0, 1) := by decide +kernel
theorem dX3_takeIfFree_36 : decode cX3_takeIfFree 36 = .ok (.getfield 25, 3) := by decide +kernel
theorem dX3_takeIfFree_39 : decode cX3_takeIfFree 39 = .ok (.iload 4, 2) := by decide +kernel
theorem dX3_takeIfFree_41 : decode cX3_takeIfFree 41 = .ok (.iaload, 1) := by decide +kernel
theorem dX3_takeIfFree_42 : decode cX3_takeIfFree 42 = .ok (.aaload, 1) := by decide +kernel
theorem dX3_takeIfFree_43 : decode cX3_takeIfFree 43 = .ok (.astore 5, 2) := by decide +kernel
theorem dX3_takeIfFree_45 : decode cX3_takeIfFree 45 = .ok (.aload_n 0, 1) := by decide +kernel
theorem dX3_takeIfFree_46 : decode cX3_takeIfFree 46 = .ok (.aload 5, 2) := by decide +kernel
theorem dX3_takeIfFree_48 : decode cX3_takeIfFree 48 = .ok (.invokevirtual 110, 3) := by decide +kernel
theorem dX3_takeIfFree_51 : decode cX3_takeIfFree 51 = .ok (.iload_n 3, 1) := by decide +kernel
theorem dX3_takeIfFree_52 : decode cX3_takeIfFree 52 = .ok (.iand, 1) := by decide +kernel
theorem dX3_takeIfFree_53 : decode cX3_takeIfFree 53 = .ok (.ifCond .eq 30, 3) := by decide +kernel
theorem dX3_takeIfFree_56 : decode cX3_takeIfFree 56 = .ok (.aload_n 0, 1) := by decide +kernel
theorem dX3_takeIfFree_57 : decode cX3_takeIfFree 57 = .ok (.getfield 28, 3) := by decide +kernel
theorem dX3_takeIfFree_60 : decode cX3_takeIfFree 60 = .ok (.getfield 48, 3) := by decide +kernel
theorem dX3_takeIfFree_63 : decode cX3_takeIfFree 63 = .ok (.aload 5, 2) := by decide +kernel
theorem dX3_takeIfFree_65 : decode cX3_takeIfFree 65 = .ok (.getfield 162, 3) := by decide +kernel
theorem dX3_takeIfFree_68 : decode cX3_takeIfFree 68 = .ok (.aaload, 1) := by decide +kernel
theorem dX3_takeIfFree_69 : decode cX3_takeIfFree 69 = .ok (.getfield 187, 3) := by decide +kernel
theorem dX3_takeIfFree_72 : decode cX3_takeIfFree 72 = .ok (.aload_n 2, 1) := by decide +kernel
theorem dX3_takeIfFree_73 : decode cX3_takeIfFree 73 = .ok (.getfield 162, 3) := by decide +kernel
theorem dX3_takeIfFree_76 : decode cX3_takeIfFree 76 = .ok (.invokestatic 89, 3) := by decide +kernel
theorem dX3_takeIfFree_79 : decode cX3_takeIfFree 79 = .ok (.ifCond .ne 4, 3) := by decide +kernel
theorem dX3_takeIfFree_82 : decode cX3_takeIfFree 82 = .ok (.return_, 1) := by decide +kernel
theorem dX3_takeIfFree_83 : decode cX3_takeIfFree 83 = .ok (.iinc 4 1, 3) := by decide +kernel
theorem dX3_takeIfFree_86 : decode cX3_takeIfFree 86 = .ok (.goto (-67), 3) := by decide +kernel
theorem dX3_takeIfFree_89 : decode cX3_takeIfFree 89 = .ok (.iconst 0, 1) := by decide +kernel
theorem dX3_takeIfFree_90 : decode cX3_takeIfFree 90 = .ok (.istore 4, 2) := by decide +kernel
theorem dX3_takeIfFree_92 : decode cX3_takeIfFree 92 = .ok (.iconst 0, 1) := by decide +kernel
theorem dX3_takeIfFree_93 : decode cX3_takeIfFree 93 = .ok (.istore 5, 2) := by decide +kernel
theorem dX3_takeIfFree_95 : decode cX3_takeIfFree 95 = .ok (.iload 5, 2) := by decide +kernel
theorem dX3_takeIfFree_97 : decode cX3_takeIfFree 97 = .ok (.aload_n 0, 1) := by decide +kernel
theorem dX3_takeIfFree_98 : decode cX3_takeIfFree 98 = .ok (.getfield 103, 3) := by decide +kernel
theorem dX3_takeIfFree_101 : decode cX3_takeIfFree 101 = .ok (.if_icmp .ge 50, 3) := by decide +kernel
theorem dX3_takeIfFree_104 : decode cX3_takeIfFree 104 = .ok (.aload_n 0, 1) := by decide +kernel
theorem dX3_takeIfFree_105 : decode cX3_takeIfFree 105 = .ok (.aload_n 0, 1) := by decide +kernel
theorem dX3_takeIfFree_106 : decode cX3_takeIfFree 106 = .ok (.getfield 28, 3) := by decide +kernel
theorem dX3_takeIfFree_109 : decode cX3_takeIfFree 109 = .ok (.getfield 106, 3) := by decide +kernel
theorem dX3_takeIfFree_112 : decode cX3_takeIfFree 112 = .ok (.aload_n 0, 1) := by decide +kernel
theorem dX3_takeIfFree_113 : decode cX3_takeIfFree 113 = .ok (.getfield 25, 3) := by decide +kernel
theorem dX3_takeIfFree_116 : decode cX3_takeIfFree 116 = .ok (.iload 5, 2) := by decide +kernel
theorem dX3_takeIfFree_118 : decode cX3_takeIfFree 118 = .ok (.iaload, 1) := by decide +kernel
theorem dX3_takeIfFree_119 : decode cX3_takeIfFree 119 = .ok (.aaload, 1) := by decide +kernel
theorem dX3_takeIfFree_120 : decode cX3_takeIfFree 120 = .ok (.invokevirtual 110, 3) := by decide +kernel
theorem dX3_takeIfFree_123 : decode cX3_takeIfFree 123 = .ok (.iload_n 3, 1) := by decide +kernel
theorem dX3_takeIfFree_124 : decode cX3_takeIfFree 124 = .ok (.iand, 1) := by decide +kernel
theorem dX3_takeIfFree_125 : decode cX3_takeIfFree 125 = .ok (.ifCond .ne 20, 3) := by decide +kernel
theorem dX3_takeIfFree_128 : decode cX3_takeIfFree 128 = .ok (.aload_n 0, 1) := by decide +kernel
theorem dX3_takeIfFree_129 : decode cX3_takeIfFree 129 = .ok (.getfield 25, 3) := by decide +kernel
theorem dX3_takeIfFree_132 : decode cX3_takeIfFree 132 = .ok (.iload 4, 2) := by decide +kernel
theorem dX3_takeIfFree_134 : decode cX3_takeIfFree 134 = .ok (.aload_n 0, 1) := by decide +kernel
theorem dX3_takeIfFree_135 : decode cX3_takeIfFree 135 = .ok (.getfield 25, 3) := by decide +kernel
theorem dX3_takeIfFree_138 : decode cX3_takeIfFree 138 = .ok (.iload 5, 2) := by decide +kernel
theorem dX3_takeIfFree_140 : decode cX3_takeIfFree 140 = .ok (.iaload, 1) := by decide +kernel
theorem dX3_takeIfFree_141 : decode cX3_takeIfFree 141 = .ok (.iastore, 1) := by decide +kernel
theorem dX3_takeIfFree_142 : decode cX3_takeIfFree 142 = .ok (.iinc 4 1, 3) := by decide +kernel
theorem dX3_takeIfFree_145 : decode cX3_takeIfFree 145 = .ok (.iinc 5 1, 3) := by decide +kernel
theorem dX3_takeIfFree_148 : decode cX3_takeIfFree 148 = .ok (.goto (-53), 3) := by decide +kernel
theorem dX3_takeIfFree_151 : decode cX3_takeIfFree 151 = .ok (.aload_n 0, 1) := by decide +kernel
theorem dX3_takeIfFree_152 : decode cX3_takeIfFree 152 = .ok (.getfield 25, 3) := by decide +kernel
theorem dX3_takeIfFree_155 : decode cX3_takeIfFree 155 = .ok (.iload 4, 2) := by decide +kernel
theorem dX3_takeIfFree_157 : decode cX3_takeIfFree 157 = .ok (.iload_n 1, 1) := by decide +kernel
theorem dX3_takeIfFree_158 : decode cX3_takeIfFree 158 = .ok (.iastore, 1) := by decide +kernel
theorem dX3_takeIfFree_159 : decode cX3_takeIfFree 159 = .ok (.aload_n 0, 1) := by decide +kernel
theorem dX3_takeIfFree_160 : decode cX3_takeIfFree 160 = .ok (.iload 4, 2) := by decide +kernel
theorem dX3_takeIfFree_162 : decode cX3_takeIfFree 162 = .ok (.iconst 1, 1) := by decide +kernel
theorem dX3_takeIfFree_163 : decode cX3_takeIfFree 163 = .ok (.iadd, 1) := by decide +kernel
theorem dX3_takeIfFree_164 : decode cX3_takeIfFree 164 = .ok (.putfield 103, 3) := by decide +kernel
theorem dX3_takeIfFree_167 : decode cX3_takeIfFree 167 = .ok (.return_, 1) := by decide +kernel
theorem dX3_choose_0 : decode cX3_choose 0 = .ok (.aload_n 0, 1) := by decide +kernel
theorem dX3_choose_1 : decode cX3_choose 1 = .ok (.iconst 0, 1) := by decide +kernel
theorem dX3_choose_2 : decode cX3_choose 2 = .ok (.putfield 103, 3) := by decide +kernel
theorem dX3_choose_5 : decode cX3_choose 5 = .ok (.iconst 0, 1) := by decide +kernel
theorem dX3_choose_6 : decode cX3_choose 6 = .ok (.istore_n 2, 1) := by decide +kernel
theorem dX3_choose_7 : decode cX3_choose 7 = .ok (.aload_n 0, 1) := by decide +kernel
theorem dX3_choose_8 : decode cX3_choose 8 = .ok (.getfield 28, 3) := by decide +kernel
theorem dX3_choose_11 : decode cX3_choose 11 = .ok (.getfield 178, 3) := by decide +kernel
theorem dX3_choose_14 : decode cX3_choose 14 = .ok (.aload_n 0, 1) := by decide +kernel
theorem dX3_choose_15 : decode cX3_choose 15 = .ok (.getfield 12, 3) := by decide +kernel
theorem dX3_choose_18 : decode cX3_choose 18 = .ok (.getfield 62, 3) := by decide +kernel
theorem dX3_choose_21 : decode cX3_choose 21 = .ok (.iand, 1) := by decide +kernel
theorem dX3_choose_22 : decode cX3_choose 22 = .ok (.istore_n 3, 1) := by decide +kernel
theorem dX3_choose_23 : decode cX3_choose 23 = .ok (.iconst 0, 1) := by decide +kernel
theorem dX3_choose_24 : decode cX3_choose 24 = .ok (.istore 4, 2) := by decide +kernel
theorem dX3_choose_26 : decode cX3_choose 26 = .ok (.iload 4, 2) := by decide +kernel
theorem dX3_choose_28 : decode cX3_choose 28 = .ok (.aload_n 0, 1) := by decide +kernel
theorem dX3_choose_29 : decode cX3_choose 29 = .ok (.getfield 28, 3) := by decide +kernel
theorem dX3_choose_32 : decode cX3_choose 32 = .ok (.getfield 86, 3) := by decide +kernel
theorem dX3_choose_35 : decode cX3_choose 35 = .ok (.if_icmp .ge 60, 3) := by decide +kernel
theorem dX3_choose_38 : decode cX3_choose 38 = .ok (.iload_n 3, 1) := by decide +kernel
theorem dX3_choose_39 : decode cX3_choose 39 = .ok (.iload 4, 2) := by decide +kernel
theorem dX3_choose_41 : decode cX3_choose 41 = .ok (.invokestatic 89, 3) := by decide +kernel
theorem dX3_choose_44 : decode cX3_choose 44 = .ok (.ifCond .eq 13, 3) := by decide +kernel
theorem dX3_choose_47 : decode cX3_choose 47 = .ok (.aload_n 0, 1) := by decide +kernel
theorem dX3_choose_48 : decode cX3_choose 48 = .ok (.iload 4, 2) := by decide +kernel
theorem dX3_choose_50 : decode cX3_choose 50 = .ok (.iload_n 1, 1) := by decide +kernel
theorem dX3_choose_51 : decode cX3_choose 51 = .ok (.invokevirtual 181, 3) := by decide +kernel
theorem dX3_choose_54 : decode cX3_choose 54 = .ok (.goto 4, 3) := by decide +kernel
theorem dX3_choose_57 : decode cX3_choose 57 = .ok (.iconst (-1), 1) := by decide +kernel
theorem dX3_choose_58 : decode cX3_choose 58 = .ok (.istore 5, 2) := by decide +kernel
theorem dX3_choose_60 : decode cX3_choose 60 = .ok (.iload 5, 2) := by decide +kernel
theorem dX3_choose_62 : decode cX3_choose 62 = .ok (.iconst (-1), 1) := by decide +kernel
theorem dX3_choose_63 : decode cX3_choose 63 = .ok (.if_icmp .eq 26, 3) := by decide +kernel
theorem dX3_choose_66 : decode cX3_choose 66 = .ok (.iload_n 2, 1) := by decide +kernel
theorem dX3_choose_67 : decode cX3_choose 67 = .ok (.iload 5, 2) := by decide +kernel
theorem dX3_choose_69 : decode cX3_choose 69 = .ok (.invokestatic 89, 3) := by decide +kernel
theorem dX3_choose_72 : decode cX3_choose 72 = .ok (.ifCond .ne 17, 3) := by decide +kernel
theorem dX3_choose_75 : decode cX3_choose 75 = .ok (.iload_n 2, 1) := by decide +kernel
theorem dX3_choose_76 : decode cX3_choose 76 = .ok (.iload 5, 2) := by decide +kernel
theorem dX3_choose_78 : decode cX3_choose 78 = .ok (.invokestatic 143, 3) := by decide +kernel
theorem dX3_choose_81 : decode cX3_choose 81 = .ok (.ior, 1) := by decide +kernel
theorem dX3_choose_82 : decode cX3_choose 82 = .ok (.istore_n 2, 1) := by decide +kernel
theorem dX3_choose_83 : decode cX3_choose 83 = .ok (.aload_n 0, 1) := by decide +kernel
theorem dX3_choose_84 : decode cX3_choose 84 = .ok (.iload 5, 2) := by decide +kernel
theorem dX3_choose_86 : decode cX3_choose 86 = .ok (.invokevirtual 184, 3) := by decide +kernel
theorem dX3_choose_89 : decode cX3_choose 89 = .ok (.iinc 4 1, 3) := by decide +kernel
theorem dX3_choose_92 : decode cX3_choose 92 = .ok (.goto (-66), 3) := by decide +kernel
theorem dX3_choose_95 : decode cX3_choose 95 = .ok (.return_, 1) := by decide +kernel
theorem dX3_makeRecords_0 : decode cX3_makeRecords 0 = .ok (.iconst 0, 1) := by decide +kernel
theorem dX3_makeRecords_1 : decode cX3_makeRecords 1 = .ok (.istore_n 2, 1) := by decide +kernel
theorem dX3_makeRecords_2 : decode cX3_makeRecords 2 = .ok (.iload_n 2, 1) := by decide +kernel
theorem dX3_makeRecords_3 : decode cX3_makeRecords 3 = .ok (.aload_n 0, 1) := by decide +kernel
theorem dX3_makeRecords_4 : decode cX3_makeRecords 4 = .ok (.getfield 28, 3) := by decide +kernel
theorem dX3_makeRecords_7 : decode cX3_makeRecords 7 = .ok (.getfield 86, 3) := by decide +kernel
theorem dX3_makeRecords_10 : decode cX3_makeRecords 10 = .ok (.if_icmp .ge 101, 3) := by decide +kernel
theorem dX3_makeRecords_13 : decode cX3_makeRecords 13 = .ok (.aload_n 0, 1) := by decide +kernel
theorem dX3_makeRecords_14 : decode cX3_makeRecords 14 = .ok (.getfield 28, 3) := by decide +kernel
theorem dX3_makeRecords_17 : decode cX3_makeRecords 17 = .ok (.getfield 48, 3) := by decide +kernel
theorem dX3_makeRecords_20 : decode cX3_makeRecords 20 = .ok (.iload_n 2, 1) := by decide +kernel
theorem dX3_makeRecords_21 : decode cX3_makeRecords 21 = .ok (.aaload, 1) := by decide +kernel
theorem dX3_makeRecords_22 : decode cX3_makeRecords 22 = .ok (.astore_n 3, 1) := by decide +kernel
theorem dX3_makeRecords_23 : decode cX3_makeRecords 23 = .ok (.aload_n 3, 1) := by decide +kernel
theorem dX3_makeRecords_24 : decode cX3_makeRecords 24 = .ok (.invokevirtual 201, 3) := by decide +kernel
theorem dX3_makeRecords_27 : decode cX3_makeRecords 27 = .ok (.ifCond .eq 78, 3) := by decide +kernel
theorem dX3_makeRecords_30 : decode cX3_makeRecords 30 = .ok (.iload_n 1, 1) := by decide +kernel
theorem dX3_makeRecords_31 : decode cX3_makeRecords 31 = .ok (.aload_n 3, 1) := by decide +kernel
theorem dX3_makeRecords_32 : decode cX3_makeRecords 32 = .ok (.getfield 204, 3) := by decide +kernel
theorem dX3_makeRecords_35 : decode cX3_makeRecords 35 = .ok (.invokestatic 89, 3) := by decide +kernel
theorem dX3_makeRecords_38 : decode cX3_makeRecords 38 = .ok (.ifCond .eq 67, 3) := by decide +kernel
theorem dX3_makeRecords_41 : decode cX3_makeRecords 41 = .ok (.aload_n 0, 1) := by decide +kernel
theorem dX3_makeRecords_42 : decode cX3_makeRecords 42 = .ok (.getfield 28, 3) := by decide +kernel
theorem dX3_makeRecords_45 : decode cX3_makeRecords 45 = .ok (.getfield 48, 3) := by decide +kernel
theorem dX3_makeRecords_48 : decode cX3_makeRecords 48 = .ok (.aload_n 3, 1) := by decide +kernel
theorem dX3_makeRecords_49 : decode cX3_makeRecords 49 = .ok (.getfield 204, 3) := by decide +kernel
theorem dX3_makeRecords_52 : decode cX3_makeRecords 52 = .ok (.aaload, 1) := by decide +kernel
theorem dX3_makeRecords_53 : decode cX3_makeRecords 53 = .ok (.astore 4, 2) := by decide +kernel
theorem dX3_makeRecords_55 : decode cX3_makeRecords 55 = .ok (.aload_n 3, 1) := by decide +kernel
theorem dX3_makeRecords_56 : decode cX3_makeRecords 56 = .ok (.getfield 207, 3) := by decide +kernel
theorem dX3_makeRecords_59 : decode cX3_makeRecords 59 = .ok (.iconst 3, 1) := by decide +kernel
theorem dX3_makeRecords_60 : decode cX3_makeRecords 60 = .ok (.if_icmp .ne 11, 3) := by decide +kernel
theorem dX3_makeRecords_63 : decode cX3_makeRecords 63 = .ok (.aload 4, 2) := by decide +kernel
theorem dX3_makeRecords_65 : decode cX3_makeRecords 65 = .ok (.getfield 54, 3) := by decide +kernel
theorem dX3_makeRecords_68 : decode cX3_makeRecords 68 = .ok (.goto 16, 3) := by decide +kernel
theorem dX3_makeRecords_71 : decode cX3_makeRecords 71 = .ok (.aload 4, 2) := by decide +kernel
theorem dX3_makeRecords_73 : decode cX3_makeRecords 73 = .ok (.getfield 187, 3) := by decide +kernel
theorem dX3_makeRecords_76 : decode cX3_makeRecords 76 = .ok (.aload_n 0, 1) := by decide +kernel
theorem dX3_makeRecords_77 : decode cX3_makeRecords 77 = .ok (.getfield 28, 3) := by decide +kernel
theorem dX3_makeRecords_80 : decode cX3_makeRecords 80 = .ok (.getfield 178, 3) := by decide +kernel
theorem dX3_makeRecords_83 : decode cX3_makeRecords 83 = .ok (.iand, 1) := by decide +kernel
theorem dX3_makeRecords_84 : decode cX3_makeRecords 84 = .ok (.istore 5, 2) := by decide +kernel
theorem dX3_makeRecords_86 : decode cX3_makeRecords 86 = .ok (.aload_n 0, 1) := by decide +kernel
theorem dX3_makeRecords_87 : decode cX3_makeRecords 87 = .ok (.getfield 12, 3) := by decide +kernel
theorem dX3_makeRecords_90 : decode cX3_makeRecords 90 = .ok (.getfield 210, 3) := by decide +kernel
theorem dX3_makeRecords_93 : decode cX3_makeRecords 93 = .ok (.iload_n 2, 1) := by decide +kernel
theorem dX3_makeRecords_94 : decode cX3_makeRecords 94 = .ok (.iload 5, 2) := by decide +kernel
theorem dX3_makeRecords_96 : decode cX3_makeRecords 96 = .ok (.aload_n 0, 1) := by decide +kernel
theorem dX3_makeRecords_97 : decode cX3_makeRecords 97 = .ok (.getfield 12, 3) := by decide +kernel
theorem dX3_makeRecords_100 : decode cX3_makeRecords 100 = .ok (.getfield 62, 3) := by decide +kernel
theorem dX3_makeRecords_103 : decode cX3_makeRecords 103 = .ok (.iand, 1) := by decide +kernel
theorem dX3_makeRecords_104 : decode cX3_makeRecords 104 = .ok (.iastore, 1) := by decide +kernel
theorem dX3_makeRecords_105 : decode cX3_makeRecords 105 = .ok (.iinc 2 1, 3) := by decide +kernel
theorem dX3_makeRecords_108 : decode cX3_makeRecords 108 = .ok (.goto (-106), 3) := by decide +kernel
theorem dX3_makeRecords_111 : decode cX3_makeRecords 111 = .ok (.return_, 1) := by decide +kernel
theorem dX3_act_0 : decode cX3_act 0 = .ok (.aload_n 1, 1) := by decide +kernel
theorem dX3_act_1 : decode cX3_act 1 = .ok (.getfield 222, 3) := by decide +kernel
theorem dX3_act_4 : decode cX3_act 4 = .ok (.tableswitch 76 1 3 #[28, 47, 65], 28) := by decide +kernel
theorem dX3_act_32 : decode cX3_act 32 = .ok (.aload_n 0, 1) := by decide +kernel
theorem dX3_act_33 : decode cX3_act 33 = .ok (.getfield 12, 3) := by decide +kernel
theorem dX3_act_36 : decode cX3_act 36 = .ok (.getfield 165, 3) := by decide +kernel
theorem dX3_act_39 : decode cX3_act 39 = .ok (.aload_n 1, 1) := by decide +kernel
theorem dX3_act_40 : decode cX3_act 40 = .ok (.getfield 227, 3) := by decide +kernel
theorem dX3_act_43 : decode cX3_act 43 = .ok (.aload_n 1, 1) := by decide +kernel
theorem dX3_act_44 : decode cX3_act 44 = .ok (.getfield 230, 3) := by decide +kernel
theorem dX3_act_47 : decode cX3_act 47 = .ok (.iastore, 1) := by decide +kernel
theorem dX3_act_48 : decode cX3_act 48 = .ok (.goto 32, 3) := by decide +kernel
theorem dX3_act_51 : decode cX3_act 51 = .ok (.aload_n 0, 1) := by decide +kernel
theorem dX3_act_52 : decode cX3_act 52 = .ok (.getfield 12, 3) := by decide +kernel
theorem dX3_act_55 : decode cX3_act 55 = .ok (.aload_n 1, 1) := by decide +kernel
theorem dX3_act_56 : decode cX3_act 56 = .ok (.getfield 227, 3) := by decide +kernel
theorem dX3_act_59 : decode cX3_act 59 = .ok (.aload_n 1, 1) := by decide +kernel
theorem dX3_act_60 : decode cX3_act 60 = .ok (.getfield 230, 3) := by decide +kernel
theorem dX3_act_63 : decode cX3_act 63 = .ok (.invokevirtual 231, 3) := by decide +kernel
theorem dX3_act_66 : decode cX3_act 66 = .ok (.goto 14, 3) := by decide +kernel
theorem dX3_act_69 : decode cX3_act 69 = .ok (.aload_n 0, 1) := by decide +kernel
theorem dX3_act_70 : decode cX3_act 70 = .ok (.aload_n 1, 1) := by decide +kernel
theorem dX3_act_71 : decode cX3_act 71 = .ok (.getfield 227, 3) := by decide +kernel
theorem dX3_act_74 : decode cX3_act 74 = .ok (.invokevirtual 235, 3) := by decide +kernel
theorem dX3_act_77 : decode cX3_act 77 = .ok (.goto 3, 3) := by decide +kernel
theorem dX3_act_80 : decode cX3_act 80 = .ok (.return_, 1) := by decide +kernel
theorem dX3_leave_0 : decode cX3_leave 0 = .ok (.aload_n 0, 1) := by decide +kernel
theorem dX3_leave_1 : decode cX3_leave 1 = .ok (.getfield 28, 3) := by decide +kernel
theorem dX3_leave_4 : decode cX3_leave 4 = .ok (.getfield 86, 3) := by decide +kernel
theorem dX3_leave_7 : decode cX3_leave 7 = .ok (.iconst 1, 1) := by decide +kernel
theorem dX3_leave_8 : decode cX3_leave 8 = .ok (.isub, 1) := by decide +kernel
theorem dX3_leave_9 : decode cX3_leave 9 = .ok (.istore_n 2, 1) := by decide +kernel
theorem dX3_leave_10 : decode cX3_leave 10 = .ok (.iload_n 2, 1) := by decide +kernel
theorem dX3_leave_11 : decode cX3_leave 11 = .ok (.ifCond .lt 61, 3) := by decide +kernel
theorem dX3_leave_14 : decode cX3_leave 14 = .ok (.iload_n 1, 1) := by decide +kernel
theorem dX3_leave_15 : decode cX3_leave 15 = .ok (.iload_n 2, 1) := by decide +kernel
theorem dX3_leave_16 : decode cX3_leave 16 = .ok (.invokestatic 89, 3) := by decide +kernel
theorem dX3_leave_19 : decode cX3_leave 19 = .ok (.ifCond .eq 47, 3) := by decide +kernel
theorem dX3_leave_22 : decode cX3_leave 22 = .ok (.aload_n 0, 1) := by decide +kernel
theorem dX3_leave_23 : decode cX3_leave 23 = .ok (.getfield 12, 3) := by decide +kernel
theorem dX3_leave_26 : decode cX3_leave 26 = .ok (.dup, 1) := by decide +kernel
theorem dX3_leave_27 : decode cX3_leave 27 = .ok (.getfield 62, 3) := by decide +kernel
theorem dX3_leave_30 : decode cX3_leave 30 = .ok (.iload_n 2, 1) := by decide +kernel
theorem dX3_leave_31 : decode cX3_leave 31 = .ok (.invokestatic 143, 3) := by decide +kernel
theorem dX3_leave_34 : decode cX3_leave 34 = .ok (.iconst (-1), 1) := by decide +kernel
theorem dX3_leave_35 : decode cX3_leave 35 = .ok (.ixor, 1) := by decide +kernel
theorem dX3_leave_36 : decode cX3_leave 36 = .ok (.iand, 1) := by decide +kernel
theorem dX3_leave_37 : decode cX3_leave 37 = .ok (.putfield 62, 3) := by decide +kernel
theorem dX3_leave_40 : decode cX3_leave 40 = .ok (.aload_n 0, 1) := by decide +kernel
theorem dX3_leave_41 : decode cX3_leave 41 = .ok (.getfield 12, 3) := by decide +kernel
theorem dX3_leave_44 : decode cX3_leave 44 = .ok (.getfield 93, 3) := by decide +kernel
theorem dX3_leave_47 : decode cX3_leave 47 = .ok (.iload_n 2, 1) := by decide +kernel
theorem dX3_leave_48 : decode cX3_leave 48 = .ok (.iconst (-1), 1) := by decide +kernel
theorem dX3_leave_49 : decode cX3_leave 49 = .ok (.iastore, 1) := by decide +kernel
theorem dX3_leave_50 : decode cX3_leave 50 = .ok (.aload_n 0, 1) := by decide +kernel
theorem dX3_leave_51 : decode cX3_leave 51 = .ok (.aload_n 0, 1) := by decide +kernel
theorem dX3_leave_52 : decode cX3_leave 52 = .ok (.getfield 28, 3) := by decide +kernel
theorem dX3_leave_55 : decode cX3_leave 55 = .ok (.getfield 48, 3) := by decide +kernel
theorem dX3_leave_58 : decode cX3_leave 58 = .ok (.iload_n 2, 1) := by decide +kernel
theorem dX3_leave_59 : decode cX3_leave 59 = .ok (.aaload, 1) := by decide +kernel
theorem dX3_leave_60 : decode cX3_leave 60 = .ok (.getfield 213, 3) := by decide +kernel
theorem dX3_leave_63 : decode cX3_leave 63 = .ok (.invokevirtual 126, 3) := by decide +kernel
theorem dX3_leave_66 : decode cX3_leave 66 = .ok (.iinc 2 (-1), 3) := by decide +kernel
theorem dX3_leave_69 : decode cX3_leave 69 = .ok (.goto (-59), 3) := by decide +kernel
theorem dX3_leave_72 : decode cX3_leave 72 = .ok (.return_, 1) := by decide +kernel
theorem dX3_enter_0 : decode cX3_enter 0 = .ok (.iconst 0, 1) := by decide +kernel
theorem dX3_enter_1 : decode cX3_enter 1 = .ok (.istore_n 2, 1) := by decide +kernel
theorem dX3_enter_2 : decode cX3_enter 2 = .ok (.iload_n 2, 1) := by decide +kernel
theorem dX3_enter_3 : decode cX3_enter 3 = .ok (.aload_n 0, 1) := by decide +kernel
theorem dX3_enter_4 : decode cX3_enter 4 = .ok (.getfield 28, 3) := by decide +kernel
theorem dX3_enter_7 : decode cX3_enter 7 = .ok (.getfield 86, 3) := by decide +kernel
theorem dX3_enter_10 : decode cX3_enter 10 = .ok (.if_icmp .ge 59, 3) := by decide +kernel
theorem dX3_enter_13 : decode cX3_enter 13 = .ok (.iload_n 1, 1) := by decide +kernel
theorem dX3_enter_14 : decode cX3_enter 14 = .ok (.iload_n 2, 1) := by decide +kernel
theorem dX3_enter_15 : decode cX3_enter 15 = .ok (.invokestatic 89, 3) := by decide +kernel
theorem dX3_enter_18 : decode cX3_enter 18 = .ok (.ifCond .eq 45, 3) := by decide +kernel
theorem dX3_enter_21 : decode cX3_enter 21 = .ok (.aload_n 0, 1) := by decide +kernel
theorem dX3_enter_22 : decode cX3_enter 22 = .ok (.getfield 12, 3) := by decide +kernel
theorem dX3_enter_25 : decode cX3_enter 25 = .ok (.dup, 1) := by decide +kernel
theorem dX3_enter_26 : decode cX3_enter 26 = .ok (.getfield 62, 3) := by decide +kernel
theorem dX3_enter_29 : decode cX3_enter 29 = .ok (.iload_n 2, 1) := by decide +kernel
theorem dX3_enter_30 : decode cX3_enter 30 = .ok (.invokestatic 143, 3) := by decide +kernel
theorem dX3_enter_33 : decode cX3_enter 33 = .ok (.ior, 1) := by decide +kernel
theorem dX3_enter_34 : decode cX3_enter 34 = .ok (.putfield 62, 3) := by decide +kernel
theorem dX3_enter_37 : decode cX3_enter 37 = .ok (.aload_n 0, 1) := by decide +kernel
theorem dX3_enter_38 : decode cX3_enter 38 = .ok (.getfield 12, 3) := by decide +kernel
theorem dX3_enter_41 : decode cX3_enter 41 = .ok (.getfield 93, 3) := by decide +kernel
theorem dX3_enter_44 : decode cX3_enter 44 = .ok (.iload_n 2, 1) := by decide +kernel
theorem dX3_enter_45 : decode cX3_enter 45 = .ok (.iconst 0, 1) := by decide +kernel
theorem dX3_enter_46 : decode cX3_enter 46 = .ok (.iastore, 1) := by decide +kernel
theorem dX3_enter_47 : decode cX3_enter 47 = .ok (.aload_n 0, 1) := by decide +kernel
theorem dX3_enter_48 : decode cX3_enter 48 = .ok (.aload_n 0, 1) := by decide +kernel
theorem dX3_enter_49 : decode cX3_enter 49 = .ok (.getfield 28, 3) := by decide +kernel
theorem dX3_enter_52 : decode cX3_enter 52 = .ok (.getfield 48, 3) := by decide +kernel
theorem dX3_enter_55 : decode cX3_enter 55 = .ok (.iload_n 2, 1) := by decide +kernel
theorem dX3_enter_56 : decode cX3_enter 56 = .ok (.aaload, 1) := by decide +kernel
theorem dX3_enter_57 : decode cX3_enter 57 = .ok (.getfield 216, 3) := by decide +kernel
theorem dX3_enter_60 : decode cX3_enter 60 = .ok (.invokevirtual 126, 3) := by decide +kernel
theorem dX3_enter_63 : decode cX3_enter 63 = .ok (.iinc 2 1, 3) := by decide +kernel
theorem dX3_enter_66 : decode cX3_enter 66 = .ok (.goto (-64), 3) := by decide +kernel
theorem dX3_enter_69 : decode cX3_enter 69 = .ok (.return_, 1) := by decide +kernel
theorem dX3_targetsOf_0 : decode cX3_targetsOf 0 = .ok (.aload_n 0, 1) := by decide +kernel
theorem dX3_targetsOf_1 : decode cX3_targetsOf 1 = .ok (.getfield 28, 3) := by decide +kernel
theorem dX3_targetsOf_4 : decode cX3_targetsOf 4 = .ok (.getfield 48, 3) := by decide +kernel
theorem dX3_targetsOf_7 : decode cX3_targetsOf 7 = .ok (.aload_n 1, 1) := by decide +kernel
theorem dX3_targetsOf_8 : decode cX3_targetsOf 8 = .ok (.getfield 130, 3) := by decide +kernel
theorem dX3_targetsOf_11 : decode cX3_targetsOf 11 = .ok (.aaload, 1) := by decide +kernel
theorem dX3_targetsOf_12 : decode cX3_targetsOf 12 = .ok (.invokevirtual 201, 3) := by decide +kernel
theorem dX3_targetsOf_15 : decode cX3_targetsOf 15 = .ok (.ifCond .ne 11, 3) := by decide +kernel
theorem dX3_targetsOf_18 : decode cX3_targetsOf 18 = .ok (.aload_n 1, 1) := by decide +kernel
theorem dX3_targetsOf_19 : decode cX3_targetsOf 19 = .ok (.getfield 130, 3) := by decide +kernel
theorem dX3_targetsOf_22 : decode cX3_targetsOf 22 = .ok (.invokestatic 143, 3) := by decide +kernel
theorem dX3_targetsOf_25 : decode cX3_targetsOf 25 = .ok (.ireturn, 1) := by decide +kernel
theorem dX3_targetsOf_26 : decode cX3_targetsOf 26 = .ok (.aload_n 0, 1) := by decide +kernel
theorem dX3_targetsOf_27 : decode cX3_targetsOf 27 = .ok (.getfield 12, 3) := by decide +kernel
theorem dX3_targetsOf_30 : decode cX3_targetsOf 30 = .ok (.getfield 210, 3) := by decide +kernel
theorem dX3_targetsOf_33 : decode cX3_targetsOf 33 = .ok (.aload_n 1, 1) := by decide +kernel
theorem dX3_targetsOf_34 : decode cX3_targetsOf 34 = .ok (.getfield 130, 3) := by decide +kernel
theorem dX3_targetsOf_37 : decode cX3_targetsOf 37 = .ok (.iaload, 1) := by decide +kernel
theorem dX3_targetsOf_38 : decode cX3_targetsOf 38 = .ok (.ifCond .eq 16, 3) := by decide +kernel
theorem dX3_targetsOf_41 : decode cX3_targetsOf 41 = .ok (.aload_n 0, 1) := by decide +kernel
theorem dX3_targetsOf_42 : decode cX3_targetsOf 42 = .ok (.getfield 12, 3) := by decide +kernel
theorem dX3_targetsOf_45 : decode cX3_targetsOf 45 = .ok (.getfield 210, 3) := by decide +kernel
theorem dX3_targetsOf_48 : decode cX3_targetsOf 48 = .ok (.aload_n 1, 1) := by decide +kernel
theorem dX3_targetsOf_49 : decode cX3_targetsOf 49 = .ok (.getfield 130, 3) := by decide +kernel
theorem dX3_targetsOf_52 : decode cX3_targetsOf 52 = .ok (.iaload, 1) := by decide +kernel
theorem dX3_targetsOf_53 : decode cX3_targetsOf 53 = .ok (.ireturn, 1) := by decide +kernel
theorem dX3_targetsOf_54 : decode cX3_targetsOf 54 = .ok (.aload_n 0, 1) := by decide +kernel
theorem dX3_targetsOf_55 : decode cX3_targetsOf 55 = .ok (.getfield 28, 3) := by decide +kernel
theorem dX3_targetsOf_58 : decode cX3_targetsOf 58 = .ok (.getfield 48, 3) := by decide +kernel
theorem dX3_targetsOf_61 : decode cX3_targetsOf 61 = .ok (.aload_n 1, 1) := by decide +kernel
theorem dX3_targetsOf_62 : decode cX3_targetsOf 62 = .ok (.getfield 130, 3) := by decide +kernel
theorem dX3_targetsOf_65 : decode cX3_targetsOf 65 = .ok (.aaload, 1) := by decide +kernel
theorem dX3_targetsOf_66 : decode cX3_targetsOf 66 = .ok (.getfield 204, 3) := by decide +kernel
theorem dX3_targetsOf_69 : decode cX3_targetsOf 69 = .ok (.istore_n 2, 1) := by decide +kernel
theorem dX3_targetsOf_70 : decode cX3_targetsOf 70 = .ok (.iload_n 2, 1) := by decide +kernel
theorem dX3_targetsOf_71 : decode cX3_targetsOf 71 = .ok (.aload_n 1, 1) := by decide +kernel
theorem dX3_targetsOf_72 : decode cX3_targetsOf 72 = .ok (.getfield 136, 3) := by decide +kernel
theorem dX3_targetsOf_75 : decode cX3_targetsOf 75 = .ok (.if_icmp .ne 18, 3) := by decide +kernel
theorem dX3_targetsOf_78 : decode cX3_targetsOf 78 = .ok (.aload_n 0, 1) := by decide +kernel
theorem dX3_targetsOf_79 : decode cX3_targetsOf 79 = .ok (.getfield 28, 3) := by decide +kernel
theorem dX3_targetsOf_82 : decode cX3_targetsOf 82 = .ok (.getfield 48, 3) := by decide +kernel
theorem dX3_targetsOf_85 : decode cX3_targetsOf 85 = .ok (.iload_n 2, 1) := by decide +kernel
theorem dX3_targetsOf_86 : decode cX3_targetsOf 86 = .ok (.aaload, 1) := by decide +kernel
theorem dX3_targetsOf_87 : decode cX3_targetsOf 87 = .ok (.getfield 219, 3) := by decide +kernel
theorem dX3_targetsOf_90 : decode cX3_targetsOf 90 = .ok (.goto 7, 3) := by decide +kernel
theorem dX3_targetsOf_93 : decode cX3_targetsOf 93 = .ok (.iload_n 2, 1) := by decide +kernel
theorem dX3_targetsOf_94 : decode cX3_targetsOf 94 = .ok (.invokestatic 143, 3) := by decide +kernel
theorem dX3_targetsOf_97 : decode cX3_targetsOf 97 = .ok (.ireturn, 1) := by decide +kernel
theorem dX3_step_0 : decode cX3_step 0 = .ok (.aload_n 0, 1) := by decide +kernel
theorem dX3_step_1 : decode cX3_step 1 = .ok (.iload_n 1, 1) := by decide +kernel
theorem dX3_step_2 : decode cX3_step 2 = .ok (.invokevirtual 96, 3) := by decide +kernel
theorem dX3_step_5 : decode cX3_step 5 = .ok (.istore_n 2, 1) := by decide +kernel
theorem dX3_step_6 : decode cX3_step 6 = .ok (.iload_n 2, 1) := by decide +kernel
theorem dX3_step_7 : decode cX3_step 7 = .ok (.ifCond .ne 5, 3) := by decide +kernel
theorem dX3_step_10 : decode cX3_step 10 = .ok (.iconst 0, 1) := by decide +kernel
theorem dX3_step_11 : decode cX3_step 11 = .ok (.ireturn, 1) := by decide +kernel
theorem dX3_step_12 : decode cX3_step 12 = .ok (.aload_n 0, 1) := by decide +kernel
theorem dX3_step_13 : decode cX3_step 13 = .ok (.iload_n 2, 1) := by decide +kernel
theorem dX3_step_14 : decode cX3_step 14 = .ok (.invokevirtual 99, 3) := by decide +kernel
theorem dX3_step_17 : decode cX3_step 17 = .ok (.iconst 0, 1) := by decide +kernel
theorem dX3_step_18 : decode cX3_step 18 = .ok (.istore_n 3, 1) := by decide +kernel
theorem dX3_step_19 : decode cX3_step 19 = .ok (.iconst 0, 1) := by decide +kernel
theorem dX3_step_20 : decode cX3_step 20 = .ok (.istore 4, 2) := by decide +kernel
theorem dX3_step_22 : decode cX3_step 22 = .ok (.iload 4, 2) := by decide +kernel
theorem dX3_step_24 : decode cX3_step 24 = .ok (.aload_n 0, 1) := by decide +kernel
theorem dX3_step_25 : decode cX3_step 25 = .ok (.getfield 103, 3) := by decide +kernel
theorem dX3_step_28 : decode cX3_step 28 = .ok (.if_icmp .ge 31, 3) := by decide +kernel
theorem dX3_step_31 : decode cX3_step 31 = .ok (.iload_n 3, 1) := by decide +kernel
theorem dX3_step_32 : decode cX3_step 32 = .ok (.aload_n 0, 1) := by decide +kernel
theorem dX3_step_33 : decode cX3_step 33 = .ok (.aload_n 0, 1) := by decide +kernel
theorem dX3_step_34 : decode cX3_step 34 = .ok (.getfield 28, 3) := by decide +kernel
theorem dX3_step_37 : decode cX3_step 37 = .ok (.getfield 106, 3) := by decide +kernel
theorem dX3_step_40 : decode cX3_step 40 = .ok (.aload_n 0, 1) := by decide +kernel
theorem dX3_step_41 : decode cX3_step 41 = .ok (.getfield 25, 3) := by decide +kernel
theorem dX3_step_44 : decode cX3_step 44 = .ok (.iload 4, 2) := by decide +kernel
theorem dX3_step_46 : decode cX3_step 46 = .ok (.iaload, 1) := by decide +kernel
theorem dX3_step_47 : decode cX3_step 47 = .ok (.aaload, 1) := by decide +kernel
theorem dX3_step_48 : decode cX3_step 48 = .ok (.invokevirtual 110, 3) := by decide +kernel
theorem dX3_step_51 : decode cX3_step 51 = .ok (.ior, 1) := by decide +kernel
theorem dX3_step_52 : decode cX3_step 52 = .ok (.istore_n 3, 1) := by decide +kernel
theorem dX3_step_53 : decode cX3_step 53 = .ok (.iinc 4 1, 3) := by decide +kernel
theorem dX3_step_56 : decode cX3_step 56 = .ok (.goto (-34), 3) := by decide +kernel
theorem dX3_step_59 : decode cX3_step 59 = .ok (.aload_n 0, 1) := by decide +kernel
theorem dX3_step_60 : decode cX3_step 60 = .ok (.iload_n 3, 1) := by decide +kernel
theorem dX3_step_61 : decode cX3_step 61 = .ok (.invokevirtual 114, 3) := by decide +kernel
theorem dX3_step_64 : decode cX3_step 64 = .ok (.aload_n 0, 1) := by decide +kernel
theorem dX3_step_65 : decode cX3_step 65 = .ok (.iload_n 3, 1) := by decide +kernel
theorem dX3_step_66 : decode cX3_step 66 = .ok (.invokevirtual 117, 3) := by decide +kernel
theorem dX3_step_69 : decode cX3_step 69 = .ok (.iconst 0, 1) := by decide +kernel
theorem dX3_step_70 : decode cX3_step 70 = .ok (.istore 4, 2) := by decide +kernel
theorem dX3_step_72 : decode cX3_step 72 = .ok (.iconst 0, 1) := by decide +kernel
theorem dX3_step_73 : decode cX3_step 73 = .ok (.istore 5, 2) := by decide +kernel
theorem dX3_step_75 : decode cX3_step 75 = .ok (.iload 5, 2) := by decide +kernel
theorem dX3_step_77 : decode cX3_step 77 = .ok (.aload_n 0, 1) := by decide +kernel
theorem dX3_step_78 : decode cX3_step 78 = .ok (.getfield 103, 3) := by decide +kernel
theorem dX3_step_81 : decode cX3_step 81 = .ok (.if_icmp .ge 102, 3) := by decide +kernel
theorem dX3_step_84 : decode cX3_step 84 = .ok (.aload_n 0, 1) := by decide +kernel
theorem dX3_step_85 : decode cX3_step 85 = .ok (.getfield 28, 3) := by decide +kernel
theorem dX3_step_88 : decode cX3_step 88 = .ok (.getfield 106, 3) := by decide +kernel
theorem dX3_step_91 : decode cX3_step 91 = .ok (.aload_n 0, 1) := by decide +kernel
theorem dX3_step_92 : decode cX3_step 92 = .ok (.getfield 25, 3) := by decide +kernel
theorem dX3_step_95 : decode cX3_step 95 = .ok (.iload 5, 2) := by decide +kernel
theorem dX3_step_97 : decode cX3_step 97 = .ok (.iaload, 1) := by decide +kernel
theorem dX3_step_98 : decode cX3_step 98 = .ok (.aaload, 1) := by decide +kernel
theorem dX3_step_99 : decode cX3_step 99 = .ok (.astore 6, 2) := by decide +kernel
theorem dX3_step_101 : decode cX3_step 101 = .ok (.aload_n 0, 1) := by decide +kernel
theorem dX3_step_102 : decode cX3_step 102 = .ok (.aload 6, 2) := by decide +kernel
theorem dX3_step_104 : decode cX3_step 104 = .ok (.getfield 120, 3) := by decide +kernel
theorem dX3_step_107 : decode cX3_step 107 = .ok (.invokevirtual 126, 3) := by decide +kernel
theorem dX3_step_110 : decode cX3_step 110 = .ok (.aload 6, 2) := by decide +kernel
theorem dX3_step_112 : decode cX3_step 112 = .ok (.getfield 130, 3) := by decide +kernel
theorem dX3_step_115 : decode cX3_step 115 = .ok (.iconst (-1), 1) := by decide +kernel
theorem dX3_step_116 : decode cX3_step 116 = .ok (.if_icmp .eq 26, 3) := by decide +kernel
theorem dX3_step_119 : decode cX3_step 119 = .ok (.iload 4, 2) := by decide +kernel
theorem dX3_step_121 : decode cX3_step 121 = .ok (.aload_n 0, 1) := by decide +kernel
theorem dX3_step_122 : decode cX3_step 122 = .ok (.getfield 28, 3) := by decide +kernel
theorem dX3_step_125 : decode cX3_step 125 = .ok (.aload_n 0, 1) := by decide +kernel
theorem dX3_step_126 : decode cX3_step 126 = .ok (.aload 6, 2) := by decide +kernel
theorem dX3_step_128 : decode cX3_step 128 = .ok (.invokevirtual 133, 3) := by decide +kernel
theorem dX3_step_131 : decode cX3_step 131 = .ok (.aload 6, 2) := by decide +kernel
theorem dX3_step_133 : decode cX3_step 133 = .ok (.getfield 136, 3) := by decide +kernel
theorem dX3_step_136 : decode cX3_step 136 = .ok (.invokevirtual 139, 3) := by decide +kernel
theorem dX3_step_139 : decode cX3_step 139 = .ok (.ior, 1) := by decide +kernel
theorem dX3_step_140 : decode cX3_step 140 = .ok (.istore 4, 2) := by decide +kernel
theorem dX3_step_142 : decode cX3_step 142 = .ok (.aload_n 0, 1) := by decide +kernel
theorem dX3_step_143 : decode cX3_step 143 = .ok (.getfield 18, 3) := by decide +kernel
theorem dX3_step_146 : decode cX3_step 146 = .ok (.aload_n 0, 1) := by decide +kernel
theorem dX3_step_147 : decode cX3_step 147 = .ok (.getfield 25, 3) := by decide +kernel
theorem dX3_step_150 : decode cX3_step 150 = .ok (.iload 5, 2) := by decide +kernel
theorem dX3_step_152 : decode cX3_step 152 = .ok (.iaload, 1) := by decide +kernel
theorem dX3_step_153 : decode cX3_step 153 = .ok (.dup2, 1) := by decide +kernel
theorem dX3_step_154 : decode cX3_step 154 = .ok (.iaload, 1) := by decide +kernel
theorem dX3_step_155 : decode cX3_step 155 = .ok (.iconst 1, 1) := by decide +kernel
theorem dX3_step_156 : decode cX3_step 156 = .ok (.iadd, 1) := by decide +kernel
theorem dX3_step_157 : decode cX3_step 157 = .ok (.iastore, 1) := by decide +kernel
theorem dX3_step_158 : decode cX3_step 158 = .ok (.aload_n 0, 1) := by decide +kernel
theorem dX3_step_159 : decode cX3_step 159 = .ok (.dup, 1) := by decide +kernel
theorem dX3_step_160 : decode cX3_step 160 = .ok (.getfield 65, 3) := by decide +kernel
theorem dX3_step_163 : decode cX3_step 163 = .ok (.aload_n 0, 1) := by decide +kernel
theorem dX3_step_164 : decode cX3_step 164 = .ok (.getfield 25, 3) := by decide +kernel
theorem dX3_step_167 : decode cX3_step 167 = .ok (.iload 5, 2) := by decide +kernel
theorem dX3_step_169 : decode cX3_step 169 = .ok (.iaload, 1) := by decide +kernel
theorem dX3_step_170 : decode cX3_step 170 = .ok (.invokestatic 143, 3) := by decide +kernel
theorem dX3_step_173 : decode cX3_step 173 = .ok (.ior, 1) := by decide +kernel
theorem dX3_step_174 : decode cX3_step 174 = .ok (.putfield 65, 3) := by decide +kernel
theorem dX3_step_177 : decode cX3_step 177 = .ok (.iinc 5 1, 3) := by decide +kernel
theorem dX3_step_180 : decode cX3_step 180 = .ok (.goto (-105), 3) := by decide +kernel
theorem dX3_step_183 : decode cX3_step 183 = .ok (.aload_n 0, 1) := by decide +kernel
theorem dX3_step_184 : decode cX3_step 184 = .ok (.iload 4, 2) := by decide +kernel
theorem dX3_step_186 : decode cX3_step 186 = .ok (.invokevirtual 146, 3) := by decide +kernel
theorem dX3_step_189 : decode cX3_step 189 = .ok (.aload_n 0, 1) := by decide +kernel
theorem dX3_step_190 : decode cX3_step 190 = .ok (.getfield 103, 3) := by decide +kernel
theorem dX3_step_193 : decode cX3_step 193 = .ok (.ireturn, 1) := by decide +kernel
theorem dX3_proceed_0 : decode cX3_proceed 0 = .ok (.aload_n 0, 1) := by decide +kernel
theorem dX3_proceed_1 : decode cX3_proceed 1 = .ok (.iconst 0, 1) := by decide +kernel
theorem dX3_proceed_2 : decode cX3_proceed 2 = .ok (.putfield 65, 3) := by decide +kernel
theorem dX3_proceed_5 : decode cX3_proceed 5 = .ok (.aload_n 0, 1) := by decide +kernel
theorem dX3_proceed_6 : decode cX3_proceed 6 = .ok (.invokevirtual 68, 3) := by decide +kernel
theorem dX3_proceed_9 : decode cX3_proceed 9 = .ok (.ifCond .eq 9, 3) := by decide +kernel
theorem dX3_proceed_12 : decode cX3_proceed 12 = .ok (.aload_n 0, 1) := by decide +kernel
theorem dX3_proceed_13 : decode cX3_proceed 13 = .ok (.invokevirtual 72, 3) := by decide +kernel
theorem dX3_proceed_16 : decode cX3_proceed 16 = .ok (.iconst 0, 1) := by decide +kernel
theorem dX3_proceed_17 : decode cX3_proceed 17 = .ok (.ireturn, 1) := by decide +kernel
theorem dX3_proceed_18 : decode cX3_proceed 18 = .ok (.iload_n 1, 1) := by decide +kernel
theorem dX3_proceed_19 : decode cX3_proceed 19 = .ok (.bipush 10, 2) := by decide +kernel
theorem dX3_proceed_21 : decode cX3_proceed 21 = .ok (.if_icmp .ne 7, 3) := by decide +kernel
theorem dX3_proceed_24 : decode cX3_proceed 24 = .ok (.aload_n 0, 1) := by decide +kernel
theorem dX3_proceed_25 : decode cX3_proceed 25 = .ok (.invokevirtual 75, 3) := by decide +kernel
theorem dX3_proceed_28 : decode cX3_proceed 28 = .ok (.iload_n 1, 1) := by decide +kernel
theorem dX3_proceed_29 : decode cX3_proceed 29 = .ok (.istore_n 2, 1) := by decide +kernel
theorem dX3_proceed_30 : decode cX3_proceed 30 = .ok (.iconst 0, 1) := by decide +kernel
theorem dX3_proceed_31 : decode cX3_proceed 31 = .ok (.istore_n 3, 1) := by decide +kernel
theorem dX3_proceed_32 : decode cX3_proceed 32 = .ok (.iconst 0, 1) := by decide +kernel
theorem dX3_proceed_33 : decode cX3_proceed 33 = .ok (.istore 4, 2) := by decide +kernel
theorem dX3_proceed_35 : decode cX3_proceed 35 = .ok (.iconst 0, 1) := by decide +kernel
theorem dX3_proceed_36 : decode cX3_proceed 36 = .ok (.istore 5, 2) := by decide +kernel
theorem dX3_proceed_38 : decode cX3_proceed 38 = .ok (.iload 5, 2) := by decide +kernel
theorem dX3_proceed_40 : decode cX3_proceed 40 = .ok (.sipush 1000, 3) := by decide +kernel
theorem dX3_proceed_43 : decode cX3_proceed 43 = .ok (.if_icmp .ge 106, 3) := by decide +kernel
theorem dX3_proceed_46 : decode cX3_proceed 46 = .ok (.aload_n 0, 1) := by decide +kernel
theorem dX3_proceed_47 : decode cX3_proceed 47 = .ok (.iload_n 2, 1) := by decide +kernel
theorem dX3_proceed_48 : decode cX3_proceed 48 = .ok (.invokevirtual 78, 3) := by decide +kernel
theorem dX3_proceed_51 : decode cX3_proceed 51 = .ok (.istore 6, 2) := by decide +kernel
theorem dX3_proceed_53 : decode cX3_proceed 53 = .ok (.iload_n 3, 1) := by decide +kernel
theorem dX3_proceed_54 : decode cX3_proceed 54 = .ok (.iload 6, 2) := by decide +kernel
theorem dX3_proceed_56 : decode cX3_proceed 56 = .ok (.iadd, 1) := by decide +kernel
theorem dX3_proceed_57 : decode cX3_proceed 57 = .ok (.istore_n 3, 1) := by decide +kernel
theorem dX3_proceed_58 : decode cX3_proceed 58 = .ok (.iload 4, 2) := by decide +kernel
theorem dX3_proceed_60 : decode cX3_proceed 60 = .ok (.iload 6, 2) := by decide +kernel
theorem dX3_proceed_62 : decode cX3_proceed 62 = .ok (.ifCond .le 7, 3) := by decide +kernel
theorem dX3_proceed_65 : decode cX3_proceed 65 = .ok (.iconst 1, 1) := by decide +kernel
theorem dX3_proceed_66 : decode cX3_proceed 66 = .ok (.goto 4, 3) := by decide +kernel
theorem dX3_proceed_69 : decode cX3_proceed 69 = .ok (.iconst 0, 1) := by decide +kernel
theorem dX3_proceed_70 : decode cX3_proceed 70 = .ok (.iadd, 1) := by decide +kernel
theorem dX3_proceed_71 : decode cX3_proceed 71 = .ok (.istore 4, 2) := by decide +kernel
theorem dX3_proceed_73 : decode cX3_proceed 73 = .ok (.aload_n 0, 1) := by decide +kernel
theorem dX3_proceed_74 : decode cX3_proceed 74 = .ok (.invokevirtual 68, 3) := by decide +kernel
theorem dX3_proceed_77 : decode cX3_proceed 77 = .ok (.ifCond .eq 9, 3) := by decide +kernel
theorem dX3_proceed_80 : decode cX3_proceed 80 = .ok (.aload_n 0, 1) := by decide +kernel
theorem dX3_proceed_81 : decode cX3_proceed 81 = .ok (.invokevirtual 72, 3) := by decide +kernel
theorem dX3_proceed_84 : decode cX3_proceed 84 = .ok (.iload_n 3, 1) := by decide +kernel
theorem dX3_proceed_85 : decode cX3_proceed 85 = .ok (.ireturn, 1) := by decide +kernel
theorem dX3_proceed_86 : decode cX3_proceed 86 = .ok (.iload 4, 2) := by decide +kernel
theorem dX3_proceed_88 : decode cX3_proceed 88 = .ok (.bipush 12, 2) := by decide +kernel
theorem dX3_proceed_90 : decode cX3_proceed 90 = .ok (.if_icmp .ne 19, 3) := by decide +kernel
theorem dX3_proceed_93 : decode cX3_proceed 93 = .ok (.aload_n 0, 1) := by decide +kernel
theorem dX3_proceed_94 : decode cX3_proceed 94 = .ok (.invokevirtual 72, 3) := by decide +kernel
theorem dX3_proceed_97 : decode cX3_proceed 97 = .ok (.aload_n 0, 1) := by decide +kernel
theorem dX3_proceed_98 : decode cX3_proceed 98 = .ok (.dup, 1) := by decide +kernel
theorem dX3_proceed_99 : decode cX3_proceed 99 = .ok (.getfield 42, 3) := by decide +kernel
theorem dX3_proceed_102 : decode cX3_proceed 102 = .ok (.iconst 1, 1) := by decide +kernel
theorem dX3_proceed_103 : decode cX3_proceed 103 = .ok (.iadd, 1) := by decide +kernel
theorem dX3_proceed_104 : decode cX3_proceed 104 = .ok (.putfield 42, 3) := by decide +kernel
theorem dX3_proceed_107 : decode cX3_proceed 107 = .ok (.iload_n 3, 1) := by decide +kernel
theorem dX3_proceed_108 : decode cX3_proceed 108 = .ok (.ireturn, 1) := by decide +kernel
theorem dX3_proceed_109 : decode cX3_proceed 109 = .ok (.iload 6, 2) := by decide +kernel
theorem dX3_proceed_111 : decode cX3_proceed 111 = .ok (.ifCond .gt 9, 3) := by decide +kernel
theorem dX3_proceed_114 : decode cX3_proceed 114 = .ok (.iload_n 2, 1) := by decide +kernel
theorem dX3_proceed_115 : decode cX3_proceed 115 = .ok (.bipush 11, 2) := by decide +kernel
theorem dX3_proceed_117 : decode cX3_proceed 117 = .ok (.if_icmp .eq 9, 3) := by decide +kernel
theorem dX3_proceed_120 : decode cX3_proceed 120 = .ok (.bipush 11, 2) := by decide +kernel
theorem dX3_proceed_122 : decode cX3_proceed 122 = .ok (.istore_n 2, 1) := by decide +kernel
theorem dX3_proceed_123 : decode cX3_proceed 123 = .ok (.goto 20, 3) := by decide +kernel
theorem dX3_proceed_126 : decode cX3_proceed 126 = .ok (.aload_n 0, 1) := by decide +kernel
theorem dX3_proceed_127 : decode cX3_proceed 127 = .ok (.getfield 45, 3) := by decide +kernel
theorem dX3_proceed_130 : decode cX3_proceed 130 = .ok (.ifCond .le 11, 3) := by decide +kernel
theorem dX3_proceed_133 : decode cX3_proceed 133 = .ok (.aload_n 0, 1) := by decide +kernel
theorem dX3_proceed_134 : decode cX3_proceed 134 = .ok (.invokevirtual 82, 3) := by decide +kernel
theorem dX3_proceed_137 : decode cX3_proceed 137 = .ok (.istore_n 2, 1) := by decide +kernel
theorem dX3_proceed_138 : decode cX3_proceed 138 = .ok (.goto 5, 3) := by decide +kernel
theorem dX3_proceed_141 : decode cX3_proceed 141 = .ok (.iload_n 3, 1) := by decide +kernel
theorem dX3_proceed_142 : decode cX3_proceed 142 = .ok (.ireturn, 1) := by decide +kernel
theorem dX3_proceed_143 : decode cX3_proceed 143 = .ok (.iinc 5 1, 3) := by decide +kernel
theorem dX3_proceed_146 : decode cX3_proceed 146 = .ok (.goto (-108), 3) := by decide +kernel
theorem dX3_proceed_149 : decode cX3_proceed 149 = .ok (.iload_n 3, 1) := by decide +kernel
theorem dX3_proceed_150 : decode cX3_proceed 150 = .ok (.ireturn, 1) := by decide +kernel
theorem dX2_isReached_0 : decode cX2_isReached 0 = .ok (.iload_n 2, 1) := by decide +kernel
theorem dX2_isReached_1 : decode cX2_isReached 1 = .ok (.iconst (-1), 1) := by decide +kernel
theorem dX2_isReached_2 : decode cX2_isReached 2 = .ok (.if_icmp .ne 20, 3) := by decide +kernel
theorem dX2_isReached_5 : decode cX2_isReached 5 = .ok (.aload_n 0, 1) := by decide +kernel
theorem dX2_isReached_6 : decode cX2_isReached 6 = .ok (.getfield 30, 3) := by decide +kernel
theorem dX2_isReached_9 : decode cX2_isReached 9 = .ok (.getfield 56, 3) := by decide +kernel
theorem dX2_isReached_12 : decode cX2_isReached 12 = .ok (.getfield 42, 3) := by decide +kernel
theorem dX2_isReached_15 : decode cX2_isReached 15 = .ok (.iload_n 1, 1) := by decide +kernel
theorem dX2_isReached_16 : decode cX2_isReached 16 = .ok (.invokestatic 45, 3) := by decide +kernel
theorem dX2_isReached_19 : decode cX2_isReached 19 = .ok (.goto 14, 3) := by decide +kernel
theorem dX2_isReached_22 : decode cX2_isReached 22 = .ok (.aload_n 0, 1) := by decide +kernel
theorem dX2_isReached_23 : decode cX2_isReached 23 = .ok (.getfield 30, 3) := by decide +kernel
theorem dX2_isReached_26 : decode cX2_isReached 26 = .ok (.getfield 76, 3) := by decide +kernel
theorem dX2_isReached_29 : decode cX2_isReached 29 = .ok (.iload_n 2, 1) := by decide +kernel
theorem dX2_isReached_30 : decode cX2_isReached 30 = .ok (.invokestatic 45, 3) := by decide +kernel
theorem dX2_isReached_33 : decode cX2_isReached 33 = .ok (.ireturn, 1) := by decide +kernel
theorem dX2_writeRow_0 : decode cX2_writeRow 0 = .ok (.aload_n 0, 1) := by decide +kernel
theorem dX2_writeRow_1 : decode cX2_writeRow 1 = .ok (.aload_n 0, 1) := by decide +kernel
theorem dX2_writeRow_2 : decode cX2_writeRow 2 = .ok (.getfield 27, 3) := by decide +kernel
theorem dX2_writeRow_5 : decode cX2_writeRow 5 = .ok (.iload_n 1, 1) := by decide +kernel
theorem dX2_writeRow_6 : decode cX2_writeRow 6 = .ok (.iaload, 1) := by decide +kernel
theorem dX2_writeRow_7 : decode cX2_writeRow 7 = .ok (.iconst 1, 1) := by decide +kernel
theorem dX2_writeRow_8 : decode cX2_writeRow 8 = .ok (.iadd, 1) := by decide +kernel
theorem dX2_writeRow_9 : decode cX2_writeRow 9 = .ok (.putfield 35, 3) := by decide +kernel
theorem dX2_writeRow_12 : decode cX2_writeRow 12 = .ok (.aload_n 0, 1) := by decide +kernel
theorem dX2_writeRow_13 : decode cX2_writeRow 13 = .ok (.getfield 9, 3) := by decide +kernel
theorem dX2_writeRow_16 : decode cX2_writeRow 16 = .ok (.aload_n 0, 1) := by decide +kernel
theorem dX2_writeRow_17 : decode cX2_writeRow 17 = .ok (.getfield 35, 3) := by decide +kernel
theorem dX2_writeRow_20 : decode cX2_writeRow 20 = .ok (.iconst 1, 1) := by decide +kernel
theorem dX2_writeRow_21 : decode cX2_writeRow 21 = .ok (.isub, 1) := by decide +kernel
theorem dX2_writeRow_22 : decode cX2_writeRow 22 = .ok (.iload_n 2, 1) := by decide +kernel
theorem dX2_writeRow_23 : decode cX2_writeRow 23 = .ok (.iastore, 1) := by decide +kernel
theorem dX2_writeRow_24 : decode cX2_writeRow 24 = .ok (.iload_n 1, 1) := by decide +kernel
theorem dX2_writeRow_25 : decode cX2_writeRow 25 = .ok (.istore_n 3, 1) := by decide +kernel
theorem dX2_writeRow_26 : decode cX2_writeRow 26 = .ok (.aload_n 0, 1) := by decide +kernel
theorem dX2_writeRow_27 : decode cX2_writeRow 27 = .ok (.getfield 35, 3) := by decide +kernel
theorem dX2_writeRow_30 : decode cX2_writeRow 30 = .ok (.iconst 2, 1) := by decide +kernel
theorem dX2_writeRow_31 : decode cX2_writeRow 31 = .ok (.isub, 1) := by decide +kernel
theorem dX2_writeRow_32 : decode cX2_writeRow 32 = .ok (.istore 4, 2) := by decide +kernel
theorem dX2_writeRow_34 : decode cX2_writeRow 34 = .ok (.iload 4, 2) := by decide +kernel
theorem dX2_writeRow_36 : decode cX2_writeRow 36 = .ok (.ifCond .lt 29, 3) := by decide +kernel
theorem dX2_writeRow_39 : decode cX2_writeRow 39 = .ok (.aload_n 0, 1) := by decide +kernel
theorem dX2_writeRow_40 : decode cX2_writeRow 40 = .ok (.getfield 9, 3) := by decide +kernel
theorem dX2_writeRow_43 : decode cX2_writeRow 43 = .ok (.iload 4, 2) := by decide +kernel
theorem dX2_writeRow_45 : decode cX2_writeRow 45 = .ok (.aload_n 0, 1) := by decide +kernel
theorem dX2_writeRow_46 : decode cX2_writeRow 46 = .ok (.getfield 24, 3) := by decide +kernel
theorem dX2_writeRow_49 : decode cX2_writeRow 49 = .ok (.iload_n 3, 1) := by decide +kernel
theorem dX2_writeRow_50 : decode cX2_writeRow 50 = .ok (.iaload, 1) := by decide +kernel
theorem dX2_writeRow_51 : decode cX2_writeRow 51 = .ok (.iastore, 1) := by decide +kernel
theorem dX2_writeRow_52 : decode cX2_writeRow 52 = .ok (.aload_n 0, 1) := by decide +kernel
theorem dX2_writeRow_53 : decode cX2_writeRow 53 = .ok (.getfield 21, 3) := by decide +kernel
theorem dX2_writeRow_56 : decode cX2_writeRow 56 = .ok (.iload_n 3, 1) := by decide +kernel
theorem dX2_writeRow_57 : decode cX2_writeRow 57 = .ok (.iaload, 1) := by decide +kernel
theorem dX2_writeRow_58 : decode cX2_writeRow 58 = .ok (.istore_n 3, 1) := by decide +kernel
theorem dX2_writeRow_59 : decode cX2_writeRow 59 = .ok (.iinc 4 (-1), 3) := by decide +kernel
theorem dX2_writeRow_62 : decode cX2_writeRow 62 = .ok (.goto (-28), 3) := by decide +kernel
theorem dX2_writeRow_65 : decode cX2_writeRow 65 = .ok (.return_, 1) := by decide +kernel
theorem dX2_keepIfNew_0 : decode cX2_keepIfNew 0 = .ok (.aload_n 0, 1) := by decide +kernel
theorem dX2_keepIfNew_1 : decode cX2_keepIfNew 1 = .ok (.getfield 53, 3) := by decide +kernel
theorem dX2_keepIfNew_4 : decode cX2_keepIfNew 4 = .ok (.aload_n 0, 1) := by decide +kernel
theorem dX2_keepIfNew_5 : decode cX2_keepIfNew 5 = .ok (.getfield 17, 3) := by decide +kernel
theorem dX2_keepIfNew_8 : decode cX2_keepIfNew 8 = .ok (.arraylength, 1) := by decide +kernel
theorem dX2_keepIfNew_9 : decode cX2_keepIfNew 9 = .ok (.if_icmp .lt 4, 3) := by decide +kernel
theorem dX2_keepIfNew_12 : decode cX2_keepIfNew 12 = .ok (.return_, 1) := by decide +kernel
theorem dX2_keepIfNew_13 : decode cX2_keepIfNew 13 = .ok (.iconst 0, 1) := by decide +kernel
theorem dX2_keepIfNew_14 : decode cX2_keepIfNew 14 = .ok (.istore_n 3, 1) := by decide +kernel
theorem dX2_keepIfNew_15 : decode cX2_keepIfNew 15 = .ok (.iload_n 3, 1) := by decide +kernel
theorem dX2_keepIfNew_16 : decode cX2_keepIfNew 16 = .ok (.aload_n 0, 1) := by decide +kernel
theorem dX2_keepIfNew_17 : decode cX2_keepIfNew 17 = .ok (.getfield 53, 3) := by decide +kernel
theorem dX2_keepIfNew_20 : decode cX2_keepIfNew 20 = .ok (.if_icmp .ge 29, 3) := by decide +kernel
theorem dX2_keepIfNew_23 : decode cX2_keepIfNew 23 = .ok (.aload_n 0, 1) := by decide +kernel
theorem dX2_keepIfNew_24 : decode cX2_keepIfNew 24 = .ok (.getfield 17, 3) := by decide +kernel
theorem dX2_keepIfNew_27 : decode cX2_keepIfNew 27 = .ok (.iload_n 3, 1) := by decide +kernel
theorem dX2_keepIfNew_28 : decode cX2_keepIfNew 28 = .ok (.aaload, 1) := by decide +kernel
theorem dX2_keepIfNew_29 : decode cX2_keepIfNew 29 = .ok (.aload_n 0, 1) := by decide +kernel
theorem dX2_keepIfNew_30 : decode cX2_keepIfNew 30 = .ok (.getfield 30, 3) := by decide +kernel
theorem dX2_keepIfNew_33 : decode cX2_keepIfNew 33 = .ok (.getfield 56, 3) := by decide +kernel
theorem dX2_keepIfNew_36 : decode cX2_keepIfNew 36 = .ok (.invokevirtual 79, 3) := by decide +kernel
theorem dX2_keepIfNew_39 : decode cX2_keepIfNew 39 = .ok (.ifCond .eq 4, 3) := by decide +kernel
theorem dX2_keepIfNew_42 : decode cX2_keepIfNew 42 = .ok (.return_, 1) := by decide +kernel
theorem dX2_keepIfNew_43 : decode cX2_keepIfNew 43 = .ok (.iinc 3 1, 3) := by decide +kernel
theorem dX2_keepIfNew_46 : decode cX2_keepIfNew 46 = .ok (.goto (-31), 3) := by decide +kernel
theorem dX2_keepIfNew_49 : decode cX2_keepIfNew 49 = .ok (.aload_n 0, 1) := by decide +kernel
theorem dX2_keepIfNew_50 : decode cX2_keepIfNew 50 = .ok (.getfield 17, 3) := by decide +kernel
theorem dX2_keepIfNew_53 : decode cX2_keepIfNew 53 = .ok (.aload_n 0, 1) := by decide +kernel
theorem dX2_keepIfNew_54 : decode cX2_keepIfNew 54 = .ok (.getfield 53, 3) := by decide +kernel
theorem dX2_keepIfNew_57 : decode cX2_keepIfNew 57 = .ok (.aaload, 1) := by decide +kernel
theorem dX2_keepIfNew_58 : decode cX2_keepIfNew 58 = .ok (.aload_n 0, 1) := by decide +kernel
theorem dX2_keepIfNew_59 : decode cX2_keepIfNew 59 = .ok (.getfield 30, 3) := by decide +kernel
theorem dX2_keepIfNew_62 : decode cX2_keepIfNew 62 = .ok (.getfield 56, 3) := by decide +kernel
theorem dX2_keepIfNew_65 : decode cX2_keepIfNew 65 = .ok (.invokevirtual 49, 3) := by decide +kernel
theorem dX2_keepIfNew_68 : decode cX2_keepIfNew 68 = .ok (.aload_n 0, 1) := by decide +kernel
theorem dX2_keepIfNew_69 : decode cX2_keepIfNew 69 = .ok (.getfield 21, 3) := by decide +kernel
theorem dX2_keepIfNew_72 : decode cX2_keepIfNew 72 = .ok (.aload_n 0, 1) := by decide +kernel
theorem dX2_keepIfNew_73 : decode cX2_keepIfNew 73 = .ok (.getfield 53, 3) := by decide +kernel
theorem dX2_keepIfNew_76 : decode cX2_keepIfNew 76 = .ok (.iload_n 1, 1) := by decide +kernel
theorem dX2_keepIfNew_77 : decode cX2_keepIfNew 77 = .ok (.iastore, 1) := by decide +kernel
theorem dX2_keepIfNew_78 : decode cX2_keepIfNew 78 = .ok (.aload_n 0, 1) := by decide +kernel
theorem dX2_keepIfNew_79 : decode cX2_keepIfNew 79 = .ok (.getfield 24, 3) := by decide +kernel
theorem dX2_keepIfNew_82 : decode cX2_keepIfNew 82 = .ok (.aload_n 0, 1) := by decide +kernel
theorem dX2_keepIfNew_83 : decode cX2_keepIfNew 83 = .ok (.getfield 53, 3) := by decide +kernel
theorem dX2_keepIfNew_86 : decode cX2_keepIfNew 86 = .ok (.iload_n 2, 1) := by decide +kernel
theorem dX2_keepIfNew_87 : decode cX2_keepIfNew 87 = .ok (.iastore, 1) := by decide +kernel
theorem dX2_keepIfNew_88 : decode cX2_keepIfNew 88 = .ok (.aload_n 0, 1) := by decide +kernel
theorem dX2_keepIfNew_89 : decode cX2_keepIfNew 89 = .ok (.getfield 27, 3) := by decide +kernel
theorem dX2_keepIfNew_92 : decode cX2_keepIfNew 92 = .ok (.aload_n 0, 1) := by decide +kernel
theorem dX2_keepIfNew_93 : decode cX2_keepIfNew 93 = .ok (.getfield 53, 3) := by decide +kernel
theorem dX2_keepIfNew_96 : decode cX2_keepIfNew 96 = .ok (.aload_n 0, 1) := by decide +kernel
theorem dX2_keepIfNew_97 : decode cX2_keepIfNew 97 = .ok (.getfield 27, 3) := by decide +kernel
theorem dX2_keepIfNew_100 : decode cX2_keepIfNew 100 = .ok (.iload_n 1, 1) := by decide +kernel
theorem dX2_keepIfNew_101 : decode cX2_keepIfNew 101 = .ok (.iaload, 1) := by decide +kernel
theorem dX2_keepIfNew_102 : decode cX2_keepIfNew 102 = .ok (.iconst 1, 1) := by decide +kernel
theorem dX2_keepIfNew_103 : decode cX2_keepIfNew 103 = .ok (.iadd, 1) := by decide +kernel
theorem dX2_keepIfNew_104 : decode cX2_keepIfNew 104 = .ok (.iastore, 1) := by decide +kernel
theorem dX2_keepIfNew_105 : decode cX2_keepIfNew 105 = .ok (.aload_n 0, 1) := by decide +kernel
theorem dX2_keepIfNew_106 : decode cX2_keepIfNew 106 = .ok (.dup, 1) := by decide +kernel
theorem dX2_keepIfNew_107 : decode cX2_keepIfNew 107 = .ok (.getfield 53, 3) := by decide +kernel
theorem dX2_keepIfNew_110 : decode cX2_keepIfNew 110 = .ok (.iconst 1, 1) := by decide +kernel
theorem dX2_keepIfNew_111 : decode cX2_keepIfNew 111 = .ok (.iadd, 1) := by decide +kernel
theorem dX2_keepIfNew_112 : decode cX2_keepIfNew 112 = .ok (.putfield 53, 3) := by decide +kernel
theorem dX2_keepIfNew_115 : decode cX2_keepIfNew 115 = .ok (.return_, 1) := by decide +kernel
theorem dX2_search_0 : decode cX2_search 0 = .ok (.aload_n 0, 1) := by decide +kernel
theorem dX2_search_1 : decode cX2_search 1 = .ok (.iconst 0, 1) := by decide +kernel
theorem dX2_search_2 : decode cX2_search 2 = .ok (.putfield 35, 3) := by decide +kernel
theorem dX2_search_5 : decode cX2_search 5 = .ok (.aload_n 0, 1) := by decide +kernel
theorem dX2_search_6 : decode cX2_search 6 = .ok (.iconst 0, 1) := by decide +kernel
theorem dX2_search_7 : decode cX2_search 7 = .ok (.putfield 39, 3) := by decide +kernel
theorem dX2_search_10 : decode cX2_search 10 = .ok (.iload_n 2, 1) := by decide +kernel
theorem dX2_search_11 : decode cX2_search 11 = .ok (.iconst (-1), 1) := by decide +kernel
theorem dX2_search_12 : decode cX2_search 12 = .ok (.if_icmp .eq 16, 3) := by decide +kernel
theorem dX2_search_15 : decode cX2_search 15 = .ok (.aload_n 1, 1) := by decide +kernel
theorem dX2_search_16 : decode cX2_search 16 = .ok (.getfield 42, 3) := by decide +kernel
theorem dX2_search_19 : decode cX2_search 19 = .ok (.iload_n 2, 1) := by decide +kernel
theorem dX2_search_20 : decode cX2_search 20 = .ok (.invokestatic 45, 3) := by decide +kernel
theorem dX2_search_23 : decode cX2_search 23 = .ok (.ifCond .eq 5, 3) := by decide +kernel
theorem dX2_search_26 : decode cX2_search 26 = .ok (.iconst 0, 1) := by decide +kernel
theorem dX2_search_27 : decode cX2_search 27 = .ok (.ireturn, 1) := by decide +kernel
theorem dX2_search_28 : decode cX2_search 28 = .ok (.aload_n 0, 1) := by decide +kernel
theorem dX2_search_29 : decode cX2_search 29 = .ok (.getfield 17, 3) := by decide +kernel
theorem dX2_search_32 : decode cX2_search 32 = .ok (.iconst 0, 1) := by decide +kernel
theorem dX2_search_33 : decode cX2_search 33 = .ok (.aaload, 1) := by decide +kernel
theorem dX2_search_34 : decode cX2_search 34 = .ok (.aload_n 1, 1) := by decide +kernel
theorem dX2_search_35 : decode cX2_search 35 = .ok (.invokevirtual 49, 3) := by decide +kernel
theorem dX2_search_38 : decode cX2_search 38 = .ok (.aload_n 0, 1) := by decide +kernel
theorem dX2_search_39 : decode cX2_search 39 = .ok (.getfield 21, 3) := by decide +kernel
theorem dX2_search_42 : decode cX2_search 42 = .ok (.iconst 0, 1) := by decide +kernel
theorem dX2_search_43 : decode cX2_search 43 = .ok (.iconst (-1), 1) := by decide +kernel
theorem dX2_search_44 : decode cX2_search 44 = .ok (.iastore, 1) := by decide +kernel
theorem dX2_search_45 : decode cX2_search 45 = .ok (.aload_n 0, 1) := by decide +kernel
theorem dX2_search_46 : decode cX2_search 46 = .ok (.getfield 27, 3) := by decide +kernel
theorem dX2_search_49 : decode cX2_search 49 = .ok (.iconst 0, 1) := by decide +kernel
theorem dX2_search_50 : decode cX2_search 50 = .ok (.iconst 0, 1) := by decide +kernel
theorem dX2_search_51 : decode cX2_search 51 = .ok (.iastore, 1) := by decide +kernel
theorem dX2_search_52 : decode cX2_search 52 = .ok (.aload_n 0, 1) := by decide +kernel
theorem dX2_search_53 : decode cX2_search 53 = .ok (.iconst 1, 1) := by decide +kernel
theorem dX2_search_54 : decode cX2_search 54 = .ok (.putfield 53, 3) := by decide +kernel
theorem dX2_search_57 : decode cX2_search 57 = .ok (.iconst 0, 1) := by decide +kernel
theorem dX2_search_58 : decode cX2_search 58 = .ok (.istore 5, 2) := by decide +kernel
theorem dX2_search_60 : decode cX2_search 60 = .ok (.iload 5, 2) := by decide +kernel
theorem dX2_search_62 : decode cX2_search 62 = .ok (.aload_n 0, 1) := by decide +kernel
theorem dX2_search_63 : decode cX2_search 63 = .ok (.getfield 53, 3) := by decide +kernel
theorem dX2_search_66 : decode cX2_search 66 = .ok (.if_icmp .ge 113, 3) := by decide +kernel
theorem dX2_search_69 : decode cX2_search 69 = .ok (.iload 5, 2) := by decide +kernel
theorem dX2_search_71 : decode cX2_search 71 = .ok (.bipush 60, 2) := by decide +kernel
theorem dX2_search_73 : decode cX2_search 73 = .ok (.if_icmp .ge 106, 3) := by decide +kernel
theorem dX2_search_76 : decode cX2_search 76 = .ok (.aload_n 0, 1) := by decide +kernel
theorem dX2_search_77 : decode cX2_search 77 = .ok (.getfield 27, 3) := by decide +kernel
theorem dX2_search_80 : decode cX2_search 80 = .ok (.iload 5, 2) := by decide +kernel
theorem dX2_search_82 : decode cX2_search 82 = .ok (.iaload, 1) := by decide +kernel
theorem dX2_search_83 : decode cX2_search 83 = .ok (.iload 4, 2) := by decide +kernel
theorem dX2_search_85 : decode cX2_search 85 = .ok (.if_icmp .lt 5, 3) := by decide +kernel
theorem dX2_search_88 : decode cX2_search 88 = .ok (.iconst (-1), 1) := by decide +kernel
theorem dX2_search_89 : decode cX2_search 89 = .ok (.ireturn, 1) := by decide +kernel
theorem dX2_search_90 : decode cX2_search 90 = .ok (.aload_n 0, 1) := by decide +kernel
theorem dX2_search_91 : decode cX2_search 91 = .ok (.dup, 1) := by decide +kernel
theorem dX2_search_92 : decode cX2_search 92 = .ok (.getfield 39, 3) := by decide +kernel
theorem dX2_search_95 : decode cX2_search 95 = .ok (.iconst 1, 1) := by decide +kernel
theorem dX2_search_96 : decode cX2_search 96 = .ok (.iadd, 1) := by decide +kernel
theorem dX2_search_97 : decode cX2_search 97 = .ok (.putfield 39, 3) := by decide +kernel
theorem dX2_search_100 : decode cX2_search 100 = .ok (.iconst 0, 1) := by decide +kernel
theorem dX2_search_101 : decode cX2_search 101 = .ok (.istore 6, 2) := by decide +kernel
theorem dX2_search_103 : decode cX2_search 103 = .ok (.iload 6, 2) := by decide +kernel
theorem dX2_search_105 : decode cX2_search 105 = .ok (.bipush 10, 2) := by decide +kernel
theorem dX2_search_107 : decode cX2_search 107 = .ok (.if_icmp .gt 66, 3) := by decide +kernel
theorem dX2_search_110 : decode cX2_search 110 = .ok (.aload_n 0, 1) := by decide +kernel
theorem dX2_search_111 : decode cX2_search 111 = .ok (.getfield 30, 3) := by decide +kernel
theorem dX2_search_114 : decode cX2_search 114 = .ok (.getfield 56, 3) := by decide +kernel
theorem dX2_search_117 : decode cX2_search 117 = .ok (.aload_n 0, 1) := by decide +kernel
theorem dX2_search_118 : decode cX2_search 118 = .ok (.getfield 17, 3) := by decide +kernel
theorem dX2_search_121 : decode cX2_search 121 = .ok (.iload 5, 2) := by decide +kernel
theorem dX2_search_123 : decode cX2_search 123 = .ok (.aaload, 1) := by decide +kernel
theorem dX2_search_124 : decode cX2_search 124 = .ok (.invokevirtual 49, 3) := by decide +kernel
theorem dX2_search_127 : decode cX2_search 127 = .ok (.aload_n 0, 1) := by decide +kernel
theorem dX2_search_128 : decode cX2_search 128 = .ok (.getfield 30, 3) := by decide +kernel
theorem dX2_search_131 : decode cX2_search 131 = .ok (.iload 6, 2) := by decide +kernel
theorem dX2_search_133 : decode cX2_search 133 = .ok (.invokevirtual 62, 3) := by decide +kernel
theorem dX2_search_136 : decode cX2_search 136 = .ok (.pop, 1) := by decide +kernel
theorem dX2_search_137 : decode cX2_search 137 = .ok (.aload_n 0, 1) := by decide +kernel
theorem dX2_search_138 : decode cX2_search 138 = .ok (.iload_n 2, 1) := by decide +kernel
theorem dX2_search_139 : decode cX2_search 139 = .ok (.iload_n 3, 1) := by decide +kernel
theorem dX2_search_140 : decode cX2_search 140 = .ok (.invokevirtual 66, 3) := by decide +kernel
theorem dX2_search_143 : decode cX2_search 143 = .ok (.ifCond .eq 16, 3) := by decide +kernel
theorem dX2_search_146 : decode cX2_search 146 = .ok (.aload_n 0, 1) := by decide +kernel
theorem dX2_search_147 : decode cX2_search 147 = .ok (.iload 5, 2) := by decide +kernel
theorem dX2_search_149 : decode cX2_search 149 = .ok (.iload 6, 2) := by decide +kernel
theorem dX2_search_151 : decode cX2_search 151 = .ok (.invokevirtual 69, 3) := by decide +kernel
theorem dX2_search_154 : decode cX2_search 154 = .ok (.aload_n 0, 1) := by decide +kernel
theorem dX2_search_155 : decode cX2_search 155 = .ok (.getfield 35, 3) := by decide +kernel
theorem dX2_search_158 : decode cX2_search 158 = .ok (.ireturn, 1) := by decide +kernel
theorem dX2_search_159 : decode cX2_search 159 = .ok (.aload_n 0, 1) := by decide +kernel
theorem dX2_search_160 : decode cX2_search 160 = .ok (.iload 5, 2) := by decide +kernel
theorem dX2_search_162 : decode cX2_search 162 = .ok (.iload 6, 2) := by decide +kernel
theorem dX2_search_164 : decode cX2_search 164 = .ok (.invokevirtual 73, 3) := by decide +kernel
theorem dX2_search_167 : decode cX2_search 167 = .ok (.iinc 6 1, 3) := by decide +kernel
theorem dX2_search_170 : decode cX2_search 170 = .ok (.goto (-67), 3) := by decide +kernel
theorem dX2_search_173 : decode cX2_search 173 = .ok (.iinc 5 1, 3) := by decide +kernel
theorem dX2_search_176 : decode cX2_search 176 = .ok (.goto (-116), 3) := by decide +kernel
theorem dX2_search_179 : decode cX2_search 179 = .ok (.iconst (-1), 1) := by decide +kernel
theorem dX2_search_180 : decode cX2_search 180 = .ok (.ireturn, 1) := by decide +kernel
theorem dX7_checkResting_0 : decode cX7_checkResting 0 = .ok (.aload_n 0, 1) := by decide +kernel
theorem dX7_checkResting_1 : decode cX7_checkResting 1 = .ok (.getfield 37, 3) := by decide +kernel
theorem dX7_checkResting_4 : decode cX7_checkResting 4 = .ok (.ifCond .eq 11, 3) := by decide +kernel
theorem dX7_checkResting_7 : decode cX7_checkResting 7 = .ok (.new 45, 3) := by decide +kernel
theorem dX7_checkResting_10 : decode cX7_checkResting 10 = .ok (.dup, 1) := by decide +kernel
theorem dX7_checkResting_11 : decode cX7_checkResting 11 = .ok (.invokespecial 47, 3) := by decide +kernel
theorem dX7_checkResting_14 : decode cX7_checkResting 14 = .ok (.athrow, 1) := by decide +kernel
theorem dX7_checkResting_15 : decode cX7_checkResting 15 = .ok (.return_, 1) := by decide +kernel
theorem dX7_checkRunning_0 : decode cX7_checkRunning 0 = .ok (.aload_n 0, 1) := by decide +kernel
theorem dX7_checkRunning_1 : decode cX7_checkRunning 1 = .ok (.getfield 37, 3) := by decide +kernel
theorem dX7_checkRunning_4 : decode cX7_checkRunning 4 = .ok (.ifCond .ne 11, 3) := by decide +kernel
theorem dX7_checkRunning_7 : decode cX7_checkRunning 7 = .ok (.new 45, 3) := by decide +kernel
theorem dX7_checkRunning_10 : decode cX7_checkRunning 10 = .ok (.dup, 1) := by decide +kernel
theorem dX7_checkRunning_11 : decode cX7_checkRunning 11 = .ok (.invokespecial 47, 3) := by decide +kernel
theorem dX7_checkRunning_14 : decode cX7_checkRunning 14 = .ok (.athrow, 1) := by decide +kernel
theorem dX7_checkRunning_15 : decode cX7_checkRunning 15 = .ok (.return_, 1) := by decide +kernel
theorem dX7_checkState_0 : decode cX7_checkState 0 = .ok (.iload_n 1, 1) := by decide +kernel
theorem dX7_checkState_1 : decode cX7_checkState 1 = .ok (.iconst 0, 1) := by decide +kernel
theorem dX7_checkState_2 : decode cX7_checkState 2 = .ok (.aload_n 0, 1) := by decide +kernel
theorem dX7_checkState_3 : decode cX7_checkState 3 = .ok (.getfield 10, 3) := by decide +kernel
theorem dX7_checkState_6 : decode cX7_checkState 6 = .ok (.getfield 41, 3) := by decide +kernel
theorem dX7_checkState_9 : decode cX7_checkState 9 = .ok (.iconst 1, 1) := by decide +kernel
theorem dX7_checkState_10 : decode cX7_checkState 10 = .ok (.isub, 1) := by decide +kernel
theorem dX7_checkState_11 : decode cX7_checkState 11 = .ok (.invokestatic 52, 3) := by decide +kernel
theorem dX7_checkState_14 : decode cX7_checkState 14 = .ok (.ifCond .ne 11, 3) := by decide +kernel
theorem dX7_checkState_17 : decode cX7_checkState 17 = .ok (.new 200, 3) := by decide +kernel
theorem dX7_checkState_20 : decode cX7_checkState 20 = .ok (.dup, 1) := by decide +kernel
theorem dX7_checkState_21 : decode cX7_checkState 21 = .ok (.invokespecial 202, 3) := by decide +kernel
theorem dX7_checkState_24 : decode cX7_checkState 24 = .ok (.athrow, 1) := by decide +kernel
theorem dX7_checkState_25 : decode cX7_checkState 25 = .ok (.return_, 1) := by decide +kernel
theorem dX7_checkTransition_0 : decode cX7_checkTransition 0 = .ok (.iload_n 1, 1) := by decide +kernel
theorem dX7_checkTransition_1 : decode cX7_checkTransition 1 = .ok (.iconst 0, 1) := by decide +kernel
theorem dX7_checkTransition_2 : decode cX7_checkTransition 2 = .ok (.aload_n 0, 1) := by decide +kernel
theorem dX7_checkTransition_3 : decode cX7_checkTransition 3 = .ok (.getfield 10, 3) := by decide +kernel
theorem dX7_checkTransition_6 : decode cX7_checkTransition 6 = .ok (.getfield 111, 3) := by decide +kernel
theorem dX7_checkTransition_9 : decode cX7_checkTransition 9 = .ok (.iconst 1, 1) := by decide +kernel
theorem dX7_checkTransition_10 : decode cX7_checkTransition 10 = .ok (.isub, 1) := by decide +kernel
theorem dX7_checkTransition_11 : decode cX7_checkTransition 11 = .ok (.invokestatic 52, 3) := by decide +kernel
theorem dX7_checkTransition_14 : decode cX7_checkTransition 14 = .ok (.ifCond .ne 11, 3) := by decide +kernel
theorem dX7_checkTransition_17 : decode cX7_checkTransition 17 = .ok (.new 200, 3) := by decide +kernel
theorem dX7_checkTransition_20 : decode cX7_checkTransition 20 = .ok (.dup, 1) := by decide +kernel
theorem dX7_checkTransition_21 : decode cX7_checkTransition 21 = .ok (.invokespecial 202, 3) := by decide +kernel
theorem dX7_checkTransition_24 : decode cX7_checkTransition 24 = .ok (.athrow, 1) := by decide +kernel
theorem dX7_checkTransition_25 : decode cX7_checkTransition 25 = .ok (.return_, 1) := by decide +kernel
theorem dX7_checkEvent_0 : decode cX7_checkEvent 0 = .ok (.iload_n 0, 1) := by decide +kernel
theorem dX7_checkEvent_1 : decode cX7_checkEvent 1 = .ok (.iconst 0, 1) := by decide +kernel
theorem dX7_checkEvent_2 : decode cX7_checkEvent 2 = .ok (.bipush 9, 2) := by decide +kernel
theorem dX7_checkEvent_4 : decode cX7_checkEvent 4 = .ok (.invokestatic 52, 3) := by decide +kernel
theorem dX7_checkEvent_7 : decode cX7_checkEvent 7 = .ok (.ifCond .ne 11, 3) := by decide +kernel
theorem dX7_checkEvent_10 : decode cX7_checkEvent 10 = .ok (.new 66, 3) := by decide +kernel
theorem dX7_checkEvent_13 : decode cX7_checkEvent 13 = .ok (.dup, 1) := by decide +kernel
theorem dX7_checkEvent_14 : decode cX7_checkEvent 14 = .ok (.invokespecial 68, 3) := by decide +kernel
theorem dX7_checkEvent_17 : decode cX7_checkEvent 17 = .ok (.athrow, 1) := by decide +kernel
theorem dX7_checkEvent_18 : decode cX7_checkEvent 18 = .ok (.return_, 1) := by decide +kernel
theorem dX7_checkMost_0 : decode cX7_checkMost 0 = .ok (.iload_n 0, 1) := by decide +kernel
theorem dX7_checkMost_1 : decode cX7_checkMost 1 = .ok (.iconst 1, 1) := by decide +kernel
theorem dX7_checkMost_2 : decode cX7_checkMost 2 = .ok (.bipush 8, 2) := by decide +kernel
theorem dX7_checkMost_4 : decode cX7_checkMost 4 = .ok (.invokestatic 52, 3) := by decide +kernel
theorem dX7_checkMost_7 : decode cX7_checkMost 7 = .ok (.ifCond .ne 11, 3) := by decide +kernel
theorem dX7_checkMost_10 : decode cX7_checkMost 10 = .ok (.new 66, 3) := by decide +kernel
theorem dX7_checkMost_13 : decode cX7_checkMost 13 = .ok (.dup, 1) := by decide +kernel
theorem dX7_checkMost_14 : decode cX7_checkMost 14 = .ok (.invokespecial 68, 3) := by decide +kernel
theorem dX7_checkMost_17 : decode cX7_checkMost 17 = .ok (.athrow, 1) := by decide +kernel
theorem dX7_checkMost_18 : decode cX7_checkMost 18 = .ok (.return_, 1) := by decide +kernel
theorem dX7_isTrigger_0 : decode cX7_isTrigger 0 = .ok (.iload_n 0, 1) := by decide +kernel
theorem dX7_isTrigger_1 : decode cX7_isTrigger 1 = .ok (.ifCond .ne 11, 3) := by decide +kernel
theorem dX7_isTrigger_4 : decode cX7_isTrigger 4 = .ok (.iload_n 1, 1) := by decide +kernel
theorem dX7_isTrigger_5 : decode cX7_isTrigger 5 = .ok (.iconst 0, 1) := by decide +kernel
theorem dX7_isTrigger_6 : decode cX7_isTrigger 6 = .ok (.bipush 9, 2) := by decide +kernel
theorem dX7_isTrigger_8 : decode cX7_isTrigger 8 = .ok (.invokestatic 52, 3) := by decide +kernel
theorem dX7_isTrigger_11 : decode cX7_isTrigger 11 = .ok (.ireturn, 1) := by decide +kernel
theorem dX7_isTrigger_12 : decode cX7_isTrigger 12 = .ok (.iload_n 0, 1) := by decide +kernel
theorem dX7_isTrigger_13 : decode cX7_isTrigger 13 = .ok (.iconst 1, 1) := by decide +kernel
theorem dX7_isTrigger_14 : decode cX7_isTrigger 14 = .ok (.if_icmp .ne 11, 3) := by decide +kernel
theorem dX7_isTrigger_17 : decode cX7_isTrigger 17 = .ok (.iload_n 1, 1) := by decide +kernel
theorem dX7_isTrigger_18 : decode cX7_isTrigger 18 = .ok (.iconst 1, 1) := by decide +kernel
theorem dX7_isTrigger_19 : decode cX7_isTrigger 19 = .ok (.bipush 50, 2) := by decide +kernel
theorem dX7_isTrigger_21 : decode cX7_isTrigger 21 = .ok (.invokestatic 52, 3) := by decide +kernel
theorem dX7_isTrigger_24 : decode cX7_isTrigger 24 = .ok (.ireturn, 1) := by decide +kernel
theorem dX7_isTrigger_25 : decode cX7_isTrigger 25 = .ok (.iload_n 0, 1) := by decide +kernel
theorem dX7_isTrigger_26 : decode cX7_isTrigger 26 = .ok (.iconst 2, 1) := by decide +kernel
theorem dX7_isTrigger_27 : decode cX7_isTrigger 27 = .ok (.if_icmp .eq 8, 3) := by decide +kernel
theorem dX7_isTrigger_30 : decode cX7_isTrigger 30 = .ok (.iload_n 0, 1) := by decide +kernel
theorem dX7_isTrigger_31 : decode cX7_isTrigger 31 = .ok (.iconst 3, 1) := by decide +kernel
theorem dX7_isTrigger_32 : decode cX7_isTrigger 32 = .ok (.if_icmp .ne 7, 3) := by decide +kernel
theorem dX7_isTrigger_35 : decode cX7_isTrigger 35 = .ok (.iconst 1, 1) := by decide +kernel
theorem dX7_isTrigger_36 : decode cX7_isTrigger 36 = .ok (.goto 4, 3) := by decide +kernel
theorem dX7_isTrigger_39 : decode cX7_isTrigger 39 = .ok (.iconst 0, 1) := by decide +kernel
theorem dX7_isTrigger_40 : decode cX7_isTrigger 40 = .ok (.ireturn, 1) := by decide +kernel
theorem dX7_isGuard_0 : decode cX7_isGuard 0 = .ok (.iload_n 0, 1) := by decide +kernel
theorem dX7_isGuard_1 : decode cX7_isGuard 1 = .ok (.ifCond .ne 5, 3) := by decide +kernel
theorem dX7_isGuard_4 : decode cX7_isGuard 4 = .ok (.iconst 1, 1) := by decide +kernel
theorem dX7_isGuard_5 : decode cX7_isGuard 5 = .ok (.ireturn, 1) := by decide +kernel
theorem dX7_isGuard_6 : decode cX7_isGuard 6 = .ok (.iload_n 0, 1) := by decide +kernel
theorem dX7_isGuard_7 : decode cX7_isGuard 7 = .ok (.iconst 1, 1) := by decide +kernel
theorem dX7_isGuard_8 : decode cX7_isGuard 8 = .ok (.iconst 3, 1) := by decide +kernel
theorem dX7_isGuard_9 : decode cX7_isGuard 9 = .ok (.invokestatic 52, 3) := by decide +kernel
theorem dX7_isGuard_12 : decode cX7_isGuard 12 = .ok (.ifCond .eq 23, 3) := by decide +kernel
theorem dX7_isGuard_15 : decode cX7_isGuard 15 = .ok (.iload_n 1, 1) := by decide +kernel
theorem dX7_isGuard_16 : decode cX7_isGuard 16 = .ok (.iconst 0, 1) := by decide +kernel
theorem dX7_isGuard_17 : decode cX7_isGuard 17 = .ok (.iconst 3, 1) := by decide +kernel
theorem dX7_isGuard_18 : decode cX7_isGuard 18 = .ok (.invokestatic 52, 3) := by decide +kernel
theorem dX7_isGuard_21 : decode cX7_isGuard 21 = .ok (.ifCond .eq 14, 3) := by decide +kernel
theorem dX7_isGuard_24 : decode cX7_isGuard 24 = .ok (.iload_n 2, 1) := by decide +kernel
theorem dX7_isGuard_25 : decode cX7_isGuard 25 = .ok (.invokestatic 290, 3) := by decide +kernel
theorem dX7_isGuard_28 : decode cX7_isGuard 28 = .ok (.ifCond .eq 7, 3) := by decide +kernel
theorem dX7_isGuard_31 : decode cX7_isGuard 31 = .ok (.iconst 1, 1) := by decide +kernel
theorem dX7_isGuard_32 : decode cX7_isGuard 32 = .ok (.goto 4, 3) := by decide +kernel
theorem dX7_isGuard_35 : decode cX7_isGuard 35 = .ok (.iconst 0, 1) := by decide +kernel
theorem dX7_isGuard_36 : decode cX7_isGuard 36 = .ok (.ireturn, 1) := by decide +kernel
theorem dX7_isAction_0 : decode cX7_isAction 0 = .ok (.iload_n 0, 1) := by decide +kernel
theorem dX7_isAction_1 : decode cX7_isAction 1 = .ok (.ifCond .ne 5, 3) := by decide +kernel
theorem dX7_isAction_4 : decode cX7_isAction 4 = .ok (.iconst 1, 1) := by decide +kernel
theorem dX7_isAction_5 : decode cX7_isAction 5 = .ok (.ireturn, 1) := by decide +kernel
theorem dX7_isAction_6 : decode cX7_isAction 6 = .ok (.iload_n 0, 1) := by decide +kernel
theorem dX7_isAction_7 : decode cX7_isAction 7 = .ok (.iconst 3, 1) := by decide +kernel
theorem dX7_isAction_8 : decode cX7_isAction 8 = .ok (.if_icmp .ne 11, 3) := by decide +kernel
theorem dX7_isAction_11 : decode cX7_isAction 11 = .ok (.iload_n 1, 1) := by decide +kernel
theorem dX7_isAction_12 : decode cX7_isAction 12 = .ok (.iconst 0, 1) := by decide +kernel
theorem dX7_isAction_13 : decode cX7_isAction 13 = .ok (.bipush 9, 2) := by decide +kernel
theorem dX7_isAction_15 : decode cX7_isAction 15 = .ok (.invokestatic 52, 3) := by decide +kernel
theorem dX7_isAction_18 : decode cX7_isAction 18 = .ok (.ireturn, 1) := by decide +kernel
theorem dX7_isAction_19 : decode cX7_isAction 19 = .ok (.iload_n 0, 1) := by decide +kernel
theorem dX7_isAction_20 : decode cX7_isAction 20 = .ok (.iconst 1, 1) := by decide +kernel
theorem dX7_isAction_21 : decode cX7_isAction 21 = .ok (.iconst 2, 1) := by decide +kernel
theorem dX7_isAction_22 : decode cX7_isAction 22 = .ok (.invokestatic 52, 3) := by decide +kernel
theorem dX7_isAction_25 : decode cX7_isAction 25 = .ok (.ifCond .eq 23, 3) := by decide +kernel
theorem dX7_isAction_28 : decode cX7_isAction 28 = .ok (.iload_n 1, 1) := by decide +kernel
theorem dX7_isAction_29 : decode cX7_isAction 29 = .ok (.iconst 0, 1) := by decide +kernel
theorem dX7_isAction_30 : decode cX7_isAction 30 = .ok (.iconst 3, 1) := by decide +kernel
theorem dX7_isAction_31 : decode cX7_isAction 31 = .ok (.invokestatic 52, 3) := by decide +kernel
theorem dX7_isAction_34 : decode cX7_isAction 34 = .ok (.ifCond .eq 14, 3) := by decide +kernel
theorem dX7_isAction_37 : decode cX7_isAction 37 = .ok (.iload_n 2, 1) := by decide +kernel
theorem dX7_isAction_38 : decode cX7_isAction 38 = .ok (.invokestatic 290, 3) := by decide +kernel
theorem dX7_isAction_41 : decode cX7_isAction 41 = .ok (.ifCond .eq 7, 3) := by decide +kernel
theorem dX7_isAction_44 : decode cX7_isAction 44 = .ok (.iconst 1, 1) := by decide +kernel
theorem dX7_isAction_45 : decode cX7_isAction 45 = .ok (.goto 4, 3) := by decide +kernel
theorem dX7_isAction_48 : decode cX7_isAction 48 = .ok (.iconst 0, 1) := by decide +kernel
theorem dX7_isAction_49 : decode cX7_isAction 49 = .ok (.ireturn, 1) := by decide +kernel
theorem dX7_addState_0 : decode cX7_addState 0 = .ok (.aload_n 0, 1) := by decide +kernel
theorem dX7_addState_1 : decode cX7_addState 1 = .ok (.getfield 37, 3) := by decide +kernel
theorem dX7_addState_4 : decode cX7_addState 4 = .ok (.ifCond .ne 15, 3) := by decide +kernel
theorem dX7_addState_7 : decode cX7_addState 7 = .ok (.aload_n 0, 1) := by decide +kernel
theorem dX7_addState_8 : decode cX7_addState 8 = .ok (.getfield 10, 3) := by decide +kernel
theorem dX7_addState_11 : decode cX7_addState 11 = .ok (.getfield 41, 3) := by decide +kernel
theorem dX7_addState_14 : decode cX7_addState 14 = .ok (.bipush 20, 2) := by decide +kernel
theorem dX7_addState_16 : decode cX7_addState 16 = .ok (.if_icmp .lt 11, 3) := by decide +kernel
theorem dX7_addState_19 : decode cX7_addState 19 = .ok (.new 45, 3) := by decide +kernel
theorem dX7_addState_22 : decode cX7_addState 22 = .ok (.dup, 1) := by decide +kernel
theorem dX7_addState_23 : decode cX7_addState 23 = .ok (.invokespecial 47, 3) := by decide +kernel
theorem dX7_addState_26 : decode cX7_addState 26 = .ok (.athrow, 1) := by decide +kernel
theorem dX7_addState_27 : decode cX7_addState 27 = .ok (.aload_n 0, 1) := by decide +kernel
theorem dX7_addState_28 : decode cX7_addState 28 = .ok (.iload_n 1, 1) := by decide +kernel
theorem dX7_addState_29 : decode cX7_addState 29 = .ok (.invokevirtual 48, 3) := by decide +kernel
theorem dX7_addState_32 : decode cX7_addState 32 = .ok (.iload_n 2, 1) := by decide +kernel
theorem dX7_addState_33 : decode cX7_addState 33 = .ok (.iconst 0, 1) := by decide +kernel
theorem dX7_addState_34 : decode cX7_addState 34 = .ok (.iconst 4, 1) := by decide +kernel
theorem dX7_addState_35 : decode cX7_addState 35 = .ok (.invokestatic 52, 3) := by decide +kernel
theorem dX7_addState_38 : decode cX7_addState 38 = .ok (.ifCond .eq 18, 3) := by decide +kernel
theorem dX7_addState_41 : decode cX7_addState 41 = .ok (.aload_n 0, 1) := by decide +kernel
theorem dX7_addState_42 : decode cX7_addState 42 = .ok (.getfield 10, 3) := by decide +kernel
theorem dX7_addState_45 : decode cX7_addState 45 = .ok (.getfield 56, 3) := by decide +kernel
theorem dX7_addState_48 : decode cX7_addState 48 = .ok (.iload_n 1, 1) := by decide +kernel
theorem dX7_addState_49 : decode cX7_addState 49 = .ok (.aaload, 1) := by decide +kernel
theorem dX7_addState_50 : decode cX7_addState 50 = .ok (.invokevirtual 60, 3) := by decide +kernel
theorem dX7_addState_53 : decode cX7_addState 53 = .ok (.ifCond .ne 11, 3) := by decide +kernel
theorem dX7_addState_56 : decode cX7_addState 56 = .ok (.new 66, 3) := by decide +kernel
theorem dX7_addState_59 : decode cX7_addState 59 = .ok (.dup, 1) := by decide +kernel
theorem dX7_addState_60 : decode cX7_addState 60 = .ok (.invokespecial 68, 3) := by decide +kernel
theorem dX7_addState_63 : decode cX7_addState 63 = .ok (.athrow, 1) := by decide +kernel
theorem dX7_addState_64 : decode cX7_addState 64 = .ok (.iload_n 2, 1) := by decide +kernel
theorem dX7_addState_65 : decode cX7_addState 65 = .ok (.iconst 2, 1) := by decide +kernel
theorem dX7_addState_66 : decode cX7_addState 66 = .ok (.if_icmp .ne 27, 3) := by decide +kernel
theorem dX7_addState_69 : decode cX7_addState 69 = .ok (.aload_n 0, 1) := by decide +kernel
theorem dX7_addState_70 : decode cX7_addState 70 = .ok (.getfield 10, 3) := by decide +kernel
theorem dX7_addState_73 : decode cX7_addState 73 = .ok (.getfield 56, 3) := by decide +kernel
theorem dX7_addState_76 : decode cX7_addState 76 = .ok (.iload_n 1, 1) := by decide +kernel
theorem dX7_addState_77 : decode cX7_addState 77 = .ok (.aaload, 1) := by decide +kernel
theorem dX7_addState_78 : decode cX7_addState 78 = .ok (.getfield 69, 3) := by decide +kernel
theorem dX7_addState_81 : decode cX7_addState 81 = .ok (.iconst 1, 1) := by decide +kernel
theorem dX7_addState_82 : decode cX7_addState 82 = .ok (.if_icmp .ne 11, 3) := by decide +kernel
theorem dX7_addState_85 : decode cX7_addState 85 = .ok (.new 66, 3) := by decide +kernel
theorem dX7_addState_88 : decode cX7_addState 88 = .ok (.dup, 1) := by decide +kernel
theorem dX7_addState_89 : decode cX7_addState 89 = .ok (.invokespecial 68, 3) := by decide +kernel
theorem dX7_addState_92 : decode cX7_addState 92 = .ok (.athrow, 1) := by decide +kernel
theorem dX7_addState_93 : decode cX7_addState 93 = .ok (.aload_n 0, 1) := by decide +kernel
theorem dX7_addState_94 : decode cX7_addState 94 = .ok (.getfield 10, 3) := by decide +kernel
theorem dX7_addState_97 : decode cX7_addState 97 = .ok (.iload_n 1, 1) := by decide +kernel
theorem dX7_addState_98 : decode cX7_addState 98 = .ok (.iload_n 2, 1) := by decide +kernel
theorem dX7_addState_99 : decode cX7_addState 99 = .ok (.invokevirtual 72, 3) := by decide +kernel
theorem dX7_addState_102 : decode cX7_addState 102 = .ok (.ireturn, 1) := by decide +kernel
theorem dX7_setFirst_0 : decode cX7_setFirst 0 = .ok (.aload_n 0, 1) := by decide +kernel
theorem dX7_setFirst_1 : decode cX7_setFirst 1 = .ok (.invokevirtual 76, 3) := by decide +kernel
theorem dX7_setFirst_4 : decode cX7_setFirst 4 = .ok (.aload_n 0, 1) := by decide +kernel
theorem dX7_setFirst_5 : decode cX7_setFirst 5 = .ok (.iload_n 1, 1) := by decide +kernel
theorem dX7_setFirst_6 : decode cX7_setFirst 6 = .ok (.invokevirtual 48, 3) := by decide +kernel
theorem dX7_setFirst_9 : decode cX7_setFirst 9 = .ok (.aload_n 0, 1) := by decide +kernel
theorem dX7_setFirst_10 : decode cX7_setFirst 10 = .ok (.iload_n 2, 1) := by decide +kernel
theorem dX7_setFirst_11 : decode cX7_setFirst 11 = .ok (.invokevirtual 48, 3) := by decide +kernel
theorem dX7_setFirst_14 : decode cX7_setFirst 14 = .ok (.aload_n 0, 1) := by decide +kernel
theorem dX7_setFirst_15 : decode cX7_setFirst 15 = .ok (.getfield 10, 3) := by decide +kernel
theorem dX7_setFirst_18 : decode cX7_setFirst 18 = .ok (.getfield 56, 3) := by decide +kernel
theorem dX7_setFirst_21 : decode cX7_setFirst 21 = .ok (.iload_n 1, 1) := by decide +kernel
theorem dX7_setFirst_22 : decode cX7_setFirst 22 = .ok (.aaload, 1) := by decide +kernel
theorem dX7_setFirst_23 : decode cX7_setFirst 23 = .ok (.astore_n 3, 1) := by decide +kernel
theorem dX7_setFirst_24 : decode cX7_setFirst 24 = .ok (.aload_n 3, 1) := by decide +kernel
theorem dX7_setFirst_25 : decode cX7_setFirst 25 = .ok (.getfield 69, 3) := by decide +kernel
theorem dX7_setFirst_28 : decode cX7_setFirst 28 = .ok (.ifCond .ne 14, 3) := by decide +kernel
theorem dX7_setFirst_31 : decode cX7_setFirst 31 = .ok (.aload_n 3, 1) := by decide +kernel
theorem dX7_setFirst_32 : decode cX7_setFirst 32 = .ok (.getfield 79, 3) := by decide +kernel
theorem dX7_setFirst_35 : decode cX7_setFirst 35 = .ok (.iload_n 2, 1) := by decide +kernel
theorem dX7_setFirst_36 : decode cX7_setFirst 36 = .ok (.invokestatic 82, 3) := by decide +kernel
theorem dX7_setFirst_39 : decode cX7_setFirst 39 = .ok (.ifCond .ne 11, 3) := by decide +kernel
theorem dX7_setFirst_42 : decode cX7_setFirst 42 = .ok (.new 66, 3) := by decide +kernel
theorem dX7_setFirst_45 : decode cX7_setFirst 45 = .ok (.dup, 1) := by decide +kernel
theorem dX7_setFirst_46 : decode cX7_setFirst 46 = .ok (.invokespecial 68, 3) := by decide +kernel
theorem dX7_setFirst_49 : decode cX7_setFirst 49 = .ok (.athrow, 1) := by decide +kernel
theorem dX7_setFirst_50 : decode cX7_setFirst 50 = .ok (.aload_n 3, 1) := by decide +kernel
theorem dX7_setFirst_51 : decode cX7_setFirst 51 = .ok (.getfield 86, 3) := by decide +kernel
theorem dX7_setFirst_54 : decode cX7_setFirst 54 = .ok (.istore 4, 2) := by decide +kernel
theorem dX7_setFirst_56 : decode cX7_setFirst 56 = .ok (.aload_n 3, 1) := by decide +kernel
theorem dX7_setFirst_57 : decode cX7_setFirst 57 = .ok (.iload_n 2, 1) := by decide +kernel
theorem dX7_setFirst_58 : decode cX7_setFirst 58 = .ok (.invokevirtual 89, 3) := by decide +kernel
theorem dX7_setFirst_61 : decode cX7_setFirst 61 = .ok (.iload 4, 2) := by decide +kernel
theorem dX7_setFirst_63 : decode cX7_setFirst 63 = .ok (.ireturn, 1) := by decide +kernel
theorem dX7_setDoing_0 : decode cX7_setDoing 0 = .ok (.aload_n 0, 1) := by decide +kernel
theorem dX7_setDoing_1 : decode cX7_setDoing 1 = .ok (.invokevirtual 76, 3) := by decide +kernel
theorem dX7_setDoing_4 : decode cX7_setDoing 4 = .ok (.aload_n 0, 1) := by decide +kernel
theorem dX7_setDoing_5 : decode cX7_setDoing 5 = .ok (.iload_n 1, 1) := by decide +kernel
theorem dX7_setDoing_6 : decode cX7_setDoing 6 = .ok (.invokevirtual 48, 3) := by decide +kernel
theorem dX7_setDoing_9 : decode cX7_setDoing 9 = .ok (.aload_n 0, 1) := by decide +kernel
theorem dX7_setDoing_10 : decode cX7_setDoing 10 = .ok (.getfield 10, 3) := by decide +kernel
theorem dX7_setDoing_13 : decode cX7_setDoing 13 = .ok (.getfield 56, 3) := by decide +kernel
theorem dX7_setDoing_16 : decode cX7_setDoing 16 = .ok (.iload_n 1, 1) := by decide +kernel
theorem dX7_setDoing_17 : decode cX7_setDoing 17 = .ok (.aaload, 1) := by decide +kernel
theorem dX7_setDoing_18 : decode cX7_setDoing 18 = .ok (.astore 6, 2) := by decide +kernel
theorem dX7_setDoing_20 : decode cX7_setDoing 20 = .ok (.aload 6, 2) := by decide +kernel
theorem dX7_setDoing_22 : decode cX7_setDoing 22 = .ok (.invokevirtual 92, 3) := by decide +kernel
theorem dX7_setDoing_25 : decode cX7_setDoing 25 = .ok (.ifCond .ne 14, 3) := by decide +kernel
theorem dX7_setDoing_28 : decode cX7_setDoing 28 = .ok (.iload_n 3, 1) := by decide +kernel
theorem dX7_setDoing_29 : decode cX7_setDoing 29 = .ok (.iload 4, 2) := by decide +kernel
theorem dX7_setDoing_31 : decode cX7_setDoing 31 = .ok (.iload 5, 2) := by decide +kernel
theorem dX7_setDoing_33 : decode cX7_setDoing 33 = .ok (.invokestatic 95, 3) := by decide +kernel
theorem dX7_setDoing_36 : decode cX7_setDoing 36 = .ok (.ifCond .ne 11, 3) := by decide +kernel
theorem dX7_setDoing_39 : decode cX7_setDoing 39 = .ok (.new 66, 3) := by decide +kernel
theorem dX7_setDoing_42 : decode cX7_setDoing 42 = .ok (.dup, 1) := by decide +kernel
theorem dX7_setDoing_43 : decode cX7_setDoing 43 = .ok (.invokespecial 68, 3) := by decide +kernel
theorem dX7_setDoing_46 : decode cX7_setDoing 46 = .ok (.athrow, 1) := by decide +kernel
theorem dX7_setDoing_47 : decode cX7_setDoing 47 = .ok (.iload_n 2, 1) := by decide +kernel
theorem dX7_setDoing_48 : decode cX7_setDoing 48 = .ok (.ifCond .eq 11, 3) := by decide +kernel
theorem dX7_setDoing_51 : decode cX7_setDoing 51 = .ok (.aload 6, 2) := by decide +kernel
theorem dX7_setDoing_53 : decode cX7_setDoing 53 = .ok (.getfield 98, 3) := by decide +kernel
theorem dX7_setDoing_56 : decode cX7_setDoing 56 = .ok (.goto 8, 3) := by decide +kernel
theorem dX7_setDoing_59 : decode cX7_setDoing 59 = .ok (.aload 6, 2) := by decide +kernel
theorem dX7_setDoing_61 : decode cX7_setDoing 61 = .ok (.getfield 102, 3) := by decide +kernel
theorem dX7_setDoing_64 : decode cX7_setDoing 64 = .ok (.astore 7, 2) := by decide +kernel
theorem dX7_setDoing_66 : decode cX7_setDoing 66 = .ok (.aload 7, 2) := by decide +kernel
theorem dX7_setDoing_68 : decode cX7_setDoing 68 = .ok (.iload_n 3, 1) := by decide +kernel
theorem dX7_setDoing_69 : decode cX7_setDoing 69 = .ok (.iload 4, 2) := by decide +kernel
theorem dX7_setDoing_71 : decode cX7_setDoing 71 = .ok (.iload 5, 2) := by decide +kernel
theorem dX7_setDoing_73 : decode cX7_setDoing 73 = .ok (.invokevirtual 105, 3) := by decide +kernel
theorem dX7_setDoing_76 : decode cX7_setDoing 76 = .ok (.ireturn, 1) := by decide +kernel
theorem dX7_addTransition_0 : decode cX7_addTransition 0 = .ok (.aload_n 0, 1) := by decide +kernel
theorem dX7_addTransition_1 : decode cX7_addTransition 1 = .ok (.getfield 37, 3) := by decide +kernel
theorem dX7_addTransition_4 : decode cX7_addTransition 4 = .ok (.ifCond .ne 15, 3) := by decide +kernel
theorem dX7_addTransition_7 : decode cX7_addTransition 7 = .ok (.aload_n 0, 1) := by decide +kernel
theorem dX7_addTransition_8 : decode cX7_addTransition 8 = .ok (.getfield 10, 3) := by decide +kernel
theorem dX7_addTransition_11 : decode cX7_addTransition 11 = .ok (.getfield 111, 3) := by decide +kernel
theorem dX7_addTransition_14 : decode cX7_addTransition 14 = .ok (.bipush 30, 2) := by decide +kernel
theorem dX7_addTransition_16 : decode cX7_addTransition 16 = .ok (.if_icmp .lt 11, 3) := by decide +kernel
theorem dX7_addTransition_19 : decode cX7_addTransition 19 = .ok (.new 45, 3) := by decide +kernel
theorem dX7_addTransition_22 : decode cX7_addTransition 22 = .ok (.dup, 1) := by decide +kernel
theorem dX7_addTransition_23 : decode cX7_addTransition 23 = .ok (.invokespecial 47, 3) := by decide +kernel
theorem dX7_addTransition_26 : decode cX7_addTransition 26 = .ok (.athrow, 1) := by decide +kernel
theorem dX7_addTransition_27 : decode cX7_addTransition 27 = .ok (.aload_n 0, 1) := by decide +kernel
theorem dX7_addTransition_28 : decode cX7_addTransition 28 = .ok (.iload_n 1, 1) := by decide +kernel
theorem dX7_addTransition_29 : decode cX7_addTransition 29 = .ok (.invokevirtual 48, 3) := by decide +kernel
theorem dX7_addTransition_32 : decode cX7_addTransition 32 = .ok (.iload 4, 2) := by decide +kernel
theorem dX7_addTransition_34 : decode cX7_addTransition 34 = .ok (.iconst (-1), 1) := by decide +kernel
theorem dX7_addTransition_35 : decode cX7_addTransition 35 = .ok (.if_icmp .eq 9, 3) := by decide +kernel
theorem dX7_addTransition_38 : decode cX7_addTransition 38 = .ok (.aload_n 0, 1) := by decide +kernel
theorem dX7_addTransition_39 : decode cX7_addTransition 39 = .ok (.iload 4, 2) := by decide +kernel
theorem dX7_addTransition_41 : decode cX7_addTransition 41 = .ok (.invokevirtual 48, 3) := by decide +kernel
theorem dX7_addTransition_44 : decode cX7_addTransition 44 = .ok (.aload_n 0, 1) := by decide +kernel
theorem dX7_addTransition_45 : decode cX7_addTransition 45 = .ok (.getfield 10, 3) := by decide +kernel
theorem dX7_addTransition_48 : decode cX7_addTransition 48 = .ok (.getfield 56, 3) := by decide +kernel
theorem dX7_addTransition_51 : decode cX7_addTransition 51 = .ok (.iload_n 1, 1) := by decide +kernel
theorem dX7_addTransition_52 : decode cX7_addTransition 52 = .ok (.aaload, 1) := by decide +kernel
theorem dX7_addTransition_53 : decode cX7_addTransition 53 = .ok (.invokevirtual 60, 3) := by decide +kernel
theorem dX7_addTransition_56 : decode cX7_addTransition 56 = .ok (.ifCond .eq 11, 3) := by decide +kernel
theorem dX7_addTransition_59 : decode cX7_addTransition 59 = .ok (.iload_n 2, 1) := by decide +kernel
theorem dX7_addTransition_60 : decode cX7_addTransition 60 = .ok (.iload_n 3, 1) := by decide +kernel
theorem dX7_addTransition_61 : decode cX7_addTransition 61 = .ok (.invokestatic 114, 3) := by decide +kernel
theorem dX7_addTransition_64 : decode cX7_addTransition 64 = .ok (.ifCond .ne 11, 3) := by decide +kernel
theorem dX7_addTransition_67 : decode cX7_addTransition 67 = .ok (.new 66, 3) := by decide +kernel
theorem dX7_addTransition_70 : decode cX7_addTransition 70 = .ok (.dup, 1) := by decide +kernel
theorem dX7_addTransition_71 : decode cX7_addTransition 71 = .ok (.invokespecial 68, 3) := by decide +kernel
theorem dX7_addTransition_74 : decode cX7_addTransition 74 = .ok (.athrow, 1) := by decide +kernel
theorem dX7_addTransition_75 : decode cX7_addTransition 75 = .ok (.iload 4, 2) := by decide +kernel
theorem dX7_addTransition_77 : decode cX7_addTransition 77 = .ok (.ifCond .eq 13, 3) := by decide +kernel
theorem dX7_addTransition_80 : decode cX7_addTransition 80 = .ok (.iload_n 1, 1) := by decide +kernel
theorem dX7_addTransition_81 : decode cX7_addTransition 81 = .ok (.ifCond .ne 17, 3) := by decide +kernel
theorem dX7_addTransition_84 : decode cX7_addTransition 84 = .ok (.iload 4, 2) := by decide +kernel
theorem dX7_addTransition_86 : decode cX7_addTransition 86 = .ok (.iconst (-1), 1) := by decide +kernel
theorem dX7_addTransition_87 : decode cX7_addTransition 87 = .ok (.if_icmp .eq 11, 3) := by decide +kernel
theorem dX7_addTransition_90 : decode cX7_addTransition 90 = .ok (.new 66, 3) := by decide +kernel
theorem dX7_addTransition_93 : decode cX7_addTransition 93 = .ok (.dup, 1) := by decide +kernel
theorem dX7_addTransition_94 : decode cX7_addTransition 94 = .ok (.invokespecial 68, 3) := by decide +kernel
theorem dX7_addTransition_97 : decode cX7_addTransition 97 = .ok (.athrow, 1) := by decide +kernel
theorem dX7_addTransition_98 : decode cX7_addTransition 98 = .ok (.aload_n 0, 1) := by decide +kernel
theorem dX7_addTransition_99 : decode cX7_addTransition 99 = .ok (.getfield 10, 3) := by decide +kernel
theorem dX7_addTransition_102 : decode cX7_addTransition 102 = .ok (.iload_n 1, 1) := by decide +kernel
theorem dX7_addTransition_103 : decode cX7_addTransition 103 = .ok (.iload_n 2, 1) := by decide +kernel
theorem dX7_addTransition_104 : decode cX7_addTransition 104 = .ok (.iload_n 3, 1) := by decide +kernel
theorem dX7_addTransition_105 : decode cX7_addTransition 105 = .ok (.iload 4, 2) := by decide +kernel
theorem dX7_addTransition_107 : decode cX7_addTransition 107 = .ok (.invokevirtual 117, 3) := by decide +kernel
theorem dX7_addTransition_110 : decode cX7_addTransition 110 = .ok (.ireturn, 1) := by decide +kernel
theorem dX7_setGuard_0 : decode cX7_setGuard 0 = .ok (.aload_n 0, 1) := by decide +kernel
theorem dX7_setGuard_1 : decode cX7_setGuard 1 = .ok (.invokevirtual 76, 3) := by decide +kernel
theorem dX7_setGuard_4 : decode cX7_setGuard 4 = .ok (.aload_n 0, 1) := by decide +kernel
theorem dX7_setGuard_5 : decode cX7_setGuard 5 = .ok (.iload_n 1, 1) := by decide +kernel
theorem dX7_setGuard_6 : decode cX7_setGuard 6 = .ok (.invokevirtual 121, 3) := by decide +kernel
theorem dX7_setGuard_9 : decode cX7_setGuard 9 = .ok (.iload_n 2, 1) := by decide +kernel
theorem dX7_setGuard_10 : decode cX7_setGuard 10 = .ok (.iload_n 3, 1) := by decide +kernel
theorem dX7_setGuard_11 : decode cX7_setGuard 11 = .ok (.iload 4, 2) := by decide +kernel
theorem dX7_setGuard_13 : decode cX7_setGuard 13 = .ok (.invokestatic 124, 3) := by decide +kernel
theorem dX7_setGuard_16 : decode cX7_setGuard 16 = .ok (.ifCond .ne 11, 3) := by decide +kernel
theorem dX7_setGuard_19 : decode cX7_setGuard 19 = .ok (.new 66, 3) := by decide +kernel
theorem dX7_setGuard_22 : decode cX7_setGuard 22 = .ok (.dup, 1) := by decide +kernel
theorem dX7_setGuard_23 : decode cX7_setGuard 23 = .ok (.invokespecial 68, 3) := by decide +kernel
theorem dX7_setGuard_26 : decode cX7_setGuard 26 = .ok (.athrow, 1) := by decide +kernel
theorem dX7_setGuard_27 : decode cX7_setGuard 27 = .ok (.aload_n 0, 1) := by decide +kernel
theorem dX7_setGuard_28 : decode cX7_setGuard 28 = .ok (.getfield 10, 3) := by decide +kernel
theorem dX7_setGuard_31 : decode cX7_setGuard 31 = .ok (.getfield 127, 3) := by decide +kernel
theorem dX7_setGuard_34 : decode cX7_setGuard 34 = .ok (.iload_n 1, 1) := by decide +kernel
theorem dX7_setGuard_35 : decode cX7_setGuard 35 = .ok (.aaload, 1) := by decide +kernel
theorem dX7_setGuard_36 : decode cX7_setGuard 36 = .ok (.astore 5, 2) := by decide +kernel
theorem dX7_setGuard_38 : decode cX7_setGuard 38 = .ok (.aload 5, 2) := by decide +kernel
theorem dX7_setGuard_40 : decode cX7_setGuard 40 = .ok (.getfield 131, 3) := by decide +kernel
theorem dX7_setGuard_43 : decode cX7_setGuard 43 = .ok (.istore 6, 2) := by decide +kernel
theorem dX7_setGuard_45 : decode cX7_setGuard 45 = .ok (.aload 5, 2) := by decide +kernel
theorem dX7_setGuard_47 : decode cX7_setGuard 47 = .ok (.iload_n 2, 1) := by decide +kernel
theorem dX7_setGuard_48 : decode cX7_setGuard 48 = .ok (.putfield 131, 3) := by decide +kernel
theorem dX7_setGuard_51 : decode cX7_setGuard 51 = .ok (.aload 5, 2) := by decide +kernel
theorem dX7_setGuard_53 : decode cX7_setGuard 53 = .ok (.iload_n 3, 1) := by decide +kernel
theorem dX7_setGuard_54 : decode cX7_setGuard 54 = .ok (.putfield 136, 3) := by decide +kernel
theorem dX7_setGuard_57 : decode cX7_setGuard 57 = .ok (.aload 5, 2) := by decide +kernel
theorem dX7_setGuard_59 : decode cX7_setGuard 59 = .ok (.iload 4, 2) := by decide +kernel
theorem dX7_setGuard_61 : decode cX7_setGuard 61 = .ok (.putfield 139, 3) := by decide +kernel
theorem dX7_setGuard_64 : decode cX7_setGuard 64 = .ok (.iload 6, 2) := by decide +kernel
theorem dX7_setGuard_66 : decode cX7_setGuard 66 = .ok (.ireturn, 1) := by decide +kernel
theorem dX7_setAction_0 : decode cX7_setAction 0 = .ok (.aload_n 0, 1) := by decide +kernel
theorem dX7_setAction_1 : decode cX7_setAction 1 = .ok (.invokevirtual 76, 3) := by decide +kernel
theorem dX7_setAction_4 : decode cX7_setAction 4 = .ok (.aload_n 0, 1) := by decide +kernel
theorem dX7_setAction_5 : decode cX7_setAction 5 = .ok (.iload_n 1, 1) := by decide +kernel
theorem dX7_setAction_6 : decode cX7_setAction 6 = .ok (.invokevirtual 121, 3) := by decide +kernel
theorem dX7_setAction_9 : decode cX7_setAction 9 = .ok (.iload_n 2, 1) := by decide +kernel
theorem dX7_setAction_10 : decode cX7_setAction 10 = .ok (.iload_n 3, 1) := by decide +kernel
theorem dX7_setAction_11 : decode cX7_setAction 11 = .ok (.iload 4, 2) := by decide +kernel
theorem dX7_setAction_13 : decode cX7_setAction 13 = .ok (.invokestatic 95, 3) := by decide +kernel
theorem dX7_setAction_16 : decode cX7_setAction 16 = .ok (.ifCond .ne 11, 3) := by decide +kernel
theorem dX7_setAction_19 : decode cX7_setAction 19 = .ok (.new 66, 3) := by decide +kernel
theorem dX7_setAction_22 : decode cX7_setAction 22 = .ok (.dup, 1) := by decide +kernel
theorem dX7_setAction_23 : decode cX7_setAction 23 = .ok (.invokespecial 68, 3) := by decide +kernel
theorem dX7_setAction_26 : decode cX7_setAction 26 = .ok (.athrow, 1) := by decide +kernel
theorem dX7_setAction_27 : decode cX7_setAction 27 = .ok (.aload_n 0, 1) := by decide +kernel
theorem dX7_setAction_28 : decode cX7_setAction 28 = .ok (.getfield 10, 3) := by decide +kernel
theorem dX7_setAction_31 : decode cX7_setAction 31 = .ok (.getfield 127, 3) := by decide +kernel
theorem dX7_setAction_34 : decode cX7_setAction 34 = .ok (.iload_n 1, 1) := by decide +kernel
theorem dX7_setAction_35 : decode cX7_setAction 35 = .ok (.aaload, 1) := by decide +kernel
theorem dX7_setAction_36 : decode cX7_setAction 36 = .ok (.getfield 142, 3) := by decide +kernel
theorem dX7_setAction_39 : decode cX7_setAction 39 = .ok (.iload_n 2, 1) := by decide +kernel
theorem dX7_setAction_40 : decode cX7_setAction 40 = .ok (.iload_n 3, 1) := by decide +kernel
theorem dX7_setAction_41 : decode cX7_setAction 41 = .ok (.iload 4, 2) := by decide +kernel
theorem dX7_setAction_43 : decode cX7_setAction 43 = .ok (.invokevirtual 105, 3) := by decide +kernel
theorem dX7_setAction_46 : decode cX7_setAction 46 = .ok (.ireturn, 1) := by decide +kernel
theorem dX7_start_0 : decode cX7_start 0 = .ok (.aload_n 0, 1) := by decide +kernel
theorem dX7_start_1 : decode cX7_start 1 = .ok (.invokevirtual 76, 3) := by decide +kernel
theorem dX7_start_4 : decode cX7_start 4 = .ok (.aload_n 0, 1) := by decide +kernel
theorem dX7_start_5 : decode cX7_start 5 = .ok (.iconst 1, 1) := by decide +kernel
theorem dX7_start_6 : decode cX7_start 6 = .ok (.putfield 37, 3) := by decide +kernel
theorem dX7_start_9 : decode cX7_start 9 = .ok (.aload_n 0, 1) := by decide +kernel
theorem dX7_start_10 : decode cX7_start 10 = .ok (.getfield 21, 3) := by decide +kernel
theorem dX7_start_13 : decode cX7_start 13 = .ok (.invokevirtual 145, 3) := by decide +kernel
theorem dX7_start_16 : decode cX7_start 16 = .ok (.aload_n 0, 1) := by decide +kernel
theorem dX7_start_17 : decode cX7_start 17 = .ok (.getfield 21, 3) := by decide +kernel
theorem dX7_start_20 : decode cX7_start 20 = .ok (.aload_n 0, 1) := by decide +kernel
theorem dX7_start_21 : decode cX7_start 21 = .ok (.getfield 10, 3) := by decide +kernel
theorem dX7_start_24 : decode cX7_start 24 = .ok (.iconst 0, 1) := by decide +kernel
theorem dX7_start_25 : decode cX7_start 25 = .ok (.invokestatic 148, 3) := by decide +kernel
theorem dX7_start_28 : decode cX7_start 28 = .ok (.invokevirtual 152, 3) := by decide +kernel
theorem dX7_start_31 : decode cX7_start 31 = .ok (.invokevirtual 155, 3) := by decide +kernel
theorem dX7_start_34 : decode cX7_start 34 = .ok (.aload_n 0, 1) := by decide +kernel
theorem dX7_start_35 : decode cX7_start 35 = .ok (.getfield 21, 3) := by decide +kernel
theorem dX7_start_38 : decode cX7_start 38 = .ok (.bipush 11, 2) := by decide +kernel
theorem dX7_start_40 : decode cX7_start 40 = .ok (.invokevirtual 158, 3) := by decide +kernel
theorem dX7_start_43 : decode cX7_start 43 = .ok (.ireturn, 1) := by decide +kernel
theorem dX7_stop_0 : decode cX7_stop 0 = .ok (.aload_n 0, 1) := by decide +kernel
theorem dX7_stop_1 : decode cX7_stop 1 = .ok (.invokevirtual 161, 3) := by decide +kernel
theorem dX7_stop_4 : decode cX7_stop 4 = .ok (.aload_n 0, 1) := by decide +kernel
theorem dX7_stop_5 : decode cX7_stop 5 = .ok (.iconst 0, 1) := by decide +kernel
theorem dX7_stop_6 : decode cX7_stop 6 = .ok (.putfield 37, 3) := by decide +kernel
theorem dX7_stop_9 : decode cX7_stop 9 = .ok (.aload_n 0, 1) := by decide +kernel
theorem dX7_stop_10 : decode cX7_stop 10 = .ok (.getfield 21, 3) := by decide +kernel
theorem dX7_stop_13 : decode cX7_stop 13 = .ok (.getfield 164, 3) := by decide +kernel
theorem dX7_stop_16 : decode cX7_stop 16 = .ok (.getfield 168, 3) := by decide +kernel
theorem dX7_stop_19 : decode cX7_stop 19 = .ok (.invokestatic 173, 3) := by decide +kernel
theorem dX7_stop_22 : decode cX7_stop 22 = .ok (.istore_n 1, 1) := by decide +kernel
theorem dX7_stop_23 : decode cX7_stop 23 = .ok (.aload_n 0, 1) := by decide +kernel
theorem dX7_stop_24 : decode cX7_stop 24 = .ok (.getfield 21, 3) := by decide +kernel
theorem dX7_stop_27 : decode cX7_stop 27 = .ok (.getfield 164, 3) := by decide +kernel
theorem dX7_stop_30 : decode cX7_stop 30 = .ok (.invokevirtual 178, 3) := by decide +kernel
theorem dX7_stop_33 : decode cX7_stop 33 = .ok (.iload_n 1, 1) := by decide +kernel
theorem dX7_stop_34 : decode cX7_stop 34 = .ok (.ireturn, 1) := by decide +kernel
theorem dX7_send_0 : decode cX7_send 0 = .ok (.aload_n 0, 1) := by decide +kernel
theorem dX7_send_1 : decode cX7_send 1 = .ok (.invokevirtual 161, 3) := by decide +kernel
theorem dX7_send_4 : decode cX7_send 4 = .ok (.iload_n 1, 1) := by decide +kernel
theorem dX7_send_5 : decode cX7_send 5 = .ok (.invokestatic 181, 3) := by decide +kernel
theorem dX7_send_8 : decode cX7_send 8 = .ok (.aload_n 0, 1) := by decide +kernel
theorem dX7_send_9 : decode cX7_send 9 = .ok (.getfield 21, 3) := by decide +kernel
theorem dX7_send_12 : decode cX7_send 12 = .ok (.iload_n 1, 1) := by decide +kernel
theorem dX7_send_13 : decode cX7_send 13 = .ok (.invokevirtual 158, 3) := by decide +kernel
theorem dX7_send_16 : decode cX7_send 16 = .ok (.ireturn, 1) := by decide +kernel
theorem dX7_tick_0 : decode cX7_tick 0 = .ok (.aload_n 0, 1) := by decide +kernel
theorem dX7_tick_1 : decode cX7_tick 1 = .ok (.invokevirtual 161, 3) := by decide +kernel
theorem dX7_tick_4 : decode cX7_tick 4 = .ok (.iload_n 1, 1) := by decide +kernel
theorem dX7_tick_5 : decode cX7_tick 5 = .ok (.iconst 1, 1) := by decide +kernel
theorem dX7_tick_6 : decode cX7_tick 6 = .ok (.bipush 50, 2) := by decide +kernel
theorem dX7_tick_8 : decode cX7_tick 8 = .ok (.invokestatic 52, 3) := by decide +kernel
theorem dX7_tick_11 : decode cX7_tick 11 = .ok (.ifCond .ne 11, 3) := by decide +kernel
theorem dX7_tick_14 : decode cX7_tick 14 = .ok (.new 66, 3) := by decide +kernel
theorem dX7_tick_17 : decode cX7_tick 17 = .ok (.dup, 1) := by decide +kernel
theorem dX7_tick_18 : decode cX7_tick 18 = .ok (.invokespecial 68, 3) := by decide +kernel
theorem dX7_tick_21 : decode cX7_tick 21 = .ok (.athrow, 1) := by decide +kernel
theorem dX7_tick_22 : decode cX7_tick 22 = .ok (.iconst 0, 1) := by decide +kernel
theorem dX7_tick_23 : decode cX7_tick 23 = .ok (.istore_n 2, 1) := by decide +kernel
theorem dX7_tick_24 : decode cX7_tick 24 = .ok (.iconst 0, 1) := by decide +kernel
theorem dX7_tick_25 : decode cX7_tick 25 = .ok (.istore_n 3, 1) := by decide +kernel
theorem dX7_tick_26 : decode cX7_tick 26 = .ok (.iload_n 3, 1) := by decide +kernel
theorem dX7_tick_27 : decode cX7_tick 27 = .ok (.iload_n 1, 1) := by decide +kernel
theorem dX7_tick_28 : decode cX7_tick 28 = .ok (.if_icmp .ge 21, 3) := by decide +kernel
theorem dX7_tick_31 : decode cX7_tick 31 = .ok (.iload_n 2, 1) := by decide +kernel
theorem dX7_tick_32 : decode cX7_tick 32 = .ok (.aload_n 0, 1) := by decide +kernel
theorem dX7_tick_33 : decode cX7_tick 33 = .ok (.getfield 21, 3) := by decide +kernel
theorem dX7_tick_36 : decode cX7_tick 36 = .ok (.bipush 10, 2) := by decide +kernel
theorem dX7_tick_38 : decode cX7_tick 38 = .ok (.invokevirtual 158, 3) := by decide +kernel
theorem dX7_tick_41 : decode cX7_tick 41 = .ok (.iadd, 1) := by decide +kernel
theorem dX7_tick_42 : decode cX7_tick 42 = .ok (.istore_n 2, 1) := by decide +kernel
theorem dX7_tick_43 : decode cX7_tick 43 = .ok (.iinc 3 1, 3) := by decide +kernel
theorem dX7_tick_46 : decode cX7_tick 46 = .ok (.goto (-20), 3) := by decide +kernel
theorem dX7_tick_49 : decode cX7_tick 49 = .ok (.iload_n 2, 1) := by decide +kernel
theorem dX7_tick_50 : decode cX7_tick 50 = .ok (.ireturn, 1) := by decide +kernel
theorem dX7_states_0 : decode cX7_states 0 = .ok (.aload_n 0, 1) := by decide +kernel
theorem dX7_states_1 : decode cX7_states 1 = .ok (.getfield 10, 3) := by decide +kernel
theorem dX7_states_4 : decode cX7_states 4 = .ok (.getfield 41, 3) := by decide +kernel
theorem dX7_states_7 : decode cX7_states 7 = .ok (.ireturn, 1) := by decide +kernel
theorem dX7_transitions_0 : decode cX7_transitions 0 = .ok (.aload_n 0, 1) := by decide +kernel
theorem dX7_transitions_1 : decode cX7_transitions 1 = .ok (.getfield 10, 3) := by decide +kernel
theorem dX7_transitions_4 : decode cX7_transitions 4 = .ok (.getfield 111, 3) := by decide +kernel
theorem dX7_transitions_7 : decode cX7_transitions 7 = .ok (.ireturn, 1) := by decide +kernel
theorem dX7_ofState_0 : decode cX7_ofState 0 = .ok (.aload_n 0, 1) := by decide +kernel
theorem dX7_ofState_1 : decode cX7_ofState 1 = .ok (.iload_n 1, 1) := by decide +kernel
theorem dX7_ofState_2 : decode cX7_ofState 2 = .ok (.invokevirtual 48, 3) := by decide +kernel
theorem dX7_ofState_5 : decode cX7_ofState 5 = .ok (.aload_n 0, 1) := by decide +kernel
theorem dX7_ofState_6 : decode cX7_ofState 6 = .ok (.getfield 10, 3) := by decide +kernel
theorem dX7_ofState_9 : decode cX7_ofState 9 = .ok (.getfield 56, 3) := by decide +kernel
theorem dX7_ofState_12 : decode cX7_ofState 12 = .ok (.iload_n 1, 1) := by decide +kernel
theorem dX7_ofState_13 : decode cX7_ofState 13 = .ok (.aaload, 1) := by decide +kernel
theorem dX7_ofState_14 : decode cX7_ofState 14 = .ok (.astore_n 3, 1) := by decide +kernel
theorem dX7_ofState_15 : decode cX7_ofState 15 = .ok (.iload_n 2, 1) := by decide +kernel
theorem dX7_ofState_16 : decode cX7_ofState 16 = .ok (.tableswitch 55 0 3 #[32, 37, 42, 47], 32) := by decide +kernel
theorem dX7_ofState_48 : decode cX7_ofState 48 = .ok (.aload_n 3, 1) := by decide +kernel
theorem dX7_ofState_49 : decode cX7_ofState 49 = .ok (.getfield 69, 3) := by decide +kernel
theorem dX7_ofState_52 : decode cX7_ofState 52 = .ok (.ireturn, 1) := by decide +kernel
theorem dX7_ofState_53 : decode cX7_ofState 53 = .ok (.aload_n 3, 1) := by decide +kernel
theorem dX7_ofState_54 : decode cX7_ofState 54 = .ok (.getfield 184, 3) := by decide +kernel
theorem dX7_ofState_57 : decode cX7_ofState 57 = .ok (.ireturn, 1) := by decide +kernel
theorem dX7_ofState_58 : decode cX7_ofState 58 = .ok (.aload_n 3, 1) := by decide +kernel
theorem dX7_ofState_59 : decode cX7_ofState 59 = .ok (.getfield 86, 3) := by decide +kernel
theorem dX7_ofState_62 : decode cX7_ofState 62 = .ok (.ireturn, 1) := by decide +kernel
theorem dX7_ofState_63 : decode cX7_ofState 63 = .ok (.aload_n 3, 1) := by decide +kernel
theorem dX7_ofState_64 : decode cX7_ofState 64 = .ok (.getfield 79, 3) := by decide +kernel
theorem dX7_ofState_67 : decode cX7_ofState 67 = .ok (.invokestatic 173, 3) := by decide +kernel
theorem dX7_ofState_70 : decode cX7_ofState 70 = .ok (.ireturn, 1) := by decide +kernel
theorem dX7_ofState_71 : decode cX7_ofState 71 = .ok (.new 66, 3) := by decide +kernel
theorem dX7_ofState_74 : decode cX7_ofState 74 = .ok (.dup, 1) := by decide +kernel
theorem dX7_ofState_75 : decode cX7_ofState 75 = .ok (.invokespecial 68, 3) := by decide +kernel
theorem dX7_ofState_78 : decode cX7_ofState 78 = .ok (.athrow, 1) := by decide +kernel
theorem dX7_isRunning_0 : decode cX7_isRunning 0 = .ok (.aload_n 0, 1) := by decide +kernel
theorem dX7_isRunning_1 : decode cX7_isRunning 1 = .ok (.getfield 37, 3) := by decide +kernel
theorem dX7_isRunning_4 : decode cX7_isRunning 4 = .ok (.ireturn, 1) := by decide +kernel
theorem dX7_active_0 : decode cX7_active 0 = .ok (.aload_n 0, 1) := by decide +kernel
theorem dX7_active_1 : decode cX7_active 1 = .ok (.getfield 21, 3) := by decide +kernel
theorem dX7_active_4 : decode cX7_active 4 = .ok (.getfield 164, 3) := by decide +kernel
theorem dX7_active_7 : decode cX7_active 7 = .ok (.getfield 168, 3) := by decide +kernel
theorem dX7_active_10 : decode cX7_active 10 = .ok (.ireturn, 1) := by decide +kernel
theorem dX7_isOver_0 : decode cX7_isOver 0 = .ok (.aload_n 0, 1) := by decide +kernel
theorem dX7_isOver_1 : decode cX7_isOver 1 = .ok (.getfield 37, 3) := by decide +kernel
theorem dX7_isOver_4 : decode cX7_isOver 4 = .ok (.ifCond .eq 17, 3) := by decide +kernel
theorem dX7_isOver_7 : decode cX7_isOver 7 = .ok (.aload_n 0, 1) := by decide +kernel
theorem dX7_isOver_8 : decode cX7_isOver 8 = .ok (.getfield 21, 3) := by decide +kernel
theorem dX7_isOver_11 : decode cX7_isOver 11 = .ok (.invokevirtual 187, 3) := by decide +kernel
theorem dX7_isOver_14 : decode cX7_isOver 14 = .ok (.ifCond .eq 7, 3) := by decide +kernel
theorem dX7_isOver_17 : decode cX7_isOver 17 = .ok (.iconst 1, 1) := by decide +kernel
theorem dX7_isOver_18 : decode cX7_isOver 18 = .ok (.goto 4, 3) := by decide +kernel
theorem dX7_isOver_21 : decode cX7_isOver 21 = .ok (.iconst 0, 1) := by decide +kernel
theorem dX7_isOver_22 : decode cX7_isOver 22 = .ok (.ireturn, 1) := by decide +kernel
theorem dX7_isEnded_0 : decode cX7_isEnded 0 = .ok (.aload_n 0, 1) := by decide +kernel
theorem dX7_isEnded_1 : decode cX7_isEnded 1 = .ok (.iload_n 1, 1) := by decide +kernel
theorem dX7_isEnded_2 : decode cX7_isEnded 2 = .ok (.invokevirtual 48, 3) := by decide +kernel
theorem dX7_isEnded_5 : decode cX7_isEnded 5 = .ok (.aload_n 0, 1) := by decide +kernel
theorem dX7_isEnded_6 : decode cX7_isEnded 6 = .ok (.getfield 10, 3) := by decide +kernel
theorem dX7_isEnded_9 : decode cX7_isEnded 9 = .ok (.aload_n 0, 1) := by decide +kernel
theorem dX7_isEnded_10 : decode cX7_isEnded 10 = .ok (.getfield 21, 3) := by decide +kernel
theorem dX7_isEnded_13 : decode cX7_isEnded 13 = .ok (.getfield 164, 3) := by decide +kernel
theorem dX7_isEnded_16 : decode cX7_isEnded 16 = .ok (.getfield 168, 3) := by decide +kernel
theorem dX7_isEnded_19 : decode cX7_isEnded 19 = .ok (.invokevirtual 190, 3) := by decide +kernel
theorem dX7_isEnded_22 : decode cX7_isEnded 22 = .ok (.iload_n 1, 1) := by decide +kernel
theorem dX7_isEnded_23 : decode cX7_isEnded 23 = .ok (.invokestatic 82, 3) := by decide +kernel
theorem dX7_isEnded_26 : decode cX7_isEnded 26 = .ok (.ireturn, 1) := by decide +kernel
theorem dX7_ageOf_0 : decode cX7_ageOf 0 = .ok (.aload_n 0, 1) := by decide +kernel
theorem dX7_ageOf_1 : decode cX7_ageOf 1 = .ok (.iload_n 1, 1) := by decide +kernel
theorem dX7_ageOf_2 : decode cX7_ageOf 2 = .ok (.invokevirtual 48, 3) := by decide +kernel
theorem dX7_ageOf_5 : decode cX7_ageOf 5 = .ok (.aload_n 0, 1) := by decide +kernel
theorem dX7_ageOf_6 : decode cX7_ageOf 6 = .ok (.getfield 21, 3) := by decide +kernel
theorem dX7_ageOf_9 : decode cX7_ageOf 9 = .ok (.getfield 164, 3) := by decide +kernel
theorem dX7_ageOf_12 : decode cX7_ageOf 12 = .ok (.getfield 193, 3) := by decide +kernel
theorem dX7_ageOf_15 : decode cX7_ageOf 15 = .ok (.iload_n 1, 1) := by decide +kernel
theorem dX7_ageOf_16 : decode cX7_ageOf 16 = .ok (.iaload, 1) := by decide +kernel
theorem dX7_ageOf_17 : decode cX7_ageOf 17 = .ok (.ireturn, 1) := by decide +kernel
theorem dX7_record_0 : decode cX7_record 0 = .ok (.aload_n 0, 1) := by decide +kernel
theorem dX7_record_1 : decode cX7_record 1 = .ok (.iload_n 1, 1) := by decide +kernel
theorem dX7_record_2 : decode cX7_record 2 = .ok (.invokevirtual 48, 3) := by decide +kernel
theorem dX7_record_5 : decode cX7_record 5 = .ok (.aload_n 0, 1) := by decide +kernel
theorem dX7_record_6 : decode cX7_record 6 = .ok (.getfield 10, 3) := by decide +kernel
theorem dX7_record_9 : decode cX7_record 9 = .ok (.getfield 56, 3) := by decide +kernel
theorem dX7_record_12 : decode cX7_record 12 = .ok (.iload_n 1, 1) := by decide +kernel
theorem dX7_record_13 : decode cX7_record 13 = .ok (.aaload, 1) := by decide +kernel
theorem dX7_record_14 : decode cX7_record 14 = .ok (.invokevirtual 92, 3) := by decide +kernel
theorem dX7_record_17 : decode cX7_record 17 = .ok (.ifCond .ne 11, 3) := by decide +kernel
theorem dX7_record_20 : decode cX7_record 20 = .ok (.new 66, 3) := by decide +kernel
theorem dX7_record_23 : decode cX7_record 23 = .ok (.dup, 1) := by decide +kernel
theorem dX7_record_24 : decode cX7_record 24 = .ok (.invokespecial 68, 3) := by decide +kernel
theorem dX7_record_27 : decode cX7_record 27 = .ok (.athrow, 1) := by decide +kernel
theorem dX7_record_28 : decode cX7_record 28 = .ok (.aload_n 0, 1) := by decide +kernel
theorem dX7_record_29 : decode cX7_record 29 = .ok (.getfield 21, 3) := by decide +kernel
theorem dX7_record_32 : decode cX7_record 32 = .ok (.getfield 164, 3) := by decide +kernel
theorem dX7_record_35 : decode cX7_record 35 = .ok (.getfield 197, 3) := by decide +kernel
theorem dX7_record_38 : decode cX7_record 38 = .ok (.iload_n 1, 1) := by decide +kernel
theorem dX7_record_39 : decode cX7_record 39 = .ok (.iaload, 1) := by decide +kernel
theorem dX7_record_40 : decode cX7_record 40 = .ok (.ireturn, 1) := by decide +kernel
theorem dX7_variable_0 : decode cX7_variable 0 = .ok (.iload_n 1, 1) := by decide +kernel
theorem dX7_variable_1 : decode cX7_variable 1 = .ok (.iconst 0, 1) := by decide +kernel
theorem dX7_variable_2 : decode cX7_variable 2 = .ok (.iconst 3, 1) := by decide +kernel
theorem dX7_variable_3 : decode cX7_variable 3 = .ok (.invokestatic 52, 3) := by decide +kernel
theorem dX7_variable_6 : decode cX7_variable 6 = .ok (.ifCond .ne 11, 3) := by decide +kernel
theorem dX7_variable_9 : decode cX7_variable 9 = .ok (.new 200, 3) := by decide +kernel
theorem dX7_variable_12 : decode cX7_variable 12 = .ok (.dup, 1) := by decide +kernel
theorem dX7_variable_13 : decode cX7_variable 13 = .ok (.invokespecial 202, 3) := by decide +kernel
theorem dX7_variable_16 : decode cX7_variable 16 = .ok (.athrow, 1) := by decide +kernel
theorem dX7_variable_17 : decode cX7_variable 17 = .ok (.aload_n 0, 1) := by decide +kernel
theorem dX7_variable_18 : decode cX7_variable 18 = .ok (.getfield 21, 3) := by decide +kernel
theorem dX7_variable_21 : decode cX7_variable 21 = .ok (.getfield 164, 3) := by decide +kernel
theorem dX7_variable_24 : decode cX7_variable 24 = .ok (.getfield 203, 3) := by decide +kernel
theorem dX7_variable_27 : decode cX7_variable 27 = .ok (.iload_n 1, 1) := by decide +kernel
theorem dX7_variable_28 : decode cX7_variable 28 = .ok (.iaload, 1) := by decide +kernel
theorem dX7_variable_29 : decode cX7_variable 29 = .ok (.ireturn, 1) := by decide +kernel
theorem dX7_clock_0 : decode cX7_clock 0 = .ok (.aload_n 0, 1) := by decide +kernel
theorem dX7_clock_1 : decode cX7_clock 1 = .ok (.getfield 21, 3) := by decide +kernel
theorem dX7_clock_4 : decode cX7_clock 4 = .ok (.getfield 206, 3) := by decide +kernel
theorem dX7_clock_7 : decode cX7_clock 7 = .ok (.ireturn, 1) := by decide +kernel
theorem dX7_fired_0 : decode cX7_fired 0 = .ok (.aload_n 0, 1) := by decide +kernel
theorem dX7_fired_1 : decode cX7_fired 1 = .ok (.iload_n 1, 1) := by decide +kernel
theorem dX7_fired_2 : decode cX7_fired 2 = .ok (.invokevirtual 121, 3) := by decide +kernel
theorem dX7_fired_5 : decode cX7_fired 5 = .ok (.aload_n 0, 1) := by decide +kernel
theorem dX7_fired_6 : decode cX7_fired 6 = .ok (.getfield 21, 3) := by decide +kernel
theorem dX7_fired_9 : decode cX7_fired 9 = .ok (.getfield 209, 3) := by decide +kernel
theorem dX7_fired_12 : decode cX7_fired 12 = .ok (.iload_n 1, 1) := by decide +kernel
theorem dX7_fired_13 : decode cX7_fired 13 = .ok (.iaload, 1) := by decide +kernel
theorem dX7_fired_14 : decode cX7_fired 14 = .ok (.ireturn, 1) := by decide +kernel
theorem dX7_covered_0 : decode cX7_covered 0 = .ok (.iconst 0, 1) := by decide +kernel
theorem dX7_covered_1 : decode cX7_covered 1 = .ok (.istore_n 1, 1) := by decide +kernel
theorem dX7_covered_2 : decode cX7_covered 2 = .ok (.iconst 0, 1) := by decide +kernel
theorem dX7_covered_3 : decode cX7_covered 3 = .ok (.istore_n 2, 1) := by decide +kernel
theorem dX7_covered_4 : decode cX7_covered 4 = .ok (.iload_n 2, 1) := by decide +kernel
theorem dX7_covered_5 : decode cX7_covered 5 = .ok (.aload_n 0, 1) := by decide +kernel
theorem dX7_covered_6 : decode cX7_covered 6 = .ok (.getfield 10, 3) := by decide +kernel
theorem dX7_covered_9 : decode cX7_covered 9 = .ok (.getfield 111, 3) := by decide +kernel
theorem dX7_covered_12 : decode cX7_covered 12 = .ok (.if_icmp .ge 24, 3) := by decide +kernel
theorem dX7_covered_15 : decode cX7_covered 15 = .ok (.aload_n 0, 1) := by decide +kernel
theorem dX7_covered_16 : decode cX7_covered 16 = .ok (.getfield 21, 3) := by decide +kernel
theorem dX7_covered_19 : decode cX7_covered 19 = .ok (.getfield 209, 3) := by decide +kernel
theorem dX7_covered_22 : decode cX7_covered 22 = .ok (.iload_n 2, 1) := by decide +kernel
theorem dX7_covered_23 : decode cX7_covered 23 = .ok (.iaload, 1) := by decide +kernel
theorem dX7_covered_24 : decode cX7_covered 24 = .ok (.ifCond .le 6, 3) := by decide +kernel
theorem dX7_covered_27 : decode cX7_covered 27 = .ok (.iinc 1 1, 3) := by decide +kernel
theorem dX7_covered_30 : decode cX7_covered 30 = .ok (.iinc 2 1, 3) := by decide +kernel
theorem dX7_covered_33 : decode cX7_covered 33 = .ok (.goto (-29), 3) := by decide +kernel
theorem dX7_covered_36 : decode cX7_covered 36 = .ok (.iload_n 1, 1) := by decide +kernel
theorem dX7_covered_37 : decode cX7_covered 37 = .ok (.ireturn, 1) := by decide +kernel
theorem dX7_lost_0 : decode cX7_lost 0 = .ok (.aload_n 0, 1) := by decide +kernel
theorem dX7_lost_1 : decode cX7_lost 1 = .ok (.getfield 21, 3) := by decide +kernel
theorem dX7_lost_4 : decode cX7_lost 4 = .ok (.getfield 212, 3) := by decide +kernel
theorem dX7_lost_7 : decode cX7_lost 7 = .ok (.ireturn, 1) := by decide +kernel
theorem dX7_restless_0 : decode cX7_restless 0 = .ok (.aload_n 0, 1) := by decide +kernel
theorem dX7_restless_1 : decode cX7_restless 1 = .ok (.getfield 21, 3) := by decide +kernel
theorem dX7_restless_4 : decode cX7_restless 4 = .ok (.getfield 215, 3) := by decide +kernel
theorem dX7_restless_7 : decode cX7_restless 7 = .ok (.ireturn, 1) := by decide +kernel
theorem dX7_wouldFire_0 : decode cX7_wouldFire 0 = .ok (.aload_n 0, 1) := by decide +kernel
theorem dX7_wouldFire_1 : decode cX7_wouldFire 1 = .ok (.invokevirtual 161, 3) := by decide +kernel
theorem dX7_wouldFire_4 : decode cX7_wouldFire 4 = .ok (.iload_n 1, 1) := by decide +kernel
theorem dX7_wouldFire_5 : decode cX7_wouldFire 5 = .ok (.invokestatic 181, 3) := by decide +kernel
theorem dX7_wouldFire_8 : decode cX7_wouldFire 8 = .ok (.aload_n 0, 1) := by decide +kernel
theorem dX7_wouldFire_9 : decode cX7_wouldFire 9 = .ok (.getfield 25, 3) := by decide +kernel
theorem dX7_wouldFire_12 : decode cX7_wouldFire 12 = .ok (.getfield 164, 3) := by decide +kernel
theorem dX7_wouldFire_15 : decode cX7_wouldFire 15 = .ok (.aload_n 0, 1) := by decide +kernel
theorem dX7_wouldFire_16 : decode cX7_wouldFire 16 = .ok (.getfield 21, 3) := by decide +kernel
theorem dX7_wouldFire_19 : decode cX7_wouldFire 19 = .ok (.getfield 164, 3) := by decide +kernel
theorem dX7_wouldFire_22 : decode cX7_wouldFire 22 = .ok (.invokevirtual 218, 3) := by decide +kernel
theorem dX7_wouldFire_25 : decode cX7_wouldFire 25 = .ok (.aload_n 0, 1) := by decide +kernel
theorem dX7_wouldFire_26 : decode cX7_wouldFire 26 = .ok (.getfield 25, 3) := by decide +kernel
theorem dX7_wouldFire_29 : decode cX7_wouldFire 29 = .ok (.iload_n 1, 1) := by decide +kernel
theorem dX7_wouldFire_30 : decode cX7_wouldFire 30 = .ok (.invokevirtual 158, 3) := by decide +kernel
theorem dX7_wouldFire_33 : decode cX7_wouldFire 33 = .ok (.ireturn, 1) := by decide +kernel
theorem dX7_wouldBe_0 : decode cX7_wouldBe 0 = .ok (.aload_n 0, 1) := by decide +kernel
theorem dX7_wouldBe_1 : decode cX7_wouldBe 1 = .ok (.invokevirtual 161, 3) := by decide +kernel
theorem dX7_wouldBe_4 : decode cX7_wouldBe 4 = .ok (.iload_n 1, 1) := by decide +kernel
theorem dX7_wouldBe_5 : decode cX7_wouldBe 5 = .ok (.invokestatic 181, 3) := by decide +kernel
theorem dX7_wouldBe_8 : decode cX7_wouldBe 8 = .ok (.aload_n 0, 1) := by decide +kernel
theorem dX7_wouldBe_9 : decode cX7_wouldBe 9 = .ok (.getfield 25, 3) := by decide +kernel
theorem dX7_wouldBe_12 : decode cX7_wouldBe 12 = .ok (.getfield 164, 3) := by decide +kernel
theorem dX7_wouldBe_15 : decode cX7_wouldBe 15 = .ok (.aload_n 0, 1) := by decide +kernel
theorem dX7_wouldBe_16 : decode cX7_wouldBe 16 = .ok (.getfield 21, 3) := by decide +kernel
theorem dX7_wouldBe_19 : decode cX7_wouldBe 19 = .ok (.getfield 164, 3) := by decide +kernel
theorem dX7_wouldBe_22 : decode cX7_wouldBe 22 = .ok (.invokevirtual 218, 3) := by decide +kernel
theorem dX7_wouldBe_25 : decode cX7_wouldBe 25 = .ok (.aload_n 0, 1) := by decide +kernel
theorem dX7_wouldBe_26 : decode cX7_wouldBe 26 = .ok (.getfield 25, 3) := by decide +kernel
theorem dX7_wouldBe_29 : decode cX7_wouldBe 29 = .ok (.iload_n 1, 1) := by decide +kernel
theorem dX7_wouldBe_30 : decode cX7_wouldBe 30 = .ok (.invokevirtual 158, 3) := by decide +kernel
theorem dX7_wouldBe_33 : decode cX7_wouldBe 33 = .ok (.pop, 1) := by decide +kernel
theorem dX7_wouldBe_34 : decode cX7_wouldBe 34 = .ok (.aload_n 0, 1) := by decide +kernel
theorem dX7_wouldBe_35 : decode cX7_wouldBe 35 = .ok (.getfield 25, 3) := by decide +kernel
theorem dX7_wouldBe_38 : decode cX7_wouldBe 38 = .ok (.getfield 164, 3) := by decide +kernel
theorem dX7_wouldBe_41 : decode cX7_wouldBe 41 = .ok (.getfield 168, 3) := by decide +kernel
theorem dX7_wouldBe_44 : decode cX7_wouldBe 44 = .ok (.ireturn, 1) := by decide +kernel
theorem dX7_open_0 : decode cX7_open 0 = .ok (.aload_n 0, 1) := by decide +kernel
theorem dX7_open_1 : decode cX7_open 1 = .ok (.invokevirtual 161, 3) := by decide +kernel
theorem dX7_open_4 : decode cX7_open 4 = .ok (.iconst 0, 1) := by decide +kernel
theorem dX7_open_5 : decode cX7_open 5 = .ok (.istore_n 1, 1) := by decide +kernel
theorem dX7_open_6 : decode cX7_open 6 = .ok (.iconst 0, 1) := by decide +kernel
theorem dX7_open_7 : decode cX7_open 7 = .ok (.istore_n 2, 1) := by decide +kernel
theorem dX7_open_8 : decode cX7_open 8 = .ok (.iload_n 2, 1) := by decide +kernel
theorem dX7_open_9 : decode cX7_open 9 = .ok (.bipush 10, 2) := by decide +kernel
theorem dX7_open_11 : decode cX7_open 11 = .ok (.if_icmp .ge 27, 3) := by decide +kernel
theorem dX7_open_14 : decode cX7_open 14 = .ok (.aload_n 0, 1) := by decide +kernel
theorem dX7_open_15 : decode cX7_open 15 = .ok (.getfield 21, 3) := by decide +kernel
theorem dX7_open_18 : decode cX7_open 18 = .ok (.iload_n 2, 1) := by decide +kernel
theorem dX7_open_19 : decode cX7_open 19 = .ok (.invokevirtual 222, 3) := by decide +kernel
theorem dX7_open_22 : decode cX7_open 22 = .ok (.ifCond .eq 10, 3) := by decide +kernel
theorem dX7_open_25 : decode cX7_open 25 = .ok (.iload_n 1, 1) := by decide +kernel
theorem dX7_open_26 : decode cX7_open 26 = .ok (.iload_n 2, 1) := by decide +kernel
theorem dX7_open_27 : decode cX7_open 27 = .ok (.invokestatic 148, 3) := by decide +kernel
theorem dX7_open_30 : decode cX7_open 30 = .ok (.ior, 1) := by decide +kernel
theorem dX7_open_31 : decode cX7_open 31 = .ok (.istore_n 1, 1) := by decide +kernel
theorem dX7_open_32 : decode cX7_open 32 = .ok (.iinc 2 1, 3) := by decide +kernel
theorem dX7_open_35 : decode cX7_open 35 = .ok (.goto (-27), 3) := by decide +kernel
theorem dX7_open_38 : decode cX7_open 38 = .ok (.iload_n 1, 1) := by decide +kernel
theorem dX7_open_39 : decode cX7_open 39 = .ok (.ireturn, 1) := by decide +kernel
theorem dX7_rowTo_0 : decode cX7_rowTo 0 = .ok (.aload_n 0, 1) := by decide +kernel
theorem dX7_rowTo_1 : decode cX7_rowTo 1 = .ok (.invokevirtual 161, 3) := by decide +kernel
theorem dX7_rowTo_4 : decode cX7_rowTo 4 = .ok (.aload_n 0, 1) := by decide +kernel
theorem dX7_rowTo_5 : decode cX7_rowTo 5 = .ok (.iload_n 1, 1) := by decide +kernel
theorem dX7_rowTo_6 : decode cX7_rowTo 6 = .ok (.invokevirtual 48, 3) := by decide +kernel
theorem dX7_rowTo_9 : decode cX7_rowTo 9 = .ok (.iload_n 2, 1) := by decide +kernel
theorem dX7_rowTo_10 : decode cX7_rowTo 10 = .ok (.invokestatic 225, 3) := by decide +kernel
theorem dX7_rowTo_13 : decode cX7_rowTo 13 = .ok (.aload_n 0, 1) := by decide +kernel
theorem dX7_rowTo_14 : decode cX7_rowTo 14 = .ok (.getfield 33, 3) := by decide +kernel
theorem dX7_rowTo_17 : decode cX7_rowTo 17 = .ok (.aload_n 0, 1) := by decide +kernel
theorem dX7_rowTo_18 : decode cX7_rowTo 18 = .ok (.getfield 21, 3) := by decide +kernel
theorem dX7_rowTo_21 : decode cX7_rowTo 21 = .ok (.getfield 164, 3) := by decide +kernel
theorem dX7_rowTo_24 : decode cX7_rowTo 24 = .ok (.iload_n 1, 1) := by decide +kernel
theorem dX7_rowTo_25 : decode cX7_rowTo 25 = .ok (.iconst (-1), 1) := by decide +kernel
theorem dX7_rowTo_26 : decode cX7_rowTo 26 = .ok (.iload_n 2, 1) := by decide +kernel
theorem dX7_rowTo_27 : decode cX7_rowTo 27 = .ok (.invokevirtual 228, 3) := by decide +kernel
theorem dX7_rowTo_30 : decode cX7_rowTo 30 = .ok (.ireturn, 1) := by decide +kernel
theorem dX7_rowFor_0 : decode cX7_rowFor 0 = .ok (.aload_n 0, 1) := by decide +kernel
theorem dX7_rowFor_1 : decode cX7_rowFor 1 = .ok (.invokevirtual 161, 3) := by decide +kernel
theorem dX7_rowFor_4 : decode cX7_rowFor 4 = .ok (.aload_n 0, 1) := by decide +kernel
theorem dX7_rowFor_5 : decode cX7_rowFor 5 = .ok (.iload_n 1, 1) := by decide +kernel
theorem dX7_rowFor_6 : decode cX7_rowFor 6 = .ok (.invokevirtual 121, 3) := by decide +kernel
theorem dX7_rowFor_9 : decode cX7_rowFor 9 = .ok (.iload_n 2, 1) := by decide +kernel
theorem dX7_rowFor_10 : decode cX7_rowFor 10 = .ok (.invokestatic 225, 3) := by decide +kernel
theorem dX7_rowFor_13 : decode cX7_rowFor 13 = .ok (.aload_n 0, 1) := by decide +kernel
theorem dX7_rowFor_14 : decode cX7_rowFor 14 = .ok (.getfield 33, 3) := by decide +kernel
theorem dX7_rowFor_17 : decode cX7_rowFor 17 = .ok (.aload_n 0, 1) := by decide +kernel
theorem dX7_rowFor_18 : decode cX7_rowFor 18 = .ok (.getfield 21, 3) := by decide +kernel
theorem dX7_rowFor_21 : decode cX7_rowFor 21 = .ok (.getfield 164, 3) := by decide +kernel
theorem dX7_rowFor_24 : decode cX7_rowFor 24 = .ok (.iconst (-1), 1) := by decide +kernel
theorem dX7_rowFor_25 : decode cX7_rowFor 25 = .ok (.iload_n 1, 1) := by decide +kernel
theorem dX7_rowFor_26 : decode cX7_rowFor 26 = .ok (.iload_n 2, 1) := by decide +kernel
theorem dX7_rowFor_27 : decode cX7_rowFor 27 = .ok (.invokevirtual 228, 3) := by decide +kernel
theorem dX7_rowFor_30 : decode cX7_rowFor 30 = .ok (.ireturn, 1) := by decide +kernel
theorem dX7_rowAt_0 : decode cX7_rowAt 0 = .ok (.iload_n 1, 1) := by decide +kernel
theorem dX7_rowAt_1 : decode cX7_rowAt 1 = .ok (.iconst 0, 1) := by decide +kernel
theorem dX7_rowAt_2 : decode cX7_rowAt 2 = .ok (.aload_n 0, 1) := by decide +kernel
theorem dX7_rowAt_3 : decode cX7_rowAt 3 = .ok (.getfield 33, 3) := by decide +kernel
theorem dX7_rowAt_6 : decode cX7_rowAt 6 = .ok (.getfield 232, 3) := by decide +kernel
theorem dX7_rowAt_9 : decode cX7_rowAt 9 = .ok (.iconst 1, 1) := by decide +kernel
theorem dX7_rowAt_10 : decode cX7_rowAt 10 = .ok (.isub, 1) := by decide +kernel
theorem dX7_rowAt_11 : decode cX7_rowAt 11 = .ok (.invokestatic 52, 3) := by decide +kernel
theorem dX7_rowAt_14 : decode cX7_rowAt 14 = .ok (.ifCond .eq 15, 3) := by decide +kernel
theorem dX7_rowAt_17 : decode cX7_rowAt 17 = .ok (.aload_n 0, 1) := by decide +kernel
theorem dX7_rowAt_18 : decode cX7_rowAt 18 = .ok (.getfield 33, 3) := by decide +kernel
theorem dX7_rowAt_21 : decode cX7_rowAt 21 = .ok (.getfield 235, 3) := by decide +kernel
theorem dX7_rowAt_24 : decode cX7_rowAt 24 = .ok (.iload_n 1, 1) := by decide +kernel
theorem dX7_rowAt_25 : decode cX7_rowAt 25 = .ok (.iaload, 1) := by decide +kernel
theorem dX7_rowAt_26 : decode cX7_rowAt 26 = .ok (.goto 4, 3) := by decide +kernel
theorem dX7_rowAt_29 : decode cX7_rowAt 29 = .ok (.iconst (-1), 1) := by decide +kernel
theorem dX7_rowAt_30 : decode cX7_rowAt 30 = .ok (.ireturn, 1) := by decide +kernel
theorem dX7_looked_0 : decode cX7_looked 0 = .ok (.aload_n 0, 1) := by decide +kernel
theorem dX7_looked_1 : decode cX7_looked 1 = .ok (.getfield 33, 3) := by decide +kernel
theorem dX7_looked_4 : decode cX7_looked 4 = .ok (.getfield 238, 3) := by decide +kernel
theorem dX7_looked_7 : decode cX7_looked 7 = .ok (.ireturn, 1) := by decide +kernel
theorem dX7_meanAge_0 : decode cX7_meanAge 0 = .ok (.aload_n 0, 1) := by decide +kernel
theorem dX7_meanAge_1 : decode cX7_meanAge 1 = .ok (.getfield 21, 3) := by decide +kernel
theorem dX7_meanAge_4 : decode cX7_meanAge 4 = .ok (.getfield 164, 3) := by decide +kernel
theorem dX7_meanAge_7 : decode cX7_meanAge 7 = .ok (.getfield 168, 3) := by decide +kernel
theorem dX7_meanAge_10 : decode cX7_meanAge 10 = .ok (.invokestatic 173, 3) := by decide +kernel
theorem dX7_meanAge_13 : decode cX7_meanAge 13 = .ok (.istore_n 1, 1) := by decide +kernel
theorem dX7_meanAge_14 : decode cX7_meanAge 14 = .ok (.iload_n 1, 1) := by decide +kernel
theorem dX7_meanAge_15 : decode cX7_meanAge 15 = .ok (.ifCond .ne 5, 3) := by decide +kernel
theorem dX7_meanAge_18 : decode cX7_meanAge 18 = .ok (.dconst 0, 1) := by decide +kernel
theorem dX7_meanAge_19 : decode cX7_meanAge 19 = .ok (.dreturn, 1) := by decide +kernel
theorem dX7_meanAge_20 : decode cX7_meanAge 20 = .ok (.iconst 0, 1) := by decide +kernel
theorem dX7_meanAge_21 : decode cX7_meanAge 21 = .ok (.istore_n 2, 1) := by decide +kernel
theorem dX7_meanAge_22 : decode cX7_meanAge 22 = .ok (.iconst 0, 1) := by decide +kernel
theorem dX7_meanAge_23 : decode cX7_meanAge 23 = .ok (.istore_n 3, 1) := by decide +kernel
theorem dX7_meanAge_24 : decode cX7_meanAge 24 = .ok (.iload_n 3, 1) := by decide +kernel
theorem dX7_meanAge_25 : decode cX7_meanAge 25 = .ok (.aload_n 0, 1) := by decide +kernel
theorem dX7_meanAge_26 : decode cX7_meanAge 26 = .ok (.getfield 10, 3) := by decide +kernel
theorem dX7_meanAge_29 : decode cX7_meanAge 29 = .ok (.getfield 41, 3) := by decide +kernel
theorem dX7_meanAge_32 : decode cX7_meanAge 32 = .ok (.if_icmp .ge 41, 3) := by decide +kernel
theorem dX7_meanAge_35 : decode cX7_meanAge 35 = .ok (.aload_n 0, 1) := by decide +kernel
theorem dX7_meanAge_36 : decode cX7_meanAge 36 = .ok (.getfield 21, 3) := by decide +kernel
theorem dX7_meanAge_39 : decode cX7_meanAge 39 = .ok (.getfield 164, 3) := by decide +kernel
theorem dX7_meanAge_42 : decode cX7_meanAge 42 = .ok (.getfield 168, 3) := by decide +kernel
theorem dX7_meanAge_45 : decode cX7_meanAge 45 = .ok (.iload_n 3, 1) := by decide +kernel
theorem dX7_meanAge_46 : decode cX7_meanAge 46 = .ok (.invokestatic 82, 3) := by decide +kernel
theorem dX7_meanAge_49 : decode cX7_meanAge 49 = .ok (.ifCond .eq 18, 3) := by decide +kernel
theorem dX7_meanAge_52 : decode cX7_meanAge 52 = .ok (.iload_n 2, 1) := by decide +kernel
theorem dX7_meanAge_53 : decode cX7_meanAge 53 = .ok (.aload_n 0, 1) := by decide +kernel
theorem dX7_meanAge_54 : decode cX7_meanAge 54 = .ok (.getfield 21, 3) := by decide +kernel
theorem dX7_meanAge_57 : decode cX7_meanAge 57 = .ok (.getfield 164, 3) := by decide +kernel
theorem dX7_meanAge_60 : decode cX7_meanAge 60 = .ok (.getfield 193, 3) := by decide +kernel
theorem dX7_meanAge_63 : decode cX7_meanAge 63 = .ok (.iload_n 3, 1) := by decide +kernel
theorem dX7_meanAge_64 : decode cX7_meanAge 64 = .ok (.iaload, 1) := by decide +kernel
theorem dX7_meanAge_65 : decode cX7_meanAge 65 = .ok (.iadd, 1) := by decide +kernel
theorem dX7_meanAge_66 : decode cX7_meanAge 66 = .ok (.istore_n 2, 1) := by decide +kernel
theorem dX7_meanAge_67 : decode cX7_meanAge 67 = .ok (.iinc 3 1, 3) := by decide +kernel
theorem dX7_meanAge_70 : decode cX7_meanAge 70 = .ok (.goto (-46), 3) := by decide +kernel
theorem dX7_meanAge_73 : decode cX7_meanAge 73 = .ok (.iload_n 2, 1) := by decide +kernel
theorem dX7_meanAge_74 : decode cX7_meanAge 74 = .ok (.i2d, 1) := by decide +kernel
theorem dX7_meanAge_75 : decode cX7_meanAge 75 = .ok (.iload_n 1, 1) := by decide +kernel
theorem dX7_meanAge_76 : decode cX7_meanAge 76 = .ok (.i2d, 1) := by decide +kernel
theorem dX7_meanAge_77 : decode cX7_meanAge 77 = .ok (.ddiv, 1) := by decide +kernel
theorem dX7_meanAge_78 : decode cX7_meanAge 78 = .ok (.dreturn, 1) := by decide +kernel
theorem dX7_digestOfStates_0 : decode cX7_digestOfStates 0 = .ok (.lload_n 1, 1) := by decide +kernel
theorem dX7_digestOfStates_1 : decode cX7_digestOfStates 1 = .ok (.lstore_n 3, 1) := by decide +kernel
theorem dX7_digestOfStates_2 : decode cX7_digestOfStates 2 = .ok (.aload_n 0, 1) := by decide +kernel
theorem dX7_digestOfStates_3 : decode cX7_digestOfStates 3 = .ok (.getfield 10, 3) := by decide +kernel
theorem dX7_digestOfStates_6 : decode cX7_digestOfStates 6 = .ok (.aload_n 0, 1) := by decide +kernel
theorem dX7_digestOfStates_7 : decode cX7_digestOfStates 7 = .ok (.getfield 21, 3) := by decide +kernel
theorem dX7_digestOfStates_10 : decode cX7_digestOfStates 10 = .ok (.getfield 164, 3) := by decide +kernel
theorem dX7_digestOfStates_13 : decode cX7_digestOfStates 13 = .ok (.getfield 168, 3) := by decide +kernel
theorem dX7_digestOfStates_16 : decode cX7_digestOfStates 16 = .ok (.invokevirtual 190, 3) := by decide +kernel
theorem dX7_digestOfStates_19 : decode cX7_digestOfStates 19 = .ok (.istore 5, 2) := by decide +kernel
theorem dX7_digestOfStates_21 : decode cX7_digestOfStates 21 = .ok (.iconst 0, 1) := by decide +kernel
theorem dX7_digestOfStates_22 : decode cX7_digestOfStates 22 = .ok (.istore 6, 2) := by decide +kernel
theorem dX7_digestOfStates_24 : decode cX7_digestOfStates 24 = .ok (.iload 6, 2) := by decide +kernel
theorem dX7_digestOfStates_26 : decode cX7_digestOfStates 26 = .ok (.aload_n 0, 1) := by decide +kernel
theorem dX7_digestOfStates_27 : decode cX7_digestOfStates 27 = .ok (.getfield 10, 3) := by decide +kernel
theorem dX7_digestOfStates_30 : decode cX7_digestOfStates 30 = .ok (.getfield 41, 3) := by decide +kernel
theorem dX7_digestOfStates_33 : decode cX7_digestOfStates 33 = .ok (.if_icmp .ge 107, 3) := by decide +kernel
theorem dX7_digestOfStates_36 : decode cX7_digestOfStates 36 = .ok (.iconst 0, 1) := by decide +kernel
theorem dX7_digestOfStates_37 : decode cX7_digestOfStates 37 = .ok (.istore 7, 2) := by decide +kernel
theorem dX7_digestOfStates_39 : decode cX7_digestOfStates 39 = .ok (.iload 7, 2) := by decide +kernel
theorem dX7_digestOfStates_41 : decode cX7_digestOfStates 41 = .ok (.iconst 4, 1) := by decide +kernel
theorem dX7_digestOfStates_42 : decode cX7_digestOfStates 42 = .ok (.if_icmp .ge 25, 3) := by decide +kernel
theorem dX7_digestOfStates_45 : decode cX7_digestOfStates 45 = .ok (.lload_n 3, 1) := by decide +kernel
theorem dX7_digestOfStates_46 : decode cX7_digestOfStates 46 = .ok (.ldc2_w 243, 3) := by decide +kernel
theorem dX7_digestOfStates_49 : decode cX7_digestOfStates 49 = .ok (.lmul, 1) := by decide +kernel
theorem dX7_digestOfStates_50 : decode cX7_digestOfStates 50 = .ok (.aload_n 0, 1) := by decide +kernel
theorem dX7_digestOfStates_51 : decode cX7_digestOfStates 51 = .ok (.iload 6, 2) := by decide +kernel
theorem dX7_digestOfStates_53 : decode cX7_digestOfStates 53 = .ok (.iload 7, 2) := by decide +kernel
theorem dX7_digestOfStates_55 : decode cX7_digestOfStates 55 = .ok (.invokevirtual 281, 3) := by decide +kernel
theorem dX7_digestOfStates_58 : decode cX7_digestOfStates 58 = .ok (.i2l, 1) := by decide +kernel
theorem dX7_digestOfStates_59 : decode cX7_digestOfStates 59 = .ok (.ladd, 1) := by decide +kernel
theorem dX7_digestOfStates_60 : decode cX7_digestOfStates 60 = .ok (.lstore_n 3, 1) := by decide +kernel
theorem dX7_digestOfStates_61 : decode cX7_digestOfStates 61 = .ok (.iinc 7 1, 3) := by decide +kernel
theorem dX7_digestOfStates_64 : decode cX7_digestOfStates 64 = .ok (.goto (-25), 3) := by decide +kernel
theorem dX7_digestOfStates_67 : decode cX7_digestOfStates 67 = .ok (.lload_n 3, 1) := by decide +kernel
theorem dX7_digestOfStates_68 : decode cX7_digestOfStates 68 = .ok (.ldc2_w 243, 3) := by decide +kernel
theorem dX7_digestOfStates_71 : decode cX7_digestOfStates 71 = .ok (.lmul, 1) := by decide +kernel
theorem dX7_digestOfStates_72 : decode cX7_digestOfStates 72 = .ok (.iload 5, 2) := by decide +kernel
theorem dX7_digestOfStates_74 : decode cX7_digestOfStates 74 = .ok (.iload 6, 2) := by decide +kernel
theorem dX7_digestOfStates_76 : decode cX7_digestOfStates 76 = .ok (.invokestatic 82, 3) := by decide +kernel
theorem dX7_digestOfStates_79 : decode cX7_digestOfStates 79 = .ok (.ifCond .eq 7, 3) := by decide +kernel
theorem dX7_digestOfStates_82 : decode cX7_digestOfStates 82 = .ok (.iconst 1, 1) := by decide +kernel
theorem dX7_digestOfStates_83 : decode cX7_digestOfStates 83 = .ok (.goto 4, 3) := by decide +kernel
theorem dX7_digestOfStates_86 : decode cX7_digestOfStates 86 = .ok (.iconst 0, 1) := by decide +kernel
theorem dX7_digestOfStates_87 : decode cX7_digestOfStates 87 = .ok (.i2l, 1) := by decide +kernel
theorem dX7_digestOfStates_88 : decode cX7_digestOfStates 88 = .ok (.ladd, 1) := by decide +kernel
theorem dX7_digestOfStates_89 : decode cX7_digestOfStates 89 = .ok (.lstore_n 3, 1) := by decide +kernel
theorem dX7_digestOfStates_90 : decode cX7_digestOfStates 90 = .ok (.lload_n 3, 1) := by decide +kernel
theorem dX7_digestOfStates_91 : decode cX7_digestOfStates 91 = .ok (.ldc2_w 243, 3) := by decide +kernel
theorem dX7_digestOfStates_94 : decode cX7_digestOfStates 94 = .ok (.lmul, 1) := by decide +kernel
theorem dX7_digestOfStates_95 : decode cX7_digestOfStates 95 = .ok (.aload_n 0, 1) := by decide +kernel
theorem dX7_digestOfStates_96 : decode cX7_digestOfStates 96 = .ok (.iload 6, 2) := by decide +kernel
theorem dX7_digestOfStates_98 : decode cX7_digestOfStates 98 = .ok (.invokevirtual 284, 3) := by decide +kernel
theorem dX7_digestOfStates_101 : decode cX7_digestOfStates 101 = .ok (.i2l, 1) := by decide +kernel
theorem dX7_digestOfStates_102 : decode cX7_digestOfStates 102 = .ok (.ladd, 1) := by decide +kernel
theorem dX7_digestOfStates_103 : decode cX7_digestOfStates 103 = .ok (.lstore_n 3, 1) := by decide +kernel
theorem dX7_digestOfStates_104 : decode cX7_digestOfStates 104 = .ok (.aload_n 0, 1) := by decide +kernel
theorem dX7_digestOfStates_105 : decode cX7_digestOfStates 105 = .ok (.getfield 10, 3) := by decide +kernel
theorem dX7_digestOfStates_108 : decode cX7_digestOfStates 108 = .ok (.getfield 56, 3) := by decide +kernel
theorem dX7_digestOfStates_111 : decode cX7_digestOfStates 111 = .ok (.iload 6, 2) := by decide +kernel
theorem dX7_digestOfStates_113 : decode cX7_digestOfStates 113 = .ok (.aaload, 1) := by decide +kernel
theorem dX7_digestOfStates_114 : decode cX7_digestOfStates 114 = .ok (.invokevirtual 92, 3) := by decide +kernel
theorem dX7_digestOfStates_117 : decode cX7_digestOfStates 117 = .ok (.ifCond .eq 17, 3) := by decide +kernel
theorem dX7_digestOfStates_120 : decode cX7_digestOfStates 120 = .ok (.lload_n 3, 1) := by decide +kernel
theorem dX7_digestOfStates_121 : decode cX7_digestOfStates 121 = .ok (.ldc2_w 243, 3) := by decide +kernel
theorem dX7_digestOfStates_124 : decode cX7_digestOfStates 124 = .ok (.lmul, 1) := by decide +kernel
theorem dX7_digestOfStates_125 : decode cX7_digestOfStates 125 = .ok (.aload_n 0, 1) := by decide +kernel
theorem dX7_digestOfStates_126 : decode cX7_digestOfStates 126 = .ok (.iload 6, 2) := by decide +kernel
theorem dX7_digestOfStates_128 : decode cX7_digestOfStates 128 = .ok (.invokevirtual 287, 3) := by decide +kernel
theorem dX7_digestOfStates_131 : decode cX7_digestOfStates 131 = .ok (.i2l, 1) := by decide +kernel
theorem dX7_digestOfStates_132 : decode cX7_digestOfStates 132 = .ok (.ladd, 1) := by decide +kernel
theorem dX7_digestOfStates_133 : decode cX7_digestOfStates 133 = .ok (.lstore_n 3, 1) := by decide +kernel
theorem dX7_digestOfStates_134 : decode cX7_digestOfStates 134 = .ok (.iinc 6 1, 3) := by decide +kernel
theorem dX7_digestOfStates_137 : decode cX7_digestOfStates 137 = .ok (.goto (-113), 3) := by decide +kernel
theorem dX7_digestOfStates_140 : decode cX7_digestOfStates 140 = .ok (.lload_n 3, 1) := by decide +kernel
theorem dX7_digestOfStates_141 : decode cX7_digestOfStates 141 = .ok (.lreturn, 1) := by decide +kernel
theorem dX7_digest_0 : decode cX7_digest 0 = .ok (.ldc2_w 241, 3) := by decide +kernel
theorem dX7_digest_3 : decode cX7_digest 3 = .ok (.lstore_n 1, 1) := by decide +kernel
theorem dX7_digest_4 : decode cX7_digest 4 = .ok (.lload_n 1, 1) := by decide +kernel
theorem dX7_digest_5 : decode cX7_digest 5 = .ok (.ldc2_w 243, 3) := by decide +kernel
theorem dX7_digest_8 : decode cX7_digest 8 = .ok (.lmul, 1) := by decide +kernel
theorem dX7_digest_9 : decode cX7_digest 9 = .ok (.aload_n 0, 1) := by decide +kernel
theorem dX7_digest_10 : decode cX7_digest 10 = .ok (.invokevirtual 245, 3) := by decide +kernel
theorem dX7_digest_13 : decode cX7_digest 13 = .ok (.i2l, 1) := by decide +kernel
theorem dX7_digest_14 : decode cX7_digest 14 = .ok (.ladd, 1) := by decide +kernel
theorem dX7_digest_15 : decode cX7_digest 15 = .ok (.lstore_n 1, 1) := by decide +kernel
theorem dX7_digest_16 : decode cX7_digest 16 = .ok (.lload_n 1, 1) := by decide +kernel
theorem dX7_digest_17 : decode cX7_digest 17 = .ok (.ldc2_w 243, 3) := by decide +kernel
theorem dX7_digest_20 : decode cX7_digest 20 = .ok (.lmul, 1) := by decide +kernel
theorem dX7_digest_21 : decode cX7_digest 21 = .ok (.aload_n 0, 1) := by decide +kernel
theorem dX7_digest_22 : decode cX7_digest 22 = .ok (.invokevirtual 248, 3) := by decide +kernel
theorem dX7_digest_25 : decode cX7_digest 25 = .ok (.i2l, 1) := by decide +kernel
theorem dX7_digest_26 : decode cX7_digest 26 = .ok (.ladd, 1) := by decide +kernel
theorem dX7_digest_27 : decode cX7_digest 27 = .ok (.lstore_n 1, 1) := by decide +kernel
theorem dX7_digest_28 : decode cX7_digest 28 = .ok (.lload_n 1, 1) := by decide +kernel
theorem dX7_digest_29 : decode cX7_digest 29 = .ok (.ldc2_w 243, 3) := by decide +kernel
theorem dX7_digest_32 : decode cX7_digest 32 = .ok (.lmul, 1) := by decide +kernel
theorem dX7_digest_33 : decode cX7_digest 33 = .ok (.aload_n 0, 1) := by decide +kernel
theorem dX7_digest_34 : decode cX7_digest 34 = .ok (.invokevirtual 250, 3) := by decide +kernel
theorem dX7_digest_37 : decode cX7_digest 37 = .ok (.ifCond .eq 7, 3) := by decide +kernel
theorem dX7_digest_40 : decode cX7_digest 40 = .ok (.iconst 1, 1) := by decide +kernel
theorem dX7_digest_41 : decode cX7_digest 41 = .ok (.goto 4, 3) := by decide +kernel
theorem dX7_digest_44 : decode cX7_digest 44 = .ok (.iconst 0, 1) := by decide +kernel
theorem dX7_digest_45 : decode cX7_digest 45 = .ok (.i2l, 1) := by decide +kernel
theorem dX7_digest_46 : decode cX7_digest 46 = .ok (.ladd, 1) := by decide +kernel
theorem dX7_digest_47 : decode cX7_digest 47 = .ok (.lstore_n 1, 1) := by decide +kernel
theorem dX7_digest_48 : decode cX7_digest 48 = .ok (.lload_n 1, 1) := by decide +kernel
theorem dX7_digest_49 : decode cX7_digest 49 = .ok (.ldc2_w 243, 3) := by decide +kernel
theorem dX7_digest_52 : decode cX7_digest 52 = .ok (.lmul, 1) := by decide +kernel
theorem dX7_digest_53 : decode cX7_digest 53 = .ok (.aload_n 0, 1) := by decide +kernel
theorem dX7_digest_54 : decode cX7_digest 54 = .ok (.invokevirtual 253, 3) := by decide +kernel
theorem dX7_digest_57 : decode cX7_digest 57 = .ok (.i2l, 1) := by decide +kernel
theorem dX7_digest_58 : decode cX7_digest 58 = .ok (.ladd, 1) := by decide +kernel
theorem dX7_digest_59 : decode cX7_digest 59 = .ok (.lstore_n 1, 1) := by decide +kernel
theorem dX7_digest_60 : decode cX7_digest 60 = .ok (.lload_n 1, 1) := by decide +kernel
theorem dX7_digest_61 : decode cX7_digest 61 = .ok (.ldc2_w 243, 3) := by decide +kernel
theorem dX7_digest_64 : decode cX7_digest 64 = .ok (.lmul, 1) := by decide +kernel
theorem dX7_digest_65 : decode cX7_digest 65 = .ok (.aload_n 0, 1) := by decide +kernel
theorem dX7_digest_66 : decode cX7_digest 66 = .ok (.invokevirtual 255, 3) := by decide +kernel
theorem dX7_digest_69 : decode cX7_digest 69 = .ok (.ifCond .eq 7, 3) := by decide +kernel
theorem dX7_digest_72 : decode cX7_digest 72 = .ok (.iconst 1, 1) := by decide +kernel
theorem dX7_digest_73 : decode cX7_digest 73 = .ok (.goto 4, 3) := by decide +kernel
theorem dX7_digest_76 : decode cX7_digest 76 = .ok (.iconst 0, 1) := by decide +kernel
theorem dX7_digest_77 : decode cX7_digest 77 = .ok (.i2l, 1) := by decide +kernel
theorem dX7_digest_78 : decode cX7_digest 78 = .ok (.ladd, 1) := by decide +kernel
theorem dX7_digest_79 : decode cX7_digest 79 = .ok (.lstore_n 1, 1) := by decide +kernel
theorem dX7_digest_80 : decode cX7_digest 80 = .ok (.lload_n 1, 1) := by decide +kernel
theorem dX7_digest_81 : decode cX7_digest 81 = .ok (.ldc2_w 243, 3) := by decide +kernel
theorem dX7_digest_84 : decode cX7_digest 84 = .ok (.lmul, 1) := by decide +kernel
theorem dX7_digest_85 : decode cX7_digest 85 = .ok (.aload_n 0, 1) := by decide +kernel
theorem dX7_digest_86 : decode cX7_digest 86 = .ok (.invokevirtual 258, 3) := by decide +kernel
theorem dX7_digest_89 : decode cX7_digest 89 = .ok (.i2l, 1) := by decide +kernel
theorem dX7_digest_90 : decode cX7_digest 90 = .ok (.ladd, 1) := by decide +kernel
theorem dX7_digest_91 : decode cX7_digest 91 = .ok (.lstore_n 1, 1) := by decide +kernel
theorem dX7_digest_92 : decode cX7_digest 92 = .ok (.lload_n 1, 1) := by decide +kernel
theorem dX7_digest_93 : decode cX7_digest 93 = .ok (.ldc2_w 243, 3) := by decide +kernel
theorem dX7_digest_96 : decode cX7_digest 96 = .ok (.lmul, 1) := by decide +kernel
theorem dX7_digest_97 : decode cX7_digest 97 = .ok (.aload_n 0, 1) := by decide +kernel
theorem dX7_digest_98 : decode cX7_digest 98 = .ok (.invokevirtual 260, 3) := by decide +kernel
theorem dX7_digest_101 : decode cX7_digest 101 = .ok (.i2l, 1) := by decide +kernel
theorem dX7_digest_102 : decode cX7_digest 102 = .ok (.ladd, 1) := by decide +kernel
theorem dX7_digest_103 : decode cX7_digest 103 = .ok (.lstore_n 1, 1) := by decide +kernel
theorem dX7_digest_104 : decode cX7_digest 104 = .ok (.lload_n 1, 1) := by decide +kernel
theorem dX7_digest_105 : decode cX7_digest 105 = .ok (.ldc2_w 243, 3) := by decide +kernel
theorem dX7_digest_108 : decode cX7_digest 108 = .ok (.lmul, 1) := by decide +kernel
theorem dX7_digest_109 : decode cX7_digest 109 = .ok (.aload_n 0, 1) := by decide +kernel
theorem dX7_digest_110 : decode cX7_digest 110 = .ok (.invokevirtual 263, 3) := by decide +kernel
theorem dX7_digest_113 : decode cX7_digest 113 = .ok (.i2l, 1) := by decide +kernel
theorem dX7_digest_114 : decode cX7_digest 114 = .ok (.ladd, 1) := by decide +kernel
theorem dX7_digest_115 : decode cX7_digest 115 = .ok (.lstore_n 1, 1) := by decide +kernel
theorem dX7_digest_116 : decode cX7_digest 116 = .ok (.lload_n 1, 1) := by decide +kernel
theorem dX7_digest_117 : decode cX7_digest 117 = .ok (.ldc2_w 243, 3) := by decide +kernel
theorem dX7_digest_120 : decode cX7_digest 120 = .ok (.lmul, 1) := by decide +kernel
theorem dX7_digest_121 : decode cX7_digest 121 = .ok (.aload_n 0, 1) := by decide +kernel
theorem dX7_digest_122 : decode cX7_digest 122 = .ok (.invokevirtual 265, 3) := by decide +kernel
theorem dX7_digest_125 : decode cX7_digest 125 = .ok (.i2l, 1) := by decide +kernel
theorem dX7_digest_126 : decode cX7_digest 126 = .ok (.ladd, 1) := by decide +kernel
theorem dX7_digest_127 : decode cX7_digest 127 = .ok (.lstore_n 1, 1) := by decide +kernel
theorem dX7_digest_128 : decode cX7_digest 128 = .ok (.lload_n 1, 1) := by decide +kernel
theorem dX7_digest_129 : decode cX7_digest 129 = .ok (.ldc2_w 243, 3) := by decide +kernel
theorem dX7_digest_132 : decode cX7_digest 132 = .ok (.lmul, 1) := by decide +kernel
theorem dX7_digest_133 : decode cX7_digest 133 = .ok (.aload_n 0, 1) := by decide +kernel
theorem dX7_digest_134 : decode cX7_digest 134 = .ok (.invokevirtual 267, 3) := by decide +kernel
theorem dX7_digest_137 : decode cX7_digest 137 = .ok (.i2l, 1) := by decide +kernel
theorem dX7_digest_138 : decode cX7_digest 138 = .ok (.ladd, 1) := by decide +kernel
theorem dX7_digest_139 : decode cX7_digest 139 = .ok (.lstore_n 1, 1) := by decide +kernel
theorem dX7_digest_140 : decode cX7_digest 140 = .ok (.aload_n 0, 1) := by decide +kernel
theorem dX7_digest_141 : decode cX7_digest 141 = .ok (.lload_n 1, 1) := by decide +kernel
theorem dX7_digest_142 : decode cX7_digest 142 = .ok (.invokevirtual 270, 3) := by decide +kernel
theorem dX7_digest_145 : decode cX7_digest 145 = .ok (.lstore_n 1, 1) := by decide +kernel
theorem dX7_digest_146 : decode cX7_digest 146 = .ok (.iconst 0, 1) := by decide +kernel
theorem dX7_digest_147 : decode cX7_digest 147 = .ok (.istore_n 3, 1) := by decide +kernel
theorem dX7_digest_148 : decode cX7_digest 148 = .ok (.iload_n 3, 1) := by decide +kernel
theorem dX7_digest_149 : decode cX7_digest 149 = .ok (.iconst 4, 1) := by decide +kernel
theorem dX7_digest_150 : decode cX7_digest 150 = .ok (.if_icmp .ge 22, 3) := by decide +kernel
theorem dX7_digest_153 : decode cX7_digest 153 = .ok (.lload_n 1, 1) := by decide +kernel
theorem dX7_digest_154 : decode cX7_digest 154 = .ok (.ldc2_w 243, 3) := by decide +kernel
theorem dX7_digest_157 : decode cX7_digest 157 = .ok (.lmul, 1) := by decide +kernel
theorem dX7_digest_158 : decode cX7_digest 158 = .ok (.aload_n 0, 1) := by decide +kernel
theorem dX7_digest_159 : decode cX7_digest 159 = .ok (.iload_n 3, 1) := by decide +kernel
theorem dX7_digest_160 : decode cX7_digest 160 = .ok (.invokevirtual 274, 3) := by decide +kernel
theorem dX7_digest_163 : decode cX7_digest 163 = .ok (.i2l, 1) := by decide +kernel
theorem dX7_digest_164 : decode cX7_digest 164 = .ok (.ladd, 1) := by decide +kernel
theorem dX7_digest_165 : decode cX7_digest 165 = .ok (.lstore_n 1, 1) := by decide +kernel
theorem dX7_digest_166 : decode cX7_digest 166 = .ok (.iinc 3 1, 3) := by decide +kernel
theorem dX7_digest_169 : decode cX7_digest 169 = .ok (.goto (-21), 3) := by decide +kernel
theorem dX7_digest_172 : decode cX7_digest 172 = .ok (.iconst 0, 1) := by decide +kernel
theorem dX7_digest_173 : decode cX7_digest 173 = .ok (.istore_n 3, 1) := by decide +kernel
theorem dX7_digest_174 : decode cX7_digest 174 = .ok (.iload_n 3, 1) := by decide +kernel
theorem dX7_digest_175 : decode cX7_digest 175 = .ok (.aload_n 0, 1) := by decide +kernel
theorem dX7_digest_176 : decode cX7_digest 176 = .ok (.getfield 10, 3) := by decide +kernel
theorem dX7_digest_179 : decode cX7_digest 179 = .ok (.getfield 111, 3) := by decide +kernel
theorem dX7_digest_182 : decode cX7_digest 182 = .ok (.if_icmp .ge 22, 3) := by decide +kernel
theorem dX7_digest_185 : decode cX7_digest 185 = .ok (.lload_n 1, 1) := by decide +kernel
theorem dX7_digest_186 : decode cX7_digest 186 = .ok (.ldc2_w 243, 3) := by decide +kernel
theorem dX7_digest_189 : decode cX7_digest 189 = .ok (.lmul, 1) := by decide +kernel
theorem dX7_digest_190 : decode cX7_digest 190 = .ok (.aload_n 0, 1) := by decide +kernel
theorem dX7_digest_191 : decode cX7_digest 191 = .ok (.iload_n 3, 1) := by decide +kernel
theorem dX7_digest_192 : decode cX7_digest 192 = .ok (.invokevirtual 276, 3) := by decide +kernel
theorem dX7_digest_195 : decode cX7_digest 195 = .ok (.i2l, 1) := by decide +kernel
theorem dX7_digest_196 : decode cX7_digest 196 = .ok (.ladd, 1) := by decide +kernel
theorem dX7_digest_197 : decode cX7_digest 197 = .ok (.lstore_n 1, 1) := by decide +kernel
theorem dX7_digest_198 : decode cX7_digest 198 = .ok (.iinc 3 1, 3) := by decide +kernel
theorem dX7_digest_201 : decode cX7_digest 201 = .ok (.goto (-27), 3) := by decide +kernel
theorem dX7_digest_204 : decode cX7_digest 204 = .ok (.iconst 0, 1) := by decide +kernel
theorem dX7_digest_205 : decode cX7_digest 205 = .ok (.istore_n 3, 1) := by decide +kernel
theorem dX7_digest_206 : decode cX7_digest 206 = .ok (.iload_n 3, 1) := by decide +kernel
theorem dX7_digest_207 : decode cX7_digest 207 = .ok (.bipush 8, 2) := by decide +kernel
theorem dX7_digest_209 : decode cX7_digest 209 = .ok (.if_icmp .ge 22, 3) := by decide +kernel
theorem dX7_digest_212 : decode cX7_digest 212 = .ok (.lload_n 1, 1) := by decide +kernel
theorem dX7_digest_213 : decode cX7_digest 213 = .ok (.ldc2_w 243, 3) := by decide +kernel
theorem dX7_digest_216 : decode cX7_digest 216 = .ok (.lmul, 1) := by decide +kernel
theorem dX7_digest_217 : decode cX7_digest 217 = .ok (.aload_n 0, 1) := by decide +kernel
theorem dX7_digest_218 : decode cX7_digest 218 = .ok (.iload_n 3, 1) := by decide +kernel
theorem dX7_digest_219 : decode cX7_digest 219 = .ok (.invokevirtual 278, 3) := by decide +kernel
theorem dX7_digest_222 : decode cX7_digest 222 = .ok (.i2l, 1) := by decide +kernel
theorem dX7_digest_223 : decode cX7_digest 223 = .ok (.ladd, 1) := by decide +kernel
theorem dX7_digest_224 : decode cX7_digest 224 = .ok (.lstore_n 1, 1) := by decide +kernel
theorem dX7_digest_225 : decode cX7_digest 225 = .ok (.iinc 3 1, 3) := by decide +kernel
theorem dX7_digest_228 : decode cX7_digest 228 = .ok (.goto (-22), 3) := by decide +kernel
theorem dX7_digest_231 : decode cX7_digest 231 = .ok (.lload_n 1, 1) := by decide +kernel
theorem dX7_digest_232 : decode cX7_digest 232 = .ok (.lreturn, 1) := by decide +kernel
theorem dJ3_checkIndex_8e157_0 : decode cJ3_checkIndex_8e157 0 = .ok (.iload_n 0, 1) := by decide +kernel
theorem dJ3_checkIndex_8e157_1 : decode cJ3_checkIndex_8e157 1 = .ok (.ifCond .lt 8, 3) := by decide +kernel
theorem dJ3_checkIndex_8e157_4 : decode cJ3_checkIndex_8e157 4 = .ok (.iload_n 0, 1) := by decide +kernel
theorem dJ3_checkIndex_8e157_5 : decode cJ3_checkIndex_8e157 5 = .ok (.iload_n 1, 1) := by decide +kernel
theorem dJ3_checkIndex_8e157_6 : decode cJ3_checkIndex_8e157 6 = .ok (.if_icmp .lt 10, 3) := by decide +kernel
theorem dJ3_checkIndex_8e157_9 : decode cJ3_checkIndex_8e157 9 = .ok (.aload_n 2, 1) := by decide +kernel
theorem dJ3_checkIndex_8e157_10 : decode cJ3_checkIndex_8e157 10 = .ok (.iload_n 0, 1) := by decide +kernel
theorem dJ3_checkIndex_8e157_11 : decode cJ3_checkIndex_8e157 11 = .ok (.iload_n 1, 1) := by decide +kernel
theorem dJ3_checkIndex_8e157_12 : decode cJ3_checkIndex_8e157 12 = .ok (.invokestatic 95, 3) := by decide +kernel
theorem dJ3_checkIndex_8e157_15 : decode cJ3_checkIndex_8e157 15 = .ok (.athrow, 1) := by decide +kernel
theorem dJ3_checkIndex_8e157_16 : decode cJ3_checkIndex_8e157 16 = .ok (.iload_n 0, 1) := by decide +kernel
theorem dJ3_checkIndex_8e157_17 : decode cJ3_checkIndex_8e157 17 = .ok (.ireturn, 1) := by decide +kernel
theorem dJ15_checkIndex_7cf53_0 : decode cJ15_checkIndex_7cf53 0 = .ok (.iload_n 0, 1) := by decide +kernel
theorem dJ15_checkIndex_7cf53_1 : decode cJ15_checkIndex_7cf53 1 = .ok (.iload_n 1, 1) := by decide +kernel
theorem dJ15_checkIndex_7cf53_2 : decode cJ15_checkIndex_7cf53 2 = .ok (.aconst_null, 1) := by decide +kernel
theorem dJ15_checkIndex_7cf53_3 : decode cJ15_checkIndex_7cf53 3 = .ok (.invokestatic 105, 3) := by decide +kernel
theorem dJ15_checkIndex_7cf53_6 : decode cJ15_checkIndex_7cf53 6 = .ok (.ireturn, 1) := by decide +kernel
theorem dJx4a65c_elementData_915e3_0 : decode cJx4a65c_elementData_915e3 0 = .ok (.aload_n 0, 1) := by decide +kernel
theorem dJx4a65c_elementData_915e3_1 : decode cJx4a65c_elementData_915e3 1 = .ok (.getfield 9, 3) := by decide +kernel
theorem dJx4a65c_elementData_915e3_4 : decode cJx4a65c_elementData_915e3 4 = .ok (.iload_n 1, 1) := by decide +kernel
theorem dJx4a65c_elementData_915e3_5 : decode cJx4a65c_elementData_915e3 5 = .ok (.aaload, 1) := by decide +kernel
theorem dJx4a65c_elementData_915e3_6 : decode cJx4a65c_elementData_915e3 6 = .ok (.areturn, 1) := by decide +kernel
theorem dJx4a65c_get_915e3_0 : decode cJx4a65c_get_915e3 0 = .ok (.iload_n 1, 1) := by decide +kernel
theorem dJx4a65c_get_915e3_1 : decode cJx4a65c_get_915e3 1 = .ok (.aload_n 0, 1) := by decide +kernel
theorem dJx4a65c_get_915e3_2 : decode cJx4a65c_get_915e3 2 = .ok (.getfield 48, 3) := by decide +kernel
theorem dJx4a65c_get_915e3_5 : decode cJx4a65c_get_915e3 5 = .ok (.invokestatic 118, 3) := by decide +kernel
theorem dJx4a65c_get_915e3_8 : decode cJx4a65c_get_915e3 8 = .ok (.pop, 1) := by decide +kernel
theorem dJx4a65c_get_915e3_9 : decode cJx4a65c_get_915e3 9 = .ok (.aload_n 0, 1) := by decide +kernel
theorem dJx4a65c_get_915e3_10 : decode cJx4a65c_get_915e3 10 = .ok (.iload_n 1, 1) := by decide +kernel
theorem dJx4a65c_get_915e3_11 : decode cJx4a65c_get_915e3 11 = .ok (.invokevirtual 123, 3) := by decide +kernel
theorem dJx4a65c_get_915e3_14 : decode cJx4a65c_get_915e3 14 = .ok (.areturn, 1) := by decide +kernel
theorem dJx4a65c_size_8abf5_0 : decode cJx4a65c_size_8abf5 0 = .ok (.aload_n 0, 1) := by decide +kernel
theorem dJx4a65c_size_8abf5_1 : decode cJx4a65c_size_8abf5 1 = .ok (.getfield 48, 3) := by decide +kernel
theorem dJx4a65c_size_8abf5_4 : decode cJx4a65c_size_8abf5 4 = .ok (.ireturn, 1) := by decide +kernel
theorem dJx4a65c_isEmpty_aae02_0 : decode cJx4a65c_isEmpty_aae02 0 = .ok (.aload_n 0, 1) := by decide +kernel
theorem dJx4a65c_isEmpty_aae02_1 : decode cJx4a65c_isEmpty_aae02 1 = .ok (.getfield 48, 3) := by decide +kernel
theorem dJx4a65c_isEmpty_aae02_4 : decode cJx4a65c_isEmpty_aae02 4 = .ok (.ifCond .ne 7, 3) := by decide +kernel
theorem dJx4a65c_isEmpty_aae02_7 : decode cJx4a65c_isEmpty_aae02 7 = .ok (.iconst 1, 1) := by decide +kernel
theorem dJx4a65c_isEmpty_aae02_8 : decode cJx4a65c_isEmpty_aae02 8 = .ok (.goto 4, 3) := by decide +kernel
theorem dJx4a65c_isEmpty_aae02_11 : decode cJx4a65c_isEmpty_aae02 11 = .ok (.iconst 0, 1) := by decide +kernel
theorem dJx4a65c_isEmpty_aae02_12 : decode cJx4a65c_isEmpty_aae02 12 = .ok (.ireturn, 1) := by decide +kernel
theorem dJx4a65c_clear_da8c8_0 : decode cJx4a65c_clear_da8c8 0 = .ok (.aload_n 0, 1) := by decide +kernel
theorem dJx4a65c_clear_da8c8_1 : decode cJx4a65c_clear_da8c8 1 = .ok (.dup, 1) := by decide +kernel
theorem dJx4a65c_clear_da8c8_2 : decode cJx4a65c_clear_da8c8 2 = .ok (.getfield 63, 3) := by decide +kernel
theorem dJx4a65c_clear_da8c8_5 : decode cJx4a65c_clear_da8c8 5 = .ok (.iconst 1, 1) := by decide +kernel
theorem dJx4a65c_clear_da8c8_6 : decode cJx4a65c_clear_da8c8 6 = .ok (.iadd, 1) := by decide +kernel
theorem dJx4a65c_clear_da8c8_7 : decode cJx4a65c_clear_da8c8 7 = .ok (.putfield 63, 3) := by decide +kernel
theorem dJx4a65c_clear_da8c8_10 : decode cJx4a65c_clear_da8c8 10 = .ok (.aload_n 0, 1) := by decide +kernel
theorem dJx4a65c_clear_da8c8_11 : decode cJx4a65c_clear_da8c8 11 = .ok (.getfield 9, 3) := by decide +kernel
theorem dJx4a65c_clear_da8c8_14 : decode cJx4a65c_clear_da8c8 14 = .ok (.astore_n 1, 1) := by decide +kernel
theorem dJx4a65c_clear_da8c8_15 : decode cJx4a65c_clear_da8c8 15 = .ok (.aload_n 0, 1) := by decide +kernel
theorem dJx4a65c_clear_da8c8_16 : decode cJx4a65c_clear_da8c8 16 = .ok (.getfield 48, 3) := by decide +kernel
theorem dJx4a65c_clear_da8c8_19 : decode cJx4a65c_clear_da8c8 19 = .ok (.istore_n 2, 1) := by decide +kernel
theorem dJx4a65c_clear_da8c8_20 : decode cJx4a65c_clear_da8c8 20 = .ok (.aload_n 0, 1) := by decide +kernel
theorem dJx4a65c_clear_da8c8_21 : decode cJx4a65c_clear_da8c8 21 = .ok (.iconst 0, 1) := by decide +kernel
theorem dJx4a65c_clear_da8c8_22 : decode cJx4a65c_clear_da8c8 22 = .ok (.dup_x1, 1) := by decide +kernel
theorem dJx4a65c_clear_da8c8_23 : decode cJx4a65c_clear_da8c8 23 = .ok (.putfield 48, 3) := by decide +kernel
theorem dJx4a65c_clear_da8c8_26 : decode cJx4a65c_clear_da8c8 26 = .ok (.istore_n 3, 1) := by decide +kernel
theorem dJx4a65c_clear_da8c8_27 : decode cJx4a65c_clear_da8c8 27 = .ok (.iload_n 3, 1) := by decide +kernel
theorem dJx4a65c_clear_da8c8_28 : decode cJx4a65c_clear_da8c8 28 = .ok (.iload_n 2, 1) := by decide +kernel
theorem dJx4a65c_clear_da8c8_29 : decode cJx4a65c_clear_da8c8 29 = .ok (.if_icmp .ge 13, 3) := by decide +kernel
theorem dJx4a65c_clear_da8c8_32 : decode cJx4a65c_clear_da8c8 32 = .ok (.aload_n 1, 1) := by decide +kernel
theorem dJx4a65c_clear_da8c8_33 : decode cJx4a65c_clear_da8c8 33 = .ok (.iload_n 3, 1) := by decide +kernel
theorem dJx4a65c_clear_da8c8_34 : decode cJx4a65c_clear_da8c8 34 = .ok (.aconst_null, 1) := by decide +kernel
theorem dJx4a65c_clear_da8c8_35 : decode cJx4a65c_clear_da8c8 35 = .ok (.aastore, 1) := by decide +kernel
theorem dJx4a65c_clear_da8c8_36 : decode cJx4a65c_clear_da8c8 36 = .ok (.iinc 3 1, 3) := by decide +kernel
theorem dJx4a65c_clear_da8c8_39 : decode cJx4a65c_clear_da8c8 39 = .ok (.goto (-12), 3) := by decide +kernel
theorem dJx4a65c_clear_da8c8_42 : decode cJx4a65c_clear_da8c8 42 = .ok (.return_, 1) := by decide +kernel
theorem dX12_has_0 : decode cX12_has 0 = .ok (.iload_n 0, 1) := by decide +kernel
theorem dX12_has_1 : decode cX12_has 1 = .ok (.iload_n 1, 1) := by decide +kernel
theorem dX12_has_2 : decode cX12_has 2 = .ok (.ishr, 1) := by decide +kernel
theorem dX12_has_3 : decode cX12_has 3 = .ok (.iconst 1, 1) := by decide +kernel
theorem dX12_has_4 : decode cX12_has 4 = .ok (.iand, 1) := by decide +kernel
theorem dX12_has_5 : decode cX12_has 5 = .ok (.iconst 1, 1) := by decide +kernel
theorem dX12_has_6 : decode cX12_has 6 = .ok (.if_icmp .ne 7, 3) := by decide +kernel
theorem dX12_has_9 : decode cX12_has 9 = .ok (.iconst 1, 1) := by decide +kernel
theorem dX12_has_10 : decode cX12_has 10 = .ok (.goto 4, 3) := by decide +kernel
theorem dX12_has_13 : decode cX12_has 13 = .ok (.iconst 0, 1) := by decide +kernel
theorem dX12_has_14 : decode cX12_has 14 = .ok (.ireturn, 1) := by decide +kernel
theorem dX12_isIn_0 : decode cX12_isIn 0 = .ok (.iload_n 0, 1) := by decide +kernel
theorem dX12_isIn_1 : decode cX12_isIn 1 = .ok (.iload_n 1, 1) := by decide +kernel
theorem dX12_isIn_2 : decode cX12_isIn 2 = .ok (.if_icmp .lt 12, 3) := by decide +kernel
theorem dX12_isIn_5 : decode cX12_isIn 5 = .ok (.iload_n 0, 1) := by decide +kernel
theorem dX12_isIn_6 : decode cX12_isIn 6 = .ok (.iload_n 2, 1) := by decide +kernel
theorem dX12_isIn_7 : decode cX12_isIn 7 = .ok (.if_icmp .gt 7, 3) := by decide +kernel
theorem dX12_isIn_10 : decode cX12_isIn 10 = .ok (.iconst 1, 1) := by decide +kernel
theorem dX12_isIn_11 : decode cX12_isIn 11 = .ok (.goto 4, 3) := by decide +kernel
theorem dX12_isIn_14 : decode cX12_isIn 14 = .ok (.iconst 0, 1) := by decide +kernel
theorem dX12_isIn_15 : decode cX12_isIn 15 = .ok (.ireturn, 1) := by decide +kernel
theorem dX10_isMark_0 : decode cX10_isMark 0 = .ok (.aload_n 0, 1) := by decide +kernel
theorem dX10_isMark_1 : decode cX10_isMark 1 = .ok (.getfield 28, 3) := by decide +kernel
theorem dX10_isMark_4 : decode cX10_isMark 4 = .ok (.iconst 3, 1) := by decide +kernel
theorem dX10_isMark_5 : decode cX10_isMark 5 = .ok (.if_icmp .lt 7, 3) := by decide +kernel
theorem dX10_isMark_8 : decode cX10_isMark 8 = .ok (.iconst 1, 1) := by decide +kernel
theorem dX10_isMark_9 : decode cX10_isMark 9 = .ok (.goto 4, 3) := by decide +kernel
theorem dX10_isMark_12 : decode cX10_isMark 12 = .ok (.iconst 0, 1) := by decide +kernel
theorem dX10_isMark_13 : decode cX10_isMark 13 = .ok (.ireturn, 1) := by decide +kernel
theorem dX10_isOpen_0 : decode cX10_isOpen 0 = .ok (.aload_n 0, 1) := by decide +kernel
theorem dX10_isOpen_1 : decode cX10_isOpen 1 = .ok (.getfield 28, 3) := by decide +kernel
theorem dX10_isOpen_4 : decode cX10_isOpen 4 = .ok (.ifCond .eq 11, 3) := by decide +kernel
theorem dX10_isOpen_7 : decode cX10_isOpen 7 = .ok (.aload_n 0, 1) := by decide +kernel
theorem dX10_isOpen_8 : decode cX10_isOpen 8 = .ok (.getfield 28, 3) := by decide +kernel
theorem dX10_isOpen_11 : decode cX10_isOpen 11 = .ok (.iconst 1, 1) := by decide +kernel
theorem dX10_isOpen_12 : decode cX10_isOpen 12 = .ok (.if_icmp .ne 7, 3) := by decide +kernel
theorem dX10_isOpen_15 : decode cX10_isOpen 15 = .ok (.iconst 1, 1) := by decide +kernel
theorem dX10_isOpen_16 : decode cX10_isOpen 16 = .ok (.goto 4, 3) := by decide +kernel
theorem dX10_isOpen_19 : decode cX10_isOpen 19 = .ok (.iconst 0, 1) := by decide +kernel
theorem dX10_isOpen_20 : decode cX10_isOpen 20 = .ok (.ireturn, 1) := by decide +kernel
theorem dX8_parent_0 : decode cX8_parent 0 = .ok (.aload_n 0, 1) := by decide +kernel
theorem dX8_parent_1 : decode cX8_parent 1 = .ok (.getfield 12, 3) := by decide +kernel
theorem dX8_parent_4 : decode cX8_parent 4 = .ok (.iload_n 1, 1) := by decide +kernel
theorem dX8_parent_5 : decode cX8_parent 5 = .ok (.invokevirtual 21, 3) := by decide +kernel
theorem dX8_parent_8 : decode cX8_parent 8 = .ok (.checkcast 25, 3) := by decide +kernel
theorem dX8_parent_11 : decode cX8_parent 11 = .ok (.getfield 27, 3) := by decide +kernel
theorem dX8_parent_14 : decode cX8_parent 14 = .ok (.ireturn, 1) := by decide +kernel
theorem dX8_kind_0 : decode cX8_kind 0 = .ok (.aload_n 0, 1) := by decide +kernel
theorem dX8_kind_1 : decode cX8_kind 1 = .ok (.getfield 12, 3) := by decide +kernel
theorem dX8_kind_4 : decode cX8_kind 4 = .ok (.iload_n 1, 1) := by decide +kernel
theorem dX8_kind_5 : decode cX8_kind 5 = .ok (.invokevirtual 21, 3) := by decide +kernel
theorem dX8_kind_8 : decode cX8_kind 8 = .ok (.checkcast 25, 3) := by decide +kernel
theorem dX8_kind_11 : decode cX8_kind 11 = .ok (.getfield 31, 3) := by decide +kernel
theorem dX8_kind_14 : decode cX8_kind 14 = .ok (.ireturn, 1) := by decide +kernel
theorem dX8_parts_0 : decode cX8_parts 0 = .ok (.iconst 0, 1) := by decide +kernel
theorem dX8_parts_1 : decode cX8_parts 1 = .ok (.istore_n 2, 1) := by decide +kernel
theorem dX8_parts_2 : decode cX8_parts 2 = .ok (.iconst 0, 1) := by decide +kernel
theorem dX8_parts_3 : decode cX8_parts 3 = .ok (.istore_n 3, 1) := by decide +kernel
theorem dX8_parts_4 : decode cX8_parts 4 = .ok (.iload_n 3, 1) := by decide +kernel
theorem dX8_parts_5 : decode cX8_parts 5 = .ok (.aload_n 0, 1) := by decide +kernel
theorem dX8_parts_6 : decode cX8_parts 6 = .ok (.getfield 12, 3) := by decide +kernel
theorem dX8_parts_9 : decode cX8_parts 9 = .ok (.invokevirtual 34, 3) := by decide +kernel
theorem dX8_parts_12 : decode cX8_parts 12 = .ok (.if_icmp .ge 41, 3) := by decide +kernel
theorem dX8_parts_15 : decode cX8_parts 15 = .ok (.aload_n 0, 1) := by decide +kernel
theorem dX8_parts_16 : decode cX8_parts 16 = .ok (.iload_n 3, 1) := by decide +kernel
theorem dX8_parts_17 : decode cX8_parts 17 = .ok (.invokevirtual 38, 3) := by decide +kernel
theorem dX8_parts_20 : decode cX8_parts 20 = .ok (.iload_n 1, 1) := by decide +kernel
theorem dX8_parts_21 : decode cX8_parts 21 = .ok (.if_icmp .ne 26, 3) := by decide +kernel
theorem dX8_parts_24 : decode cX8_parts 24 = .ok (.aload_n 0, 1) := by decide +kernel
theorem dX8_parts_25 : decode cX8_parts 25 = .ok (.getfield 12, 3) := by decide +kernel
theorem dX8_parts_28 : decode cX8_parts 28 = .ok (.iload_n 3, 1) := by decide +kernel
theorem dX8_parts_29 : decode cX8_parts 29 = .ok (.invokevirtual 21, 3) := by decide +kernel
theorem dX8_parts_32 : decode cX8_parts 32 = .ok (.checkcast 25, 3) := by decide +kernel
theorem dX8_parts_35 : decode cX8_parts 35 = .ok (.invokevirtual 41, 3) := by decide +kernel
theorem dX8_parts_38 : decode cX8_parts 38 = .ok (.ifCond .ne 9, 3) := by decide +kernel
theorem dX8_parts_41 : decode cX8_parts 41 = .ok (.iload_n 2, 1) := by decide +kernel
theorem dX8_parts_42 : decode cX8_parts 42 = .ok (.iconst 1, 1) := by decide +kernel
theorem dX8_parts_43 : decode cX8_parts 43 = .ok (.iload_n 3, 1) := by decide +kernel
theorem dX8_parts_44 : decode cX8_parts 44 = .ok (.ishl, 1) := by decide +kernel
theorem dX8_parts_45 : decode cX8_parts 45 = .ok (.ior, 1) := by decide +kernel
theorem dX8_parts_46 : decode cX8_parts 46 = .ok (.istore_n 2, 1) := by decide +kernel
theorem dX8_parts_47 : decode cX8_parts 47 = .ok (.iinc 3 1, 3) := by decide +kernel
theorem dX8_parts_50 : decode cX8_parts 50 = .ok (.goto (-46), 3) := by decide +kernel
theorem dX8_parts_53 : decode cX8_parts 53 = .ok (.iload_n 2, 1) := by decide +kernel
theorem dX8_parts_54 : decode cX8_parts 54 = .ok (.ireturn, 1) := by decide +kernel
theorem dX8_isLeaf_0 : decode cX8_isLeaf 0 = .ok (.aload_n 0, 1) := by decide +kernel
theorem dX8_isLeaf_1 : decode cX8_isLeaf 1 = .ok (.getfield 12, 3) := by decide +kernel
theorem dX8_isLeaf_4 : decode cX8_isLeaf 4 = .ok (.iload_n 1, 1) := by decide +kernel
theorem dX8_isLeaf_5 : decode cX8_isLeaf 5 = .ok (.invokevirtual 21, 3) := by decide +kernel
theorem dX8_isLeaf_8 : decode cX8_isLeaf 8 = .ok (.checkcast 25, 3) := by decide +kernel
theorem dX8_isLeaf_11 : decode cX8_isLeaf 11 = .ok (.invokevirtual 41, 3) := by decide +kernel
theorem dX8_isLeaf_14 : decode cX8_isLeaf 14 = .ok (.ifCond .ne 15, 3) := by decide +kernel
theorem dX8_isLeaf_17 : decode cX8_isLeaf 17 = .ok (.aload_n 0, 1) := by decide +kernel
theorem dX8_isLeaf_18 : decode cX8_isLeaf 18 = .ok (.iload_n 1, 1) := by decide +kernel
theorem dX8_isLeaf_19 : decode cX8_isLeaf 19 = .ok (.invokevirtual 45, 3) := by decide +kernel
theorem dX8_isLeaf_22 : decode cX8_isLeaf 22 = .ok (.ifCond .ne 7, 3) := by decide +kernel
theorem dX8_isLeaf_25 : decode cX8_isLeaf 25 = .ok (.iconst 1, 1) := by decide +kernel
theorem dX8_isLeaf_26 : decode cX8_isLeaf 26 = .ok (.goto 4, 3) := by decide +kernel
theorem dX8_isLeaf_29 : decode cX8_isLeaf 29 = .ok (.iconst 0, 1) := by decide +kernel
theorem dX8_isLeaf_30 : decode cX8_isLeaf 30 = .ok (.ireturn, 1) := by decide +kernel
theorem dX8_first_0 : decode cX8_first 0 = .ok (.aload_n 0, 1) := by decide +kernel
theorem dX8_first_1 : decode cX8_first 1 = .ok (.iload_n 1, 1) := by decide +kernel
theorem dX8_first_2 : decode cX8_first 2 = .ok (.invokevirtual 48, 3) := by decide +kernel
theorem dX8_first_5 : decode cX8_first 5 = .ok (.ifCond .ne 11, 3) := by decide +kernel
theorem dX8_first_8 : decode cX8_first 8 = .ok (.aload_n 0, 1) := by decide +kernel
theorem dX8_first_9 : decode cX8_first 9 = .ok (.iload_n 1, 1) := by decide +kernel
theorem dX8_first_10 : decode cX8_first 10 = .ok (.invokevirtual 45, 3) := by decide +kernel
theorem dX8_first_13 : decode cX8_first 13 = .ok (.ifCond .ne 5, 3) := by decide +kernel
theorem dX8_first_16 : decode cX8_first 16 = .ok (.iconst (-1), 1) := by decide +kernel
theorem dX8_first_17 : decode cX8_first 17 = .ok (.ireturn, 1) := by decide +kernel
theorem dX8_first_18 : decode cX8_first 18 = .ok (.aload_n 0, 1) := by decide +kernel
theorem dX8_first_19 : decode cX8_first 19 = .ok (.getfield 12, 3) := by decide +kernel
theorem dX8_first_22 : decode cX8_first 22 = .ok (.iload_n 1, 1) := by decide +kernel
theorem dX8_first_23 : decode cX8_first 23 = .ok (.invokevirtual 21, 3) := by decide +kernel
theorem dX8_first_26 : decode cX8_first 26 = .ok (.checkcast 25, 3) := by decide +kernel
theorem dX8_first_29 : decode cX8_first 29 = .ok (.getfield 50, 3) := by decide +kernel
theorem dX8_first_32 : decode cX8_first 32 = .ok (.iconst (-1), 1) := by decide +kernel
theorem dX8_first_33 : decode cX8_first 33 = .ok (.if_icmp .eq 20, 3) := by decide +kernel
theorem dX8_first_36 : decode cX8_first 36 = .ok (.aload_n 0, 1) := by decide +kernel
theorem dX8_first_37 : decode cX8_first 37 = .ok (.getfield 12, 3) := by decide +kernel
theorem dX8_first_40 : decode cX8_first 40 = .ok (.iload_n 1, 1) := by decide +kernel
theorem dX8_first_41 : decode cX8_first 41 = .ok (.invokevirtual 21, 3) := by decide +kernel
theorem dX8_first_44 : decode cX8_first 44 = .ok (.checkcast 25, 3) := by decide +kernel
theorem dX8_first_47 : decode cX8_first 47 = .ok (.getfield 50, 3) := by decide +kernel
theorem dX8_first_50 : decode cX8_first 50 = .ok (.goto 11, 3) := by decide +kernel
theorem dX8_first_53 : decode cX8_first 53 = .ok (.aload_n 0, 1) := by decide +kernel
theorem dX8_first_54 : decode cX8_first 54 = .ok (.iload_n 1, 1) := by decide +kernel
theorem dX8_first_55 : decode cX8_first 55 = .ok (.invokevirtual 45, 3) := by decide +kernel
theorem dX8_first_58 : decode cX8_first 58 = .ok (.invokestatic 53, 3) := by decide +kernel
theorem dX8_first_61 : decode cX8_first 61 = .ok (.ireturn, 1) := by decide +kernel
theorem dX8_isBeneath_0 : decode cX8_isBeneath 0 = .ok (.aload_n 0, 1) := by decide +kernel
theorem dX8_isBeneath_1 : decode cX8_isBeneath 1 = .ok (.iload_n 1, 1) := by decide +kernel
theorem dX8_isBeneath_2 : decode cX8_isBeneath 2 = .ok (.invokevirtual 38, 3) := by decide +kernel
theorem dX8_isBeneath_5 : decode cX8_isBeneath 5 = .ok (.istore_n 3, 1) := by decide +kernel
theorem dX8_isBeneath_6 : decode cX8_isBeneath 6 = .ok (.iload_n 3, 1) := by decide +kernel
theorem dX8_isBeneath_7 : decode cX8_isBeneath 7 = .ok (.iconst (-1), 1) := by decide +kernel
theorem dX8_isBeneath_8 : decode cX8_isBeneath 8 = .ok (.if_icmp .eq 19, 3) := by decide +kernel
theorem dX8_isBeneath_11 : decode cX8_isBeneath 11 = .ok (.iload_n 3, 1) := by decide +kernel
theorem dX8_isBeneath_12 : decode cX8_isBeneath 12 = .ok (.iload_n 2, 1) := by decide +kernel
theorem dX8_isBeneath_13 : decode cX8_isBeneath 13 = .ok (.if_icmp .ne 5, 3) := by decide +kernel
theorem dX8_isBeneath_16 : decode cX8_isBeneath 16 = .ok (.iconst 1, 1) := by decide +kernel
theorem dX8_isBeneath_17 : decode cX8_isBeneath 17 = .ok (.ireturn, 1) := by decide +kernel
theorem dX8_isBeneath_18 : decode cX8_isBeneath 18 = .ok (.aload_n 0, 1) := by decide +kernel
theorem dX8_isBeneath_19 : decode cX8_isBeneath 19 = .ok (.iload_n 3, 1) := by decide +kernel
theorem dX8_isBeneath_20 : decode cX8_isBeneath 20 = .ok (.invokevirtual 38, 3) := by decide +kernel
theorem dX8_isBeneath_23 : decode cX8_isBeneath 23 = .ok (.istore_n 3, 1) := by decide +kernel
theorem dX8_isBeneath_24 : decode cX8_isBeneath 24 = .ok (.goto (-18), 3) := by decide +kernel
theorem dX8_isBeneath_27 : decode cX8_isBeneath 27 = .ok (.iconst 0, 1) := by decide +kernel
theorem dX8_isBeneath_28 : decode cX8_isBeneath 28 = .ok (.ireturn, 1) := by decide +kernel
theorem dX8_filled_0 : decode cX8_filled 0 = .ok (.iconst 1, 1) := by decide +kernel
theorem dX8_filled_1 : decode cX8_filled 1 = .ok (.iload_n 1, 1) := by decide +kernel
theorem dX8_filled_2 : decode cX8_filled 2 = .ok (.ishl, 1) := by decide +kernel
theorem dX8_filled_3 : decode cX8_filled 3 = .ok (.istore_n 2, 1) := by decide +kernel
theorem dX8_filled_4 : decode cX8_filled 4 = .ok (.aload_n 0, 1) := by decide +kernel
theorem dX8_filled_5 : decode cX8_filled 5 = .ok (.iload_n 1, 1) := by decide +kernel
theorem dX8_filled_6 : decode cX8_filled 6 = .ok (.invokevirtual 45, 3) := by decide +kernel
theorem dX8_filled_9 : decode cX8_filled 9 = .ok (.istore_n 3, 1) := by decide +kernel
theorem dX8_filled_10 : decode cX8_filled 10 = .ok (.aload_n 0, 1) := by decide +kernel
theorem dX8_filled_11 : decode cX8_filled 11 = .ok (.iload_n 1, 1) := by decide +kernel
theorem dX8_filled_12 : decode cX8_filled 12 = .ok (.invokevirtual 48, 3) := by decide +kernel
theorem dX8_filled_15 : decode cX8_filled 15 = .ok (.ifCond .ne 19, 3) := by decide +kernel
theorem dX8_filled_18 : decode cX8_filled 18 = .ok (.iload_n 3, 1) := by decide +kernel
theorem dX8_filled_19 : decode cX8_filled 19 = .ok (.ifCond .eq 15, 3) := by decide +kernel
theorem dX8_filled_22 : decode cX8_filled 22 = .ok (.iload_n 2, 1) := by decide +kernel
theorem dX8_filled_23 : decode cX8_filled 23 = .ok (.aload_n 0, 1) := by decide +kernel
theorem dX8_filled_24 : decode cX8_filled 24 = .ok (.aload_n 0, 1) := by decide +kernel
theorem dX8_filled_25 : decode cX8_filled 25 = .ok (.iload_n 1, 1) := by decide +kernel
theorem dX8_filled_26 : decode cX8_filled 26 = .ok (.invokevirtual 70, 3) := by decide +kernel
theorem dX8_filled_29 : decode cX8_filled 29 = .ok (.invokevirtual 72, 3) := by decide +kernel
theorem dX8_filled_32 : decode cX8_filled 32 = .ok (.ior, 1) := by decide +kernel
theorem dX8_filled_33 : decode cX8_filled 33 = .ok (.istore_n 2, 1) := by decide +kernel
theorem dX8_filled_34 : decode cX8_filled 34 = .ok (.iconst 0, 1) := by decide +kernel
theorem dX8_filled_35 : decode cX8_filled 35 = .ok (.istore 4, 2) := by decide +kernel
theorem dX8_filled_37 : decode cX8_filled 37 = .ok (.iload 4, 2) := by decide +kernel
theorem dX8_filled_39 : decode cX8_filled 39 = .ok (.aload_n 0, 1) := by decide +kernel
theorem dX8_filled_40 : decode cX8_filled 40 = .ok (.getfield 12, 3) := by decide +kernel
theorem dX8_filled_43 : decode cX8_filled 43 = .ok (.invokevirtual 34, 3) := by decide +kernel
theorem dX8_filled_46 : decode cX8_filled 46 = .ok (.if_icmp .ge 36, 3) := by decide +kernel
theorem dX8_filled_49 : decode cX8_filled 49 = .ok (.aload_n 0, 1) := by decide +kernel
theorem dX8_filled_50 : decode cX8_filled 50 = .ok (.iload_n 1, 1) := by decide +kernel
theorem dX8_filled_51 : decode cX8_filled 51 = .ok (.invokevirtual 48, 3) := by decide +kernel
theorem dX8_filled_54 : decode cX8_filled 54 = .ok (.iconst 1, 1) := by decide +kernel
theorem dX8_filled_55 : decode cX8_filled 55 = .ok (.if_icmp .ne 21, 3) := by decide +kernel
theorem dX8_filled_58 : decode cX8_filled 58 = .ok (.iload_n 3, 1) := by decide +kernel
theorem dX8_filled_59 : decode cX8_filled 59 = .ok (.iload 4, 2) := by decide +kernel
theorem dX8_filled_61 : decode cX8_filled 61 = .ok (.invokestatic 75, 3) := by decide +kernel
theorem dX8_filled_64 : decode cX8_filled 64 = .ok (.ifCond .eq 12, 3) := by decide +kernel
theorem dX8_filled_67 : decode cX8_filled 67 = .ok (.iload_n 2, 1) := by decide +kernel
theorem dX8_filled_68 : decode cX8_filled 68 = .ok (.aload_n 0, 1) := by decide +kernel
theorem dX8_filled_69 : decode cX8_filled 69 = .ok (.iload 4, 2) := by decide +kernel
theorem dX8_filled_71 : decode cX8_filled 71 = .ok (.invokevirtual 72, 3) := by decide +kernel
theorem dX8_filled_74 : decode cX8_filled 74 = .ok (.ior, 1) := by decide +kernel
theorem dX8_filled_75 : decode cX8_filled 75 = .ok (.istore_n 2, 1) := by decide +kernel
theorem dX8_filled_76 : decode cX8_filled 76 = .ok (.iinc 4 1, 3) := by decide +kernel
theorem dX8_filled_79 : decode cX8_filled 79 = .ok (.goto (-42), 3) := by decide +kernel
theorem dX8_filled_82 : decode cX8_filled 82 = .ok (.iload_n 2, 1) := by decide +kernel
theorem dX8_filled_83 : decode cX8_filled 83 = .ok (.ireturn, 1) := by decide +kernel
theorem dX9_isOver_0 : decode cX9_isOver 0 = .ok (.iconst 1, 1) := by decide +kernel
theorem dX9_isOver_1 : decode cX9_isOver 1 = .ok (.istore_n 1, 1) := by decide +kernel
theorem dX9_isOver_2 : decode cX9_isOver 2 = .ok (.iload_n 1, 1) := by decide +kernel
theorem dX9_isOver_3 : decode cX9_isOver 3 = .ok (.aload_n 0, 1) := by decide +kernel
theorem dX9_isOver_4 : decode cX9_isOver 4 = .ok (.getfield 3, 3) := by decide +kernel
theorem dX9_isOver_7 : decode cX9_isOver 7 = .ok (.getfield 64, 3) := by decide +kernel
theorem dX9_isOver_10 : decode cX9_isOver 10 = .ok (.getfield 68, 3) := by decide +kernel
theorem dX9_isOver_13 : decode cX9_isOver 13 = .ok (.invokevirtual 73, 3) := by decide +kernel
theorem dX9_isOver_16 : decode cX9_isOver 16 = .ok (.if_icmp .ge 51, 3) := by decide +kernel
theorem dX9_isOver_19 : decode cX9_isOver 19 = .ok (.aload_n 0, 1) := by decide +kernel
theorem dX9_isOver_20 : decode cX9_isOver 20 = .ok (.getfield 42, 3) := by decide +kernel
theorem dX9_isOver_23 : decode cX9_isOver 23 = .ok (.iload_n 1, 1) := by decide +kernel
theorem dX9_isOver_24 : decode cX9_isOver 24 = .ok (.invokestatic 77, 3) := by decide +kernel
theorem dX9_isOver_27 : decode cX9_isOver 27 = .ok (.ifCond .eq 34, 3) := by decide +kernel
theorem dX9_isOver_30 : decode cX9_isOver 30 = .ok (.aload_n 0, 1) := by decide +kernel
theorem dX9_isOver_31 : decode cX9_isOver 31 = .ok (.getfield 3, 3) := by decide +kernel
theorem dX9_isOver_34 : decode cX9_isOver 34 = .ok (.getfield 64, 3) := by decide +kernel
theorem dX9_isOver_37 : decode cX9_isOver 37 = .ok (.iload_n 1, 1) := by decide +kernel
theorem dX9_isOver_38 : decode cX9_isOver 38 = .ok (.invokevirtual 87, 3) := by decide +kernel
theorem dX9_isOver_41 : decode cX9_isOver 41 = .ok (.iconst 2, 1) := by decide +kernel
theorem dX9_isOver_42 : decode cX9_isOver 42 = .ok (.if_icmp .ne 19, 3) := by decide +kernel
theorem dX9_isOver_45 : decode cX9_isOver 45 = .ok (.aload_n 0, 1) := by decide +kernel
theorem dX9_isOver_46 : decode cX9_isOver 46 = .ok (.getfield 3, 3) := by decide +kernel
theorem dX9_isOver_49 : decode cX9_isOver 49 = .ok (.getfield 64, 3) := by decide +kernel
theorem dX9_isOver_52 : decode cX9_isOver 52 = .ok (.iload_n 1, 1) := by decide +kernel
theorem dX9_isOver_53 : decode cX9_isOver 53 = .ok (.invokevirtual 91, 3) := by decide +kernel
theorem dX9_isOver_56 : decode cX9_isOver 56 = .ok (.ifCond .ne 5, 3) := by decide +kernel
theorem dX9_isOver_59 : decode cX9_isOver 59 = .ok (.iconst 1, 1) := by decide +kernel
theorem dX9_isOver_60 : decode cX9_isOver 60 = .ok (.ireturn, 1) := by decide +kernel
theorem dX9_isOver_61 : decode cX9_isOver 61 = .ok (.iinc 1 1, 3) := by decide +kernel
theorem dX9_isOver_64 : decode cX9_isOver 64 = .ok (.goto (-62), 3) := by decide +kernel
theorem dX9_isOver_67 : decode cX9_isOver 67 = .ok (.iconst 0, 1) := by decide +kernel
theorem dX9_isOver_68 : decode cX9_isOver 68 = .ok (.ireturn, 1) := by decide +kernel
theorem dX9_isEnded_0 : decode cX9_isEnded 0 = .ok (.aload_n 0, 1) := by decide +kernel
theorem dX9_isEnded_1 : decode cX9_isEnded 1 = .ok (.getfield 3, 3) := by decide +kernel
theorem dX9_isEnded_4 : decode cX9_isEnded 4 = .ok (.getfield 64, 3) := by decide +kernel
theorem dX9_isEnded_7 : decode cX9_isEnded 7 = .ok (.iload_n 1, 1) := by decide +kernel
theorem dX9_isEnded_8 : decode cX9_isEnded 8 = .ok (.invokevirtual 94, 3) := by decide +kernel
theorem dX9_isEnded_11 : decode cX9_isEnded 11 = .ok (.istore_n 2, 1) := by decide +kernel
theorem dX9_isEnded_12 : decode cX9_isEnded 12 = .ok (.iconst 0, 1) := by decide +kernel
theorem dX9_isEnded_13 : decode cX9_isEnded 13 = .ok (.istore_n 3, 1) := by decide +kernel
theorem dX9_isEnded_14 : decode cX9_isEnded 14 = .ok (.iconst 1, 1) := by decide +kernel
theorem dX9_isEnded_15 : decode cX9_isEnded 15 = .ok (.istore 4, 2) := by decide +kernel
theorem dX9_isEnded_17 : decode cX9_isEnded 17 = .ok (.iconst 0, 1) := by decide +kernel
theorem dX9_isEnded_18 : decode cX9_isEnded 18 = .ok (.istore 5, 2) := by decide +kernel
theorem dX9_isEnded_20 : decode cX9_isEnded 20 = .ok (.iload 5, 2) := by decide +kernel
theorem dX9_isEnded_22 : decode cX9_isEnded 22 = .ok (.aload_n 0, 1) := by decide +kernel
theorem dX9_isEnded_23 : decode cX9_isEnded 23 = .ok (.getfield 3, 3) := by decide +kernel
theorem dX9_isEnded_26 : decode cX9_isEnded 26 = .ok (.getfield 64, 3) := by decide +kernel
theorem dX9_isEnded_29 : decode cX9_isEnded 29 = .ok (.getfield 68, 3) := by decide +kernel
theorem dX9_isEnded_32 : decode cX9_isEnded 32 = .ok (.invokevirtual 73, 3) := by decide +kernel
theorem dX9_isEnded_35 : decode cX9_isEnded 35 = .ok (.if_icmp .ge 109, 3) := by decide +kernel
theorem dX9_isEnded_38 : decode cX9_isEnded 38 = .ok (.iload_n 2, 1) := by decide +kernel
theorem dX9_isEnded_39 : decode cX9_isEnded 39 = .ok (.iload 5, 2) := by decide +kernel
theorem dX9_isEnded_41 : decode cX9_isEnded 41 = .ok (.invokestatic 77, 3) := by decide +kernel
theorem dX9_isEnded_44 : decode cX9_isEnded 44 = .ok (.ifCond .ne 6, 3) := by decide +kernel
theorem dX9_isEnded_47 : decode cX9_isEnded 47 = .ok (.goto 91, 3) := by decide +kernel
theorem dX9_isEnded_50 : decode cX9_isEnded 50 = .ok (.iload_n 3, 1) := by decide +kernel
theorem dX9_isEnded_51 : decode cX9_isEnded 51 = .ok (.aload_n 0, 1) := by decide +kernel
theorem dX9_isEnded_52 : decode cX9_isEnded 52 = .ok (.getfield 3, 3) := by decide +kernel
theorem dX9_isEnded_55 : decode cX9_isEnded 55 = .ok (.getfield 64, 3) := by decide +kernel
theorem dX9_isEnded_58 : decode cX9_isEnded 58 = .ok (.iload_n 1, 1) := by decide +kernel
theorem dX9_isEnded_59 : decode cX9_isEnded 59 = .ok (.invokevirtual 87, 3) := by decide +kernel
theorem dX9_isEnded_62 : decode cX9_isEnded 62 = .ok (.ifCond .ne 39, 3) := by decide +kernel
theorem dX9_isEnded_65 : decode cX9_isEnded 65 = .ok (.aload_n 0, 1) := by decide +kernel
theorem dX9_isEnded_66 : decode cX9_isEnded 66 = .ok (.getfield 42, 3) := by decide +kernel
theorem dX9_isEnded_69 : decode cX9_isEnded 69 = .ok (.iload 5, 2) := by decide +kernel
theorem dX9_isEnded_71 : decode cX9_isEnded 71 = .ok (.invokestatic 77, 3) := by decide +kernel
theorem dX9_isEnded_74 : decode cX9_isEnded 74 = .ok (.ifCond .eq 23, 3) := by decide +kernel
theorem dX9_isEnded_77 : decode cX9_isEnded 77 = .ok (.aload_n 0, 1) := by decide +kernel
theorem dX9_isEnded_78 : decode cX9_isEnded 78 = .ok (.getfield 3, 3) := by decide +kernel
theorem dX9_isEnded_81 : decode cX9_isEnded 81 = .ok (.getfield 64, 3) := by decide +kernel
theorem dX9_isEnded_84 : decode cX9_isEnded 84 = .ok (.iload 5, 2) := by decide +kernel
theorem dX9_isEnded_86 : decode cX9_isEnded 86 = .ok (.invokevirtual 87, 3) := by decide +kernel
theorem dX9_isEnded_89 : decode cX9_isEnded 89 = .ok (.iconst 2, 1) := by decide +kernel
theorem dX9_isEnded_90 : decode cX9_isEnded 90 = .ok (.if_icmp .ne 7, 3) := by decide +kernel
theorem dX9_isEnded_93 : decode cX9_isEnded 93 = .ok (.iconst 1, 1) := by decide +kernel
theorem dX9_isEnded_94 : decode cX9_isEnded 94 = .ok (.goto 8, 3) := by decide +kernel
theorem dX9_isEnded_97 : decode cX9_isEnded 97 = .ok (.iconst 0, 1) := by decide +kernel
theorem dX9_isEnded_98 : decode cX9_isEnded 98 = .ok (.goto 4, 3) := by decide +kernel
theorem dX9_isEnded_101 : decode cX9_isEnded 101 = .ok (.iconst 1, 1) := by decide +kernel
theorem dX9_isEnded_102 : decode cX9_isEnded 102 = .ok (.ior, 1) := by decide +kernel
theorem dX9_isEnded_103 : decode cX9_isEnded 103 = .ok (.istore_n 3, 1) := by decide +kernel
theorem dX9_isEnded_104 : decode cX9_isEnded 104 = .ok (.iload 4, 2) := by decide +kernel
theorem dX9_isEnded_106 : decode cX9_isEnded 106 = .ok (.aload_n 0, 1) := by decide +kernel
theorem dX9_isEnded_107 : decode cX9_isEnded 107 = .ok (.getfield 3, 3) := by decide +kernel
theorem dX9_isEnded_110 : decode cX9_isEnded 110 = .ok (.getfield 64, 3) := by decide +kernel
theorem dX9_isEnded_113 : decode cX9_isEnded 113 = .ok (.iload_n 1, 1) := by decide +kernel
theorem dX9_isEnded_114 : decode cX9_isEnded 114 = .ok (.invokevirtual 87, 3) := by decide +kernel
theorem dX9_isEnded_117 : decode cX9_isEnded 117 = .ok (.iconst 1, 1) := by decide +kernel
theorem dX9_isEnded_118 : decode cX9_isEnded 118 = .ok (.if_icmp .ne 12, 3) := by decide +kernel
theorem dX9_isEnded_121 : decode cX9_isEnded 121 = .ok (.aload_n 0, 1) := by decide +kernel
theorem dX9_isEnded_122 : decode cX9_isEnded 122 = .ok (.iload 5, 2) := by decide +kernel
theorem dX9_isEnded_124 : decode cX9_isEnded 124 = .ok (.invokevirtual 97, 3) := by decide +kernel
theorem dX9_isEnded_127 : decode cX9_isEnded 127 = .ok (.ifCond .eq 7, 3) := by decide +kernel
theorem dX9_isEnded_130 : decode cX9_isEnded 130 = .ok (.iconst 1, 1) := by decide +kernel
theorem dX9_isEnded_131 : decode cX9_isEnded 131 = .ok (.goto 4, 3) := by decide +kernel
theorem dX9_isEnded_134 : decode cX9_isEnded 134 = .ok (.iconst 0, 1) := by decide +kernel
theorem dX9_isEnded_135 : decode cX9_isEnded 135 = .ok (.iand, 1) := by decide +kernel
theorem dX9_isEnded_136 : decode cX9_isEnded 136 = .ok (.istore 4, 2) := by decide +kernel
theorem dX9_isEnded_138 : decode cX9_isEnded 138 = .ok (.iinc 5 1, 3) := by decide +kernel
theorem dX9_isEnded_141 : decode cX9_isEnded 141 = .ok (.goto (-121), 3) := by decide +kernel
theorem dX9_isEnded_144 : decode cX9_isEnded 144 = .ok (.iload_n 3, 1) := by decide +kernel
theorem dX9_isEnded_145 : decode cX9_isEnded 145 = .ok (.ifCond .eq 12, 3) := by decide +kernel
theorem dX9_isEnded_148 : decode cX9_isEnded 148 = .ok (.iload 4, 2) := by decide +kernel
theorem dX9_isEnded_150 : decode cX9_isEnded 150 = .ok (.ifCond .eq 7, 3) := by decide +kernel
theorem dX9_isEnded_153 : decode cX9_isEnded 153 = .ok (.iconst 1, 1) := by decide +kernel
theorem dX9_isEnded_154 : decode cX9_isEnded 154 = .ok (.goto 4, 3) := by decide +kernel
theorem dX9_isEnded_157 : decode cX9_isEnded 157 = .ok (.iconst 0, 1) := by decide +kernel
theorem dX9_isEnded_158 : decode cX9_isEnded 158 = .ok (.ireturn, 1) := by decide +kernel
theorem dX9_act_0 : decode cX9_act 0 = .ok (.aload_n 1, 1) := by decide +kernel
theorem dX9_act_1 : decode cX9_act 1 = .ok (.iconst 0, 1) := by decide +kernel
theorem dX9_act_2 : decode cX9_act 2 = .ok (.iaload, 1) := by decide +kernel
theorem dX9_act_3 : decode cX9_act 3 = .ok (.iconst 1, 1) := by decide +kernel
theorem dX9_act_4 : decode cX9_act 4 = .ok (.if_icmp .ne 14, 3) := by decide +kernel
theorem dX9_act_7 : decode cX9_act 7 = .ok (.aload_n 0, 1) := by decide +kernel
theorem dX9_act_8 : decode cX9_act 8 = .ok (.getfield 22, 3) := by decide +kernel
theorem dX9_act_11 : decode cX9_act 11 = .ok (.aload_n 1, 1) := by decide +kernel
theorem dX9_act_12 : decode cX9_act 12 = .ok (.iconst 1, 1) := by decide +kernel
theorem dX9_act_13 : decode cX9_act 13 = .ok (.iaload, 1) := by decide +kernel
theorem dX9_act_14 : decode cX9_act 14 = .ok (.aload_n 1, 1) := by decide +kernel
theorem dX9_act_15 : decode cX9_act 15 = .ok (.iconst 2, 1) := by decide +kernel
theorem dX9_act_16 : decode cX9_act 16 = .ok (.iaload, 1) := by decide +kernel
theorem dX9_act_17 : decode cX9_act 17 = .ok (.iastore, 1) := by decide +kernel
theorem dX9_act_18 : decode cX9_act 18 = .ok (.aload_n 1, 1) := by decide +kernel
theorem dX9_act_19 : decode cX9_act 19 = .ok (.iconst 0, 1) := by decide +kernel
theorem dX9_act_20 : decode cX9_act 20 = .ok (.iaload, 1) := by decide +kernel
theorem dX9_act_21 : decode cX9_act 21 = .ok (.iconst 2, 1) := by decide +kernel
theorem dX9_act_22 : decode cX9_act 22 = .ok (.if_icmp .ne 33, 3) := by decide +kernel
theorem dX9_act_25 : decode cX9_act 25 = .ok (.aload_n 0, 1) := by decide +kernel
theorem dX9_act_26 : decode cX9_act 26 = .ok (.getfield 22, 3) := by decide +kernel
theorem dX9_act_29 : decode cX9_act 29 = .ok (.aload_n 1, 1) := by decide +kernel
theorem dX9_act_30 : decode cX9_act 30 = .ok (.iconst 1, 1) := by decide +kernel
theorem dX9_act_31 : decode cX9_act 31 = .ok (.iaload, 1) := by decide +kernel
theorem dX9_act_32 : decode cX9_act 32 = .ok (.bipush (-99), 2) := by decide +kernel
theorem dX9_act_34 : decode cX9_act 34 = .ok (.bipush 99, 2) := by decide +kernel
theorem dX9_act_36 : decode cX9_act 36 = .ok (.aload_n 0, 1) := by decide +kernel
theorem dX9_act_37 : decode cX9_act 37 = .ok (.getfield 22, 3) := by decide +kernel
theorem dX9_act_40 : decode cX9_act 40 = .ok (.aload_n 1, 1) := by decide +kernel
theorem dX9_act_41 : decode cX9_act 41 = .ok (.iconst 1, 1) := by decide +kernel
theorem dX9_act_42 : decode cX9_act 42 = .ok (.iaload, 1) := by decide +kernel
theorem dX9_act_43 : decode cX9_act 43 = .ok (.iaload, 1) := by decide +kernel
theorem dX9_act_44 : decode cX9_act 44 = .ok (.aload_n 1, 1) := by decide +kernel
theorem dX9_act_45 : decode cX9_act 45 = .ok (.iconst 2, 1) := by decide +kernel
theorem dX9_act_46 : decode cX9_act 46 = .ok (.iaload, 1) := by decide +kernel
theorem dX9_act_47 : decode cX9_act 47 = .ok (.iadd, 1) := by decide +kernel
theorem dX9_act_48 : decode cX9_act 48 = .ok (.invokestatic 81, 3) := by decide +kernel
theorem dX9_act_51 : decode cX9_act 51 = .ok (.invokestatic 101, 3) := by decide +kernel
theorem dX9_act_54 : decode cX9_act 54 = .ok (.iastore, 1) := by decide +kernel
theorem dX9_act_55 : decode cX9_act 55 = .ok (.aload_n 1, 1) := by decide +kernel
theorem dX9_act_56 : decode cX9_act 56 = .ok (.iconst 0, 1) := by decide +kernel
theorem dX9_act_57 : decode cX9_act 57 = .ok (.iaload, 1) := by decide +kernel
theorem dX9_act_58 : decode cX9_act 58 = .ok (.iconst 3, 1) := by decide +kernel
theorem dX9_act_59 : decode cX9_act 59 = .ok (.if_icmp .eq 4, 3) := by decide +kernel
theorem dX9_act_62 : decode cX9_act 62 = .ok (.return_, 1) := by decide +kernel
theorem dX9_act_63 : decode cX9_act 63 = .ok (.aload_n 0, 1) := by decide +kernel
theorem dX9_act_64 : decode cX9_act 64 = .ok (.getfield 31, 3) := by decide +kernel
theorem dX9_act_67 : decode cX9_act 67 = .ok (.invokevirtual 73, 3) := by decide +kernel
theorem dX9_act_70 : decode cX9_act 70 = .ok (.bipush 8, 2) := by decide +kernel
theorem dX9_act_72 : decode cX9_act 72 = .ok (.if_icmp .ge 20, 3) := by decide +kernel
theorem dX9_act_75 : decode cX9_act 75 = .ok (.aload_n 0, 1) := by decide +kernel
theorem dX9_act_76 : decode cX9_act 76 = .ok (.getfield 31, 3) := by decide +kernel
theorem dX9_act_79 : decode cX9_act 79 = .ok (.aload_n 1, 1) := by decide +kernel
theorem dX9_act_80 : decode cX9_act 80 = .ok (.iconst 1, 1) := by decide +kernel
theorem dX9_act_81 : decode cX9_act 81 = .ok (.iaload, 1) := by decide +kernel
theorem dX9_act_82 : decode cX9_act 82 = .ok (.invokestatic 104, 3) := by decide +kernel
theorem dX9_act_85 : decode cX9_act 85 = .ok (.invokevirtual 110, 3) := by decide +kernel
theorem dX9_act_88 : decode cX9_act 88 = .ok (.pop, 1) := by decide +kernel
theorem dX9_act_89 : decode cX9_act 89 = .ok (.goto 13, 3) := by decide +kernel
theorem dX9_act_92 : decode cX9_act 92 = .ok (.aload_n 0, 1) := by decide +kernel
theorem dX9_act_93 : decode cX9_act 93 = .ok (.dup, 1) := by decide +kernel
theorem dX9_act_94 : decode cX9_act 94 = .ok (.getfield 58, 3) := by decide +kernel
theorem dX9_act_97 : decode cX9_act 97 = .ok (.iconst 1, 1) := by decide +kernel
theorem dX9_act_98 : decode cX9_act 98 = .ok (.iadd, 1) := by decide +kernel
theorem dX9_act_99 : decode cX9_act 99 = .ok (.putfield 58, 3) := by decide +kernel
theorem dX9_act_102 : decode cX9_act 102 = .ok (.return_, 1) := by decide +kernel
theorem dX9_enter_0 : decode cX9_enter 0 = .ok (.iconst 0, 1) := by decide +kernel
theorem dX9_enter_1 : decode cX9_enter 1 = .ok (.istore_n 2, 1) := by decide +kernel
theorem dX9_enter_2 : decode cX9_enter 2 = .ok (.iload_n 2, 1) := by decide +kernel
theorem dX9_enter_3 : decode cX9_enter 3 = .ok (.aload_n 0, 1) := by decide +kernel
theorem dX9_enter_4 : decode cX9_enter 4 = .ok (.getfield 3, 3) := by decide +kernel
theorem dX9_enter_7 : decode cX9_enter 7 = .ok (.getfield 64, 3) := by decide +kernel
theorem dX9_enter_10 : decode cX9_enter 10 = .ok (.getfield 68, 3) := by decide +kernel
theorem dX9_enter_13 : decode cX9_enter 13 = .ok (.invokevirtual 73, 3) := by decide +kernel
theorem dX9_enter_16 : decode cX9_enter 16 = .ok (.if_icmp .ge 63, 3) := by decide +kernel
theorem dX9_enter_19 : decode cX9_enter 19 = .ok (.iload_n 1, 1) := by decide +kernel
theorem dX9_enter_20 : decode cX9_enter 20 = .ok (.iload_n 2, 1) := by decide +kernel
theorem dX9_enter_21 : decode cX9_enter 21 = .ok (.invokestatic 77, 3) := by decide +kernel
theorem dX9_enter_24 : decode cX9_enter 24 = .ok (.ifCond .ne 6, 3) := by decide +kernel
theorem dX9_enter_27 : decode cX9_enter 27 = .ok (.goto 46, 3) := by decide +kernel
theorem dX9_enter_30 : decode cX9_enter 30 = .ok (.aload_n 0, 1) := by decide +kernel
theorem dX9_enter_31 : decode cX9_enter 31 = .ok (.dup, 1) := by decide +kernel
theorem dX9_enter_32 : decode cX9_enter 32 = .ok (.getfield 42, 3) := by decide +kernel
theorem dX9_enter_35 : decode cX9_enter 35 = .ok (.iconst 1, 1) := by decide +kernel
theorem dX9_enter_36 : decode cX9_enter 36 = .ok (.iload_n 2, 1) := by decide +kernel
theorem dX9_enter_37 : decode cX9_enter 37 = .ok (.ishl, 1) := by decide +kernel
theorem dX9_enter_38 : decode cX9_enter 38 = .ok (.ior, 1) := by decide +kernel
theorem dX9_enter_39 : decode cX9_enter 39 = .ok (.putfield 42, 3) := by decide +kernel
theorem dX9_enter_42 : decode cX9_enter 42 = .ok (.aload_n 0, 1) := by decide +kernel
theorem dX9_enter_43 : decode cX9_enter 43 = .ok (.getfield 15, 3) := by decide +kernel
theorem dX9_enter_46 : decode cX9_enter 46 = .ok (.iload_n 2, 1) := by decide +kernel
theorem dX9_enter_47 : decode cX9_enter 47 = .ok (.iconst 0, 1) := by decide +kernel
theorem dX9_enter_48 : decode cX9_enter 48 = .ok (.iastore, 1) := by decide +kernel
theorem dX9_enter_49 : decode cX9_enter 49 = .ok (.aload_n 0, 1) := by decide +kernel
theorem dX9_enter_50 : decode cX9_enter 50 = .ok (.aload_n 0, 1) := by decide +kernel
theorem dX9_enter_51 : decode cX9_enter 51 = .ok (.getfield 3, 3) := by decide +kernel
theorem dX9_enter_54 : decode cX9_enter 54 = .ok (.getfield 64, 3) := by decide +kernel
theorem dX9_enter_57 : decode cX9_enter 57 = .ok (.getfield 68, 3) := by decide +kernel
theorem dX9_enter_60 : decode cX9_enter 60 = .ok (.iload_n 2, 1) := by decide +kernel
theorem dX9_enter_61 : decode cX9_enter 61 = .ok (.invokevirtual 114, 3) := by decide +kernel
theorem dX9_enter_64 : decode cX9_enter 64 = .ok (.checkcast 118, 3) := by decide +kernel
theorem dX9_enter_67 : decode cX9_enter 67 = .ok (.getfield 120, 3) := by decide +kernel
theorem dX9_enter_70 : decode cX9_enter 70 = .ok (.invokevirtual 123, 3) := by decide +kernel
theorem dX9_enter_73 : decode cX9_enter 73 = .ok (.iinc 2 1, 3) := by decide +kernel
theorem dX9_enter_76 : decode cX9_enter 76 = .ok (.goto (-74), 3) := by decide +kernel
theorem dX9_enter_79 : decode cX9_enter 79 = .ok (.return_, 1) := by decide +kernel
theorem dX9_chosen_0 : decode cX9_chosen 0 = .ok (.iload_n 1, 1) := by decide +kernel
theorem dX9_chosen_1 : decode cX9_chosen 1 = .ok (.istore 4, 2) := by decide +kernel
theorem dX9_chosen_3 : decode cX9_chosen 3 = .ok (.iload 4, 2) := by decide +kernel
theorem dX9_chosen_5 : decode cX9_chosen 5 = .ok (.iconst (-1), 1) := by decide +kernel
theorem dX9_chosen_6 : decode cX9_chosen 6 = .ok (.if_icmp .eq 103, 3) := by decide +kernel
theorem dX9_chosen_9 : decode cX9_chosen 9 = .ok (.iconst 0, 1) := by decide +kernel
theorem dX9_chosen_10 : decode cX9_chosen 10 = .ok (.istore 5, 2) := by decide +kernel
theorem dX9_chosen_12 : decode cX9_chosen 12 = .ok (.iload 5, 2) := by decide +kernel
theorem dX9_chosen_14 : decode cX9_chosen 14 = .ok (.aload_n 0, 1) := by decide +kernel
theorem dX9_chosen_15 : decode cX9_chosen 15 = .ok (.getfield 3, 3) := by decide +kernel
theorem dX9_chosen_18 : decode cX9_chosen 18 = .ok (.getfield 64, 3) := by decide +kernel
theorem dX9_chosen_21 : decode cX9_chosen 21 = .ok (.getfield 145, 3) := by decide +kernel
theorem dX9_chosen_24 : decode cX9_chosen 24 = .ok (.invokevirtual 73, 3) := by decide +kernel
theorem dX9_chosen_27 : decode cX9_chosen 27 = .ok (.if_icmp .ge 65, 3) := by decide +kernel
theorem dX9_chosen_30 : decode cX9_chosen 30 = .ok (.aload_n 0, 1) := by decide +kernel
theorem dX9_chosen_31 : decode cX9_chosen 31 = .ok (.getfield 3, 3) := by decide +kernel
theorem dX9_chosen_34 : decode cX9_chosen 34 = .ok (.getfield 64, 3) := by decide +kernel
theorem dX9_chosen_37 : decode cX9_chosen 37 = .ok (.getfield 145, 3) := by decide +kernel
theorem dX9_chosen_40 : decode cX9_chosen 40 = .ok (.iload 5, 2) := by decide +kernel
theorem dX9_chosen_42 : decode cX9_chosen 42 = .ok (.invokevirtual 114, 3) := by decide +kernel
theorem dX9_chosen_45 : decode cX9_chosen 45 = .ok (.checkcast 128, 3) := by decide +kernel
theorem dX9_chosen_48 : decode cX9_chosen 48 = .ok (.getfield 127, 3) := by decide +kernel
theorem dX9_chosen_51 : decode cX9_chosen 51 = .ok (.iload 4, 2) := by decide +kernel
theorem dX9_chosen_53 : decode cX9_chosen 53 = .ok (.if_icmp .ne 33, 3) := by decide +kernel
theorem dX9_chosen_56 : decode cX9_chosen 56 = .ok (.aload_n 0, 1) := by decide +kernel
theorem dX9_chosen_57 : decode cX9_chosen 57 = .ok (.aload_n 0, 1) := by decide +kernel
theorem dX9_chosen_58 : decode cX9_chosen 58 = .ok (.getfield 3, 3) := by decide +kernel
theorem dX9_chosen_61 : decode cX9_chosen 61 = .ok (.getfield 64, 3) := by decide +kernel
theorem dX9_chosen_64 : decode cX9_chosen 64 = .ok (.getfield 145, 3) := by decide +kernel
theorem dX9_chosen_67 : decode cX9_chosen 67 = .ok (.iload 5, 2) := by decide +kernel
theorem dX9_chosen_69 : decode cX9_chosen 69 = .ok (.invokevirtual 114, 3) := by decide +kernel
theorem dX9_chosen_72 : decode cX9_chosen 72 = .ok (.checkcast 128, 3) := by decide +kernel
theorem dX9_chosen_75 : decode cX9_chosen 75 = .ok (.iload_n 2, 1) := by decide +kernel
theorem dX9_chosen_76 : decode cX9_chosen 76 = .ok (.iload_n 3, 1) := by decide +kernel
theorem dX9_chosen_77 : decode cX9_chosen 77 = .ok (.invokevirtual 148, 3) := by decide +kernel
theorem dX9_chosen_80 : decode cX9_chosen 80 = .ok (.ifCond .eq 6, 3) := by decide +kernel
theorem dX9_chosen_83 : decode cX9_chosen 83 = .ok (.iload 5, 2) := by decide +kernel
theorem dX9_chosen_85 : decode cX9_chosen 85 = .ok (.ireturn, 1) := by decide +kernel
theorem dX9_chosen_86 : decode cX9_chosen 86 = .ok (.iinc 5 1, 3) := by decide +kernel
theorem dX9_chosen_89 : decode cX9_chosen 89 = .ok (.goto (-77), 3) := by decide +kernel
theorem dX9_chosen_92 : decode cX9_chosen 92 = .ok (.aload_n 0, 1) := by decide +kernel
theorem dX9_chosen_93 : decode cX9_chosen 93 = .ok (.getfield 3, 3) := by decide +kernel
theorem dX9_chosen_96 : decode cX9_chosen 96 = .ok (.getfield 64, 3) := by decide +kernel
theorem dX9_chosen_99 : decode cX9_chosen 99 = .ok (.iload 4, 2) := by decide +kernel
theorem dX9_chosen_101 : decode cX9_chosen 101 = .ok (.invokevirtual 91, 3) := by decide +kernel
theorem dX9_chosen_104 : decode cX9_chosen 104 = .ok (.istore 4, 2) := by decide +kernel
theorem dX9_chosen_106 : decode cX9_chosen 106 = .ok (.goto (-103), 3) := by decide +kernel
theorem dX9_chosen_109 : decode cX9_chosen 109 = .ok (.iconst (-1), 1) := by decide +kernel
theorem dX9_chosen_110 : decode cX9_chosen 110 = .ok (.ireturn, 1) := by decide +kernel
theorem dX12_thrown_0 : decode cX12_thrown 0 = .ok (.aload_n 0, 1) := by decide +kernel
theorem dX12_thrown_1 : decode cX12_thrown 1 = .ok (.getfield 44, 3) := by decide +kernel
theorem dX12_thrown_4 : decode cX12_thrown 4 = .ok (.ireturn, 1) := by decide +kernel
theorem dX12_refuse_0 : decode cX12_refuse 0 = .ok (.iload_n 1, 1) := by decide +kernel
theorem dX12_refuse_1 : decode cX12_refuse 1 = .ok (.ifCond .eq 15, 3) := by decide +kernel
theorem dX12_refuse_4 : decode cX12_refuse 4 = .ok (.aload_n 0, 1) := by decide +kernel
theorem dX12_refuse_5 : decode cX12_refuse 5 = .ok (.getfield 44, 3) := by decide +kernel
theorem dX12_refuse_8 : decode cX12_refuse 8 = .ok (.ifCond .ne 8, 3) := by decide +kernel
theorem dX12_refuse_11 : decode cX12_refuse 11 = .ok (.aload_n 0, 1) := by decide +kernel
theorem dX12_refuse_12 : decode cX12_refuse 12 = .ok (.iload_n 2, 1) := by decide +kernel
theorem dX12_refuse_13 : decode cX12_refuse 13 = .ok (.putfield 44, 3) := by decide +kernel
theorem dX12_refuse_16 : decode cX12_refuse 16 = .ok (.aload_n 0, 1) := by decide +kernel
theorem dX12_refuse_17 : decode cX12_refuse 17 = .ok (.getfield 44, 3) := by decide +kernel
theorem dX12_refuse_20 : decode cX12_refuse 20 = .ok (.ifCond .le 7, 3) := by decide +kernel
theorem dX12_refuse_23 : decode cX12_refuse 23 = .ok (.iconst 1, 1) := by decide +kernel
theorem dX12_refuse_24 : decode cX12_refuse 24 = .ok (.goto 4, 3) := by decide +kernel
theorem dX12_refuse_27 : decode cX12_refuse 27 = .ok (.iconst 0, 1) := by decide +kernel
theorem dX12_refuse_28 : decode cX12_refuse 28 = .ok (.ireturn, 1) := by decide +kernel
theorem dX12_start_0 : decode cX12_start 0 = .ok (.aload_n 0, 1) := by decide +kernel
theorem dX12_start_1 : decode cX12_start 1 = .ok (.iconst 0, 1) := by decide +kernel
theorem dX12_start_2 : decode cX12_start 2 = .ok (.putfield 44, 3) := by decide +kernel
theorem dX12_start_5 : decode cX12_start 5 = .ok (.aload_n 0, 1) := by decide +kernel
theorem dX12_start_6 : decode cX12_start 6 = .ok (.iload_n 1, 1) := by decide +kernel
theorem dX12_start_7 : decode cX12_start 7 = .ok (.iload_n 2, 1) := by decide +kernel
theorem dX12_start_8 : decode cX12_start 8 = .ok (.invokevirtual 48, 3) := by decide +kernel
theorem dX12_start_11 : decode cX12_start 11 = .ok (.ireturn, 1) := by decide +kernel
theorem dX12_plain_0 : decode cX12_plain 0 = .ok (.aload_n 0, 1) := by decide +kernel
theorem dX12_plain_1 : decode cX12_plain 1 = .ok (.iconst 0, 1) := by decide +kernel
theorem dX12_plain_2 : decode cX12_plain 2 = .ok (.putfield 44, 3) := by decide +kernel
theorem dX12_plain_5 : decode cX12_plain 5 = .ok (.iload_n 1, 1) := by decide +kernel
theorem dX12_plain_6 : decode cX12_plain 6 = .ok (.ireturn, 1) := by decide +kernel
theorem dX12_isNoState_0 : decode cX12_isNoState 0 = .ok (.iload_n 1, 1) := by decide +kernel
theorem dX12_isNoState_1 : decode cX12_isNoState 1 = .ok (.iconst 0, 1) := by decide +kernel
theorem dX12_isNoState_2 : decode cX12_isNoState 2 = .ok (.aload_n 0, 1) := by decide +kernel
theorem dX12_isNoState_3 : decode cX12_isNoState 3 = .ok (.getfield 10, 3) := by decide +kernel
theorem dX12_isNoState_6 : decode cX12_isNoState 6 = .ok (.getfield 29, 3) := by decide +kernel
theorem dX12_isNoState_9 : decode cX12_isNoState 9 = .ok (.invokevirtual 52, 3) := by decide +kernel
theorem dX12_isNoState_12 : decode cX12_isNoState 12 = .ok (.iconst 1, 1) := by decide +kernel
theorem dX12_isNoState_13 : decode cX12_isNoState 13 = .ok (.isub, 1) := by decide +kernel
theorem dX12_isNoState_14 : decode cX12_isNoState 14 = .ok (.invokestatic 56, 3) := by decide +kernel
theorem dX12_isNoState_17 : decode cX12_isNoState 17 = .ok (.ifCond .ne 7, 3) := by decide +kernel
theorem dX12_isNoState_20 : decode cX12_isNoState 20 = .ok (.iconst 1, 1) := by decide +kernel
theorem dX12_isNoState_21 : decode cX12_isNoState 21 = .ok (.goto 4, 3) := by decide +kernel
theorem dX12_isNoState_24 : decode cX12_isNoState 24 = .ok (.iconst 0, 1) := by decide +kernel
theorem dX12_isNoState_25 : decode cX12_isNoState 25 = .ok (.ireturn, 1) := by decide +kernel
theorem dX12_isNoTransition_0 : decode cX12_isNoTransition 0 = .ok (.iload_n 1, 1) := by decide +kernel
theorem dX12_isNoTransition_1 : decode cX12_isNoTransition 1 = .ok (.iconst 0, 1) := by decide +kernel
theorem dX12_isNoTransition_2 : decode cX12_isNoTransition 2 = .ok (.aload_n 0, 1) := by decide +kernel
theorem dX12_isNoTransition_3 : decode cX12_isNoTransition 3 = .ok (.getfield 10, 3) := by decide +kernel
theorem dX12_isNoTransition_6 : decode cX12_isNoTransition 6 = .ok (.getfield 60, 3) := by decide +kernel
theorem dX12_isNoTransition_9 : decode cX12_isNoTransition 9 = .ok (.invokevirtual 52, 3) := by decide +kernel
theorem dX12_isNoTransition_12 : decode cX12_isNoTransition 12 = .ok (.iconst 1, 1) := by decide +kernel
theorem dX12_isNoTransition_13 : decode cX12_isNoTransition 13 = .ok (.isub, 1) := by decide +kernel
theorem dX12_isNoTransition_14 : decode cX12_isNoTransition 14 = .ok (.invokestatic 56, 3) := by decide +kernel
theorem dX12_isNoTransition_17 : decode cX12_isNoTransition 17 = .ok (.ifCond .ne 7, 3) := by decide +kernel
theorem dX12_isNoTransition_20 : decode cX12_isNoTransition 20 = .ok (.iconst 1, 1) := by decide +kernel
theorem dX12_isNoTransition_21 : decode cX12_isNoTransition 21 = .ok (.goto 4, 3) := by decide +kernel
theorem dX12_isNoTransition_24 : decode cX12_isNoTransition 24 = .ok (.iconst 0, 1) := by decide +kernel
theorem dX12_isNoTransition_25 : decode cX12_isNoTransition 25 = .ok (.ireturn, 1) := by decide +kernel
theorem dX12_isNoAction_0 : decode cX12_isNoAction 0 = .ok (.iload_n 0, 1) := by decide +kernel
theorem dX12_isNoAction_1 : decode cX12_isNoAction 1 = .ok (.iconst 0, 1) := by decide +kernel
theorem dX12_isNoAction_2 : decode cX12_isNoAction 2 = .ok (.iconst 3, 1) := by decide +kernel
theorem dX12_isNoAction_3 : decode cX12_isNoAction 3 = .ok (.invokestatic 56, 3) := by decide +kernel
theorem dX12_isNoAction_6 : decode cX12_isNoAction 6 = .ok (.ifCond .eq 48, 3) := by decide +kernel
theorem dX12_isNoAction_9 : decode cX12_isNoAction 9 = .ok (.iload_n 0, 1) := by decide +kernel
theorem dX12_isNoAction_10 : decode cX12_isNoAction 10 = .ok (.iconst 1, 1) := by decide +kernel
theorem dX12_isNoAction_11 : decode cX12_isNoAction 11 = .ok (.if_icmp .eq 8, 3) := by decide +kernel
theorem dX12_isNoAction_14 : decode cX12_isNoAction 14 = .ok (.iload_n 0, 1) := by decide +kernel
theorem dX12_isNoAction_15 : decode cX12_isNoAction 15 = .ok (.iconst 2, 1) := by decide +kernel
theorem dX12_isNoAction_16 : decode cX12_isNoAction 16 = .ok (.if_icmp .ne 23, 3) := by decide +kernel
theorem dX12_isNoAction_19 : decode cX12_isNoAction 19 = .ok (.iload_n 1, 1) := by decide +kernel
theorem dX12_isNoAction_20 : decode cX12_isNoAction 20 = .ok (.iconst 0, 1) := by decide +kernel
theorem dX12_isNoAction_21 : decode cX12_isNoAction 21 = .ok (.iconst 3, 1) := by decide +kernel
theorem dX12_isNoAction_22 : decode cX12_isNoAction 22 = .ok (.invokestatic 56, 3) := by decide +kernel
theorem dX12_isNoAction_25 : decode cX12_isNoAction 25 = .ok (.ifCond .eq 29, 3) := by decide +kernel
theorem dX12_isNoAction_28 : decode cX12_isNoAction 28 = .ok (.iload_n 2, 1) := by decide +kernel
theorem dX12_isNoAction_29 : decode cX12_isNoAction 29 = .ok (.bipush (-99), 2) := by decide +kernel
theorem dX12_isNoAction_31 : decode cX12_isNoAction 31 = .ok (.bipush 99, 2) := by decide +kernel
theorem dX12_isNoAction_33 : decode cX12_isNoAction 33 = .ok (.invokestatic 56, 3) := by decide +kernel
theorem dX12_isNoAction_36 : decode cX12_isNoAction 36 = .ok (.ifCond .eq 18, 3) := by decide +kernel
theorem dX12_isNoAction_39 : decode cX12_isNoAction 39 = .ok (.iload_n 0, 1) := by decide +kernel
theorem dX12_isNoAction_40 : decode cX12_isNoAction 40 = .ok (.iconst 3, 1) := by decide +kernel
theorem dX12_isNoAction_41 : decode cX12_isNoAction 41 = .ok (.if_icmp .ne 17, 3) := by decide +kernel
theorem dX12_isNoAction_44 : decode cX12_isNoAction 44 = .ok (.iload_n 1, 1) := by decide +kernel
theorem dX12_isNoAction_45 : decode cX12_isNoAction 45 = .ok (.iconst 0, 1) := by decide +kernel
theorem dX12_isNoAction_46 : decode cX12_isNoAction 46 = .ok (.bipush 9, 2) := by decide +kernel
theorem dX12_isNoAction_48 : decode cX12_isNoAction 48 = .ok (.invokestatic 56, 3) := by decide +kernel
theorem dX12_isNoAction_51 : decode cX12_isNoAction 51 = .ok (.ifCond .ne 7, 3) := by decide +kernel
theorem dX12_isNoAction_54 : decode cX12_isNoAction 54 = .ok (.iconst 1, 1) := by decide +kernel
theorem dX12_isNoAction_55 : decode cX12_isNoAction 55 = .ok (.goto 4, 3) := by decide +kernel
theorem dX12_isNoAction_58 : decode cX12_isNoAction 58 = .ok (.iconst 0, 1) := by decide +kernel
theorem dX12_isNoAction_59 : decode cX12_isNoAction 59 = .ok (.ireturn, 1) := by decide +kernel
theorem dX12_addState_0 : decode cX12_addState 0 = .ok (.aload_n 0, 1) := by decide +kernel
theorem dX12_addState_1 : decode cX12_addState 1 = .ok (.aload_n 0, 1) := by decide +kernel
theorem dX12_addState_2 : decode cX12_addState 2 = .ok (.getfield 21, 3) := by decide +kernel
theorem dX12_addState_5 : decode cX12_addState 5 = .ok (.getfield 63, 3) := by decide +kernel
theorem dX12_addState_8 : decode cX12_addState 8 = .ok (.ifCond .ne 18, 3) := by decide +kernel
theorem dX12_addState_11 : decode cX12_addState 11 = .ok (.aload_n 0, 1) := by decide +kernel
theorem dX12_addState_12 : decode cX12_addState 12 = .ok (.getfield 10, 3) := by decide +kernel
theorem dX12_addState_15 : decode cX12_addState 15 = .ok (.getfield 29, 3) := by decide +kernel
theorem dX12_addState_18 : decode cX12_addState 18 = .ok (.invokevirtual 52, 3) := by decide +kernel
theorem dX12_addState_21 : decode cX12_addState 21 = .ok (.bipush 20, 2) := by decide +kernel
theorem dX12_addState_23 : decode cX12_addState 23 = .ok (.if_icmp .ne 7, 3) := by decide +kernel
theorem dX12_addState_26 : decode cX12_addState 26 = .ok (.iconst 1, 1) := by decide +kernel
theorem dX12_addState_27 : decode cX12_addState 27 = .ok (.goto 4, 3) := by decide +kernel
theorem dX12_addState_30 : decode cX12_addState 30 = .ok (.iconst 0, 1) := by decide +kernel
theorem dX12_addState_31 : decode cX12_addState 31 = .ok (.iconst 1, 1) := by decide +kernel
theorem dX12_addState_32 : decode cX12_addState 32 = .ok (.invokevirtual 67, 3) := by decide +kernel
theorem dX12_addState_35 : decode cX12_addState 35 = .ok (.ifCond .ne 16, 3) := by decide +kernel
theorem dX12_addState_38 : decode cX12_addState 38 = .ok (.aload_n 0, 1) := by decide +kernel
theorem dX12_addState_39 : decode cX12_addState 39 = .ok (.aload_n 0, 1) := by decide +kernel
theorem dX12_addState_40 : decode cX12_addState 40 = .ok (.iload_n 1, 1) := by decide +kernel
theorem dX12_addState_41 : decode cX12_addState 41 = .ok (.invokevirtual 70, 3) := by decide +kernel
theorem dX12_addState_44 : decode cX12_addState 44 = .ok (.iconst 2, 1) := by decide +kernel
theorem dX12_addState_45 : decode cX12_addState 45 = .ok (.invokevirtual 48, 3) := by decide +kernel
theorem dX12_addState_48 : decode cX12_addState 48 = .ok (.ifCond .eq 5, 3) := by decide +kernel
theorem dX12_addState_51 : decode cX12_addState 51 = .ok (.iconst 0, 1) := by decide +kernel
theorem dX12_addState_52 : decode cX12_addState 52 = .ok (.ireturn, 1) := by decide +kernel
theorem dX12_addState_53 : decode cX12_addState 53 = .ok (.aload_n 0, 1) := by decide +kernel
theorem dX12_addState_54 : decode cX12_addState 54 = .ok (.iload_n 2, 1) := by decide +kernel
theorem dX12_addState_55 : decode cX12_addState 55 = .ok (.iconst 0, 1) := by decide +kernel
theorem dX12_addState_56 : decode cX12_addState 56 = .ok (.iconst 4, 1) := by decide +kernel
theorem dX12_addState_57 : decode cX12_addState 57 = .ok (.invokestatic 56, 3) := by decide +kernel
theorem dX12_addState_60 : decode cX12_addState 60 = .ok (.ifCond .eq 40, 3) := by decide +kernel
theorem dX12_addState_63 : decode cX12_addState 63 = .ok (.aload_n 0, 1) := by decide +kernel
theorem dX12_addState_64 : decode cX12_addState 64 = .ok (.getfield 10, 3) := by decide +kernel
theorem dX12_addState_67 : decode cX12_addState 67 = .ok (.getfield 29, 3) := by decide +kernel
theorem dX12_addState_70 : decode cX12_addState 70 = .ok (.iload_n 1, 1) := by decide +kernel
theorem dX12_addState_71 : decode cX12_addState 71 = .ok (.invokevirtual 74, 3) := by decide +kernel
theorem dX12_addState_74 : decode cX12_addState 74 = .ok (.checkcast 33, 3) := by decide +kernel
theorem dX12_addState_77 : decode cX12_addState 77 = .ok (.invokevirtual 78, 3) := by decide +kernel
theorem dX12_addState_80 : decode cX12_addState 80 = .ok (.ifCond .eq 20, 3) := by decide +kernel
theorem dX12_addState_83 : decode cX12_addState 83 = .ok (.iload_n 2, 1) := by decide +kernel
theorem dX12_addState_84 : decode cX12_addState 84 = .ok (.iconst 2, 1) := by decide +kernel
theorem dX12_addState_85 : decode cX12_addState 85 = .ok (.if_icmp .ne 19, 3) := by decide +kernel
theorem dX12_addState_88 : decode cX12_addState 88 = .ok (.aload_n 0, 1) := by decide +kernel
theorem dX12_addState_89 : decode cX12_addState 89 = .ok (.getfield 10, 3) := by decide +kernel
theorem dX12_addState_92 : decode cX12_addState 92 = .ok (.iload_n 1, 1) := by decide +kernel
theorem dX12_addState_93 : decode cX12_addState 93 = .ok (.invokevirtual 82, 3) := by decide +kernel
theorem dX12_addState_96 : decode cX12_addState 96 = .ok (.iconst 1, 1) := by decide +kernel
theorem dX12_addState_97 : decode cX12_addState 97 = .ok (.if_icmp .ne 7, 3) := by decide +kernel
theorem dX12_addState_100 : decode cX12_addState 100 = .ok (.iconst 1, 1) := by decide +kernel
theorem dX12_addState_101 : decode cX12_addState 101 = .ok (.goto 4, 3) := by decide +kernel
theorem dX12_addState_104 : decode cX12_addState 104 = .ok (.iconst 0, 1) := by decide +kernel
theorem dX12_addState_105 : decode cX12_addState 105 = .ok (.iconst 3, 1) := by decide +kernel
theorem dX12_addState_106 : decode cX12_addState 106 = .ok (.invokevirtual 48, 3) := by decide +kernel
theorem dX12_addState_109 : decode cX12_addState 109 = .ok (.ifCond .eq 5, 3) := by decide +kernel
theorem dX12_addState_112 : decode cX12_addState 112 = .ok (.iconst 0, 1) := by decide +kernel
theorem dX12_addState_113 : decode cX12_addState 113 = .ok (.ireturn, 1) := by decide +kernel
theorem dX12_addState_114 : decode cX12_addState 114 = .ok (.aload_n 0, 1) := by decide +kernel
theorem dX12_addState_115 : decode cX12_addState 115 = .ok (.getfield 10, 3) := by decide +kernel
theorem dX12_addState_118 : decode cX12_addState 118 = .ok (.getfield 29, 3) := by decide +kernel
theorem dX12_addState_121 : decode cX12_addState 121 = .ok (.new 33, 3) := by decide +kernel
theorem dX12_addState_124 : decode cX12_addState 124 = .ok (.dup, 1) := by decide +kernel
theorem dX12_addState_125 : decode cX12_addState 125 = .ok (.iload_n 1, 1) := by decide +kernel
theorem dX12_addState_126 : decode cX12_addState 126 = .ok (.iload_n 2, 1) := by decide +kernel
theorem dX12_addState_127 : decode cX12_addState 127 = .ok (.invokespecial 35, 3) := by decide +kernel
theorem dX12_addState_130 : decode cX12_addState 130 = .ok (.invokevirtual 38, 3) := by decide +kernel
theorem dX12_addState_133 : decode cX12_addState 133 = .ok (.pop, 1) := by decide +kernel
theorem dX12_addState_134 : decode cX12_addState 134 = .ok (.aload_n 0, 1) := by decide +kernel
theorem dX12_addState_135 : decode cX12_addState 135 = .ok (.getfield 10, 3) := by decide +kernel
theorem dX12_addState_138 : decode cX12_addState 138 = .ok (.getfield 29, 3) := by decide +kernel
theorem dX12_addState_141 : decode cX12_addState 141 = .ok (.invokevirtual 52, 3) := by decide +kernel
theorem dX12_addState_144 : decode cX12_addState 144 = .ok (.iconst 1, 1) := by decide +kernel
theorem dX12_addState_145 : decode cX12_addState 145 = .ok (.isub, 1) := by decide +kernel
theorem dX12_addState_146 : decode cX12_addState 146 = .ok (.ireturn, 1) := by decide +kernel
theorem dX12_setFirst_0 : decode cX12_setFirst 0 = .ok (.aload_n 0, 1) := by decide +kernel
theorem dX12_setFirst_1 : decode cX12_setFirst 1 = .ok (.aload_n 0, 1) := by decide +kernel
theorem dX12_setFirst_2 : decode cX12_setFirst 2 = .ok (.getfield 21, 3) := by decide +kernel
theorem dX12_setFirst_5 : decode cX12_setFirst 5 = .ok (.getfield 63, 3) := by decide +kernel
theorem dX12_setFirst_8 : decode cX12_setFirst 8 = .ok (.iconst 1, 1) := by decide +kernel
theorem dX12_setFirst_9 : decode cX12_setFirst 9 = .ok (.invokevirtual 67, 3) := by decide +kernel
theorem dX12_setFirst_12 : decode cX12_setFirst 12 = .ok (.ifCond .ne 71, 3) := by decide +kernel
theorem dX12_setFirst_15 : decode cX12_setFirst 15 = .ok (.aload_n 0, 1) := by decide +kernel
theorem dX12_setFirst_16 : decode cX12_setFirst 16 = .ok (.aload_n 0, 1) := by decide +kernel
theorem dX12_setFirst_17 : decode cX12_setFirst 17 = .ok (.iload_n 1, 1) := by decide +kernel
theorem dX12_setFirst_18 : decode cX12_setFirst 18 = .ok (.invokevirtual 70, 3) := by decide +kernel
theorem dX12_setFirst_21 : decode cX12_setFirst 21 = .ok (.ifCond .ne 11, 3) := by decide +kernel
theorem dX12_setFirst_24 : decode cX12_setFirst 24 = .ok (.aload_n 0, 1) := by decide +kernel
theorem dX12_setFirst_25 : decode cX12_setFirst 25 = .ok (.iload_n 2, 1) := by decide +kernel
theorem dX12_setFirst_26 : decode cX12_setFirst 26 = .ok (.invokevirtual 70, 3) := by decide +kernel
theorem dX12_setFirst_29 : decode cX12_setFirst 29 = .ok (.ifCond .eq 7, 3) := by decide +kernel
theorem dX12_setFirst_32 : decode cX12_setFirst 32 = .ok (.iconst 1, 1) := by decide +kernel
theorem dX12_setFirst_33 : decode cX12_setFirst 33 = .ok (.goto 4, 3) := by decide +kernel
theorem dX12_setFirst_36 : decode cX12_setFirst 36 = .ok (.iconst 0, 1) := by decide +kernel
theorem dX12_setFirst_37 : decode cX12_setFirst 37 = .ok (.iconst 2, 1) := by decide +kernel
theorem dX12_setFirst_38 : decode cX12_setFirst 38 = .ok (.invokevirtual 48, 3) := by decide +kernel
theorem dX12_setFirst_41 : decode cX12_setFirst 41 = .ok (.ifCond .ne 42, 3) := by decide +kernel
theorem dX12_setFirst_44 : decode cX12_setFirst 44 = .ok (.aload_n 0, 1) := by decide +kernel
theorem dX12_setFirst_45 : decode cX12_setFirst 45 = .ok (.aload_n 0, 1) := by decide +kernel
theorem dX12_setFirst_46 : decode cX12_setFirst 46 = .ok (.getfield 10, 3) := by decide +kernel
theorem dX12_setFirst_49 : decode cX12_setFirst 49 = .ok (.iload_n 1, 1) := by decide +kernel
theorem dX12_setFirst_50 : decode cX12_setFirst 50 = .ok (.invokevirtual 82, 3) := by decide +kernel
theorem dX12_setFirst_53 : decode cX12_setFirst 53 = .ok (.ifCond .ne 18, 3) := by decide +kernel
theorem dX12_setFirst_56 : decode cX12_setFirst 56 = .ok (.aload_n 0, 1) := by decide +kernel
theorem dX12_setFirst_57 : decode cX12_setFirst 57 = .ok (.getfield 10, 3) := by decide +kernel
theorem dX12_setFirst_60 : decode cX12_setFirst 60 = .ok (.iload_n 1, 1) := by decide +kernel
theorem dX12_setFirst_61 : decode cX12_setFirst 61 = .ok (.invokevirtual 86, 3) := by decide +kernel
theorem dX12_setFirst_64 : decode cX12_setFirst 64 = .ok (.iload_n 2, 1) := by decide +kernel
theorem dX12_setFirst_65 : decode cX12_setFirst 65 = .ok (.invokestatic 89, 3) := by decide +kernel
theorem dX12_setFirst_68 : decode cX12_setFirst 68 = .ok (.ifCond .ne 7, 3) := by decide +kernel
theorem dX12_setFirst_71 : decode cX12_setFirst 71 = .ok (.iconst 1, 1) := by decide +kernel
theorem dX12_setFirst_72 : decode cX12_setFirst 72 = .ok (.goto 4, 3) := by decide +kernel
theorem dX12_setFirst_75 : decode cX12_setFirst 75 = .ok (.iconst 0, 1) := by decide +kernel
theorem dX12_setFirst_76 : decode cX12_setFirst 76 = .ok (.iconst 3, 1) := by decide +kernel
theorem dX12_setFirst_77 : decode cX12_setFirst 77 = .ok (.invokevirtual 48, 3) := by decide +kernel
theorem dX12_setFirst_80 : decode cX12_setFirst 80 = .ok (.ifCond .eq 5, 3) := by decide +kernel
theorem dX12_setFirst_83 : decode cX12_setFirst 83 = .ok (.iconst 0, 1) := by decide +kernel
theorem dX12_setFirst_84 : decode cX12_setFirst 84 = .ok (.ireturn, 1) := by decide +kernel
theorem dX12_setFirst_85 : decode cX12_setFirst 85 = .ok (.aload_n 0, 1) := by decide +kernel
theorem dX12_setFirst_86 : decode cX12_setFirst 86 = .ok (.getfield 10, 3) := by decide +kernel
theorem dX12_setFirst_89 : decode cX12_setFirst 89 = .ok (.iload_n 1, 1) := by decide +kernel
theorem dX12_setFirst_90 : decode cX12_setFirst 90 = .ok (.invokevirtual 93, 3) := by decide +kernel
theorem dX12_setFirst_93 : decode cX12_setFirst 93 = .ok (.istore_n 3, 1) := by decide +kernel
theorem dX12_setFirst_94 : decode cX12_setFirst 94 = .ok (.aload_n 0, 1) := by decide +kernel
theorem dX12_setFirst_95 : decode cX12_setFirst 95 = .ok (.getfield 10, 3) := by decide +kernel
theorem dX12_setFirst_98 : decode cX12_setFirst 98 = .ok (.getfield 29, 3) := by decide +kernel
theorem dX12_setFirst_101 : decode cX12_setFirst 101 = .ok (.iload_n 1, 1) := by decide +kernel
theorem dX12_setFirst_102 : decode cX12_setFirst 102 = .ok (.invokevirtual 74, 3) := by decide +kernel
theorem dX12_setFirst_105 : decode cX12_setFirst 105 = .ok (.checkcast 33, 3) := by decide +kernel
theorem dX12_setFirst_108 : decode cX12_setFirst 108 = .ok (.iload_n 2, 1) := by decide +kernel
theorem dX12_setFirst_109 : decode cX12_setFirst 109 = .ok (.putfield 96, 3) := by decide +kernel
theorem dX12_setFirst_112 : decode cX12_setFirst 112 = .ok (.iload_n 3, 1) := by decide +kernel
theorem dX12_setFirst_113 : decode cX12_setFirst 113 = .ok (.ireturn, 1) := by decide +kernel
theorem dX12_setDoing_0 : decode cX12_setDoing 0 = .ok (.aload_n 0, 1) := by decide +kernel
theorem dX12_setDoing_1 : decode cX12_setDoing 1 = .ok (.aload_n 0, 1) := by decide +kernel
theorem dX12_setDoing_2 : decode cX12_setDoing 2 = .ok (.getfield 21, 3) := by decide +kernel
theorem dX12_setDoing_5 : decode cX12_setDoing 5 = .ok (.getfield 63, 3) := by decide +kernel
theorem dX12_setDoing_8 : decode cX12_setDoing 8 = .ok (.iconst 1, 1) := by decide +kernel
theorem dX12_setDoing_9 : decode cX12_setDoing 9 = .ok (.invokevirtual 67, 3) := by decide +kernel
theorem dX12_setDoing_12 : decode cX12_setDoing 12 = .ok (.ifCond .ne 60, 3) := by decide +kernel
theorem dX12_setDoing_15 : decode cX12_setDoing 15 = .ok (.aload_n 0, 1) := by decide +kernel
theorem dX12_setDoing_16 : decode cX12_setDoing 16 = .ok (.aload_n 0, 1) := by decide +kernel
theorem dX12_setDoing_17 : decode cX12_setDoing 17 = .ok (.iload_n 1, 1) := by decide +kernel
theorem dX12_setDoing_18 : decode cX12_setDoing 18 = .ok (.invokevirtual 70, 3) := by decide +kernel
theorem dX12_setDoing_21 : decode cX12_setDoing 21 = .ok (.iconst 2, 1) := by decide +kernel
theorem dX12_setDoing_22 : decode cX12_setDoing 22 = .ok (.invokevirtual 48, 3) := by decide +kernel
theorem dX12_setDoing_25 : decode cX12_setDoing 25 = .ok (.ifCond .ne 47, 3) := by decide +kernel
theorem dX12_setDoing_28 : decode cX12_setDoing 28 = .ok (.aload_n 0, 1) := by decide +kernel
theorem dX12_setDoing_29 : decode cX12_setDoing 29 = .ok (.aload_n 0, 1) := by decide +kernel
theorem dX12_setDoing_30 : decode cX12_setDoing 30 = .ok (.getfield 10, 3) := by decide +kernel
theorem dX12_setDoing_33 : decode cX12_setDoing 33 = .ok (.getfield 29, 3) := by decide +kernel
theorem dX12_setDoing_36 : decode cX12_setDoing 36 = .ok (.iload_n 1, 1) := by decide +kernel
theorem dX12_setDoing_37 : decode cX12_setDoing 37 = .ok (.invokevirtual 74, 3) := by decide +kernel
theorem dX12_setDoing_40 : decode cX12_setDoing 40 = .ok (.checkcast 33, 3) := by decide +kernel
theorem dX12_setDoing_43 : decode cX12_setDoing 43 = .ok (.invokevirtual 98, 3) := by decide +kernel
theorem dX12_setDoing_46 : decode cX12_setDoing 46 = .ok (.ifCond .ne 14, 3) := by decide +kernel
theorem dX12_setDoing_49 : decode cX12_setDoing 49 = .ok (.iload_n 3, 1) := by decide +kernel
theorem dX12_setDoing_50 : decode cX12_setDoing 50 = .ok (.iload 4, 2) := by decide +kernel
theorem dX12_setDoing_52 : decode cX12_setDoing 52 = .ok (.iload 5, 2) := by decide +kernel
theorem dX12_setDoing_54 : decode cX12_setDoing 54 = .ok (.invokestatic 101, 3) := by decide +kernel
theorem dX12_setDoing_57 : decode cX12_setDoing 57 = .ok (.ifCond .eq 7, 3) := by decide +kernel
theorem dX12_setDoing_60 : decode cX12_setDoing 60 = .ok (.iconst 1, 1) := by decide +kernel
theorem dX12_setDoing_61 : decode cX12_setDoing 61 = .ok (.goto 4, 3) := by decide +kernel
theorem dX12_setDoing_64 : decode cX12_setDoing 64 = .ok (.iconst 0, 1) := by decide +kernel
theorem dX12_setDoing_65 : decode cX12_setDoing 65 = .ok (.iconst 3, 1) := by decide +kernel
theorem dX12_setDoing_66 : decode cX12_setDoing 66 = .ok (.invokevirtual 48, 3) := by decide +kernel
theorem dX12_setDoing_69 : decode cX12_setDoing 69 = .ok (.ifCond .eq 5, 3) := by decide +kernel
theorem dX12_setDoing_72 : decode cX12_setDoing 72 = .ok (.iconst 0, 1) := by decide +kernel
theorem dX12_setDoing_73 : decode cX12_setDoing 73 = .ok (.ireturn, 1) := by decide +kernel
theorem dX12_setDoing_74 : decode cX12_setDoing 74 = .ok (.aload_n 0, 1) := by decide +kernel
theorem dX12_setDoing_75 : decode cX12_setDoing 75 = .ok (.getfield 10, 3) := by decide +kernel
theorem dX12_setDoing_78 : decode cX12_setDoing 78 = .ok (.getfield 29, 3) := by decide +kernel
theorem dX12_setDoing_81 : decode cX12_setDoing 81 = .ok (.iload_n 1, 1) := by decide +kernel
theorem dX12_setDoing_82 : decode cX12_setDoing 82 = .ok (.invokevirtual 74, 3) := by decide +kernel
theorem dX12_setDoing_85 : decode cX12_setDoing 85 = .ok (.checkcast 33, 3) := by decide +kernel
theorem dX12_setDoing_88 : decode cX12_setDoing 88 = .ok (.astore 6, 2) := by decide +kernel
theorem dX12_setDoing_90 : decode cX12_setDoing 90 = .ok (.iload_n 2, 1) := by decide +kernel
theorem dX12_setDoing_91 : decode cX12_setDoing 91 = .ok (.ifCond .eq 13, 3) := by decide +kernel
theorem dX12_setDoing_94 : decode cX12_setDoing 94 = .ok (.aload 6, 2) := by decide +kernel
theorem dX12_setDoing_96 : decode cX12_setDoing 96 = .ok (.getfield 104, 3) := by decide +kernel
theorem dX12_setDoing_99 : decode cX12_setDoing 99 = .ok (.iconst 0, 1) := by decide +kernel
theorem dX12_setDoing_100 : decode cX12_setDoing 100 = .ok (.iaload, 1) := by decide +kernel
theorem dX12_setDoing_101 : decode cX12_setDoing 101 = .ok (.goto 10, 3) := by decide +kernel
theorem dX12_setDoing_104 : decode cX12_setDoing 104 = .ok (.aload 6, 2) := by decide +kernel
theorem dX12_setDoing_106 : decode cX12_setDoing 106 = .ok (.getfield 107, 3) := by decide +kernel
theorem dX12_setDoing_109 : decode cX12_setDoing 109 = .ok (.iconst 0, 1) := by decide +kernel
theorem dX12_setDoing_110 : decode cX12_setDoing 110 = .ok (.iaload, 1) := by decide +kernel
theorem dX12_setDoing_111 : decode cX12_setDoing 111 = .ok (.istore 7, 2) := by decide +kernel
theorem dX12_setDoing_113 : decode cX12_setDoing 113 = .ok (.iconst 3, 1) := by decide +kernel
theorem dX12_setDoing_114 : decode cX12_setDoing 114 = .ok (.newarray .int, 2) := by decide +kernel
theorem dX12_setDoing_116 : decode cX12_setDoing 116 = .ok (.dup, 1) := by decide +kernel
theorem dX12_setDoing_117 : decode cX12_setDoing 117 = .ok (.iconst 0, 1) := by decide +kernel
theorem dX12_setDoing_118 : decode cX12_setDoing 118 = .ok (.iload_n 3, 1) := by decide +kernel
theorem dX12_setDoing_119 : decode cX12_setDoing 119 = .ok (.iastore, 1) := by decide +kernel
theorem dX12_setDoing_120 : decode cX12_setDoing 120 = .ok (.dup, 1) := by decide +kernel
theorem dX12_setDoing_121 : decode cX12_setDoing 121 = .ok (.iconst 1, 1) := by decide +kernel
theorem dX12_setDoing_122 : decode cX12_setDoing 122 = .ok (.iload 4, 2) := by decide +kernel
theorem dX12_setDoing_124 : decode cX12_setDoing 124 = .ok (.iastore, 1) := by decide +kernel
theorem dX12_setDoing_125 : decode cX12_setDoing 125 = .ok (.dup, 1) := by decide +kernel
theorem dX12_setDoing_126 : decode cX12_setDoing 126 = .ok (.iconst 2, 1) := by decide +kernel
theorem dX12_setDoing_127 : decode cX12_setDoing 127 = .ok (.iload 5, 2) := by decide +kernel
theorem dX12_setDoing_129 : decode cX12_setDoing 129 = .ok (.iastore, 1) := by decide +kernel
theorem dX12_setDoing_130 : decode cX12_setDoing 130 = .ok (.astore 8, 2) := by decide +kernel
theorem dX12_setDoing_132 : decode cX12_setDoing 132 = .ok (.iload_n 2, 1) := by decide +kernel
theorem dX12_setDoing_133 : decode cX12_setDoing 133 = .ok (.ifCond .eq 13, 3) := by decide +kernel
theorem dX12_setDoing_136 : decode cX12_setDoing 136 = .ok (.aload 6, 2) := by decide +kernel
theorem dX12_setDoing_138 : decode cX12_setDoing 138 = .ok (.aload 8, 2) := by decide +kernel
theorem dX12_setDoing_140 : decode cX12_setDoing 140 = .ok (.putfield 104, 3) := by decide +kernel
theorem dX12_setDoing_143 : decode cX12_setDoing 143 = .ok (.goto 10, 3) := by decide +kernel
theorem dX12_setDoing_146 : decode cX12_setDoing 146 = .ok (.aload 6, 2) := by decide +kernel
theorem dX12_setDoing_148 : decode cX12_setDoing 148 = .ok (.aload 8, 2) := by decide +kernel
theorem dX12_setDoing_150 : decode cX12_setDoing 150 = .ok (.putfield 107, 3) := by decide +kernel
theorem dX12_setDoing_153 : decode cX12_setDoing 153 = .ok (.iload 7, 2) := by decide +kernel
theorem dX12_setDoing_155 : decode cX12_setDoing 155 = .ok (.ireturn, 1) := by decide +kernel
theorem dX12_addTransition_0 : decode cX12_addTransition 0 = .ok (.aload_n 0, 1) := by decide +kernel
theorem dX12_addTransition_1 : decode cX12_addTransition 1 = .ok (.aload_n 0, 1) := by decide +kernel
theorem dX12_addTransition_2 : decode cX12_addTransition 2 = .ok (.getfield 21, 3) := by decide +kernel
theorem dX12_addTransition_5 : decode cX12_addTransition 5 = .ok (.getfield 63, 3) := by decide +kernel
theorem dX12_addTransition_8 : decode cX12_addTransition 8 = .ok (.ifCond .ne 18, 3) := by decide +kernel
theorem dX12_addTransition_11 : decode cX12_addTransition 11 = .ok (.aload_n 0, 1) := by decide +kernel
theorem dX12_addTransition_12 : decode cX12_addTransition 12 = .ok (.getfield 10, 3) := by decide +kernel
theorem dX12_addTransition_15 : decode cX12_addTransition 15 = .ok (.getfield 60, 3) := by decide +kernel
theorem dX12_addTransition_18 : decode cX12_addTransition 18 = .ok (.invokevirtual 52, 3) := by decide +kernel
theorem dX12_addTransition_21 : decode cX12_addTransition 21 = .ok (.bipush 30, 2) := by decide +kernel
theorem dX12_addTransition_23 : decode cX12_addTransition 23 = .ok (.if_icmp .ne 7, 3) := by decide +kernel
theorem dX12_addTransition_26 : decode cX12_addTransition 26 = .ok (.iconst 1, 1) := by decide +kernel
theorem dX12_addTransition_27 : decode cX12_addTransition 27 = .ok (.goto 4, 3) := by decide +kernel
theorem dX12_addTransition_30 : decode cX12_addTransition 30 = .ok (.iconst 0, 1) := by decide +kernel
theorem dX12_addTransition_31 : decode cX12_addTransition 31 = .ok (.iconst 1, 1) := by decide +kernel
theorem dX12_addTransition_32 : decode cX12_addTransition 32 = .ok (.invokevirtual 67, 3) := by decide +kernel
theorem dX12_addTransition_35 : decode cX12_addTransition 35 = .ok (.ifCond .ne 39, 3) := by decide +kernel
theorem dX12_addTransition_38 : decode cX12_addTransition 38 = .ok (.aload_n 0, 1) := by decide +kernel
theorem dX12_addTransition_39 : decode cX12_addTransition 39 = .ok (.aload_n 0, 1) := by decide +kernel
theorem dX12_addTransition_40 : decode cX12_addTransition 40 = .ok (.iload_n 1, 1) := by decide +kernel
theorem dX12_addTransition_41 : decode cX12_addTransition 41 = .ok (.invokevirtual 70, 3) := by decide +kernel
theorem dX12_addTransition_44 : decode cX12_addTransition 44 = .ok (.ifCond .ne 18, 3) := by decide +kernel
theorem dX12_addTransition_47 : decode cX12_addTransition 47 = .ok (.iload 4, 2) := by decide +kernel
theorem dX12_addTransition_49 : decode cX12_addTransition 49 = .ok (.iconst (-1), 1) := by decide +kernel
theorem dX12_addTransition_50 : decode cX12_addTransition 50 = .ok (.if_icmp .eq 16, 3) := by decide +kernel
theorem dX12_addTransition_53 : decode cX12_addTransition 53 = .ok (.aload_n 0, 1) := by decide +kernel
theorem dX12_addTransition_54 : decode cX12_addTransition 54 = .ok (.iload 4, 2) := by decide +kernel
theorem dX12_addTransition_56 : decode cX12_addTransition 56 = .ok (.invokevirtual 70, 3) := by decide +kernel
theorem dX12_addTransition_59 : decode cX12_addTransition 59 = .ok (.ifCond .eq 7, 3) := by decide +kernel
theorem dX12_addTransition_62 : decode cX12_addTransition 62 = .ok (.iconst 1, 1) := by decide +kernel
theorem dX12_addTransition_63 : decode cX12_addTransition 63 = .ok (.goto 4, 3) := by decide +kernel
theorem dX12_addTransition_66 : decode cX12_addTransition 66 = .ok (.iconst 0, 1) := by decide +kernel
theorem dX12_addTransition_67 : decode cX12_addTransition 67 = .ok (.iconst 2, 1) := by decide +kernel
theorem dX12_addTransition_68 : decode cX12_addTransition 68 = .ok (.invokevirtual 48, 3) := by decide +kernel
theorem dX12_addTransition_71 : decode cX12_addTransition 71 = .ok (.ifCond .eq 5, 3) := by decide +kernel
theorem dX12_addTransition_74 : decode cX12_addTransition 74 = .ok (.iconst 0, 1) := by decide +kernel
theorem dX12_addTransition_75 : decode cX12_addTransition 75 = .ok (.ireturn, 1) := by decide +kernel
theorem dX12_addTransition_76 : decode cX12_addTransition 76 = .ok (.aload_n 0, 1) := by decide +kernel
theorem dX12_addTransition_77 : decode cX12_addTransition 77 = .ok (.getfield 10, 3) := by decide +kernel
theorem dX12_addTransition_80 : decode cX12_addTransition 80 = .ok (.getfield 29, 3) := by decide +kernel
theorem dX12_addTransition_83 : decode cX12_addTransition 83 = .ok (.iload_n 1, 1) := by decide +kernel
theorem dX12_addTransition_84 : decode cX12_addTransition 84 = .ok (.invokevirtual 74, 3) := by decide +kernel
theorem dX12_addTransition_87 : decode cX12_addTransition 87 = .ok (.checkcast 33, 3) := by decide +kernel
theorem dX12_addTransition_90 : decode cX12_addTransition 90 = .ok (.invokevirtual 78, 3) := by decide +kernel
theorem dX12_addTransition_93 : decode cX12_addTransition 93 = .ok (.ifCond .eq 56, 3) := by decide +kernel
theorem dX12_addTransition_96 : decode cX12_addTransition 96 = .ok (.iload_n 2, 1) := by decide +kernel
theorem dX12_addTransition_97 : decode cX12_addTransition 97 = .ok (.iconst 0, 1) := by decide +kernel
theorem dX12_addTransition_98 : decode cX12_addTransition 98 = .ok (.iconst 3, 1) := by decide +kernel
theorem dX12_addTransition_99 : decode cX12_addTransition 99 = .ok (.invokestatic 56, 3) := by decide +kernel
theorem dX12_addTransition_102 : decode cX12_addTransition 102 = .ok (.ifCond .eq 47, 3) := by decide +kernel
theorem dX12_addTransition_105 : decode cX12_addTransition 105 = .ok (.iload_n 2, 1) := by decide +kernel
theorem dX12_addTransition_106 : decode cX12_addTransition 106 = .ok (.ifCond .ne 13, 3) := by decide +kernel
theorem dX12_addTransition_109 : decode cX12_addTransition 109 = .ok (.iload_n 3, 1) := by decide +kernel
theorem dX12_addTransition_110 : decode cX12_addTransition 110 = .ok (.iconst 0, 1) := by decide +kernel
theorem dX12_addTransition_111 : decode cX12_addTransition 111 = .ok (.bipush 9, 2) := by decide +kernel
theorem dX12_addTransition_113 : decode cX12_addTransition 113 = .ok (.invokestatic 56, 3) := by decide +kernel
theorem dX12_addTransition_116 : decode cX12_addTransition 116 = .ok (.ifCond .eq 33, 3) := by decide +kernel
theorem dX12_addTransition_119 : decode cX12_addTransition 119 = .ok (.iload_n 2, 1) := by decide +kernel
theorem dX12_addTransition_120 : decode cX12_addTransition 120 = .ok (.iconst 1, 1) := by decide +kernel
theorem dX12_addTransition_121 : decode cX12_addTransition 121 = .ok (.if_icmp .ne 13, 3) := by decide +kernel
theorem dX12_addTransition_124 : decode cX12_addTransition 124 = .ok (.iload_n 3, 1) := by decide +kernel
theorem dX12_addTransition_125 : decode cX12_addTransition 125 = .ok (.iconst 1, 1) := by decide +kernel
theorem dX12_addTransition_126 : decode cX12_addTransition 126 = .ok (.bipush 50, 2) := by decide +kernel
theorem dX12_addTransition_128 : decode cX12_addTransition 128 = .ok (.invokestatic 56, 3) := by decide +kernel
theorem dX12_addTransition_131 : decode cX12_addTransition 131 = .ok (.ifCond .eq 18, 3) := by decide +kernel
theorem dX12_addTransition_134 : decode cX12_addTransition 134 = .ok (.iload 4, 2) := by decide +kernel
theorem dX12_addTransition_136 : decode cX12_addTransition 136 = .ok (.ifCond .eq 13, 3) := by decide +kernel
theorem dX12_addTransition_139 : decode cX12_addTransition 139 = .ok (.iload_n 1, 1) := by decide +kernel
theorem dX12_addTransition_140 : decode cX12_addTransition 140 = .ok (.ifCond .ne 13, 3) := by decide +kernel
theorem dX12_addTransition_143 : decode cX12_addTransition 143 = .ok (.iload 4, 2) := by decide +kernel
theorem dX12_addTransition_145 : decode cX12_addTransition 145 = .ok (.iconst (-1), 1) := by decide +kernel
theorem dX12_addTransition_146 : decode cX12_addTransition 146 = .ok (.if_icmp .eq 7, 3) := by decide +kernel
theorem dX12_addTransition_149 : decode cX12_addTransition 149 = .ok (.iconst 1, 1) := by decide +kernel
theorem dX12_addTransition_150 : decode cX12_addTransition 150 = .ok (.goto 4, 3) := by decide +kernel
theorem dX12_addTransition_153 : decode cX12_addTransition 153 = .ok (.iconst 0, 1) := by decide +kernel
theorem dX12_addTransition_154 : decode cX12_addTransition 154 = .ok (.istore 5, 2) := by decide +kernel
theorem dX12_addTransition_156 : decode cX12_addTransition 156 = .ok (.aload_n 0, 1) := by decide +kernel
theorem dX12_addTransition_157 : decode cX12_addTransition 157 = .ok (.iload 5, 2) := by decide +kernel
theorem dX12_addTransition_159 : decode cX12_addTransition 159 = .ok (.iconst 3, 1) := by decide +kernel
theorem dX12_addTransition_160 : decode cX12_addTransition 160 = .ok (.invokevirtual 48, 3) := by decide +kernel
theorem dX12_addTransition_163 : decode cX12_addTransition 163 = .ok (.ifCond .eq 5, 3) := by decide +kernel
theorem dX12_addTransition_166 : decode cX12_addTransition 166 = .ok (.iconst 0, 1) := by decide +kernel
theorem dX12_addTransition_167 : decode cX12_addTransition 167 = .ok (.ireturn, 1) := by decide +kernel
theorem dX12_addTransition_168 : decode cX12_addTransition 168 = .ok (.aload_n 0, 1) := by decide +kernel
theorem dX12_addTransition_169 : decode cX12_addTransition 169 = .ok (.getfield 10, 3) := by decide +kernel
theorem dX12_addTransition_172 : decode cX12_addTransition 172 = .ok (.getfield 60, 3) := by decide +kernel
theorem dX12_addTransition_175 : decode cX12_addTransition 175 = .ok (.new 110, 3) := by decide +kernel
theorem dX12_addTransition_178 : decode cX12_addTransition 178 = .ok (.dup, 1) := by decide +kernel
theorem dX12_addTransition_179 : decode cX12_addTransition 179 = .ok (.iload_n 1, 1) := by decide +kernel
theorem dX12_addTransition_180 : decode cX12_addTransition 180 = .ok (.iload_n 2, 1) := by decide +kernel
theorem dX12_addTransition_181 : decode cX12_addTransition 181 = .ok (.iload_n 3, 1) := by decide +kernel
theorem dX12_addTransition_182 : decode cX12_addTransition 182 = .ok (.iload 4, 2) := by decide +kernel
theorem dX12_addTransition_184 : decode cX12_addTransition 184 = .ok (.invokespecial 112, 3) := by decide +kernel
theorem dX12_addTransition_187 : decode cX12_addTransition 187 = .ok (.invokevirtual 38, 3) := by decide +kernel
theorem dX12_addTransition_190 : decode cX12_addTransition 190 = .ok (.pop, 1) := by decide +kernel
theorem dX12_addTransition_191 : decode cX12_addTransition 191 = .ok (.aload_n 0, 1) := by decide +kernel
theorem dX12_addTransition_192 : decode cX12_addTransition 192 = .ok (.getfield 10, 3) := by decide +kernel
theorem dX12_addTransition_195 : decode cX12_addTransition 195 = .ok (.getfield 60, 3) := by decide +kernel
theorem dX12_addTransition_198 : decode cX12_addTransition 198 = .ok (.invokevirtual 52, 3) := by decide +kernel
theorem dX12_addTransition_201 : decode cX12_addTransition 201 = .ok (.iconst 1, 1) := by decide +kernel
theorem dX12_addTransition_202 : decode cX12_addTransition 202 = .ok (.isub, 1) := by decide +kernel
theorem dX12_addTransition_203 : decode cX12_addTransition 203 = .ok (.ireturn, 1) := by decide +kernel
theorem dX12_setGuard_0 : decode cX12_setGuard 0 = .ok (.aload_n 0, 1) := by decide +kernel
theorem dX12_setGuard_1 : decode cX12_setGuard 1 = .ok (.aload_n 0, 1) := by decide +kernel
theorem dX12_setGuard_2 : decode cX12_setGuard 2 = .ok (.getfield 21, 3) := by decide +kernel
theorem dX12_setGuard_5 : decode cX12_setGuard 5 = .ok (.getfield 63, 3) := by decide +kernel
theorem dX12_setGuard_8 : decode cX12_setGuard 8 = .ok (.iconst 1, 1) := by decide +kernel
theorem dX12_setGuard_9 : decode cX12_setGuard 9 = .ok (.invokevirtual 67, 3) := by decide +kernel
theorem dX12_setGuard_12 : decode cX12_setGuard 12 = .ok (.ifCond .ne 63, 3) := by decide +kernel
theorem dX12_setGuard_15 : decode cX12_setGuard 15 = .ok (.aload_n 0, 1) := by decide +kernel
theorem dX12_setGuard_16 : decode cX12_setGuard 16 = .ok (.aload_n 0, 1) := by decide +kernel
theorem dX12_setGuard_17 : decode cX12_setGuard 17 = .ok (.iload_n 1, 1) := by decide +kernel
theorem dX12_setGuard_18 : decode cX12_setGuard 18 = .ok (.invokevirtual 115, 3) := by decide +kernel
theorem dX12_setGuard_21 : decode cX12_setGuard 21 = .ok (.iconst 2, 1) := by decide +kernel
theorem dX12_setGuard_22 : decode cX12_setGuard 22 = .ok (.invokevirtual 48, 3) := by decide +kernel
theorem dX12_setGuard_25 : decode cX12_setGuard 25 = .ok (.ifCond .ne 50, 3) := by decide +kernel
theorem dX12_setGuard_28 : decode cX12_setGuard 28 = .ok (.aload_n 0, 1) := by decide +kernel
theorem dX12_setGuard_29 : decode cX12_setGuard 29 = .ok (.iload_n 2, 1) := by decide +kernel
theorem dX12_setGuard_30 : decode cX12_setGuard 30 = .ok (.iconst 0, 1) := by decide +kernel
theorem dX12_setGuard_31 : decode cX12_setGuard 31 = .ok (.iconst 3, 1) := by decide +kernel
theorem dX12_setGuard_32 : decode cX12_setGuard 32 = .ok (.invokestatic 56, 3) := by decide +kernel
theorem dX12_setGuard_35 : decode cX12_setGuard 35 = .ok (.ifCond .eq 28, 3) := by decide +kernel
theorem dX12_setGuard_38 : decode cX12_setGuard 38 = .ok (.iload_n 2, 1) := by decide +kernel
theorem dX12_setGuard_39 : decode cX12_setGuard 39 = .ok (.ifCond .le 28, 3) := by decide +kernel
theorem dX12_setGuard_42 : decode cX12_setGuard 42 = .ok (.iload_n 3, 1) := by decide +kernel
theorem dX12_setGuard_43 : decode cX12_setGuard 43 = .ok (.iconst 0, 1) := by decide +kernel
theorem dX12_setGuard_44 : decode cX12_setGuard 44 = .ok (.iconst 3, 1) := by decide +kernel
theorem dX12_setGuard_45 : decode cX12_setGuard 45 = .ok (.invokestatic 56, 3) := by decide +kernel
theorem dX12_setGuard_48 : decode cX12_setGuard 48 = .ok (.ifCond .eq 15, 3) := by decide +kernel
theorem dX12_setGuard_51 : decode cX12_setGuard 51 = .ok (.iload 4, 2) := by decide +kernel
theorem dX12_setGuard_53 : decode cX12_setGuard 53 = .ok (.bipush (-99), 2) := by decide +kernel
theorem dX12_setGuard_55 : decode cX12_setGuard 55 = .ok (.bipush 99, 2) := by decide +kernel
theorem dX12_setGuard_57 : decode cX12_setGuard 57 = .ok (.invokestatic 56, 3) := by decide +kernel
theorem dX12_setGuard_60 : decode cX12_setGuard 60 = .ok (.ifCond .ne 7, 3) := by decide +kernel
theorem dX12_setGuard_63 : decode cX12_setGuard 63 = .ok (.iconst 1, 1) := by decide +kernel
theorem dX12_setGuard_64 : decode cX12_setGuard 64 = .ok (.goto 4, 3) := by decide +kernel
theorem dX12_setGuard_67 : decode cX12_setGuard 67 = .ok (.iconst 0, 1) := by decide +kernel
theorem dX12_setGuard_68 : decode cX12_setGuard 68 = .ok (.iconst 3, 1) := by decide +kernel
theorem dX12_setGuard_69 : decode cX12_setGuard 69 = .ok (.invokevirtual 48, 3) := by decide +kernel
theorem dX12_setGuard_72 : decode cX12_setGuard 72 = .ok (.ifCond .eq 5, 3) := by decide +kernel
theorem dX12_setGuard_75 : decode cX12_setGuard 75 = .ok (.iconst 0, 1) := by decide +kernel
theorem dX12_setGuard_76 : decode cX12_setGuard 76 = .ok (.ireturn, 1) := by decide +kernel
theorem dX12_setGuard_77 : decode cX12_setGuard 77 = .ok (.aload_n 0, 1) := by decide +kernel
theorem dX12_setGuard_78 : decode cX12_setGuard 78 = .ok (.getfield 10, 3) := by decide +kernel
theorem dX12_setGuard_81 : decode cX12_setGuard 81 = .ok (.getfield 60, 3) := by decide +kernel
theorem dX12_setGuard_84 : decode cX12_setGuard 84 = .ok (.iload_n 1, 1) := by decide +kernel
theorem dX12_setGuard_85 : decode cX12_setGuard 85 = .ok (.invokevirtual 74, 3) := by decide +kernel
theorem dX12_setGuard_88 : decode cX12_setGuard 88 = .ok (.checkcast 110, 3) := by decide +kernel
theorem dX12_setGuard_91 : decode cX12_setGuard 91 = .ok (.astore 5, 2) := by decide +kernel
theorem dX12_setGuard_93 : decode cX12_setGuard 93 = .ok (.aload 5, 2) := by decide +kernel
theorem dX12_setGuard_95 : decode cX12_setGuard 95 = .ok (.getfield 118, 3) := by decide +kernel
theorem dX12_setGuard_98 : decode cX12_setGuard 98 = .ok (.iconst 0, 1) := by decide +kernel
theorem dX12_setGuard_99 : decode cX12_setGuard 99 = .ok (.iaload, 1) := by decide +kernel
theorem dX12_setGuard_100 : decode cX12_setGuard 100 = .ok (.istore 6, 2) := by decide +kernel
theorem dX12_setGuard_102 : decode cX12_setGuard 102 = .ok (.aload 5, 2) := by decide +kernel
theorem dX12_setGuard_104 : decode cX12_setGuard 104 = .ok (.iconst 3, 1) := by decide +kernel
theorem dX12_setGuard_105 : decode cX12_setGuard 105 = .ok (.newarray .int, 2) := by decide +kernel
theorem dX12_setGuard_107 : decode cX12_setGuard 107 = .ok (.dup, 1) := by decide +kernel
theorem dX12_setGuard_108 : decode cX12_setGuard 108 = .ok (.iconst 0, 1) := by decide +kernel
theorem dX12_setGuard_109 : decode cX12_setGuard 109 = .ok (.iload_n 2, 1) := by decide +kernel
theorem dX12_setGuard_110 : decode cX12_setGuard 110 = .ok (.iastore, 1) := by decide +kernel
theorem dX12_setGuard_111 : decode cX12_setGuard 111 = .ok (.dup, 1) := by decide +kernel
theorem dX12_setGuard_112 : decode cX12_setGuard 112 = .ok (.iconst 1, 1) := by decide +kernel
theorem dX12_setGuard_113 : decode cX12_setGuard 113 = .ok (.iload_n 3, 1) := by decide +kernel
theorem dX12_setGuard_114 : decode cX12_setGuard 114 = .ok (.iastore, 1) := by decide +kernel
theorem dX12_setGuard_115 : decode cX12_setGuard 115 = .ok (.dup, 1) := by decide +kernel
theorem dX12_setGuard_116 : decode cX12_setGuard 116 = .ok (.iconst 2, 1) := by decide +kernel
theorem dX12_setGuard_117 : decode cX12_setGuard 117 = .ok (.iload 4, 2) := by decide +kernel
theorem dX12_setGuard_119 : decode cX12_setGuard 119 = .ok (.iastore, 1) := by decide +kernel
theorem dX12_setGuard_120 : decode cX12_setGuard 120 = .ok (.putfield 118, 3) := by decide +kernel
theorem dX12_setGuard_123 : decode cX12_setGuard 123 = .ok (.iload 6, 2) := by decide +kernel
theorem dX12_setGuard_125 : decode cX12_setGuard 125 = .ok (.ireturn, 1) := by decide +kernel
theorem dX12_setAction_0 : decode cX12_setAction 0 = .ok (.aload_n 0, 1) := by decide +kernel
theorem dX12_setAction_1 : decode cX12_setAction 1 = .ok (.aload_n 0, 1) := by decide +kernel
theorem dX12_setAction_2 : decode cX12_setAction 2 = .ok (.getfield 21, 3) := by decide +kernel
theorem dX12_setAction_5 : decode cX12_setAction 5 = .ok (.getfield 63, 3) := by decide +kernel
theorem dX12_setAction_8 : decode cX12_setAction 8 = .ok (.iconst 1, 1) := by decide +kernel
theorem dX12_setAction_9 : decode cX12_setAction 9 = .ok (.invokevirtual 67, 3) := by decide +kernel
theorem dX12_setAction_12 : decode cX12_setAction 12 = .ok (.ifCond .ne 31, 3) := by decide +kernel
theorem dX12_setAction_15 : decode cX12_setAction 15 = .ok (.aload_n 0, 1) := by decide +kernel
theorem dX12_setAction_16 : decode cX12_setAction 16 = .ok (.aload_n 0, 1) := by decide +kernel
theorem dX12_setAction_17 : decode cX12_setAction 17 = .ok (.iload_n 1, 1) := by decide +kernel
theorem dX12_setAction_18 : decode cX12_setAction 18 = .ok (.invokevirtual 115, 3) := by decide +kernel
theorem dX12_setAction_21 : decode cX12_setAction 21 = .ok (.iconst 2, 1) := by decide +kernel
theorem dX12_setAction_22 : decode cX12_setAction 22 = .ok (.invokevirtual 48, 3) := by decide +kernel
theorem dX12_setAction_25 : decode cX12_setAction 25 = .ok (.ifCond .ne 18, 3) := by decide +kernel
theorem dX12_setAction_28 : decode cX12_setAction 28 = .ok (.aload_n 0, 1) := by decide +kernel
theorem dX12_setAction_29 : decode cX12_setAction 29 = .ok (.iload_n 2, 1) := by decide +kernel
theorem dX12_setAction_30 : decode cX12_setAction 30 = .ok (.iload_n 3, 1) := by decide +kernel
theorem dX12_setAction_31 : decode cX12_setAction 31 = .ok (.iload 4, 2) := by decide +kernel
theorem dX12_setAction_33 : decode cX12_setAction 33 = .ok (.invokestatic 101, 3) := by decide +kernel
theorem dX12_setAction_36 : decode cX12_setAction 36 = .ok (.iconst 3, 1) := by decide +kernel
theorem dX12_setAction_37 : decode cX12_setAction 37 = .ok (.invokevirtual 48, 3) := by decide +kernel
theorem dX12_setAction_40 : decode cX12_setAction 40 = .ok (.ifCond .eq 5, 3) := by decide +kernel
theorem dX12_setAction_43 : decode cX12_setAction 43 = .ok (.iconst 0, 1) := by decide +kernel
theorem dX12_setAction_44 : decode cX12_setAction 44 = .ok (.ireturn, 1) := by decide +kernel
theorem dX12_setAction_45 : decode cX12_setAction 45 = .ok (.aload_n 0, 1) := by decide +kernel
theorem dX12_setAction_46 : decode cX12_setAction 46 = .ok (.getfield 10, 3) := by decide +kernel
theorem dX12_setAction_49 : decode cX12_setAction 49 = .ok (.getfield 60, 3) := by decide +kernel
theorem dX12_setAction_52 : decode cX12_setAction 52 = .ok (.iload_n 1, 1) := by decide +kernel
theorem dX12_setAction_53 : decode cX12_setAction 53 = .ok (.invokevirtual 74, 3) := by decide +kernel
theorem dX12_setAction_56 : decode cX12_setAction 56 = .ok (.checkcast 110, 3) := by decide +kernel
theorem dX12_setAction_59 : decode cX12_setAction 59 = .ok (.astore 5, 2) := by decide +kernel
theorem dX12_setAction_61 : decode cX12_setAction 61 = .ok (.aload 5, 2) := by decide +kernel
theorem dX12_setAction_63 : decode cX12_setAction 63 = .ok (.getfield 121, 3) := by decide +kernel
theorem dX12_setAction_66 : decode cX12_setAction 66 = .ok (.iconst 0, 1) := by decide +kernel
theorem dX12_setAction_67 : decode cX12_setAction 67 = .ok (.iaload, 1) := by decide +kernel
theorem dX12_setAction_68 : decode cX12_setAction 68 = .ok (.istore 6, 2) := by decide +kernel
theorem dX12_setAction_70 : decode cX12_setAction 70 = .ok (.aload 5, 2) := by decide +kernel
theorem dX12_setAction_72 : decode cX12_setAction 72 = .ok (.iconst 3, 1) := by decide +kernel
theorem dX12_setAction_73 : decode cX12_setAction 73 = .ok (.newarray .int, 2) := by decide +kernel
theorem dX12_setAction_75 : decode cX12_setAction 75 = .ok (.dup, 1) := by decide +kernel
theorem dX12_setAction_76 : decode cX12_setAction 76 = .ok (.iconst 0, 1) := by decide +kernel
theorem dX12_setAction_77 : decode cX12_setAction 77 = .ok (.iload_n 2, 1) := by decide +kernel
theorem dX12_setAction_78 : decode cX12_setAction 78 = .ok (.iastore, 1) := by decide +kernel
theorem dX12_setAction_79 : decode cX12_setAction 79 = .ok (.dup, 1) := by decide +kernel
theorem dX12_setAction_80 : decode cX12_setAction 80 = .ok (.iconst 1, 1) := by decide +kernel
theorem dX12_setAction_81 : decode cX12_setAction 81 = .ok (.iload_n 3, 1) := by decide +kernel
theorem dX12_setAction_82 : decode cX12_setAction 82 = .ok (.iastore, 1) := by decide +kernel
theorem dX12_setAction_83 : decode cX12_setAction 83 = .ok (.dup, 1) := by decide +kernel
theorem dX12_setAction_84 : decode cX12_setAction 84 = .ok (.iconst 2, 1) := by decide +kernel
theorem dX12_setAction_85 : decode cX12_setAction 85 = .ok (.iload 4, 2) := by decide +kernel
theorem dX12_setAction_87 : decode cX12_setAction 87 = .ok (.iastore, 1) := by decide +kernel
theorem dX12_setAction_88 : decode cX12_setAction 88 = .ok (.putfield 121, 3) := by decide +kernel
theorem dX12_setAction_91 : decode cX12_setAction 91 = .ok (.iload 6, 2) := by decide +kernel
theorem dX12_setAction_93 : decode cX12_setAction 93 = .ok (.ireturn, 1) := by decide +kernel
theorem dX12_stop_0 : decode cX12_stop 0 = .ok (.aload_n 0, 1) := by decide +kernel
theorem dX12_stop_1 : decode cX12_stop 1 = .ok (.aload_n 0, 1) := by decide +kernel
theorem dX12_stop_2 : decode cX12_stop 2 = .ok (.getfield 21, 3) := by decide +kernel
theorem dX12_stop_5 : decode cX12_stop 5 = .ok (.getfield 63, 3) := by decide +kernel
theorem dX12_stop_8 : decode cX12_stop 8 = .ok (.ifCond .ne 7, 3) := by decide +kernel
theorem dX12_stop_11 : decode cX12_stop 11 = .ok (.iconst 1, 1) := by decide +kernel
theorem dX12_stop_12 : decode cX12_stop 12 = .ok (.goto 4, 3) := by decide +kernel
theorem dX12_stop_15 : decode cX12_stop 15 = .ok (.iconst 0, 1) := by decide +kernel
theorem dX12_stop_16 : decode cX12_stop 16 = .ok (.iconst 1, 1) := by decide +kernel
theorem dX12_stop_17 : decode cX12_stop 17 = .ok (.invokevirtual 67, 3) := by decide +kernel
theorem dX12_stop_20 : decode cX12_stop 20 = .ok (.ifCond .eq 5, 3) := by decide +kernel
theorem dX12_stop_23 : decode cX12_stop 23 = .ok (.iconst 0, 1) := by decide +kernel
theorem dX12_stop_24 : decode cX12_stop 24 = .ok (.ireturn, 1) := by decide +kernel
theorem dX12_stop_25 : decode cX12_stop 25 = .ok (.aload_n 0, 1) := by decide +kernel
theorem dX12_stop_26 : decode cX12_stop 26 = .ok (.getfield 21, 3) := by decide +kernel
theorem dX12_stop_29 : decode cX12_stop 29 = .ok (.getfield 126, 3) := by decide +kernel
theorem dX12_stop_32 : decode cX12_stop 32 = .ok (.invokestatic 129, 3) := by decide +kernel
theorem dX12_stop_35 : decode cX12_stop 35 = .ok (.istore_n 1, 1) := by decide +kernel
theorem dX12_stop_36 : decode cX12_stop 36 = .ok (.aload_n 0, 1) := by decide +kernel
theorem dX12_stop_37 : decode cX12_stop 37 = .ok (.getfield 21, 3) := by decide +kernel
theorem dX12_stop_40 : decode cX12_stop 40 = .ok (.iconst 0, 1) := by decide +kernel
theorem dX12_stop_41 : decode cX12_stop 41 = .ok (.putfield 63, 3) := by decide +kernel
theorem dX12_stop_44 : decode cX12_stop 44 = .ok (.aload_n 0, 1) := by decide +kernel
theorem dX12_stop_45 : decode cX12_stop 45 = .ok (.getfield 21, 3) := by decide +kernel
theorem dX12_stop_48 : decode cX12_stop 48 = .ok (.iconst 0, 1) := by decide +kernel
theorem dX12_stop_49 : decode cX12_stop 49 = .ok (.putfield 126, 3) := by decide +kernel
theorem dX12_stop_52 : decode cX12_stop 52 = .ok (.iload_n 1, 1) := by decide +kernel
theorem dX12_stop_53 : decode cX12_stop 53 = .ok (.ireturn, 1) := by decide +kernel
theorem dX12_send_0 : decode cX12_send 0 = .ok (.aload_n 0, 1) := by decide +kernel
theorem dX12_send_1 : decode cX12_send 1 = .ok (.aload_n 0, 1) := by decide +kernel
theorem dX12_send_2 : decode cX12_send 2 = .ok (.getfield 21, 3) := by decide +kernel
theorem dX12_send_5 : decode cX12_send 5 = .ok (.getfield 63, 3) := by decide +kernel
theorem dX12_send_8 : decode cX12_send 8 = .ok (.ifCond .ne 7, 3) := by decide +kernel
theorem dX12_send_11 : decode cX12_send 11 = .ok (.iconst 1, 1) := by decide +kernel
theorem dX12_send_12 : decode cX12_send 12 = .ok (.goto 4, 3) := by decide +kernel
theorem dX12_send_15 : decode cX12_send 15 = .ok (.iconst 0, 1) := by decide +kernel
theorem dX12_send_16 : decode cX12_send 16 = .ok (.iconst 1, 1) := by decide +kernel
theorem dX12_send_17 : decode cX12_send 17 = .ok (.invokevirtual 67, 3) := by decide +kernel
theorem dX12_send_20 : decode cX12_send 20 = .ok (.ifCond .ne 26, 3) := by decide +kernel
theorem dX12_send_23 : decode cX12_send 23 = .ok (.aload_n 0, 1) := by decide +kernel
theorem dX12_send_24 : decode cX12_send 24 = .ok (.iload_n 1, 1) := by decide +kernel
theorem dX12_send_25 : decode cX12_send 25 = .ok (.iconst 0, 1) := by decide +kernel
theorem dX12_send_26 : decode cX12_send 26 = .ok (.bipush 9, 2) := by decide +kernel
theorem dX12_send_28 : decode cX12_send 28 = .ok (.invokestatic 56, 3) := by decide +kernel
theorem dX12_send_31 : decode cX12_send 31 = .ok (.ifCond .ne 7, 3) := by decide +kernel
theorem dX12_send_34 : decode cX12_send 34 = .ok (.iconst 1, 1) := by decide +kernel
theorem dX12_send_35 : decode cX12_send 35 = .ok (.goto 4, 3) := by decide +kernel
theorem dX12_send_38 : decode cX12_send 38 = .ok (.iconst 0, 1) := by decide +kernel
theorem dX12_send_39 : decode cX12_send 39 = .ok (.iconst 2, 1) := by decide +kernel
theorem dX12_send_40 : decode cX12_send 40 = .ok (.invokevirtual 48, 3) := by decide +kernel
theorem dX12_send_43 : decode cX12_send 43 = .ok (.ifCond .eq 7, 3) := by decide +kernel
theorem dX12_send_46 : decode cX12_send 46 = .ok (.iconst 0, 1) := by decide +kernel
theorem dX12_send_47 : decode cX12_send 47 = .ok (.goto 11, 3) := by decide +kernel
theorem dX12_send_50 : decode cX12_send 50 = .ok (.aload_n 0, 1) := by decide +kernel
theorem dX12_send_51 : decode cX12_send 51 = .ok (.getfield 21, 3) := by decide +kernel
theorem dX12_send_54 : decode cX12_send 54 = .ok (.iload_n 1, 1) := by decide +kernel
theorem dX12_send_55 : decode cX12_send 55 = .ok (.invokevirtual 134, 3) := by decide +kernel
theorem dX12_send_58 : decode cX12_send 58 = .ok (.ireturn, 1) := by decide +kernel
theorem dX12_tick_0 : decode cX12_tick 0 = .ok (.aload_n 0, 1) := by decide +kernel
theorem dX12_tick_1 : decode cX12_tick 1 = .ok (.aload_n 0, 1) := by decide +kernel
theorem dX12_tick_2 : decode cX12_tick 2 = .ok (.getfield 21, 3) := by decide +kernel
theorem dX12_tick_5 : decode cX12_tick 5 = .ok (.getfield 63, 3) := by decide +kernel
theorem dX12_tick_8 : decode cX12_tick 8 = .ok (.ifCond .ne 7, 3) := by decide +kernel
theorem dX12_tick_11 : decode cX12_tick 11 = .ok (.iconst 1, 1) := by decide +kernel
theorem dX12_tick_12 : decode cX12_tick 12 = .ok (.goto 4, 3) := by decide +kernel
theorem dX12_tick_15 : decode cX12_tick 15 = .ok (.iconst 0, 1) := by decide +kernel
theorem dX12_tick_16 : decode cX12_tick 16 = .ok (.iconst 1, 1) := by decide +kernel
theorem dX12_tick_17 : decode cX12_tick 17 = .ok (.invokevirtual 67, 3) := by decide +kernel
theorem dX12_tick_20 : decode cX12_tick 20 = .ok (.ifCond .ne 26, 3) := by decide +kernel
theorem dX12_tick_23 : decode cX12_tick 23 = .ok (.aload_n 0, 1) := by decide +kernel
theorem dX12_tick_24 : decode cX12_tick 24 = .ok (.iload_n 1, 1) := by decide +kernel
theorem dX12_tick_25 : decode cX12_tick 25 = .ok (.iconst 1, 1) := by decide +kernel
theorem dX12_tick_26 : decode cX12_tick 26 = .ok (.bipush 50, 2) := by decide +kernel
theorem dX12_tick_28 : decode cX12_tick 28 = .ok (.invokestatic 56, 3) := by decide +kernel
theorem dX12_tick_31 : decode cX12_tick 31 = .ok (.ifCond .ne 7, 3) := by decide +kernel
theorem dX12_tick_34 : decode cX12_tick 34 = .ok (.iconst 1, 1) := by decide +kernel
theorem dX12_tick_35 : decode cX12_tick 35 = .ok (.goto 4, 3) := by decide +kernel
theorem dX12_tick_38 : decode cX12_tick 38 = .ok (.iconst 0, 1) := by decide +kernel
theorem dX12_tick_39 : decode cX12_tick 39 = .ok (.iconst 2, 1) := by decide +kernel
theorem dX12_tick_40 : decode cX12_tick 40 = .ok (.invokevirtual 48, 3) := by decide +kernel
theorem dX12_tick_43 : decode cX12_tick 43 = .ok (.ifCond .eq 5, 3) := by decide +kernel
theorem dX12_tick_46 : decode cX12_tick 46 = .ok (.iconst 0, 1) := by decide +kernel
theorem dX12_tick_47 : decode cX12_tick 47 = .ok (.ireturn, 1) := by decide +kernel
theorem dX12_tick_48 : decode cX12_tick 48 = .ok (.iconst 0, 1) := by decide +kernel
theorem dX12_tick_49 : decode cX12_tick 49 = .ok (.istore_n 2, 1) := by decide +kernel
theorem dX12_tick_50 : decode cX12_tick 50 = .ok (.iconst 0, 1) := by decide +kernel
theorem dX12_tick_51 : decode cX12_tick 51 = .ok (.istore_n 3, 1) := by decide +kernel
theorem dX12_tick_52 : decode cX12_tick 52 = .ok (.iload_n 3, 1) := by decide +kernel
theorem dX12_tick_53 : decode cX12_tick 53 = .ok (.iload_n 1, 1) := by decide +kernel
theorem dX12_tick_54 : decode cX12_tick 54 = .ok (.if_icmp .ge 19, 3) := by decide +kernel
theorem dX12_tick_57 : decode cX12_tick 57 = .ok (.iload_n 2, 1) := by decide +kernel
theorem dX12_tick_58 : decode cX12_tick 58 = .ok (.aload_n 0, 1) := by decide +kernel
theorem dX12_tick_59 : decode cX12_tick 59 = .ok (.getfield 21, 3) := by decide +kernel
theorem dX12_tick_62 : decode cX12_tick 62 = .ok (.invokevirtual 137, 3) := by decide +kernel
theorem dX12_tick_65 : decode cX12_tick 65 = .ok (.iadd, 1) := by decide +kernel
theorem dX12_tick_66 : decode cX12_tick 66 = .ok (.istore_n 2, 1) := by decide +kernel
theorem dX12_tick_67 : decode cX12_tick 67 = .ok (.iinc 3 1, 3) := by decide +kernel
theorem dX12_tick_70 : decode cX12_tick 70 = .ok (.goto (-18), 3) := by decide +kernel
theorem dX12_tick_73 : decode cX12_tick 73 = .ok (.iload_n 2, 1) := by decide +kernel
theorem dX12_tick_74 : decode cX12_tick 74 = .ok (.ireturn, 1) := by decide +kernel
theorem dX12_states_0 : decode cX12_states 0 = .ok (.aload_n 0, 1) := by decide +kernel
theorem dX12_states_1 : decode cX12_states 1 = .ok (.aload_n 0, 1) := by decide +kernel
theorem dX12_states_2 : decode cX12_states 2 = .ok (.getfield 10, 3) := by decide +kernel
theorem dX12_states_5 : decode cX12_states 5 = .ok (.getfield 29, 3) := by decide +kernel
theorem dX12_states_8 : decode cX12_states 8 = .ok (.invokevirtual 52, 3) := by decide +kernel
theorem dX12_states_11 : decode cX12_states 11 = .ok (.invokevirtual 140, 3) := by decide +kernel
theorem dX12_states_14 : decode cX12_states 14 = .ok (.ireturn, 1) := by decide +kernel
theorem dX12_transitions_0 : decode cX12_transitions 0 = .ok (.aload_n 0, 1) := by decide +kernel
theorem dX12_transitions_1 : decode cX12_transitions 1 = .ok (.aload_n 0, 1) := by decide +kernel
theorem dX12_transitions_2 : decode cX12_transitions 2 = .ok (.getfield 10, 3) := by decide +kernel
theorem dX12_transitions_5 : decode cX12_transitions 5 = .ok (.getfield 60, 3) := by decide +kernel
theorem dX12_transitions_8 : decode cX12_transitions 8 = .ok (.invokevirtual 52, 3) := by decide +kernel
theorem dX12_transitions_11 : decode cX12_transitions 11 = .ok (.invokevirtual 140, 3) := by decide +kernel
theorem dX12_transitions_14 : decode cX12_transitions 14 = .ok (.ireturn, 1) := by decide +kernel
theorem dX12_of_0 : decode cX12_of 0 = .ok (.iload_n 2, 1) := by decide +kernel
theorem dX12_of_1 : decode cX12_of 1 = .ok (.ifCond .ne 14, 3) := by decide +kernel
theorem dX12_of_4 : decode cX12_of 4 = .ok (.aload_n 0, 1) := by decide +kernel
theorem dX12_of_5 : decode cX12_of 5 = .ok (.getfield 10, 3) := by decide +kernel
theorem dX12_of_8 : decode cX12_of 8 = .ok (.iload_n 1, 1) := by decide +kernel
theorem dX12_of_9 : decode cX12_of 9 = .ok (.invokevirtual 82, 3) := by decide +kernel
theorem dX12_of_12 : decode cX12_of 12 = .ok (.goto 46, 3) := by decide +kernel
theorem dX12_of_15 : decode cX12_of 15 = .ok (.iload_n 2, 1) := by decide +kernel
theorem dX12_of_16 : decode cX12_of 16 = .ok (.iconst 1, 1) := by decide +kernel
theorem dX12_of_17 : decode cX12_of 17 = .ok (.if_icmp .ne 14, 3) := by decide +kernel
theorem dX12_of_20 : decode cX12_of 20 = .ok (.aload_n 0, 1) := by decide +kernel
theorem dX12_of_21 : decode cX12_of 21 = .ok (.getfield 10, 3) := by decide +kernel
theorem dX12_of_24 : decode cX12_of 24 = .ok (.iload_n 1, 1) := by decide +kernel
theorem dX12_of_25 : decode cX12_of 25 = .ok (.invokevirtual 143, 3) := by decide +kernel
theorem dX12_of_28 : decode cX12_of 28 = .ok (.goto 30, 3) := by decide +kernel
theorem dX12_of_31 : decode cX12_of 31 = .ok (.iload_n 2, 1) := by decide +kernel
theorem dX12_of_32 : decode cX12_of 32 = .ok (.iconst 2, 1) := by decide +kernel
theorem dX12_of_33 : decode cX12_of 33 = .ok (.if_icmp .ne 14, 3) := by decide +kernel
theorem dX12_of_36 : decode cX12_of 36 = .ok (.aload_n 0, 1) := by decide +kernel
theorem dX12_of_37 : decode cX12_of 37 = .ok (.getfield 10, 3) := by decide +kernel
theorem dX12_of_40 : decode cX12_of 40 = .ok (.iload_n 1, 1) := by decide +kernel
theorem dX12_of_41 : decode cX12_of 41 = .ok (.invokevirtual 93, 3) := by decide +kernel
theorem dX12_of_44 : decode cX12_of 44 = .ok (.goto 14, 3) := by decide +kernel
theorem dX12_of_47 : decode cX12_of 47 = .ok (.aload_n 0, 1) := by decide +kernel
theorem dX12_of_48 : decode cX12_of 48 = .ok (.getfield 10, 3) := by decide +kernel
theorem dX12_of_51 : decode cX12_of 51 = .ok (.iload_n 1, 1) := by decide +kernel
theorem dX12_of_52 : decode cX12_of 52 = .ok (.invokevirtual 86, 3) := by decide +kernel
theorem dX12_of_55 : decode cX12_of 55 = .ok (.invokestatic 129, 3) := by decide +kernel
theorem dX12_of_58 : decode cX12_of 58 = .ok (.ireturn, 1) := by decide +kernel
theorem dX12_ofState_0 : decode cX12_ofState 0 = .ok (.aload_n 0, 1) := by decide +kernel
theorem dX12_ofState_1 : decode cX12_ofState 1 = .ok (.aload_n 0, 1) := by decide +kernel
theorem dX12_ofState_2 : decode cX12_ofState 2 = .ok (.iload_n 1, 1) := by decide +kernel
theorem dX12_ofState_3 : decode cX12_ofState 3 = .ok (.invokevirtual 70, 3) := by decide +kernel
theorem dX12_ofState_6 : decode cX12_ofState 6 = .ok (.iconst 1, 1) := by decide +kernel
theorem dX12_ofState_7 : decode cX12_ofState 7 = .ok (.invokevirtual 67, 3) := by decide +kernel
theorem dX12_ofState_10 : decode cX12_ofState 10 = .ok (.ifCond .ne 25, 3) := by decide +kernel
theorem dX12_ofState_13 : decode cX12_ofState 13 = .ok (.aload_n 0, 1) := by decide +kernel
theorem dX12_ofState_14 : decode cX12_ofState 14 = .ok (.iload_n 2, 1) := by decide +kernel
theorem dX12_ofState_15 : decode cX12_ofState 15 = .ok (.iconst 0, 1) := by decide +kernel
theorem dX12_ofState_16 : decode cX12_ofState 16 = .ok (.iconst 3, 1) := by decide +kernel
theorem dX12_ofState_17 : decode cX12_ofState 17 = .ok (.invokestatic 56, 3) := by decide +kernel
theorem dX12_ofState_20 : decode cX12_ofState 20 = .ok (.ifCond .ne 7, 3) := by decide +kernel
theorem dX12_ofState_23 : decode cX12_ofState 23 = .ok (.iconst 1, 1) := by decide +kernel
theorem dX12_ofState_24 : decode cX12_ofState 24 = .ok (.goto 4, 3) := by decide +kernel
theorem dX12_ofState_27 : decode cX12_ofState 27 = .ok (.iconst 0, 1) := by decide +kernel
theorem dX12_ofState_28 : decode cX12_ofState 28 = .ok (.iconst 2, 1) := by decide +kernel
theorem dX12_ofState_29 : decode cX12_ofState 29 = .ok (.invokevirtual 48, 3) := by decide +kernel
theorem dX12_ofState_32 : decode cX12_ofState 32 = .ok (.ifCond .eq 7, 3) := by decide +kernel
theorem dX12_ofState_35 : decode cX12_ofState 35 = .ok (.iconst 0, 1) := by decide +kernel
theorem dX12_ofState_36 : decode cX12_ofState 36 = .ok (.goto 9, 3) := by decide +kernel
theorem dX12_ofState_39 : decode cX12_ofState 39 = .ok (.aload_n 0, 1) := by decide +kernel
theorem dX12_ofState_40 : decode cX12_ofState 40 = .ok (.iload_n 1, 1) := by decide +kernel
theorem dX12_ofState_41 : decode cX12_ofState 41 = .ok (.iload_n 2, 1) := by decide +kernel
theorem dX12_ofState_42 : decode cX12_ofState 42 = .ok (.invokevirtual 146, 3) := by decide +kernel
theorem dX12_ofState_45 : decode cX12_ofState 45 = .ok (.ireturn, 1) := by decide +kernel
theorem dX12_isRunning_0 : decode cX12_isRunning 0 = .ok (.aload_n 0, 1) := by decide +kernel
theorem dX12_isRunning_1 : decode cX12_isRunning 1 = .ok (.iconst 0, 1) := by decide +kernel
theorem dX12_isRunning_2 : decode cX12_isRunning 2 = .ok (.putfield 44, 3) := by decide +kernel
theorem dX12_isRunning_5 : decode cX12_isRunning 5 = .ok (.aload_n 0, 1) := by decide +kernel
theorem dX12_isRunning_6 : decode cX12_isRunning 6 = .ok (.getfield 21, 3) := by decide +kernel
theorem dX12_isRunning_9 : decode cX12_isRunning 9 = .ok (.getfield 63, 3) := by decide +kernel
theorem dX12_isRunning_12 : decode cX12_isRunning 12 = .ok (.ireturn, 1) := by decide +kernel
theorem dX12_active_0 : decode cX12_active 0 = .ok (.aload_n 0, 1) := by decide +kernel
theorem dX12_active_1 : decode cX12_active 1 = .ok (.aload_n 0, 1) := by decide +kernel
theorem dX12_active_2 : decode cX12_active 2 = .ok (.getfield 21, 3) := by decide +kernel
theorem dX12_active_5 : decode cX12_active 5 = .ok (.getfield 126, 3) := by decide +kernel
theorem dX12_active_8 : decode cX12_active 8 = .ok (.invokevirtual 140, 3) := by decide +kernel
theorem dX12_active_11 : decode cX12_active 11 = .ok (.ireturn, 1) := by decide +kernel
theorem dX12_isOver_0 : decode cX12_isOver 0 = .ok (.aload_n 0, 1) := by decide +kernel
theorem dX12_isOver_1 : decode cX12_isOver 1 = .ok (.iconst 0, 1) := by decide +kernel
theorem dX12_isOver_2 : decode cX12_isOver 2 = .ok (.putfield 44, 3) := by decide +kernel
theorem dX12_isOver_5 : decode cX12_isOver 5 = .ok (.aload_n 0, 1) := by decide +kernel
theorem dX12_isOver_6 : decode cX12_isOver 6 = .ok (.getfield 21, 3) := by decide +kernel
theorem dX12_isOver_9 : decode cX12_isOver 9 = .ok (.getfield 63, 3) := by decide +kernel
theorem dX12_isOver_12 : decode cX12_isOver 12 = .ok (.ifCond .eq 17, 3) := by decide +kernel
theorem dX12_isOver_15 : decode cX12_isOver 15 = .ok (.aload_n 0, 1) := by decide +kernel
theorem dX12_isOver_16 : decode cX12_isOver 16 = .ok (.getfield 21, 3) := by decide +kernel
theorem dX12_isOver_19 : decode cX12_isOver 19 = .ok (.invokevirtual 150, 3) := by decide +kernel
theorem dX12_isOver_22 : decode cX12_isOver 22 = .ok (.ifCond .eq 7, 3) := by decide +kernel
theorem dX12_isOver_25 : decode cX12_isOver 25 = .ok (.iconst 1, 1) := by decide +kernel
theorem dX12_isOver_26 : decode cX12_isOver 26 = .ok (.goto 4, 3) := by decide +kernel
theorem dX12_isOver_29 : decode cX12_isOver 29 = .ok (.iconst 0, 1) := by decide +kernel
theorem dX12_isOver_30 : decode cX12_isOver 30 = .ok (.ireturn, 1) := by decide +kernel
theorem dX12_isEnded_0 : decode cX12_isEnded 0 = .ok (.aload_n 0, 1) := by decide +kernel
theorem dX12_isEnded_1 : decode cX12_isEnded 1 = .ok (.aload_n 0, 1) := by decide +kernel
theorem dX12_isEnded_2 : decode cX12_isEnded 2 = .ok (.iload_n 1, 1) := by decide +kernel
theorem dX12_isEnded_3 : decode cX12_isEnded 3 = .ok (.invokevirtual 70, 3) := by decide +kernel
theorem dX12_isEnded_6 : decode cX12_isEnded 6 = .ok (.iconst 1, 1) := by decide +kernel
theorem dX12_isEnded_7 : decode cX12_isEnded 7 = .ok (.invokevirtual 67, 3) := by decide +kernel
theorem dX12_isEnded_10 : decode cX12_isEnded 10 = .ok (.ifCond .ne 18, 3) := by decide +kernel
theorem dX12_isEnded_13 : decode cX12_isEnded 13 = .ok (.aload_n 0, 1) := by decide +kernel
theorem dX12_isEnded_14 : decode cX12_isEnded 14 = .ok (.getfield 21, 3) := by decide +kernel
theorem dX12_isEnded_17 : decode cX12_isEnded 17 = .ok (.iload_n 1, 1) := by decide +kernel
theorem dX12_isEnded_18 : decode cX12_isEnded 18 = .ok (.invokevirtual 153, 3) := by decide +kernel
theorem dX12_isEnded_21 : decode cX12_isEnded 21 = .ok (.ifCond .eq 7, 3) := by decide +kernel
theorem dX12_isEnded_24 : decode cX12_isEnded 24 = .ok (.iconst 1, 1) := by decide +kernel
theorem dX12_isEnded_25 : decode cX12_isEnded 25 = .ok (.goto 4, 3) := by decide +kernel
theorem dX12_isEnded_28 : decode cX12_isEnded 28 = .ok (.iconst 0, 1) := by decide +kernel
theorem dX12_isEnded_29 : decode cX12_isEnded 29 = .ok (.ireturn, 1) := by decide +kernel
theorem dX12_age_0 : decode cX12_age 0 = .ok (.aload_n 0, 1) := by decide +kernel
theorem dX12_age_1 : decode cX12_age 1 = .ok (.getfield 21, 3) := by decide +kernel
theorem dX12_age_4 : decode cX12_age 4 = .ok (.getfield 126, 3) := by decide +kernel
theorem dX12_age_7 : decode cX12_age 7 = .ok (.iload_n 1, 1) := by decide +kernel
theorem dX12_age_8 : decode cX12_age 8 = .ok (.invokestatic 89, 3) := by decide +kernel
theorem dX12_age_11 : decode cX12_age 11 = .ok (.ifCond .eq 15, 3) := by decide +kernel
theorem dX12_age_14 : decode cX12_age 14 = .ok (.aload_n 0, 1) := by decide +kernel
theorem dX12_age_15 : decode cX12_age 15 = .ok (.getfield 21, 3) := by decide +kernel
theorem dX12_age_18 : decode cX12_age 18 = .ok (.getfield 156, 3) := by decide +kernel
theorem dX12_age_21 : decode cX12_age 21 = .ok (.iload_n 1, 1) := by decide +kernel
theorem dX12_age_22 : decode cX12_age 22 = .ok (.iaload, 1) := by decide +kernel
theorem dX12_age_23 : decode cX12_age 23 = .ok (.goto 4, 3) := by decide +kernel
theorem dX12_age_26 : decode cX12_age 26 = .ok (.iconst (-1), 1) := by decide +kernel
theorem dX12_age_27 : decode cX12_age 27 = .ok (.ireturn, 1) := by decide +kernel
theorem dX12_ageOf_0 : decode cX12_ageOf 0 = .ok (.aload_n 0, 1) := by decide +kernel
theorem dX12_ageOf_1 : decode cX12_ageOf 1 = .ok (.aload_n 0, 1) := by decide +kernel
theorem dX12_ageOf_2 : decode cX12_ageOf 2 = .ok (.iload_n 1, 1) := by decide +kernel
theorem dX12_ageOf_3 : decode cX12_ageOf 3 = .ok (.invokevirtual 70, 3) := by decide +kernel
theorem dX12_ageOf_6 : decode cX12_ageOf 6 = .ok (.iconst 1, 1) := by decide +kernel
theorem dX12_ageOf_7 : decode cX12_ageOf 7 = .ok (.invokevirtual 67, 3) := by decide +kernel
theorem dX12_ageOf_10 : decode cX12_ageOf 10 = .ok (.ifCond .eq 7, 3) := by decide +kernel
theorem dX12_ageOf_13 : decode cX12_ageOf 13 = .ok (.iconst 0, 1) := by decide +kernel
theorem dX12_ageOf_14 : decode cX12_ageOf 14 = .ok (.goto 8, 3) := by decide +kernel
theorem dX12_ageOf_17 : decode cX12_ageOf 17 = .ok (.aload_n 0, 1) := by decide +kernel
theorem dX12_ageOf_18 : decode cX12_ageOf 18 = .ok (.iload_n 1, 1) := by decide +kernel
theorem dX12_ageOf_19 : decode cX12_ageOf 19 = .ok (.invokevirtual 159, 3) := by decide +kernel
theorem dX12_ageOf_22 : decode cX12_ageOf 22 = .ok (.ireturn, 1) := by decide +kernel
theorem dX12_record_0 : decode cX12_record 0 = .ok (.aload_n 0, 1) := by decide +kernel
theorem dX12_record_1 : decode cX12_record 1 = .ok (.aload_n 0, 1) := by decide +kernel
theorem dX12_record_2 : decode cX12_record 2 = .ok (.iload_n 1, 1) := by decide +kernel
theorem dX12_record_3 : decode cX12_record 3 = .ok (.invokevirtual 70, 3) := by decide +kernel
theorem dX12_record_6 : decode cX12_record 6 = .ok (.iconst 1, 1) := by decide +kernel
theorem dX12_record_7 : decode cX12_record 7 = .ok (.invokevirtual 67, 3) := by decide +kernel
theorem dX12_record_10 : decode cX12_record 10 = .ok (.ifCond .ne 36, 3) := by decide +kernel
theorem dX12_record_13 : decode cX12_record 13 = .ok (.aload_n 0, 1) := by decide +kernel
theorem dX12_record_14 : decode cX12_record 14 = .ok (.aload_n 0, 1) := by decide +kernel
theorem dX12_record_15 : decode cX12_record 15 = .ok (.getfield 10, 3) := by decide +kernel
theorem dX12_record_18 : decode cX12_record 18 = .ok (.getfield 29, 3) := by decide +kernel
theorem dX12_record_21 : decode cX12_record 21 = .ok (.iload_n 1, 1) := by decide +kernel
theorem dX12_record_22 : decode cX12_record 22 = .ok (.invokevirtual 74, 3) := by decide +kernel
theorem dX12_record_25 : decode cX12_record 25 = .ok (.checkcast 33, 3) := by decide +kernel
theorem dX12_record_28 : decode cX12_record 28 = .ok (.invokevirtual 98, 3) := by decide +kernel
theorem dX12_record_31 : decode cX12_record 31 = .ok (.ifCond .ne 7, 3) := by decide +kernel
theorem dX12_record_34 : decode cX12_record 34 = .ok (.iconst 1, 1) := by decide +kernel
theorem dX12_record_35 : decode cX12_record 35 = .ok (.goto 4, 3) := by decide +kernel
theorem dX12_record_38 : decode cX12_record 38 = .ok (.iconst 0, 1) := by decide +kernel
theorem dX12_record_39 : decode cX12_record 39 = .ok (.iconst 2, 1) := by decide +kernel
theorem dX12_record_40 : decode cX12_record 40 = .ok (.invokevirtual 48, 3) := by decide +kernel
theorem dX12_record_43 : decode cX12_record 43 = .ok (.ifCond .eq 7, 3) := by decide +kernel
theorem dX12_record_46 : decode cX12_record 46 = .ok (.iconst 0, 1) := by decide +kernel
theorem dX12_record_47 : decode cX12_record 47 = .ok (.goto 12, 3) := by decide +kernel
theorem dX12_record_50 : decode cX12_record 50 = .ok (.aload_n 0, 1) := by decide +kernel
theorem dX12_record_51 : decode cX12_record 51 = .ok (.getfield 21, 3) := by decide +kernel
theorem dX12_record_54 : decode cX12_record 54 = .ok (.getfield 162, 3) := by decide +kernel
theorem dX12_record_57 : decode cX12_record 57 = .ok (.iload_n 1, 1) := by decide +kernel
theorem dX12_record_58 : decode cX12_record 58 = .ok (.iaload, 1) := by decide +kernel
theorem dX12_record_59 : decode cX12_record 59 = .ok (.ireturn, 1) := by decide +kernel
theorem dX12_variable_0 : decode cX12_variable 0 = .ok (.aload_n 0, 1) := by decide +kernel
theorem dX12_variable_1 : decode cX12_variable 1 = .ok (.iload_n 1, 1) := by decide +kernel
theorem dX12_variable_2 : decode cX12_variable 2 = .ok (.iconst 0, 1) := by decide +kernel
theorem dX12_variable_3 : decode cX12_variable 3 = .ok (.iconst 3, 1) := by decide +kernel
theorem dX12_variable_4 : decode cX12_variable 4 = .ok (.invokestatic 56, 3) := by decide +kernel
theorem dX12_variable_7 : decode cX12_variable 7 = .ok (.ifCond .ne 7, 3) := by decide +kernel
theorem dX12_variable_10 : decode cX12_variable 10 = .ok (.iconst 1, 1) := by decide +kernel
theorem dX12_variable_11 : decode cX12_variable 11 = .ok (.goto 4, 3) := by decide +kernel
theorem dX12_variable_14 : decode cX12_variable 14 = .ok (.iconst 0, 1) := by decide +kernel
theorem dX12_variable_15 : decode cX12_variable 15 = .ok (.iconst 1, 1) := by decide +kernel
theorem dX12_variable_16 : decode cX12_variable 16 = .ok (.invokevirtual 67, 3) := by decide +kernel
theorem dX12_variable_19 : decode cX12_variable 19 = .ok (.ifCond .eq 7, 3) := by decide +kernel
theorem dX12_variable_22 : decode cX12_variable 22 = .ok (.iconst 0, 1) := by decide +kernel
theorem dX12_variable_23 : decode cX12_variable 23 = .ok (.goto 12, 3) := by decide +kernel
theorem dX12_variable_26 : decode cX12_variable 26 = .ok (.aload_n 0, 1) := by decide +kernel
theorem dX12_variable_27 : decode cX12_variable 27 = .ok (.getfield 21, 3) := by decide +kernel
theorem dX12_variable_30 : decode cX12_variable 30 = .ok (.getfield 165, 3) := by decide +kernel
theorem dX12_variable_33 : decode cX12_variable 33 = .ok (.iload_n 1, 1) := by decide +kernel
theorem dX12_variable_34 : decode cX12_variable 34 = .ok (.iaload, 1) := by decide +kernel
theorem dX12_variable_35 : decode cX12_variable 35 = .ok (.ireturn, 1) := by decide +kernel
theorem dX12_clock_0 : decode cX12_clock 0 = .ok (.aload_n 0, 1) := by decide +kernel
theorem dX12_clock_1 : decode cX12_clock 1 = .ok (.aload_n 0, 1) := by decide +kernel
theorem dX12_clock_2 : decode cX12_clock 2 = .ok (.getfield 21, 3) := by decide +kernel
theorem dX12_clock_5 : decode cX12_clock 5 = .ok (.getfield 168, 3) := by decide +kernel
theorem dX12_clock_8 : decode cX12_clock 8 = .ok (.invokevirtual 140, 3) := by decide +kernel
theorem dX12_clock_11 : decode cX12_clock 11 = .ok (.ireturn, 1) := by decide +kernel
theorem dX12_fired_0 : decode cX12_fired 0 = .ok (.aload_n 0, 1) := by decide +kernel
theorem dX12_fired_1 : decode cX12_fired 1 = .ok (.aload_n 0, 1) := by decide +kernel
theorem dX12_fired_2 : decode cX12_fired 2 = .ok (.iload_n 1, 1) := by decide +kernel
theorem dX12_fired_3 : decode cX12_fired 3 = .ok (.invokevirtual 115, 3) := by decide +kernel
theorem dX12_fired_6 : decode cX12_fired 6 = .ok (.iconst 1, 1) := by decide +kernel
theorem dX12_fired_7 : decode cX12_fired 7 = .ok (.invokevirtual 67, 3) := by decide +kernel
theorem dX12_fired_10 : decode cX12_fired 10 = .ok (.ifCond .eq 7, 3) := by decide +kernel
theorem dX12_fired_13 : decode cX12_fired 13 = .ok (.iconst 0, 1) := by decide +kernel
theorem dX12_fired_14 : decode cX12_fired 14 = .ok (.goto 12, 3) := by decide +kernel
theorem dX12_fired_17 : decode cX12_fired 17 = .ok (.aload_n 0, 1) := by decide +kernel
theorem dX12_fired_18 : decode cX12_fired 18 = .ok (.getfield 21, 3) := by decide +kernel
theorem dX12_fired_21 : decode cX12_fired 21 = .ok (.getfield 171, 3) := by decide +kernel
theorem dX12_fired_24 : decode cX12_fired 24 = .ok (.iload_n 1, 1) := by decide +kernel
theorem dX12_fired_25 : decode cX12_fired 25 = .ok (.iaload, 1) := by decide +kernel
theorem dX12_fired_26 : decode cX12_fired 26 = .ok (.ireturn, 1) := by decide +kernel
theorem dX12_covers_0 : decode cX12_covers 0 = .ok (.iconst 0, 1) := by decide +kernel
theorem dX12_covers_1 : decode cX12_covers 1 = .ok (.istore_n 1, 1) := by decide +kernel
theorem dX12_covers_2 : decode cX12_covers 2 = .ok (.iconst 0, 1) := by decide +kernel
theorem dX12_covers_3 : decode cX12_covers 3 = .ok (.istore_n 2, 1) := by decide +kernel
theorem dX12_covers_4 : decode cX12_covers 4 = .ok (.iload_n 2, 1) := by decide +kernel
theorem dX12_covers_5 : decode cX12_covers 5 = .ok (.bipush 30, 2) := by decide +kernel
theorem dX12_covers_7 : decode cX12_covers 7 = .ok (.if_icmp .ge 29, 3) := by decide +kernel
theorem dX12_covers_10 : decode cX12_covers 10 = .ok (.iload_n 1, 1) := by decide +kernel
theorem dX12_covers_11 : decode cX12_covers 11 = .ok (.aload_n 0, 1) := by decide +kernel
theorem dX12_covers_12 : decode cX12_covers 12 = .ok (.getfield 21, 3) := by decide +kernel
theorem dX12_covers_15 : decode cX12_covers 15 = .ok (.getfield 171, 3) := by decide +kernel
theorem dX12_covers_18 : decode cX12_covers 18 = .ok (.iload_n 2, 1) := by decide +kernel
theorem dX12_covers_19 : decode cX12_covers 19 = .ok (.iaload, 1) := by decide +kernel
theorem dX12_covers_20 : decode cX12_covers 20 = .ok (.ifCond .le 7, 3) := by decide +kernel
theorem dX12_covers_23 : decode cX12_covers 23 = .ok (.iconst 1, 1) := by decide +kernel
theorem dX12_covers_24 : decode cX12_covers 24 = .ok (.goto 4, 3) := by decide +kernel
theorem dX12_covers_27 : decode cX12_covers 27 = .ok (.iconst 0, 1) := by decide +kernel
theorem dX12_covers_28 : decode cX12_covers 28 = .ok (.iadd, 1) := by decide +kernel
theorem dX12_covers_29 : decode cX12_covers 29 = .ok (.istore_n 1, 1) := by decide +kernel
theorem dX12_covers_30 : decode cX12_covers 30 = .ok (.iinc 2 1, 3) := by decide +kernel
theorem dX12_covers_33 : decode cX12_covers 33 = .ok (.goto (-29), 3) := by decide +kernel
theorem dX12_covers_36 : decode cX12_covers 36 = .ok (.iload_n 1, 1) := by decide +kernel
theorem dX12_covers_37 : decode cX12_covers 37 = .ok (.ireturn, 1) := by decide +kernel
theorem dX12_covered_0 : decode cX12_covered 0 = .ok (.aload_n 0, 1) := by decide +kernel
theorem dX12_covered_1 : decode cX12_covered 1 = .ok (.aload_n 0, 1) := by decide +kernel
theorem dX12_covered_2 : decode cX12_covered 2 = .ok (.invokevirtual 174, 3) := by decide +kernel
theorem dX12_covered_5 : decode cX12_covered 5 = .ok (.invokevirtual 140, 3) := by decide +kernel
theorem dX12_covered_8 : decode cX12_covered 8 = .ok (.ireturn, 1) := by decide +kernel
theorem dX12_lost_0 : decode cX12_lost 0 = .ok (.aload_n 0, 1) := by decide +kernel
theorem dX12_lost_1 : decode cX12_lost 1 = .ok (.aload_n 0, 1) := by decide +kernel
theorem dX12_lost_2 : decode cX12_lost 2 = .ok (.getfield 21, 3) := by decide +kernel
theorem dX12_lost_5 : decode cX12_lost 5 = .ok (.getfield 177, 3) := by decide +kernel
theorem dX12_lost_8 : decode cX12_lost 8 = .ok (.invokevirtual 140, 3) := by decide +kernel
theorem dX12_lost_11 : decode cX12_lost 11 = .ok (.ireturn, 1) := by decide +kernel
theorem dX12_restless_0 : decode cX12_restless 0 = .ok (.aload_n 0, 1) := by decide +kernel
theorem dX12_restless_1 : decode cX12_restless 1 = .ok (.aload_n 0, 1) := by decide +kernel
theorem dX12_restless_2 : decode cX12_restless 2 = .ok (.getfield 21, 3) := by decide +kernel
theorem dX12_restless_5 : decode cX12_restless 5 = .ok (.getfield 180, 3) := by decide +kernel
theorem dX12_restless_8 : decode cX12_restless 8 = .ok (.invokevirtual 140, 3) := by decide +kernel
theorem dX12_restless_11 : decode cX12_restless 11 = .ok (.ireturn, 1) := by decide +kernel
theorem dX12_isNoEvent_0 : decode cX12_isNoEvent 0 = .ok (.aload_n 0, 1) := by decide +kernel
theorem dX12_isNoEvent_1 : decode cX12_isNoEvent 1 = .ok (.aload_n 0, 1) := by decide +kernel
theorem dX12_isNoEvent_2 : decode cX12_isNoEvent 2 = .ok (.getfield 21, 3) := by decide +kernel
theorem dX12_isNoEvent_5 : decode cX12_isNoEvent 5 = .ok (.getfield 63, 3) := by decide +kernel
theorem dX12_isNoEvent_8 : decode cX12_isNoEvent 8 = .ok (.ifCond .ne 7, 3) := by decide +kernel
theorem dX12_isNoEvent_11 : decode cX12_isNoEvent 11 = .ok (.iconst 1, 1) := by decide +kernel
theorem dX12_isNoEvent_12 : decode cX12_isNoEvent 12 = .ok (.goto 4, 3) := by decide +kernel
theorem dX12_isNoEvent_15 : decode cX12_isNoEvent 15 = .ok (.iconst 0, 1) := by decide +kernel
theorem dX12_isNoEvent_16 : decode cX12_isNoEvent 16 = .ok (.iconst 1, 1) := by decide +kernel
theorem dX12_isNoEvent_17 : decode cX12_isNoEvent 17 = .ok (.invokevirtual 67, 3) := by decide +kernel
theorem dX12_isNoEvent_20 : decode cX12_isNoEvent 20 = .ok (.ifCond .ne 26, 3) := by decide +kernel
theorem dX12_isNoEvent_23 : decode cX12_isNoEvent 23 = .ok (.aload_n 0, 1) := by decide +kernel
theorem dX12_isNoEvent_24 : decode cX12_isNoEvent 24 = .ok (.iload_n 1, 1) := by decide +kernel
theorem dX12_isNoEvent_25 : decode cX12_isNoEvent 25 = .ok (.iconst 0, 1) := by decide +kernel
theorem dX12_isNoEvent_26 : decode cX12_isNoEvent 26 = .ok (.bipush 9, 2) := by decide +kernel
theorem dX12_isNoEvent_28 : decode cX12_isNoEvent 28 = .ok (.invokestatic 56, 3) := by decide +kernel
theorem dX12_isNoEvent_31 : decode cX12_isNoEvent 31 = .ok (.ifCond .ne 7, 3) := by decide +kernel
theorem dX12_isNoEvent_34 : decode cX12_isNoEvent 34 = .ok (.iconst 1, 1) := by decide +kernel
theorem dX12_isNoEvent_35 : decode cX12_isNoEvent 35 = .ok (.goto 4, 3) := by decide +kernel
theorem dX12_isNoEvent_38 : decode cX12_isNoEvent 38 = .ok (.iconst 0, 1) := by decide +kernel
theorem dX12_isNoEvent_39 : decode cX12_isNoEvent 39 = .ok (.iconst 2, 1) := by decide +kernel
theorem dX12_isNoEvent_40 : decode cX12_isNoEvent 40 = .ok (.invokevirtual 48, 3) := by decide +kernel
theorem dX12_isNoEvent_43 : decode cX12_isNoEvent 43 = .ok (.ifCond .eq 7, 3) := by decide +kernel
theorem dX12_isNoEvent_46 : decode cX12_isNoEvent 46 = .ok (.iconst 1, 1) := by decide +kernel
theorem dX12_isNoEvent_47 : decode cX12_isNoEvent 47 = .ok (.goto 4, 3) := by decide +kernel
theorem dX12_isNoEvent_50 : decode cX12_isNoEvent 50 = .ok (.iconst 0, 1) := by decide +kernel
theorem dX12_isNoEvent_51 : decode cX12_isNoEvent 51 = .ok (.ireturn, 1) := by decide +kernel
theorem dX12_wouldFire_0 : decode cX12_wouldFire 0 = .ok (.aload_n 0, 1) := by decide +kernel
theorem dX12_wouldFire_1 : decode cX12_wouldFire 1 = .ok (.iload_n 1, 1) := by decide +kernel
theorem dX12_wouldFire_2 : decode cX12_wouldFire 2 = .ok (.invokevirtual 183, 3) := by decide +kernel
theorem dX12_wouldFire_5 : decode cX12_wouldFire 5 = .ok (.ifCond .eq 7, 3) := by decide +kernel
theorem dX12_wouldFire_8 : decode cX12_wouldFire 8 = .ok (.iconst 0, 1) := by decide +kernel
theorem dX12_wouldFire_9 : decode cX12_wouldFire 9 = .ok (.goto 14, 3) := by decide +kernel
theorem dX12_wouldFire_12 : decode cX12_wouldFire 12 = .ok (.aload_n 0, 1) := by decide +kernel
theorem dX12_wouldFire_13 : decode cX12_wouldFire 13 = .ok (.getfield 21, 3) := by decide +kernel
theorem dX12_wouldFire_16 : decode cX12_wouldFire 16 = .ok (.invokevirtual 186, 3) := by decide +kernel
theorem dX12_wouldFire_19 : decode cX12_wouldFire 19 = .ok (.iload_n 1, 1) := by decide +kernel
theorem dX12_wouldFire_20 : decode cX12_wouldFire 20 = .ok (.invokevirtual 134, 3) := by decide +kernel
theorem dX12_wouldFire_23 : decode cX12_wouldFire 23 = .ok (.ireturn, 1) := by decide +kernel
theorem dX12_wouldBe_0 : decode cX12_wouldBe 0 = .ok (.aload_n 0, 1) := by decide +kernel
theorem dX12_wouldBe_1 : decode cX12_wouldBe 1 = .ok (.iload_n 1, 1) := by decide +kernel
theorem dX12_wouldBe_2 : decode cX12_wouldBe 2 = .ok (.invokevirtual 183, 3) := by decide +kernel
theorem dX12_wouldBe_5 : decode cX12_wouldBe 5 = .ok (.ifCond .eq 5, 3) := by decide +kernel
theorem dX12_wouldBe_8 : decode cX12_wouldBe 8 = .ok (.iconst 0, 1) := by decide +kernel
theorem dX12_wouldBe_9 : decode cX12_wouldBe 9 = .ok (.ireturn, 1) := by decide +kernel
theorem dX12_wouldBe_10 : decode cX12_wouldBe 10 = .ok (.aload_n 0, 1) := by decide +kernel
theorem dX12_wouldBe_11 : decode cX12_wouldBe 11 = .ok (.getfield 21, 3) := by decide +kernel
theorem dX12_wouldBe_14 : decode cX12_wouldBe 14 = .ok (.invokevirtual 186, 3) := by decide +kernel
theorem dX12_wouldBe_17 : decode cX12_wouldBe 17 = .ok (.astore_n 2, 1) := by decide +kernel
theorem dX12_wouldBe_18 : decode cX12_wouldBe 18 = .ok (.aload_n 2, 1) := by decide +kernel
theorem dX12_wouldBe_19 : decode cX12_wouldBe 19 = .ok (.iload_n 1, 1) := by decide +kernel
theorem dX12_wouldBe_20 : decode cX12_wouldBe 20 = .ok (.invokevirtual 134, 3) := by decide +kernel
theorem dX12_wouldBe_23 : decode cX12_wouldBe 23 = .ok (.pop, 1) := by decide +kernel
theorem dX12_wouldBe_24 : decode cX12_wouldBe 24 = .ok (.aload_n 2, 1) := by decide +kernel
theorem dX12_wouldBe_25 : decode cX12_wouldBe 25 = .ok (.getfield 126, 3) := by decide +kernel
theorem dX12_wouldBe_28 : decode cX12_wouldBe 28 = .ok (.ireturn, 1) := by decide +kernel
theorem dX12_open_0 : decode cX12_open 0 = .ok (.aload_n 0, 1) := by decide +kernel
theorem dX12_open_1 : decode cX12_open 1 = .ok (.aload_n 0, 1) := by decide +kernel
theorem dX12_open_2 : decode cX12_open 2 = .ok (.getfield 21, 3) := by decide +kernel
theorem dX12_open_5 : decode cX12_open 5 = .ok (.getfield 63, 3) := by decide +kernel
theorem dX12_open_8 : decode cX12_open 8 = .ok (.ifCond .ne 7, 3) := by decide +kernel
theorem dX12_open_11 : decode cX12_open 11 = .ok (.iconst 1, 1) := by decide +kernel
theorem dX12_open_12 : decode cX12_open 12 = .ok (.goto 4, 3) := by decide +kernel
theorem dX12_open_15 : decode cX12_open 15 = .ok (.iconst 0, 1) := by decide +kernel
theorem dX12_open_16 : decode cX12_open 16 = .ok (.iconst 1, 1) := by decide +kernel
theorem dX12_open_17 : decode cX12_open 17 = .ok (.invokevirtual 67, 3) := by decide +kernel
theorem dX12_open_20 : decode cX12_open 20 = .ok (.ifCond .eq 5, 3) := by decide +kernel
theorem dX12_open_23 : decode cX12_open 23 = .ok (.iconst 0, 1) := by decide +kernel
theorem dX12_open_24 : decode cX12_open 24 = .ok (.ireturn, 1) := by decide +kernel
theorem dX12_open_25 : decode cX12_open 25 = .ok (.iconst 0, 1) := by decide +kernel
theorem dX12_open_26 : decode cX12_open 26 = .ok (.istore_n 1, 1) := by decide +kernel
theorem dX12_open_27 : decode cX12_open 27 = .ok (.iconst 0, 1) := by decide +kernel
theorem dX12_open_28 : decode cX12_open 28 = .ok (.istore_n 2, 1) := by decide +kernel
theorem dX12_open_29 : decode cX12_open 29 = .ok (.iload_n 2, 1) := by decide +kernel
theorem dX12_open_30 : decode cX12_open 30 = .ok (.bipush 10, 2) := by decide +kernel
theorem dX12_open_32 : decode cX12_open 32 = .ok (.if_icmp .ge 67, 3) := by decide +kernel
theorem dX12_open_35 : decode cX12_open 35 = .ok (.iconst 0, 1) := by decide +kernel
theorem dX12_open_36 : decode cX12_open 36 = .ok (.istore_n 3, 1) := by decide +kernel
theorem dX12_open_37 : decode cX12_open 37 = .ok (.iload_n 3, 1) := by decide +kernel
theorem dX12_open_38 : decode cX12_open 38 = .ok (.aload_n 0, 1) := by decide +kernel
theorem dX12_open_39 : decode cX12_open 39 = .ok (.getfield 10, 3) := by decide +kernel
theorem dX12_open_42 : decode cX12_open 42 = .ok (.getfield 60, 3) := by decide +kernel
theorem dX12_open_45 : decode cX12_open 45 = .ok (.invokevirtual 52, 3) := by decide +kernel
theorem dX12_open_48 : decode cX12_open 48 = .ok (.if_icmp .ge 45, 3) := by decide +kernel
theorem dX12_open_51 : decode cX12_open 51 = .ok (.iload_n 1, 1) := by decide +kernel
theorem dX12_open_52 : decode cX12_open 52 = .ok (.aload_n 0, 1) := by decide +kernel
theorem dX12_open_53 : decode cX12_open 53 = .ok (.getfield 21, 3) := by decide +kernel
theorem dX12_open_56 : decode cX12_open 56 = .ok (.aload_n 0, 1) := by decide +kernel
theorem dX12_open_57 : decode cX12_open 57 = .ok (.getfield 10, 3) := by decide +kernel
theorem dX12_open_60 : decode cX12_open 60 = .ok (.getfield 60, 3) := by decide +kernel
theorem dX12_open_63 : decode cX12_open 63 = .ok (.iload_n 3, 1) := by decide +kernel
theorem dX12_open_64 : decode cX12_open 64 = .ok (.invokevirtual 74, 3) := by decide +kernel
theorem dX12_open_67 : decode cX12_open 67 = .ok (.checkcast 110, 3) := by decide +kernel
theorem dX12_open_70 : decode cX12_open 70 = .ok (.iconst 0, 1) := by decide +kernel
theorem dX12_open_71 : decode cX12_open 71 = .ok (.iload_n 2, 1) := by decide +kernel
theorem dX12_open_72 : decode cX12_open 72 = .ok (.invokevirtual 190, 3) := by decide +kernel
theorem dX12_open_75 : decode cX12_open 75 = .ok (.ifCond .eq 9, 3) := by decide +kernel
theorem dX12_open_78 : decode cX12_open 78 = .ok (.iconst 1, 1) := by decide +kernel
theorem dX12_open_79 : decode cX12_open 79 = .ok (.iload_n 2, 1) := by decide +kernel
theorem dX12_open_80 : decode cX12_open 80 = .ok (.ishl, 1) := by decide +kernel
theorem dX12_open_81 : decode cX12_open 81 = .ok (.goto 4, 3) := by decide +kernel
theorem dX12_open_84 : decode cX12_open 84 = .ok (.iconst 0, 1) := by decide +kernel
theorem dX12_open_85 : decode cX12_open 85 = .ok (.ior, 1) := by decide +kernel
theorem dX12_open_86 : decode cX12_open 86 = .ok (.istore_n 1, 1) := by decide +kernel
theorem dX12_open_87 : decode cX12_open 87 = .ok (.iinc 3 1, 3) := by decide +kernel
theorem dX12_open_90 : decode cX12_open 90 = .ok (.goto (-53), 3) := by decide +kernel
theorem dX12_open_93 : decode cX12_open 93 = .ok (.iinc 2 1, 3) := by decide +kernel
theorem dX12_open_96 : decode cX12_open 96 = .ok (.goto (-67), 3) := by decide +kernel
theorem dX12_open_99 : decode cX12_open 99 = .ok (.iload_n 1, 1) := by decide +kernel
theorem dX12_open_100 : decode cX12_open 100 = .ok (.ireturn, 1) := by decide +kernel
theorem dX12_rowTo_0 : decode cX12_rowTo 0 = .ok (.aload_n 0, 1) := by decide +kernel
theorem dX12_rowTo_1 : decode cX12_rowTo 1 = .ok (.aload_n 0, 1) := by decide +kernel
theorem dX12_rowTo_2 : decode cX12_rowTo 2 = .ok (.getfield 21, 3) := by decide +kernel
theorem dX12_rowTo_5 : decode cX12_rowTo 5 = .ok (.getfield 63, 3) := by decide +kernel
theorem dX12_rowTo_8 : decode cX12_rowTo 8 = .ok (.ifCond .ne 7, 3) := by decide +kernel
theorem dX12_rowTo_11 : decode cX12_rowTo 11 = .ok (.iconst 1, 1) := by decide +kernel
theorem dX12_rowTo_12 : decode cX12_rowTo 12 = .ok (.goto 4, 3) := by decide +kernel
theorem dX12_rowTo_15 : decode cX12_rowTo 15 = .ok (.iconst 0, 1) := by decide +kernel
theorem dX12_rowTo_16 : decode cX12_rowTo 16 = .ok (.iconst 1, 1) := by decide +kernel
theorem dX12_rowTo_17 : decode cX12_rowTo 17 = .ok (.invokevirtual 67, 3) := by decide +kernel
theorem dX12_rowTo_20 : decode cX12_rowTo 20 = .ok (.ifCond .ne 39, 3) := by decide +kernel
theorem dX12_rowTo_23 : decode cX12_rowTo 23 = .ok (.aload_n 0, 1) := by decide +kernel
theorem dX12_rowTo_24 : decode cX12_rowTo 24 = .ok (.aload_n 0, 1) := by decide +kernel
theorem dX12_rowTo_25 : decode cX12_rowTo 25 = .ok (.iload_n 1, 1) := by decide +kernel
theorem dX12_rowTo_26 : decode cX12_rowTo 26 = .ok (.invokevirtual 70, 3) := by decide +kernel
theorem dX12_rowTo_29 : decode cX12_rowTo 29 = .ok (.iconst 2, 1) := by decide +kernel
theorem dX12_rowTo_30 : decode cX12_rowTo 30 = .ok (.invokevirtual 48, 3) := by decide +kernel
theorem dX12_rowTo_33 : decode cX12_rowTo 33 = .ok (.ifCond .ne 26, 3) := by decide +kernel
theorem dX12_rowTo_36 : decode cX12_rowTo 36 = .ok (.aload_n 0, 1) := by decide +kernel
theorem dX12_rowTo_37 : decode cX12_rowTo 37 = .ok (.iload_n 2, 1) := by decide +kernel
theorem dX12_rowTo_38 : decode cX12_rowTo 38 = .ok (.iconst 1, 1) := by decide +kernel
theorem dX12_rowTo_39 : decode cX12_rowTo 39 = .ok (.bipush 8, 2) := by decide +kernel
theorem dX12_rowTo_41 : decode cX12_rowTo 41 = .ok (.invokestatic 56, 3) := by decide +kernel
theorem dX12_rowTo_44 : decode cX12_rowTo 44 = .ok (.ifCond .ne 7, 3) := by decide +kernel
theorem dX12_rowTo_47 : decode cX12_rowTo 47 = .ok (.iconst 1, 1) := by decide +kernel
theorem dX12_rowTo_48 : decode cX12_rowTo 48 = .ok (.goto 4, 3) := by decide +kernel
theorem dX12_rowTo_51 : decode cX12_rowTo 51 = .ok (.iconst 0, 1) := by decide +kernel
theorem dX12_rowTo_52 : decode cX12_rowTo 52 = .ok (.iconst 3, 1) := by decide +kernel
theorem dX12_rowTo_53 : decode cX12_rowTo 53 = .ok (.invokevirtual 48, 3) := by decide +kernel
theorem dX12_rowTo_56 : decode cX12_rowTo 56 = .ok (.ifCond .eq 7, 3) := by decide +kernel
theorem dX12_rowTo_59 : decode cX12_rowTo 59 = .ok (.iconst 0, 1) := by decide +kernel
theorem dX12_rowTo_60 : decode cX12_rowTo 60 = .ok (.goto 10, 3) := by decide +kernel
theorem dX12_rowTo_63 : decode cX12_rowTo 63 = .ok (.aload_n 0, 1) := by decide +kernel
theorem dX12_rowTo_64 : decode cX12_rowTo 64 = .ok (.iload_n 1, 1) := by decide +kernel
theorem dX12_rowTo_65 : decode cX12_rowTo 65 = .ok (.iconst (-1), 1) := by decide +kernel
theorem dX12_rowTo_66 : decode cX12_rowTo 66 = .ok (.iload_n 2, 1) := by decide +kernel
theorem dX12_rowTo_67 : decode cX12_rowTo 67 = .ok (.invokevirtual 212, 3) := by decide +kernel
theorem dX12_rowTo_70 : decode cX12_rowTo 70 = .ok (.ireturn, 1) := by decide +kernel
theorem dX12_rowFor_0 : decode cX12_rowFor 0 = .ok (.aload_n 0, 1) := by decide +kernel
theorem dX12_rowFor_1 : decode cX12_rowFor 1 = .ok (.aload_n 0, 1) := by decide +kernel
theorem dX12_rowFor_2 : decode cX12_rowFor 2 = .ok (.getfield 21, 3) := by decide +kernel
theorem dX12_rowFor_5 : decode cX12_rowFor 5 = .ok (.getfield 63, 3) := by decide +kernel
theorem dX12_rowFor_8 : decode cX12_rowFor 8 = .ok (.ifCond .ne 7, 3) := by decide +kernel
theorem dX12_rowFor_11 : decode cX12_rowFor 11 = .ok (.iconst 1, 1) := by decide +kernel
theorem dX12_rowFor_12 : decode cX12_rowFor 12 = .ok (.goto 4, 3) := by decide +kernel
theorem dX12_rowFor_15 : decode cX12_rowFor 15 = .ok (.iconst 0, 1) := by decide +kernel
theorem dX12_rowFor_16 : decode cX12_rowFor 16 = .ok (.iconst 1, 1) := by decide +kernel
theorem dX12_rowFor_17 : decode cX12_rowFor 17 = .ok (.invokevirtual 67, 3) := by decide +kernel
theorem dX12_rowFor_20 : decode cX12_rowFor 20 = .ok (.ifCond .ne 39, 3) := by decide +kernel
theorem dX12_rowFor_23 : decode cX12_rowFor 23 = .ok (.aload_n 0, 1) := by decide +kernel
theorem dX12_rowFor_24 : decode cX12_rowFor 24 = .ok (.aload_n 0, 1) := by decide +kernel
theorem dX12_rowFor_25 : decode cX12_rowFor 25 = .ok (.iload_n 1, 1) := by decide +kernel
theorem dX12_rowFor_26 : decode cX12_rowFor 26 = .ok (.invokevirtual 115, 3) := by decide +kernel
theorem dX12_rowFor_29 : decode cX12_rowFor 29 = .ok (.iconst 2, 1) := by decide +kernel
theorem dX12_rowFor_30 : decode cX12_rowFor 30 = .ok (.invokevirtual 48, 3) := by decide +kernel
theorem dX12_rowFor_33 : decode cX12_rowFor 33 = .ok (.ifCond .ne 26, 3) := by decide +kernel
theorem dX12_rowFor_36 : decode cX12_rowFor 36 = .ok (.aload_n 0, 1) := by decide +kernel
theorem dX12_rowFor_37 : decode cX12_rowFor 37 = .ok (.iload_n 2, 1) := by decide +kernel
theorem dX12_rowFor_38 : decode cX12_rowFor 38 = .ok (.iconst 1, 1) := by decide +kernel
theorem dX12_rowFor_39 : decode cX12_rowFor 39 = .ok (.bipush 8, 2) := by decide +kernel
theorem dX12_rowFor_41 : decode cX12_rowFor 41 = .ok (.invokestatic 56, 3) := by decide +kernel
theorem dX12_rowFor_44 : decode cX12_rowFor 44 = .ok (.ifCond .ne 7, 3) := by decide +kernel
theorem dX12_rowFor_47 : decode cX12_rowFor 47 = .ok (.iconst 1, 1) := by decide +kernel
theorem dX12_rowFor_48 : decode cX12_rowFor 48 = .ok (.goto 4, 3) := by decide +kernel
theorem dX12_rowFor_51 : decode cX12_rowFor 51 = .ok (.iconst 0, 1) := by decide +kernel
theorem dX12_rowFor_52 : decode cX12_rowFor 52 = .ok (.iconst 3, 1) := by decide +kernel
theorem dX12_rowFor_53 : decode cX12_rowFor 53 = .ok (.invokevirtual 48, 3) := by decide +kernel
theorem dX12_rowFor_56 : decode cX12_rowFor 56 = .ok (.ifCond .eq 7, 3) := by decide +kernel
theorem dX12_rowFor_59 : decode cX12_rowFor 59 = .ok (.iconst 0, 1) := by decide +kernel
theorem dX12_rowFor_60 : decode cX12_rowFor 60 = .ok (.goto 10, 3) := by decide +kernel
theorem dX12_rowFor_63 : decode cX12_rowFor 63 = .ok (.aload_n 0, 1) := by decide +kernel
theorem dX12_rowFor_64 : decode cX12_rowFor 64 = .ok (.iconst (-1), 1) := by decide +kernel
theorem dX12_rowFor_65 : decode cX12_rowFor 65 = .ok (.iload_n 1, 1) := by decide +kernel
theorem dX12_rowFor_66 : decode cX12_rowFor 66 = .ok (.iload_n 2, 1) := by decide +kernel
theorem dX12_rowFor_67 : decode cX12_rowFor 67 = .ok (.invokevirtual 212, 3) := by decide +kernel
theorem dX12_rowFor_70 : decode cX12_rowFor 70 = .ok (.ireturn, 1) := by decide +kernel
theorem dX12_rowed_0 : decode cX12_rowed 0 = .ok (.iload_n 1, 1) := by decide +kernel
theorem dX12_rowed_1 : decode cX12_rowed 1 = .ok (.ifCond .lt 21, 3) := by decide +kernel
theorem dX12_rowed_4 : decode cX12_rowed 4 = .ok (.iload_n 1, 1) := by decide +kernel
theorem dX12_rowed_5 : decode cX12_rowed 5 = .ok (.aload_n 0, 1) := by decide +kernel
theorem dX12_rowed_6 : decode cX12_rowed 6 = .ok (.getfield 25, 3) := by decide +kernel
theorem dX12_rowed_9 : decode cX12_rowed 9 = .ok (.arraylength, 1) := by decide +kernel
theorem dX12_rowed_10 : decode cX12_rowed 10 = .ok (.if_icmp .ge 12, 3) := by decide +kernel
theorem dX12_rowed_13 : decode cX12_rowed 13 = .ok (.aload_n 0, 1) := by decide +kernel
theorem dX12_rowed_14 : decode cX12_rowed 14 = .ok (.getfield 25, 3) := by decide +kernel
theorem dX12_rowed_17 : decode cX12_rowed 17 = .ok (.iload_n 1, 1) := by decide +kernel
theorem dX12_rowed_18 : decode cX12_rowed 18 = .ok (.iaload, 1) := by decide +kernel
theorem dX12_rowed_19 : decode cX12_rowed 19 = .ok (.goto 4, 3) := by decide +kernel
theorem dX12_rowed_22 : decode cX12_rowed 22 = .ok (.iconst (-1), 1) := by decide +kernel
theorem dX12_rowed_23 : decode cX12_rowed 23 = .ok (.ireturn, 1) := by decide +kernel
theorem dX12_rowAt_0 : decode cX12_rowAt 0 = .ok (.aload_n 0, 1) := by decide +kernel
theorem dX12_rowAt_1 : decode cX12_rowAt 1 = .ok (.aload_n 0, 1) := by decide +kernel
theorem dX12_rowAt_2 : decode cX12_rowAt 2 = .ok (.iload_n 1, 1) := by decide +kernel
theorem dX12_rowAt_3 : decode cX12_rowAt 3 = .ok (.invokevirtual 216, 3) := by decide +kernel
theorem dX12_rowAt_6 : decode cX12_rowAt 6 = .ok (.invokevirtual 140, 3) := by decide +kernel
theorem dX12_rowAt_9 : decode cX12_rowAt 9 = .ok (.ireturn, 1) := by decide +kernel
theorem dX12_looked_0 : decode cX12_looked 0 = .ok (.aload_n 0, 1) := by decide +kernel
theorem dX12_looked_1 : decode cX12_looked 1 = .ok (.aload_n 0, 1) := by decide +kernel
theorem dX12_looked_2 : decode cX12_looked 2 = .ok (.getfield 194, 3) := by decide +kernel
theorem dX12_looked_5 : decode cX12_looked 5 = .ok (.invokevirtual 140, 3) := by decide +kernel
theorem dX12_looked_8 : decode cX12_looked 8 = .ok (.ireturn, 1) := by decide +kernel
theorem dX12_meanAge_0 : decode cX12_meanAge 0 = .ok (.aload_n 0, 1) := by decide +kernel
theorem dX12_meanAge_1 : decode cX12_meanAge 1 = .ok (.iconst 0, 1) := by decide +kernel
theorem dX12_meanAge_2 : decode cX12_meanAge 2 = .ok (.putfield 44, 3) := by decide +kernel
theorem dX12_meanAge_5 : decode cX12_meanAge 5 = .ok (.iconst 0, 1) := by decide +kernel
theorem dX12_meanAge_6 : decode cX12_meanAge 6 = .ok (.istore_n 1, 1) := by decide +kernel
theorem dX12_meanAge_7 : decode cX12_meanAge 7 = .ok (.iconst 0, 1) := by decide +kernel
theorem dX12_meanAge_8 : decode cX12_meanAge 8 = .ok (.istore_n 2, 1) := by decide +kernel
theorem dX12_meanAge_9 : decode cX12_meanAge 9 = .ok (.iload_n 2, 1) := by decide +kernel
theorem dX12_meanAge_10 : decode cX12_meanAge 10 = .ok (.aload_n 0, 1) := by decide +kernel
theorem dX12_meanAge_11 : decode cX12_meanAge 11 = .ok (.getfield 10, 3) := by decide +kernel
theorem dX12_meanAge_14 : decode cX12_meanAge 14 = .ok (.getfield 29, 3) := by decide +kernel
theorem dX12_meanAge_17 : decode cX12_meanAge 17 = .ok (.invokevirtual 52, 3) := by decide +kernel
theorem dX12_meanAge_20 : decode cX12_meanAge 20 = .ok (.if_icmp .ge 39, 3) := by decide +kernel
theorem dX12_meanAge_23 : decode cX12_meanAge 23 = .ok (.iload_n 1, 1) := by decide +kernel
theorem dX12_meanAge_24 : decode cX12_meanAge 24 = .ok (.aload_n 0, 1) := by decide +kernel
theorem dX12_meanAge_25 : decode cX12_meanAge 25 = .ok (.getfield 21, 3) := by decide +kernel
theorem dX12_meanAge_28 : decode cX12_meanAge 28 = .ok (.getfield 126, 3) := by decide +kernel
theorem dX12_meanAge_31 : decode cX12_meanAge 31 = .ok (.iload_n 2, 1) := by decide +kernel
theorem dX12_meanAge_32 : decode cX12_meanAge 32 = .ok (.invokestatic 89, 3) := by decide +kernel
theorem dX12_meanAge_35 : decode cX12_meanAge 35 = .ok (.ifCond .eq 15, 3) := by decide +kernel
theorem dX12_meanAge_38 : decode cX12_meanAge 38 = .ok (.aload_n 0, 1) := by decide +kernel
theorem dX12_meanAge_39 : decode cX12_meanAge 39 = .ok (.getfield 21, 3) := by decide +kernel
theorem dX12_meanAge_42 : decode cX12_meanAge 42 = .ok (.getfield 156, 3) := by decide +kernel
theorem dX12_meanAge_45 : decode cX12_meanAge 45 = .ok (.iload_n 2, 1) := by decide +kernel
theorem dX12_meanAge_46 : decode cX12_meanAge 46 = .ok (.iaload, 1) := by decide +kernel
theorem dX12_meanAge_47 : decode cX12_meanAge 47 = .ok (.goto 4, 3) := by decide +kernel
theorem dX12_meanAge_50 : decode cX12_meanAge 50 = .ok (.iconst 0, 1) := by decide +kernel
theorem dX12_meanAge_51 : decode cX12_meanAge 51 = .ok (.iadd, 1) := by decide +kernel
theorem dX12_meanAge_52 : decode cX12_meanAge 52 = .ok (.istore_n 1, 1) := by decide +kernel
theorem dX12_meanAge_53 : decode cX12_meanAge 53 = .ok (.iinc 2 1, 3) := by decide +kernel
theorem dX12_meanAge_56 : decode cX12_meanAge 56 = .ok (.goto (-47), 3) := by decide +kernel
theorem dX12_meanAge_59 : decode cX12_meanAge 59 = .ok (.aload_n 0, 1) := by decide +kernel
theorem dX12_meanAge_60 : decode cX12_meanAge 60 = .ok (.getfield 21, 3) := by decide +kernel
theorem dX12_meanAge_63 : decode cX12_meanAge 63 = .ok (.getfield 126, 3) := by decide +kernel
theorem dX12_meanAge_66 : decode cX12_meanAge 66 = .ok (.ifCond .ne 7, 3) := by decide +kernel
theorem dX12_meanAge_69 : decode cX12_meanAge 69 = .ok (.dconst 0, 1) := by decide +kernel
theorem dX12_meanAge_70 : decode cX12_meanAge 70 = .ok (.goto 17, 3) := by decide +kernel
theorem dX12_meanAge_73 : decode cX12_meanAge 73 = .ok (.iload_n 1, 1) := by decide +kernel
theorem dX12_meanAge_74 : decode cX12_meanAge 74 = .ok (.i2d, 1) := by decide +kernel
theorem dX12_meanAge_75 : decode cX12_meanAge 75 = .ok (.aload_n 0, 1) := by decide +kernel
theorem dX12_meanAge_76 : decode cX12_meanAge 76 = .ok (.getfield 21, 3) := by decide +kernel
theorem dX12_meanAge_79 : decode cX12_meanAge 79 = .ok (.getfield 126, 3) := by decide +kernel
theorem dX12_meanAge_82 : decode cX12_meanAge 82 = .ok (.invokestatic 129, 3) := by decide +kernel
theorem dX12_meanAge_85 : decode cX12_meanAge 85 = .ok (.i2d, 1) := by decide +kernel
theorem dX12_meanAge_86 : decode cX12_meanAge 86 = .ok (.ddiv, 1) := by decide +kernel
theorem dX12_meanAge_87 : decode cX12_meanAge 87 = .ok (.dreturn, 1) := by decide +kernel
theorem dX12_add_0 : decode cX12_add 0 = .ok (.lload_n 0, 1) := by decide +kernel
theorem dX12_add_1 : decode cX12_add 1 = .ok (.ldc2_w 219, 3) := by decide +kernel
theorem dX12_add_4 : decode cX12_add 4 = .ok (.lmul, 1) := by decide +kernel
theorem dX12_add_5 : decode cX12_add 5 = .ok (.lload_n 2, 1) := by decide +kernel
theorem dX12_add_6 : decode cX12_add 6 = .ok (.ladd, 1) := by decide +kernel
theorem dX12_add_7 : decode cX12_add 7 = .ok (.lreturn, 1) := by decide +kernel
theorem dX12_digest_0 : decode cX12_digest 0 = .ok (.aload_n 0, 1) := by decide +kernel
theorem dX12_digest_1 : decode cX12_digest 1 = .ok (.iconst 0, 1) := by decide +kernel
theorem dX12_digest_2 : decode cX12_digest 2 = .ok (.putfield 44, 3) := by decide +kernel
theorem dX12_digest_5 : decode cX12_digest 5 = .ok (.ldc2_w 221, 3) := by decide +kernel
theorem dX12_digest_8 : decode cX12_digest 8 = .ok (.aload_n 0, 1) := by decide +kernel
theorem dX12_digest_9 : decode cX12_digest 9 = .ok (.getfield 10, 3) := by decide +kernel
theorem dX12_digest_12 : decode cX12_digest 12 = .ok (.getfield 29, 3) := by decide +kernel
theorem dX12_digest_15 : decode cX12_digest 15 = .ok (.invokevirtual 52, 3) := by decide +kernel
theorem dX12_digest_18 : decode cX12_digest 18 = .ok (.i2l, 1) := by decide +kernel
theorem dX12_digest_19 : decode cX12_digest 19 = .ok (.invokestatic 223, 3) := by decide +kernel
theorem dX12_digest_22 : decode cX12_digest 22 = .ok (.aload_n 0, 1) := by decide +kernel
theorem dX12_digest_23 : decode cX12_digest 23 = .ok (.getfield 10, 3) := by decide +kernel
theorem dX12_digest_26 : decode cX12_digest 26 = .ok (.getfield 60, 3) := by decide +kernel
theorem dX12_digest_29 : decode cX12_digest 29 = .ok (.invokevirtual 52, 3) := by decide +kernel
theorem dX12_digest_32 : decode cX12_digest 32 = .ok (.i2l, 1) := by decide +kernel
theorem dX12_digest_33 : decode cX12_digest 33 = .ok (.invokestatic 223, 3) := by decide +kernel
theorem dX12_digest_36 : decode cX12_digest 36 = .ok (.aload_n 0, 1) := by decide +kernel
theorem dX12_digest_37 : decode cX12_digest 37 = .ok (.getfield 21, 3) := by decide +kernel
theorem dX12_digest_40 : decode cX12_digest 40 = .ok (.getfield 63, 3) := by decide +kernel
theorem dX12_digest_43 : decode cX12_digest 43 = .ok (.ifCond .eq 7, 3) := by decide +kernel
theorem dX12_digest_46 : decode cX12_digest 46 = .ok (.lconst 1, 1) := by decide +kernel
theorem dX12_digest_47 : decode cX12_digest 47 = .ok (.goto 4, 3) := by decide +kernel
theorem dX12_digest_50 : decode cX12_digest 50 = .ok (.lconst 0, 1) := by decide +kernel
theorem dX12_digest_51 : decode cX12_digest 51 = .ok (.invokestatic 223, 3) := by decide +kernel
theorem dX12_digest_54 : decode cX12_digest 54 = .ok (.aload_n 0, 1) := by decide +kernel
theorem dX12_digest_55 : decode cX12_digest 55 = .ok (.getfield 21, 3) := by decide +kernel
theorem dX12_digest_58 : decode cX12_digest 58 = .ok (.getfield 126, 3) := by decide +kernel
theorem dX12_digest_61 : decode cX12_digest 61 = .ok (.i2l, 1) := by decide +kernel
theorem dX12_digest_62 : decode cX12_digest 62 = .ok (.invokestatic 223, 3) := by decide +kernel
theorem dX12_digest_65 : decode cX12_digest 65 = .ok (.lstore_n 1, 1) := by decide +kernel
theorem dX12_digest_66 : decode cX12_digest 66 = .ok (.lload_n 1, 1) := by decide +kernel
theorem dX12_digest_67 : decode cX12_digest 67 = .ok (.aload_n 0, 1) := by decide +kernel
theorem dX12_digest_68 : decode cX12_digest 68 = .ok (.getfield 21, 3) := by decide +kernel
theorem dX12_digest_71 : decode cX12_digest 71 = .ok (.getfield 63, 3) := by decide +kernel
theorem dX12_digest_74 : decode cX12_digest 74 = .ok (.ifCond .eq 17, 3) := by decide +kernel
theorem dX12_digest_77 : decode cX12_digest 77 = .ok (.aload_n 0, 1) := by decide +kernel
theorem dX12_digest_78 : decode cX12_digest 78 = .ok (.getfield 21, 3) := by decide +kernel
theorem dX12_digest_81 : decode cX12_digest 81 = .ok (.invokevirtual 150, 3) := by decide +kernel
theorem dX12_digest_84 : decode cX12_digest 84 = .ok (.ifCond .eq 7, 3) := by decide +kernel
theorem dX12_digest_87 : decode cX12_digest 87 = .ok (.lconst 1, 1) := by decide +kernel
theorem dX12_digest_88 : decode cX12_digest 88 = .ok (.goto 4, 3) := by decide +kernel
theorem dX12_digest_91 : decode cX12_digest 91 = .ok (.lconst 0, 1) := by decide +kernel
theorem dX12_digest_92 : decode cX12_digest 92 = .ok (.invokestatic 223, 3) := by decide +kernel
theorem dX12_digest_95 : decode cX12_digest 95 = .ok (.aload_n 0, 1) := by decide +kernel
theorem dX12_digest_96 : decode cX12_digest 96 = .ok (.getfield 21, 3) := by decide +kernel
theorem dX12_digest_99 : decode cX12_digest 99 = .ok (.getfield 168, 3) := by decide +kernel
theorem dX12_digest_102 : decode cX12_digest 102 = .ok (.i2l, 1) := by decide +kernel
theorem dX12_digest_103 : decode cX12_digest 103 = .ok (.invokestatic 223, 3) := by decide +kernel
theorem dX12_digest_106 : decode cX12_digest 106 = .ok (.aload_n 0, 1) := by decide +kernel
theorem dX12_digest_107 : decode cX12_digest 107 = .ok (.invokevirtual 174, 3) := by decide +kernel
theorem dX12_digest_110 : decode cX12_digest 110 = .ok (.i2l, 1) := by decide +kernel
theorem dX12_digest_111 : decode cX12_digest 111 = .ok (.invokestatic 223, 3) := by decide +kernel
theorem dX12_digest_114 : decode cX12_digest 114 = .ok (.aload_n 0, 1) := by decide +kernel
theorem dX12_digest_115 : decode cX12_digest 115 = .ok (.getfield 21, 3) := by decide +kernel
theorem dX12_digest_118 : decode cX12_digest 118 = .ok (.getfield 177, 3) := by decide +kernel
theorem dX12_digest_121 : decode cX12_digest 121 = .ok (.i2l, 1) := by decide +kernel
theorem dX12_digest_122 : decode cX12_digest 122 = .ok (.invokestatic 223, 3) := by decide +kernel
theorem dX12_digest_125 : decode cX12_digest 125 = .ok (.aload_n 0, 1) := by decide +kernel
theorem dX12_digest_126 : decode cX12_digest 126 = .ok (.getfield 21, 3) := by decide +kernel
theorem dX12_digest_129 : decode cX12_digest 129 = .ok (.getfield 180, 3) := by decide +kernel
theorem dX12_digest_132 : decode cX12_digest 132 = .ok (.i2l, 1) := by decide +kernel
theorem dX12_digest_133 : decode cX12_digest 133 = .ok (.invokestatic 223, 3) := by decide +kernel
theorem dX12_digest_136 : decode cX12_digest 136 = .ok (.aload_n 0, 1) := by decide +kernel
theorem dX12_digest_137 : decode cX12_digest 137 = .ok (.getfield 194, 3) := by decide +kernel
theorem dX12_digest_140 : decode cX12_digest 140 = .ok (.i2l, 1) := by decide +kernel
theorem dX12_digest_141 : decode cX12_digest 141 = .ok (.invokestatic 223, 3) := by decide +kernel
theorem dX12_digest_144 : decode cX12_digest 144 = .ok (.lstore_n 1, 1) := by decide +kernel
theorem dX12_digest_145 : decode cX12_digest 145 = .ok (.iconst 0, 1) := by decide +kernel
theorem dX12_digest_146 : decode cX12_digest 146 = .ok (.istore_n 3, 1) := by decide +kernel
theorem dX12_digest_147 : decode cX12_digest 147 = .ok (.iload_n 3, 1) := by decide +kernel
theorem dX12_digest_148 : decode cX12_digest 148 = .ok (.aload_n 0, 1) := by decide +kernel
theorem dX12_digest_149 : decode cX12_digest 149 = .ok (.getfield 10, 3) := by decide +kernel
theorem dX12_digest_152 : decode cX12_digest 152 = .ok (.getfield 29, 3) := by decide +kernel
theorem dX12_digest_155 : decode cX12_digest 155 = .ok (.invokevirtual 52, 3) := by decide +kernel
theorem dX12_digest_158 : decode cX12_digest 158 = .ok (.if_icmp .ge 102, 3) := by decide +kernel
theorem dX12_digest_161 : decode cX12_digest 161 = .ok (.iconst 0, 1) := by decide +kernel
theorem dX12_digest_162 : decode cX12_digest 162 = .ok (.istore 4, 2) := by decide +kernel
theorem dX12_digest_164 : decode cX12_digest 164 = .ok (.iload 4, 2) := by decide +kernel
theorem dX12_digest_166 : decode cX12_digest 166 = .ok (.iconst 4, 1) := by decide +kernel
theorem dX12_digest_167 : decode cX12_digest 167 = .ok (.if_icmp .ge 22, 3) := by decide +kernel
theorem dX12_digest_170 : decode cX12_digest 170 = .ok (.lload_n 1, 1) := by decide +kernel
theorem dX12_digest_171 : decode cX12_digest 171 = .ok (.aload_n 0, 1) := by decide +kernel
theorem dX12_digest_172 : decode cX12_digest 172 = .ok (.iload_n 3, 1) := by decide +kernel
theorem dX12_digest_173 : decode cX12_digest 173 = .ok (.iload 4, 2) := by decide +kernel
theorem dX12_digest_175 : decode cX12_digest 175 = .ok (.invokevirtual 146, 3) := by decide +kernel
theorem dX12_digest_178 : decode cX12_digest 178 = .ok (.i2l, 1) := by decide +kernel
theorem dX12_digest_179 : decode cX12_digest 179 = .ok (.invokestatic 223, 3) := by decide +kernel
theorem dX12_digest_182 : decode cX12_digest 182 = .ok (.lstore_n 1, 1) := by decide +kernel
theorem dX12_digest_183 : decode cX12_digest 183 = .ok (.iinc 4 1, 3) := by decide +kernel
theorem dX12_digest_186 : decode cX12_digest 186 = .ok (.goto (-22), 3) := by decide +kernel
theorem dX12_digest_189 : decode cX12_digest 189 = .ok (.lload_n 1, 1) := by decide +kernel
theorem dX12_digest_190 : decode cX12_digest 190 = .ok (.aload_n 0, 1) := by decide +kernel
theorem dX12_digest_191 : decode cX12_digest 191 = .ok (.getfield 21, 3) := by decide +kernel
theorem dX12_digest_194 : decode cX12_digest 194 = .ok (.iload_n 3, 1) := by decide +kernel
theorem dX12_digest_195 : decode cX12_digest 195 = .ok (.invokevirtual 153, 3) := by decide +kernel
theorem dX12_digest_198 : decode cX12_digest 198 = .ok (.ifCond .eq 7, 3) := by decide +kernel
theorem dX12_digest_201 : decode cX12_digest 201 = .ok (.lconst 1, 1) := by decide +kernel
theorem dX12_digest_202 : decode cX12_digest 202 = .ok (.goto 4, 3) := by decide +kernel
theorem dX12_digest_205 : decode cX12_digest 205 = .ok (.lconst 0, 1) := by decide +kernel
theorem dX12_digest_206 : decode cX12_digest 206 = .ok (.invokestatic 223, 3) := by decide +kernel
theorem dX12_digest_209 : decode cX12_digest 209 = .ok (.aload_n 0, 1) := by decide +kernel
theorem dX12_digest_210 : decode cX12_digest 210 = .ok (.iload_n 3, 1) := by decide +kernel
theorem dX12_digest_211 : decode cX12_digest 211 = .ok (.invokevirtual 159, 3) := by decide +kernel
theorem dX12_digest_214 : decode cX12_digest 214 = .ok (.i2l, 1) := by decide +kernel
theorem dX12_digest_215 : decode cX12_digest 215 = .ok (.invokestatic 223, 3) := by decide +kernel
theorem dX12_digest_218 : decode cX12_digest 218 = .ok (.lstore_n 1, 1) := by decide +kernel
theorem dX12_digest_219 : decode cX12_digest 219 = .ok (.aload_n 0, 1) := by decide +kernel
theorem dX12_digest_220 : decode cX12_digest 220 = .ok (.getfield 10, 3) := by decide +kernel
theorem dX12_digest_223 : decode cX12_digest 223 = .ok (.getfield 29, 3) := by decide +kernel
theorem dX12_digest_226 : decode cX12_digest 226 = .ok (.iload_n 3, 1) := by decide +kernel
theorem dX12_digest_227 : decode cX12_digest 227 = .ok (.invokevirtual 74, 3) := by decide +kernel
theorem dX12_digest_230 : decode cX12_digest 230 = .ok (.checkcast 33, 3) := by decide +kernel
theorem dX12_digest_233 : decode cX12_digest 233 = .ok (.invokevirtual 98, 3) := by decide +kernel
theorem dX12_digest_236 : decode cX12_digest 236 = .ok (.ifCond .eq 18, 3) := by decide +kernel
theorem dX12_digest_239 : decode cX12_digest 239 = .ok (.lload_n 1, 1) := by decide +kernel
theorem dX12_digest_240 : decode cX12_digest 240 = .ok (.aload_n 0, 1) := by decide +kernel
theorem dX12_digest_241 : decode cX12_digest 241 = .ok (.getfield 21, 3) := by decide +kernel
theorem dX12_digest_244 : decode cX12_digest 244 = .ok (.getfield 162, 3) := by decide +kernel
theorem dX12_digest_247 : decode cX12_digest 247 = .ok (.iload_n 3, 1) := by decide +kernel
theorem dX12_digest_248 : decode cX12_digest 248 = .ok (.iaload, 1) := by decide +kernel
theorem dX12_digest_249 : decode cX12_digest 249 = .ok (.i2l, 1) := by decide +kernel
theorem dX12_digest_250 : decode cX12_digest 250 = .ok (.invokestatic 223, 3) := by decide +kernel
theorem dX12_digest_253 : decode cX12_digest 253 = .ok (.lstore_n 1, 1) := by decide +kernel
theorem dX12_digest_254 : decode cX12_digest 254 = .ok (.iinc 3 1, 3) := by decide +kernel
theorem dX12_digest_257 : decode cX12_digest 257 = .ok (.goto (-110), 3) := by decide +kernel
theorem dX12_digest_260 : decode cX12_digest 260 = .ok (.iconst 0, 1) := by decide +kernel
theorem dX12_digest_261 : decode cX12_digest 261 = .ok (.istore_n 3, 1) := by decide +kernel
theorem dX12_digest_262 : decode cX12_digest 262 = .ok (.iload_n 3, 1) := by decide +kernel
theorem dX12_digest_263 : decode cX12_digest 263 = .ok (.iconst 4, 1) := by decide +kernel
theorem dX12_digest_264 : decode cX12_digest 264 = .ok (.if_icmp .ge 24, 3) := by decide +kernel
theorem dX12_digest_267 : decode cX12_digest 267 = .ok (.lload_n 1, 1) := by decide +kernel
theorem dX12_digest_268 : decode cX12_digest 268 = .ok (.aload_n 0, 1) := by decide +kernel
theorem dX12_digest_269 : decode cX12_digest 269 = .ok (.getfield 21, 3) := by decide +kernel
theorem dX12_digest_272 : decode cX12_digest 272 = .ok (.getfield 165, 3) := by decide +kernel
theorem dX12_digest_275 : decode cX12_digest 275 = .ok (.iload_n 3, 1) := by decide +kernel
theorem dX12_digest_276 : decode cX12_digest 276 = .ok (.iaload, 1) := by decide +kernel
theorem dX12_digest_277 : decode cX12_digest 277 = .ok (.i2l, 1) := by decide +kernel
theorem dX12_digest_278 : decode cX12_digest 278 = .ok (.invokestatic 223, 3) := by decide +kernel
theorem dX12_digest_281 : decode cX12_digest 281 = .ok (.lstore_n 1, 1) := by decide +kernel
theorem dX12_digest_282 : decode cX12_digest 282 = .ok (.iinc 3 1, 3) := by decide +kernel
theorem dX12_digest_285 : decode cX12_digest 285 = .ok (.goto (-23), 3) := by decide +kernel
theorem dX12_digest_288 : decode cX12_digest 288 = .ok (.iconst 0, 1) := by decide +kernel
theorem dX12_digest_289 : decode cX12_digest 289 = .ok (.istore_n 3, 1) := by decide +kernel
theorem dX12_digest_290 : decode cX12_digest 290 = .ok (.iload_n 3, 1) := by decide +kernel
theorem dX12_digest_291 : decode cX12_digest 291 = .ok (.aload_n 0, 1) := by decide +kernel
theorem dX12_digest_292 : decode cX12_digest 292 = .ok (.getfield 10, 3) := by decide +kernel
theorem dX12_digest_295 : decode cX12_digest 295 = .ok (.getfield 60, 3) := by decide +kernel
theorem dX12_digest_298 : decode cX12_digest 298 = .ok (.invokevirtual 52, 3) := by decide +kernel
theorem dX12_digest_301 : decode cX12_digest 301 = .ok (.if_icmp .ge 24, 3) := by decide +kernel
theorem dX12_digest_304 : decode cX12_digest 304 = .ok (.lload_n 1, 1) := by decide +kernel
theorem dX12_digest_305 : decode cX12_digest 305 = .ok (.aload_n 0, 1) := by decide +kernel
theorem dX12_digest_306 : decode cX12_digest 306 = .ok (.getfield 21, 3) := by decide +kernel
theorem dX12_digest_309 : decode cX12_digest 309 = .ok (.getfield 171, 3) := by decide +kernel
theorem dX12_digest_312 : decode cX12_digest 312 = .ok (.iload_n 3, 1) := by decide +kernel
theorem dX12_digest_313 : decode cX12_digest 313 = .ok (.iaload, 1) := by decide +kernel
theorem dX12_digest_314 : decode cX12_digest 314 = .ok (.i2l, 1) := by decide +kernel
theorem dX12_digest_315 : decode cX12_digest 315 = .ok (.invokestatic 223, 3) := by decide +kernel
theorem dX12_digest_318 : decode cX12_digest 318 = .ok (.lstore_n 1, 1) := by decide +kernel
theorem dX12_digest_319 : decode cX12_digest 319 = .ok (.iinc 3 1, 3) := by decide +kernel
theorem dX12_digest_322 : decode cX12_digest 322 = .ok (.goto (-32), 3) := by decide +kernel
theorem dX12_digest_325 : decode cX12_digest 325 = .ok (.iconst 0, 1) := by decide +kernel
theorem dX12_digest_326 : decode cX12_digest 326 = .ok (.istore_n 3, 1) := by decide +kernel
theorem dX12_digest_327 : decode cX12_digest 327 = .ok (.iload_n 3, 1) := by decide +kernel
theorem dX12_digest_328 : decode cX12_digest 328 = .ok (.bipush 8, 2) := by decide +kernel
theorem dX12_digest_330 : decode cX12_digest 330 = .ok (.if_icmp .ge 20, 3) := by decide +kernel
theorem dX12_digest_333 : decode cX12_digest 333 = .ok (.lload_n 1, 1) := by decide +kernel
theorem dX12_digest_334 : decode cX12_digest 334 = .ok (.aload_n 0, 1) := by decide +kernel
theorem dX12_digest_335 : decode cX12_digest 335 = .ok (.iload_n 3, 1) := by decide +kernel
theorem dX12_digest_336 : decode cX12_digest 336 = .ok (.invokevirtual 216, 3) := by decide +kernel
theorem dX12_digest_339 : decode cX12_digest 339 = .ok (.i2l, 1) := by decide +kernel
theorem dX12_digest_340 : decode cX12_digest 340 = .ok (.invokestatic 223, 3) := by decide +kernel
theorem dX12_digest_343 : decode cX12_digest 343 = .ok (.lstore_n 1, 1) := by decide +kernel
theorem dX12_digest_344 : decode cX12_digest 344 = .ok (.iinc 3 1, 3) := by decide +kernel
theorem dX12_digest_347 : decode cX12_digest 347 = .ok (.goto (-20), 3) := by decide +kernel
theorem dX12_digest_350 : decode cX12_digest 350 = .ok (.lload_n 1, 1) := by decide +kernel
theorem dX12_digest_351 : decode cX12_digest 351 = .ok (.lreturn, 1) := by decide +kernel
theorem dJxa1e45_init_da8c8_0 : decode cJxa1e45_init_da8c8 0 = .ok (.aload_n 0, 1) := by decide +kernel
theorem dJxa1e45_init_da8c8_1 : decode cJxa1e45_init_da8c8 1 = .ok (.invokespecial 1, 3) := by decide +kernel
theorem dJxa1e45_init_da8c8_4 : decode cJxa1e45_init_da8c8 4 = .ok (.return_, 1) := by decide +kernel
theorem dJxc12de_init_da8c8_0 : decode cJxc12de_init_da8c8 0 = .ok (.aload_n 0, 1) := by decide +kernel
theorem dJxc12de_init_da8c8_1 : decode cJxc12de_init_da8c8 1 = .ok (.invokespecial 1, 3) := by decide +kernel
theorem dJxc12de_init_da8c8_4 : decode cJxc12de_init_da8c8 4 = .ok (.aload_n 0, 1) := by decide +kernel
theorem dJxc12de_init_da8c8_5 : decode cJxc12de_init_da8c8 5 = .ok (.iconst 0, 1) := by decide +kernel
theorem dJxc12de_init_da8c8_6 : decode cJxc12de_init_da8c8 6 = .ok (.putfield 7, 3) := by decide +kernel
theorem dJxc12de_init_da8c8_9 : decode cJxc12de_init_da8c8 9 = .ok (.return_, 1) := by decide +kernel
theorem dJx4a65c_init_da8c8_0 : decode cJx4a65c_init_da8c8 0 = .ok (.aload_n 0, 1) := by decide +kernel
theorem dJx4a65c_init_da8c8_1 : decode cJx4a65c_init_da8c8 1 = .ok (.invokespecial 1, 3) := by decide +kernel
theorem dJx4a65c_init_da8c8_4 : decode cJx4a65c_init_da8c8 4 = .ok (.aload_n 0, 1) := by decide +kernel
theorem dJx4a65c_init_da8c8_5 : decode cJx4a65c_init_da8c8 5 = .ok (.getstatic 39, 3) := by decide +kernel
theorem dJx4a65c_init_da8c8_8 : decode cJx4a65c_init_da8c8 8 = .ok (.putfield 9, 3) := by decide +kernel
theorem dJx4a65c_init_da8c8_11 : decode cJx4a65c_init_da8c8 11 = .ok (.return_, 1) := by decide +kernel
theorem dX8_init_0 : decode cX8_init 0 = .ok (.aload_n 0, 1) := by decide +kernel
theorem dX8_init_1 : decode cX8_init 1 = .ok (.invokespecial 3, 3) := by decide +kernel
theorem dX8_init_4 : decode cX8_init 4 = .ok (.aload_n 0, 1) := by decide +kernel
theorem dX8_init_5 : decode cX8_init 5 = .ok (.new 9, 3) := by decide +kernel
theorem dX8_init_8 : decode cX8_init 8 = .ok (.dup, 1) := by decide +kernel
theorem dX8_init_9 : decode cX8_init 9 = .ok (.invokespecial 11, 3) := by decide +kernel
theorem dX8_init_12 : decode cX8_init 12 = .ok (.putfield 12, 3) := by decide +kernel
theorem dX8_init_15 : decode cX8_init 15 = .ok (.aload_n 0, 1) := by decide +kernel
theorem dX8_init_16 : decode cX8_init 16 = .ok (.new 9, 3) := by decide +kernel
theorem dX8_init_19 : decode cX8_init 19 = .ok (.dup, 1) := by decide +kernel
theorem dX8_init_20 : decode cX8_init 20 = .ok (.invokespecial 11, 3) := by decide +kernel
theorem dX8_init_23 : decode cX8_init 23 = .ok (.putfield 18, 3) := by decide +kernel
theorem dX8_init_26 : decode cX8_init 26 = .ok (.return_, 1) := by decide +kernel
theorem dX10_init_0 : decode cX10_init 0 = .ok (.aload_n 0, 1) := by decide +kernel
theorem dX10_init_1 : decode cX10_init 1 = .ok (.invokespecial 3, 3) := by decide +kernel
theorem dX10_init_4 : decode cX10_init 4 = .ok (.aload_n 0, 1) := by decide +kernel
theorem dX10_init_5 : decode cX10_init 5 = .ok (.iconst (-1), 1) := by decide +kernel
theorem dX10_init_6 : decode cX10_init 6 = .ok (.putfield 9, 3) := by decide +kernel
theorem dX10_init_9 : decode cX10_init 9 = .ok (.aload_n 0, 1) := by decide +kernel
theorem dX10_init_10 : decode cX10_init 10 = .ok (.getstatic 15, 3) := by decide +kernel
theorem dX10_init_13 : decode cX10_init 13 = .ok (.putfield 19, 3) := by decide +kernel
theorem dX10_init_16 : decode cX10_init 16 = .ok (.aload_n 0, 1) := by decide +kernel
theorem dX10_init_17 : decode cX10_init 17 = .ok (.getstatic 15, 3) := by decide +kernel
theorem dX10_init_20 : decode cX10_init 20 = .ok (.putfield 22, 3) := by decide +kernel
theorem dX10_init_23 : decode cX10_init 23 = .ok (.aload_n 0, 1) := by decide +kernel
theorem dX10_init_24 : decode cX10_init 24 = .ok (.iload_n 1, 1) := by decide +kernel
theorem dX10_init_25 : decode cX10_init 25 = .ok (.putfield 25, 3) := by decide +kernel
theorem dX10_init_28 : decode cX10_init 28 = .ok (.aload_n 0, 1) := by decide +kernel
theorem dX10_init_29 : decode cX10_init 29 = .ok (.iload_n 2, 1) := by decide +kernel
theorem dX10_init_30 : decode cX10_init 30 = .ok (.putfield 28, 3) := by decide +kernel
theorem dX10_init_33 : decode cX10_init 33 = .ok (.return_, 1) := by decide +kernel
theorem dX11_init_0 : decode cX11_init 0 = .ok (.aload_n 0, 1) := by decide +kernel
theorem dX11_init_1 : decode cX11_init 1 = .ok (.invokespecial 1, 3) := by decide +kernel
theorem dX11_init_4 : decode cX11_init 4 = .ok (.aload_n 0, 1) := by decide +kernel
theorem dX11_init_5 : decode cX11_init 5 = .ok (.getstatic 7, 3) := by decide +kernel
theorem dX11_init_8 : decode cX11_init 8 = .ok (.putfield 13, 3) := by decide +kernel
theorem dX11_init_11 : decode cX11_init 11 = .ok (.aload_n 0, 1) := by decide +kernel
theorem dX11_init_12 : decode cX11_init 12 = .ok (.getstatic 7, 3) := by decide +kernel
theorem dX11_init_15 : decode cX11_init 15 = .ok (.putfield 18, 3) := by decide +kernel
theorem dX11_init_18 : decode cX11_init 18 = .ok (.aload_n 0, 1) := by decide +kernel
theorem dX11_init_19 : decode cX11_init 19 = .ok (.iload_n 1, 1) := by decide +kernel
theorem dX11_init_20 : decode cX11_init 20 = .ok (.putfield 21, 3) := by decide +kernel
theorem dX11_init_23 : decode cX11_init 23 = .ok (.aload_n 0, 1) := by decide +kernel
theorem dX11_init_24 : decode cX11_init 24 = .ok (.iload_n 2, 1) := by decide +kernel
theorem dX11_init_25 : decode cX11_init 25 = .ok (.putfield 25, 3) := by decide +kernel
theorem dX11_init_28 : decode cX11_init 28 = .ok (.aload_n 0, 1) := by decide +kernel
theorem dX11_init_29 : decode cX11_init 29 = .ok (.iload_n 3, 1) := by decide +kernel
theorem dX11_init_30 : decode cX11_init 30 = .ok (.putfield 28, 3) := by decide +kernel
theorem dX11_init_33 : decode cX11_init 33 = .ok (.aload_n 0, 1) := by decide +kernel
theorem dX11_init_34 : decode cX11_init 34 = .ok (.iload 4, 2) := by decide +kernel
theorem dX11_init_36 : decode cX11_init 36 = .ok (.putfield 31, 3) := by decide +kernel
theorem dX11_init_39 : decode cX11_init 39 = .ok (.return_, 1) := by decide +kernel
theorem dX9_init_0 : decode cX9_init 0 = .ok (.aload_n 0, 1) := by decide +kernel
theorem dX9_init_1 : decode cX9_init 1 = .ok (.aload_n 1, 1) := by decide +kernel
theorem dX9_init_2 : decode cX9_init 2 = .ok (.putfield 3, 3) := by decide +kernel
theorem dX9_init_5 : decode cX9_init 5 = .ok (.aload_n 0, 1) := by decide +kernel
theorem dX9_init_6 : decode cX9_init 6 = .ok (.invokespecial 9, 3) := by decide +kernel
theorem dX9_init_9 : decode cX9_init 9 = .ok (.aload_n 0, 1) := by decide +kernel
theorem dX9_init_10 : decode cX9_init 10 = .ok (.bipush 20, 2) := by decide +kernel
theorem dX9_init_12 : decode cX9_init 12 = .ok (.newarray .int, 2) := by decide +kernel
theorem dX9_init_14 : decode cX9_init 14 = .ok (.putfield 15, 3) := by decide +kernel
theorem dX9_init_17 : decode cX9_init 17 = .ok (.aload_n 0, 1) := by decide +kernel
theorem dX9_init_18 : decode cX9_init 18 = .ok (.bipush 20, 2) := by decide +kernel
theorem dX9_init_20 : decode cX9_init 20 = .ok (.newarray .int, 2) := by decide +kernel
theorem dX9_init_22 : decode cX9_init 22 = .ok (.putfield 19, 3) := by decide +kernel
theorem dX9_init_25 : decode cX9_init 25 = .ok (.aload_n 0, 1) := by decide +kernel
theorem dX9_init_26 : decode cX9_init 26 = .ok (.iconst 4, 1) := by decide +kernel
theorem dX9_init_27 : decode cX9_init 27 = .ok (.newarray .int, 2) := by decide +kernel
theorem dX9_init_29 : decode cX9_init 29 = .ok (.putfield 22, 3) := by decide +kernel
theorem dX9_init_32 : decode cX9_init 32 = .ok (.aload_n 0, 1) := by decide +kernel
theorem dX9_init_33 : decode cX9_init 33 = .ok (.bipush 30, 2) := by decide +kernel
theorem dX9_init_35 : decode cX9_init 35 = .ok (.newarray .int, 2) := by decide +kernel
theorem dX9_init_37 : decode cX9_init 37 = .ok (.putfield 25, 3) := by decide +kernel
theorem dX9_init_40 : decode cX9_init 40 = .ok (.aload_n 0, 1) := by decide +kernel
theorem dX9_init_41 : decode cX9_init 41 = .ok (.new 28, 3) := by decide +kernel
theorem dX9_init_44 : decode cX9_init 44 = .ok (.dup, 1) := by decide +kernel
theorem dX9_init_45 : decode cX9_init 45 = .ok (.invokespecial 30, 3) := by decide +kernel
theorem dX9_init_48 : decode cX9_init 48 = .ok (.putfield 31, 3) := by decide +kernel
theorem dX9_init_51 : decode cX9_init 51 = .ok (.return_, 1) := by decide +kernel
theorem dJx4a65c_grow_92f84_0 : decode cJx4a65c_grow_92f84 0 = .ok (.aload_n 0, 1) := by decide +kernel
theorem dJx4a65c_grow_92f84_1 : decode cJx4a65c_grow_92f84 1 = .ok (.getfield 9, 3) := by decide +kernel
theorem dJx4a65c_grow_92f84_4 : decode cJx4a65c_grow_92f84 4 = .ok (.arraylength, 1) := by decide +kernel
theorem dJx4a65c_grow_92f84_5 : decode cJx4a65c_grow_92f84 5 = .ok (.istore_n 2, 1) := by decide +kernel
theorem dJx4a65c_grow_92f84_6 : decode cJx4a65c_grow_92f84 6 = .ok (.iload_n 2, 1) := by decide +kernel
theorem dJx4a65c_grow_92f84_7 : decode cJx4a65c_grow_92f84 7 = .ok (.ifCond .gt 13, 3) := by decide +kernel
theorem dJx4a65c_grow_92f84_10 : decode cJx4a65c_grow_92f84 10 = .ok (.aload_n 0, 1) := by decide +kernel
theorem dJx4a65c_grow_92f84_11 : decode cJx4a65c_grow_92f84 11 = .ok (.getfield 9, 3) := by decide +kernel
theorem dJx4a65c_grow_92f84_14 : decode cJx4a65c_grow_92f84 14 = .ok (.getstatic 39, 3) := by decide +kernel
theorem dJx4a65c_grow_92f84_17 : decode cJx4a65c_grow_92f84 17 = .ok (.if_acmp .eq 28, 3) := by decide +kernel
theorem dJx4a65c_grow_92f84_20 : decode cJx4a65c_grow_92f84 20 = .ok (.iload_n 2, 1) := by decide +kernel
theorem dJx4a65c_grow_92f84_21 : decode cJx4a65c_grow_92f84 21 = .ok (.iload_n 1, 1) := by decide +kernel
theorem dJx4a65c_grow_92f84_22 : decode cJx4a65c_grow_92f84 22 = .ok (.iload_n 2, 1) := by decide +kernel
theorem dJx4a65c_grow_92f84_23 : decode cJx4a65c_grow_92f84 23 = .ok (.isub, 1) := by decide +kernel
theorem dJx4a65c_grow_92f84_24 : decode cJx4a65c_grow_92f84 24 = .ok (.iload_n 2, 1) := by decide +kernel
theorem dJx4a65c_grow_92f84_25 : decode cJx4a65c_grow_92f84 25 = .ok (.iconst 1, 1) := by decide +kernel
theorem dJx4a65c_grow_92f84_26 : decode cJx4a65c_grow_92f84 26 = .ok (.ishr, 1) := by decide +kernel
theorem dJx4a65c_grow_92f84_27 : decode cJx4a65c_grow_92f84 27 = .ok (.invokestatic 73, 3) := by decide +kernel
theorem dJx4a65c_grow_92f84_30 : decode cJx4a65c_grow_92f84 30 = .ok (.istore_n 3, 1) := by decide +kernel
theorem dJx4a65c_grow_92f84_31 : decode cJx4a65c_grow_92f84 31 = .ok (.aload_n 0, 1) := by decide +kernel
theorem dJx4a65c_grow_92f84_32 : decode cJx4a65c_grow_92f84 32 = .ok (.aload_n 0, 1) := by decide +kernel
theorem dJx4a65c_grow_92f84_33 : decode cJx4a65c_grow_92f84 33 = .ok (.getfield 9, 3) := by decide +kernel
theorem dJx4a65c_grow_92f84_36 : decode cJx4a65c_grow_92f84 36 = .ok (.iload_n 3, 1) := by decide +kernel
theorem dJx4a65c_grow_92f84_37 : decode cJx4a65c_grow_92f84 37 = .ok (.invokestatic 66, 3) := by decide +kernel
theorem dJx4a65c_grow_92f84_40 : decode cJx4a65c_grow_92f84 40 = .ok (.dup_x1, 1) := by decide +kernel
theorem dJx4a65c_grow_92f84_41 : decode cJx4a65c_grow_92f84 41 = .ok (.putfield 9, 3) := by decide +kernel
theorem dJx4a65c_grow_92f84_44 : decode cJx4a65c_grow_92f84 44 = .ok (.areturn, 1) := by decide +kernel
theorem dJx4a65c_grow_92f84_45 : decode cJx4a65c_grow_92f84 45 = .ok (.aload_n 0, 1) := by decide +kernel
theorem dJx4a65c_grow_92f84_46 : decode cJx4a65c_grow_92f84 46 = .ok (.bipush 10, 2) := by decide +kernel
theorem dJx4a65c_grow_92f84_48 : decode cJx4a65c_grow_92f84 48 = .ok (.iload_n 1, 1) := by decide +kernel
theorem dJx4a65c_grow_92f84_49 : decode cJx4a65c_grow_92f84 49 = .ok (.invokestatic 79, 3) := by decide +kernel
theorem dJx4a65c_grow_92f84_52 : decode cJx4a65c_grow_92f84 52 = .ok (.anewarray 7, 3) := by decide +kernel
theorem dJx4a65c_grow_92f84_55 : decode cJx4a65c_grow_92f84 55 = .ok (.dup_x1, 1) := by decide +kernel
theorem dJx4a65c_grow_92f84_56 : decode cJx4a65c_grow_92f84 56 = .ok (.putfield 9, 3) := by decide +kernel
theorem dJx4a65c_grow_92f84_59 : decode cJx4a65c_grow_92f84 59 = .ok (.areturn, 1) := by decide +kernel
theorem dJx4a65c_grow_d5877_0 : decode cJx4a65c_grow_d5877 0 = .ok (.aload_n 0, 1) := by decide +kernel
theorem dJx4a65c_grow_d5877_1 : decode cJx4a65c_grow_d5877 1 = .ok (.aload_n 0, 1) := by decide +kernel
theorem dJx4a65c_grow_d5877_2 : decode cJx4a65c_grow_d5877 2 = .ok (.getfield 48, 3) := by decide +kernel
theorem dJx4a65c_grow_d5877_5 : decode cJx4a65c_grow_d5877 5 = .ok (.iconst 1, 1) := by decide +kernel
theorem dJx4a65c_grow_d5877_6 : decode cJx4a65c_grow_d5877 6 = .ok (.iadd, 1) := by decide +kernel
theorem dJx4a65c_grow_d5877_7 : decode cJx4a65c_grow_d5877 7 = .ok (.invokevirtual 69, 3) := by decide +kernel
theorem dJx4a65c_grow_d5877_10 : decode cJx4a65c_grow_d5877 10 = .ok (.areturn, 1) := by decide +kernel
theorem dJx4a65c_add_72be8_0 : decode cJx4a65c_add_72be8 0 = .ok (.iload_n 3, 1) := by decide +kernel
theorem dJx4a65c_add_72be8_1 : decode cJx4a65c_add_72be8 1 = .ok (.aload_n 2, 1) := by decide +kernel
theorem dJx4a65c_add_72be8_2 : decode cJx4a65c_add_72be8 2 = .ok (.arraylength, 1) := by decide +kernel
theorem dJx4a65c_add_72be8_3 : decode cJx4a65c_add_72be8 3 = .ok (.if_icmp .ne 8, 3) := by decide +kernel
theorem dJx4a65c_add_72be8_6 : decode cJx4a65c_add_72be8 6 = .ok (.aload_n 0, 1) := by decide +kernel
theorem dJx4a65c_add_72be8_7 : decode cJx4a65c_add_72be8 7 = .ok (.invokevirtual 129, 3) := by decide +kernel
theorem dJx4a65c_add_72be8_10 : decode cJx4a65c_add_72be8 10 = .ok (.astore_n 2, 1) := by decide +kernel
theorem dJx4a65c_add_72be8_11 : decode cJx4a65c_add_72be8 11 = .ok (.aload_n 2, 1) := by decide +kernel
theorem dJx4a65c_add_72be8_12 : decode cJx4a65c_add_72be8 12 = .ok (.iload_n 3, 1) := by decide +kernel
theorem dJx4a65c_add_72be8_13 : decode cJx4a65c_add_72be8 13 = .ok (.aload_n 1, 1) := by decide +kernel
theorem dJx4a65c_add_72be8_14 : decode cJx4a65c_add_72be8 14 = .ok (.aastore, 1) := by decide +kernel
theorem dJx4a65c_add_72be8_15 : decode cJx4a65c_add_72be8 15 = .ok (.aload_n 0, 1) := by decide +kernel
theorem dJx4a65c_add_72be8_16 : decode cJx4a65c_add_72be8 16 = .ok (.iload_n 3, 1) := by decide +kernel
theorem dJx4a65c_add_72be8_17 : decode cJx4a65c_add_72be8 17 = .ok (.iconst 1, 1) := by decide +kernel
theorem dJx4a65c_add_72be8_18 : decode cJx4a65c_add_72be8 18 = .ok (.iadd, 1) := by decide +kernel
theorem dJx4a65c_add_72be8_19 : decode cJx4a65c_add_72be8 19 = .ok (.putfield 48, 3) := by decide +kernel
theorem dJx4a65c_add_72be8_22 : decode cJx4a65c_add_72be8 22 = .ok (.return_, 1) := by decide +kernel
theorem dJx4a65c_add_9ea2d_0 : decode cJx4a65c_add_9ea2d 0 = .ok (.aload_n 0, 1) := by decide +kernel
theorem dJx4a65c_add_9ea2d_1 : decode cJx4a65c_add_9ea2d 1 = .ok (.dup, 1) := by decide +kernel
theorem dJx4a65c_add_9ea2d_2 : decode cJx4a65c_add_9ea2d 2 = .ok (.getfield 63, 3) := by decide +kernel
theorem dJx4a65c_add_9ea2d_5 : decode cJx4a65c_add_9ea2d 5 = .ok (.iconst 1, 1) := by decide +kernel
theorem dJx4a65c_add_9ea2d_6 : decode cJx4a65c_add_9ea2d 6 = .ok (.iadd, 1) := by decide +kernel
theorem dJx4a65c_add_9ea2d_7 : decode cJx4a65c_add_9ea2d 7 = .ok (.putfield 63, 3) := by decide +kernel
theorem dJx4a65c_add_9ea2d_10 : decode cJx4a65c_add_9ea2d 10 = .ok (.aload_n 0, 1) := by decide +kernel
theorem dJx4a65c_add_9ea2d_11 : decode cJx4a65c_add_9ea2d 11 = .ok (.aload_n 1, 1) := by decide +kernel
theorem dJx4a65c_add_9ea2d_12 : decode cJx4a65c_add_9ea2d 12 = .ok (.aload_n 0, 1) := by decide +kernel
theorem dJx4a65c_add_9ea2d_13 : decode cJx4a65c_add_9ea2d 13 = .ok (.getfield 9, 3) := by decide +kernel
theorem dJx4a65c_add_9ea2d_16 : decode cJx4a65c_add_9ea2d 16 = .ok (.aload_n 0, 1) := by decide +kernel
theorem dJx4a65c_add_9ea2d_17 : decode cJx4a65c_add_9ea2d 17 = .ok (.getfield 48, 3) := by decide +kernel
theorem dJx4a65c_add_9ea2d_20 : decode cJx4a65c_add_9ea2d 20 = .ok (.invokevirtual 131, 3) := by decide +kernel
theorem dJx4a65c_add_9ea2d_23 : decode cJx4a65c_add_9ea2d 23 = .ok (.iconst 1, 1) := by decide +kernel
theorem dJx4a65c_add_9ea2d_24 : decode cJx4a65c_add_9ea2d 24 = .ok (.ireturn, 1) := by decide +kernel
theorem dX12_init_0 : decode cX12_init 0 = .ok (.aload_n 0, 1) := by decide +kernel
theorem dX12_init_1 : decode cX12_init 1 = .ok (.invokespecial 1, 3) := by decide +kernel
theorem dX12_init_4 : decode cX12_init 4 = .ok (.aload_n 0, 1) := by decide +kernel
theorem dX12_init_5 : decode cX12_init 5 = .ok (.new 7, 3) := by decide +kernel
theorem dX12_init_8 : decode cX12_init 8 = .ok (.dup, 1) := by decide +kernel
theorem dX12_init_9 : decode cX12_init 9 = .ok (.invokespecial 9, 3) := by decide +kernel
theorem dX12_init_12 : decode cX12_init 12 = .ok (.putfield 10, 3) := by decide +kernel
theorem dX12_init_15 : decode cX12_init 15 = .ok (.aload_n 0, 1) := by decide +kernel
theorem dX12_init_16 : decode cX12_init 16 = .ok (.new 16, 3) := by decide +kernel
theorem dX12_init_19 : decode cX12_init 19 = .ok (.dup, 1) := by decide +kernel
theorem dX12_init_20 : decode cX12_init 20 = .ok (.aload_n 0, 1) := by decide +kernel
theorem dX12_init_21 : decode cX12_init 21 = .ok (.invokespecial 18, 3) := by decide +kernel
theorem dX12_init_24 : decode cX12_init 24 = .ok (.putfield 21, 3) := by decide +kernel
theorem dX12_init_27 : decode cX12_init 27 = .ok (.aload_n 0, 1) := by decide +kernel
theorem dX12_init_28 : decode cX12_init 28 = .ok (.iconst 0, 1) := by decide +kernel
theorem dX12_init_29 : decode cX12_init 29 = .ok (.newarray .int, 2) := by decide +kernel
theorem dX12_init_31 : decode cX12_init 31 = .ok (.putfield 25, 3) := by decide +kernel
theorem dX12_init_34 : decode cX12_init 34 = .ok (.aload_n 0, 1) := by decide +kernel
theorem dX12_init_35 : decode cX12_init 35 = .ok (.getfield 10, 3) := by decide +kernel
theorem dX12_init_38 : decode cX12_init 38 = .ok (.getfield 29, 3) := by decide +kernel
theorem dX12_init_41 : decode cX12_init 41 = .ok (.new 33, 3) := by decide +kernel
theorem dX12_init_44 : decode cX12_init 44 = .ok (.dup, 1) := by decide +kernel
theorem dX12_init_45 : decode cX12_init 45 = .ok (.iconst (-1), 1) := by decide +kernel
theorem dX12_init_46 : decode cX12_init 46 = .ok (.iconst 0, 1) := by decide +kernel
theorem dX12_init_47 : decode cX12_init 47 = .ok (.invokespecial 35, 3) := by decide +kernel
theorem dX12_init_50 : decode cX12_init 50 = .ok (.invokevirtual 38, 3) := by decide +kernel
theorem dX12_init_53 : decode cX12_init 53 = .ok (.pop, 1) := by decide +kernel
theorem dX12_init_54 : decode cX12_init 54 = .ok (.return_, 1) := by decide +kernel
theorem dX9_taken_0 : decode cX9_taken 0 = .ok (.new 28, 3) := by decide +kernel
theorem dX9_taken_3 : decode cX9_taken 3 = .ok (.dup, 1) := by decide +kernel
theorem dX9_taken_4 : decode cX9_taken 4 = .ok (.invokespecial 30, 3) := by decide +kernel
theorem dX9_taken_7 : decode cX9_taken 7 = .ok (.astore_n 3, 1) := by decide +kernel
theorem dX9_taken_8 : decode cX9_taken 8 = .ok (.bipush 30, 2) := by decide +kernel
theorem dX9_taken_10 : decode cX9_taken 10 = .ok (.newarray .boolean, 2) := by decide +kernel
theorem dX9_taken_12 : decode cX9_taken 12 = .ok (.astore 4, 2) := by decide +kernel
theorem dX9_taken_14 : decode cX9_taken 14 = .ok (.iconst 0, 1) := by decide +kernel
theorem dX9_taken_15 : decode cX9_taken 15 = .ok (.istore 5, 2) := by decide +kernel
theorem dX9_taken_17 : decode cX9_taken 17 = .ok (.iload 5, 2) := by decide +kernel
theorem dX9_taken_19 : decode cX9_taken 19 = .ok (.aload_n 0, 1) := by decide +kernel
theorem dX9_taken_20 : decode cX9_taken 20 = .ok (.getfield 3, 3) := by decide +kernel
theorem dX9_taken_23 : decode cX9_taken 23 = .ok (.getfield 64, 3) := by decide +kernel
theorem dX9_taken_26 : decode cX9_taken 26 = .ok (.getfield 68, 3) := by decide +kernel
theorem dX9_taken_29 : decode cX9_taken 29 = .ok (.invokevirtual 73, 3) := by decide +kernel
theorem dX9_taken_32 : decode cX9_taken 32 = .ok (.if_icmp .ge 256, 3) := by decide +kernel
theorem dX9_taken_35 : decode cX9_taken 35 = .ok (.aload_n 0, 1) := by decide +kernel
theorem dX9_taken_36 : decode cX9_taken 36 = .ok (.getfield 42, 3) := by decide +kernel
theorem dX9_taken_39 : decode cX9_taken 39 = .ok (.iload 5, 2) := by decide +kernel
theorem dX9_taken_41 : decode cX9_taken 41 = .ok (.invokestatic 77, 3) := by decide +kernel
theorem dX9_taken_44 : decode cX9_taken 44 = .ok (.ifCond .eq 238, 3) := by decide +kernel
theorem dX9_taken_47 : decode cX9_taken 47 = .ok (.aload_n 0, 1) := by decide +kernel
theorem dX9_taken_48 : decode cX9_taken 48 = .ok (.getfield 3, 3) := by decide +kernel
theorem dX9_taken_51 : decode cX9_taken 51 = .ok (.getfield 64, 3) := by decide +kernel
theorem dX9_taken_54 : decode cX9_taken 54 = .ok (.iload 5, 2) := by decide +kernel
theorem dX9_taken_56 : decode cX9_taken 56 = .ok (.invokevirtual 162, 3) := by decide +kernel
theorem dX9_taken_59 : decode cX9_taken 59 = .ok (.ifCond .ne 6, 3) := by decide +kernel
theorem dX9_taken_62 : decode cX9_taken 62 = .ok (.goto 220, 3) := by decide +kernel
theorem dX9_taken_65 : decode cX9_taken 65 = .ok (.aload_n 0, 1) := by decide +kernel
theorem dX9_taken_66 : decode cX9_taken 66 = .ok (.iload 5, 2) := by decide +kernel
theorem dX9_taken_68 : decode cX9_taken 68 = .ok (.iload_n 1, 1) := by decide +kernel
theorem dX9_taken_69 : decode cX9_taken 69 = .ok (.iload_n 2, 1) := by decide +kernel
theorem dX9_taken_70 : decode cX9_taken 70 = .ok (.invokevirtual 165, 3) := by decide +kernel
theorem dX9_taken_73 : decode cX9_taken 73 = .ok (.istore 6, 2) := by decide +kernel
theorem dX9_taken_75 : decode cX9_taken 75 = .ok (.iload 6, 2) := by decide +kernel
theorem dX9_taken_77 : decode cX9_taken 77 = .ok (.iconst (-1), 1) := by decide +kernel
theorem dX9_taken_78 : decode cX9_taken 78 = .ok (.if_icmp .eq 204, 3) := by decide +kernel
theorem dX9_taken_81 : decode cX9_taken 81 = .ok (.aload 4, 2) := by decide +kernel
theorem dX9_taken_83 : decode cX9_taken 83 = .ok (.iload 6, 2) := by decide +kernel
theorem dX9_taken_85 : decode cX9_taken 85 = .ok (.baload, 1) := by decide +kernel
theorem dX9_taken_86 : decode cX9_taken 86 = .ok (.ifCond .eq 6, 3) := by decide +kernel
theorem dX9_taken_89 : decode cX9_taken 89 = .ok (.goto 193, 3) := by decide +kernel
theorem dX9_taken_92 : decode cX9_taken 92 = .ok (.aload 4, 2) := by decide +kernel
theorem dX9_taken_94 : decode cX9_taken 94 = .ok (.iload 6, 2) := by decide +kernel
theorem dX9_taken_96 : decode cX9_taken 96 = .ok (.iconst 1, 1) := by decide +kernel
theorem dX9_taken_97 : decode cX9_taken 97 = .ok (.bastore, 1) := by decide +kernel
theorem dX9_taken_98 : decode cX9_taken 98 = .ok (.iconst 1, 1) := by decide +kernel
theorem dX9_taken_99 : decode cX9_taken 99 = .ok (.istore 7, 2) := by decide +kernel
theorem dX9_taken_101 : decode cX9_taken 101 = .ok (.iconst 0, 1) := by decide +kernel
theorem dX9_taken_102 : decode cX9_taken 102 = .ok (.istore 8, 2) := by decide +kernel
theorem dX9_taken_104 : decode cX9_taken 104 = .ok (.iload 8, 2) := by decide +kernel
theorem dX9_taken_106 : decode cX9_taken 106 = .ok (.aload_n 3, 1) := by decide +kernel
theorem dX9_taken_107 : decode cX9_taken 107 = .ok (.invokevirtual 73, 3) := by decide +kernel
theorem dX9_taken_110 : decode cX9_taken 110 = .ok (.if_icmp .ge 102, 3) := by decide +kernel
theorem dX9_taken_113 : decode cX9_taken 113 = .ok (.aload_n 0, 1) := by decide +kernel
theorem dX9_taken_114 : decode cX9_taken 114 = .ok (.iload 6, 2) := by decide +kernel
theorem dX9_taken_116 : decode cX9_taken 116 = .ok (.invokevirtual 169, 3) := by decide +kernel
theorem dX9_taken_119 : decode cX9_taken 119 = .ok (.aload_n 0, 1) := by decide +kernel
theorem dX9_taken_120 : decode cX9_taken 120 = .ok (.aload_n 3, 1) := by decide +kernel
theorem dX9_taken_121 : decode cX9_taken 121 = .ok (.iload 8, 2) := by decide +kernel
theorem dX9_taken_123 : decode cX9_taken 123 = .ok (.invokevirtual 114, 3) := by decide +kernel
theorem dX9_taken_126 : decode cX9_taken 126 = .ok (.checkcast 105, 3) := by decide +kernel
theorem dX9_taken_129 : decode cX9_taken 129 = .ok (.invokevirtual 172, 3) := by decide +kernel
theorem dX9_taken_132 : decode cX9_taken 132 = .ok (.invokevirtual 169, 3) := by decide +kernel
theorem dX9_taken_135 : decode cX9_taken 135 = .ok (.iand, 1) := by decide +kernel
theorem dX9_taken_136 : decode cX9_taken 136 = .ok (.ifCond .eq 70, 3) := by decide +kernel
theorem dX9_taken_139 : decode cX9_taken 139 = .ok (.iload 7, 2) := by decide +kernel
theorem dX9_taken_141 : decode cX9_taken 141 = .ok (.aload_n 0, 1) := by decide +kernel
theorem dX9_taken_142 : decode cX9_taken 142 = .ok (.getfield 3, 3) := by decide +kernel
theorem dX9_taken_145 : decode cX9_taken 145 = .ok (.getfield 64, 3) := by decide +kernel
theorem dX9_taken_148 : decode cX9_taken 148 = .ok (.aload_n 0, 1) := by decide +kernel
theorem dX9_taken_149 : decode cX9_taken 149 = .ok (.getfield 3, 3) := by decide +kernel
theorem dX9_taken_152 : decode cX9_taken 152 = .ok (.getfield 64, 3) := by decide +kernel
theorem dX9_taken_155 : decode cX9_taken 155 = .ok (.getfield 145, 3) := by decide +kernel
theorem dX9_taken_158 : decode cX9_taken 158 = .ok (.iload 6, 2) := by decide +kernel
theorem dX9_taken_160 : decode cX9_taken 160 = .ok (.invokevirtual 114, 3) := by decide +kernel
theorem dX9_taken_163 : decode cX9_taken 163 = .ok (.checkcast 128, 3) := by decide +kernel
theorem dX9_taken_166 : decode cX9_taken 166 = .ok (.getfield 127, 3) := by decide +kernel
theorem dX9_taken_169 : decode cX9_taken 169 = .ok (.aload_n 0, 1) := by decide +kernel
theorem dX9_taken_170 : decode cX9_taken 170 = .ok (.getfield 3, 3) := by decide +kernel
theorem dX9_taken_173 : decode cX9_taken 173 = .ok (.getfield 64, 3) := by decide +kernel
theorem dX9_taken_176 : decode cX9_taken 176 = .ok (.getfield 145, 3) := by decide +kernel
theorem dX9_taken_179 : decode cX9_taken 179 = .ok (.aload_n 3, 1) := by decide +kernel
theorem dX9_taken_180 : decode cX9_taken 180 = .ok (.iload 8, 2) := by decide +kernel
theorem dX9_taken_182 : decode cX9_taken 182 = .ok (.invokevirtual 114, 3) := by decide +kernel
theorem dX9_taken_185 : decode cX9_taken 185 = .ok (.checkcast 105, 3) := by decide +kernel
theorem dX9_taken_188 : decode cX9_taken 188 = .ok (.invokevirtual 172, 3) := by decide +kernel
theorem dX9_taken_191 : decode cX9_taken 191 = .ok (.invokevirtual 114, 3) := by decide +kernel
theorem dX9_taken_194 : decode cX9_taken 194 = .ok (.checkcast 128, 3) := by decide +kernel
theorem dX9_taken_197 : decode cX9_taken 197 = .ok (.getfield 127, 3) := by decide +kernel
theorem dX9_taken_200 : decode cX9_taken 200 = .ok (.invokevirtual 175, 3) := by decide +kernel
theorem dX9_taken_203 : decode cX9_taken 203 = .ok (.iand, 1) := by decide +kernel
theorem dX9_taken_204 : decode cX9_taken 204 = .ok (.istore 7, 2) := by decide +kernel
theorem dX9_taken_206 : decode cX9_taken 206 = .ok (.iinc 8 1, 3) := by decide +kernel
theorem dX9_taken_209 : decode cX9_taken 209 = .ok (.goto (-105), 3) := by decide +kernel
theorem dX9_taken_212 : decode cX9_taken 212 = .ok (.iload 7, 2) := by decide +kernel
theorem dX9_taken_214 : decode cX9_taken 214 = .ok (.ifCond .ne 6, 3) := by decide +kernel
theorem dX9_taken_217 : decode cX9_taken 217 = .ok (.goto 65, 3) := by decide +kernel
theorem dX9_taken_220 : decode cX9_taken 220 = .ok (.aload_n 3, 1) := by decide +kernel
theorem dX9_taken_221 : decode cX9_taken 221 = .ok (.invokevirtual 73, 3) := by decide +kernel
theorem dX9_taken_224 : decode cX9_taken 224 = .ok (.iconst 1, 1) := by decide +kernel
theorem dX9_taken_225 : decode cX9_taken 225 = .ok (.isub, 1) := by decide +kernel
theorem dX9_taken_226 : decode cX9_taken 226 = .ok (.istore 8, 2) := by decide +kernel
theorem dX9_taken_228 : decode cX9_taken 228 = .ok (.iload 8, 2) := by decide +kernel
theorem dX9_taken_230 : decode cX9_taken 230 = .ok (.ifCond .lt 42, 3) := by decide +kernel
theorem dX9_taken_233 : decode cX9_taken 233 = .ok (.aload_n 0, 1) := by decide +kernel
theorem dX9_taken_234 : decode cX9_taken 234 = .ok (.iload 6, 2) := by decide +kernel
theorem dX9_taken_236 : decode cX9_taken 236 = .ok (.invokevirtual 169, 3) := by decide +kernel
theorem dX9_taken_239 : decode cX9_taken 239 = .ok (.aload_n 0, 1) := by decide +kernel
theorem dX9_taken_240 : decode cX9_taken 240 = .ok (.aload_n 3, 1) := by decide +kernel
theorem dX9_taken_241 : decode cX9_taken 241 = .ok (.iload 8, 2) := by decide +kernel
theorem dX9_taken_243 : decode cX9_taken 243 = .ok (.invokevirtual 114, 3) := by decide +kernel
theorem dX9_taken_246 : decode cX9_taken 246 = .ok (.checkcast 105, 3) := by decide +kernel
theorem dX9_taken_249 : decode cX9_taken 249 = .ok (.invokevirtual 172, 3) := by decide +kernel
theorem dX9_taken_252 : decode cX9_taken 252 = .ok (.invokevirtual 169, 3) := by decide +kernel
theorem dX9_taken_255 : decode cX9_taken 255 = .ok (.iand, 1) := by decide +kernel
theorem dX9_taken_256 : decode cX9_taken 256 = .ok (.ifCond .eq 10, 3) := by decide +kernel
theorem dX9_taken_259 : decode cX9_taken 259 = .ok (.aload_n 3, 1) := by decide +kernel
theorem dX9_taken_260 : decode cX9_taken 260 = .ok (.iload 8, 2) := by decide +kernel
theorem dX9_taken_262 : decode cX9_taken 262 = .ok (.invokevirtual 178, 3) := by decide +kernel
theorem dX9_taken_265 : decode cX9_taken 265 = .ok (.pop, 1) := by decide +kernel
theorem dX9_taken_266 : decode cX9_taken 266 = .ok (.iinc 8 (-1), 3) := by decide +kernel
theorem dX9_taken_269 : decode cX9_taken 269 = .ok (.goto (-41), 3) := by decide +kernel
theorem dX9_taken_272 : decode cX9_taken 272 = .ok (.aload_n 3, 1) := by decide +kernel
theorem dX9_taken_273 : decode cX9_taken 273 = .ok (.iload 6, 2) := by decide +kernel
theorem dX9_taken_275 : decode cX9_taken 275 = .ok (.invokestatic 104, 3) := by decide +kernel
theorem dX9_taken_278 : decode cX9_taken 278 = .ok (.invokevirtual 110, 3) := by decide +kernel
theorem dX9_taken_281 : decode cX9_taken 281 = .ok (.pop, 1) := by decide +kernel
theorem dX9_taken_282 : decode cX9_taken 282 = .ok (.iinc 5 1, 3) := by decide +kernel
theorem dX9_taken_285 : decode cX9_taken 285 = .ok (.goto (-268), 3) := by decide +kernel
theorem dX9_taken_288 : decode cX9_taken 288 = .ok (.aload_n 3, 1) := by decide +kernel
theorem dX9_taken_289 : decode cX9_taken 289 = .ok (.areturn, 1) := by decide +kernel
theorem dX9_step_0 : decode cX9_step 0 = .ok (.aload_n 0, 1) := by decide +kernel
theorem dX9_step_1 : decode cX9_step 1 = .ok (.iload_n 1, 1) := by decide +kernel
theorem dX9_step_2 : decode cX9_step 2 = .ok (.iload_n 2, 1) := by decide +kernel
theorem dX9_step_3 : decode cX9_step 3 = .ok (.invokevirtual 181, 3) := by decide +kernel
theorem dX9_step_6 : decode cX9_step 6 = .ok (.astore_n 3, 1) := by decide +kernel
theorem dX9_step_7 : decode cX9_step 7 = .ok (.iconst 0, 1) := by decide +kernel
theorem dX9_step_8 : decode cX9_step 8 = .ok (.istore 4, 2) := by decide +kernel
theorem dX9_step_10 : decode cX9_step 10 = .ok (.iconst 0, 1) := by decide +kernel
theorem dX9_step_11 : decode cX9_step 11 = .ok (.istore 5, 2) := by decide +kernel
theorem dX9_step_13 : decode cX9_step 13 = .ok (.iload 5, 2) := by decide +kernel
theorem dX9_step_15 : decode cX9_step 15 = .ok (.aload_n 3, 1) := by decide +kernel
theorem dX9_step_16 : decode cX9_step 16 = .ok (.invokevirtual 73, 3) := by decide +kernel
theorem dX9_step_19 : decode cX9_step 19 = .ok (.if_icmp .ge 30, 3) := by decide +kernel
theorem dX9_step_22 : decode cX9_step 22 = .ok (.iload 4, 2) := by decide +kernel
theorem dX9_step_24 : decode cX9_step 24 = .ok (.aload_n 0, 1) := by decide +kernel
theorem dX9_step_25 : decode cX9_step 25 = .ok (.aload_n 3, 1) := by decide +kernel
theorem dX9_step_26 : decode cX9_step 26 = .ok (.iload 5, 2) := by decide +kernel
theorem dX9_step_28 : decode cX9_step 28 = .ok (.invokevirtual 114, 3) := by decide +kernel
theorem dX9_step_31 : decode cX9_step 31 = .ok (.checkcast 105, 3) := by decide +kernel
theorem dX9_step_34 : decode cX9_step 34 = .ok (.invokevirtual 172, 3) := by decide +kernel
theorem dX9_step_37 : decode cX9_step 37 = .ok (.invokevirtual 169, 3) := by decide +kernel
theorem dX9_step_40 : decode cX9_step 40 = .ok (.ior, 1) := by decide +kernel
theorem dX9_step_41 : decode cX9_step 41 = .ok (.istore 4, 2) := by decide +kernel
theorem dX9_step_43 : decode cX9_step 43 = .ok (.iinc 5 1, 3) := by decide +kernel
theorem dX9_step_46 : decode cX9_step 46 = .ok (.goto (-33), 3) := by decide +kernel
theorem dX9_step_49 : decode cX9_step 49 = .ok (.iconst 0, 1) := by decide +kernel
theorem dX9_step_50 : decode cX9_step 50 = .ok (.istore 5, 2) := by decide +kernel
theorem dX9_step_52 : decode cX9_step 52 = .ok (.iload 5, 2) := by decide +kernel
theorem dX9_step_54 : decode cX9_step 54 = .ok (.aload_n 0, 1) := by decide +kernel
theorem dX9_step_55 : decode cX9_step 55 = .ok (.getfield 3, 3) := by decide +kernel
theorem dX9_step_58 : decode cX9_step 58 = .ok (.getfield 64, 3) := by decide +kernel
theorem dX9_step_61 : decode cX9_step 61 = .ok (.getfield 68, 3) := by decide +kernel
theorem dX9_step_64 : decode cX9_step 64 = .ok (.invokevirtual 73, 3) := by decide +kernel
theorem dX9_step_67 : decode cX9_step 67 = .ok (.if_icmp .ge 101, 3) := by decide +kernel
theorem dX9_step_70 : decode cX9_step 70 = .ok (.aload_n 0, 1) := by decide +kernel
theorem dX9_step_71 : decode cX9_step 71 = .ok (.getfield 3, 3) := by decide +kernel
theorem dX9_step_74 : decode cX9_step 74 = .ok (.getfield 64, 3) := by decide +kernel
theorem dX9_step_77 : decode cX9_step 77 = .ok (.getfield 68, 3) := by decide +kernel
theorem dX9_step_80 : decode cX9_step 80 = .ok (.iload 5, 2) := by decide +kernel
theorem dX9_step_82 : decode cX9_step 82 = .ok (.invokevirtual 114, 3) := by decide +kernel
theorem dX9_step_85 : decode cX9_step 85 = .ok (.checkcast 118, 3) := by decide +kernel
theorem dX9_step_88 : decode cX9_step 88 = .ok (.astore 6, 2) := by decide +kernel
theorem dX9_step_90 : decode cX9_step 90 = .ok (.aload 6, 2) := by decide +kernel
theorem dX9_step_92 : decode cX9_step 92 = .ok (.invokevirtual 185, 3) := by decide +kernel
theorem dX9_step_95 : decode cX9_step 95 = .ok (.ifCond .eq 67, 3) := by decide +kernel
theorem dX9_step_98 : decode cX9_step 98 = .ok (.iload 4, 2) := by decide +kernel
theorem dX9_step_100 : decode cX9_step 100 = .ok (.aload 6, 2) := by decide +kernel
theorem dX9_step_102 : decode cX9_step 102 = .ok (.getfield 189, 3) := by decide +kernel
theorem dX9_step_105 : decode cX9_step 105 = .ok (.invokestatic 77, 3) := by decide +kernel
theorem dX9_step_108 : decode cX9_step 108 = .ok (.ifCond .ne 6, 3) := by decide +kernel
theorem dX9_step_111 : decode cX9_step 111 = .ok (.goto 51, 3) := by decide +kernel
theorem dX9_step_114 : decode cX9_step 114 = .ok (.aload_n 0, 1) := by decide +kernel
theorem dX9_step_115 : decode cX9_step 115 = .ok (.getfield 19, 3) := by decide +kernel
theorem dX9_step_118 : decode cX9_step 118 = .ok (.iload 5, 2) := by decide +kernel
theorem dX9_step_120 : decode cX9_step 120 = .ok (.aload 6, 2) := by decide +kernel
theorem dX9_step_122 : decode cX9_step 122 = .ok (.getfield 191, 3) := by decide +kernel
theorem dX9_step_125 : decode cX9_step 125 = .ok (.iconst 3, 1) := by decide +kernel
theorem dX9_step_126 : decode cX9_step 126 = .ok (.if_icmp .ne 26, 3) := by decide +kernel
theorem dX9_step_129 : decode cX9_step 129 = .ok (.aload_n 0, 1) := by decide +kernel
theorem dX9_step_130 : decode cX9_step 130 = .ok (.getfield 42, 3) := by decide +kernel
theorem dX9_step_133 : decode cX9_step 133 = .ok (.aload_n 0, 1) := by decide +kernel
theorem dX9_step_134 : decode cX9_step 134 = .ok (.getfield 3, 3) := by decide +kernel
theorem dX9_step_137 : decode cX9_step 137 = .ok (.getfield 64, 3) := by decide +kernel
theorem dX9_step_140 : decode cX9_step 140 = .ok (.aload 6, 2) := by decide +kernel
theorem dX9_step_142 : decode cX9_step 142 = .ok (.getfield 189, 3) := by decide +kernel
theorem dX9_step_145 : decode cX9_step 145 = .ok (.invokevirtual 94, 3) := by decide +kernel
theorem dX9_step_148 : decode cX9_step 148 = .ok (.iand, 1) := by decide +kernel
theorem dX9_step_149 : decode cX9_step 149 = .ok (.goto 12, 3) := by decide +kernel
theorem dX9_step_152 : decode cX9_step 152 = .ok (.aload_n 0, 1) := by decide +kernel
theorem dX9_step_153 : decode cX9_step 153 = .ok (.aload 6, 2) := by decide +kernel
theorem dX9_step_155 : decode cX9_step 155 = .ok (.getfield 189, 3) := by decide +kernel
theorem dX9_step_158 : decode cX9_step 158 = .ok (.invokevirtual 193, 3) := by decide +kernel
theorem dX9_step_161 : decode cX9_step 161 = .ok (.iastore, 1) := by decide +kernel
theorem dX9_step_162 : decode cX9_step 162 = .ok (.iinc 5 1, 3) := by decide +kernel
theorem dX9_step_165 : decode cX9_step 165 = .ok (.goto (-113), 3) := by decide +kernel
theorem dX9_step_168 : decode cX9_step 168 = .ok (.aload_n 0, 1) := by decide +kernel
theorem dX9_step_169 : decode cX9_step 169 = .ok (.getfield 3, 3) := by decide +kernel
theorem dX9_step_172 : decode cX9_step 172 = .ok (.getfield 64, 3) := by decide +kernel
theorem dX9_step_175 : decode cX9_step 175 = .ok (.getfield 68, 3) := by decide +kernel
theorem dX9_step_178 : decode cX9_step 178 = .ok (.invokevirtual 73, 3) := by decide +kernel
theorem dX9_step_181 : decode cX9_step 181 = .ok (.iconst 1, 1) := by decide +kernel
theorem dX9_step_182 : decode cX9_step 182 = .ok (.isub, 1) := by decide +kernel
theorem dX9_step_183 : decode cX9_step 183 = .ok (.istore 5, 2) := by decide +kernel
theorem dX9_step_185 : decode cX9_step 185 = .ok (.iload 5, 2) := by decide +kernel
theorem dX9_step_187 : decode cX9_step 187 = .ok (.ifCond .lt 62, 3) := by decide +kernel
theorem dX9_step_190 : decode cX9_step 190 = .ok (.iload 4, 2) := by decide +kernel
theorem dX9_step_192 : decode cX9_step 192 = .ok (.iload 5, 2) := by decide +kernel
theorem dX9_step_194 : decode cX9_step 194 = .ok (.invokestatic 77, 3) := by decide +kernel
theorem dX9_step_197 : decode cX9_step 197 = .ok (.ifCond .ne 6, 3) := by decide +kernel
theorem dX9_step_200 : decode cX9_step 200 = .ok (.goto 43, 3) := by decide +kernel
theorem dX9_step_203 : decode cX9_step 203 = .ok (.aload_n 0, 1) := by decide +kernel
theorem dX9_step_204 : decode cX9_step 204 = .ok (.dup, 1) := by decide +kernel
theorem dX9_step_205 : decode cX9_step 205 = .ok (.getfield 42, 3) := by decide +kernel
theorem dX9_step_208 : decode cX9_step 208 = .ok (.iconst 1, 1) := by decide +kernel
theorem dX9_step_209 : decode cX9_step 209 = .ok (.iload 5, 2) := by decide +kernel
theorem dX9_step_211 : decode cX9_step 211 = .ok (.ishl, 1) := by decide +kernel
theorem dX9_step_212 : decode cX9_step 212 = .ok (.iconst (-1), 1) := by decide +kernel
theorem dX9_step_213 : decode cX9_step 213 = .ok (.ixor, 1) := by decide +kernel
theorem dX9_step_214 : decode cX9_step 214 = .ok (.iand, 1) := by decide +kernel
theorem dX9_step_215 : decode cX9_step 215 = .ok (.putfield 42, 3) := by decide +kernel
theorem dX9_step_218 : decode cX9_step 218 = .ok (.aload_n 0, 1) := by decide +kernel
theorem dX9_step_219 : decode cX9_step 219 = .ok (.aload_n 0, 1) := by decide +kernel
theorem dX9_step_220 : decode cX9_step 220 = .ok (.getfield 3, 3) := by decide +kernel
theorem dX9_step_223 : decode cX9_step 223 = .ok (.getfield 64, 3) := by decide +kernel
theorem dX9_step_226 : decode cX9_step 226 = .ok (.getfield 68, 3) := by decide +kernel
theorem dX9_step_229 : decode cX9_step 229 = .ok (.iload 5, 2) := by decide +kernel
theorem dX9_step_231 : decode cX9_step 231 = .ok (.invokevirtual 114, 3) := by decide +kernel
theorem dX9_step_234 : decode cX9_step 234 = .ok (.checkcast 118, 3) := by decide +kernel
theorem dX9_step_237 : decode cX9_step 237 = .ok (.getfield 196, 3) := by decide +kernel
theorem dX9_step_240 : decode cX9_step 240 = .ok (.invokevirtual 123, 3) := by decide +kernel
theorem dX9_step_243 : decode cX9_step 243 = .ok (.iinc 5 (-1), 3) := by decide +kernel
theorem dX9_step_246 : decode cX9_step 246 = .ok (.goto (-61), 3) := by decide +kernel
theorem dX9_step_249 : decode cX9_step 249 = .ok (.iconst 0, 1) := by decide +kernel
theorem dX9_step_250 : decode cX9_step 250 = .ok (.istore 5, 2) := by decide +kernel
theorem dX9_step_252 : decode cX9_step 252 = .ok (.iload 5, 2) := by decide +kernel
theorem dX9_step_254 : decode cX9_step 254 = .ok (.aload_n 3, 1) := by decide +kernel
theorem dX9_step_255 : decode cX9_step 255 = .ok (.invokevirtual 73, 3) := by decide +kernel
theorem dX9_step_258 : decode cX9_step 258 = .ok (.if_icmp .ge 44, 3) := by decide +kernel
theorem dX9_step_261 : decode cX9_step 261 = .ok (.aload_n 0, 1) := by decide +kernel
theorem dX9_step_262 : decode cX9_step 262 = .ok (.aload_n 0, 1) := by decide +kernel
theorem dX9_step_263 : decode cX9_step 263 = .ok (.getfield 3, 3) := by decide +kernel
theorem dX9_step_266 : decode cX9_step 266 = .ok (.getfield 64, 3) := by decide +kernel
theorem dX9_step_269 : decode cX9_step 269 = .ok (.getfield 145, 3) := by decide +kernel
theorem dX9_step_272 : decode cX9_step 272 = .ok (.aload_n 3, 1) := by decide +kernel
theorem dX9_step_273 : decode cX9_step 273 = .ok (.iload 5, 2) := by decide +kernel
theorem dX9_step_275 : decode cX9_step 275 = .ok (.invokevirtual 114, 3) := by decide +kernel
theorem dX9_step_278 : decode cX9_step 278 = .ok (.checkcast 105, 3) := by decide +kernel
theorem dX9_step_281 : decode cX9_step 281 = .ok (.invokevirtual 172, 3) := by decide +kernel
theorem dX9_step_284 : decode cX9_step 284 = .ok (.invokevirtual 114, 3) := by decide +kernel
theorem dX9_step_287 : decode cX9_step 287 = .ok (.checkcast 128, 3) := by decide +kernel
theorem dX9_step_290 : decode cX9_step 290 = .ok (.getfield 199, 3) := by decide +kernel
theorem dX9_step_293 : decode cX9_step 293 = .ok (.invokevirtual 123, 3) := by decide +kernel
theorem dX9_step_296 : decode cX9_step 296 = .ok (.iinc 5 1, 3) := by decide +kernel
theorem dX9_step_299 : decode cX9_step 299 = .ok (.goto (-47), 3) := by decide +kernel
theorem dX9_step_302 : decode cX9_step 302 = .ok (.iconst 0, 1) := by decide +kernel
theorem dX9_step_303 : decode cX9_step 303 = .ok (.istore 5, 2) := by decide +kernel
theorem dX9_step_305 : decode cX9_step 305 = .ok (.iconst 0, 1) := by decide +kernel
theorem dX9_step_306 : decode cX9_step 306 = .ok (.istore 6, 2) := by decide +kernel
theorem dX9_step_308 : decode cX9_step 308 = .ok (.iload 6, 2) := by decide +kernel
theorem dX9_step_310 : decode cX9_step 310 = .ok (.aload_n 3, 1) := by decide +kernel
theorem dX9_step_311 : decode cX9_step 311 = .ok (.invokevirtual 73, 3) := by decide +kernel
theorem dX9_step_314 : decode cX9_step 314 = .ok (.if_icmp .ge 46, 3) := by decide +kernel
theorem dX9_step_317 : decode cX9_step 317 = .ok (.iload 5, 2) := by decide +kernel
theorem dX9_step_319 : decode cX9_step 319 = .ok (.aload_n 0, 1) := by decide +kernel
theorem dX9_step_320 : decode cX9_step 320 = .ok (.aload_n 0, 1) := by decide +kernel
theorem dX9_step_321 : decode cX9_step 321 = .ok (.getfield 3, 3) := by decide +kernel
theorem dX9_step_324 : decode cX9_step 324 = .ok (.getfield 64, 3) := by decide +kernel
theorem dX9_step_327 : decode cX9_step 327 = .ok (.getfield 145, 3) := by decide +kernel
theorem dX9_step_330 : decode cX9_step 330 = .ok (.aload_n 3, 1) := by decide +kernel
theorem dX9_step_331 : decode cX9_step 331 = .ok (.iload 6, 2) := by decide +kernel
theorem dX9_step_333 : decode cX9_step 333 = .ok (.invokevirtual 114, 3) := by decide +kernel
theorem dX9_step_336 : decode cX9_step 336 = .ok (.checkcast 105, 3) := by decide +kernel
theorem dX9_step_339 : decode cX9_step 339 = .ok (.invokevirtual 172, 3) := by decide +kernel
theorem dX9_step_342 : decode cX9_step 342 = .ok (.invokevirtual 114, 3) := by decide +kernel
theorem dX9_step_345 : decode cX9_step 345 = .ok (.checkcast 128, 3) := by decide +kernel
theorem dX9_step_348 : decode cX9_step 348 = .ok (.invokevirtual 202, 3) := by decide +kernel
theorem dX9_step_351 : decode cX9_step 351 = .ok (.ior, 1) := by decide +kernel
theorem dX9_step_352 : decode cX9_step 352 = .ok (.istore 5, 2) := by decide +kernel
theorem dX9_step_354 : decode cX9_step 354 = .ok (.iinc 6 1, 3) := by decide +kernel
theorem dX9_step_357 : decode cX9_step 357 = .ok (.goto (-49), 3) := by decide +kernel
theorem dX9_step_360 : decode cX9_step 360 = .ok (.aload_n 0, 1) := by decide +kernel
theorem dX9_step_361 : decode cX9_step 361 = .ok (.iload 5, 2) := by decide +kernel
theorem dX9_step_363 : decode cX9_step 363 = .ok (.invokevirtual 205, 3) := by decide +kernel
theorem dX9_step_366 : decode cX9_step 366 = .ok (.iconst 0, 1) := by decide +kernel
theorem dX9_step_367 : decode cX9_step 367 = .ok (.istore 6, 2) := by decide +kernel
theorem dX9_step_369 : decode cX9_step 369 = .ok (.iload 6, 2) := by decide +kernel
theorem dX9_step_371 : decode cX9_step 371 = .ok (.aload_n 3, 1) := by decide +kernel
theorem dX9_step_372 : decode cX9_step 372 = .ok (.invokevirtual 73, 3) := by decide +kernel
theorem dX9_step_375 : decode cX9_step 375 = .ok (.if_icmp .ge 30, 3) := by decide +kernel
theorem dX9_step_378 : decode cX9_step 378 = .ok (.aload_n 0, 1) := by decide +kernel
theorem dX9_step_379 : decode cX9_step 379 = .ok (.getfield 25, 3) := by decide +kernel
theorem dX9_step_382 : decode cX9_step 382 = .ok (.aload_n 3, 1) := by decide +kernel
theorem dX9_step_383 : decode cX9_step 383 = .ok (.iload 6, 2) := by decide +kernel
theorem dX9_step_385 : decode cX9_step 385 = .ok (.invokevirtual 114, 3) := by decide +kernel
theorem dX9_step_388 : decode cX9_step 388 = .ok (.checkcast 105, 3) := by decide +kernel
theorem dX9_step_391 : decode cX9_step 391 = .ok (.invokevirtual 172, 3) := by decide +kernel
theorem dX9_step_394 : decode cX9_step 394 = .ok (.dup2, 1) := by decide +kernel
theorem dX9_step_395 : decode cX9_step 395 = .ok (.iaload, 1) := by decide +kernel
theorem dX9_step_396 : decode cX9_step 396 = .ok (.iconst 1, 1) := by decide +kernel
theorem dX9_step_397 : decode cX9_step 397 = .ok (.iadd, 1) := by decide +kernel
theorem dX9_step_398 : decode cX9_step 398 = .ok (.iastore, 1) := by decide +kernel
theorem dX9_step_399 : decode cX9_step 399 = .ok (.iinc 6 1, 3) := by decide +kernel
theorem dX9_step_402 : decode cX9_step 402 = .ok (.goto (-33), 3) := by decide +kernel
theorem dX9_step_405 : decode cX9_step 405 = .ok (.aload_n 3, 1) := by decide +kernel
theorem dX9_step_406 : decode cX9_step 406 = .ok (.invokevirtual 73, 3) := by decide +kernel
theorem dX9_step_409 : decode cX9_step 409 = .ok (.ireturn, 1) := by decide +kernel
theorem dX9_settle_0 : decode cX9_settle 0 = .ok (.iconst 0, 1) := by decide +kernel
theorem dX9_settle_1 : decode cX9_settle 1 = .ok (.istore_n 2, 1) := by decide +kernel
theorem dX9_settle_2 : decode cX9_settle 2 = .ok (.iload_n 1, 1) := by decide +kernel
theorem dX9_settle_3 : decode cX9_settle 3 = .ok (.istore_n 3, 1) := by decide +kernel
theorem dX9_settle_4 : decode cX9_settle 4 = .ok (.aload_n 0, 1) := by decide +kernel
theorem dX9_settle_5 : decode cX9_settle 5 = .ok (.invokevirtual 217, 3) := by decide +kernel
theorem dX9_settle_8 : decode cX9_settle 8 = .ok (.ifCond .ne 76, 3) := by decide +kernel
theorem dX9_settle_11 : decode cX9_settle 11 = .ok (.iload_n 3, 1) := by decide +kernel
theorem dX9_settle_12 : decode cX9_settle 12 = .ok (.bipush 12, 2) := by decide +kernel
theorem dX9_settle_14 : decode cX9_settle 14 = .ok (.if_icmp .ge 70, 3) := by decide +kernel
theorem dX9_settle_17 : decode cX9_settle 17 = .ok (.aload_n 0, 1) := by decide +kernel
theorem dX9_settle_18 : decode cX9_settle 18 = .ok (.iconst 2, 1) := by decide +kernel
theorem dX9_settle_19 : decode cX9_settle 19 = .ok (.iconst (-1), 1) := by decide +kernel
theorem dX9_settle_20 : decode cX9_settle 20 = .ok (.invokevirtual 220, 3) := by decide +kernel
theorem dX9_settle_23 : decode cX9_settle 23 = .ok (.istore 4, 2) := by decide +kernel
theorem dX9_settle_25 : decode cX9_settle 25 = .ok (.iload 4, 2) := by decide +kernel
theorem dX9_settle_27 : decode cX9_settle 27 = .ok (.ifCond .ne 36, 3) := by decide +kernel
theorem dX9_settle_30 : decode cX9_settle 30 = .ok (.aload_n 0, 1) := by decide +kernel
theorem dX9_settle_31 : decode cX9_settle 31 = .ok (.getfield 31, 3) := by decide +kernel
theorem dX9_settle_34 : decode cX9_settle 34 = .ok (.invokevirtual 223, 3) := by decide +kernel
theorem dX9_settle_37 : decode cX9_settle 37 = .ok (.ifCond .eq 5, 3) := by decide +kernel
theorem dX9_settle_40 : decode cX9_settle 40 = .ok (.iload_n 2, 1) := by decide +kernel
theorem dX9_settle_41 : decode cX9_settle 41 = .ok (.ireturn, 1) := by decide +kernel
theorem dX9_settle_42 : decode cX9_settle 42 = .ok (.aload_n 0, 1) := by decide +kernel
theorem dX9_settle_43 : decode cX9_settle 43 = .ok (.iconst 0, 1) := by decide +kernel
theorem dX9_settle_44 : decode cX9_settle 44 = .ok (.aload_n 0, 1) := by decide +kernel
theorem dX9_settle_45 : decode cX9_settle 45 = .ok (.getfield 31, 3) := by decide +kernel
theorem dX9_settle_48 : decode cX9_settle 48 = .ok (.iconst 0, 1) := by decide +kernel
theorem dX9_settle_49 : decode cX9_settle 49 = .ok (.invokevirtual 178, 3) := by decide +kernel
theorem dX9_settle_52 : decode cX9_settle 52 = .ok (.checkcast 105, 3) := by decide +kernel
theorem dX9_settle_55 : decode cX9_settle 55 = .ok (.invokevirtual 172, 3) := by decide +kernel
theorem dX9_settle_58 : decode cX9_settle 58 = .ok (.invokevirtual 220, 3) := by decide +kernel
theorem dX9_settle_61 : decode cX9_settle 61 = .ok (.istore 4, 2) := by decide +kernel
theorem dX9_settle_63 : decode cX9_settle 63 = .ok (.iload_n 2, 1) := by decide +kernel
theorem dX9_settle_64 : decode cX9_settle 64 = .ok (.iload 4, 2) := by decide +kernel
theorem dX9_settle_66 : decode cX9_settle 66 = .ok (.iadd, 1) := by decide +kernel
theorem dX9_settle_67 : decode cX9_settle 67 = .ok (.istore_n 2, 1) := by decide +kernel
theorem dX9_settle_68 : decode cX9_settle 68 = .ok (.iload_n 3, 1) := by decide +kernel
theorem dX9_settle_69 : decode cX9_settle 69 = .ok (.iload 4, 2) := by decide +kernel
theorem dX9_settle_71 : decode cX9_settle 71 = .ok (.ifCond .le 7, 3) := by decide +kernel
theorem dX9_settle_74 : decode cX9_settle 74 = .ok (.iconst 1, 1) := by decide +kernel
theorem dX9_settle_75 : decode cX9_settle 75 = .ok (.goto 4, 3) := by decide +kernel
theorem dX9_settle_78 : decode cX9_settle 78 = .ok (.iconst 0, 1) := by decide +kernel
theorem dX9_settle_79 : decode cX9_settle 79 = .ok (.iadd, 1) := by decide +kernel
theorem dX9_settle_80 : decode cX9_settle 80 = .ok (.istore_n 3, 1) := by decide +kernel
theorem dX9_settle_81 : decode cX9_settle 81 = .ok (.goto (-77), 3) := by decide +kernel
theorem dX9_settle_84 : decode cX9_settle 84 = .ok (.aload_n 0, 1) := by decide +kernel
theorem dX9_settle_85 : decode cX9_settle 85 = .ok (.dup, 1) := by decide +kernel
theorem dX9_settle_86 : decode cX9_settle 86 = .ok (.getfield 58, 3) := by decide +kernel
theorem dX9_settle_89 : decode cX9_settle 89 = .ok (.aload_n 0, 1) := by decide +kernel
theorem dX9_settle_90 : decode cX9_settle 90 = .ok (.getfield 31, 3) := by decide +kernel
theorem dX9_settle_93 : decode cX9_settle 93 = .ok (.invokevirtual 73, 3) := by decide +kernel
theorem dX9_settle_96 : decode cX9_settle 96 = .ok (.iadd, 1) := by decide +kernel
theorem dX9_settle_97 : decode cX9_settle 97 = .ok (.putfield 58, 3) := by decide +kernel
theorem dX9_settle_100 : decode cX9_settle 100 = .ok (.aload_n 0, 1) := by decide +kernel
theorem dX9_settle_101 : decode cX9_settle 101 = .ok (.getfield 31, 3) := by decide +kernel
theorem dX9_settle_104 : decode cX9_settle 104 = .ok (.invokevirtual 226, 3) := by decide +kernel
theorem dX9_settle_107 : decode cX9_settle 107 = .ok (.aload_n 0, 1) := by decide +kernel
theorem dX9_settle_108 : decode cX9_settle 108 = .ok (.dup, 1) := by decide +kernel
theorem dX9_settle_109 : decode cX9_settle 109 = .ok (.getfield 61, 3) := by decide +kernel
theorem dX9_settle_112 : decode cX9_settle 112 = .ok (.aload_n 0, 1) := by decide +kernel
theorem dX9_settle_113 : decode cX9_settle 113 = .ok (.invokevirtual 217, 3) := by decide +kernel
theorem dX9_settle_116 : decode cX9_settle 116 = .ok (.ifCond .eq 7, 3) := by decide +kernel
theorem dX9_settle_119 : decode cX9_settle 119 = .ok (.iconst 0, 1) := by decide +kernel
theorem dX9_settle_120 : decode cX9_settle 120 = .ok (.goto 4, 3) := by decide +kernel
theorem dX9_settle_123 : decode cX9_settle 123 = .ok (.iconst 1, 1) := by decide +kernel
theorem dX9_settle_124 : decode cX9_settle 124 = .ok (.iadd, 1) := by decide +kernel
theorem dX9_settle_125 : decode cX9_settle 125 = .ok (.putfield 61, 3) := by decide +kernel
theorem dX9_settle_128 : decode cX9_settle 128 = .ok (.iload_n 2, 1) := by decide +kernel
theorem dX9_settle_129 : decode cX9_settle 129 = .ok (.ireturn, 1) := by decide +kernel
theorem dX9_start_0 : decode cX9_start 0 = .ok (.aload_n 0, 1) := by decide +kernel
theorem dX9_start_1 : decode cX9_start 1 = .ok (.iconst 1, 1) := by decide +kernel
theorem dX9_start_2 : decode cX9_start 2 = .ok (.putfield 38, 3) := by decide +kernel
theorem dX9_start_5 : decode cX9_start 5 = .ok (.aload_n 0, 1) := by decide +kernel
theorem dX9_start_6 : decode cX9_start 6 = .ok (.iconst 0, 1) := by decide +kernel
theorem dX9_start_7 : decode cX9_start 7 = .ok (.putfield 55, 3) := by decide +kernel
theorem dX9_start_10 : decode cX9_start 10 = .ok (.aload_n 0, 1) := by decide +kernel
theorem dX9_start_11 : decode cX9_start 11 = .ok (.iconst 0, 1) := by decide +kernel
theorem dX9_start_12 : decode cX9_start 12 = .ok (.putfield 58, 3) := by decide +kernel
theorem dX9_start_15 : decode cX9_start 15 = .ok (.aload_n 0, 1) := by decide +kernel
theorem dX9_start_16 : decode cX9_start 16 = .ok (.iconst 0, 1) := by decide +kernel
theorem dX9_start_17 : decode cX9_start 17 = .ok (.putfield 61, 3) := by decide +kernel
theorem dX9_start_20 : decode cX9_start 20 = .ok (.aload_n 0, 1) := by decide +kernel
theorem dX9_start_21 : decode cX9_start 21 = .ok (.getfield 31, 3) := by decide +kernel
theorem dX9_start_24 : decode cX9_start 24 = .ok (.invokevirtual 226, 3) := by decide +kernel
theorem dX9_start_27 : decode cX9_start 27 = .ok (.iconst 0, 1) := by decide +kernel
theorem dX9_start_28 : decode cX9_start 28 = .ok (.istore_n 1, 1) := by decide +kernel
theorem dX9_start_29 : decode cX9_start 29 = .ok (.iload_n 1, 1) := by decide +kernel
theorem dX9_start_30 : decode cX9_start 30 = .ok (.iconst 4, 1) := by decide +kernel
theorem dX9_start_31 : decode cX9_start 31 = .ok (.if_icmp .ge 16, 3) := by decide +kernel
theorem dX9_start_34 : decode cX9_start 34 = .ok (.aload_n 0, 1) := by decide +kernel
theorem dX9_start_35 : decode cX9_start 35 = .ok (.getfield 22, 3) := by decide +kernel
theorem dX9_start_38 : decode cX9_start 38 = .ok (.iload_n 1, 1) := by decide +kernel
theorem dX9_start_39 : decode cX9_start 39 = .ok (.iconst 0, 1) := by decide +kernel
theorem dX9_start_40 : decode cX9_start 40 = .ok (.iastore, 1) := by decide +kernel
theorem dX9_start_41 : decode cX9_start 41 = .ok (.iinc 1 1, 3) := by decide +kernel
theorem dX9_start_44 : decode cX9_start 44 = .ok (.goto (-15), 3) := by decide +kernel
theorem dX9_start_47 : decode cX9_start 47 = .ok (.iconst 0, 1) := by decide +kernel
theorem dX9_start_48 : decode cX9_start 48 = .ok (.istore_n 1, 1) := by decide +kernel
theorem dX9_start_49 : decode cX9_start 49 = .ok (.iload_n 1, 1) := by decide +kernel
theorem dX9_start_50 : decode cX9_start 50 = .ok (.bipush 20, 2) := by decide +kernel
theorem dX9_start_52 : decode cX9_start 52 = .ok (.if_icmp .ge 16, 3) := by decide +kernel
theorem dX9_start_55 : decode cX9_start 55 = .ok (.aload_n 0, 1) := by decide +kernel
theorem dX9_start_56 : decode cX9_start 56 = .ok (.getfield 19, 3) := by decide +kernel
theorem dX9_start_59 : decode cX9_start 59 = .ok (.iload_n 1, 1) := by decide +kernel
theorem dX9_start_60 : decode cX9_start 60 = .ok (.iconst 0, 1) := by decide +kernel
theorem dX9_start_61 : decode cX9_start 61 = .ok (.iastore, 1) := by decide +kernel
theorem dX9_start_62 : decode cX9_start 62 = .ok (.iinc 1 1, 3) := by decide +kernel
theorem dX9_start_65 : decode cX9_start 65 = .ok (.goto (-16), 3) := by decide +kernel
theorem dX9_start_68 : decode cX9_start 68 = .ok (.iconst 0, 1) := by decide +kernel
theorem dX9_start_69 : decode cX9_start 69 = .ok (.istore_n 1, 1) := by decide +kernel
theorem dX9_start_70 : decode cX9_start 70 = .ok (.iload_n 1, 1) := by decide +kernel
theorem dX9_start_71 : decode cX9_start 71 = .ok (.bipush 30, 2) := by decide +kernel
theorem dX9_start_73 : decode cX9_start 73 = .ok (.if_icmp .ge 16, 3) := by decide +kernel
theorem dX9_start_76 : decode cX9_start 76 = .ok (.aload_n 0, 1) := by decide +kernel
theorem dX9_start_77 : decode cX9_start 77 = .ok (.getfield 25, 3) := by decide +kernel
theorem dX9_start_80 : decode cX9_start 80 = .ok (.iload_n 1, 1) := by decide +kernel
theorem dX9_start_81 : decode cX9_start 81 = .ok (.iconst 0, 1) := by decide +kernel
theorem dX9_start_82 : decode cX9_start 82 = .ok (.iastore, 1) := by decide +kernel
theorem dX9_start_83 : decode cX9_start 83 = .ok (.iinc 1 1, 3) := by decide +kernel
theorem dX9_start_86 : decode cX9_start 86 = .ok (.goto (-16), 3) := by decide +kernel
theorem dX9_start_89 : decode cX9_start 89 = .ok (.aload_n 0, 1) := by decide +kernel
theorem dX9_start_90 : decode cX9_start 90 = .ok (.aload_n 0, 1) := by decide +kernel
theorem dX9_start_91 : decode cX9_start 91 = .ok (.getfield 3, 3) := by decide +kernel
theorem dX9_start_94 : decode cX9_start 94 = .ok (.getfield 64, 3) := by decide +kernel
theorem dX9_start_97 : decode cX9_start 97 = .ok (.iconst 0, 1) := by decide +kernel
theorem dX9_start_98 : decode cX9_start 98 = .ok (.invokevirtual 214, 3) := by decide +kernel
theorem dX9_start_101 : decode cX9_start 101 = .ok (.invokevirtual 205, 3) := by decide +kernel
theorem dX9_start_104 : decode cX9_start 104 = .ok (.aload_n 0, 1) := by decide +kernel
theorem dX9_start_105 : decode cX9_start 105 = .ok (.iconst 0, 1) := by decide +kernel
theorem dX9_start_106 : decode cX9_start 106 = .ok (.invokevirtual 229, 3) := by decide +kernel
theorem dX9_start_109 : decode cX9_start 109 = .ok (.ireturn, 1) := by decide +kernel
theorem dX12_start__0 : decode cX12_start_ 0 = .ok (.aload_n 0, 1) := by decide +kernel
theorem dX12_start__1 : decode cX12_start_ 1 = .ok (.aload_n 0, 1) := by decide +kernel
theorem dX12_start__2 : decode cX12_start_ 2 = .ok (.getfield 21, 3) := by decide +kernel
theorem dX12_start__5 : decode cX12_start_ 5 = .ok (.getfield 63, 3) := by decide +kernel
theorem dX12_start__8 : decode cX12_start_ 8 = .ok (.iconst 1, 1) := by decide +kernel
theorem dX12_start__9 : decode cX12_start_ 9 = .ok (.invokevirtual 67, 3) := by decide +kernel
theorem dX12_start__12 : decode cX12_start_ 12 = .ok (.ifCond .eq 7, 3) := by decide +kernel
theorem dX12_start__15 : decode cX12_start_ 15 = .ok (.iconst 0, 1) := by decide +kernel
theorem dX12_start__16 : decode cX12_start_ 16 = .ok (.goto 10, 3) := by decide +kernel
theorem dX12_start__19 : decode cX12_start_ 19 = .ok (.aload_n 0, 1) := by decide +kernel
theorem dX12_start__20 : decode cX12_start_ 20 = .ok (.getfield 21, 3) := by decide +kernel
theorem dX12_start__23 : decode cX12_start_ 23 = .ok (.invokevirtual 124, 3) := by decide +kernel
theorem dX12_start__26 : decode cX12_start_ 26 = .ok (.ireturn, 1) := by decide +kernel
