theorem dX0_init_0 : decode cX0_init 0 = .ok (.aload_n 0, 1) := by decide +kernel
theorem dX0_init_1 : decode cX0_init 1 = .ok (.invokespecial 1, 3) := by decide +kernel
theorem dX0_init_4 : decode cX0_init 4 = .ok (.aload_n 0, 1) := by decide +kernel
theorem dX0_init_5 : decode cX0_init 5 = .ok (.bipush 8, 2) := by decide +kernel
theorem dX0_init_7 : decode cX0_init 7 = .ok (.newarray .int, 2) := by decide +kernel
theorem dX0_init_9 : decode cX0_init 9 = .ok (.putfield 9, 3) := by decide +kernel
theorem dX0_init_12 : decode cX0_init 12 = .ok (.aload_n 0, 1) := by decide +kernel
theorem dX0_init_13 : decode cX0_init 13 = .ok (.bipush 8, 2) := by decide +kernel
theorem dX0_init_15 : decode cX0_init 15 = .ok (.newarray .long, 2) := by decide +kernel
theorem dX0_init_17 : decode cX0_init 17 = .ok (.putfield 13, 3) := by decide +kernel
theorem dX0_init_20 : decode cX0_init 20 = .ok (.aload_n 0, 1) := by decide +kernel
theorem dX0_init_21 : decode cX0_init 21 = .ok (.sipush 1023, 3) := by decide +kernel
theorem dX0_init_24 : decode cX0_init 24 = .ok (.putfield 17, 3) := by decide +kernel
theorem dX0_init_27 : decode cX0_init 27 = .ok (.return_, 1) := by decide +kernel
theorem dX0_control_0 : decode cX0_control 0 = .ok (.iload_n 1, 1) := by decide +kernel
theorem dX0_control_1 : decode cX0_control 1 = .ok (.invokestatic 21, 3) := by decide +kernel
theorem dX0_control_4 : decode cX0_control 4 = .ok (.ifCond .eq 13, 3) := by decide +kernel
theorem dX0_control_7 : decode cX0_control 7 = .ok (.new 25, 3) := by decide +kernel
theorem dX0_control_10 : decode cX0_control 10 = .ok (.dup, 1) := by decide +kernel
theorem dX0_control_11 : decode cX0_control 11 = .ok (.ldc 27, 2) := by decide +kernel
theorem dX0_control_13 : decode cX0_control 13 = .ok (.invokespecial 29, 3) := by decide +kernel
theorem dX0_control_16 : decode cX0_control 16 = .ok (.athrow, 1) := by decide +kernel
theorem dX0_control_17 : decode cX0_control 17 = .ok (.aload_n 0, 1) := by decide +kernel
theorem dX0_control_18 : decode cX0_control 18 = .ok (.iload_n 1, 1) := by decide +kernel
theorem dX0_control_19 : decode cX0_control 19 = .ok (.putfield 17, 3) := by decide +kernel
theorem dX0_control_22 : decode cX0_control 22 = .ok (.return_, 1) := by decide +kernel
theorem dX0_hasMoreThan16Bits_0 : decode cX0_hasMoreThan16Bits 0 = .ok (.iload_n 0, 1) := by decide +kernel
theorem dX0_hasMoreThan16Bits_1 : decode cX0_hasMoreThan16Bits 1 = .ok (.ifCond .lt 9, 3) := by decide +kernel
theorem dX0_hasMoreThan16Bits_4 : decode cX0_hasMoreThan16Bits 4 = .ok (.iload_n 0, 1) := by decide +kernel
theorem dX0_hasMoreThan16Bits_5 : decode cX0_hasMoreThan16Bits 5 = .ok (.ldc 126, 2) := by decide +kernel
theorem dX0_hasMoreThan16Bits_7 : decode cX0_hasMoreThan16Bits 7 = .ok (.if_icmp .le 7, 3) := by decide +kernel
theorem dX0_hasMoreThan16Bits_10 : decode cX0_hasMoreThan16Bits 10 = .ok (.iconst 1, 1) := by decide +kernel
theorem dX0_hasMoreThan16Bits_11 : decode cX0_hasMoreThan16Bits 11 = .ok (.goto 4, 3) := by decide +kernel
theorem dX0_hasMoreThan16Bits_14 : decode cX0_hasMoreThan16Bits 14 = .ok (.iconst 0, 1) := by decide +kernel
theorem dX0_hasMoreThan16Bits_15 : decode cX0_hasMoreThan16Bits 15 = .ok (.ireturn, 1) := by decide +kernel
theorem dX0_set_0 : decode cX0_set 0 = .ok (.iload_n 1, 1) := by decide +kernel
theorem dX0_set_1 : decode cX0_set 1 = .ok (.invokestatic 32, 3) := by decide +kernel
theorem dX0_set_4 : decode cX0_set 4 = .ok (.ifCond .eq 13, 3) := by decide +kernel
theorem dX0_set_7 : decode cX0_set 7 = .ok (.new 35, 3) := by decide +kernel
theorem dX0_set_10 : decode cX0_set 10 = .ok (.dup, 1) := by decide +kernel
theorem dX0_set_11 : decode cX0_set 11 = .ok (.ldc 37, 2) := by decide +kernel
theorem dX0_set_13 : decode cX0_set 13 = .ok (.invokespecial 39, 3) := by decide +kernel
theorem dX0_set_16 : decode cX0_set 16 = .ok (.athrow, 1) := by decide +kernel
theorem dX0_set_17 : decode cX0_set 17 = .ok (.iload_n 2, 1) := by decide +kernel
theorem dX0_set_18 : decode cX0_set 18 = .ok (.invokestatic 21, 3) := by decide +kernel
theorem dX0_set_21 : decode cX0_set 21 = .ok (.ifCond .eq 13, 3) := by decide +kernel
theorem dX0_set_24 : decode cX0_set 24 = .ok (.new 25, 3) := by decide +kernel
theorem dX0_set_27 : decode cX0_set 27 = .ok (.dup, 1) := by decide +kernel
theorem dX0_set_28 : decode cX0_set 28 = .ok (.ldc 40, 2) := by decide +kernel
theorem dX0_set_30 : decode cX0_set 30 = .ok (.invokespecial 29, 3) := by decide +kernel
theorem dX0_set_33 : decode cX0_set 33 = .ok (.athrow, 1) := by decide +kernel
theorem dX0_set_34 : decode cX0_set 34 = .ok (.aload_n 0, 1) := by decide +kernel
theorem dX0_set_35 : decode cX0_set 35 = .ok (.getfield 9, 3) := by decide +kernel
theorem dX0_set_38 : decode cX0_set 38 = .ok (.iload_n 1, 1) := by decide +kernel
theorem dX0_set_39 : decode cX0_set 39 = .ok (.iload_n 2, 1) := by decide +kernel
theorem dX0_set_40 : decode cX0_set 40 = .ok (.iastore, 1) := by decide +kernel
theorem dX0_set_41 : decode cX0_set 41 = .ok (.aload_n 0, 1) := by decide +kernel
theorem dX0_set_42 : decode cX0_set 42 = .ok (.getfield 13, 3) := by decide +kernel
theorem dX0_set_45 : decode cX0_set 45 = .ok (.iload_n 1, 1) := by decide +kernel
theorem dX0_set_46 : decode cX0_set 46 = .ok (.iload_n 3, 1) := by decide +kernel
theorem dX0_set_47 : decode cX0_set 47 = .ok (.iload 4, 2) := by decide +kernel
theorem dX0_set_49 : decode cX0_set 49 = .ok (.invokestatic 42, 3) := by decide +kernel
theorem dX0_set_52 : decode cX0_set 52 = .ok (.lastore, 1) := by decide +kernel
theorem dX0_set_53 : decode cX0_set 53 = .ok (.return_, 1) := by decide +kernel
theorem dX0_isNoRegister_0 : decode cX0_isNoRegister 0 = .ok (.iload_n 0, 1) := by decide +kernel
theorem dX0_isNoRegister_1 : decode cX0_isNoRegister 1 = .ok (.ifCond .lt 9, 3) := by decide +kernel
theorem dX0_isNoRegister_4 : decode cX0_isNoRegister 4 = .ok (.iload_n 0, 1) := by decide +kernel
theorem dX0_isNoRegister_5 : decode cX0_isNoRegister 5 = .ok (.bipush 8, 2) := by decide +kernel
theorem dX0_isNoRegister_7 : decode cX0_isNoRegister 7 = .ok (.if_icmp .lt 7, 3) := by decide +kernel
theorem dX0_isNoRegister_10 : decode cX0_isNoRegister 10 = .ok (.iconst 1, 1) := by decide +kernel
theorem dX0_isNoRegister_11 : decode cX0_isNoRegister 11 = .ok (.goto 4, 3) := by decide +kernel
theorem dX0_isNoRegister_14 : decode cX0_isNoRegister 14 = .ok (.iconst 0, 1) := by decide +kernel
theorem dX0_isNoRegister_15 : decode cX0_isNoRegister 15 = .ok (.ireturn, 1) := by decide +kernel
theorem dX0_join_0 : decode cX0_join 0 = .ok (.iload_n 0, 1) := by decide +kernel
theorem dX0_join_1 : decode cX0_join 1 = .ok (.i2l, 1) := by decide +kernel
theorem dX0_join_2 : decode cX0_join 2 = .ok (.bipush 32, 2) := by decide +kernel
theorem dX0_join_4 : decode cX0_join 4 = .ok (.lshl, 1) := by decide +kernel
theorem dX0_join_5 : decode cX0_join 5 = .ok (.iload_n 1, 1) := by decide +kernel
theorem dX0_join_6 : decode cX0_join 6 = .ok (.i2l, 1) := by decide +kernel
theorem dX0_join_7 : decode cX0_join 7 = .ok (.ldc2_w 127, 3) := by decide +kernel
theorem dX0_join_10 : decode cX0_join 10 = .ok (.land, 1) := by decide +kernel
theorem dX0_join_11 : decode cX0_join 11 = .ok (.lor, 1) := by decide +kernel
theorem dX0_join_12 : decode cX0_join 12 = .ok (.lreturn, 1) := by decide +kernel
theorem dX0_part_0 : decode cX0_part 0 = .ok (.iload_n 1, 1) := by decide +kernel
theorem dX0_part_1 : decode cX0_part 1 = .ok (.invokestatic 32, 3) := by decide +kernel
theorem dX0_part_4 : decode cX0_part 4 = .ok (.ifCond .eq 13, 3) := by decide +kernel
theorem dX0_part_7 : decode cX0_part 7 = .ok (.new 35, 3) := by decide +kernel
theorem dX0_part_10 : decode cX0_part 10 = .ok (.dup, 1) := by decide +kernel
theorem dX0_part_11 : decode cX0_part 11 = .ok (.ldc 37, 2) := by decide +kernel
theorem dX0_part_13 : decode cX0_part 13 = .ok (.invokespecial 39, 3) := by decide +kernel
theorem dX0_part_16 : decode cX0_part 16 = .ok (.athrow, 1) := by decide +kernel
theorem dX0_part_17 : decode cX0_part 17 = .ok (.iload_n 2, 1) := by decide +kernel
theorem dX0_part_18 : decode cX0_part 18 = .ok (.tableswitch 76 0 4 #[34, 41, 52, 60, 66], 34) := by decide +kernel
theorem dX0_part_52 : decode cX0_part 52 = .ok (.aload_n 0, 1) := by decide +kernel
theorem dX0_part_53 : decode cX0_part 53 = .ok (.getfield 9, 3) := by decide +kernel
theorem dX0_part_56 : decode cX0_part 56 = .ok (.iload_n 1, 1) := by decide +kernel
theorem dX0_part_57 : decode cX0_part 57 = .ok (.iaload, 1) := by decide +kernel
theorem dX0_part_58 : decode cX0_part 58 = .ok (.ireturn, 1) := by decide +kernel
theorem dX0_part_59 : decode cX0_part 59 = .ok (.aload_n 0, 1) := by decide +kernel
theorem dX0_part_60 : decode cX0_part 60 = .ok (.getfield 13, 3) := by decide +kernel
theorem dX0_part_63 : decode cX0_part 63 = .ok (.iload_n 1, 1) := by decide +kernel
theorem dX0_part_64 : decode cX0_part 64 = .ok (.laload, 1) := by decide +kernel
theorem dX0_part_65 : decode cX0_part 65 = .ok (.bipush 32, 2) := by decide +kernel
theorem dX0_part_67 : decode cX0_part 67 = .ok (.lushr, 1) := by decide +kernel
theorem dX0_part_68 : decode cX0_part 68 = .ok (.l2i, 1) := by decide +kernel
theorem dX0_part_69 : decode cX0_part 69 = .ok (.ireturn, 1) := by decide +kernel
theorem dX0_part_70 : decode cX0_part 70 = .ok (.aload_n 0, 1) := by decide +kernel
theorem dX0_part_71 : decode cX0_part 71 = .ok (.getfield 13, 3) := by decide +kernel
theorem dX0_part_74 : decode cX0_part 74 = .ok (.iload_n 1, 1) := by decide +kernel
theorem dX0_part_75 : decode cX0_part 75 = .ok (.laload, 1) := by decide +kernel
theorem dX0_part_76 : decode cX0_part 76 = .ok (.l2i, 1) := by decide +kernel
theorem dX0_part_77 : decode cX0_part 77 = .ok (.ireturn, 1) := by decide +kernel
theorem dX0_part_78 : decode cX0_part 78 = .ok (.aload_n 0, 1) := by decide +kernel
theorem dX0_part_79 : decode cX0_part 79 = .ok (.iload_n 1, 1) := by decide +kernel
theorem dX0_part_80 : decode cX0_part 80 = .ok (.invokevirtual 46, 3) := by decide +kernel
theorem dX0_part_83 : decode cX0_part 83 = .ok (.ireturn, 1) := by decide +kernel
theorem dX0_part_84 : decode cX0_part 84 = .ok (.aload_n 0, 1) := by decide +kernel
theorem dX0_part_85 : decode cX0_part 85 = .ok (.getfield 13, 3) := by decide +kernel
theorem dX0_part_88 : decode cX0_part 88 = .ok (.iload_n 1, 1) := by decide +kernel
theorem dX0_part_89 : decode cX0_part 89 = .ok (.laload, 1) := by decide +kernel
theorem dX0_part_90 : decode cX0_part 90 = .ok (.invokestatic 50, 3) := by decide +kernel
theorem dX0_part_93 : decode cX0_part 93 = .ok (.ireturn, 1) := by decide +kernel
theorem dX0_part_94 : decode cX0_part 94 = .ok (.new 25, 3) := by decide +kernel
theorem dX0_part_97 : decode cX0_part 97 = .ok (.dup, 1) := by decide +kernel
theorem dX0_part_98 : decode cX0_part 98 = .ok (.ldc 56, 2) := by decide +kernel
theorem dX0_part_100 : decode cX0_part 100 = .ok (.invokespecial 29, 3) := by decide +kernel
theorem dX0_part_103 : decode cX0_part 103 = .ok (.athrow, 1) := by decide +kernel
theorem dX0_kindOf_0 : decode cX0_kindOf 0 = .ok (.aload_n 0, 1) := by decide +kernel
theorem dX0_kindOf_1 : decode cX0_kindOf 1 = .ok (.iload_n 1, 1) := by decide +kernel
theorem dX0_kindOf_2 : decode cX0_kindOf 2 = .ok (.invokevirtual 80, 3) := by decide +kernel
theorem dX0_kindOf_5 : decode cX0_kindOf 5 = .ok (.istore_n 2, 1) := by decide +kernel
theorem dX0_kindOf_6 : decode cX0_kindOf 6 = .ok (.aload_n 0, 1) := by decide +kernel
theorem dX0_kindOf_7 : decode cX0_kindOf 7 = .ok (.getfield 13, 3) := by decide +kernel
theorem dX0_kindOf_10 : decode cX0_kindOf 10 = .ok (.iload_n 1, 1) := by decide +kernel
theorem dX0_kindOf_11 : decode cX0_kindOf 11 = .ok (.laload, 1) := by decide +kernel
theorem dX0_kindOf_12 : decode cX0_kindOf 12 = .ok (.lstore_n 3, 1) := by decide +kernel
theorem dX0_kindOf_13 : decode cX0_kindOf 13 = .ok (.iload_n 2, 1) := by decide +kernel
theorem dX0_kindOf_14 : decode cX0_kindOf 14 = .ok (.sipush 32767, 3) := by decide +kernel
theorem dX0_kindOf_17 : decode cX0_kindOf 17 = .ok (.if_icmp .ne 19, 3) := by decide +kernel
theorem dX0_kindOf_20 : decode cX0_kindOf 20 = .ok (.lload_n 3, 1) := by decide +kernel
theorem dX0_kindOf_21 : decode cX0_kindOf 21 = .ok (.ldc2_w 130, 3) := by decide +kernel
theorem dX0_kindOf_24 : decode cX0_kindOf 24 = .ok (.land, 1) := by decide +kernel
theorem dX0_kindOf_25 : decode cX0_kindOf 25 = .ok (.lconst 0, 1) := by decide +kernel
theorem dX0_kindOf_26 : decode cX0_kindOf 26 = .ok (.lcmp, 1) := by decide +kernel
theorem dX0_kindOf_27 : decode cX0_kindOf 27 = .ok (.ifCond .ne 7, 3) := by decide +kernel
theorem dX0_kindOf_30 : decode cX0_kindOf 30 = .ok (.iconst 4, 1) := by decide +kernel
theorem dX0_kindOf_31 : decode cX0_kindOf 31 = .ok (.goto 4, 3) := by decide +kernel
theorem dX0_kindOf_34 : decode cX0_kindOf 34 = .ok (.iconst 5, 1) := by decide +kernel
theorem dX0_kindOf_35 : decode cX0_kindOf 35 = .ok (.ireturn, 1) := by decide +kernel
theorem dX0_kindOf_36 : decode cX0_kindOf 36 = .ok (.iload_n 2, 1) := by decide +kernel
theorem dX0_kindOf_37 : decode cX0_kindOf 37 = .ok (.ifCond .ne 15, 3) := by decide +kernel
theorem dX0_kindOf_40 : decode cX0_kindOf 40 = .ok (.lload_n 3, 1) := by decide +kernel
theorem dX0_kindOf_41 : decode cX0_kindOf 41 = .ok (.lconst 0, 1) := by decide +kernel
theorem dX0_kindOf_42 : decode cX0_kindOf 42 = .ok (.lcmp, 1) := by decide +kernel
theorem dX0_kindOf_43 : decode cX0_kindOf 43 = .ok (.ifCond .ne 7, 3) := by decide +kernel
theorem dX0_kindOf_46 : decode cX0_kindOf 46 = .ok (.iconst 0, 1) := by decide +kernel
theorem dX0_kindOf_47 : decode cX0_kindOf 47 = .ok (.goto 4, 3) := by decide +kernel
theorem dX0_kindOf_50 : decode cX0_kindOf 50 = .ok (.iconst 1, 1) := by decide +kernel
theorem dX0_kindOf_51 : decode cX0_kindOf 51 = .ok (.ireturn, 1) := by decide +kernel
theorem dX0_kindOf_52 : decode cX0_kindOf 52 = .ok (.lload_n 3, 1) := by decide +kernel
theorem dX0_kindOf_53 : decode cX0_kindOf 53 = .ok (.lconst 0, 1) := by decide +kernel
theorem dX0_kindOf_54 : decode cX0_kindOf 54 = .ok (.lcmp, 1) := by decide +kernel
theorem dX0_kindOf_55 : decode cX0_kindOf 55 = .ok (.ifCond .ge 7, 3) := by decide +kernel
theorem dX0_kindOf_58 : decode cX0_kindOf 58 = .ok (.iconst 3, 1) := by decide +kernel
theorem dX0_kindOf_59 : decode cX0_kindOf 59 = .ok (.goto 4, 3) := by decide +kernel
theorem dX0_kindOf_62 : decode cX0_kindOf 62 = .ok (.iconst 2, 1) := by decide +kernel
theorem dX0_kindOf_63 : decode cX0_kindOf 63 = .ok (.ireturn, 1) := by decide +kernel
theorem dX0_powerOf_0 : decode cX0_powerOf 0 = .ok (.aload_n 0, 1) := by decide +kernel
theorem dX0_powerOf_1 : decode cX0_powerOf 1 = .ok (.getfield 9, 3) := by decide +kernel
theorem dX0_powerOf_4 : decode cX0_powerOf 4 = .ok (.iload_n 1, 1) := by decide +kernel
theorem dX0_powerOf_5 : decode cX0_powerOf 5 = .ok (.iaload, 1) := by decide +kernel
theorem dX0_powerOf_6 : decode cX0_powerOf 6 = .ok (.sipush 32767, 3) := by decide +kernel
theorem dX0_powerOf_9 : decode cX0_powerOf 9 = .ok (.iand, 1) := by decide +kernel
theorem dX0_powerOf_10 : decode cX0_powerOf 10 = .ok (.ireturn, 1) := by decide +kernel
theorem dJL_numberOfLeadingZeros_0 : decode cJL_numberOfLeadingZeros 0 = .ok (.lload_n 0, 1) := by decide +kernel
theorem dJL_numberOfLeadingZeros_1 : decode cJL_numberOfLeadingZeros 1 = .ok (.bipush 32, 2) := by decide +kernel
theorem dJL_numberOfLeadingZeros_3 : decode cJL_numberOfLeadingZeros 3 = .ok (.lushr, 1) := by decide +kernel
theorem dJL_numberOfLeadingZeros_4 : decode cJL_numberOfLeadingZeros 4 = .ok (.l2i, 1) := by decide +kernel
theorem dJL_numberOfLeadingZeros_5 : decode cJL_numberOfLeadingZeros 5 = .ok (.istore_n 2, 1) := by decide +kernel
theorem dJL_numberOfLeadingZeros_6 : decode cJL_numberOfLeadingZeros 6 = .ok (.iload_n 2, 1) := by decide +kernel
theorem dJL_numberOfLeadingZeros_7 : decode cJL_numberOfLeadingZeros 7 = .ok (.ifCond .ne 14, 3) := by decide +kernel
theorem dJL_numberOfLeadingZeros_10 : decode cJL_numberOfLeadingZeros 10 = .ok (.bipush 32, 2) := by decide +kernel
theorem dJL_numberOfLeadingZeros_12 : decode cJL_numberOfLeadingZeros 12 = .ok (.lload_n 0, 1) := by decide +kernel
theorem dJL_numberOfLeadingZeros_13 : decode cJL_numberOfLeadingZeros 13 = .ok (.l2i, 1) := by decide +kernel
theorem dJL_numberOfLeadingZeros_14 : decode cJL_numberOfLeadingZeros 14 = .ok (.invokestatic 308, 3) := by decide +kernel
theorem dJL_numberOfLeadingZeros_17 : decode cJL_numberOfLeadingZeros 17 = .ok (.iadd, 1) := by decide +kernel
theorem dJL_numberOfLeadingZeros_18 : decode cJL_numberOfLeadingZeros 18 = .ok (.goto 7, 3) := by decide +kernel
theorem dJL_numberOfLeadingZeros_21 : decode cJL_numberOfLeadingZeros 21 = .ok (.iload_n 2, 1) := by decide +kernel
theorem dJL_numberOfLeadingZeros_22 : decode cJL_numberOfLeadingZeros 22 = .ok (.invokestatic 308, 3) := by decide +kernel
theorem dJL_numberOfLeadingZeros_25 : decode cJL_numberOfLeadingZeros 25 = .ok (.ireturn, 1) := by decide +kernel
theorem dJI_numberOfLeadingZeros_0 : decode cJI_numberOfLeadingZeros 0 = .ok (.iload_n 0, 1) := by decide +kernel
theorem dJI_numberOfLeadingZeros_1 : decode cJI_numberOfLeadingZeros 1 = .ok (.ifCond .gt 14, 3) := by decide +kernel
theorem dJI_numberOfLeadingZeros_4 : decode cJI_numberOfLeadingZeros 4 = .ok (.iload_n 0, 1) := by decide +kernel
theorem dJI_numberOfLeadingZeros_5 : decode cJI_numberOfLeadingZeros 5 = .ok (.ifCond .ne 8, 3) := by decide +kernel
theorem dJI_numberOfLeadingZeros_8 : decode cJI_numberOfLeadingZeros 8 = .ok (.bipush 32, 2) := by decide +kernel
theorem dJI_numberOfLeadingZeros_10 : decode cJI_numberOfLeadingZeros 10 = .ok (.goto 4, 3) := by decide +kernel
theorem dJI_numberOfLeadingZeros_13 : decode cJI_numberOfLeadingZeros 13 = .ok (.iconst 0, 1) := by decide +kernel
theorem dJI_numberOfLeadingZeros_14 : decode cJI_numberOfLeadingZeros 14 = .ok (.ireturn, 1) := by decide +kernel
theorem dJI_numberOfLeadingZeros_15 : decode cJI_numberOfLeadingZeros 15 = .ok (.bipush 31, 2) := by decide +kernel
theorem dJI_numberOfLeadingZeros_17 : decode cJI_numberOfLeadingZeros 17 = .ok (.istore_n 1, 1) := by decide +kernel
theorem dJI_numberOfLeadingZeros_18 : decode cJI_numberOfLeadingZeros 18 = .ok (.iload_n 0, 1) := by decide +kernel
theorem dJI_numberOfLeadingZeros_19 : decode cJI_numberOfLeadingZeros 19 = .ok (.ldc_w 264, 3) := by decide +kernel
theorem dJI_numberOfLeadingZeros_22 : decode cJI_numberOfLeadingZeros 22 = .ok (.if_icmp .lt 11, 3) := by decide +kernel
theorem dJI_numberOfLeadingZeros_25 : decode cJI_numberOfLeadingZeros 25 = .ok (.iinc 1 (-16), 3) := by decide +kernel
theorem dJI_numberOfLeadingZeros_28 : decode cJI_numberOfLeadingZeros 28 = .ok (.iload_n 0, 1) := by decide +kernel
theorem dJI_numberOfLeadingZeros_29 : decode cJI_numberOfLeadingZeros 29 = .ok (.bipush 16, 2) := by decide +kernel
theorem dJI_numberOfLeadingZeros_31 : decode cJI_numberOfLeadingZeros 31 = .ok (.iushr, 1) := by decide +kernel
theorem dJI_numberOfLeadingZeros_32 : decode cJI_numberOfLeadingZeros 32 = .ok (.istore_n 0, 1) := by decide +kernel
theorem dJI_numberOfLeadingZeros_33 : decode cJI_numberOfLeadingZeros 33 = .ok (.iload_n 0, 1) := by decide +kernel
theorem dJI_numberOfLeadingZeros_34 : decode cJI_numberOfLeadingZeros 34 = .ok (.sipush 256, 3) := by decide +kernel
theorem dJI_numberOfLeadingZeros_37 : decode cJI_numberOfLeadingZeros 37 = .ok (.if_icmp .lt 11, 3) := by decide +kernel
theorem dJI_numberOfLeadingZeros_40 : decode cJI_numberOfLeadingZeros 40 = .ok (.iinc 1 (-8), 3) := by decide +kernel
theorem dJI_numberOfLeadingZeros_43 : decode cJI_numberOfLeadingZeros 43 = .ok (.iload_n 0, 1) := by decide +kernel
theorem dJI_numberOfLeadingZeros_44 : decode cJI_numberOfLeadingZeros 44 = .ok (.bipush 8, 2) := by decide +kernel
theorem dJI_numberOfLeadingZeros_46 : decode cJI_numberOfLeadingZeros 46 = .ok (.iushr, 1) := by decide +kernel
theorem dJI_numberOfLeadingZeros_47 : decode cJI_numberOfLeadingZeros 47 = .ok (.istore_n 0, 1) := by decide +kernel
theorem dJI_numberOfLeadingZeros_48 : decode cJI_numberOfLeadingZeros 48 = .ok (.iload_n 0, 1) := by decide +kernel
theorem dJI_numberOfLeadingZeros_49 : decode cJI_numberOfLeadingZeros 49 = .ok (.bipush 16, 2) := by decide +kernel
theorem dJI_numberOfLeadingZeros_51 : decode cJI_numberOfLeadingZeros 51 = .ok (.if_icmp .lt 10, 3) := by decide +kernel
theorem dJI_numberOfLeadingZeros_54 : decode cJI_numberOfLeadingZeros 54 = .ok (.iinc 1 (-4), 3) := by decide +kernel
theorem dJI_numberOfLeadingZeros_57 : decode cJI_numberOfLeadingZeros 57 = .ok (.iload_n 0, 1) := by decide +kernel
theorem dJI_numberOfLeadingZeros_58 : decode cJI_numberOfLeadingZeros 58 = .ok (.iconst 4, 1) := by decide +kernel
theorem dJI_numberOfLeadingZeros_59 : decode cJI_numberOfLeadingZeros 59 = .ok (.iushr, 1) := by decide +kernel
theorem dJI_numberOfLeadingZeros_60 : decode cJI_numberOfLeadingZeros 60 = .ok (.istore_n 0, 1) := by decide +kernel
theorem dJI_numberOfLeadingZeros_61 : decode cJI_numberOfLeadingZeros 61 = .ok (.iload_n 0, 1) := by decide +kernel
theorem dJI_numberOfLeadingZeros_62 : decode cJI_numberOfLeadingZeros 62 = .ok (.iconst 4, 1) := by decide +kernel
theorem dJI_numberOfLeadingZeros_63 : decode cJI_numberOfLeadingZeros 63 = .ok (.if_icmp .lt 10, 3) := by decide +kernel
theorem dJI_numberOfLeadingZeros_66 : decode cJI_numberOfLeadingZeros 66 = .ok (.iinc 1 (-2), 3) := by decide +kernel
theorem dJI_numberOfLeadingZeros_69 : decode cJI_numberOfLeadingZeros 69 = .ok (.iload_n 0, 1) := by decide +kernel
theorem dJI_numberOfLeadingZeros_70 : decode cJI_numberOfLeadingZeros 70 = .ok (.iconst 2, 1) := by decide +kernel
theorem dJI_numberOfLeadingZeros_71 : decode cJI_numberOfLeadingZeros 71 = .ok (.iushr, 1) := by decide +kernel
theorem dJI_numberOfLeadingZeros_72 : decode cJI_numberOfLeadingZeros 72 = .ok (.istore_n 0, 1) := by decide +kernel
theorem dJI_numberOfLeadingZeros_73 : decode cJI_numberOfLeadingZeros 73 = .ok (.iload_n 1, 1) := by decide +kernel
theorem dJI_numberOfLeadingZeros_74 : decode cJI_numberOfLeadingZeros 74 = .ok (.iload_n 0, 1) := by decide +kernel
theorem dJI_numberOfLeadingZeros_75 : decode cJI_numberOfLeadingZeros 75 = .ok (.iconst 1, 1) := by decide +kernel
theorem dJI_numberOfLeadingZeros_76 : decode cJI_numberOfLeadingZeros 76 = .ok (.iushr, 1) := by decide +kernel
theorem dJI_numberOfLeadingZeros_77 : decode cJI_numberOfLeadingZeros 77 = .ok (.isub, 1) := by decide +kernel
theorem dJI_numberOfLeadingZeros_78 : decode cJI_numberOfLeadingZeros 78 = .ok (.ireturn, 1) := by decide +kernel
theorem dX0_make_0 : decode cX0_make 0 = .ok (.iload_n 1, 1) := by decide +kernel
theorem dX0_make_1 : decode cX0_make 1 = .ok (.invokestatic 32, 3) := by decide +kernel
theorem dX0_make_4 : decode cX0_make 4 = .ok (.ifCond .eq 13, 3) := by decide +kernel
theorem dX0_make_7 : decode cX0_make 7 = .ok (.new 35, 3) := by decide +kernel
theorem dX0_make_10 : decode cX0_make 10 = .ok (.dup, 1) := by decide +kernel
theorem dX0_make_11 : decode cX0_make 11 = .ok (.ldc 37, 2) := by decide +kernel
theorem dX0_make_13 : decode cX0_make 13 = .ok (.invokespecial 39, 3) := by decide +kernel
theorem dX0_make_16 : decode cX0_make 16 = .ok (.athrow, 1) := by decide +kernel
theorem dX0_make_17 : decode cX0_make 17 = .ok (.iload_n 3, 1) := by decide +kernel
theorem dX0_make_18 : decode cX0_make 18 = .ok (.ldc 58, 2) := by decide +kernel
theorem dX0_make_20 : decode cX0_make 20 = .ok (.if_icmp .lt 9, 3) := by decide +kernel
theorem dX0_make_23 : decode cX0_make 23 = .ok (.iload_n 3, 1) := by decide +kernel
theorem dX0_make_24 : decode cX0_make 24 = .ok (.ldc 59, 2) := by decide +kernel
theorem dX0_make_26 : decode cX0_make 26 = .ok (.if_icmp .le 13, 3) := by decide +kernel
theorem dX0_make_29 : decode cX0_make 29 = .ok (.new 25, 3) := by decide +kernel
theorem dX0_make_32 : decode cX0_make 32 = .ok (.dup, 1) := by decide +kernel
theorem dX0_make_33 : decode cX0_make 33 = .ok (.ldc 60, 2) := by decide +kernel
theorem dX0_make_35 : decode cX0_make 35 = .ok (.invokespecial 29, 3) := by decide +kernel
theorem dX0_make_38 : decode cX0_make 38 = .ok (.athrow, 1) := by decide +kernel
theorem dX0_make_39 : decode cX0_make 39 = .ok (.iload 4, 2) := by decide +kernel
theorem dX0_make_41 : decode cX0_make 41 = .ok (.iload 5, 2) := by decide +kernel
theorem dX0_make_43 : decode cX0_make 43 = .ok (.invokestatic 42, 3) := by decide +kernel
theorem dX0_make_46 : decode cX0_make 46 = .ok (.lstore 9, 2) := by decide +kernel
theorem dX0_make_48 : decode cX0_make 48 = .ok (.iload 6, 2) := by decide +kernel
theorem dX0_make_50 : decode cX0_make 50 = .ok (.iload 7, 2) := by decide +kernel
theorem dX0_make_52 : decode cX0_make 52 = .ok (.invokestatic 42, 3) := by decide +kernel
theorem dX0_make_55 : decode cX0_make 55 = .ok (.lstore 11, 2) := by decide +kernel
theorem dX0_make_57 : decode cX0_make 57 = .ok (.iload 8, 2) := by decide +kernel
theorem dX0_make_59 : decode cX0_make 59 = .ok (.ifCond .eq 9, 3) := by decide +kernel
theorem dX0_make_62 : decode cX0_make 62 = .ok (.ldc2_w 62, 3) := by decide +kernel
theorem dX0_make_65 : decode cX0_make 65 = .ok (.goto 4, 3) := by decide +kernel
theorem dX0_make_68 : decode cX0_make 68 = .ok (.lconst 0, 1) := by decide +kernel
theorem dX0_make_69 : decode cX0_make 69 = .ok (.lstore 13, 2) := by decide +kernel
theorem dX0_make_71 : decode cX0_make 71 = .ok (.iload_n 3, 1) := by decide +kernel
theorem dX0_make_72 : decode cX0_make 72 = .ok (.bipush 127, 2) := by decide +kernel
theorem dX0_make_74 : decode cX0_make 74 = .ok (.iadd, 1) := by decide +kernel
theorem dX0_make_75 : decode cX0_make 75 = .ok (.istore 15, 2) := by decide +kernel
theorem dX0_make_77 : decode cX0_make 77 = .ok (.lload 9, 2) := by decide +kernel
theorem dX0_make_79 : decode cX0_make 79 = .ok (.lconst 0, 1) := by decide +kernel
theorem dX0_make_80 : decode cX0_make 80 = .ok (.lcmp, 1) := by decide +kernel
theorem dX0_make_81 : decode cX0_make 81 = .ok (.ifCond .ne 17, 3) := by decide +kernel
theorem dX0_make_84 : decode cX0_make 84 = .ok (.lload 11, 2) := by decide +kernel
theorem dX0_make_86 : decode cX0_make 86 = .ok (.lstore 9, 2) := by decide +kernel
theorem dX0_make_88 : decode cX0_make 88 = .ok (.lload 13, 2) := by decide +kernel
theorem dX0_make_90 : decode cX0_make 90 = .ok (.lstore 11, 2) := by decide +kernel
theorem dX0_make_92 : decode cX0_make 92 = .ok (.lconst 0, 1) := by decide +kernel
theorem dX0_make_93 : decode cX0_make 93 = .ok (.lstore 13, 2) := by decide +kernel
theorem dX0_make_95 : decode cX0_make 95 = .ok (.iinc 15 (-64), 3) := by decide +kernel
theorem dX0_make_98 : decode cX0_make 98 = .ok (.lload 9, 2) := by decide +kernel
theorem dX0_make_100 : decode cX0_make 100 = .ok (.invokestatic 50, 3) := by decide +kernel
theorem dX0_make_103 : decode cX0_make 103 = .ok (.istore 16, 2) := by decide +kernel
theorem dX0_make_105 : decode cX0_make 105 = .ok (.lload 9, 2) := by decide +kernel
theorem dX0_make_107 : decode cX0_make 107 = .ok (.lload 11, 2) := by decide +kernel
theorem dX0_make_109 : decode cX0_make 109 = .ok (.iload 16, 2) := by decide +kernel
theorem dX0_make_111 : decode cX0_make 111 = .ok (.invokestatic 64, 3) := by decide +kernel
theorem dX0_make_114 : decode cX0_make 114 = .ok (.lstore 17, 2) := by decide +kernel
theorem dX0_make_116 : decode cX0_make 116 = .ok (.lload 11, 2) := by decide +kernel
theorem dX0_make_118 : decode cX0_make 118 = .ok (.lload 13, 2) := by decide +kernel
theorem dX0_make_120 : decode cX0_make 120 = .ok (.iload 16, 2) := by decide +kernel
theorem dX0_make_122 : decode cX0_make 122 = .ok (.invokestatic 64, 3) := by decide +kernel
theorem dX0_make_125 : decode cX0_make 125 = .ok (.lstore 19, 2) := by decide +kernel
theorem dX0_make_127 : decode cX0_make 127 = .ok (.iload 16, 2) := by decide +kernel
theorem dX0_make_129 : decode cX0_make 129 = .ok (.ifCond .ne 16, 3) := by decide +kernel
theorem dX0_make_132 : decode cX0_make 132 = .ok (.lload 13, 2) := by decide +kernel
theorem dX0_make_134 : decode cX0_make 134 = .ok (.lconst 0, 1) := by decide +kernel
theorem dX0_make_135 : decode cX0_make 135 = .ok (.lcmp, 1) := by decide +kernel
theorem dX0_make_136 : decode cX0_make 136 = .ok (.ifCond .eq 9, 3) := by decide +kernel
theorem dX0_make_139 : decode cX0_make 139 = .ok (.lload 19, 2) := by decide +kernel
theorem dX0_make_141 : decode cX0_make 141 = .ok (.lconst 1, 1) := by decide +kernel
theorem dX0_make_142 : decode cX0_make 142 = .ok (.lor, 1) := by decide +kernel
theorem dX0_make_143 : decode cX0_make 143 = .ok (.lstore 19, 2) := by decide +kernel
theorem dX0_make_145 : decode cX0_make 145 = .ok (.aload_n 0, 1) := by decide +kernel
theorem dX0_make_146 : decode cX0_make 146 = .ok (.iload_n 1, 1) := by decide +kernel
theorem dX0_make_147 : decode cX0_make 147 = .ok (.iload_n 2, 1) := by decide +kernel
theorem dX0_make_148 : decode cX0_make 148 = .ok (.iload 15, 2) := by decide +kernel
theorem dX0_make_150 : decode cX0_make 150 = .ok (.iload 16, 2) := by decide +kernel
theorem dX0_make_152 : decode cX0_make 152 = .ok (.isub, 1) := by decide +kernel
theorem dX0_make_153 : decode cX0_make 153 = .ok (.lload 17, 2) := by decide +kernel
theorem dX0_make_155 : decode cX0_make 155 = .ok (.lload 19, 2) := by decide +kernel
theorem dX0_make_157 : decode cX0_make 157 = .ok (.invokevirtual 68, 3) := by decide +kernel
theorem dX0_make_160 : decode cX0_make 160 = .ok (.ireturn, 1) := by decide +kernel
theorem dX0_shiftIn_0 : decode cX0_shiftIn 0 = .ok (.iload 4, 2) := by decide +kernel
theorem dX0_shiftIn_2 : decode cX0_shiftIn 2 = .ok (.ifCond .gt 5, 3) := by decide +kernel
theorem dX0_shiftIn_5 : decode cX0_shiftIn 5 = .ok (.lload_n 0, 1) := by decide +kernel
theorem dX0_shiftIn_6 : decode cX0_shiftIn 6 = .ok (.lreturn, 1) := by decide +kernel
theorem dX0_shiftIn_7 : decode cX0_shiftIn 7 = .ok (.iload 4, 2) := by decide +kernel
theorem dX0_shiftIn_9 : decode cX0_shiftIn 9 = .ok (.bipush 64, 2) := by decide +kernel
theorem dX0_shiftIn_11 : decode cX0_shiftIn 11 = .ok (.if_icmp .lt 5, 3) := by decide +kernel
theorem dX0_shiftIn_14 : decode cX0_shiftIn 14 = .ok (.lload_n 2, 1) := by decide +kernel
theorem dX0_shiftIn_15 : decode cX0_shiftIn 15 = .ok (.lreturn, 1) := by decide +kernel
theorem dX0_shiftIn_16 : decode cX0_shiftIn 16 = .ok (.lload_n 0, 1) := by decide +kernel
theorem dX0_shiftIn_17 : decode cX0_shiftIn 17 = .ok (.iload 4, 2) := by decide +kernel
theorem dX0_shiftIn_19 : decode cX0_shiftIn 19 = .ok (.lshl, 1) := by decide +kernel
theorem dX0_shiftIn_20 : decode cX0_shiftIn 20 = .ok (.lload_n 2, 1) := by decide +kernel
theorem dX0_shiftIn_21 : decode cX0_shiftIn 21 = .ok (.bipush 64, 2) := by decide +kernel
theorem dX0_shiftIn_23 : decode cX0_shiftIn 23 = .ok (.iload 4, 2) := by decide +kernel
theorem dX0_shiftIn_25 : decode cX0_shiftIn 25 = .ok (.isub, 1) := by decide +kernel
theorem dX0_shiftIn_26 : decode cX0_shiftIn 26 = .ok (.lushr, 1) := by decide +kernel
theorem dX0_shiftIn_27 : decode cX0_shiftIn 27 = .ok (.lor, 1) := by decide +kernel
theorem dX0_shiftIn_28 : decode cX0_shiftIn 28 = .ok (.lreturn, 1) := by decide +kernel
theorem dX0_makeSize_0 : decode cX0_makeSize 0 = .ok (.lload 4, 2) := by decide +kernel
theorem dX0_makeSize_2 : decode cX0_makeSize 2 = .ok (.lconst 0, 1) := by decide +kernel
theorem dX0_makeSize_3 : decode cX0_makeSize 3 = .ok (.lcmp, 1) := by decide +kernel
theorem dX0_makeSize_4 : decode cX0_makeSize 4 = .ok (.ifCond .ne 19, 3) := by decide +kernel
theorem dX0_makeSize_7 : decode cX0_makeSize 7 = .ok (.aload_n 0, 1) := by decide +kernel
theorem dX0_makeSize_8 : decode cX0_makeSize 8 = .ok (.iload_n 1, 1) := by decide +kernel
theorem dX0_makeSize_9 : decode cX0_makeSize 9 = .ok (.iload_n 2, 1) := by decide +kernel
theorem dX0_makeSize_10 : decode cX0_makeSize 10 = .ok (.iconst 0, 1) := by decide +kernel
theorem dX0_makeSize_11 : decode cX0_makeSize 11 = .ok (.lconst 0, 1) := by decide +kernel
theorem dX0_makeSize_12 : decode cX0_makeSize 12 = .ok (.invokevirtual 109, 3) := by decide +kernel
theorem dX0_makeSize_15 : decode cX0_makeSize 15 = .ok (.aload_n 0, 1) := by decide +kernel
theorem dX0_makeSize_16 : decode cX0_makeSize 16 = .ok (.iconst 0, 1) := by decide +kernel
theorem dX0_makeSize_17 : decode cX0_makeSize 17 = .ok (.iconst 0, 1) := by decide +kernel
theorem dX0_makeSize_18 : decode cX0_makeSize 18 = .ok (.iconst 0, 1) := by decide +kernel
theorem dX0_makeSize_19 : decode cX0_makeSize 19 = .ok (.invokevirtual 76, 3) := by decide +kernel
theorem dX0_makeSize_22 : decode cX0_makeSize 22 = .ok (.ireturn, 1) := by decide +kernel
theorem dX0_makeSize_23 : decode cX0_makeSize 23 = .ok (.iload_n 3, 1) := by decide +kernel
theorem dX0_makeSize_24 : decode cX0_makeSize 24 = .ok (.sipush (-16382), 3) := by decide +kernel
theorem dX0_makeSize_27 : decode cX0_makeSize 27 = .ok (.if_icmp .ge 24, 3) := by decide +kernel
theorem dX0_makeSize_30 : decode cX0_makeSize 30 = .ok (.aload_n 0, 1) := by decide +kernel
theorem dX0_makeSize_31 : decode cX0_makeSize 31 = .ok (.bipush 16, 2) := by decide +kernel
theorem dX0_makeSize_33 : decode cX0_makeSize 33 = .ok (.invokevirtual 140, 3) := by decide +kernel
theorem dX0_makeSize_36 : decode cX0_makeSize 36 = .ok (.ifCond .eq 15, 3) := by decide +kernel
theorem dX0_makeSize_39 : decode cX0_makeSize 39 = .ok (.aload_n 0, 1) := by decide +kernel
theorem dX0_makeSize_40 : decode cX0_makeSize 40 = .ok (.iload_n 1, 1) := by decide +kernel
theorem dX0_makeSize_41 : decode cX0_makeSize 41 = .ok (.iload_n 2, 1) := by decide +kernel
theorem dX0_makeSize_42 : decode cX0_makeSize 42 = .ok (.iload_n 3, 1) := by decide +kernel
theorem dX0_makeSize_43 : decode cX0_makeSize 43 = .ok (.lload 4, 2) := by decide +kernel
theorem dX0_makeSize_45 : decode cX0_makeSize 45 = .ok (.lload 6, 2) := by decide +kernel
theorem dX0_makeSize_47 : decode cX0_makeSize 47 = .ok (.invokevirtual 143, 3) := by decide +kernel
theorem dX0_makeSize_50 : decode cX0_makeSize 50 = .ok (.ireturn, 1) := by decide +kernel
theorem dX0_makeSize_51 : decode cX0_makeSize 51 = .ok (.aload_n 0, 1) := by decide +kernel
theorem dX0_makeSize_52 : decode cX0_makeSize 52 = .ok (.iload_n 1, 1) := by decide +kernel
theorem dX0_makeSize_53 : decode cX0_makeSize 53 = .ok (.iload_n 2, 1) := by decide +kernel
theorem dX0_makeSize_54 : decode cX0_makeSize 54 = .ok (.iload_n 3, 1) := by decide +kernel
theorem dX0_makeSize_55 : decode cX0_makeSize 55 = .ok (.lload 4, 2) := by decide +kernel
theorem dX0_makeSize_57 : decode cX0_makeSize 57 = .ok (.lload 6, 2) := by decide +kernel
theorem dX0_makeSize_59 : decode cX0_makeSize 59 = .ok (.invokevirtual 146, 3) := by decide +kernel
theorem dX0_makeSize_62 : decode cX0_makeSize 62 = .ok (.ireturn, 1) := by decide +kernel
theorem dX0_store_0 : decode cX0_store 0 = .ok (.aload_n 0, 1) := by decide +kernel
theorem dX0_store_1 : decode cX0_store 1 = .ok (.getfield 9, 3) := by decide +kernel
theorem dX0_store_4 : decode cX0_store 4 = .ok (.iload_n 1, 1) := by decide +kernel
theorem dX0_store_5 : decode cX0_store 5 = .ok (.iload_n 2, 1) := by decide +kernel
theorem dX0_store_6 : decode cX0_store 6 = .ok (.ifCond .eq 8, 3) := by decide +kernel
theorem dX0_store_9 : decode cX0_store 9 = .ok (.ldc 129, 2) := by decide +kernel
theorem dX0_store_11 : decode cX0_store 11 = .ok (.goto 4, 3) := by decide +kernel
theorem dX0_store_14 : decode cX0_store 14 = .ok (.iconst 0, 1) := by decide +kernel
theorem dX0_store_15 : decode cX0_store 15 = .ok (.iload_n 3, 1) := by decide +kernel
theorem dX0_store_16 : decode cX0_store 16 = .ok (.ior, 1) := by decide +kernel
theorem dX0_store_17 : decode cX0_store 17 = .ok (.iastore, 1) := by decide +kernel
theorem dX0_store_18 : decode cX0_store 18 = .ok (.aload_n 0, 1) := by decide +kernel
theorem dX0_store_19 : decode cX0_store 19 = .ok (.getfield 13, 3) := by decide +kernel
theorem dX0_store_22 : decode cX0_store 22 = .ok (.iload_n 1, 1) := by decide +kernel
theorem dX0_store_23 : decode cX0_store 23 = .ok (.lload 4, 2) := by decide +kernel
theorem dX0_store_25 : decode cX0_store 25 = .ok (.lastore, 1) := by decide +kernel
theorem dX0_store_26 : decode cX0_store 26 = .ok (.return_, 1) := by decide +kernel
theorem dX0_tell_0 : decode cX0_tell 0 = .ok (.aload_n 0, 1) := by decide +kernel
theorem dX0_tell_1 : decode cX0_tell 1 = .ok (.iload_n 1, 1) := by decide +kernel
theorem dX0_tell_2 : decode cX0_tell 2 = .ok (.putfield 92, 3) := by decide +kernel
theorem dX0_tell_5 : decode cX0_tell 5 = .ok (.aload_n 0, 1) := by decide +kernel
theorem dX0_tell_6 : decode cX0_tell 6 = .ok (.iload_n 2, 1) := by decide +kernel
theorem dX0_tell_7 : decode cX0_tell 7 = .ok (.putfield 95, 3) := by decide +kernel
theorem dX0_tell_10 : decode cX0_tell 10 = .ok (.aload_n 0, 1) := by decide +kernel
theorem dX0_tell_11 : decode cX0_tell 11 = .ok (.iload_n 3, 1) := by decide +kernel
theorem dX0_tell_12 : decode cX0_tell 12 = .ok (.putfield 98, 3) := by decide +kernel
theorem dX0_tell_15 : decode cX0_tell 15 = .ok (.iload_n 1, 1) := by decide +kernel
theorem dX0_tell_16 : decode cX0_tell 16 = .ok (.ireturn, 1) := by decide +kernel
theorem dX0_isMasked_0 : decode cX0_isMasked 0 = .ok (.aload_n 0, 1) := by decide +kernel
theorem dX0_isMasked_1 : decode cX0_isMasked 1 = .ok (.getfield 17, 3) := by decide +kernel
theorem dX0_isMasked_4 : decode cX0_isMasked 4 = .ok (.iload_n 1, 1) := by decide +kernel
theorem dX0_isMasked_5 : decode cX0_isMasked 5 = .ok (.iand, 1) := by decide +kernel
theorem dX0_isMasked_6 : decode cX0_isMasked 6 = .ok (.ifCond .eq 7, 3) := by decide +kernel
theorem dX0_isMasked_9 : decode cX0_isMasked 9 = .ok (.iconst 1, 1) := by decide +kernel
theorem dX0_isMasked_10 : decode cX0_isMasked 10 = .ok (.goto 4, 3) := by decide +kernel
theorem dX0_isMasked_13 : decode cX0_isMasked 13 = .ok (.iconst 0, 1) := by decide +kernel
theorem dX0_isMasked_14 : decode cX0_isMasked 14 = .ok (.ireturn, 1) := by decide +kernel
theorem dX0_makeSmall_0 : decode cX0_makeSmall 0 = .ok (.bipush 64, 2) := by decide +kernel
theorem dX0_makeSmall_2 : decode cX0_makeSmall 2 = .ok (.aload_n 0, 1) := by decide +kernel
theorem dX0_makeSmall_3 : decode cX0_makeSmall 3 = .ok (.invokevirtual 149, 3) := by decide +kernel
theorem dX0_makeSmall_6 : decode cX0_makeSmall 6 = .ok (.isub, 1) := by decide +kernel
theorem dX0_makeSmall_7 : decode cX0_makeSmall 7 = .ok (.istore 8, 2) := by decide +kernel
theorem dX0_makeSmall_9 : decode cX0_makeSmall 9 = .ok (.sipush (-16382), 3) := by decide +kernel
theorem dX0_makeSmall_12 : decode cX0_makeSmall 12 = .ok (.iload_n 3, 1) := by decide +kernel
theorem dX0_makeSmall_13 : decode cX0_makeSmall 13 = .ok (.isub, 1) := by decide +kernel
theorem dX0_makeSmall_14 : decode cX0_makeSmall 14 = .ok (.iload 8, 2) := by decide +kernel
theorem dX0_makeSmall_16 : decode cX0_makeSmall 16 = .ok (.iadd, 1) := by decide +kernel
theorem dX0_makeSmall_17 : decode cX0_makeSmall 17 = .ok (.istore 9, 2) := by decide +kernel
theorem dX0_makeSmall_19 : decode cX0_makeSmall 19 = .ok (.lload 4, 2) := by decide +kernel
theorem dX0_makeSmall_21 : decode cX0_makeSmall 21 = .ok (.iload 9, 2) := by decide +kernel
theorem dX0_makeSmall_23 : decode cX0_makeSmall 23 = .ok (.invokestatic 152, 3) := by decide +kernel
theorem dX0_makeSmall_26 : decode cX0_makeSmall 26 = .ok (.lstore 10, 2) := by decide +kernel
theorem dX0_makeSmall_28 : decode cX0_makeSmall 28 = .ok (.lload 4, 2) := by decide +kernel
theorem dX0_makeSmall_30 : decode cX0_makeSmall 30 = .ok (.lload 6, 2) := by decide +kernel
theorem dX0_makeSmall_32 : decode cX0_makeSmall 32 = .ok (.iload 9, 2) := by decide +kernel
theorem dX0_makeSmall_34 : decode cX0_makeSmall 34 = .ok (.invokestatic 156, 3) := by decide +kernel
theorem dX0_makeSmall_37 : decode cX0_makeSmall 37 = .ok (.lstore 12, 2) := by decide +kernel
theorem dX0_makeSmall_39 : decode cX0_makeSmall 39 = .ok (.aload_n 0, 1) := by decide +kernel
theorem dX0_makeSmall_40 : decode cX0_makeSmall 40 = .ok (.lload 10, 2) := by decide +kernel
theorem dX0_makeSmall_42 : decode cX0_makeSmall 42 = .ok (.lload 12, 2) := by decide +kernel
theorem dX0_makeSmall_44 : decode cX0_makeSmall 44 = .ok (.iload_n 2, 1) := by decide +kernel
theorem dX0_makeSmall_45 : decode cX0_makeSmall 45 = .ok (.invokevirtual 159, 3) := by decide +kernel
theorem dX0_makeSmall_48 : decode cX0_makeSmall 48 = .ok (.istore 14, 2) := by decide +kernel
theorem dX0_makeSmall_50 : decode cX0_makeSmall 50 = .ok (.iload 14, 2) := by decide +kernel
theorem dX0_makeSmall_52 : decode cX0_makeSmall 52 = .ok (.ifCond .eq 10, 3) := by decide +kernel
theorem dX0_makeSmall_55 : decode cX0_makeSmall 55 = .ok (.lload 10, 2) := by decide +kernel
theorem dX0_makeSmall_57 : decode cX0_makeSmall 57 = .ok (.lconst 1, 1) := by decide +kernel
theorem dX0_makeSmall_58 : decode cX0_makeSmall 58 = .ok (.ladd, 1) := by decide +kernel
theorem dX0_makeSmall_59 : decode cX0_makeSmall 59 = .ok (.goto 5, 3) := by decide +kernel
theorem dX0_makeSmall_62 : decode cX0_makeSmall 62 = .ok (.lload 10, 2) := by decide +kernel
theorem dX0_makeSmall_64 : decode cX0_makeSmall 64 = .ok (.iload 8, 2) := by decide +kernel
theorem dX0_makeSmall_66 : decode cX0_makeSmall 66 = .ok (.lshl, 1) := by decide +kernel
theorem dX0_makeSmall_67 : decode cX0_makeSmall 67 = .ok (.lstore 15, 2) := by decide +kernel
theorem dX0_makeSmall_69 : decode cX0_makeSmall 69 = .ok (.aload_n 0, 1) := by decide +kernel
theorem dX0_makeSmall_70 : decode cX0_makeSmall 70 = .ok (.iload_n 1, 1) := by decide +kernel
theorem dX0_makeSmall_71 : decode cX0_makeSmall 71 = .ok (.iload_n 2, 1) := by decide +kernel
theorem dX0_makeSmall_72 : decode cX0_makeSmall 72 = .ok (.lload 15, 2) := by decide +kernel
theorem dX0_makeSmall_74 : decode cX0_makeSmall 74 = .ok (.lconst 0, 1) := by decide +kernel
theorem dX0_makeSmall_75 : decode cX0_makeSmall 75 = .ok (.lcmp, 1) := by decide +kernel
theorem dX0_makeSmall_76 : decode cX0_makeSmall 76 = .ok (.ifCond .ge 7, 3) := by decide +kernel
theorem dX0_makeSmall_79 : decode cX0_makeSmall 79 = .ok (.iconst 1, 1) := by decide +kernel
theorem dX0_makeSmall_80 : decode cX0_makeSmall 80 = .ok (.goto 4, 3) := by decide +kernel
theorem dX0_makeSmall_83 : decode cX0_makeSmall 83 = .ok (.iconst 0, 1) := by decide +kernel
theorem dX0_makeSmall_84 : decode cX0_makeSmall 84 = .ok (.lload 15, 2) := by decide +kernel
theorem dX0_makeSmall_86 : decode cX0_makeSmall 86 = .ok (.invokevirtual 109, 3) := by decide +kernel
theorem dX0_makeSmall_89 : decode cX0_makeSmall 89 = .ok (.aload_n 0, 1) := by decide +kernel
theorem dX0_makeSmall_90 : decode cX0_makeSmall 90 = .ok (.lload 12, 2) := by decide +kernel
theorem dX0_makeSmall_92 : decode cX0_makeSmall 92 = .ok (.lconst 0, 1) := by decide +kernel
theorem dX0_makeSmall_93 : decode cX0_makeSmall 93 = .ok (.lcmp, 1) := by decide +kernel
theorem dX0_makeSmall_94 : decode cX0_makeSmall 94 = .ok (.ifCond .ne 7, 3) := by decide +kernel
theorem dX0_makeSmall_97 : decode cX0_makeSmall 97 = .ok (.iconst 0, 1) := by decide +kernel
theorem dX0_makeSmall_98 : decode cX0_makeSmall 98 = .ok (.goto 5, 3) := by decide +kernel
theorem dX0_makeSmall_101 : decode cX0_makeSmall 101 = .ok (.bipush 48, 2) := by decide +kernel
theorem dX0_makeSmall_103 : decode cX0_makeSmall 103 = .ok (.iload_n 3, 1) := by decide +kernel
theorem dX0_makeSmall_104 : decode cX0_makeSmall 104 = .ok (.lload 12, 2) := by decide +kernel
theorem dX0_makeSmall_106 : decode cX0_makeSmall 106 = .ok (.iload 14, 2) := by decide +kernel
theorem dX0_makeSmall_108 : decode cX0_makeSmall 108 = .ok (.invokestatic 163, 3) := by decide +kernel
theorem dX0_makeSmall_111 : decode cX0_makeSmall 111 = .ok (.invokevirtual 76, 3) := by decide +kernel
theorem dX0_makeSmall_114 : decode cX0_makeSmall 114 = .ok (.ireturn, 1) := by decide +kernel
theorem dX0_digits_0 : decode cX0_digits 0 = .ok (.aload_n 0, 1) := by decide +kernel
theorem dX0_digits_1 : decode cX0_digits 1 = .ok (.getfield 17, 3) := by decide +kernel
theorem dX0_digits_4 : decode cX0_digits 4 = .ok (.bipush 8, 2) := by decide +kernel
theorem dX0_digits_6 : decode cX0_digits 6 = .ok (.ishr, 1) := by decide +kernel
theorem dX0_digits_7 : decode cX0_digits 7 = .ok (.iconst 3, 1) := by decide +kernel
theorem dX0_digits_8 : decode cX0_digits 8 = .ok (.iand, 1) := by decide +kernel
theorem dX0_digits_9 : decode cX0_digits 9 = .ok (.lookupswitch 33 #[(0, 27), (2, 30)], 27) := by decide +kernel
theorem dX0_digits_36 : decode cX0_digits 36 = .ok (.bipush 24, 2) := by decide +kernel
theorem dX0_digits_38 : decode cX0_digits 38 = .ok (.ireturn, 1) := by decide +kernel
theorem dX0_digits_39 : decode cX0_digits 39 = .ok (.bipush 53, 2) := by decide +kernel
theorem dX0_digits_41 : decode cX0_digits 41 = .ok (.ireturn, 1) := by decide +kernel
theorem dX0_digits_42 : decode cX0_digits 42 = .ok (.bipush 64, 2) := by decide +kernel
theorem dX0_digits_44 : decode cX0_digits 44 = .ok (.ireturn, 1) := by decide +kernel
theorem dX0_wholePart_0 : decode cX0_wholePart 0 = .ok (.iload_n 2, 1) := by decide +kernel
theorem dX0_wholePart_1 : decode cX0_wholePart 1 = .ok (.bipush 64, 2) := by decide +kernel
theorem dX0_wholePart_3 : decode cX0_wholePart 3 = .ok (.if_icmp .lt 7, 3) := by decide +kernel
theorem dX0_wholePart_6 : decode cX0_wholePart 6 = .ok (.lconst 0, 1) := by decide +kernel
theorem dX0_wholePart_7 : decode cX0_wholePart 7 = .ok (.goto 6, 3) := by decide +kernel
theorem dX0_wholePart_10 : decode cX0_wholePart 10 = .ok (.lload_n 0, 1) := by decide +kernel
theorem dX0_wholePart_11 : decode cX0_wholePart 11 = .ok (.iload_n 2, 1) := by decide +kernel
theorem dX0_wholePart_12 : decode cX0_wholePart 12 = .ok (.lushr, 1) := by decide +kernel
theorem dX0_wholePart_13 : decode cX0_wholePart 13 = .ok (.lreturn, 1) := by decide +kernel
theorem dX0_lostPart_0 : decode cX0_lostPart 0 = .ok (.iload 4, 2) := by decide +kernel
theorem dX0_lostPart_2 : decode cX0_lostPart 2 = .ok (.ifCond .gt 5, 3) := by decide +kernel
theorem dX0_lostPart_5 : decode cX0_lostPart 5 = .ok (.lload_n 2, 1) := by decide +kernel
theorem dX0_lostPart_6 : decode cX0_lostPart 6 = .ok (.lreturn, 1) := by decide +kernel
theorem dX0_lostPart_7 : decode cX0_lostPart 7 = .ok (.iload 4, 2) := by decide +kernel
theorem dX0_lostPart_9 : decode cX0_lostPart 9 = .ok (.bipush 64, 2) := by decide +kernel
theorem dX0_lostPart_11 : decode cX0_lostPart 11 = .ok (.if_icmp .le 5, 3) := by decide +kernel
theorem dX0_lostPart_14 : decode cX0_lostPart 14 = .ok (.lconst 1, 1) := by decide +kernel
theorem dX0_lostPart_15 : decode cX0_lostPart 15 = .ok (.lreturn, 1) := by decide +kernel
theorem dX0_lostPart_16 : decode cX0_lostPart 16 = .ok (.lload_n 0, 1) := by decide +kernel
theorem dX0_lostPart_17 : decode cX0_lostPart 17 = .ok (.bipush 64, 2) := by decide +kernel
theorem dX0_lostPart_19 : decode cX0_lostPart 19 = .ok (.iload 4, 2) := by decide +kernel
theorem dX0_lostPart_21 : decode cX0_lostPart 21 = .ok (.isub, 1) := by decide +kernel
theorem dX0_lostPart_22 : decode cX0_lostPart 22 = .ok (.lshl, 1) := by decide +kernel
theorem dX0_lostPart_23 : decode cX0_lostPart 23 = .ok (.lstore 5, 2) := by decide +kernel
theorem dX0_lostPart_25 : decode cX0_lostPart 25 = .ok (.lload_n 2, 1) := by decide +kernel
theorem dX0_lostPart_26 : decode cX0_lostPart 26 = .ok (.lconst 0, 1) := by decide +kernel
theorem dX0_lostPart_27 : decode cX0_lostPart 27 = .ok (.lcmp, 1) := by decide +kernel
theorem dX0_lostPart_28 : decode cX0_lostPart 28 = .ok (.ifCond .ne 8, 3) := by decide +kernel
theorem dX0_lostPart_31 : decode cX0_lostPart 31 = .ok (.lload 5, 2) := by decide +kernel
theorem dX0_lostPart_33 : decode cX0_lostPart 33 = .ok (.goto 7, 3) := by decide +kernel
theorem dX0_lostPart_36 : decode cX0_lostPart 36 = .ok (.lload 5, 2) := by decide +kernel
theorem dX0_lostPart_38 : decode cX0_lostPart 38 = .ok (.lconst 1, 1) := by decide +kernel
theorem dX0_lostPart_39 : decode cX0_lostPart 39 = .ok (.lor, 1) := by decide +kernel
theorem dX0_lostPart_40 : decode cX0_lostPart 40 = .ok (.lreturn, 1) := by decide +kernel
theorem dX0_takesAbove_0 : decode cX0_takesAbove 0 = .ok (.lload_n 3, 1) := by decide +kernel
theorem dX0_takesAbove_1 : decode cX0_takesAbove 1 = .ok (.lconst 0, 1) := by decide +kernel
theorem dX0_takesAbove_2 : decode cX0_takesAbove 2 = .ok (.lcmp, 1) := by decide +kernel
theorem dX0_takesAbove_3 : decode cX0_takesAbove 3 = .ok (.ifCond .ne 5, 3) := by decide +kernel
theorem dX0_takesAbove_6 : decode cX0_takesAbove 6 = .ok (.iconst 0, 1) := by decide +kernel
theorem dX0_takesAbove_7 : decode cX0_takesAbove 7 = .ok (.ireturn, 1) := by decide +kernel
theorem dX0_takesAbove_8 : decode cX0_takesAbove 8 = .ok (.aload_n 0, 1) := by decide +kernel
theorem dX0_takesAbove_9 : decode cX0_takesAbove 9 = .ok (.invokevirtual 132, 3) := by decide +kernel
theorem dX0_takesAbove_12 : decode cX0_takesAbove 12 = .ok (.ifCond .eq 10, 3) := by decide +kernel
theorem dX0_takesAbove_15 : decode cX0_takesAbove 15 = .ok (.aload_n 0, 1) := by decide +kernel
theorem dX0_takesAbove_16 : decode cX0_takesAbove 16 = .ok (.iload 5, 2) := by decide +kernel
theorem dX0_takesAbove_18 : decode cX0_takesAbove 18 = .ok (.invokevirtual 136, 3) := by decide +kernel
theorem dX0_takesAbove_21 : decode cX0_takesAbove 21 = .ok (.ireturn, 1) := by decide +kernel
theorem dX0_takesAbove_22 : decode cX0_takesAbove 22 = .ok (.lload_n 3, 1) := by decide +kernel
theorem dX0_takesAbove_23 : decode cX0_takesAbove 23 = .ok (.ldc2_w 62, 3) := by decide +kernel
theorem dX0_takesAbove_26 : decode cX0_takesAbove 26 = .ok (.lcmp, 1) := by decide +kernel
theorem dX0_takesAbove_27 : decode cX0_takesAbove 27 = .ok (.ifCond .ne 17, 3) := by decide +kernel
theorem dX0_takesAbove_30 : decode cX0_takesAbove 30 = .ok (.lload_n 1, 1) := by decide +kernel
theorem dX0_takesAbove_31 : decode cX0_takesAbove 31 = .ok (.lconst 1, 1) := by decide +kernel
theorem dX0_takesAbove_32 : decode cX0_takesAbove 32 = .ok (.land, 1) := by decide +kernel
theorem dX0_takesAbove_33 : decode cX0_takesAbove 33 = .ok (.lconst 0, 1) := by decide +kernel
theorem dX0_takesAbove_34 : decode cX0_takesAbove 34 = .ok (.lcmp, 1) := by decide +kernel
theorem dX0_takesAbove_35 : decode cX0_takesAbove 35 = .ok (.ifCond .eq 7, 3) := by decide +kernel
theorem dX0_takesAbove_38 : decode cX0_takesAbove 38 = .ok (.iconst 1, 1) := by decide +kernel
theorem dX0_takesAbove_39 : decode cX0_takesAbove 39 = .ok (.goto 4, 3) := by decide +kernel
theorem dX0_takesAbove_42 : decode cX0_takesAbove 42 = .ok (.iconst 0, 1) := by decide +kernel
theorem dX0_takesAbove_43 : decode cX0_takesAbove 43 = .ok (.ireturn, 1) := by decide +kernel
theorem dX0_takesAbove_44 : decode cX0_takesAbove 44 = .ok (.lload_n 3, 1) := by decide +kernel
theorem dX0_takesAbove_45 : decode cX0_takesAbove 45 = .ok (.lconst 0, 1) := by decide +kernel
theorem dX0_takesAbove_46 : decode cX0_takesAbove 46 = .ok (.lcmp, 1) := by decide +kernel
theorem dX0_takesAbove_47 : decode cX0_takesAbove 47 = .ok (.ifCond .ge 7, 3) := by decide +kernel
theorem dX0_takesAbove_50 : decode cX0_takesAbove 50 = .ok (.iconst 1, 1) := by decide +kernel
theorem dX0_takesAbove_51 : decode cX0_takesAbove 51 = .ok (.goto 4, 3) := by decide +kernel
theorem dX0_takesAbove_54 : decode cX0_takesAbove 54 = .ok (.iconst 0, 1) := by decide +kernel
theorem dX0_takesAbove_55 : decode cX0_takesAbove 55 = .ok (.ireturn, 1) := by decide +kernel
theorem dX0_rounding_0 : decode cX0_rounding 0 = .ok (.aload_n 0, 1) := by decide +kernel
theorem dX0_rounding_1 : decode cX0_rounding 1 = .ok (.getfield 17, 3) := by decide +kernel
theorem dX0_rounding_4 : decode cX0_rounding 4 = .ok (.bipush 10, 2) := by decide +kernel
theorem dX0_rounding_6 : decode cX0_rounding 6 = .ok (.ishr, 1) := by decide +kernel
theorem dX0_rounding_7 : decode cX0_rounding 7 = .ok (.iconst 3, 1) := by decide +kernel
theorem dX0_rounding_8 : decode cX0_rounding 8 = .ok (.iand, 1) := by decide +kernel
theorem dX0_rounding_9 : decode cX0_rounding 9 = .ok (.ireturn, 1) := by decide +kernel
theorem dX0_goesAway_0 : decode cX0_goesAway 0 = .ok (.aload_n 0, 1) := by decide +kernel
theorem dX0_goesAway_1 : decode cX0_goesAway 1 = .ok (.invokevirtual 132, 3) := by decide +kernel
theorem dX0_goesAway_4 : decode cX0_goesAway 4 = .ok (.istore_n 2, 1) := by decide +kernel
theorem dX0_goesAway_5 : decode cX0_goesAway 5 = .ok (.iload_n 2, 1) := by decide +kernel
theorem dX0_goesAway_6 : decode cX0_goesAway 6 = .ok (.iconst 1, 1) := by decide +kernel
theorem dX0_goesAway_7 : decode cX0_goesAway 7 = .ok (.if_icmp .ne 7, 3) := by decide +kernel
theorem dX0_goesAway_10 : decode cX0_goesAway 10 = .ok (.iload_n 1, 1) := by decide +kernel
theorem dX0_goesAway_11 : decode cX0_goesAway 11 = .ok (.ifCond .ne 12, 3) := by decide +kernel
theorem dX0_goesAway_14 : decode cX0_goesAway 14 = .ok (.iload_n 2, 1) := by decide +kernel
theorem dX0_goesAway_15 : decode cX0_goesAway 15 = .ok (.iconst 2, 1) := by decide +kernel
theorem dX0_goesAway_16 : decode cX0_goesAway 16 = .ok (.if_icmp .ne 11, 3) := by decide +kernel
theorem dX0_goesAway_19 : decode cX0_goesAway 19 = .ok (.iload_n 1, 1) := by decide +kernel
theorem dX0_goesAway_20 : decode cX0_goesAway 20 = .ok (.ifCond .ne 7, 3) := by decide +kernel
theorem dX0_goesAway_23 : decode cX0_goesAway 23 = .ok (.iconst 1, 1) := by decide +kernel
theorem dX0_goesAway_24 : decode cX0_goesAway 24 = .ok (.goto 4, 3) := by decide +kernel
theorem dX0_goesAway_27 : decode cX0_goesAway 27 = .ok (.iconst 0, 1) := by decide +kernel
theorem dX0_goesAway_28 : decode cX0_goesAway 28 = .ok (.ireturn, 1) := by decide +kernel
theorem dX0_changeOf_0 : decode cX0_changeOf 0 = .ok (.lload_n 0, 1) := by decide +kernel
theorem dX0_changeOf_1 : decode cX0_changeOf 1 = .ok (.lconst 0, 1) := by decide +kernel
theorem dX0_changeOf_2 : decode cX0_changeOf 2 = .ok (.lcmp, 1) := by decide +kernel
theorem dX0_changeOf_3 : decode cX0_changeOf 3 = .ok (.ifCond .ne 5, 3) := by decide +kernel
theorem dX0_changeOf_6 : decode cX0_changeOf 6 = .ok (.iconst 0, 1) := by decide +kernel
theorem dX0_changeOf_7 : decode cX0_changeOf 7 = .ok (.ireturn, 1) := by decide +kernel
theorem dX0_changeOf_8 : decode cX0_changeOf 8 = .ok (.iload_n 2, 1) := by decide +kernel
theorem dX0_changeOf_9 : decode cX0_changeOf 9 = .ok (.ifCond .eq 7, 3) := by decide +kernel
theorem dX0_changeOf_12 : decode cX0_changeOf 12 = .ok (.iconst 1, 1) := by decide +kernel
theorem dX0_changeOf_13 : decode cX0_changeOf 13 = .ok (.goto 4, 3) := by decide +kernel
theorem dX0_changeOf_16 : decode cX0_changeOf 16 = .ok (.iconst (-1), 1) := by decide +kernel
theorem dX0_changeOf_17 : decode cX0_changeOf 17 = .ok (.ireturn, 1) := by decide +kernel
theorem dX0_makeRounded_0 : decode cX0_makeRounded 0 = .ok (.bipush 64, 2) := by decide +kernel
theorem dX0_makeRounded_2 : decode cX0_makeRounded 2 = .ok (.aload_n 0, 1) := by decide +kernel
theorem dX0_makeRounded_3 : decode cX0_makeRounded 3 = .ok (.invokevirtual 149, 3) := by decide +kernel
theorem dX0_makeRounded_6 : decode cX0_makeRounded 6 = .ok (.isub, 1) := by decide +kernel
theorem dX0_makeRounded_7 : decode cX0_makeRounded 7 = .ok (.istore 8, 2) := by decide +kernel
theorem dX0_makeRounded_9 : decode cX0_makeRounded 9 = .ok (.lload 4, 2) := by decide +kernel
theorem dX0_makeRounded_11 : decode cX0_makeRounded 11 = .ok (.iload 8, 2) := by decide +kernel
theorem dX0_makeRounded_13 : decode cX0_makeRounded 13 = .ok (.invokestatic 152, 3) := by decide +kernel
theorem dX0_makeRounded_16 : decode cX0_makeRounded 16 = .ok (.lstore 9, 2) := by decide +kernel
theorem dX0_makeRounded_18 : decode cX0_makeRounded 18 = .ok (.lload 4, 2) := by decide +kernel
theorem dX0_makeRounded_20 : decode cX0_makeRounded 20 = .ok (.lload 6, 2) := by decide +kernel
theorem dX0_makeRounded_22 : decode cX0_makeRounded 22 = .ok (.iload 8, 2) := by decide +kernel
theorem dX0_makeRounded_24 : decode cX0_makeRounded 24 = .ok (.invokestatic 156, 3) := by decide +kernel
theorem dX0_makeRounded_27 : decode cX0_makeRounded 27 = .ok (.lstore 11, 2) := by decide +kernel
theorem dX0_makeRounded_29 : decode cX0_makeRounded 29 = .ok (.aload_n 0, 1) := by decide +kernel
theorem dX0_makeRounded_30 : decode cX0_makeRounded 30 = .ok (.lload 9, 2) := by decide +kernel
theorem dX0_makeRounded_32 : decode cX0_makeRounded 32 = .ok (.lload 11, 2) := by decide +kernel
theorem dX0_makeRounded_34 : decode cX0_makeRounded 34 = .ok (.iload_n 2, 1) := by decide +kernel
theorem dX0_makeRounded_35 : decode cX0_makeRounded 35 = .ok (.invokevirtual 159, 3) := by decide +kernel
theorem dX0_makeRounded_38 : decode cX0_makeRounded 38 = .ok (.istore 13, 2) := by decide +kernel
theorem dX0_makeRounded_40 : decode cX0_makeRounded 40 = .ok (.iload 13, 2) := by decide +kernel
theorem dX0_makeRounded_42 : decode cX0_makeRounded 42 = .ok (.ifCond .eq 10, 3) := by decide +kernel
theorem dX0_makeRounded_45 : decode cX0_makeRounded 45 = .ok (.lload 9, 2) := by decide +kernel
theorem dX0_makeRounded_47 : decode cX0_makeRounded 47 = .ok (.lconst 1, 1) := by decide +kernel
theorem dX0_makeRounded_48 : decode cX0_makeRounded 48 = .ok (.ladd, 1) := by decide +kernel
theorem dX0_makeRounded_49 : decode cX0_makeRounded 49 = .ok (.goto 5, 3) := by decide +kernel
theorem dX0_makeRounded_52 : decode cX0_makeRounded 52 = .ok (.lload 9, 2) := by decide +kernel
theorem dX0_makeRounded_54 : decode cX0_makeRounded 54 = .ok (.iload 8, 2) := by decide +kernel
theorem dX0_makeRounded_56 : decode cX0_makeRounded 56 = .ok (.lshl, 1) := by decide +kernel
theorem dX0_makeRounded_57 : decode cX0_makeRounded 57 = .ok (.lstore 14, 2) := by decide +kernel
theorem dX0_makeRounded_59 : decode cX0_makeRounded 59 = .ok (.iload_n 3, 1) := by decide +kernel
theorem dX0_makeRounded_60 : decode cX0_makeRounded 60 = .ok (.istore 16, 2) := by decide +kernel
theorem dX0_makeRounded_62 : decode cX0_makeRounded 62 = .ok (.lload 14, 2) := by decide +kernel
theorem dX0_makeRounded_64 : decode cX0_makeRounded 64 = .ok (.lconst 0, 1) := by decide +kernel
theorem dX0_makeRounded_65 : decode cX0_makeRounded 65 = .ok (.lcmp, 1) := by decide +kernel
theorem dX0_makeRounded_66 : decode cX0_makeRounded 66 = .ok (.ifCond .ne 11, 3) := by decide +kernel
theorem dX0_makeRounded_69 : decode cX0_makeRounded 69 = .ok (.ldc2_w 62, 3) := by decide +kernel
theorem dX0_makeRounded_72 : decode cX0_makeRounded 72 = .ok (.lstore 14, 2) := by decide +kernel
theorem dX0_makeRounded_74 : decode cX0_makeRounded 74 = .ok (.iinc 16 1, 3) := by decide +kernel
theorem dX0_makeRounded_77 : decode cX0_makeRounded 77 = .ok (.lload 11, 2) := by decide +kernel
theorem dX0_makeRounded_79 : decode cX0_makeRounded 79 = .ok (.lconst 0, 1) := by decide +kernel
theorem dX0_makeRounded_80 : decode cX0_makeRounded 80 = .ok (.lcmp, 1) := by decide +kernel
theorem dX0_makeRounded_81 : decode cX0_makeRounded 81 = .ok (.ifCond .ne 7, 3) := by decide +kernel
theorem dX0_makeRounded_84 : decode cX0_makeRounded 84 = .ok (.iconst 0, 1) := by decide +kernel
theorem dX0_makeRounded_85 : decode cX0_makeRounded 85 = .ok (.goto 5, 3) := by decide +kernel
theorem dX0_makeRounded_88 : decode cX0_makeRounded 88 = .ok (.bipush 32, 2) := by decide +kernel
theorem dX0_makeRounded_90 : decode cX0_makeRounded 90 = .ok (.istore 17, 2) := by decide +kernel
theorem dX0_makeRounded_92 : decode cX0_makeRounded 92 = .ok (.iload_n 3, 1) := by decide +kernel
theorem dX0_makeRounded_93 : decode cX0_makeRounded 93 = .ok (.sipush (-16382), 3) := by decide +kernel
theorem dX0_makeRounded_96 : decode cX0_makeRounded 96 = .ok (.if_icmp .ge 15, 3) := by decide +kernel
theorem dX0_makeRounded_99 : decode cX0_makeRounded 99 = .ok (.iinc 17 16, 3) := by decide +kernel
theorem dX0_makeRounded_102 : decode cX0_makeRounded 102 = .ok (.iinc 16 24576, 6) := by decide +kernel
theorem dX0_makeRounded_108 : decode cX0_makeRounded 108 = .ok (.goto 37, 3) := by decide +kernel
theorem dX0_makeRounded_111 : decode cX0_makeRounded 111 = .ok (.iload 16, 2) := by decide +kernel
theorem dX0_makeRounded_113 : decode cX0_makeRounded 113 = .ok (.sipush 16383, 3) := by decide +kernel
theorem dX0_makeRounded_116 : decode cX0_makeRounded 116 = .ok (.if_icmp .le 29, 3) := by decide +kernel
theorem dX0_makeRounded_119 : decode cX0_makeRounded 119 = .ok (.aload_n 0, 1) := by decide +kernel
theorem dX0_makeRounded_120 : decode cX0_makeRounded 120 = .ok (.bipush 8, 2) := by decide +kernel
theorem dX0_makeRounded_122 : decode cX0_makeRounded 122 = .ok (.invokevirtual 140, 3) := by decide +kernel
theorem dX0_makeRounded_125 : decode cX0_makeRounded 125 = .ok (.ifCond .eq 11, 3) := by decide +kernel
theorem dX0_makeRounded_128 : decode cX0_makeRounded 128 = .ok (.aload_n 0, 1) := by decide +kernel
theorem dX0_makeRounded_129 : decode cX0_makeRounded 129 = .ok (.iload_n 1, 1) := by decide +kernel
theorem dX0_makeRounded_130 : decode cX0_makeRounded 130 = .ok (.iload_n 2, 1) := by decide +kernel
theorem dX0_makeRounded_131 : decode cX0_makeRounded 131 = .ok (.iload_n 3, 1) := by decide +kernel
theorem dX0_makeRounded_132 : decode cX0_makeRounded 132 = .ok (.invokevirtual 167, 3) := by decide +kernel
theorem dX0_makeRounded_135 : decode cX0_makeRounded 135 = .ok (.ireturn, 1) := by decide +kernel
theorem dX0_makeRounded_136 : decode cX0_makeRounded 136 = .ok (.iinc 17 8, 3) := by decide +kernel
theorem dX0_makeRounded_139 : decode cX0_makeRounded 139 = .ok (.iinc 16 (-24576), 6) := by decide +kernel
theorem dX0_makeRounded_145 : decode cX0_makeRounded 145 = .ok (.aload_n 0, 1) := by decide +kernel
theorem dX0_makeRounded_146 : decode cX0_makeRounded 146 = .ok (.iload_n 1, 1) := by decide +kernel
theorem dX0_makeRounded_147 : decode cX0_makeRounded 147 = .ok (.iload_n 2, 1) := by decide +kernel
theorem dX0_makeRounded_148 : decode cX0_makeRounded 148 = .ok (.iload 16, 2) := by decide +kernel
theorem dX0_makeRounded_150 : decode cX0_makeRounded 150 = .ok (.sipush 16383, 3) := by decide +kernel
theorem dX0_makeRounded_153 : decode cX0_makeRounded 153 = .ok (.iadd, 1) := by decide +kernel
theorem dX0_makeRounded_154 : decode cX0_makeRounded 154 = .ok (.lload 14, 2) := by decide +kernel
theorem dX0_makeRounded_156 : decode cX0_makeRounded 156 = .ok (.invokevirtual 109, 3) := by decide +kernel
theorem dX0_makeRounded_159 : decode cX0_makeRounded 159 = .ok (.aload_n 0, 1) := by decide +kernel
theorem dX0_makeRounded_160 : decode cX0_makeRounded 160 = .ok (.iload 17, 2) := by decide +kernel
theorem dX0_makeRounded_162 : decode cX0_makeRounded 162 = .ok (.iload_n 3, 1) := by decide +kernel
theorem dX0_makeRounded_163 : decode cX0_makeRounded 163 = .ok (.lload 11, 2) := by decide +kernel
theorem dX0_makeRounded_165 : decode cX0_makeRounded 165 = .ok (.iload 13, 2) := by decide +kernel
theorem dX0_makeRounded_167 : decode cX0_makeRounded 167 = .ok (.invokestatic 163, 3) := by decide +kernel
theorem dX0_makeRounded_170 : decode cX0_makeRounded 170 = .ok (.invokevirtual 76, 3) := by decide +kernel
theorem dX0_makeRounded_173 : decode cX0_makeRounded 173 = .ok (.ireturn, 1) := by decide +kernel
theorem dX0_makeTooGreat_0 : decode cX0_makeTooGreat 0 = .ok (.aload_n 0, 1) := by decide +kernel
theorem dX0_makeTooGreat_1 : decode cX0_makeTooGreat 1 = .ok (.invokevirtual 132, 3) := by decide +kernel
theorem dX0_makeTooGreat_4 : decode cX0_makeTooGreat 4 = .ok (.ifCond .eq 11, 3) := by decide +kernel
theorem dX0_makeTooGreat_7 : decode cX0_makeTooGreat 7 = .ok (.aload_n 0, 1) := by decide +kernel
theorem dX0_makeTooGreat_8 : decode cX0_makeTooGreat 8 = .ok (.iload_n 2, 1) := by decide +kernel
theorem dX0_makeTooGreat_9 : decode cX0_makeTooGreat 9 = .ok (.invokevirtual 136, 3) := by decide +kernel
theorem dX0_makeTooGreat_12 : decode cX0_makeTooGreat 12 = .ok (.ifCond .eq 24, 3) := by decide +kernel
theorem dX0_makeTooGreat_15 : decode cX0_makeTooGreat 15 = .ok (.aload_n 0, 1) := by decide +kernel
theorem dX0_makeTooGreat_16 : decode cX0_makeTooGreat 16 = .ok (.iload_n 1, 1) := by decide +kernel
theorem dX0_makeTooGreat_17 : decode cX0_makeTooGreat 17 = .ok (.iload_n 2, 1) := by decide +kernel
theorem dX0_makeTooGreat_18 : decode cX0_makeTooGreat 18 = .ok (.sipush 32767, 3) := by decide +kernel
theorem dX0_makeTooGreat_21 : decode cX0_makeTooGreat 21 = .ok (.ldc2_w 62, 3) := by decide +kernel
theorem dX0_makeTooGreat_24 : decode cX0_makeTooGreat 24 = .ok (.invokevirtual 109, 3) := by decide +kernel
theorem dX0_makeTooGreat_27 : decode cX0_makeTooGreat 27 = .ok (.aload_n 0, 1) := by decide +kernel
theorem dX0_makeTooGreat_28 : decode cX0_makeTooGreat 28 = .ok (.bipush 40, 2) := by decide +kernel
theorem dX0_makeTooGreat_30 : decode cX0_makeTooGreat 30 = .ok (.iload_n 3, 1) := by decide +kernel
theorem dX0_makeTooGreat_31 : decode cX0_makeTooGreat 31 = .ok (.iconst 1, 1) := by decide +kernel
theorem dX0_makeTooGreat_32 : decode cX0_makeTooGreat 32 = .ok (.invokevirtual 76, 3) := by decide +kernel
theorem dX0_makeTooGreat_35 : decode cX0_makeTooGreat 35 = .ok (.ireturn, 1) := by decide +kernel
theorem dX0_makeTooGreat_36 : decode cX0_makeTooGreat 36 = .ok (.aload_n 0, 1) := by decide +kernel
theorem dX0_makeTooGreat_37 : decode cX0_makeTooGreat 37 = .ok (.iload_n 1, 1) := by decide +kernel
theorem dX0_makeTooGreat_38 : decode cX0_makeTooGreat 38 = .ok (.iload_n 2, 1) := by decide +kernel
theorem dX0_makeTooGreat_39 : decode cX0_makeTooGreat 39 = .ok (.sipush 32766, 3) := by decide +kernel
theorem dX0_makeTooGreat_42 : decode cX0_makeTooGreat 42 = .ok (.ldc2_w 171, 3) := by decide +kernel
theorem dX0_makeTooGreat_45 : decode cX0_makeTooGreat 45 = .ok (.bipush 64, 2) := by decide +kernel
theorem dX0_makeTooGreat_47 : decode cX0_makeTooGreat 47 = .ok (.aload_n 0, 1) := by decide +kernel
theorem dX0_makeTooGreat_48 : decode cX0_makeTooGreat 48 = .ok (.invokevirtual 149, 3) := by decide +kernel
theorem dX0_makeTooGreat_51 : decode cX0_makeTooGreat 51 = .ok (.isub, 1) := by decide +kernel
theorem dX0_makeTooGreat_52 : decode cX0_makeTooGreat 52 = .ok (.lshl, 1) := by decide +kernel
theorem dX0_makeTooGreat_53 : decode cX0_makeTooGreat 53 = .ok (.invokevirtual 109, 3) := by decide +kernel
theorem dX0_makeTooGreat_56 : decode cX0_makeTooGreat 56 = .ok (.aload_n 0, 1) := by decide +kernel
theorem dX0_makeTooGreat_57 : decode cX0_makeTooGreat 57 = .ok (.bipush 40, 2) := by decide +kernel
theorem dX0_makeTooGreat_59 : decode cX0_makeTooGreat 59 = .ok (.iload_n 3, 1) := by decide +kernel
theorem dX0_makeTooGreat_60 : decode cX0_makeTooGreat 60 = .ok (.iconst (-1), 1) := by decide +kernel
theorem dX0_makeTooGreat_61 : decode cX0_makeTooGreat 61 = .ok (.invokevirtual 76, 3) := by decide +kernel
theorem dX0_makeTooGreat_64 : decode cX0_makeTooGreat 64 = .ok (.ireturn, 1) := by decide +kernel
theorem dX0_again_0 : decode cX0_again 0 = .ok (.iload_n 1, 1) := by decide +kernel
theorem dX0_again_1 : decode cX0_again 1 = .ok (.invokestatic 32, 3) := by decide +kernel
theorem dX0_again_4 : decode cX0_again 4 = .ok (.ifCond .ne 10, 3) := by decide +kernel
theorem dX0_again_7 : decode cX0_again 7 = .ok (.iload_n 2, 1) := by decide +kernel
theorem dX0_again_8 : decode cX0_again 8 = .ok (.invokestatic 32, 3) := by decide +kernel
theorem dX0_again_11 : decode cX0_again 11 = .ok (.ifCond .eq 13, 3) := by decide +kernel
theorem dX0_again_14 : decode cX0_again 14 = .ok (.new 35, 3) := by decide +kernel
theorem dX0_again_17 : decode cX0_again 17 = .ok (.dup, 1) := by decide +kernel
theorem dX0_again_18 : decode cX0_again 18 = .ok (.ldc 37, 2) := by decide +kernel
theorem dX0_again_20 : decode cX0_again 20 = .ok (.invokespecial 39, 3) := by decide +kernel
theorem dX0_again_23 : decode cX0_again 23 = .ok (.athrow, 1) := by decide +kernel
theorem dX0_again_24 : decode cX0_again 24 = .ok (.aload_n 0, 1) := by decide +kernel
theorem dX0_again_25 : decode cX0_again 25 = .ok (.iload_n 1, 1) := by decide +kernel
theorem dX0_again_26 : decode cX0_again 26 = .ok (.invokevirtual 46, 3) := by decide +kernel
theorem dX0_again_29 : decode cX0_again 29 = .ok (.istore_n 3, 1) := by decide +kernel
theorem dX0_again_30 : decode cX0_again 30 = .ok (.iload_n 3, 1) := by decide +kernel
theorem dX0_again_31 : decode cX0_again 31 = .ok (.iconst 4, 1) := by decide +kernel
theorem dX0_again_32 : decode cX0_again 32 = .ok (.if_icmp .eq 8, 3) := by decide +kernel
theorem dX0_again_35 : decode cX0_again 35 = .ok (.iload_n 3, 1) := by decide +kernel
theorem dX0_again_36 : decode cX0_again 36 = .ok (.iconst 5, 1) := by decide +kernel
theorem dX0_again_37 : decode cX0_again 37 = .ok (.if_icmp .ne 17, 3) := by decide +kernel
theorem dX0_again_40 : decode cX0_again 40 = .ok (.aload_n 0, 1) := by decide +kernel
theorem dX0_again_41 : decode cX0_again 41 = .ok (.iload_n 1, 1) := by decide +kernel
theorem dX0_again_42 : decode cX0_again 42 = .ok (.iload_n 2, 1) := by decide +kernel
theorem dX0_again_43 : decode cX0_again 43 = .ok (.invokevirtual 72, 3) := by decide +kernel
theorem dX0_again_46 : decode cX0_again 46 = .ok (.aload_n 0, 1) := by decide +kernel
theorem dX0_again_47 : decode cX0_again 47 = .ok (.iconst 0, 1) := by decide +kernel
theorem dX0_again_48 : decode cX0_again 48 = .ok (.iconst 0, 1) := by decide +kernel
theorem dX0_again_49 : decode cX0_again 49 = .ok (.iconst 0, 1) := by decide +kernel
theorem dX0_again_50 : decode cX0_again 50 = .ok (.invokevirtual 76, 3) := by decide +kernel
theorem dX0_again_53 : decode cX0_again 53 = .ok (.ireturn, 1) := by decide +kernel
theorem dX0_again_54 : decode cX0_again 54 = .ok (.aload_n 0, 1) := by decide +kernel
theorem dX0_again_55 : decode cX0_again 55 = .ok (.getfield 13, 3) := by decide +kernel
theorem dX0_again_58 : decode cX0_again 58 = .ok (.iload_n 1, 1) := by decide +kernel
theorem dX0_again_59 : decode cX0_again 59 = .ok (.laload, 1) := by decide +kernel
theorem dX0_again_60 : decode cX0_again 60 = .ok (.lstore 4, 2) := by decide +kernel
theorem dX0_again_62 : decode cX0_again 62 = .ok (.lload 4, 2) := by decide +kernel
theorem dX0_again_64 : decode cX0_again 64 = .ok (.invokestatic 50, 3) := by decide +kernel
theorem dX0_again_67 : decode cX0_again 67 = .ok (.istore 6, 2) := by decide +kernel
theorem dX0_again_69 : decode cX0_again 69 = .ok (.aload_n 0, 1) := by decide +kernel
theorem dX0_again_70 : decode cX0_again 70 = .ok (.iload_n 1, 1) := by decide +kernel
theorem dX0_again_71 : decode cX0_again 71 = .ok (.invokevirtual 80, 3) := by decide +kernel
theorem dX0_again_74 : decode cX0_again 74 = .ok (.iconst 1, 1) := by decide +kernel
theorem dX0_again_75 : decode cX0_again 75 = .ok (.invokestatic 83, 3) := by decide +kernel
theorem dX0_again_78 : decode cX0_again 78 = .ok (.sipush 16383, 3) := by decide +kernel
theorem dX0_again_81 : decode cX0_again 81 = .ok (.isub, 1) := by decide +kernel
theorem dX0_again_82 : decode cX0_again 82 = .ok (.iload 6, 2) := by decide +kernel
theorem dX0_again_84 : decode cX0_again 84 = .ok (.isub, 1) := by decide +kernel
theorem dX0_again_85 : decode cX0_again 85 = .ok (.istore 7, 2) := by decide +kernel
theorem dX0_again_87 : decode cX0_again 87 = .ok (.aload_n 0, 1) := by decide +kernel
theorem dX0_again_88 : decode cX0_again 88 = .ok (.iload_n 2, 1) := by decide +kernel
theorem dX0_again_89 : decode cX0_again 89 = .ok (.aload_n 0, 1) := by decide +kernel
theorem dX0_again_90 : decode cX0_again 90 = .ok (.iload_n 1, 1) := by decide +kernel
theorem dX0_again_91 : decode cX0_again 91 = .ok (.invokevirtual 89, 3) := by decide +kernel
theorem dX0_again_94 : decode cX0_again 94 = .ok (.iload 7, 2) := by decide +kernel
theorem dX0_again_96 : decode cX0_again 96 = .ok (.lload 4, 2) := by decide +kernel
theorem dX0_again_98 : decode cX0_again 98 = .ok (.lconst 0, 1) := by decide +kernel
theorem dX0_again_99 : decode cX0_again 99 = .ok (.iload 6, 2) := by decide +kernel
theorem dX0_again_101 : decode cX0_again 101 = .ok (.invokestatic 64, 3) := by decide +kernel
theorem dX0_again_104 : decode cX0_again 104 = .ok (.lconst 0, 1) := by decide +kernel
theorem dX0_again_105 : decode cX0_again 105 = .ok (.invokevirtual 68, 3) := by decide +kernel
theorem dX0_again_108 : decode cX0_again 108 = .ok (.ireturn, 1) := by decide +kernel
theorem dX0_copy_0 : decode cX0_copy 0 = .ok (.aload_n 0, 1) := by decide +kernel
theorem dX0_copy_1 : decode cX0_copy 1 = .ok (.getfield 9, 3) := by decide +kernel
theorem dX0_copy_4 : decode cX0_copy 4 = .ok (.iload_n 2, 1) := by decide +kernel
theorem dX0_copy_5 : decode cX0_copy 5 = .ok (.aload_n 0, 1) := by decide +kernel
theorem dX0_copy_6 : decode cX0_copy 6 = .ok (.getfield 9, 3) := by decide +kernel
theorem dX0_copy_9 : decode cX0_copy 9 = .ok (.iload_n 1, 1) := by decide +kernel
theorem dX0_copy_10 : decode cX0_copy 10 = .ok (.iaload, 1) := by decide +kernel
theorem dX0_copy_11 : decode cX0_copy 11 = .ok (.iastore, 1) := by decide +kernel
theorem dX0_copy_12 : decode cX0_copy 12 = .ok (.aload_n 0, 1) := by decide +kernel
theorem dX0_copy_13 : decode cX0_copy 13 = .ok (.getfield 13, 3) := by decide +kernel
theorem dX0_copy_16 : decode cX0_copy 16 = .ok (.iload_n 2, 1) := by decide +kernel
theorem dX0_copy_17 : decode cX0_copy 17 = .ok (.aload_n 0, 1) := by decide +kernel
theorem dX0_copy_18 : decode cX0_copy 18 = .ok (.getfield 13, 3) := by decide +kernel
theorem dX0_copy_21 : decode cX0_copy 21 = .ok (.iload_n 1, 1) := by decide +kernel
theorem dX0_copy_22 : decode cX0_copy 22 = .ok (.laload, 1) := by decide +kernel
theorem dX0_copy_23 : decode cX0_copy 23 = .ok (.lastore, 1) := by decide +kernel
theorem dX0_copy_24 : decode cX0_copy 24 = .ok (.return_, 1) := by decide +kernel
theorem dX0_isNegative_0 : decode cX0_isNegative 0 = .ok (.aload_n 0, 1) := by decide +kernel
theorem dX0_isNegative_1 : decode cX0_isNegative 1 = .ok (.getfield 9, 3) := by decide +kernel
theorem dX0_isNegative_4 : decode cX0_isNegative 4 = .ok (.iload_n 1, 1) := by decide +kernel
theorem dX0_isNegative_5 : decode cX0_isNegative 5 = .ok (.iaload, 1) := by decide +kernel
theorem dX0_isNegative_6 : decode cX0_isNegative 6 = .ok (.ldc 129, 2) := by decide +kernel
theorem dX0_isNegative_8 : decode cX0_isNegative 8 = .ok (.iand, 1) := by decide +kernel
theorem dX0_isNegative_9 : decode cX0_isNegative 9 = .ok (.ifCond .eq 7, 3) := by decide +kernel
theorem dX0_isNegative_12 : decode cX0_isNegative 12 = .ok (.iconst 1, 1) := by decide +kernel
theorem dX0_isNegative_13 : decode cX0_isNegative 13 = .ok (.goto 4, 3) := by decide +kernel
theorem dX0_isNegative_16 : decode cX0_isNegative 16 = .ok (.iconst 0, 1) := by decide +kernel
theorem dX0_isNegative_17 : decode cX0_isNegative 17 = .ok (.ireturn, 1) := by decide +kernel
theorem dX0_last_0 : decode cX0_last 0 = .ok (.iload_n 1, 1) := by decide +kernel
theorem dX0_last_1 : decode cX0_last 1 = .ok (.tableswitch 42 0 2 #[27, 32, 37], 27) := by decide +kernel
theorem dX0_last_28 : decode cX0_last 28 = .ok (.aload_n 0, 1) := by decide +kernel
theorem dX0_last_29 : decode cX0_last 29 = .ok (.getfield 92, 3) := by decide +kernel
theorem dX0_last_32 : decode cX0_last 32 = .ok (.ireturn, 1) := by decide +kernel
theorem dX0_last_33 : decode cX0_last 33 = .ok (.aload_n 0, 1) := by decide +kernel
theorem dX0_last_34 : decode cX0_last 34 = .ok (.getfield 95, 3) := by decide +kernel
theorem dX0_last_37 : decode cX0_last 37 = .ok (.ireturn, 1) := by decide +kernel
theorem dX0_last_38 : decode cX0_last 38 = .ok (.aload_n 0, 1) := by decide +kernel
theorem dX0_last_39 : decode cX0_last 39 = .ok (.getfield 98, 3) := by decide +kernel
theorem dX0_last_42 : decode cX0_last 42 = .ok (.ireturn, 1) := by decide +kernel
theorem dX0_last_43 : decode cX0_last 43 = .ok (.new 25, 3) := by decide +kernel
theorem dX0_last_46 : decode cX0_last 46 = .ok (.dup, 1) := by decide +kernel
theorem dX0_last_47 : decode cX0_last 47 = .ok (.ldc 101, 2) := by decide +kernel
theorem dX0_last_49 : decode cX0_last 49 = .ok (.invokespecial 29, 3) := by decide +kernel
theorem dX0_last_52 : decode cX0_last 52 = .ok (.athrow, 1) := by decide +kernel
theorem dX0_compare_0 : decode cX0_compare 0 = .ok (.iload_n 1, 1) := by decide +kernel
theorem dX0_compare_1 : decode cX0_compare 1 = .ok (.invokestatic 32, 3) := by decide +kernel
theorem dX0_compare_4 : decode cX0_compare 4 = .ok (.ifCond .ne 10, 3) := by decide +kernel
theorem dX0_compare_7 : decode cX0_compare 7 = .ok (.iload_n 2, 1) := by decide +kernel
theorem dX0_compare_8 : decode cX0_compare 8 = .ok (.invokestatic 32, 3) := by decide +kernel
theorem dX0_compare_11 : decode cX0_compare 11 = .ok (.ifCond .eq 13, 3) := by decide +kernel
theorem dX0_compare_14 : decode cX0_compare 14 = .ok (.new 35, 3) := by decide +kernel
theorem dX0_compare_17 : decode cX0_compare 17 = .ok (.dup, 1) := by decide +kernel
theorem dX0_compare_18 : decode cX0_compare 18 = .ok (.ldc 37, 2) := by decide +kernel
theorem dX0_compare_20 : decode cX0_compare 20 = .ok (.invokespecial 39, 3) := by decide +kernel
theorem dX0_compare_23 : decode cX0_compare 23 = .ok (.athrow, 1) := by decide +kernel
theorem dX0_compare_24 : decode cX0_compare 24 = .ok (.aload_n 0, 1) := by decide +kernel
theorem dX0_compare_25 : decode cX0_compare 25 = .ok (.iload_n 1, 1) := by decide +kernel
theorem dX0_compare_26 : decode cX0_compare 26 = .ok (.invokevirtual 46, 3) := by decide +kernel
theorem dX0_compare_29 : decode cX0_compare 29 = .ok (.iconst 5, 1) := by decide +kernel
theorem dX0_compare_30 : decode cX0_compare 30 = .ok (.if_icmp .eq 12, 3) := by decide +kernel
theorem dX0_compare_33 : decode cX0_compare 33 = .ok (.aload_n 0, 1) := by decide +kernel
theorem dX0_compare_34 : decode cX0_compare 34 = .ok (.iload_n 2, 1) := by decide +kernel
theorem dX0_compare_35 : decode cX0_compare 35 = .ok (.invokevirtual 46, 3) := by decide +kernel
theorem dX0_compare_38 : decode cX0_compare 38 = .ok (.iconst 5, 1) := by decide +kernel
theorem dX0_compare_39 : decode cX0_compare 39 = .ok (.if_icmp .ne 5, 3) := by decide +kernel
theorem dX0_compare_42 : decode cX0_compare 42 = .ok (.iconst 2, 1) := by decide +kernel
theorem dX0_compare_43 : decode cX0_compare 43 = .ok (.ireturn, 1) := by decide +kernel
theorem dX0_compare_44 : decode cX0_compare 44 = .ok (.aload_n 0, 1) := by decide +kernel
theorem dX0_compare_45 : decode cX0_compare 45 = .ok (.iload_n 1, 1) := by decide +kernel
theorem dX0_compare_46 : decode cX0_compare 46 = .ok (.invokevirtual 103, 3) := by decide +kernel
theorem dX0_compare_49 : decode cX0_compare 49 = .ok (.istore_n 3, 1) := by decide +kernel
theorem dX0_compare_50 : decode cX0_compare 50 = .ok (.aload_n 0, 1) := by decide +kernel
theorem dX0_compare_51 : decode cX0_compare 51 = .ok (.iload_n 2, 1) := by decide +kernel
theorem dX0_compare_52 : decode cX0_compare 52 = .ok (.invokevirtual 103, 3) := by decide +kernel
theorem dX0_compare_55 : decode cX0_compare 55 = .ok (.istore 4, 2) := by decide +kernel
theorem dX0_compare_57 : decode cX0_compare 57 = .ok (.iload_n 3, 1) := by decide +kernel
theorem dX0_compare_58 : decode cX0_compare 58 = .ok (.iload 4, 2) := by decide +kernel
theorem dX0_compare_60 : decode cX0_compare 60 = .ok (.if_icmp .eq 15, 3) := by decide +kernel
theorem dX0_compare_63 : decode cX0_compare 63 = .ok (.iload_n 3, 1) := by decide +kernel
theorem dX0_compare_64 : decode cX0_compare 64 = .ok (.iload 4, 2) := by decide +kernel
theorem dX0_compare_66 : decode cX0_compare 66 = .ok (.if_icmp .ge 7, 3) := by decide +kernel
theorem dX0_compare_69 : decode cX0_compare 69 = .ok (.iconst (-1), 1) := by decide +kernel
theorem dX0_compare_70 : decode cX0_compare 70 = .ok (.goto 4, 3) := by decide +kernel
theorem dX0_compare_73 : decode cX0_compare 73 = .ok (.iconst 1, 1) := by decide +kernel
theorem dX0_compare_74 : decode cX0_compare 74 = .ok (.ireturn, 1) := by decide +kernel
theorem dX0_compare_75 : decode cX0_compare 75 = .ok (.iload_n 3, 1) := by decide +kernel
theorem dX0_compare_76 : decode cX0_compare 76 = .ok (.aload_n 0, 1) := by decide +kernel
theorem dX0_compare_77 : decode cX0_compare 77 = .ok (.iload_n 1, 1) := by decide +kernel
theorem dX0_compare_78 : decode cX0_compare 78 = .ok (.iload_n 2, 1) := by decide +kernel
theorem dX0_compare_79 : decode cX0_compare 79 = .ok (.invokevirtual 106, 3) := by decide +kernel
theorem dX0_compare_82 : decode cX0_compare 82 = .ok (.imul, 1) := by decide +kernel
theorem dX0_compare_83 : decode cX0_compare 83 = .ok (.ireturn, 1) := by decide +kernel
theorem dX0_signum_0 : decode cX0_signum 0 = .ok (.aload_n 0, 1) := by decide +kernel
theorem dX0_signum_1 : decode cX0_signum 1 = .ok (.iload_n 1, 1) := by decide +kernel
theorem dX0_signum_2 : decode cX0_signum 2 = .ok (.invokevirtual 46, 3) := by decide +kernel
theorem dX0_signum_5 : decode cX0_signum 5 = .ok (.iconst 4, 1) := by decide +kernel
theorem dX0_signum_6 : decode cX0_signum 6 = .ok (.if_icmp .eq 16, 3) := by decide +kernel
theorem dX0_signum_9 : decode cX0_signum 9 = .ok (.aload_n 0, 1) := by decide +kernel
theorem dX0_signum_10 : decode cX0_signum 10 = .ok (.getfield 13, 3) := by decide +kernel
theorem dX0_signum_13 : decode cX0_signum 13 = .ok (.iload_n 1, 1) := by decide +kernel
theorem dX0_signum_14 : decode cX0_signum 14 = .ok (.laload, 1) := by decide +kernel
theorem dX0_signum_15 : decode cX0_signum 15 = .ok (.lconst 0, 1) := by decide +kernel
theorem dX0_signum_16 : decode cX0_signum 16 = .ok (.lcmp, 1) := by decide +kernel
theorem dX0_signum_17 : decode cX0_signum 17 = .ok (.ifCond .ne 5, 3) := by decide +kernel
theorem dX0_signum_20 : decode cX0_signum 20 = .ok (.iconst 0, 1) := by decide +kernel
theorem dX0_signum_21 : decode cX0_signum 21 = .ok (.ireturn, 1) := by decide +kernel
theorem dX0_signum_22 : decode cX0_signum 22 = .ok (.aload_n 0, 1) := by decide +kernel
theorem dX0_signum_23 : decode cX0_signum 23 = .ok (.iload_n 1, 1) := by decide +kernel
theorem dX0_signum_24 : decode cX0_signum 24 = .ok (.invokevirtual 89, 3) := by decide +kernel
theorem dX0_signum_27 : decode cX0_signum 27 = .ok (.ifCond .eq 7, 3) := by decide +kernel
theorem dX0_signum_30 : decode cX0_signum 30 = .ok (.iconst (-1), 1) := by decide +kernel
theorem dX0_signum_31 : decode cX0_signum 31 = .ok (.goto 4, 3) := by decide +kernel
theorem dX0_signum_34 : decode cX0_signum 34 = .ok (.iconst 1, 1) := by decide +kernel
theorem dX0_signum_35 : decode cX0_signum 35 = .ok (.ireturn, 1) := by decide +kernel
theorem dX0_compareSizes_0 : decode cX0_compareSizes 0 = .ok (.aload_n 0, 1) := by decide +kernel
theorem dX0_compareSizes_1 : decode cX0_compareSizes 1 = .ok (.iload_n 1, 1) := by decide +kernel
theorem dX0_compareSizes_2 : decode cX0_compareSizes 2 = .ok (.invokevirtual 113, 3) := by decide +kernel
theorem dX0_compareSizes_5 : decode cX0_compareSizes 5 = .ok (.istore_n 3, 1) := by decide +kernel
theorem dX0_compareSizes_6 : decode cX0_compareSizes 6 = .ok (.aload_n 0, 1) := by decide +kernel
theorem dX0_compareSizes_7 : decode cX0_compareSizes 7 = .ok (.iload_n 2, 1) := by decide +kernel
theorem dX0_compareSizes_8 : decode cX0_compareSizes 8 = .ok (.invokevirtual 113, 3) := by decide +kernel
theorem dX0_compareSizes_11 : decode cX0_compareSizes 11 = .ok (.istore 4, 2) := by decide +kernel
theorem dX0_compareSizes_13 : decode cX0_compareSizes 13 = .ok (.iload_n 3, 1) := by decide +kernel
theorem dX0_compareSizes_14 : decode cX0_compareSizes 14 = .ok (.iload 4, 2) := by decide +kernel
theorem dX0_compareSizes_16 : decode cX0_compareSizes 16 = .ok (.if_icmp .eq 15, 3) := by decide +kernel
theorem dX0_compareSizes_19 : decode cX0_compareSizes 19 = .ok (.iload_n 3, 1) := by decide +kernel
theorem dX0_compareSizes_20 : decode cX0_compareSizes 20 = .ok (.iload 4, 2) := by decide +kernel
theorem dX0_compareSizes_22 : decode cX0_compareSizes 22 = .ok (.if_icmp .ge 7, 3) := by decide +kernel
theorem dX0_compareSizes_25 : decode cX0_compareSizes 25 = .ok (.iconst (-1), 1) := by decide +kernel
theorem dX0_compareSizes_26 : decode cX0_compareSizes 26 = .ok (.goto 4, 3) := by decide +kernel
theorem dX0_compareSizes_29 : decode cX0_compareSizes 29 = .ok (.iconst 1, 1) := by decide +kernel
theorem dX0_compareSizes_30 : decode cX0_compareSizes 30 = .ok (.ireturn, 1) := by decide +kernel
theorem dX0_compareSizes_31 : decode cX0_compareSizes 31 = .ok (.aload_n 0, 1) := by decide +kernel
theorem dX0_compareSizes_32 : decode cX0_compareSizes 32 = .ok (.iload_n 1, 1) := by decide +kernel
theorem dX0_compareSizes_33 : decode cX0_compareSizes 33 = .ok (.invokevirtual 116, 3) := by decide +kernel
theorem dX0_compareSizes_36 : decode cX0_compareSizes 36 = .ok (.aload_n 0, 1) := by decide +kernel
theorem dX0_compareSizes_37 : decode cX0_compareSizes 37 = .ok (.iload_n 2, 1) := by decide +kernel
theorem dX0_compareSizes_38 : decode cX0_compareSizes 38 = .ok (.invokevirtual 116, 3) := by decide +kernel
theorem dX0_compareSizes_41 : decode cX0_compareSizes 41 = .ok (.invokestatic 173, 3) := by decide +kernel
theorem dX0_compareSizes_44 : decode cX0_compareSizes 44 = .ok (.invokestatic 177, 3) := by decide +kernel
theorem dX0_compareSizes_47 : decode cX0_compareSizes 47 = .ok (.ireturn, 1) := by decide +kernel
theorem dX0_plainPower_0 : decode cX0_plainPower 0 = .ok (.aload_n 0, 1) := by decide +kernel
theorem dX0_plainPower_1 : decode cX0_plainPower 1 = .ok (.iload_n 1, 1) := by decide +kernel
theorem dX0_plainPower_2 : decode cX0_plainPower 2 = .ok (.invokevirtual 80, 3) := by decide +kernel
theorem dX0_plainPower_5 : decode cX0_plainPower 5 = .ok (.sipush 32767, 3) := by decide +kernel
theorem dX0_plainPower_8 : decode cX0_plainPower 8 = .ok (.if_icmp .ne 7, 3) := by decide +kernel
theorem dX0_plainPower_11 : decode cX0_plainPower 11 = .ok (.sipush 32767, 3) := by decide +kernel
theorem dX0_plainPower_14 : decode cX0_plainPower 14 = .ok (.ireturn, 1) := by decide +kernel
theorem dX0_plainPower_15 : decode cX0_plainPower 15 = .ok (.aload_n 0, 1) := by decide +kernel
theorem dX0_plainPower_16 : decode cX0_plainPower 16 = .ok (.iload_n 1, 1) := by decide +kernel
theorem dX0_plainPower_17 : decode cX0_plainPower 17 = .ok (.invokevirtual 116, 3) := by decide +kernel
theorem dX0_plainPower_20 : decode cX0_plainPower 20 = .ok (.lconst 0, 1) := by decide +kernel
theorem dX0_plainPower_21 : decode cX0_plainPower 21 = .ok (.lcmp, 1) := by decide +kernel
theorem dX0_plainPower_22 : decode cX0_plainPower 22 = .ok (.ifCond .ge 21, 3) := by decide +kernel
theorem dX0_plainPower_25 : decode cX0_plainPower 25 = .ok (.aload_n 0, 1) := by decide +kernel
theorem dX0_plainPower_26 : decode cX0_plainPower 26 = .ok (.iload_n 1, 1) := by decide +kernel
theorem dX0_plainPower_27 : decode cX0_plainPower 27 = .ok (.invokevirtual 80, 3) := by decide +kernel
theorem dX0_plainPower_30 : decode cX0_plainPower 30 = .ok (.iconst 1, 1) := by decide +kernel
theorem dX0_plainPower_31 : decode cX0_plainPower 31 = .ok (.invokestatic 83, 3) := by decide +kernel
theorem dX0_plainPower_34 : decode cX0_plainPower 34 = .ok (.aload_n 0, 1) := by decide +kernel
theorem dX0_plainPower_35 : decode cX0_plainPower 35 = .ok (.iload_n 1, 1) := by decide +kernel
theorem dX0_plainPower_36 : decode cX0_plainPower 36 = .ok (.invokevirtual 183, 3) := by decide +kernel
theorem dX0_plainPower_39 : decode cX0_plainPower 39 = .ok (.isub, 1) := by decide +kernel
theorem dX0_plainPower_40 : decode cX0_plainPower 40 = .ok (.goto 4, 3) := by decide +kernel
theorem dX0_plainPower_43 : decode cX0_plainPower 43 = .ok (.iconst 0, 1) := by decide +kernel
theorem dX0_plainPower_44 : decode cX0_plainPower 44 = .ok (.ireturn, 1) := by decide +kernel
theorem dX0_plainFraction_0 : decode cX0_plainFraction 0 = .ok (.aload_n 0, 1) := by decide +kernel
theorem dX0_plainFraction_1 : decode cX0_plainFraction 1 = .ok (.iload_n 1, 1) := by decide +kernel
theorem dX0_plainFraction_2 : decode cX0_plainFraction 2 = .ok (.invokevirtual 80, 3) := by decide +kernel
theorem dX0_plainFraction_5 : decode cX0_plainFraction 5 = .ok (.sipush 32767, 3) := by decide +kernel
theorem dX0_plainFraction_8 : decode cX0_plainFraction 8 = .ok (.if_icmp .ne 7, 3) := by decide +kernel
theorem dX0_plainFraction_11 : decode cX0_plainFraction 11 = .ok (.ldc2_w 62, 3) := by decide +kernel
theorem dX0_plainFraction_14 : decode cX0_plainFraction 14 = .ok (.lreturn, 1) := by decide +kernel
theorem dX0_plainFraction_15 : decode cX0_plainFraction 15 = .ok (.aload_n 0, 1) := by decide +kernel
theorem dX0_plainFraction_16 : decode cX0_plainFraction 16 = .ok (.getfield 13, 3) := by decide +kernel
theorem dX0_plainFraction_19 : decode cX0_plainFraction 19 = .ok (.iload_n 1, 1) := by decide +kernel
theorem dX0_plainFraction_20 : decode cX0_plainFraction 20 = .ok (.laload, 1) := by decide +kernel
theorem dX0_plainFraction_21 : decode cX0_plainFraction 21 = .ok (.lconst 0, 1) := by decide +kernel
theorem dX0_plainFraction_22 : decode cX0_plainFraction 22 = .ok (.aload_n 0, 1) := by decide +kernel
theorem dX0_plainFraction_23 : decode cX0_plainFraction 23 = .ok (.iload_n 1, 1) := by decide +kernel
theorem dX0_plainFraction_24 : decode cX0_plainFraction 24 = .ok (.invokevirtual 183, 3) := by decide +kernel
theorem dX0_plainFraction_27 : decode cX0_plainFraction 27 = .ok (.invokestatic 64, 3) := by decide +kernel
theorem dX0_plainFraction_30 : decode cX0_plainFraction 30 = .ok (.lreturn, 1) := by decide +kernel
theorem dX0_plainShift_0 : decode cX0_plainShift 0 = .ok (.aload_n 0, 1) := by decide +kernel
theorem dX0_plainShift_1 : decode cX0_plainShift 1 = .ok (.getfield 13, 3) := by decide +kernel
theorem dX0_plainShift_4 : decode cX0_plainShift 4 = .ok (.iload_n 1, 1) := by decide +kernel
theorem dX0_plainShift_5 : decode cX0_plainShift 5 = .ok (.laload, 1) := by decide +kernel
theorem dX0_plainShift_6 : decode cX0_plainShift 6 = .ok (.invokestatic 50, 3) := by decide +kernel
theorem dX0_plainShift_9 : decode cX0_plainShift 9 = .ok (.aload_n 0, 1) := by decide +kernel
theorem dX0_plainShift_10 : decode cX0_plainShift 10 = .ok (.iload_n 1, 1) := by decide +kernel
theorem dX0_plainShift_11 : decode cX0_plainShift 11 = .ok (.invokevirtual 80, 3) := by decide +kernel
theorem dX0_plainShift_14 : decode cX0_plainShift 14 = .ok (.iconst 1, 1) := by decide +kernel
theorem dX0_plainShift_15 : decode cX0_plainShift 15 = .ok (.invokestatic 83, 3) := by decide +kernel
theorem dX0_plainShift_18 : decode cX0_plainShift 18 = .ok (.iconst 1, 1) := by decide +kernel
theorem dX0_plainShift_19 : decode cX0_plainShift 19 = .ok (.isub, 1) := by decide +kernel
theorem dX0_plainShift_20 : decode cX0_plainShift 20 = .ok (.invokestatic 180, 3) := by decide +kernel
theorem dX0_plainShift_23 : decode cX0_plainShift 23 = .ok (.ireturn, 1) := by decide +kernel
theorem dJL_compareUnsigned_0 : decode cJL_compareUnsigned 0 = .ok (.lload_n 0, 1) := by decide +kernel
theorem dJL_compareUnsigned_1 : decode cJL_compareUnsigned 1 = .ok (.ldc2_w 168, 3) := by decide +kernel
theorem dJL_compareUnsigned_4 : decode cJL_compareUnsigned 4 = .ok (.ladd, 1) := by decide +kernel
theorem dJL_compareUnsigned_5 : decode cJL_compareUnsigned 5 = .ok (.lload_n 2, 1) := by decide +kernel
theorem dJL_compareUnsigned_6 : decode cJL_compareUnsigned 6 = .ok (.ldc2_w 168, 3) := by decide +kernel
theorem dJL_compareUnsigned_9 : decode cJL_compareUnsigned 9 = .ok (.ladd, 1) := by decide +kernel
theorem dJL_compareUnsigned_10 : decode cJL_compareUnsigned 10 = .ok (.invokestatic 302, 3) := by decide +kernel
theorem dJL_compareUnsigned_13 : decode cJL_compareUnsigned 13 = .ok (.ireturn, 1) := by decide +kernel
theorem dJL_compare_0 : decode cJL_compare 0 = .ok (.lload_n 0, 1) := by decide +kernel
theorem dJL_compare_1 : decode cJL_compare 1 = .ok (.lload_n 2, 1) := by decide +kernel
theorem dJL_compare_2 : decode cJL_compare 2 = .ok (.lcmp, 1) := by decide +kernel
theorem dJL_compare_3 : decode cJL_compare 3 = .ok (.ifCond .ge 7, 3) := by decide +kernel
theorem dJL_compare_6 : decode cJL_compare 6 = .ok (.iconst (-1), 1) := by decide +kernel
theorem dJL_compare_7 : decode cJL_compare 7 = .ok (.goto 14, 3) := by decide +kernel
theorem dJL_compare_10 : decode cJL_compare 10 = .ok (.lload_n 0, 1) := by decide +kernel
theorem dJL_compare_11 : decode cJL_compare 11 = .ok (.lload_n 2, 1) := by decide +kernel
theorem dJL_compare_12 : decode cJL_compare 12 = .ok (.lcmp, 1) := by decide +kernel
theorem dJL_compare_13 : decode cJL_compare 13 = .ok (.ifCond .ne 7, 3) := by decide +kernel
theorem dJL_compare_16 : decode cJL_compare 16 = .ok (.iconst 0, 1) := by decide +kernel
theorem dJL_compare_17 : decode cJL_compare 17 = .ok (.goto 4, 3) := by decide +kernel
theorem dJL_compare_20 : decode cJL_compare 20 = .ok (.iconst 1, 1) := by decide +kernel
theorem dJL_compare_21 : decode cJL_compare 21 = .ok (.ireturn, 1) := by decide +kernel
theorem dJI_signum_0 : decode cJI_signum 0 = .ok (.iload_n 0, 1) := by decide +kernel
theorem dJI_signum_1 : decode cJI_signum 1 = .ok (.bipush 31, 2) := by decide +kernel
theorem dJI_signum_3 : decode cJI_signum 3 = .ok (.ishr, 1) := by decide +kernel
theorem dJI_signum_4 : decode cJI_signum 4 = .ok (.iload_n 0, 1) := by decide +kernel
theorem dJI_signum_5 : decode cJI_signum 5 = .ok (.ineg, 1) := by decide +kernel
theorem dJI_signum_6 : decode cJI_signum 6 = .ok (.bipush 31, 2) := by decide +kernel
theorem dJI_signum_8 : decode cJI_signum 8 = .ok (.iushr, 1) := by decide +kernel
theorem dJI_signum_9 : decode cJI_signum 9 = .ok (.ior, 1) := by decide +kernel
theorem dJI_signum_10 : decode cJI_signum 10 = .ok (.ireturn, 1) := by decide +kernel
theorem dX0_neighbour_0 : decode cX0_neighbour 0 = .ok (.iload_n 1, 1) := by decide +kernel
theorem dX0_neighbour_1 : decode cX0_neighbour 1 = .ok (.invokestatic 32, 3) := by decide +kernel
theorem dX0_neighbour_4 : decode cX0_neighbour 4 = .ok (.ifCond .ne 10, 3) := by decide +kernel
theorem dX0_neighbour_7 : decode cX0_neighbour 7 = .ok (.iload_n 3, 1) := by decide +kernel
theorem dX0_neighbour_8 : decode cX0_neighbour 8 = .ok (.invokestatic 32, 3) := by decide +kernel
theorem dX0_neighbour_11 : decode cX0_neighbour 11 = .ok (.ifCond .eq 13, 3) := by decide +kernel
theorem dX0_neighbour_14 : decode cX0_neighbour 14 = .ok (.new 35, 3) := by decide +kernel
theorem dX0_neighbour_17 : decode cX0_neighbour 17 = .ok (.dup, 1) := by decide +kernel
theorem dX0_neighbour_18 : decode cX0_neighbour 18 = .ok (.ldc 37, 2) := by decide +kernel
theorem dX0_neighbour_20 : decode cX0_neighbour 20 = .ok (.invokespecial 39, 3) := by decide +kernel
theorem dX0_neighbour_23 : decode cX0_neighbour 23 = .ok (.athrow, 1) := by decide +kernel
theorem dX0_neighbour_24 : decode cX0_neighbour 24 = .ok (.aload_n 0, 1) := by decide +kernel
theorem dX0_neighbour_25 : decode cX0_neighbour 25 = .ok (.iload_n 1, 1) := by decide +kernel
theorem dX0_neighbour_26 : decode cX0_neighbour 26 = .ok (.invokevirtual 46, 3) := by decide +kernel
theorem dX0_neighbour_29 : decode cX0_neighbour 29 = .ok (.istore 4, 2) := by decide +kernel
theorem dX0_neighbour_31 : decode cX0_neighbour 31 = .ok (.aload_n 0, 1) := by decide +kernel
theorem dX0_neighbour_32 : decode cX0_neighbour 32 = .ok (.iload_n 1, 1) := by decide +kernel
theorem dX0_neighbour_33 : decode cX0_neighbour 33 = .ok (.invokevirtual 89, 3) := by decide +kernel
theorem dX0_neighbour_36 : decode cX0_neighbour 36 = .ok (.istore 5, 2) := by decide +kernel
theorem dX0_neighbour_38 : decode cX0_neighbour 38 = .ok (.iload_n 2, 1) := by decide +kernel
theorem dX0_neighbour_39 : decode cX0_neighbour 39 = .ok (.iload 5, 2) := by decide +kernel
theorem dX0_neighbour_41 : decode cX0_neighbour 41 = .ok (.if_icmp .eq 7, 3) := by decide +kernel
theorem dX0_neighbour_44 : decode cX0_neighbour 44 = .ok (.iconst 1, 1) := by decide +kernel
theorem dX0_neighbour_45 : decode cX0_neighbour 45 = .ok (.goto 4, 3) := by decide +kernel
theorem dX0_neighbour_48 : decode cX0_neighbour 48 = .ok (.iconst 0, 1) := by decide +kernel
theorem dX0_neighbour_49 : decode cX0_neighbour 49 = .ok (.istore 6, 2) := by decide +kernel
theorem dX0_neighbour_51 : decode cX0_neighbour 51 = .ok (.iload 4, 2) := by decide +kernel
theorem dX0_neighbour_53 : decode cX0_neighbour 53 = .ok (.iconst 5, 1) := by decide +kernel
theorem dX0_neighbour_54 : decode cX0_neighbour 54 = .ok (.if_icmp .eq 14, 3) := by decide +kernel
theorem dX0_neighbour_57 : decode cX0_neighbour 57 = .ok (.iload 4, 2) := by decide +kernel
theorem dX0_neighbour_59 : decode cX0_neighbour 59 = .ok (.iconst 4, 1) := by decide +kernel
theorem dX0_neighbour_60 : decode cX0_neighbour 60 = .ok (.if_icmp .ne 17, 3) := by decide +kernel
theorem dX0_neighbour_63 : decode cX0_neighbour 63 = .ok (.iload 6, 2) := by decide +kernel
theorem dX0_neighbour_65 : decode cX0_neighbour 65 = .ok (.ifCond .eq 12, 3) := by decide +kernel
theorem dX0_neighbour_68 : decode cX0_neighbour 68 = .ok (.aload_n 0, 1) := by decide +kernel
theorem dX0_neighbour_69 : decode cX0_neighbour 69 = .ok (.iload_n 1, 1) := by decide +kernel
theorem dX0_neighbour_70 : decode cX0_neighbour 70 = .ok (.iload_n 3, 1) := by decide +kernel
theorem dX0_neighbour_71 : decode cX0_neighbour 71 = .ok (.invokevirtual 72, 3) := by decide +kernel
theorem dX0_neighbour_74 : decode cX0_neighbour 74 = .ok (.goto 72, 3) := by decide +kernel
theorem dX0_neighbour_77 : decode cX0_neighbour 77 = .ok (.aload_n 0, 1) := by decide +kernel
theorem dX0_neighbour_78 : decode cX0_neighbour 78 = .ok (.iload_n 1, 1) := by decide +kernel
theorem dX0_neighbour_79 : decode cX0_neighbour 79 = .ok (.invokevirtual 103, 3) := by decide +kernel
theorem dX0_neighbour_82 : decode cX0_neighbour 82 = .ok (.ifCond .ne 22, 3) := by decide +kernel
theorem dX0_neighbour_85 : decode cX0_neighbour 85 = .ok (.aload_n 0, 1) := by decide +kernel
theorem dX0_neighbour_86 : decode cX0_neighbour 86 = .ok (.iload_n 3, 1) := by decide +kernel
theorem dX0_neighbour_87 : decode cX0_neighbour 87 = .ok (.iload_n 2, 1) := by decide +kernel
theorem dX0_neighbour_88 : decode cX0_neighbour 88 = .ok (.ifCond .ne 7, 3) := by decide +kernel
theorem dX0_neighbour_91 : decode cX0_neighbour 91 = .ok (.iconst 1, 1) := by decide +kernel
theorem dX0_neighbour_92 : decode cX0_neighbour 92 = .ok (.goto 4, 3) := by decide +kernel
theorem dX0_neighbour_95 : decode cX0_neighbour 95 = .ok (.iconst 0, 1) := by decide +kernel
theorem dX0_neighbour_96 : decode cX0_neighbour 96 = .ok (.iconst 0, 1) := by decide +kernel
theorem dX0_neighbour_97 : decode cX0_neighbour 97 = .ok (.lconst 1, 1) := by decide +kernel
theorem dX0_neighbour_98 : decode cX0_neighbour 98 = .ok (.invokevirtual 109, 3) := by decide +kernel
theorem dX0_neighbour_101 : decode cX0_neighbour 101 = .ok (.goto 45, 3) := by decide +kernel
theorem dX0_neighbour_104 : decode cX0_neighbour 104 = .ok (.iload 6, 2) := by decide +kernel
theorem dX0_neighbour_106 : decode cX0_neighbour 106 = .ok (.ifCond .eq 23, 3) := by decide +kernel
theorem dX0_neighbour_109 : decode cX0_neighbour 109 = .ok (.aload_n 0, 1) := by decide +kernel
theorem dX0_neighbour_110 : decode cX0_neighbour 110 = .ok (.iload_n 3, 1) := by decide +kernel
theorem dX0_neighbour_111 : decode cX0_neighbour 111 = .ok (.iload 5, 2) := by decide +kernel
theorem dX0_neighbour_113 : decode cX0_neighbour 113 = .ok (.aload_n 0, 1) := by decide +kernel
theorem dX0_neighbour_114 : decode cX0_neighbour 114 = .ok (.iload_n 1, 1) := by decide +kernel
theorem dX0_neighbour_115 : decode cX0_neighbour 115 = .ok (.invokevirtual 113, 3) := by decide +kernel
theorem dX0_neighbour_118 : decode cX0_neighbour 118 = .ok (.aload_n 0, 1) := by decide +kernel
theorem dX0_neighbour_119 : decode cX0_neighbour 119 = .ok (.iload_n 1, 1) := by decide +kernel
theorem dX0_neighbour_120 : decode cX0_neighbour 120 = .ok (.invokevirtual 116, 3) := by decide +kernel
theorem dX0_neighbour_123 : decode cX0_neighbour 123 = .ok (.invokevirtual 120, 3) := by decide +kernel
theorem dX0_neighbour_126 : decode cX0_neighbour 126 = .ok (.goto 20, 3) := by decide +kernel
theorem dX0_neighbour_129 : decode cX0_neighbour 129 = .ok (.aload_n 0, 1) := by decide +kernel
theorem dX0_neighbour_130 : decode cX0_neighbour 130 = .ok (.iload_n 3, 1) := by decide +kernel
theorem dX0_neighbour_131 : decode cX0_neighbour 131 = .ok (.iload 5, 2) := by decide +kernel
theorem dX0_neighbour_133 : decode cX0_neighbour 133 = .ok (.aload_n 0, 1) := by decide +kernel
theorem dX0_neighbour_134 : decode cX0_neighbour 134 = .ok (.iload_n 1, 1) := by decide +kernel
theorem dX0_neighbour_135 : decode cX0_neighbour 135 = .ok (.invokevirtual 113, 3) := by decide +kernel
theorem dX0_neighbour_138 : decode cX0_neighbour 138 = .ok (.aload_n 0, 1) := by decide +kernel
theorem dX0_neighbour_139 : decode cX0_neighbour 139 = .ok (.iload_n 1, 1) := by decide +kernel
theorem dX0_neighbour_140 : decode cX0_neighbour 140 = .ok (.invokevirtual 116, 3) := by decide +kernel
theorem dX0_neighbour_143 : decode cX0_neighbour 143 = .ok (.invokevirtual 123, 3) := by decide +kernel
theorem dX0_neighbour_146 : decode cX0_neighbour 146 = .ok (.return_, 1) := by decide +kernel
theorem dX0_storeNextGreater_0 : decode cX0_storeNextGreater 0 = .ok (.lload 4, 2) := by decide +kernel
theorem dX0_storeNextGreater_2 : decode cX0_storeNextGreater 2 = .ok (.ldc2_w 171, 3) := by decide +kernel
theorem dX0_storeNextGreater_5 : decode cX0_storeNextGreater 5 = .ok (.lcmp, 1) := by decide +kernel
theorem dX0_storeNextGreater_6 : decode cX0_storeNextGreater 6 = .ok (.ifCond .ne 18, 3) := by decide +kernel
theorem dX0_storeNextGreater_9 : decode cX0_storeNextGreater 9 = .ok (.aload_n 0, 1) := by decide +kernel
theorem dX0_storeNextGreater_10 : decode cX0_storeNextGreater 10 = .ok (.iload_n 1, 1) := by decide +kernel
theorem dX0_storeNextGreater_11 : decode cX0_storeNextGreater 11 = .ok (.iload_n 2, 1) := by decide +kernel
theorem dX0_storeNextGreater_12 : decode cX0_storeNextGreater 12 = .ok (.iload_n 3, 1) := by decide +kernel
theorem dX0_storeNextGreater_13 : decode cX0_storeNextGreater 13 = .ok (.iconst 1, 1) := by decide +kernel
theorem dX0_storeNextGreater_14 : decode cX0_storeNextGreater 14 = .ok (.iadd, 1) := by decide +kernel
theorem dX0_storeNextGreater_15 : decode cX0_storeNextGreater 15 = .ok (.ldc2_w 62, 3) := by decide +kernel
theorem dX0_storeNextGreater_18 : decode cX0_storeNextGreater 18 = .ok (.invokevirtual 109, 3) := by decide +kernel
theorem dX0_storeNextGreater_21 : decode cX0_storeNextGreater 21 = .ok (.goto 33, 3) := by decide +kernel
theorem dX0_storeNextGreater_24 : decode cX0_storeNextGreater 24 = .ok (.lload 4, 2) := by decide +kernel
theorem dX0_storeNextGreater_26 : decode cX0_storeNextGreater 26 = .ok (.lconst 1, 1) := by decide +kernel
theorem dX0_storeNextGreater_27 : decode cX0_storeNextGreater 27 = .ok (.ladd, 1) := by decide +kernel
theorem dX0_storeNextGreater_28 : decode cX0_storeNextGreater 28 = .ok (.lstore 6, 2) := by decide +kernel
theorem dX0_storeNextGreater_30 : decode cX0_storeNextGreater 30 = .ok (.aload_n 0, 1) := by decide +kernel
theorem dX0_storeNextGreater_31 : decode cX0_storeNextGreater 31 = .ok (.iload_n 1, 1) := by decide +kernel
theorem dX0_storeNextGreater_32 : decode cX0_storeNextGreater 32 = .ok (.iload_n 2, 1) := by decide +kernel
theorem dX0_storeNextGreater_33 : decode cX0_storeNextGreater 33 = .ok (.lload 6, 2) := by decide +kernel
theorem dX0_storeNextGreater_35 : decode cX0_storeNextGreater 35 = .ok (.lconst 0, 1) := by decide +kernel
theorem dX0_storeNextGreater_36 : decode cX0_storeNextGreater 36 = .ok (.lcmp, 1) := by decide +kernel
theorem dX0_storeNextGreater_37 : decode cX0_storeNextGreater 37 = .ok (.ifCond .ge 11, 3) := by decide +kernel
theorem dX0_storeNextGreater_40 : decode cX0_storeNextGreater 40 = .ok (.iload_n 3, 1) := by decide +kernel
theorem dX0_storeNextGreater_41 : decode cX0_storeNextGreater 41 = .ok (.iconst 1, 1) := by decide +kernel
theorem dX0_storeNextGreater_42 : decode cX0_storeNextGreater 42 = .ok (.invokestatic 83, 3) := by decide +kernel
theorem dX0_storeNextGreater_45 : decode cX0_storeNextGreater 45 = .ok (.goto 4, 3) := by decide +kernel
theorem dX0_storeNextGreater_48 : decode cX0_storeNextGreater 48 = .ok (.iconst 0, 1) := by decide +kernel
theorem dX0_storeNextGreater_49 : decode cX0_storeNextGreater 49 = .ok (.lload 6, 2) := by decide +kernel
theorem dX0_storeNextGreater_51 : decode cX0_storeNextGreater 51 = .ok (.invokevirtual 109, 3) := by decide +kernel
theorem dX0_storeNextGreater_54 : decode cX0_storeNextGreater 54 = .ok (.return_, 1) := by decide +kernel
theorem dX0_storeNextLesser_0 : decode cX0_storeNextLesser 0 = .ok (.lload 4, 2) := by decide +kernel
theorem dX0_storeNextLesser_2 : decode cX0_storeNextLesser 2 = .ok (.ldc2_w 62, 3) := by decide +kernel
theorem dX0_storeNextLesser_5 : decode cX0_storeNextLesser 5 = .ok (.lcmp, 1) := by decide +kernel
theorem dX0_storeNextLesser_6 : decode cX0_storeNextLesser 6 = .ok (.ifCond .ne 23, 3) := by decide +kernel
theorem dX0_storeNextLesser_9 : decode cX0_storeNextLesser 9 = .ok (.iload_n 3, 1) := by decide +kernel
theorem dX0_storeNextLesser_10 : decode cX0_storeNextLesser 10 = .ok (.iconst 1, 1) := by decide +kernel
theorem dX0_storeNextLesser_11 : decode cX0_storeNextLesser 11 = .ok (.if_icmp .le 18, 3) := by decide +kernel
theorem dX0_storeNextLesser_14 : decode cX0_storeNextLesser 14 = .ok (.aload_n 0, 1) := by decide +kernel
theorem dX0_storeNextLesser_15 : decode cX0_storeNextLesser 15 = .ok (.iload_n 1, 1) := by decide +kernel
theorem dX0_storeNextLesser_16 : decode cX0_storeNextLesser 16 = .ok (.iload_n 2, 1) := by decide +kernel
theorem dX0_storeNextLesser_17 : decode cX0_storeNextLesser 17 = .ok (.iload_n 3, 1) := by decide +kernel
theorem dX0_storeNextLesser_18 : decode cX0_storeNextLesser 18 = .ok (.iconst 1, 1) := by decide +kernel
theorem dX0_storeNextLesser_19 : decode cX0_storeNextLesser 19 = .ok (.isub, 1) := by decide +kernel
theorem dX0_storeNextLesser_20 : decode cX0_storeNextLesser 20 = .ok (.ldc2_w 171, 3) := by decide +kernel
theorem dX0_storeNextLesser_23 : decode cX0_storeNextLesser 23 = .ok (.invokevirtual 109, 3) := by decide +kernel
theorem dX0_storeNextLesser_26 : decode cX0_storeNextLesser 26 = .ok (.goto 29, 3) := by decide +kernel
theorem dX0_storeNextLesser_29 : decode cX0_storeNextLesser 29 = .ok (.lload 4, 2) := by decide +kernel
theorem dX0_storeNextLesser_31 : decode cX0_storeNextLesser 31 = .ok (.lconst 1, 1) := by decide +kernel
theorem dX0_storeNextLesser_32 : decode cX0_storeNextLesser 32 = .ok (.lsub, 1) := by decide +kernel
theorem dX0_storeNextLesser_33 : decode cX0_storeNextLesser 33 = .ok (.lstore 6, 2) := by decide +kernel
theorem dX0_storeNextLesser_35 : decode cX0_storeNextLesser 35 = .ok (.aload_n 0, 1) := by decide +kernel
theorem dX0_storeNextLesser_36 : decode cX0_storeNextLesser 36 = .ok (.iload_n 1, 1) := by decide +kernel
theorem dX0_storeNextLesser_37 : decode cX0_storeNextLesser 37 = .ok (.iload_n 2, 1) := by decide +kernel
theorem dX0_storeNextLesser_38 : decode cX0_storeNextLesser 38 = .ok (.lload 6, 2) := by decide +kernel
theorem dX0_storeNextLesser_40 : decode cX0_storeNextLesser 40 = .ok (.lconst 0, 1) := by decide +kernel
theorem dX0_storeNextLesser_41 : decode cX0_storeNextLesser 41 = .ok (.lcmp, 1) := by decide +kernel
theorem dX0_storeNextLesser_42 : decode cX0_storeNextLesser 42 = .ok (.ifCond .ge 7, 3) := by decide +kernel
theorem dX0_storeNextLesser_45 : decode cX0_storeNextLesser 45 = .ok (.iload_n 3, 1) := by decide +kernel
theorem dX0_storeNextLesser_46 : decode cX0_storeNextLesser 46 = .ok (.goto 4, 3) := by decide +kernel
theorem dX0_storeNextLesser_49 : decode cX0_storeNextLesser 49 = .ok (.iconst 0, 1) := by decide +kernel
theorem dX0_storeNextLesser_50 : decode cX0_storeNextLesser 50 = .ok (.lload 6, 2) := by decide +kernel
theorem dX0_storeNextLesser_52 : decode cX0_storeNextLesser 52 = .ok (.invokevirtual 109, 3) := by decide +kernel
theorem dX0_storeNextLesser_55 : decode cX0_storeNextLesser 55 = .ok (.return_, 1) := by decide +kernel
