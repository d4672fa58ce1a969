theorem dX1_init_0 : decode cX1_init 0 = .ok (.aload_n 0, 1) := by decide +kernel
theorem dX1_init_1 : decode cX1_init 1 = .ok (.invokespecial 1, 3) := by decide +kernel
theorem dX1_init_4 : decode cX1_init 4 = .ok (.aload_n 0, 1) := by decide +kernel
theorem dX1_init_5 : decode cX1_init 5 = .ok (.sipush 1023, 3) := by decide +kernel
theorem dX1_init_8 : decode cX1_init 8 = .ok (.putfield 7, 3) := by decide +kernel
theorem dX1_init_11 : decode cX1_init 11 = .ok (.aload_n 0, 1) := by decide +kernel
theorem dX1_init_12 : decode cX1_init 12 = .ok (.bipush 8, 2) := by decide +kernel
theorem dX1_init_14 : decode cX1_init 14 = .ok (.newarray .int, 2) := by decide +kernel
theorem dX1_init_16 : decode cX1_init 16 = .ok (.putfield 13, 3) := by decide +kernel
theorem dX1_init_19 : decode cX1_init 19 = .ok (.aload_n 0, 1) := by decide +kernel
theorem dX1_init_20 : decode cX1_init 20 = .ok (.bipush 8, 2) := by decide +kernel
theorem dX1_init_22 : decode cX1_init 22 = .ok (.newarray .long, 2) := by decide +kernel
theorem dX1_init_24 : decode cX1_init 24 = .ok (.putfield 17, 3) := by decide +kernel
theorem dX1_init_27 : decode cX1_init 27 = .ok (.aload_n 0, 1) := by decide +kernel
theorem dX1_init_28 : decode cX1_init 28 = .ok (.sipush 129, 3) := by decide +kernel
theorem dX1_init_31 : decode cX1_init 31 = .ok (.newarray .int, 2) := by decide +kernel
theorem dX1_init_33 : decode cX1_init 33 = .ok (.putfield 21, 3) := by decide +kernel
theorem dX1_init_36 : decode cX1_init 36 = .ok (.return_, 1) := by decide +kernel
theorem dX1_thrown_0 : decode cX1_thrown 0 = .ok (.aload_n 0, 1) := by decide +kernel
theorem dX1_thrown_1 : decode cX1_thrown 1 = .ok (.getfield 24, 3) := by decide +kernel
theorem dX1_thrown_4 : decode cX1_thrown 4 = .ok (.ireturn, 1) := by decide +kernel
theorem dX1_control_0 : decode cX1_control 0 = .ok (.aload_n 0, 1) := by decide +kernel
theorem dX1_control_1 : decode cX1_control 1 = .ok (.iload_n 1, 1) := by decide +kernel
theorem dX1_control_2 : decode cX1_control 2 = .ok (.ifCond .lt 9, 3) := by decide +kernel
theorem dX1_control_5 : decode cX1_control 5 = .ok (.iload_n 1, 1) := by decide +kernel
theorem dX1_control_6 : decode cX1_control 6 = .ok (.ldc 27, 2) := by decide +kernel
theorem dX1_control_8 : decode cX1_control 8 = .ok (.if_icmp .le 7, 3) := by decide +kernel
theorem dX1_control_11 : decode cX1_control 11 = .ok (.iconst 1, 1) := by decide +kernel
theorem dX1_control_12 : decode cX1_control 12 = .ok (.goto 4, 3) := by decide +kernel
theorem dX1_control_15 : decode cX1_control 15 = .ok (.iconst 0, 1) := by decide +kernel
theorem dX1_control_16 : decode cX1_control 16 = .ok (.putfield 24, 3) := by decide +kernel
theorem dX1_control_19 : decode cX1_control 19 = .ok (.aload_n 0, 1) := by decide +kernel
theorem dX1_control_20 : decode cX1_control 20 = .ok (.getfield 24, 3) := by decide +kernel
theorem dX1_control_23 : decode cX1_control 23 = .ok (.ifCond .ne 8, 3) := by decide +kernel
theorem dX1_control_26 : decode cX1_control 26 = .ok (.aload_n 0, 1) := by decide +kernel
theorem dX1_control_27 : decode cX1_control 27 = .ok (.iload_n 1, 1) := by decide +kernel
theorem dX1_control_28 : decode cX1_control 28 = .ok (.putfield 7, 3) := by decide +kernel
theorem dX1_control_31 : decode cX1_control 31 = .ok (.return_, 1) := by decide +kernel
theorem dX1_set_0 : decode cX1_set 0 = .ok (.aload_n 0, 1) := by decide +kernel
theorem dX1_set_1 : decode cX1_set 1 = .ok (.iload_n 1, 1) := by decide +kernel
theorem dX1_set_2 : decode cX1_set 2 = .ok (.invokestatic 28, 3) := by decide +kernel
theorem dX1_set_5 : decode cX1_set 5 = .ok (.ifCond .eq 7, 3) := by decide +kernel
theorem dX1_set_8 : decode cX1_set 8 = .ok (.iconst 1, 1) := by decide +kernel
theorem dX1_set_9 : decode cX1_set 9 = .ok (.goto 18, 3) := by decide +kernel
theorem dX1_set_12 : decode cX1_set 12 = .ok (.iload_n 2, 1) := by decide +kernel
theorem dX1_set_13 : decode cX1_set 13 = .ok (.ifCond .lt 9, 3) := by decide +kernel
theorem dX1_set_16 : decode cX1_set 16 = .ok (.iload_n 2, 1) := by decide +kernel
theorem dX1_set_17 : decode cX1_set 17 = .ok (.ldc 27, 2) := by decide +kernel
theorem dX1_set_19 : decode cX1_set 19 = .ok (.if_icmp .le 7, 3) := by decide +kernel
theorem dX1_set_22 : decode cX1_set 22 = .ok (.iconst 2, 1) := by decide +kernel
theorem dX1_set_23 : decode cX1_set 23 = .ok (.goto 4, 3) := by decide +kernel
theorem dX1_set_26 : decode cX1_set 26 = .ok (.iconst 0, 1) := by decide +kernel
theorem dX1_set_27 : decode cX1_set 27 = .ok (.putfield 24, 3) := by decide +kernel
theorem dX1_set_30 : decode cX1_set 30 = .ok (.aload_n 0, 1) := by decide +kernel
theorem dX1_set_31 : decode cX1_set 31 = .ok (.getfield 24, 3) := by decide +kernel
theorem dX1_set_34 : decode cX1_set 34 = .ok (.ifCond .le 4, 3) := by decide +kernel
theorem dX1_set_37 : decode cX1_set 37 = .ok (.return_, 1) := by decide +kernel
theorem dX1_set_38 : decode cX1_set 38 = .ok (.aload_n 0, 1) := by decide +kernel
theorem dX1_set_39 : decode cX1_set 39 = .ok (.getfield 13, 3) := by decide +kernel
theorem dX1_set_42 : decode cX1_set 42 = .ok (.iload_n 1, 1) := by decide +kernel
theorem dX1_set_43 : decode cX1_set 43 = .ok (.iload_n 2, 1) := by decide +kernel
theorem dX1_set_44 : decode cX1_set 44 = .ok (.iastore, 1) := by decide +kernel
theorem dX1_set_45 : decode cX1_set 45 = .ok (.aload_n 0, 1) := by decide +kernel
theorem dX1_set_46 : decode cX1_set 46 = .ok (.getfield 17, 3) := by decide +kernel
theorem dX1_set_49 : decode cX1_set 49 = .ok (.iload_n 1, 1) := by decide +kernel
theorem dX1_set_50 : decode cX1_set 50 = .ok (.iload_n 3, 1) := by decide +kernel
theorem dX1_set_51 : decode cX1_set 51 = .ok (.i2l, 1) := by decide +kernel
theorem dX1_set_52 : decode cX1_set 52 = .ok (.ldc2_w 32, 3) := by decide +kernel
theorem dX1_set_55 : decode cX1_set 55 = .ok (.lmul, 1) := by decide +kernel
theorem dX1_set_56 : decode cX1_set 56 = .ok (.iload 4, 2) := by decide +kernel
theorem dX1_set_58 : decode cX1_set 58 = .ok (.i2l, 1) := by decide +kernel
theorem dX1_set_59 : decode cX1_set 59 = .ok (.ldc2_w 34, 3) := by decide +kernel
theorem dX1_set_62 : decode cX1_set 62 = .ok (.land, 1) := by decide +kernel
theorem dX1_set_63 : decode cX1_set 63 = .ok (.ladd, 1) := by decide +kernel
theorem dX1_set_64 : decode cX1_set 64 = .ok (.lastore, 1) := by decide +kernel
theorem dX1_set_65 : decode cX1_set 65 = .ok (.return_, 1) := by decide +kernel
theorem dX1_none_0 : decode cX1_none 0 = .ok (.iload_n 0, 1) := by decide +kernel
theorem dX1_none_1 : decode cX1_none 1 = .ok (.ifCond .lt 9, 3) := by decide +kernel
theorem dX1_none_4 : decode cX1_none 4 = .ok (.iload_n 0, 1) := by decide +kernel
theorem dX1_none_5 : decode cX1_none 5 = .ok (.bipush 7, 2) := by decide +kernel
theorem dX1_none_7 : decode cX1_none 7 = .ok (.if_icmp .le 7, 3) := by decide +kernel
theorem dX1_none_10 : decode cX1_none 10 = .ok (.iconst 1, 1) := by decide +kernel
theorem dX1_none_11 : decode cX1_none 11 = .ok (.goto 4, 3) := by decide +kernel
theorem dX1_none_14 : decode cX1_none 14 = .ok (.iconst 0, 1) := by decide +kernel
theorem dX1_none_15 : decode cX1_none 15 = .ok (.ireturn, 1) := by decide +kernel
theorem dX1_part_0 : decode cX1_part 0 = .ok (.aload_n 0, 1) := by decide +kernel
theorem dX1_part_1 : decode cX1_part 1 = .ok (.iload_n 1, 1) := by decide +kernel
theorem dX1_part_2 : decode cX1_part 2 = .ok (.invokestatic 28, 3) := by decide +kernel
theorem dX1_part_5 : decode cX1_part 5 = .ok (.ifCond .eq 7, 3) := by decide +kernel
theorem dX1_part_8 : decode cX1_part 8 = .ok (.iconst 1, 1) := by decide +kernel
theorem dX1_part_9 : decode cX1_part 9 = .ok (.goto 17, 3) := by decide +kernel
theorem dX1_part_12 : decode cX1_part 12 = .ok (.iload_n 2, 1) := by decide +kernel
theorem dX1_part_13 : decode cX1_part 13 = .ok (.ifCond .lt 8, 3) := by decide +kernel
theorem dX1_part_16 : decode cX1_part 16 = .ok (.iload_n 2, 1) := by decide +kernel
theorem dX1_part_17 : decode cX1_part 17 = .ok (.iconst 4, 1) := by decide +kernel
theorem dX1_part_18 : decode cX1_part 18 = .ok (.if_icmp .le 7, 3) := by decide +kernel
theorem dX1_part_21 : decode cX1_part 21 = .ok (.iconst 2, 1) := by decide +kernel
theorem dX1_part_22 : decode cX1_part 22 = .ok (.goto 4, 3) := by decide +kernel
theorem dX1_part_25 : decode cX1_part 25 = .ok (.iconst 0, 1) := by decide +kernel
theorem dX1_part_26 : decode cX1_part 26 = .ok (.putfield 24, 3) := by decide +kernel
theorem dX1_part_29 : decode cX1_part 29 = .ok (.aload_n 0, 1) := by decide +kernel
theorem dX1_part_30 : decode cX1_part 30 = .ok (.getfield 24, 3) := by decide +kernel
theorem dX1_part_33 : decode cX1_part 33 = .ok (.ifCond .le 5, 3) := by decide +kernel
theorem dX1_part_36 : decode cX1_part 36 = .ok (.iconst 0, 1) := by decide +kernel
theorem dX1_part_37 : decode cX1_part 37 = .ok (.ireturn, 1) := by decide +kernel
theorem dX1_part_38 : decode cX1_part 38 = .ok (.iload_n 2, 1) := by decide +kernel
theorem dX1_part_39 : decode cX1_part 39 = .ok (.ifCond .ne 10, 3) := by decide +kernel
theorem dX1_part_42 : decode cX1_part 42 = .ok (.aload_n 0, 1) := by decide +kernel
theorem dX1_part_43 : decode cX1_part 43 = .ok (.getfield 13, 3) := by decide +kernel
theorem dX1_part_46 : decode cX1_part 46 = .ok (.iload_n 1, 1) := by decide +kernel
theorem dX1_part_47 : decode cX1_part 47 = .ok (.iaload, 1) := by decide +kernel
theorem dX1_part_48 : decode cX1_part 48 = .ok (.ireturn, 1) := by decide +kernel
theorem dX1_part_49 : decode cX1_part 49 = .ok (.iload_n 2, 1) := by decide +kernel
theorem dX1_part_50 : decode cX1_part 50 = .ok (.iconst 1, 1) := by decide +kernel
theorem dX1_part_51 : decode cX1_part 51 = .ok (.if_icmp .ne 14, 3) := by decide +kernel
theorem dX1_part_54 : decode cX1_part 54 = .ok (.aload_n 0, 1) := by decide +kernel
theorem dX1_part_55 : decode cX1_part 55 = .ok (.getfield 17, 3) := by decide +kernel
theorem dX1_part_58 : decode cX1_part 58 = .ok (.iload_n 1, 1) := by decide +kernel
theorem dX1_part_59 : decode cX1_part 59 = .ok (.laload, 1) := by decide +kernel
theorem dX1_part_60 : decode cX1_part 60 = .ok (.bipush 32, 2) := by decide +kernel
theorem dX1_part_62 : decode cX1_part 62 = .ok (.lshr, 1) := by decide +kernel
theorem dX1_part_63 : decode cX1_part 63 = .ok (.l2i, 1) := by decide +kernel
theorem dX1_part_64 : decode cX1_part 64 = .ok (.ireturn, 1) := by decide +kernel
theorem dX1_part_65 : decode cX1_part 65 = .ok (.iload_n 2, 1) := by decide +kernel
theorem dX1_part_66 : decode cX1_part 66 = .ok (.iconst 2, 1) := by decide +kernel
theorem dX1_part_67 : decode cX1_part 67 = .ok (.if_icmp .ne 11, 3) := by decide +kernel
theorem dX1_part_70 : decode cX1_part 70 = .ok (.aload_n 0, 1) := by decide +kernel
theorem dX1_part_71 : decode cX1_part 71 = .ok (.getfield 17, 3) := by decide +kernel
theorem dX1_part_74 : decode cX1_part 74 = .ok (.iload_n 1, 1) := by decide +kernel
theorem dX1_part_75 : decode cX1_part 75 = .ok (.laload, 1) := by decide +kernel
theorem dX1_part_76 : decode cX1_part 76 = .ok (.l2i, 1) := by decide +kernel
theorem dX1_part_77 : decode cX1_part 77 = .ok (.ireturn, 1) := by decide +kernel
theorem dX1_part_78 : decode cX1_part 78 = .ok (.iload_n 2, 1) := by decide +kernel
theorem dX1_part_79 : decode cX1_part 79 = .ok (.iconst 3, 1) := by decide +kernel
theorem dX1_part_80 : decode cX1_part 80 = .ok (.if_icmp .ne 9, 3) := by decide +kernel
theorem dX1_part_83 : decode cX1_part 83 = .ok (.aload_n 0, 1) := by decide +kernel
theorem dX1_part_84 : decode cX1_part 84 = .ok (.iload_n 1, 1) := by decide +kernel
theorem dX1_part_85 : decode cX1_part 85 = .ok (.invokevirtual 39, 3) := by decide +kernel
theorem dX1_part_88 : decode cX1_part 88 = .ok (.ireturn, 1) := by decide +kernel
theorem dX1_part_89 : decode cX1_part 89 = .ok (.iconst 0, 1) := by decide +kernel
theorem dX1_part_90 : decode cX1_part 90 = .ok (.istore_n 3, 1) := by decide +kernel
theorem dX1_part_91 : decode cX1_part 91 = .ok (.iload_n 3, 1) := by decide +kernel
theorem dX1_part_92 : decode cX1_part 92 = .ok (.bipush 64, 2) := by decide +kernel
theorem dX1_part_94 : decode cX1_part 94 = .ok (.if_icmp .ge 27, 3) := by decide +kernel
theorem dX1_part_97 : decode cX1_part 97 = .ok (.aload_n 0, 1) := by decide +kernel
theorem dX1_part_98 : decode cX1_part 98 = .ok (.getfield 17, 3) := by decide +kernel
theorem dX1_part_101 : decode cX1_part 101 = .ok (.iload_n 1, 1) := by decide +kernel
theorem dX1_part_102 : decode cX1_part 102 = .ok (.laload, 1) := by decide +kernel
theorem dX1_part_103 : decode cX1_part 103 = .ok (.bipush 63, 2) := by decide +kernel
theorem dX1_part_105 : decode cX1_part 105 = .ok (.iload_n 3, 1) := by decide +kernel
theorem dX1_part_106 : decode cX1_part 106 = .ok (.isub, 1) := by decide +kernel
theorem dX1_part_107 : decode cX1_part 107 = .ok (.lshr, 1) := by decide +kernel
theorem dX1_part_108 : decode cX1_part 108 = .ok (.lconst 1, 1) := by decide +kernel
theorem dX1_part_109 : decode cX1_part 109 = .ok (.land, 1) := by decide +kernel
theorem dX1_part_110 : decode cX1_part 110 = .ok (.lconst 0, 1) := by decide +kernel
theorem dX1_part_111 : decode cX1_part 111 = .ok (.lcmp, 1) := by decide +kernel
theorem dX1_part_112 : decode cX1_part 112 = .ok (.ifCond .ne 9, 3) := by decide +kernel
theorem dX1_part_115 : decode cX1_part 115 = .ok (.iinc 3 1, 3) := by decide +kernel
theorem dX1_part_118 : decode cX1_part 118 = .ok (.goto (-27), 3) := by decide +kernel
theorem dX1_part_121 : decode cX1_part 121 = .ok (.iload_n 3, 1) := by decide +kernel
theorem dX1_part_122 : decode cX1_part 122 = .ok (.ireturn, 1) := by decide +kernel
theorem dX1_kind_0 : decode cX1_kind 0 = .ok (.aload_n 0, 1) := by decide +kernel
theorem dX1_kind_1 : decode cX1_kind 1 = .ok (.getfield 13, 3) := by decide +kernel
theorem dX1_kind_4 : decode cX1_kind 4 = .ok (.iload_n 1, 1) := by decide +kernel
theorem dX1_kind_5 : decode cX1_kind 5 = .ok (.iaload, 1) := by decide +kernel
theorem dX1_kind_6 : decode cX1_kind 6 = .ok (.ldc 36, 2) := by decide +kernel
theorem dX1_kind_8 : decode cX1_kind 8 = .ok (.irem, 1) := by decide +kernel
theorem dX1_kind_9 : decode cX1_kind 9 = .ok (.istore_n 2, 1) := by decide +kernel
theorem dX1_kind_10 : decode cX1_kind 10 = .ok (.aload_n 0, 1) := by decide +kernel
theorem dX1_kind_11 : decode cX1_kind 11 = .ok (.getfield 17, 3) := by decide +kernel
theorem dX1_kind_14 : decode cX1_kind 14 = .ok (.iload_n 1, 1) := by decide +kernel
theorem dX1_kind_15 : decode cX1_kind 15 = .ok (.laload, 1) := by decide +kernel
theorem dX1_kind_16 : decode cX1_kind 16 = .ok (.lconst 0, 1) := by decide +kernel
theorem dX1_kind_17 : decode cX1_kind 17 = .ok (.lcmp, 1) := by decide +kernel
theorem dX1_kind_18 : decode cX1_kind 18 = .ok (.ifCond .eq 16, 3) := by decide +kernel
theorem dX1_kind_21 : decode cX1_kind 21 = .ok (.aload_n 0, 1) := by decide +kernel
theorem dX1_kind_22 : decode cX1_kind 22 = .ok (.getfield 17, 3) := by decide +kernel
theorem dX1_kind_25 : decode cX1_kind 25 = .ok (.iload_n 1, 1) := by decide +kernel
theorem dX1_kind_26 : decode cX1_kind 26 = .ok (.laload, 1) := by decide +kernel
theorem dX1_kind_27 : decode cX1_kind 27 = .ok (.ldc2_w 37, 3) := by decide +kernel
theorem dX1_kind_30 : decode cX1_kind 30 = .ok (.lcmp, 1) := by decide +kernel
theorem dX1_kind_31 : decode cX1_kind 31 = .ok (.ifCond .ne 7, 3) := by decide +kernel
theorem dX1_kind_34 : decode cX1_kind 34 = .ok (.iconst 1, 1) := by decide +kernel
theorem dX1_kind_35 : decode cX1_kind 35 = .ok (.goto 4, 3) := by decide +kernel
theorem dX1_kind_38 : decode cX1_kind 38 = .ok (.iconst 0, 1) := by decide +kernel
theorem dX1_kind_39 : decode cX1_kind 39 = .ok (.istore_n 3, 1) := by decide +kernel
theorem dX1_kind_40 : decode cX1_kind 40 = .ok (.iload_n 2, 1) := by decide +kernel
theorem dX1_kind_41 : decode cX1_kind 41 = .ok (.sipush 32767, 3) := by decide +kernel
theorem dX1_kind_44 : decode cX1_kind 44 = .ok (.if_icmp .ne 13, 3) := by decide +kernel
theorem dX1_kind_47 : decode cX1_kind 47 = .ok (.iload_n 3, 1) := by decide +kernel
theorem dX1_kind_48 : decode cX1_kind 48 = .ok (.ifCond .eq 7, 3) := by decide +kernel
theorem dX1_kind_51 : decode cX1_kind 51 = .ok (.iconst 4, 1) := by decide +kernel
theorem dX1_kind_52 : decode cX1_kind 52 = .ok (.goto 4, 3) := by decide +kernel
theorem dX1_kind_55 : decode cX1_kind 55 = .ok (.iconst 5, 1) := by decide +kernel
theorem dX1_kind_56 : decode cX1_kind 56 = .ok (.ireturn, 1) := by decide +kernel
theorem dX1_kind_57 : decode cX1_kind 57 = .ok (.iload_n 2, 1) := by decide +kernel
theorem dX1_kind_58 : decode cX1_kind 58 = .ok (.ifCond .ne 20, 3) := by decide +kernel
theorem dX1_kind_61 : decode cX1_kind 61 = .ok (.aload_n 0, 1) := by decide +kernel
theorem dX1_kind_62 : decode cX1_kind 62 = .ok (.getfield 17, 3) := by decide +kernel
theorem dX1_kind_65 : decode cX1_kind 65 = .ok (.iload_n 1, 1) := by decide +kernel
theorem dX1_kind_66 : decode cX1_kind 66 = .ok (.laload, 1) := by decide +kernel
theorem dX1_kind_67 : decode cX1_kind 67 = .ok (.lconst 0, 1) := by decide +kernel
theorem dX1_kind_68 : decode cX1_kind 68 = .ok (.lcmp, 1) := by decide +kernel
theorem dX1_kind_69 : decode cX1_kind 69 = .ok (.ifCond .ne 7, 3) := by decide +kernel
theorem dX1_kind_72 : decode cX1_kind 72 = .ok (.iconst 0, 1) := by decide +kernel
theorem dX1_kind_73 : decode cX1_kind 73 = .ok (.goto 4, 3) := by decide +kernel
theorem dX1_kind_76 : decode cX1_kind 76 = .ok (.iconst 1, 1) := by decide +kernel
theorem dX1_kind_77 : decode cX1_kind 77 = .ok (.ireturn, 1) := by decide +kernel
theorem dX1_kind_78 : decode cX1_kind 78 = .ok (.aload_n 0, 1) := by decide +kernel
theorem dX1_kind_79 : decode cX1_kind 79 = .ok (.getfield 17, 3) := by decide +kernel
theorem dX1_kind_82 : decode cX1_kind 82 = .ok (.iload_n 1, 1) := by decide +kernel
theorem dX1_kind_83 : decode cX1_kind 83 = .ok (.laload, 1) := by decide +kernel
theorem dX1_kind_84 : decode cX1_kind 84 = .ok (.lconst 0, 1) := by decide +kernel
theorem dX1_kind_85 : decode cX1_kind 85 = .ok (.lcmp, 1) := by decide +kernel
theorem dX1_kind_86 : decode cX1_kind 86 = .ok (.ifCond .ge 7, 3) := by decide +kernel
theorem dX1_kind_89 : decode cX1_kind 89 = .ok (.iconst 3, 1) := by decide +kernel
theorem dX1_kind_90 : decode cX1_kind 90 = .ok (.goto 4, 3) := by decide +kernel
theorem dX1_kind_93 : decode cX1_kind 93 = .ok (.iconst 2, 1) := by decide +kernel
theorem dX1_kind_94 : decode cX1_kind 94 = .ok (.ireturn, 1) := by decide +kernel
theorem dX1_make_0 : decode cX1_make 0 = .ok (.aload_n 0, 1) := by decide +kernel
theorem dX1_make_1 : decode cX1_make 1 = .ok (.iload_n 1, 1) := by decide +kernel
theorem dX1_make_2 : decode cX1_make 2 = .ok (.invokestatic 28, 3) := by decide +kernel
theorem dX1_make_5 : decode cX1_make 5 = .ok (.ifCond .eq 7, 3) := by decide +kernel
theorem dX1_make_8 : decode cX1_make 8 = .ok (.iconst 1, 1) := by decide +kernel
theorem dX1_make_9 : decode cX1_make 9 = .ok (.goto 20, 3) := by decide +kernel
theorem dX1_make_12 : decode cX1_make 12 = .ok (.iload_n 3, 1) := by decide +kernel
theorem dX1_make_13 : decode cX1_make 13 = .ok (.ldc 87, 2) := by decide +kernel
theorem dX1_make_15 : decode cX1_make 15 = .ok (.if_icmp .lt 9, 3) := by decide +kernel
theorem dX1_make_18 : decode cX1_make 18 = .ok (.iload_n 3, 1) := by decide +kernel
theorem dX1_make_19 : decode cX1_make 19 = .ok (.ldc 88, 2) := by decide +kernel
theorem dX1_make_21 : decode cX1_make 21 = .ok (.if_icmp .le 7, 3) := by decide +kernel
theorem dX1_make_24 : decode cX1_make 24 = .ok (.iconst 2, 1) := by decide +kernel
theorem dX1_make_25 : decode cX1_make 25 = .ok (.goto 4, 3) := by decide +kernel
theorem dX1_make_28 : decode cX1_make 28 = .ok (.iconst 0, 1) := by decide +kernel
theorem dX1_make_29 : decode cX1_make 29 = .ok (.putfield 24, 3) := by decide +kernel
theorem dX1_make_32 : decode cX1_make 32 = .ok (.aload_n 0, 1) := by decide +kernel
theorem dX1_make_33 : decode cX1_make 33 = .ok (.getfield 24, 3) := by decide +kernel
theorem dX1_make_36 : decode cX1_make 36 = .ok (.ifCond .le 5, 3) := by decide +kernel
theorem dX1_make_39 : decode cX1_make 39 = .ok (.iconst 0, 1) := by decide +kernel
theorem dX1_make_40 : decode cX1_make 40 = .ok (.ireturn, 1) := by decide +kernel
theorem dX1_make_41 : decode cX1_make 41 = .ok (.iconst 0, 1) := by decide +kernel
theorem dX1_make_42 : decode cX1_make 42 = .ok (.istore 9, 2) := by decide +kernel
theorem dX1_make_44 : decode cX1_make 44 = .ok (.iload 9, 2) := by decide +kernel
theorem dX1_make_46 : decode cX1_make 46 = .ok (.sipush 128, 3) := by decide +kernel
theorem dX1_make_49 : decode cX1_make 49 = .ok (.if_icmp .ge 69, 3) := by decide +kernel
theorem dX1_make_52 : decode cX1_make 52 = .ok (.iload 9, 2) := by decide +kernel
theorem dX1_make_54 : decode cX1_make 54 = .ok (.bipush 32, 2) := by decide +kernel
theorem dX1_make_56 : decode cX1_make 56 = .ok (.if_icmp .ge 8, 3) := by decide +kernel
theorem dX1_make_59 : decode cX1_make 59 = .ok (.iload 4, 2) := by decide +kernel
theorem dX1_make_61 : decode cX1_make 61 = .ok (.goto 29, 3) := by decide +kernel
theorem dX1_make_64 : decode cX1_make 64 = .ok (.iload 9, 2) := by decide +kernel
theorem dX1_make_66 : decode cX1_make 66 = .ok (.bipush 64, 2) := by decide +kernel
theorem dX1_make_68 : decode cX1_make 68 = .ok (.if_icmp .ge 8, 3) := by decide +kernel
theorem dX1_make_71 : decode cX1_make 71 = .ok (.iload 5, 2) := by decide +kernel
theorem dX1_make_73 : decode cX1_make 73 = .ok (.goto 17, 3) := by decide +kernel
theorem dX1_make_76 : decode cX1_make 76 = .ok (.iload 9, 2) := by decide +kernel
theorem dX1_make_78 : decode cX1_make 78 = .ok (.bipush 96, 2) := by decide +kernel
theorem dX1_make_80 : decode cX1_make 80 = .ok (.if_icmp .ge 8, 3) := by decide +kernel
theorem dX1_make_83 : decode cX1_make 83 = .ok (.iload 6, 2) := by decide +kernel
theorem dX1_make_85 : decode cX1_make 85 = .ok (.goto 5, 3) := by decide +kernel
theorem dX1_make_88 : decode cX1_make 88 = .ok (.iload 7, 2) := by decide +kernel
theorem dX1_make_90 : decode cX1_make 90 = .ok (.istore 10, 2) := by decide +kernel
theorem dX1_make_92 : decode cX1_make 92 = .ok (.aload_n 0, 1) := by decide +kernel
theorem dX1_make_93 : decode cX1_make 93 = .ok (.getfield 21, 3) := by decide +kernel
theorem dX1_make_96 : decode cX1_make 96 = .ok (.iload 9, 2) := by decide +kernel
theorem dX1_make_98 : decode cX1_make 98 = .ok (.iload 10, 2) := by decide +kernel
theorem dX1_make_100 : decode cX1_make 100 = .ok (.bipush 31, 2) := by decide +kernel
theorem dX1_make_102 : decode cX1_make 102 = .ok (.iload 9, 2) := by decide +kernel
theorem dX1_make_104 : decode cX1_make 104 = .ok (.bipush 32, 2) := by decide +kernel
theorem dX1_make_106 : decode cX1_make 106 = .ok (.irem, 1) := by decide +kernel
theorem dX1_make_107 : decode cX1_make 107 = .ok (.isub, 1) := by decide +kernel
theorem dX1_make_108 : decode cX1_make 108 = .ok (.ishr, 1) := by decide +kernel
theorem dX1_make_109 : decode cX1_make 109 = .ok (.iconst 1, 1) := by decide +kernel
theorem dX1_make_110 : decode cX1_make 110 = .ok (.iand, 1) := by decide +kernel
theorem dX1_make_111 : decode cX1_make 111 = .ok (.iastore, 1) := by decide +kernel
theorem dX1_make_112 : decode cX1_make 112 = .ok (.iinc 9 1, 3) := by decide +kernel
theorem dX1_make_115 : decode cX1_make 115 = .ok (.goto (-71), 3) := by decide +kernel
theorem dX1_make_118 : decode cX1_make 118 = .ok (.aload_n 0, 1) := by decide +kernel
theorem dX1_make_119 : decode cX1_make 119 = .ok (.getfield 21, 3) := by decide +kernel
theorem dX1_make_122 : decode cX1_make 122 = .ok (.sipush 128, 3) := by decide +kernel
theorem dX1_make_125 : decode cX1_make 125 = .ok (.iload 8, 2) := by decide +kernel
theorem dX1_make_127 : decode cX1_make 127 = .ok (.ifCond .eq 7, 3) := by decide +kernel
theorem dX1_make_130 : decode cX1_make 130 = .ok (.iconst 1, 1) := by decide +kernel
theorem dX1_make_131 : decode cX1_make 131 = .ok (.goto 4, 3) := by decide +kernel
theorem dX1_make_134 : decode cX1_make 134 = .ok (.iconst 0, 1) := by decide +kernel
theorem dX1_make_135 : decode cX1_make 135 = .ok (.iastore, 1) := by decide +kernel
theorem dX1_make_136 : decode cX1_make 136 = .ok (.aload_n 0, 1) := by decide +kernel
theorem dX1_make_137 : decode cX1_make 137 = .ok (.iload_n 3, 1) := by decide +kernel
theorem dX1_make_138 : decode cX1_make 138 = .ok (.bipush 127, 2) := by decide +kernel
theorem dX1_make_140 : decode cX1_make 140 = .ok (.iadd, 1) := by decide +kernel
theorem dX1_make_141 : decode cX1_make 141 = .ok (.putfield 50, 3) := by decide +kernel
theorem dX1_make_144 : decode cX1_make 144 = .ok (.aload_n 0, 1) := by decide +kernel
theorem dX1_make_145 : decode cX1_make 145 = .ok (.iload_n 2, 1) := by decide +kernel
theorem dX1_make_146 : decode cX1_make 146 = .ok (.putfield 55, 3) := by decide +kernel
theorem dX1_make_149 : decode cX1_make 149 = .ok (.aload_n 0, 1) := by decide +kernel
theorem dX1_make_150 : decode cX1_make 150 = .ok (.invokevirtual 89, 3) := by decide +kernel
theorem dX1_make_153 : decode cX1_make 153 = .ok (.aload_n 0, 1) := by decide +kernel
theorem dX1_make_154 : decode cX1_make 154 = .ok (.iload_n 1, 1) := by decide +kernel
theorem dX1_make_155 : decode cX1_make 155 = .ok (.invokevirtual 92, 3) := by decide +kernel
theorem dX1_make_158 : decode cX1_make 158 = .ok (.ireturn, 1) := by decide +kernel
theorem dX1_make0_0 : decode cX1_make0 0 = .ok (.aload_n 0, 1) := by decide +kernel
theorem dX1_make0_1 : decode cX1_make0 1 = .ok (.iconst 0, 1) := by decide +kernel
theorem dX1_make0_2 : decode cX1_make0 2 = .ok (.putfield 73, 3) := by decide +kernel
theorem dX1_make0_5 : decode cX1_make0 5 = .ok (.aload_n 0, 1) := by decide +kernel
theorem dX1_make0_6 : decode cX1_make0 6 = .ok (.iconst 0, 1) := by decide +kernel
theorem dX1_make0_7 : decode cX1_make0 7 = .ok (.putfield 59, 3) := by decide +kernel
theorem dX1_make0_10 : decode cX1_make0 10 = .ok (.aload_n 0, 1) := by decide +kernel
theorem dX1_make0_11 : decode cX1_make0 11 = .ok (.iconst 0, 1) := by decide +kernel
theorem dX1_make0_12 : decode cX1_make0 12 = .ok (.putfield 76, 3) := by decide +kernel
theorem dX1_make0_15 : decode cX1_make0 15 = .ok (.aload_n 0, 1) := by decide +kernel
theorem dX1_make0_16 : decode cX1_make0 16 = .ok (.iconst 0, 1) := by decide +kernel
theorem dX1_make0_17 : decode cX1_make0 17 = .ok (.putfield 47, 3) := by decide +kernel
theorem dX1_make0_20 : decode cX1_make0 20 = .ok (.aload_n 0, 1) := by decide +kernel
theorem dX1_make0_21 : decode cX1_make0 21 = .ok (.getfield 47, 3) := by decide +kernel
theorem dX1_make0_24 : decode cX1_make0 24 = .ok (.sipush 129, 3) := by decide +kernel
theorem dX1_make0_27 : decode cX1_make0 27 = .ok (.if_icmp .ge 28, 3) := by decide +kernel
theorem dX1_make0_30 : decode cX1_make0 30 = .ok (.aload_n 0, 1) := by decide +kernel
theorem dX1_make0_31 : decode cX1_make0 31 = .ok (.getfield 21, 3) := by decide +kernel
theorem dX1_make0_34 : decode cX1_make0 34 = .ok (.aload_n 0, 1) := by decide +kernel
theorem dX1_make0_35 : decode cX1_make0 35 = .ok (.getfield 47, 3) := by decide +kernel
theorem dX1_make0_38 : decode cX1_make0 38 = .ok (.iaload, 1) := by decide +kernel
theorem dX1_make0_39 : decode cX1_make0 39 = .ok (.ifCond .ne 16, 3) := by decide +kernel
theorem dX1_make0_42 : decode cX1_make0 42 = .ok (.aload_n 0, 1) := by decide +kernel
theorem dX1_make0_43 : decode cX1_make0 43 = .ok (.dup, 1) := by decide +kernel
theorem dX1_make0_44 : decode cX1_make0 44 = .ok (.getfield 47, 3) := by decide +kernel
theorem dX1_make0_47 : decode cX1_make0 47 = .ok (.iconst 1, 1) := by decide +kernel
theorem dX1_make0_48 : decode cX1_make0 48 = .ok (.iadd, 1) := by decide +kernel
theorem dX1_make0_49 : decode cX1_make0 49 = .ok (.putfield 47, 3) := by decide +kernel
theorem dX1_make0_52 : decode cX1_make0 52 = .ok (.goto (-32), 3) := by decide +kernel
theorem dX1_make0_55 : decode cX1_make0 55 = .ok (.aload_n 0, 1) := by decide +kernel
theorem dX1_make0_56 : decode cX1_make0 56 = .ok (.getfield 47, 3) := by decide +kernel
theorem dX1_make0_59 : decode cX1_make0 59 = .ok (.sipush 129, 3) := by decide +kernel
theorem dX1_make0_62 : decode cX1_make0 62 = .ok (.if_icmp .ne 10, 3) := by decide +kernel
theorem dX1_make0_65 : decode cX1_make0 65 = .ok (.aload_n 0, 1) := by decide +kernel
theorem dX1_make0_66 : decode cX1_make0 66 = .ok (.iconst 0, 1) := by decide +kernel
theorem dX1_make0_67 : decode cX1_make0 67 = .ok (.lconst 0, 1) := by decide +kernel
theorem dX1_make0_68 : decode cX1_make0 68 = .ok (.invokevirtual 79, 3) := by decide +kernel
theorem dX1_make0_71 : decode cX1_make0 71 = .ok (.return_, 1) := by decide +kernel
theorem dX1_make0_72 : decode cX1_make0 72 = .ok (.aload_n 0, 1) := by decide +kernel
theorem dX1_make0_73 : decode cX1_make0 73 = .ok (.getfield 7, 3) := by decide +kernel
theorem dX1_make0_76 : decode cX1_make0 76 = .ok (.bipush 8, 2) := by decide +kernel
theorem dX1_make0_78 : decode cX1_make0 78 = .ok (.ishr, 1) := by decide +kernel
theorem dX1_make0_79 : decode cX1_make0 79 = .ok (.iconst 3, 1) := by decide +kernel
theorem dX1_make0_80 : decode cX1_make0 80 = .ok (.iand, 1) := by decide +kernel
theorem dX1_make0_81 : decode cX1_make0 81 = .ok (.ifCond .ne 8, 3) := by decide +kernel
theorem dX1_make0_84 : decode cX1_make0 84 = .ok (.bipush 24, 2) := by decide +kernel
theorem dX1_make0_86 : decode cX1_make0 86 = .ok (.goto 23, 3) := by decide +kernel
theorem dX1_make0_89 : decode cX1_make0 89 = .ok (.aload_n 0, 1) := by decide +kernel
theorem dX1_make0_90 : decode cX1_make0 90 = .ok (.getfield 7, 3) := by decide +kernel
theorem dX1_make0_93 : decode cX1_make0 93 = .ok (.bipush 8, 2) := by decide +kernel
theorem dX1_make0_95 : decode cX1_make0 95 = .ok (.ishr, 1) := by decide +kernel
theorem dX1_make0_96 : decode cX1_make0 96 = .ok (.iconst 3, 1) := by decide +kernel
theorem dX1_make0_97 : decode cX1_make0 97 = .ok (.iand, 1) := by decide +kernel
theorem dX1_make0_98 : decode cX1_make0 98 = .ok (.iconst 2, 1) := by decide +kernel
theorem dX1_make0_99 : decode cX1_make0 99 = .ok (.if_icmp .ne 8, 3) := by decide +kernel
theorem dX1_make0_102 : decode cX1_make0 102 = .ok (.bipush 53, 2) := by decide +kernel
theorem dX1_make0_104 : decode cX1_make0 104 = .ok (.goto 5, 3) := by decide +kernel
theorem dX1_make0_107 : decode cX1_make0 107 = .ok (.bipush 64, 2) := by decide +kernel
theorem dX1_make0_109 : decode cX1_make0 109 = .ok (.istore_n 1, 1) := by decide +kernel
theorem dX1_make0_110 : decode cX1_make0 110 = .ok (.aload_n 0, 1) := by decide +kernel
theorem dX1_make0_111 : decode cX1_make0 111 = .ok (.getfield 50, 3) := by decide +kernel
theorem dX1_make0_114 : decode cX1_make0 114 = .ok (.aload_n 0, 1) := by decide +kernel
theorem dX1_make0_115 : decode cX1_make0 115 = .ok (.getfield 47, 3) := by decide +kernel
theorem dX1_make0_118 : decode cX1_make0 118 = .ok (.isub, 1) := by decide +kernel
theorem dX1_make0_119 : decode cX1_make0 119 = .ok (.istore_n 2, 1) := by decide +kernel
theorem dX1_make0_120 : decode cX1_make0 120 = .ok (.aload_n 0, 1) := by decide +kernel
theorem dX1_make0_121 : decode cX1_make0 121 = .ok (.iload_n 2, 1) := by decide +kernel
theorem dX1_make0_122 : decode cX1_make0 122 = .ok (.putfield 76, 3) := by decide +kernel
theorem dX1_make0_125 : decode cX1_make0 125 = .ok (.iload_n 2, 1) := by decide +kernel
theorem dX1_make0_126 : decode cX1_make0 126 = .ok (.sipush (-16382), 3) := by decide +kernel
theorem dX1_make0_129 : decode cX1_make0 129 = .ok (.if_icmp .ge 7, 3) := by decide +kernel
theorem dX1_make0_132 : decode cX1_make0 132 = .ok (.iconst 1, 1) := by decide +kernel
theorem dX1_make0_133 : decode cX1_make0 133 = .ok (.goto 4, 3) := by decide +kernel
theorem dX1_make0_136 : decode cX1_make0 136 = .ok (.iconst 0, 1) := by decide +kernel
theorem dX1_make0_137 : decode cX1_make0 137 = .ok (.istore_n 3, 1) := by decide +kernel
theorem dX1_make0_138 : decode cX1_make0 138 = .ok (.iload_n 3, 1) := by decide +kernel
theorem dX1_make0_139 : decode cX1_make0 139 = .ok (.ifCond .eq 88, 3) := by decide +kernel
theorem dX1_make0_142 : decode cX1_make0 142 = .ok (.aload_n 0, 1) := by decide +kernel
theorem dX1_make0_143 : decode cX1_make0 143 = .ok (.getfield 7, 3) := by decide +kernel
theorem dX1_make0_146 : decode cX1_make0 146 = .ok (.bipush 16, 2) := by decide +kernel
theorem dX1_make0_148 : decode cX1_make0 148 = .ok (.iand, 1) := by decide +kernel
theorem dX1_make0_149 : decode cX1_make0 149 = .ok (.ifCond .eq 78, 3) := by decide +kernel
theorem dX1_make0_152 : decode cX1_make0 152 = .ok (.aload_n 0, 1) := by decide +kernel
theorem dX1_make0_153 : decode cX1_make0 153 = .ok (.sipush (-16381), 3) := by decide +kernel
theorem dX1_make0_156 : decode cX1_make0 156 = .ok (.iload_n 1, 1) := by decide +kernel
theorem dX1_make0_157 : decode cX1_make0 157 = .ok (.isub, 1) := by decide +kernel
theorem dX1_make0_158 : decode cX1_make0 158 = .ok (.invokevirtual 83, 3) := by decide +kernel
theorem dX1_make0_161 : decode cX1_make0 161 = .ok (.aload_n 0, 1) := by decide +kernel
theorem dX1_make0_162 : decode cX1_make0 162 = .ok (.getfield 43, 3) := by decide +kernel
theorem dX1_make0_165 : decode cX1_make0 165 = .ok (.lstore 4, 2) := by decide +kernel
theorem dX1_make0_167 : decode cX1_make0 167 = .ok (.iload_n 1, 1) := by decide +kernel
theorem dX1_make0_168 : decode cX1_make0 168 = .ok (.istore 6, 2) := by decide +kernel
theorem dX1_make0_170 : decode cX1_make0 170 = .ok (.iload 6, 2) := by decide +kernel
theorem dX1_make0_172 : decode cX1_make0 172 = .ok (.bipush 64, 2) := by decide +kernel
theorem dX1_make0_174 : decode cX1_make0 174 = .ok (.if_icmp .ge 17, 3) := by decide +kernel
theorem dX1_make0_177 : decode cX1_make0 177 = .ok (.ldc2_w 53, 3) := by decide +kernel
theorem dX1_make0_180 : decode cX1_make0 180 = .ok (.lload 4, 2) := by decide +kernel
theorem dX1_make0_182 : decode cX1_make0 182 = .ok (.lmul, 1) := by decide +kernel
theorem dX1_make0_183 : decode cX1_make0 183 = .ok (.lstore 4, 2) := by decide +kernel
theorem dX1_make0_185 : decode cX1_make0 185 = .ok (.iinc 6 1, 3) := by decide +kernel
theorem dX1_make0_188 : decode cX1_make0 188 = .ok (.goto (-18), 3) := by decide +kernel
theorem dX1_make0_191 : decode cX1_make0 191 = .ok (.aload_n 0, 1) := by decide +kernel
theorem dX1_make0_192 : decode cX1_make0 192 = .ok (.lload 4, 2) := by decide +kernel
theorem dX1_make0_194 : decode cX1_make0 194 = .ok (.lconst 0, 1) := by decide +kernel
theorem dX1_make0_195 : decode cX1_make0 195 = .ok (.lcmp, 1) := by decide +kernel
theorem dX1_make0_196 : decode cX1_make0 196 = .ok (.ifCond .ge 7, 3) := by decide +kernel
theorem dX1_make0_199 : decode cX1_make0 199 = .ok (.iconst 1, 1) := by decide +kernel
theorem dX1_make0_200 : decode cX1_make0 200 = .ok (.goto 4, 3) := by decide +kernel
theorem dX1_make0_203 : decode cX1_make0 203 = .ok (.iconst 0, 1) := by decide +kernel
theorem dX1_make0_204 : decode cX1_make0 204 = .ok (.lload 4, 2) := by decide +kernel
theorem dX1_make0_206 : decode cX1_make0 206 = .ok (.invokevirtual 79, 3) := by decide +kernel
theorem dX1_make0_209 : decode cX1_make0 209 = .ok (.aload_n 0, 1) := by decide +kernel
theorem dX1_make0_210 : decode cX1_make0 210 = .ok (.aload_n 0, 1) := by decide +kernel
theorem dX1_make0_211 : decode cX1_make0 211 = .ok (.getfield 59, 3) := by decide +kernel
theorem dX1_make0_214 : decode cX1_make0 214 = .ok (.ifCond .eq 8, 3) := by decide +kernel
theorem dX1_make0_217 : decode cX1_make0 217 = .ok (.bipush 48, 2) := by decide +kernel
theorem dX1_make0_219 : decode cX1_make0 219 = .ok (.goto 4, 3) := by decide +kernel
theorem dX1_make0_222 : decode cX1_make0 222 = .ok (.iconst 0, 1) := by decide +kernel
theorem dX1_make0_223 : decode cX1_make0 223 = .ok (.putfield 73, 3) := by decide +kernel
theorem dX1_make0_226 : decode cX1_make0 226 = .ok (.return_, 1) := by decide +kernel
theorem dX1_make0_227 : decode cX1_make0 227 = .ok (.aload_n 0, 1) := by decide +kernel
theorem dX1_make0_228 : decode cX1_make0 228 = .ok (.iload_n 2, 1) := by decide +kernel
theorem dX1_make0_229 : decode cX1_make0 229 = .ok (.iconst 1, 1) := by decide +kernel
theorem dX1_make0_230 : decode cX1_make0 230 = .ok (.iadd, 1) := by decide +kernel
theorem dX1_make0_231 : decode cX1_make0 231 = .ok (.iload_n 1, 1) := by decide +kernel
theorem dX1_make0_232 : decode cX1_make0 232 = .ok (.isub, 1) := by decide +kernel
theorem dX1_make0_233 : decode cX1_make0 233 = .ok (.invokevirtual 83, 3) := by decide +kernel
theorem dX1_make0_236 : decode cX1_make0 236 = .ok (.aload_n 0, 1) := by decide +kernel
theorem dX1_make0_237 : decode cX1_make0 237 = .ok (.getfield 64, 3) := by decide +kernel
theorem dX1_make0_240 : decode cX1_make0 240 = .ok (.ifCond .ne 20, 3) := by decide +kernel
theorem dX1_make0_243 : decode cX1_make0 243 = .ok (.iload_n 1, 1) := by decide +kernel
theorem dX1_make0_244 : decode cX1_make0 244 = .ok (.bipush 64, 2) := by decide +kernel
theorem dX1_make0_246 : decode cX1_make0 246 = .ok (.if_icmp .ge 18, 3) := by decide +kernel
theorem dX1_make0_249 : decode cX1_make0 249 = .ok (.aload_n 0, 1) := by decide +kernel
theorem dX1_make0_250 : decode cX1_make0 250 = .ok (.getfield 43, 3) := by decide +kernel
theorem dX1_make0_253 : decode cX1_make0 253 = .ok (.lconst 1, 1) := by decide +kernel
theorem dX1_make0_254 : decode cX1_make0 254 = .ok (.iload_n 1, 1) := by decide +kernel
theorem dX1_make0_255 : decode cX1_make0 255 = .ok (.lshl, 1) := by decide +kernel
theorem dX1_make0_256 : decode cX1_make0 256 = .ok (.lcmp, 1) := by decide +kernel
theorem dX1_make0_257 : decode cX1_make0 257 = .ok (.ifCond .ne 7, 3) := by decide +kernel
theorem dX1_make0_260 : decode cX1_make0 260 = .ok (.iconst 1, 1) := by decide +kernel
theorem dX1_make0_261 : decode cX1_make0 261 = .ok (.goto 4, 3) := by decide +kernel
theorem dX1_make0_264 : decode cX1_make0 264 = .ok (.iconst 0, 1) := by decide +kernel
theorem dX1_make0_265 : decode cX1_make0 265 = .ok (.istore 4, 2) := by decide +kernel
theorem dX1_make0_267 : decode cX1_make0 267 = .ok (.iload 4, 2) := by decide +kernel
theorem dX1_make0_269 : decode cX1_make0 269 = .ok (.ifCond .eq 9, 3) := by decide +kernel
theorem dX1_make0_272 : decode cX1_make0 272 = .ok (.iload_n 2, 1) := by decide +kernel
theorem dX1_make0_273 : decode cX1_make0 273 = .ok (.iconst 1, 1) := by decide +kernel
theorem dX1_make0_274 : decode cX1_make0 274 = .ok (.iadd, 1) := by decide +kernel
theorem dX1_make0_275 : decode cX1_make0 275 = .ok (.goto 4, 3) := by decide +kernel
theorem dX1_make0_278 : decode cX1_make0 278 = .ok (.iload_n 2, 1) := by decide +kernel
theorem dX1_make0_279 : decode cX1_make0 279 = .ok (.istore 5, 2) := by decide +kernel
theorem dX1_make0_281 : decode cX1_make0 281 = .ok (.iload 4, 2) := by decide +kernel
theorem dX1_make0_283 : decode cX1_make0 283 = .ok (.ifCond .eq 9, 3) := by decide +kernel
theorem dX1_make0_286 : decode cX1_make0 286 = .ok (.ldc2_w 37, 3) := by decide +kernel
theorem dX1_make0_289 : decode cX1_make0 289 = .ok (.goto 7, 3) := by decide +kernel
theorem dX1_make0_292 : decode cX1_make0 292 = .ok (.aload_n 0, 1) := by decide +kernel
theorem dX1_make0_293 : decode cX1_make0 293 = .ok (.getfield 43, 3) := by decide +kernel
theorem dX1_make0_296 : decode cX1_make0 296 = .ok (.lstore 6, 2) := by decide +kernel
theorem dX1_make0_298 : decode cX1_make0 298 = .ok (.iload_n 1, 1) := by decide +kernel
theorem dX1_make0_299 : decode cX1_make0 299 = .ok (.istore 8, 2) := by decide +kernel
theorem dX1_make0_301 : decode cX1_make0 301 = .ok (.iload 8, 2) := by decide +kernel
theorem dX1_make0_303 : decode cX1_make0 303 = .ok (.bipush 64, 2) := by decide +kernel
theorem dX1_make0_305 : decode cX1_make0 305 = .ok (.if_icmp .ge 22, 3) := by decide +kernel
theorem dX1_make0_308 : decode cX1_make0 308 = .ok (.iload 4, 2) := by decide +kernel
theorem dX1_make0_310 : decode cX1_make0 310 = .ok (.ifCond .ne 17, 3) := by decide +kernel
theorem dX1_make0_313 : decode cX1_make0 313 = .ok (.ldc2_w 53, 3) := by decide +kernel
theorem dX1_make0_316 : decode cX1_make0 316 = .ok (.lload 6, 2) := by decide +kernel
theorem dX1_make0_318 : decode cX1_make0 318 = .ok (.lmul, 1) := by decide +kernel
theorem dX1_make0_319 : decode cX1_make0 319 = .ok (.lstore 6, 2) := by decide +kernel
theorem dX1_make0_321 : decode cX1_make0 321 = .ok (.iinc 8 1, 3) := by decide +kernel
theorem dX1_make0_324 : decode cX1_make0 324 = .ok (.goto (-23), 3) := by decide +kernel
theorem dX1_make0_327 : decode cX1_make0 327 = .ok (.aload_n 0, 1) := by decide +kernel
theorem dX1_make0_328 : decode cX1_make0 328 = .ok (.aload_n 0, 1) := by decide +kernel
theorem dX1_make0_329 : decode cX1_make0 329 = .ok (.getfield 59, 3) := by decide +kernel
theorem dX1_make0_332 : decode cX1_make0 332 = .ok (.ifCond .eq 8, 3) := by decide +kernel
theorem dX1_make0_335 : decode cX1_make0 335 = .ok (.bipush 32, 2) := by decide +kernel
theorem dX1_make0_337 : decode cX1_make0 337 = .ok (.goto 4, 3) := by decide +kernel
theorem dX1_make0_340 : decode cX1_make0 340 = .ok (.iconst 0, 1) := by decide +kernel
theorem dX1_make0_341 : decode cX1_make0 341 = .ok (.putfield 73, 3) := by decide +kernel
theorem dX1_make0_344 : decode cX1_make0 344 = .ok (.iload_n 3, 1) := by decide +kernel
theorem dX1_make0_345 : decode cX1_make0 345 = .ok (.ifCond .eq 33, 3) := by decide +kernel
theorem dX1_make0_348 : decode cX1_make0 348 = .ok (.aload_n 0, 1) := by decide +kernel
theorem dX1_make0_349 : decode cX1_make0 349 = .ok (.dup, 1) := by decide +kernel
theorem dX1_make0_350 : decode cX1_make0 350 = .ok (.getfield 73, 3) := by decide +kernel
theorem dX1_make0_353 : decode cX1_make0 353 = .ok (.bipush 16, 2) := by decide +kernel
theorem dX1_make0_355 : decode cX1_make0 355 = .ok (.iadd, 1) := by decide +kernel
theorem dX1_make0_356 : decode cX1_make0 356 = .ok (.putfield 73, 3) := by decide +kernel
theorem dX1_make0_359 : decode cX1_make0 359 = .ok (.aload_n 0, 1) := by decide +kernel
theorem dX1_make0_360 : decode cX1_make0 360 = .ok (.iload 5, 2) := by decide +kernel
theorem dX1_make0_362 : decode cX1_make0 362 = .ok (.sipush 16383, 3) := by decide +kernel
theorem dX1_make0_365 : decode cX1_make0 365 = .ok (.iadd, 1) := by decide +kernel
theorem dX1_make0_366 : decode cX1_make0 366 = .ok (.sipush 24576, 3) := by decide +kernel
theorem dX1_make0_369 : decode cX1_make0 369 = .ok (.iadd, 1) := by decide +kernel
theorem dX1_make0_370 : decode cX1_make0 370 = .ok (.lload 6, 2) := by decide +kernel
theorem dX1_make0_372 : decode cX1_make0 372 = .ok (.invokevirtual 79, 3) := by decide +kernel
theorem dX1_make0_375 : decode cX1_make0 375 = .ok (.goto 196, 3) := by decide +kernel
theorem dX1_make0_378 : decode cX1_make0 378 = .ok (.iload 5, 2) := by decide +kernel
theorem dX1_make0_380 : decode cX1_make0 380 = .ok (.sipush 16384, 3) := by decide +kernel
theorem dX1_make0_383 : decode cX1_make0 383 = .ok (.if_icmp .ge 18, 3) := by decide +kernel
theorem dX1_make0_386 : decode cX1_make0 386 = .ok (.aload_n 0, 1) := by decide +kernel
theorem dX1_make0_387 : decode cX1_make0 387 = .ok (.iload 5, 2) := by decide +kernel
theorem dX1_make0_389 : decode cX1_make0 389 = .ok (.sipush 16383, 3) := by decide +kernel
theorem dX1_make0_392 : decode cX1_make0 392 = .ok (.iadd, 1) := by decide +kernel
theorem dX1_make0_393 : decode cX1_make0 393 = .ok (.lload 6, 2) := by decide +kernel
theorem dX1_make0_395 : decode cX1_make0 395 = .ok (.invokevirtual 79, 3) := by decide +kernel
theorem dX1_make0_398 : decode cX1_make0 398 = .ok (.goto 173, 3) := by decide +kernel
theorem dX1_make0_401 : decode cX1_make0 401 = .ok (.aload_n 0, 1) := by decide +kernel
theorem dX1_make0_402 : decode cX1_make0 402 = .ok (.getfield 7, 3) := by decide +kernel
theorem dX1_make0_405 : decode cX1_make0 405 = .ok (.bipush 8, 2) := by decide +kernel
theorem dX1_make0_407 : decode cX1_make0 407 = .ok (.iand, 1) := by decide +kernel
theorem dX1_make0_408 : decode cX1_make0 408 = .ok (.ifCond .ne 33, 3) := by decide +kernel
theorem dX1_make0_411 : decode cX1_make0 411 = .ok (.aload_n 0, 1) := by decide +kernel
theorem dX1_make0_412 : decode cX1_make0 412 = .ok (.dup, 1) := by decide +kernel
theorem dX1_make0_413 : decode cX1_make0 413 = .ok (.getfield 73, 3) := by decide +kernel
theorem dX1_make0_416 : decode cX1_make0 416 = .ok (.bipush 8, 2) := by decide +kernel
theorem dX1_make0_418 : decode cX1_make0 418 = .ok (.iadd, 1) := by decide +kernel
theorem dX1_make0_419 : decode cX1_make0 419 = .ok (.putfield 73, 3) := by decide +kernel
theorem dX1_make0_422 : decode cX1_make0 422 = .ok (.aload_n 0, 1) := by decide +kernel
theorem dX1_make0_423 : decode cX1_make0 423 = .ok (.iload 5, 2) := by decide +kernel
theorem dX1_make0_425 : decode cX1_make0 425 = .ok (.sipush 16383, 3) := by decide +kernel
theorem dX1_make0_428 : decode cX1_make0 428 = .ok (.iadd, 1) := by decide +kernel
theorem dX1_make0_429 : decode cX1_make0 429 = .ok (.sipush 24576, 3) := by decide +kernel
theorem dX1_make0_432 : decode cX1_make0 432 = .ok (.isub, 1) := by decide +kernel
theorem dX1_make0_433 : decode cX1_make0 433 = .ok (.lload 6, 2) := by decide +kernel
theorem dX1_make0_435 : decode cX1_make0 435 = .ok (.invokevirtual 79, 3) := by decide +kernel
theorem dX1_make0_438 : decode cX1_make0 438 = .ok (.goto 133, 3) := by decide +kernel
theorem dX1_make0_441 : decode cX1_make0 441 = .ok (.aload_n 0, 1) := by decide +kernel
theorem dX1_make0_442 : decode cX1_make0 442 = .ok (.getfield 7, 3) := by decide +kernel
theorem dX1_make0_445 : decode cX1_make0 445 = .ok (.bipush 10, 2) := by decide +kernel
theorem dX1_make0_447 : decode cX1_make0 447 = .ok (.ishr, 1) := by decide +kernel
theorem dX1_make0_448 : decode cX1_make0 448 = .ok (.iconst 3, 1) := by decide +kernel
theorem dX1_make0_449 : decode cX1_make0 449 = .ok (.iand, 1) := by decide +kernel
theorem dX1_make0_450 : decode cX1_make0 450 = .ok (.istore 8, 2) := by decide +kernel
theorem dX1_make0_452 : decode cX1_make0 452 = .ok (.iload 8, 2) := by decide +kernel
theorem dX1_make0_454 : decode cX1_make0 454 = .ok (.ifCond .eq 20, 3) := by decide +kernel
theorem dX1_make0_457 : decode cX1_make0 457 = .ok (.iload 8, 2) := by decide +kernel
theorem dX1_make0_459 : decode cX1_make0 459 = .ok (.aload_n 0, 1) := by decide +kernel
theorem dX1_make0_460 : decode cX1_make0 460 = .ok (.getfield 55, 3) := by decide +kernel
theorem dX1_make0_463 : decode cX1_make0 463 = .ok (.ifCond .eq 7, 3) := by decide +kernel
theorem dX1_make0_466 : decode cX1_make0 466 = .ok (.iconst 1, 1) := by decide +kernel
theorem dX1_make0_467 : decode cX1_make0 467 = .ok (.goto 4, 3) := by decide +kernel
theorem dX1_make0_470 : decode cX1_make0 470 = .ok (.iconst 2, 1) := by decide +kernel
theorem dX1_make0_471 : decode cX1_make0 471 = .ok (.if_icmp .ne 7, 3) := by decide +kernel
theorem dX1_make0_474 : decode cX1_make0 474 = .ok (.iconst 1, 1) := by decide +kernel
theorem dX1_make0_475 : decode cX1_make0 475 = .ok (.goto 4, 3) := by decide +kernel
theorem dX1_make0_478 : decode cX1_make0 478 = .ok (.iconst 0, 1) := by decide +kernel
theorem dX1_make0_479 : decode cX1_make0 479 = .ok (.istore 9, 2) := by decide +kernel
theorem dX1_make0_481 : decode cX1_make0 481 = .ok (.aload_n 0, 1) := by decide +kernel
theorem dX1_make0_482 : decode cX1_make0 482 = .ok (.bipush 40, 2) := by decide +kernel
theorem dX1_make0_484 : decode cX1_make0 484 = .ok (.putfield 73, 3) := by decide +kernel
theorem dX1_make0_487 : decode cX1_make0 487 = .ok (.aload_n 0, 1) := by decide +kernel
theorem dX1_make0_488 : decode cX1_make0 488 = .ok (.iload 9, 2) := by decide +kernel
theorem dX1_make0_490 : decode cX1_make0 490 = .ok (.ifCond .eq 7, 3) := by decide +kernel
theorem dX1_make0_493 : decode cX1_make0 493 = .ok (.iconst 1, 1) := by decide +kernel
theorem dX1_make0_494 : decode cX1_make0 494 = .ok (.goto 4, 3) := by decide +kernel
theorem dX1_make0_497 : decode cX1_make0 497 = .ok (.iconst (-1), 1) := by decide +kernel
theorem dX1_make0_498 : decode cX1_make0 498 = .ok (.putfield 59, 3) := by decide +kernel
theorem dX1_make0_501 : decode cX1_make0 501 = .ok (.lconst 0, 1) := by decide +kernel
theorem dX1_make0_502 : decode cX1_make0 502 = .ok (.lstore 10, 2) := by decide +kernel
theorem dX1_make0_504 : decode cX1_make0 504 = .ok (.iconst 0, 1) := by decide +kernel
theorem dX1_make0_505 : decode cX1_make0 505 = .ok (.istore 12, 2) := by decide +kernel
theorem dX1_make0_507 : decode cX1_make0 507 = .ok (.iload 12, 2) := by decide +kernel
theorem dX1_make0_509 : decode cX1_make0 509 = .ok (.bipush 64, 2) := by decide +kernel
theorem dX1_make0_511 : decode cX1_make0 511 = .ok (.if_icmp .ge 29, 3) := by decide +kernel
theorem dX1_make0_514 : decode cX1_make0 514 = .ok (.ldc2_w 53, 3) := by decide +kernel
theorem dX1_make0_517 : decode cX1_make0 517 = .ok (.lload 10, 2) := by decide +kernel
theorem dX1_make0_519 : decode cX1_make0 519 = .ok (.lmul, 1) := by decide +kernel
theorem dX1_make0_520 : decode cX1_make0 520 = .ok (.iload 12, 2) := by decide +kernel
theorem dX1_make0_522 : decode cX1_make0 522 = .ok (.iload_n 1, 1) := by decide +kernel
theorem dX1_make0_523 : decode cX1_make0 523 = .ok (.if_icmp .ge 7, 3) := by decide +kernel
theorem dX1_make0_526 : decode cX1_make0 526 = .ok (.lconst 1, 1) := by decide +kernel
theorem dX1_make0_527 : decode cX1_make0 527 = .ok (.goto 4, 3) := by decide +kernel
theorem dX1_make0_530 : decode cX1_make0 530 = .ok (.lconst 0, 1) := by decide +kernel
theorem dX1_make0_531 : decode cX1_make0 531 = .ok (.ladd, 1) := by decide +kernel
theorem dX1_make0_532 : decode cX1_make0 532 = .ok (.lstore 10, 2) := by decide +kernel
theorem dX1_make0_534 : decode cX1_make0 534 = .ok (.iinc 12 1, 3) := by decide +kernel
theorem dX1_make0_537 : decode cX1_make0 537 = .ok (.goto (-30), 3) := by decide +kernel
theorem dX1_make0_540 : decode cX1_make0 540 = .ok (.aload_n 0, 1) := by decide +kernel
theorem dX1_make0_541 : decode cX1_make0 541 = .ok (.iload 9, 2) := by decide +kernel
theorem dX1_make0_543 : decode cX1_make0 543 = .ok (.ifCond .eq 9, 3) := by decide +kernel
theorem dX1_make0_546 : decode cX1_make0 546 = .ok (.sipush 32767, 3) := by decide +kernel
theorem dX1_make0_549 : decode cX1_make0 549 = .ok (.goto 6, 3) := by decide +kernel
theorem dX1_make0_552 : decode cX1_make0 552 = .ok (.sipush 32766, 3) := by decide +kernel
theorem dX1_make0_555 : decode cX1_make0 555 = .ok (.iload 9, 2) := by decide +kernel
theorem dX1_make0_557 : decode cX1_make0 557 = .ok (.ifCond .eq 9, 3) := by decide +kernel
theorem dX1_make0_560 : decode cX1_make0 560 = .ok (.ldc2_w 37, 3) := by decide +kernel
theorem dX1_make0_563 : decode cX1_make0 563 = .ok (.goto 5, 3) := by decide +kernel
theorem dX1_make0_566 : decode cX1_make0 566 = .ok (.lload 10, 2) := by decide +kernel
theorem dX1_make0_568 : decode cX1_make0 568 = .ok (.invokevirtual 79, 3) := by decide +kernel
theorem dX1_make0_571 : decode cX1_make0 571 = .ok (.return_, 1) := by decide +kernel
theorem dX1_result_0 : decode cX1_result 0 = .ok (.aload_n 0, 1) := by decide +kernel
theorem dX1_result_1 : decode cX1_result 1 = .ok (.aload_n 0, 1) := by decide +kernel
theorem dX1_result_2 : decode cX1_result 2 = .ok (.getfield 55, 3) := by decide +kernel
theorem dX1_result_5 : decode cX1_result 5 = .ok (.ifCond .eq 8, 3) := by decide +kernel
theorem dX1_result_8 : decode cX1_result 8 = .ok (.ldc 36, 2) := by decide +kernel
theorem dX1_result_10 : decode cX1_result 10 = .ok (.goto 4, 3) := by decide +kernel
theorem dX1_result_13 : decode cX1_result 13 = .ok (.iconst 0, 1) := by decide +kernel
theorem dX1_result_14 : decode cX1_result 14 = .ok (.iload_n 1, 1) := by decide +kernel
theorem dX1_result_15 : decode cX1_result 15 = .ok (.iadd, 1) := by decide +kernel
theorem dX1_result_16 : decode cX1_result 16 = .ok (.putfield 67, 3) := by decide +kernel
theorem dX1_result_19 : decode cX1_result 19 = .ok (.aload_n 0, 1) := by decide +kernel
theorem dX1_result_20 : decode cX1_result 20 = .ok (.lload_n 2, 1) := by decide +kernel
theorem dX1_result_21 : decode cX1_result 21 = .ok (.putfield 70, 3) := by decide +kernel
theorem dX1_result_24 : decode cX1_result 24 = .ok (.return_, 1) := by decide +kernel
theorem dX1_round_0 : decode cX1_round 0 = .ok (.aload_n 0, 1) := by decide +kernel
theorem dX1_round_1 : decode cX1_round 1 = .ok (.getfield 7, 3) := by decide +kernel
theorem dX1_round_4 : decode cX1_round 4 = .ok (.bipush 10, 2) := by decide +kernel
theorem dX1_round_6 : decode cX1_round 6 = .ok (.ishr, 1) := by decide +kernel
theorem dX1_round_7 : decode cX1_round 7 = .ok (.iconst 3, 1) := by decide +kernel
theorem dX1_round_8 : decode cX1_round 8 = .ok (.iand, 1) := by decide +kernel
theorem dX1_round_9 : decode cX1_round 9 = .ok (.istore_n 2, 1) := by decide +kernel
theorem dX1_round_10 : decode cX1_round 10 = .ok (.aload_n 0, 1) := by decide +kernel
theorem dX1_round_11 : decode cX1_round 11 = .ok (.lconst 0, 1) := by decide +kernel
theorem dX1_round_12 : decode cX1_round 12 = .ok (.putfield 43, 3) := by decide +kernel
theorem dX1_round_15 : decode cX1_round 15 = .ok (.iconst 0, 1) := by decide +kernel
theorem dX1_round_16 : decode cX1_round 16 = .ok (.istore_n 3, 1) := by decide +kernel
theorem dX1_round_17 : decode cX1_round 17 = .ok (.iconst 0, 1) := by decide +kernel
theorem dX1_round_18 : decode cX1_round 18 = .ok (.istore 4, 2) := by decide +kernel
theorem dX1_round_20 : decode cX1_round 20 = .ok (.aload_n 0, 1) := by decide +kernel
theorem dX1_round_21 : decode cX1_round 21 = .ok (.getfield 47, 3) := by decide +kernel
theorem dX1_round_24 : decode cX1_round 24 = .ok (.istore 5, 2) := by decide +kernel
theorem dX1_round_26 : decode cX1_round 26 = .ok (.iload 5, 2) := by decide +kernel
theorem dX1_round_28 : decode cX1_round 28 = .ok (.sipush 129, 3) := by decide +kernel
theorem dX1_round_31 : decode cX1_round 31 = .ok (.if_icmp .ge 101, 3) := by decide +kernel
theorem dX1_round_34 : decode cX1_round 34 = .ok (.aload_n 0, 1) := by decide +kernel
theorem dX1_round_35 : decode cX1_round 35 = .ok (.getfield 50, 3) := by decide +kernel
theorem dX1_round_38 : decode cX1_round 38 = .ok (.iload 5, 2) := by decide +kernel
theorem dX1_round_40 : decode cX1_round 40 = .ok (.isub, 1) := by decide +kernel
theorem dX1_round_41 : decode cX1_round 41 = .ok (.istore 6, 2) := by decide +kernel
theorem dX1_round_43 : decode cX1_round 43 = .ok (.iload 6, 2) := by decide +kernel
theorem dX1_round_45 : decode cX1_round 45 = .ok (.iload_n 1, 1) := by decide +kernel
theorem dX1_round_46 : decode cX1_round 46 = .ok (.if_icmp .lt 24, 3) := by decide +kernel
theorem dX1_round_49 : decode cX1_round 49 = .ok (.aload_n 0, 1) := by decide +kernel
theorem dX1_round_50 : decode cX1_round 50 = .ok (.ldc2_w 53, 3) := by decide +kernel
theorem dX1_round_53 : decode cX1_round 53 = .ok (.aload_n 0, 1) := by decide +kernel
theorem dX1_round_54 : decode cX1_round 54 = .ok (.getfield 43, 3) := by decide +kernel
theorem dX1_round_57 : decode cX1_round 57 = .ok (.lmul, 1) := by decide +kernel
theorem dX1_round_58 : decode cX1_round 58 = .ok (.aload_n 0, 1) := by decide +kernel
theorem dX1_round_59 : decode cX1_round 59 = .ok (.getfield 21, 3) := by decide +kernel
theorem dX1_round_62 : decode cX1_round 62 = .ok (.iload 5, 2) := by decide +kernel
theorem dX1_round_64 : decode cX1_round 64 = .ok (.iaload, 1) := by decide +kernel
theorem dX1_round_65 : decode cX1_round 65 = .ok (.i2l, 1) := by decide +kernel
theorem dX1_round_66 : decode cX1_round 66 = .ok (.ladd, 1) := by decide +kernel
theorem dX1_round_67 : decode cX1_round 67 = .ok (.putfield 43, 3) := by decide +kernel
theorem dX1_round_70 : decode cX1_round 70 = .ok (.iload 6, 2) := by decide +kernel
theorem dX1_round_72 : decode cX1_round 72 = .ok (.iload_n 1, 1) := by decide +kernel
theorem dX1_round_73 : decode cX1_round 73 = .ok (.iconst 1, 1) := by decide +kernel
theorem dX1_round_74 : decode cX1_round 74 = .ok (.isub, 1) := by decide +kernel
theorem dX1_round_75 : decode cX1_round 75 = .ok (.if_icmp .ne 20, 3) := by decide +kernel
theorem dX1_round_78 : decode cX1_round 78 = .ok (.aload_n 0, 1) := by decide +kernel
theorem dX1_round_79 : decode cX1_round 79 = .ok (.getfield 21, 3) := by decide +kernel
theorem dX1_round_82 : decode cX1_round 82 = .ok (.iload 5, 2) := by decide +kernel
theorem dX1_round_84 : decode cX1_round 84 = .ok (.iaload, 1) := by decide +kernel
theorem dX1_round_85 : decode cX1_round 85 = .ok (.iconst 1, 1) := by decide +kernel
theorem dX1_round_86 : decode cX1_round 86 = .ok (.if_icmp .ne 7, 3) := by decide +kernel
theorem dX1_round_89 : decode cX1_round 89 = .ok (.iconst 1, 1) := by decide +kernel
theorem dX1_round_90 : decode cX1_round 90 = .ok (.goto 4, 3) := by decide +kernel
theorem dX1_round_93 : decode cX1_round 93 = .ok (.iconst 0, 1) := by decide +kernel
theorem dX1_round_94 : decode cX1_round 94 = .ok (.istore_n 3, 1) := by decide +kernel
theorem dX1_round_95 : decode cX1_round 95 = .ok (.iload 6, 2) := by decide +kernel
theorem dX1_round_97 : decode cX1_round 97 = .ok (.iload_n 1, 1) := by decide +kernel
theorem dX1_round_98 : decode cX1_round 98 = .ok (.iconst 1, 1) := by decide +kernel
theorem dX1_round_99 : decode cX1_round 99 = .ok (.isub, 1) := by decide +kernel
theorem dX1_round_100 : decode cX1_round 100 = .ok (.if_icmp .ge 26, 3) := by decide +kernel
theorem dX1_round_103 : decode cX1_round 103 = .ok (.iload 4, 2) := by decide +kernel
theorem dX1_round_105 : decode cX1_round 105 = .ok (.ifCond .ne 14, 3) := by decide +kernel
theorem dX1_round_108 : decode cX1_round 108 = .ok (.aload_n 0, 1) := by decide +kernel
theorem dX1_round_109 : decode cX1_round 109 = .ok (.getfield 21, 3) := by decide +kernel
theorem dX1_round_112 : decode cX1_round 112 = .ok (.iload 5, 2) := by decide +kernel
theorem dX1_round_114 : decode cX1_round 114 = .ok (.iaload, 1) := by decide +kernel
theorem dX1_round_115 : decode cX1_round 115 = .ok (.iconst 1, 1) := by decide +kernel
theorem dX1_round_116 : decode cX1_round 116 = .ok (.if_icmp .ne 7, 3) := by decide +kernel
theorem dX1_round_119 : decode cX1_round 119 = .ok (.iconst 1, 1) := by decide +kernel
theorem dX1_round_120 : decode cX1_round 120 = .ok (.goto 4, 3) := by decide +kernel
theorem dX1_round_123 : decode cX1_round 123 = .ok (.iconst 0, 1) := by decide +kernel
theorem dX1_round_124 : decode cX1_round 124 = .ok (.istore 4, 2) := by decide +kernel
theorem dX1_round_126 : decode cX1_round 126 = .ok (.iinc 5 1, 3) := by decide +kernel
theorem dX1_round_129 : decode cX1_round 129 = .ok (.goto (-103), 3) := by decide +kernel
theorem dX1_round_132 : decode cX1_round 132 = .ok (.aload_n 0, 1) := by decide +kernel
theorem dX1_round_133 : decode cX1_round 133 = .ok (.getfield 50, 3) := by decide +kernel
theorem dX1_round_136 : decode cX1_round 136 = .ok (.sipush 129, 3) := by decide +kernel
theorem dX1_round_139 : decode cX1_round 139 = .ok (.isub, 1) := by decide +kernel
theorem dX1_round_140 : decode cX1_round 140 = .ok (.istore 5, 2) := by decide +kernel
theorem dX1_round_142 : decode cX1_round 142 = .ok (.iload 5, 2) := by decide +kernel
theorem dX1_round_144 : decode cX1_round 144 = .ok (.iload_n 1, 1) := by decide +kernel
theorem dX1_round_145 : decode cX1_round 145 = .ok (.if_icmp .lt 21, 3) := by decide +kernel
theorem dX1_round_148 : decode cX1_round 148 = .ok (.aload_n 0, 1) := by decide +kernel
theorem dX1_round_149 : decode cX1_round 149 = .ok (.ldc2_w 53, 3) := by decide +kernel
theorem dX1_round_152 : decode cX1_round 152 = .ok (.aload_n 0, 1) := by decide +kernel
theorem dX1_round_153 : decode cX1_round 153 = .ok (.getfield 43, 3) := by decide +kernel
theorem dX1_round_156 : decode cX1_round 156 = .ok (.lmul, 1) := by decide +kernel
theorem dX1_round_157 : decode cX1_round 157 = .ok (.putfield 43, 3) := by decide +kernel
theorem dX1_round_160 : decode cX1_round 160 = .ok (.iinc 5 (-1), 3) := by decide +kernel
theorem dX1_round_163 : decode cX1_round 163 = .ok (.goto (-21), 3) := by decide +kernel
theorem dX1_round_166 : decode cX1_round 166 = .ok (.iload_n 3, 1) := by decide +kernel
theorem dX1_round_167 : decode cX1_round 167 = .ok (.ifCond .ne 8, 3) := by decide +kernel
theorem dX1_round_170 : decode cX1_round 170 = .ok (.iload 4, 2) := by decide +kernel
theorem dX1_round_172 : decode cX1_round 172 = .ok (.ifCond .eq 7, 3) := by decide +kernel
theorem dX1_round_175 : decode cX1_round 175 = .ok (.iconst 1, 1) := by decide +kernel
theorem dX1_round_176 : decode cX1_round 176 = .ok (.goto 4, 3) := by decide +kernel
theorem dX1_round_179 : decode cX1_round 179 = .ok (.iconst 0, 1) := by decide +kernel
theorem dX1_round_180 : decode cX1_round 180 = .ok (.istore 5, 2) := by decide +kernel
theorem dX1_round_182 : decode cX1_round 182 = .ok (.iload_n 2, 1) := by decide +kernel
theorem dX1_round_183 : decode cX1_round 183 = .ok (.ifCond .ne 33, 3) := by decide +kernel
theorem dX1_round_186 : decode cX1_round 186 = .ok (.iload_n 3, 1) := by decide +kernel
theorem dX1_round_187 : decode cX1_round 187 = .ok (.ifCond .eq 25, 3) := by decide +kernel
theorem dX1_round_190 : decode cX1_round 190 = .ok (.iload 4, 2) := by decide +kernel
theorem dX1_round_192 : decode cX1_round 192 = .ok (.ifCond .ne 16, 3) := by decide +kernel
theorem dX1_round_195 : decode cX1_round 195 = .ok (.aload_n 0, 1) := by decide +kernel
theorem dX1_round_196 : decode cX1_round 196 = .ok (.getfield 43, 3) := by decide +kernel
theorem dX1_round_199 : decode cX1_round 199 = .ok (.ldc2_w 53, 3) := by decide +kernel
theorem dX1_round_202 : decode cX1_round 202 = .ok (.lrem, 1) := by decide +kernel
theorem dX1_round_203 : decode cX1_round 203 = .ok (.lconst 0, 1) := by decide +kernel
theorem dX1_round_204 : decode cX1_round 204 = .ok (.lcmp, 1) := by decide +kernel
theorem dX1_round_205 : decode cX1_round 205 = .ok (.ifCond .eq 7, 3) := by decide +kernel
theorem dX1_round_208 : decode cX1_round 208 = .ok (.iconst 1, 1) := by decide +kernel
theorem dX1_round_209 : decode cX1_round 209 = .ok (.goto 33, 3) := by decide +kernel
theorem dX1_round_212 : decode cX1_round 212 = .ok (.iconst 0, 1) := by decide +kernel
theorem dX1_round_213 : decode cX1_round 213 = .ok (.goto 29, 3) := by decide +kernel
theorem dX1_round_216 : decode cX1_round 216 = .ok (.iload 5, 2) := by decide +kernel
theorem dX1_round_218 : decode cX1_round 218 = .ok (.ifCond .eq 23, 3) := by decide +kernel
theorem dX1_round_221 : decode cX1_round 221 = .ok (.iload_n 2, 1) := by decide +kernel
theorem dX1_round_222 : decode cX1_round 222 = .ok (.aload_n 0, 1) := by decide +kernel
theorem dX1_round_223 : decode cX1_round 223 = .ok (.getfield 55, 3) := by decide +kernel
theorem dX1_round_226 : decode cX1_round 226 = .ok (.ifCond .eq 7, 3) := by decide +kernel
theorem dX1_round_229 : decode cX1_round 229 = .ok (.iconst 1, 1) := by decide +kernel
theorem dX1_round_230 : decode cX1_round 230 = .ok (.goto 4, 3) := by decide +kernel
theorem dX1_round_233 : decode cX1_round 233 = .ok (.iconst 2, 1) := by decide +kernel
theorem dX1_round_234 : decode cX1_round 234 = .ok (.if_icmp .ne 7, 3) := by decide +kernel
theorem dX1_round_237 : decode cX1_round 237 = .ok (.iconst 1, 1) := by decide +kernel
theorem dX1_round_238 : decode cX1_round 238 = .ok (.goto 4, 3) := by decide +kernel
theorem dX1_round_241 : decode cX1_round 241 = .ok (.iconst 0, 1) := by decide +kernel
theorem dX1_round_242 : decode cX1_round 242 = .ok (.istore 6, 2) := by decide +kernel
theorem dX1_round_244 : decode cX1_round 244 = .ok (.aload_n 0, 1) := by decide +kernel
theorem dX1_round_245 : decode cX1_round 245 = .ok (.iload 5, 2) := by decide +kernel
theorem dX1_round_247 : decode cX1_round 247 = .ok (.ifCond .ne 7, 3) := by decide +kernel
theorem dX1_round_250 : decode cX1_round 250 = .ok (.iconst 0, 1) := by decide +kernel
theorem dX1_round_251 : decode cX1_round 251 = .ok (.goto 13, 3) := by decide +kernel
theorem dX1_round_254 : decode cX1_round 254 = .ok (.iload 6, 2) := by decide +kernel
theorem dX1_round_256 : decode cX1_round 256 = .ok (.ifCond .eq 7, 3) := by decide +kernel
theorem dX1_round_259 : decode cX1_round 259 = .ok (.iconst 1, 1) := by decide +kernel
theorem dX1_round_260 : decode cX1_round 260 = .ok (.goto 4, 3) := by decide +kernel
theorem dX1_round_263 : decode cX1_round 263 = .ok (.iconst (-1), 1) := by decide +kernel
theorem dX1_round_264 : decode cX1_round 264 = .ok (.putfield 59, 3) := by decide +kernel
theorem dX1_round_267 : decode cX1_round 267 = .ok (.aload_n 0, 1) := by decide +kernel
theorem dX1_round_268 : decode cX1_round 268 = .ok (.iload 6, 2) := by decide +kernel
theorem dX1_round_270 : decode cX1_round 270 = .ok (.ifCond .eq 18, 3) := by decide +kernel
theorem dX1_round_273 : decode cX1_round 273 = .ok (.aload_n 0, 1) := by decide +kernel
theorem dX1_round_274 : decode cX1_round 274 = .ok (.getfield 43, 3) := by decide +kernel
theorem dX1_round_277 : decode cX1_round 277 = .ok (.ldc2_w 62, 3) := by decide +kernel
theorem dX1_round_280 : decode cX1_round 280 = .ok (.lcmp, 1) := by decide +kernel
theorem dX1_round_281 : decode cX1_round 281 = .ok (.ifCond .ne 7, 3) := by decide +kernel
theorem dX1_round_284 : decode cX1_round 284 = .ok (.iconst 1, 1) := by decide +kernel
theorem dX1_round_285 : decode cX1_round 285 = .ok (.goto 4, 3) := by decide +kernel
theorem dX1_round_288 : decode cX1_round 288 = .ok (.iconst 0, 1) := by decide +kernel
theorem dX1_round_289 : decode cX1_round 289 = .ok (.putfield 64, 3) := by decide +kernel
theorem dX1_round_292 : decode cX1_round 292 = .ok (.aload_n 0, 1) := by decide +kernel
theorem dX1_round_293 : decode cX1_round 293 = .ok (.iload 6, 2) := by decide +kernel
theorem dX1_round_295 : decode cX1_round 295 = .ok (.ifCond .eq 12, 3) := by decide +kernel
theorem dX1_round_298 : decode cX1_round 298 = .ok (.aload_n 0, 1) := by decide +kernel
theorem dX1_round_299 : decode cX1_round 299 = .ok (.getfield 43, 3) := by decide +kernel
theorem dX1_round_302 : decode cX1_round 302 = .ok (.lconst 1, 1) := by decide +kernel
theorem dX1_round_303 : decode cX1_round 303 = .ok (.ladd, 1) := by decide +kernel
theorem dX1_round_304 : decode cX1_round 304 = .ok (.goto 7, 3) := by decide +kernel
theorem dX1_round_307 : decode cX1_round 307 = .ok (.aload_n 0, 1) := by decide +kernel
theorem dX1_round_308 : decode cX1_round 308 = .ok (.getfield 43, 3) := by decide +kernel
theorem dX1_round_311 : decode cX1_round 311 = .ok (.putfield 43, 3) := by decide +kernel
theorem dX1_round_314 : decode cX1_round 314 = .ok (.return_, 1) := by decide +kernel
theorem dX1_keep_0 : decode cX1_keep 0 = .ok (.aload_n 0, 1) := by decide +kernel
theorem dX1_keep_1 : decode cX1_keep 1 = .ok (.getfield 13, 3) := by decide +kernel
theorem dX1_keep_4 : decode cX1_keep 4 = .ok (.iload_n 1, 1) := by decide +kernel
theorem dX1_keep_5 : decode cX1_keep 5 = .ok (.aload_n 0, 1) := by decide +kernel
theorem dX1_keep_6 : decode cX1_keep 6 = .ok (.getfield 67, 3) := by decide +kernel
theorem dX1_keep_9 : decode cX1_keep 9 = .ok (.iastore, 1) := by decide +kernel
theorem dX1_keep_10 : decode cX1_keep 10 = .ok (.aload_n 0, 1) := by decide +kernel
theorem dX1_keep_11 : decode cX1_keep 11 = .ok (.getfield 17, 3) := by decide +kernel
theorem dX1_keep_14 : decode cX1_keep 14 = .ok (.iload_n 1, 1) := by decide +kernel
theorem dX1_keep_15 : decode cX1_keep 15 = .ok (.aload_n 0, 1) := by decide +kernel
theorem dX1_keep_16 : decode cX1_keep 16 = .ok (.getfield 70, 3) := by decide +kernel
theorem dX1_keep_19 : decode cX1_keep 19 = .ok (.lastore, 1) := by decide +kernel
theorem dX1_keep_20 : decode cX1_keep 20 = .ok (.aload_n 0, 1) := by decide +kernel
theorem dX1_keep_21 : decode cX1_keep 21 = .ok (.getfield 73, 3) := by decide +kernel
theorem dX1_keep_24 : decode cX1_keep 24 = .ok (.ireturn, 1) := by decide +kernel
theorem dX1_again_0 : decode cX1_again 0 = .ok (.aload_n 0, 1) := by decide +kernel
theorem dX1_again_1 : decode cX1_again 1 = .ok (.iload_n 1, 1) := by decide +kernel
theorem dX1_again_2 : decode cX1_again 2 = .ok (.invokestatic 28, 3) := by decide +kernel
theorem dX1_again_5 : decode cX1_again 5 = .ok (.ifCond .ne 10, 3) := by decide +kernel
theorem dX1_again_8 : decode cX1_again 8 = .ok (.iload_n 2, 1) := by decide +kernel
theorem dX1_again_9 : decode cX1_again 9 = .ok (.invokestatic 28, 3) := by decide +kernel
theorem dX1_again_12 : decode cX1_again 12 = .ok (.ifCond .eq 7, 3) := by decide +kernel
theorem dX1_again_15 : decode cX1_again 15 = .ok (.iconst 1, 1) := by decide +kernel
theorem dX1_again_16 : decode cX1_again 16 = .ok (.goto 4, 3) := by decide +kernel
theorem dX1_again_19 : decode cX1_again 19 = .ok (.iconst 0, 1) := by decide +kernel
theorem dX1_again_20 : decode cX1_again 20 = .ok (.putfield 24, 3) := by decide +kernel
theorem dX1_again_23 : decode cX1_again 23 = .ok (.aload_n 0, 1) := by decide +kernel
theorem dX1_again_24 : decode cX1_again 24 = .ok (.getfield 24, 3) := by decide +kernel
theorem dX1_again_27 : decode cX1_again 27 = .ok (.ifCond .le 5, 3) := by decide +kernel
theorem dX1_again_30 : decode cX1_again 30 = .ok (.iconst 0, 1) := by decide +kernel
theorem dX1_again_31 : decode cX1_again 31 = .ok (.ireturn, 1) := by decide +kernel
theorem dX1_again_32 : decode cX1_again 32 = .ok (.aload_n 0, 1) := by decide +kernel
theorem dX1_again_33 : decode cX1_again 33 = .ok (.iload_n 1, 1) := by decide +kernel
theorem dX1_again_34 : decode cX1_again 34 = .ok (.invokevirtual 39, 3) := by decide +kernel
theorem dX1_again_37 : decode cX1_again 37 = .ok (.iconst 3, 1) := by decide +kernel
theorem dX1_again_38 : decode cX1_again 38 = .ok (.if_icmp .le 44, 3) := by decide +kernel
theorem dX1_again_41 : decode cX1_again 41 = .ok (.aload_n 0, 1) := by decide +kernel
theorem dX1_again_42 : decode cX1_again 42 = .ok (.aload_n 0, 1) := by decide +kernel
theorem dX1_again_43 : decode cX1_again 43 = .ok (.getfield 13, 3) := by decide +kernel
theorem dX1_again_46 : decode cX1_again 46 = .ok (.iload_n 1, 1) := by decide +kernel
theorem dX1_again_47 : decode cX1_again 47 = .ok (.iaload, 1) := by decide +kernel
theorem dX1_again_48 : decode cX1_again 48 = .ok (.putfield 67, 3) := by decide +kernel
theorem dX1_again_51 : decode cX1_again 51 = .ok (.aload_n 0, 1) := by decide +kernel
theorem dX1_again_52 : decode cX1_again 52 = .ok (.aload_n 0, 1) := by decide +kernel
theorem dX1_again_53 : decode cX1_again 53 = .ok (.getfield 17, 3) := by decide +kernel
theorem dX1_again_56 : decode cX1_again 56 = .ok (.iload_n 1, 1) := by decide +kernel
theorem dX1_again_57 : decode cX1_again 57 = .ok (.laload, 1) := by decide +kernel
theorem dX1_again_58 : decode cX1_again 58 = .ok (.putfield 70, 3) := by decide +kernel
theorem dX1_again_61 : decode cX1_again 61 = .ok (.aload_n 0, 1) := by decide +kernel
theorem dX1_again_62 : decode cX1_again 62 = .ok (.iconst 0, 1) := by decide +kernel
theorem dX1_again_63 : decode cX1_again 63 = .ok (.putfield 73, 3) := by decide +kernel
theorem dX1_again_66 : decode cX1_again 66 = .ok (.aload_n 0, 1) := by decide +kernel
theorem dX1_again_67 : decode cX1_again 67 = .ok (.iconst 0, 1) := by decide +kernel
theorem dX1_again_68 : decode cX1_again 68 = .ok (.putfield 59, 3) := by decide +kernel
theorem dX1_again_71 : decode cX1_again 71 = .ok (.aload_n 0, 1) := by decide +kernel
theorem dX1_again_72 : decode cX1_again 72 = .ok (.iconst 0, 1) := by decide +kernel
theorem dX1_again_73 : decode cX1_again 73 = .ok (.putfield 76, 3) := by decide +kernel
theorem dX1_again_76 : decode cX1_again 76 = .ok (.aload_n 0, 1) := by decide +kernel
theorem dX1_again_77 : decode cX1_again 77 = .ok (.iload_n 2, 1) := by decide +kernel
theorem dX1_again_78 : decode cX1_again 78 = .ok (.invokevirtual 92, 3) := by decide +kernel
theorem dX1_again_81 : decode cX1_again 81 = .ok (.ireturn, 1) := by decide +kernel
theorem dX1_again_82 : decode cX1_again 82 = .ok (.iconst 0, 1) := by decide +kernel
theorem dX1_again_83 : decode cX1_again 83 = .ok (.istore_n 3, 1) := by decide +kernel
theorem dX1_again_84 : decode cX1_again 84 = .ok (.iload_n 3, 1) := by decide +kernel
theorem dX1_again_85 : decode cX1_again 85 = .ok (.sipush 129, 3) := by decide +kernel
theorem dX1_again_88 : decode cX1_again 88 = .ok (.if_icmp .ge 46, 3) := by decide +kernel
theorem dX1_again_91 : decode cX1_again 91 = .ok (.aload_n 0, 1) := by decide +kernel
theorem dX1_again_92 : decode cX1_again 92 = .ok (.getfield 21, 3) := by decide +kernel
theorem dX1_again_95 : decode cX1_again 95 = .ok (.iload_n 3, 1) := by decide +kernel
theorem dX1_again_96 : decode cX1_again 96 = .ok (.iload_n 3, 1) := by decide +kernel
theorem dX1_again_97 : decode cX1_again 97 = .ok (.bipush 64, 2) := by decide +kernel
theorem dX1_again_99 : decode cX1_again 99 = .ok (.if_icmp .lt 10, 3) := by decide +kernel
theorem dX1_again_102 : decode cX1_again 102 = .ok (.iload_n 3, 1) := by decide +kernel
theorem dX1_again_103 : decode cX1_again 103 = .ok (.sipush 128, 3) := by decide +kernel
theorem dX1_again_106 : decode cX1_again 106 = .ok (.if_icmp .ne 7, 3) := by decide +kernel
theorem dX1_again_109 : decode cX1_again 109 = .ok (.iconst 0, 1) := by decide +kernel
theorem dX1_again_110 : decode cX1_again 110 = .ok (.goto 17, 3) := by decide +kernel
theorem dX1_again_113 : decode cX1_again 113 = .ok (.aload_n 0, 1) := by decide +kernel
theorem dX1_again_114 : decode cX1_again 114 = .ok (.getfield 17, 3) := by decide +kernel
theorem dX1_again_117 : decode cX1_again 117 = .ok (.iload_n 1, 1) := by decide +kernel
theorem dX1_again_118 : decode cX1_again 118 = .ok (.laload, 1) := by decide +kernel
theorem dX1_again_119 : decode cX1_again 119 = .ok (.bipush 127, 2) := by decide +kernel
theorem dX1_again_121 : decode cX1_again 121 = .ok (.iload_n 3, 1) := by decide +kernel
theorem dX1_again_122 : decode cX1_again 122 = .ok (.isub, 1) := by decide +kernel
theorem dX1_again_123 : decode cX1_again 123 = .ok (.lshr, 1) := by decide +kernel
theorem dX1_again_124 : decode cX1_again 124 = .ok (.lconst 1, 1) := by decide +kernel
theorem dX1_again_125 : decode cX1_again 125 = .ok (.land, 1) := by decide +kernel
theorem dX1_again_126 : decode cX1_again 126 = .ok (.l2i, 1) := by decide +kernel
theorem dX1_again_127 : decode cX1_again 127 = .ok (.iastore, 1) := by decide +kernel
theorem dX1_again_128 : decode cX1_again 128 = .ok (.iinc 3 1, 3) := by decide +kernel
theorem dX1_again_131 : decode cX1_again 131 = .ok (.goto (-47), 3) := by decide +kernel
theorem dX1_again_134 : decode cX1_again 134 = .ok (.aload_n 0, 1) := by decide +kernel
theorem dX1_again_135 : decode cX1_again 135 = .ok (.aload_n 0, 1) := by decide +kernel
theorem dX1_again_136 : decode cX1_again 136 = .ok (.iload_n 1, 1) := by decide +kernel
theorem dX1_again_137 : decode cX1_again 137 = .ok (.invokevirtual 95, 3) := by decide +kernel
theorem dX1_again_140 : decode cX1_again 140 = .ok (.sipush 16446, 3) := by decide +kernel
theorem dX1_again_143 : decode cX1_again 143 = .ok (.isub, 1) := by decide +kernel
theorem dX1_again_144 : decode cX1_again 144 = .ok (.bipush 127, 2) := by decide +kernel
theorem dX1_again_146 : decode cX1_again 146 = .ok (.iadd, 1) := by decide +kernel
theorem dX1_again_147 : decode cX1_again 147 = .ok (.putfield 50, 3) := by decide +kernel
theorem dX1_again_150 : decode cX1_again 150 = .ok (.aload_n 0, 1) := by decide +kernel
theorem dX1_again_151 : decode cX1_again 151 = .ok (.aload_n 0, 1) := by decide +kernel
theorem dX1_again_152 : decode cX1_again 152 = .ok (.getfield 13, 3) := by decide +kernel
theorem dX1_again_155 : decode cX1_again 155 = .ok (.iload_n 1, 1) := by decide +kernel
theorem dX1_again_156 : decode cX1_again 156 = .ok (.iaload, 1) := by decide +kernel
theorem dX1_again_157 : decode cX1_again 157 = .ok (.sipush 32767, 3) := by decide +kernel
theorem dX1_again_160 : decode cX1_again 160 = .ok (.if_icmp .le 7, 3) := by decide +kernel
theorem dX1_again_163 : decode cX1_again 163 = .ok (.iconst 1, 1) := by decide +kernel
theorem dX1_again_164 : decode cX1_again 164 = .ok (.goto 4, 3) := by decide +kernel
theorem dX1_again_167 : decode cX1_again 167 = .ok (.iconst 0, 1) := by decide +kernel
theorem dX1_again_168 : decode cX1_again 168 = .ok (.putfield 55, 3) := by decide +kernel
theorem dX1_again_171 : decode cX1_again 171 = .ok (.aload_n 0, 1) := by decide +kernel
theorem dX1_again_172 : decode cX1_again 172 = .ok (.invokevirtual 89, 3) := by decide +kernel
theorem dX1_again_175 : decode cX1_again 175 = .ok (.aload_n 0, 1) := by decide +kernel
theorem dX1_again_176 : decode cX1_again 176 = .ok (.iload_n 2, 1) := by decide +kernel
theorem dX1_again_177 : decode cX1_again 177 = .ok (.invokevirtual 92, 3) := by decide +kernel
theorem dX1_again_180 : decode cX1_again 180 = .ok (.ireturn, 1) := by decide +kernel
theorem dX1_powerOf_0 : decode cX1_powerOf 0 = .ok (.aload_n 0, 1) := by decide +kernel
theorem dX1_powerOf_1 : decode cX1_powerOf 1 = .ok (.getfield 13, 3) := by decide +kernel
theorem dX1_powerOf_4 : decode cX1_powerOf 4 = .ok (.iload_n 1, 1) := by decide +kernel
theorem dX1_powerOf_5 : decode cX1_powerOf 5 = .ok (.iaload, 1) := by decide +kernel
theorem dX1_powerOf_6 : decode cX1_powerOf 6 = .ok (.ldc 36, 2) := by decide +kernel
theorem dX1_powerOf_8 : decode cX1_powerOf 8 = .ok (.irem, 1) := by decide +kernel
theorem dX1_powerOf_9 : decode cX1_powerOf 9 = .ok (.istore_n 2, 1) := by decide +kernel
theorem dX1_powerOf_10 : decode cX1_powerOf 10 = .ok (.iload_n 2, 1) := by decide +kernel
theorem dX1_powerOf_11 : decode cX1_powerOf 11 = .ok (.ifCond .ne 7, 3) := by decide +kernel
theorem dX1_powerOf_14 : decode cX1_powerOf 14 = .ok (.iconst 1, 1) := by decide +kernel
theorem dX1_powerOf_15 : decode cX1_powerOf 15 = .ok (.goto 4, 3) := by decide +kernel
theorem dX1_powerOf_18 : decode cX1_powerOf 18 = .ok (.iload_n 2, 1) := by decide +kernel
theorem dX1_powerOf_19 : decode cX1_powerOf 19 = .ok (.ireturn, 1) := by decide +kernel
theorem dX1_last_0 : decode cX1_last 0 = .ok (.aload_n 0, 1) := by decide +kernel
theorem dX1_last_1 : decode cX1_last 1 = .ok (.iload_n 1, 1) := by decide +kernel
theorem dX1_last_2 : decode cX1_last 2 = .ok (.ifCond .lt 8, 3) := by decide +kernel
theorem dX1_last_5 : decode cX1_last 5 = .ok (.iload_n 1, 1) := by decide +kernel
theorem dX1_last_6 : decode cX1_last 6 = .ok (.iconst 2, 1) := by decide +kernel
theorem dX1_last_7 : decode cX1_last 7 = .ok (.if_icmp .le 7, 3) := by decide +kernel
theorem dX1_last_10 : decode cX1_last 10 = .ok (.iconst 1, 1) := by decide +kernel
theorem dX1_last_11 : decode cX1_last 11 = .ok (.goto 4, 3) := by decide +kernel
theorem dX1_last_14 : decode cX1_last 14 = .ok (.iconst 0, 1) := by decide +kernel
theorem dX1_last_15 : decode cX1_last 15 = .ok (.putfield 24, 3) := by decide +kernel
theorem dX1_last_18 : decode cX1_last 18 = .ok (.aload_n 0, 1) := by decide +kernel
theorem dX1_last_19 : decode cX1_last 19 = .ok (.getfield 24, 3) := by decide +kernel
theorem dX1_last_22 : decode cX1_last 22 = .ok (.ifCond .le 7, 3) := by decide +kernel
theorem dX1_last_25 : decode cX1_last 25 = .ok (.iconst 0, 1) := by decide +kernel
theorem dX1_last_26 : decode cX1_last 26 = .ok (.goto 30, 3) := by decide +kernel
theorem dX1_last_29 : decode cX1_last 29 = .ok (.iload_n 1, 1) := by decide +kernel
theorem dX1_last_30 : decode cX1_last 30 = .ok (.ifCond .ne 10, 3) := by decide +kernel
theorem dX1_last_33 : decode cX1_last 33 = .ok (.aload_n 0, 1) := by decide +kernel
theorem dX1_last_34 : decode cX1_last 34 = .ok (.getfield 73, 3) := by decide +kernel
theorem dX1_last_37 : decode cX1_last 37 = .ok (.goto 19, 3) := by decide +kernel
theorem dX1_last_40 : decode cX1_last 40 = .ok (.iload_n 1, 1) := by decide +kernel
theorem dX1_last_41 : decode cX1_last 41 = .ok (.iconst 1, 1) := by decide +kernel
theorem dX1_last_42 : decode cX1_last 42 = .ok (.if_icmp .ne 10, 3) := by decide +kernel
theorem dX1_last_45 : decode cX1_last 45 = .ok (.aload_n 0, 1) := by decide +kernel
theorem dX1_last_46 : decode cX1_last 46 = .ok (.getfield 76, 3) := by decide +kernel
theorem dX1_last_49 : decode cX1_last 49 = .ok (.goto 7, 3) := by decide +kernel
theorem dX1_last_52 : decode cX1_last 52 = .ok (.aload_n 0, 1) := by decide +kernel
theorem dX1_last_53 : decode cX1_last 53 = .ok (.getfield 59, 3) := by decide +kernel
theorem dX1_last_56 : decode cX1_last 56 = .ok (.ireturn, 1) := by decide +kernel
theorem dX1_compare_0 : decode cX1_compare 0 = .ok (.aload_n 0, 1) := by decide +kernel
theorem dX1_compare_1 : decode cX1_compare 1 = .ok (.iload_n 1, 1) := by decide +kernel
theorem dX1_compare_2 : decode cX1_compare 2 = .ok (.invokestatic 28, 3) := by decide +kernel
theorem dX1_compare_5 : decode cX1_compare 5 = .ok (.ifCond .ne 10, 3) := by decide +kernel
theorem dX1_compare_8 : decode cX1_compare 8 = .ok (.iload_n 2, 1) := by decide +kernel
theorem dX1_compare_9 : decode cX1_compare 9 = .ok (.invokestatic 28, 3) := by decide +kernel
theorem dX1_compare_12 : decode cX1_compare 12 = .ok (.ifCond .eq 7, 3) := by decide +kernel
theorem dX1_compare_15 : decode cX1_compare 15 = .ok (.iconst 1, 1) := by decide +kernel
theorem dX1_compare_16 : decode cX1_compare 16 = .ok (.goto 4, 3) := by decide +kernel
theorem dX1_compare_19 : decode cX1_compare 19 = .ok (.iconst 0, 1) := by decide +kernel
theorem dX1_compare_20 : decode cX1_compare 20 = .ok (.putfield 24, 3) := by decide +kernel
theorem dX1_compare_23 : decode cX1_compare 23 = .ok (.aload_n 0, 1) := by decide +kernel
theorem dX1_compare_24 : decode cX1_compare 24 = .ok (.getfield 24, 3) := by decide +kernel
theorem dX1_compare_27 : decode cX1_compare 27 = .ok (.ifCond .le 5, 3) := by decide +kernel
theorem dX1_compare_30 : decode cX1_compare 30 = .ok (.iconst 0, 1) := by decide +kernel
theorem dX1_compare_31 : decode cX1_compare 31 = .ok (.ireturn, 1) := by decide +kernel
theorem dX1_compare_32 : decode cX1_compare 32 = .ok (.aload_n 0, 1) := by decide +kernel
theorem dX1_compare_33 : decode cX1_compare 33 = .ok (.iload_n 1, 1) := by decide +kernel
theorem dX1_compare_34 : decode cX1_compare 34 = .ok (.invokevirtual 39, 3) := by decide +kernel
theorem dX1_compare_37 : decode cX1_compare 37 = .ok (.iconst 5, 1) := by decide +kernel
theorem dX1_compare_38 : decode cX1_compare 38 = .ok (.if_icmp .eq 12, 3) := by decide +kernel
theorem dX1_compare_41 : decode cX1_compare 41 = .ok (.aload_n 0, 1) := by decide +kernel
theorem dX1_compare_42 : decode cX1_compare 42 = .ok (.iload_n 2, 1) := by decide +kernel
theorem dX1_compare_43 : decode cX1_compare 43 = .ok (.invokevirtual 39, 3) := by decide +kernel
theorem dX1_compare_46 : decode cX1_compare 46 = .ok (.iconst 5, 1) := by decide +kernel
theorem dX1_compare_47 : decode cX1_compare 47 = .ok (.if_icmp .ne 5, 3) := by decide +kernel
theorem dX1_compare_50 : decode cX1_compare 50 = .ok (.iconst 2, 1) := by decide +kernel
theorem dX1_compare_51 : decode cX1_compare 51 = .ok (.ireturn, 1) := by decide +kernel
theorem dX1_compare_52 : decode cX1_compare 52 = .ok (.aload_n 0, 1) := by decide +kernel
theorem dX1_compare_53 : decode cX1_compare 53 = .ok (.iload_n 1, 1) := by decide +kernel
theorem dX1_compare_54 : decode cX1_compare 54 = .ok (.invokevirtual 98, 3) := by decide +kernel
theorem dX1_compare_57 : decode cX1_compare 57 = .ok (.ifCond .eq 7, 3) := by decide +kernel
theorem dX1_compare_60 : decode cX1_compare 60 = .ok (.iconst 0, 1) := by decide +kernel
theorem dX1_compare_61 : decode cX1_compare 61 = .ok (.goto 20, 3) := by decide +kernel
theorem dX1_compare_64 : decode cX1_compare 64 = .ok (.aload_n 0, 1) := by decide +kernel
theorem dX1_compare_65 : decode cX1_compare 65 = .ok (.getfield 13, 3) := by decide +kernel
theorem dX1_compare_68 : decode cX1_compare 68 = .ok (.iload_n 1, 1) := by decide +kernel
theorem dX1_compare_69 : decode cX1_compare 69 = .ok (.iaload, 1) := by decide +kernel
theorem dX1_compare_70 : decode cX1_compare 70 = .ok (.sipush 32767, 3) := by decide +kernel
theorem dX1_compare_73 : decode cX1_compare 73 = .ok (.if_icmp .le 7, 3) := by decide +kernel
theorem dX1_compare_76 : decode cX1_compare 76 = .ok (.iconst (-1), 1) := by decide +kernel
theorem dX1_compare_77 : decode cX1_compare 77 = .ok (.goto 4, 3) := by decide +kernel
theorem dX1_compare_80 : decode cX1_compare 80 = .ok (.iconst 1, 1) := by decide +kernel
theorem dX1_compare_81 : decode cX1_compare 81 = .ok (.istore_n 3, 1) := by decide +kernel
theorem dX1_compare_82 : decode cX1_compare 82 = .ok (.aload_n 0, 1) := by decide +kernel
theorem dX1_compare_83 : decode cX1_compare 83 = .ok (.iload_n 2, 1) := by decide +kernel
theorem dX1_compare_84 : decode cX1_compare 84 = .ok (.invokevirtual 98, 3) := by decide +kernel
theorem dX1_compare_87 : decode cX1_compare 87 = .ok (.ifCond .eq 7, 3) := by decide +kernel
theorem dX1_compare_90 : decode cX1_compare 90 = .ok (.iconst 0, 1) := by decide +kernel
theorem dX1_compare_91 : decode cX1_compare 91 = .ok (.goto 20, 3) := by decide +kernel
theorem dX1_compare_94 : decode cX1_compare 94 = .ok (.aload_n 0, 1) := by decide +kernel
theorem dX1_compare_95 : decode cX1_compare 95 = .ok (.getfield 13, 3) := by decide +kernel
theorem dX1_compare_98 : decode cX1_compare 98 = .ok (.iload_n 2, 1) := by decide +kernel
theorem dX1_compare_99 : decode cX1_compare 99 = .ok (.iaload, 1) := by decide +kernel
theorem dX1_compare_100 : decode cX1_compare 100 = .ok (.sipush 32767, 3) := by decide +kernel
theorem dX1_compare_103 : decode cX1_compare 103 = .ok (.if_icmp .le 7, 3) := by decide +kernel
theorem dX1_compare_106 : decode cX1_compare 106 = .ok (.iconst (-1), 1) := by decide +kernel
theorem dX1_compare_107 : decode cX1_compare 107 = .ok (.goto 4, 3) := by decide +kernel
theorem dX1_compare_110 : decode cX1_compare 110 = .ok (.iconst 1, 1) := by decide +kernel
theorem dX1_compare_111 : decode cX1_compare 111 = .ok (.istore 4, 2) := by decide +kernel
theorem dX1_compare_113 : decode cX1_compare 113 = .ok (.iload_n 3, 1) := by decide +kernel
theorem dX1_compare_114 : decode cX1_compare 114 = .ok (.iload 4, 2) := by decide +kernel
theorem dX1_compare_116 : decode cX1_compare 116 = .ok (.if_icmp .eq 15, 3) := by decide +kernel
theorem dX1_compare_119 : decode cX1_compare 119 = .ok (.iload_n 3, 1) := by decide +kernel
theorem dX1_compare_120 : decode cX1_compare 120 = .ok (.iload 4, 2) := by decide +kernel
theorem dX1_compare_122 : decode cX1_compare 122 = .ok (.if_icmp .ge 7, 3) := by decide +kernel
theorem dX1_compare_125 : decode cX1_compare 125 = .ok (.iconst (-1), 1) := by decide +kernel
theorem dX1_compare_126 : decode cX1_compare 126 = .ok (.goto 4, 3) := by decide +kernel
theorem dX1_compare_129 : decode cX1_compare 129 = .ok (.iconst 1, 1) := by decide +kernel
theorem dX1_compare_130 : decode cX1_compare 130 = .ok (.ireturn, 1) := by decide +kernel
theorem dX1_compare_131 : decode cX1_compare 131 = .ok (.iload_n 3, 1) := by decide +kernel
theorem dX1_compare_132 : decode cX1_compare 132 = .ok (.aload_n 0, 1) := by decide +kernel
theorem dX1_compare_133 : decode cX1_compare 133 = .ok (.iload_n 1, 1) := by decide +kernel
theorem dX1_compare_134 : decode cX1_compare 134 = .ok (.iload_n 2, 1) := by decide +kernel
theorem dX1_compare_135 : decode cX1_compare 135 = .ok (.invokevirtual 101, 3) := by decide +kernel
theorem dX1_compare_138 : decode cX1_compare 138 = .ok (.imul, 1) := by decide +kernel
theorem dX1_compare_139 : decode cX1_compare 139 = .ok (.ireturn, 1) := by decide +kernel
theorem dX1_isNothing_0 : decode cX1_isNothing 0 = .ok (.aload_n 0, 1) := by decide +kernel
theorem dX1_isNothing_1 : decode cX1_isNothing 1 = .ok (.iload_n 1, 1) := by decide +kernel
theorem dX1_isNothing_2 : decode cX1_isNothing 2 = .ok (.invokevirtual 39, 3) := by decide +kernel
theorem dX1_isNothing_5 : decode cX1_isNothing 5 = .ok (.iconst 3, 1) := by decide +kernel
theorem dX1_isNothing_6 : decode cX1_isNothing 6 = .ok (.if_icmp .ge 18, 3) := by decide +kernel
theorem dX1_isNothing_9 : decode cX1_isNothing 9 = .ok (.aload_n 0, 1) := by decide +kernel
theorem dX1_isNothing_10 : decode cX1_isNothing 10 = .ok (.getfield 17, 3) := by decide +kernel
theorem dX1_isNothing_13 : decode cX1_isNothing 13 = .ok (.iload_n 1, 1) := by decide +kernel
theorem dX1_isNothing_14 : decode cX1_isNothing 14 = .ok (.laload, 1) := by decide +kernel
theorem dX1_isNothing_15 : decode cX1_isNothing 15 = .ok (.lconst 0, 1) := by decide +kernel
theorem dX1_isNothing_16 : decode cX1_isNothing 16 = .ok (.lcmp, 1) := by decide +kernel
theorem dX1_isNothing_17 : decode cX1_isNothing 17 = .ok (.ifCond .ne 7, 3) := by decide +kernel
theorem dX1_isNothing_20 : decode cX1_isNothing 20 = .ok (.iconst 1, 1) := by decide +kernel
theorem dX1_isNothing_21 : decode cX1_isNothing 21 = .ok (.goto 4, 3) := by decide +kernel
theorem dX1_isNothing_24 : decode cX1_isNothing 24 = .ok (.iconst 0, 1) := by decide +kernel
theorem dX1_isNothing_25 : decode cX1_isNothing 25 = .ok (.ireturn, 1) := by decide +kernel
theorem dX1_compareSizes_0 : decode cX1_compareSizes 0 = .ok (.aload_n 0, 1) := by decide +kernel
theorem dX1_compareSizes_1 : decode cX1_compareSizes 1 = .ok (.iload_n 1, 1) := by decide +kernel
theorem dX1_compareSizes_2 : decode cX1_compareSizes 2 = .ok (.invokevirtual 39, 3) := by decide +kernel
theorem dX1_compareSizes_5 : decode cX1_compareSizes 5 = .ok (.iconst 4, 1) := by decide +kernel
theorem dX1_compareSizes_6 : decode cX1_compareSizes 6 = .ok (.if_icmp .eq 12, 3) := by decide +kernel
theorem dX1_compareSizes_9 : decode cX1_compareSizes 9 = .ok (.aload_n 0, 1) := by decide +kernel
theorem dX1_compareSizes_10 : decode cX1_compareSizes 10 = .ok (.iload_n 2, 1) := by decide +kernel
theorem dX1_compareSizes_11 : decode cX1_compareSizes 11 = .ok (.invokevirtual 39, 3) := by decide +kernel
theorem dX1_compareSizes_14 : decode cX1_compareSizes 14 = .ok (.iconst 4, 1) := by decide +kernel
theorem dX1_compareSizes_15 : decode cX1_compareSizes 15 = .ok (.if_icmp .ne 33, 3) := by decide +kernel
theorem dX1_compareSizes_18 : decode cX1_compareSizes 18 = .ok (.aload_n 0, 1) := by decide +kernel
theorem dX1_compareSizes_19 : decode cX1_compareSizes 19 = .ok (.iload_n 1, 1) := by decide +kernel
theorem dX1_compareSizes_20 : decode cX1_compareSizes 20 = .ok (.invokevirtual 39, 3) := by decide +kernel
theorem dX1_compareSizes_23 : decode cX1_compareSizes 23 = .ok (.iconst 4, 1) := by decide +kernel
theorem dX1_compareSizes_24 : decode cX1_compareSizes 24 = .ok (.if_icmp .ne 7, 3) := by decide +kernel
theorem dX1_compareSizes_27 : decode cX1_compareSizes 27 = .ok (.iconst 1, 1) := by decide +kernel
theorem dX1_compareSizes_28 : decode cX1_compareSizes 28 = .ok (.goto 4, 3) := by decide +kernel
theorem dX1_compareSizes_31 : decode cX1_compareSizes 31 = .ok (.iconst 0, 1) := by decide +kernel
theorem dX1_compareSizes_32 : decode cX1_compareSizes 32 = .ok (.aload_n 0, 1) := by decide +kernel
theorem dX1_compareSizes_33 : decode cX1_compareSizes 33 = .ok (.iload_n 2, 1) := by decide +kernel
theorem dX1_compareSizes_34 : decode cX1_compareSizes 34 = .ok (.invokevirtual 39, 3) := by decide +kernel
theorem dX1_compareSizes_37 : decode cX1_compareSizes 37 = .ok (.iconst 4, 1) := by decide +kernel
theorem dX1_compareSizes_38 : decode cX1_compareSizes 38 = .ok (.if_icmp .ne 7, 3) := by decide +kernel
theorem dX1_compareSizes_41 : decode cX1_compareSizes 41 = .ok (.iconst 1, 1) := by decide +kernel
theorem dX1_compareSizes_42 : decode cX1_compareSizes 42 = .ok (.goto 4, 3) := by decide +kernel
theorem dX1_compareSizes_45 : decode cX1_compareSizes 45 = .ok (.iconst 0, 1) := by decide +kernel
theorem dX1_compareSizes_46 : decode cX1_compareSizes 46 = .ok (.isub, 1) := by decide +kernel
theorem dX1_compareSizes_47 : decode cX1_compareSizes 47 = .ok (.ireturn, 1) := by decide +kernel
theorem dX1_compareSizes_48 : decode cX1_compareSizes 48 = .ok (.aload_n 0, 1) := by decide +kernel
theorem dX1_compareSizes_49 : decode cX1_compareSizes 49 = .ok (.iload_n 1, 1) := by decide +kernel
theorem dX1_compareSizes_50 : decode cX1_compareSizes 50 = .ok (.invokevirtual 98, 3) := by decide +kernel
theorem dX1_compareSizes_53 : decode cX1_compareSizes 53 = .ok (.ifCond .ne 11, 3) := by decide +kernel
theorem dX1_compareSizes_56 : decode cX1_compareSizes 56 = .ok (.aload_n 0, 1) := by decide +kernel
theorem dX1_compareSizes_57 : decode cX1_compareSizes 57 = .ok (.iload_n 2, 1) := by decide +kernel
theorem dX1_compareSizes_58 : decode cX1_compareSizes 58 = .ok (.invokevirtual 98, 3) := by decide +kernel
theorem dX1_compareSizes_61 : decode cX1_compareSizes 61 = .ok (.ifCond .eq 31, 3) := by decide +kernel
theorem dX1_compareSizes_64 : decode cX1_compareSizes 64 = .ok (.aload_n 0, 1) := by decide +kernel
theorem dX1_compareSizes_65 : decode cX1_compareSizes 65 = .ok (.iload_n 2, 1) := by decide +kernel
theorem dX1_compareSizes_66 : decode cX1_compareSizes 66 = .ok (.invokevirtual 98, 3) := by decide +kernel
theorem dX1_compareSizes_69 : decode cX1_compareSizes 69 = .ok (.ifCond .eq 7, 3) := by decide +kernel
theorem dX1_compareSizes_72 : decode cX1_compareSizes 72 = .ok (.iconst 1, 1) := by decide +kernel
theorem dX1_compareSizes_73 : decode cX1_compareSizes 73 = .ok (.goto 4, 3) := by decide +kernel
theorem dX1_compareSizes_76 : decode cX1_compareSizes 76 = .ok (.iconst 0, 1) := by decide +kernel
theorem dX1_compareSizes_77 : decode cX1_compareSizes 77 = .ok (.aload_n 0, 1) := by decide +kernel
theorem dX1_compareSizes_78 : decode cX1_compareSizes 78 = .ok (.iload_n 1, 1) := by decide +kernel
theorem dX1_compareSizes_79 : decode cX1_compareSizes 79 = .ok (.invokevirtual 98, 3) := by decide +kernel
theorem dX1_compareSizes_82 : decode cX1_compareSizes 82 = .ok (.ifCond .eq 7, 3) := by decide +kernel
theorem dX1_compareSizes_85 : decode cX1_compareSizes 85 = .ok (.iconst 1, 1) := by decide +kernel
theorem dX1_compareSizes_86 : decode cX1_compareSizes 86 = .ok (.goto 4, 3) := by decide +kernel
theorem dX1_compareSizes_89 : decode cX1_compareSizes 89 = .ok (.iconst 0, 1) := by decide +kernel
theorem dX1_compareSizes_90 : decode cX1_compareSizes 90 = .ok (.isub, 1) := by decide +kernel
theorem dX1_compareSizes_91 : decode cX1_compareSizes 91 = .ok (.ireturn, 1) := by decide +kernel
theorem dX1_compareSizes_92 : decode cX1_compareSizes 92 = .ok (.aload_n 0, 1) := by decide +kernel
theorem dX1_compareSizes_93 : decode cX1_compareSizes 93 = .ok (.getfield 17, 3) := by decide +kernel
theorem dX1_compareSizes_96 : decode cX1_compareSizes 96 = .ok (.iload_n 1, 1) := by decide +kernel
theorem dX1_compareSizes_97 : decode cX1_compareSizes 97 = .ok (.laload, 1) := by decide +kernel
theorem dX1_compareSizes_98 : decode cX1_compareSizes 98 = .ok (.lstore_n 3, 1) := by decide +kernel
theorem dX1_compareSizes_99 : decode cX1_compareSizes 99 = .ok (.aload_n 0, 1) := by decide +kernel
theorem dX1_compareSizes_100 : decode cX1_compareSizes 100 = .ok (.iload_n 1, 1) := by decide +kernel
theorem dX1_compareSizes_101 : decode cX1_compareSizes 101 = .ok (.invokevirtual 95, 3) := by decide +kernel
theorem dX1_compareSizes_104 : decode cX1_compareSizes 104 = .ok (.istore 5, 2) := by decide +kernel
theorem dX1_compareSizes_106 : decode cX1_compareSizes 106 = .ok (.aload_n 0, 1) := by decide +kernel
theorem dX1_compareSizes_107 : decode cX1_compareSizes 107 = .ok (.getfield 17, 3) := by decide +kernel
theorem dX1_compareSizes_110 : decode cX1_compareSizes 110 = .ok (.iload_n 2, 1) := by decide +kernel
theorem dX1_compareSizes_111 : decode cX1_compareSizes 111 = .ok (.laload, 1) := by decide +kernel
theorem dX1_compareSizes_112 : decode cX1_compareSizes 112 = .ok (.lstore 6, 2) := by decide +kernel
theorem dX1_compareSizes_114 : decode cX1_compareSizes 114 = .ok (.aload_n 0, 1) := by decide +kernel
theorem dX1_compareSizes_115 : decode cX1_compareSizes 115 = .ok (.iload_n 2, 1) := by decide +kernel
theorem dX1_compareSizes_116 : decode cX1_compareSizes 116 = .ok (.invokevirtual 95, 3) := by decide +kernel
theorem dX1_compareSizes_119 : decode cX1_compareSizes 119 = .ok (.istore 8, 2) := by decide +kernel
theorem dX1_compareSizes_121 : decode cX1_compareSizes 121 = .ok (.lload_n 3, 1) := by decide +kernel
theorem dX1_compareSizes_122 : decode cX1_compareSizes 122 = .ok (.lconst 0, 1) := by decide +kernel
theorem dX1_compareSizes_123 : decode cX1_compareSizes 123 = .ok (.lcmp, 1) := by decide +kernel
theorem dX1_compareSizes_124 : decode cX1_compareSizes 124 = .ok (.ifCond .le 15, 3) := by decide +kernel
theorem dX1_compareSizes_127 : decode cX1_compareSizes 127 = .ok (.ldc2_w 53, 3) := by decide +kernel
theorem dX1_compareSizes_130 : decode cX1_compareSizes 130 = .ok (.lload_n 3, 1) := by decide +kernel
theorem dX1_compareSizes_131 : decode cX1_compareSizes 131 = .ok (.lmul, 1) := by decide +kernel
theorem dX1_compareSizes_132 : decode cX1_compareSizes 132 = .ok (.lstore_n 3, 1) := by decide +kernel
theorem dX1_compareSizes_133 : decode cX1_compareSizes 133 = .ok (.iinc 5 (-1), 3) := by decide +kernel
theorem dX1_compareSizes_136 : decode cX1_compareSizes 136 = .ok (.goto (-15), 3) := by decide +kernel
theorem dX1_compareSizes_139 : decode cX1_compareSizes 139 = .ok (.lload 6, 2) := by decide +kernel
theorem dX1_compareSizes_141 : decode cX1_compareSizes 141 = .ok (.lconst 0, 1) := by decide +kernel
theorem dX1_compareSizes_142 : decode cX1_compareSizes 142 = .ok (.lcmp, 1) := by decide +kernel
theorem dX1_compareSizes_143 : decode cX1_compareSizes 143 = .ok (.ifCond .le 17, 3) := by decide +kernel
theorem dX1_compareSizes_146 : decode cX1_compareSizes 146 = .ok (.ldc2_w 53, 3) := by decide +kernel
theorem dX1_compareSizes_149 : decode cX1_compareSizes 149 = .ok (.lload 6, 2) := by decide +kernel
theorem dX1_compareSizes_151 : decode cX1_compareSizes 151 = .ok (.lmul, 1) := by decide +kernel
theorem dX1_compareSizes_152 : decode cX1_compareSizes 152 = .ok (.lstore 6, 2) := by decide +kernel
theorem dX1_compareSizes_154 : decode cX1_compareSizes 154 = .ok (.iinc 8 (-1), 3) := by decide +kernel
theorem dX1_compareSizes_157 : decode cX1_compareSizes 157 = .ok (.goto (-18), 3) := by decide +kernel
theorem dX1_compareSizes_160 : decode cX1_compareSizes 160 = .ok (.iload 5, 2) := by decide +kernel
theorem dX1_compareSizes_162 : decode cX1_compareSizes 162 = .ok (.iload 8, 2) := by decide +kernel
theorem dX1_compareSizes_164 : decode cX1_compareSizes 164 = .ok (.if_icmp .eq 16, 3) := by decide +kernel
theorem dX1_compareSizes_167 : decode cX1_compareSizes 167 = .ok (.iload 5, 2) := by decide +kernel
theorem dX1_compareSizes_169 : decode cX1_compareSizes 169 = .ok (.iload 8, 2) := by decide +kernel
theorem dX1_compareSizes_171 : decode cX1_compareSizes 171 = .ok (.if_icmp .ge 7, 3) := by decide +kernel
theorem dX1_compareSizes_174 : decode cX1_compareSizes 174 = .ok (.iconst (-1), 1) := by decide +kernel
theorem dX1_compareSizes_175 : decode cX1_compareSizes 175 = .ok (.goto 4, 3) := by decide +kernel
theorem dX1_compareSizes_178 : decode cX1_compareSizes 178 = .ok (.iconst 1, 1) := by decide +kernel
theorem dX1_compareSizes_179 : decode cX1_compareSizes 179 = .ok (.ireturn, 1) := by decide +kernel
theorem dX1_compareSizes_180 : decode cX1_compareSizes 180 = .ok (.lload_n 3, 1) := by decide +kernel
theorem dX1_compareSizes_181 : decode cX1_compareSizes 181 = .ok (.lload 6, 2) := by decide +kernel
theorem dX1_compareSizes_183 : decode cX1_compareSizes 183 = .ok (.lcmp, 1) := by decide +kernel
theorem dX1_compareSizes_184 : decode cX1_compareSizes 184 = .ok (.ifCond .ne 7, 3) := by decide +kernel
theorem dX1_compareSizes_187 : decode cX1_compareSizes 187 = .ok (.iconst 0, 1) := by decide +kernel
theorem dX1_compareSizes_188 : decode cX1_compareSizes 188 = .ok (.goto 15, 3) := by decide +kernel
theorem dX1_compareSizes_191 : decode cX1_compareSizes 191 = .ok (.lload_n 3, 1) := by decide +kernel
theorem dX1_compareSizes_192 : decode cX1_compareSizes 192 = .ok (.lload 6, 2) := by decide +kernel
theorem dX1_compareSizes_194 : decode cX1_compareSizes 194 = .ok (.lcmp, 1) := by decide +kernel
theorem dX1_compareSizes_195 : decode cX1_compareSizes 195 = .ok (.ifCond .ge 7, 3) := by decide +kernel
theorem dX1_compareSizes_198 : decode cX1_compareSizes 198 = .ok (.iconst (-1), 1) := by decide +kernel
theorem dX1_compareSizes_199 : decode cX1_compareSizes 199 = .ok (.goto 4, 3) := by decide +kernel
theorem dX1_compareSizes_202 : decode cX1_compareSizes 202 = .ok (.iconst 1, 1) := by decide +kernel
theorem dX1_compareSizes_203 : decode cX1_compareSizes 203 = .ok (.ireturn, 1) := by decide +kernel
theorem dX1_neighbour_0 : decode cX1_neighbour 0 = .ok (.aload_n 0, 1) := by decide +kernel
theorem dX1_neighbour_1 : decode cX1_neighbour 1 = .ok (.iload_n 1, 1) := by decide +kernel
theorem dX1_neighbour_2 : decode cX1_neighbour 2 = .ok (.invokestatic 28, 3) := by decide +kernel
theorem dX1_neighbour_5 : decode cX1_neighbour 5 = .ok (.ifCond .ne 10, 3) := by decide +kernel
theorem dX1_neighbour_8 : decode cX1_neighbour 8 = .ok (.iload_n 3, 1) := by decide +kernel
theorem dX1_neighbour_9 : decode cX1_neighbour 9 = .ok (.invokestatic 28, 3) := by decide +kernel
theorem dX1_neighbour_12 : decode cX1_neighbour 12 = .ok (.ifCond .eq 7, 3) := by decide +kernel
theorem dX1_neighbour_15 : decode cX1_neighbour 15 = .ok (.iconst 1, 1) := by decide +kernel
theorem dX1_neighbour_16 : decode cX1_neighbour 16 = .ok (.goto 4, 3) := by decide +kernel
theorem dX1_neighbour_19 : decode cX1_neighbour 19 = .ok (.iconst 0, 1) := by decide +kernel
theorem dX1_neighbour_20 : decode cX1_neighbour 20 = .ok (.putfield 24, 3) := by decide +kernel
theorem dX1_neighbour_23 : decode cX1_neighbour 23 = .ok (.aload_n 0, 1) := by decide +kernel
theorem dX1_neighbour_24 : decode cX1_neighbour 24 = .ok (.getfield 24, 3) := by decide +kernel
theorem dX1_neighbour_27 : decode cX1_neighbour 27 = .ok (.ifCond .le 4, 3) := by decide +kernel
theorem dX1_neighbour_30 : decode cX1_neighbour 30 = .ok (.return_, 1) := by decide +kernel
theorem dX1_neighbour_31 : decode cX1_neighbour 31 = .ok (.aload_n 0, 1) := by decide +kernel
theorem dX1_neighbour_32 : decode cX1_neighbour 32 = .ok (.getfield 13, 3) := by decide +kernel
theorem dX1_neighbour_35 : decode cX1_neighbour 35 = .ok (.iload_n 1, 1) := by decide +kernel
theorem dX1_neighbour_36 : decode cX1_neighbour 36 = .ok (.iaload, 1) := by decide +kernel
theorem dX1_neighbour_37 : decode cX1_neighbour 37 = .ok (.sipush 32767, 3) := by decide +kernel
theorem dX1_neighbour_40 : decode cX1_neighbour 40 = .ok (.if_icmp .le 7, 3) := by decide +kernel
theorem dX1_neighbour_43 : decode cX1_neighbour 43 = .ok (.iconst 1, 1) := by decide +kernel
theorem dX1_neighbour_44 : decode cX1_neighbour 44 = .ok (.goto 4, 3) := by decide +kernel
theorem dX1_neighbour_47 : decode cX1_neighbour 47 = .ok (.iconst 0, 1) := by decide +kernel
theorem dX1_neighbour_48 : decode cX1_neighbour 48 = .ok (.istore 4, 2) := by decide +kernel
theorem dX1_neighbour_50 : decode cX1_neighbour 50 = .ok (.aload_n 0, 1) := by decide +kernel
theorem dX1_neighbour_51 : decode cX1_neighbour 51 = .ok (.getfield 13, 3) := by decide +kernel
theorem dX1_neighbour_54 : decode cX1_neighbour 54 = .ok (.iload_n 1, 1) := by decide +kernel
theorem dX1_neighbour_55 : decode cX1_neighbour 55 = .ok (.iaload, 1) := by decide +kernel
theorem dX1_neighbour_56 : decode cX1_neighbour 56 = .ok (.ldc 36, 2) := by decide +kernel
theorem dX1_neighbour_58 : decode cX1_neighbour 58 = .ok (.irem, 1) := by decide +kernel
theorem dX1_neighbour_59 : decode cX1_neighbour 59 = .ok (.istore 5, 2) := by decide +kernel
theorem dX1_neighbour_61 : decode cX1_neighbour 61 = .ok (.aload_n 0, 1) := by decide +kernel
theorem dX1_neighbour_62 : decode cX1_neighbour 62 = .ok (.getfield 17, 3) := by decide +kernel
theorem dX1_neighbour_65 : decode cX1_neighbour 65 = .ok (.iload_n 1, 1) := by decide +kernel
theorem dX1_neighbour_66 : decode cX1_neighbour 66 = .ok (.laload, 1) := by decide +kernel
theorem dX1_neighbour_67 : decode cX1_neighbour 67 = .ok (.lstore 6, 2) := by decide +kernel
theorem dX1_neighbour_69 : decode cX1_neighbour 69 = .ok (.aload_n 0, 1) := by decide +kernel
theorem dX1_neighbour_70 : decode cX1_neighbour 70 = .ok (.iload_n 1, 1) := by decide +kernel
theorem dX1_neighbour_71 : decode cX1_neighbour 71 = .ok (.invokevirtual 39, 3) := by decide +kernel
theorem dX1_neighbour_74 : decode cX1_neighbour 74 = .ok (.iconst 5, 1) := by decide +kernel
theorem dX1_neighbour_75 : decode cX1_neighbour 75 = .ok (.if_icmp .eq 18, 3) := by decide +kernel
theorem dX1_neighbour_78 : decode cX1_neighbour 78 = .ok (.aload_n 0, 1) := by decide +kernel
theorem dX1_neighbour_79 : decode cX1_neighbour 79 = .ok (.iload_n 1, 1) := by decide +kernel
theorem dX1_neighbour_80 : decode cX1_neighbour 80 = .ok (.invokevirtual 39, 3) := by decide +kernel
theorem dX1_neighbour_83 : decode cX1_neighbour 83 = .ok (.iconst 4, 1) := by decide +kernel
theorem dX1_neighbour_84 : decode cX1_neighbour 84 = .ok (.if_icmp .ne 30, 3) := by decide +kernel
theorem dX1_neighbour_87 : decode cX1_neighbour 87 = .ok (.iload 4, 2) := by decide +kernel
theorem dX1_neighbour_89 : decode cX1_neighbour 89 = .ok (.iload_n 2, 1) := by decide +kernel
theorem dX1_neighbour_90 : decode cX1_neighbour 90 = .ok (.if_icmp .eq 24, 3) := by decide +kernel
theorem dX1_neighbour_93 : decode cX1_neighbour 93 = .ok (.aload_n 0, 1) := by decide +kernel
theorem dX1_neighbour_94 : decode cX1_neighbour 94 = .ok (.getfield 13, 3) := by decide +kernel
theorem dX1_neighbour_97 : decode cX1_neighbour 97 = .ok (.iload_n 3, 1) := by decide +kernel
theorem dX1_neighbour_98 : decode cX1_neighbour 98 = .ok (.aload_n 0, 1) := by decide +kernel
theorem dX1_neighbour_99 : decode cX1_neighbour 99 = .ok (.getfield 13, 3) := by decide +kernel
theorem dX1_neighbour_102 : decode cX1_neighbour 102 = .ok (.iload_n 1, 1) := by decide +kernel
theorem dX1_neighbour_103 : decode cX1_neighbour 103 = .ok (.iaload, 1) := by decide +kernel
theorem dX1_neighbour_104 : decode cX1_neighbour 104 = .ok (.iastore, 1) := by decide +kernel
theorem dX1_neighbour_105 : decode cX1_neighbour 105 = .ok (.aload_n 0, 1) := by decide +kernel
theorem dX1_neighbour_106 : decode cX1_neighbour 106 = .ok (.getfield 17, 3) := by decide +kernel
theorem dX1_neighbour_109 : decode cX1_neighbour 109 = .ok (.iload_n 3, 1) := by decide +kernel
theorem dX1_neighbour_110 : decode cX1_neighbour 110 = .ok (.lload 6, 2) := by decide +kernel
theorem dX1_neighbour_112 : decode cX1_neighbour 112 = .ok (.lastore, 1) := by decide +kernel
theorem dX1_neighbour_113 : decode cX1_neighbour 113 = .ok (.return_, 1) := by decide +kernel
theorem dX1_neighbour_114 : decode cX1_neighbour 114 = .ok (.iload 4, 2) := by decide +kernel
theorem dX1_neighbour_116 : decode cX1_neighbour 116 = .ok (.iload_n 2, 1) := by decide +kernel
theorem dX1_neighbour_117 : decode cX1_neighbour 117 = .ok (.if_icmp .eq 7, 3) := by decide +kernel
theorem dX1_neighbour_120 : decode cX1_neighbour 120 = .ok (.iconst 1, 1) := by decide +kernel
theorem dX1_neighbour_121 : decode cX1_neighbour 121 = .ok (.goto 4, 3) := by decide +kernel
theorem dX1_neighbour_124 : decode cX1_neighbour 124 = .ok (.iconst 0, 1) := by decide +kernel
theorem dX1_neighbour_125 : decode cX1_neighbour 125 = .ok (.istore 8, 2) := by decide +kernel
theorem dX1_neighbour_127 : decode cX1_neighbour 127 = .ok (.aload_n 0, 1) := by decide +kernel
theorem dX1_neighbour_128 : decode cX1_neighbour 128 = .ok (.iload_n 1, 1) := by decide +kernel
theorem dX1_neighbour_129 : decode cX1_neighbour 129 = .ok (.invokevirtual 98, 3) := by decide +kernel
theorem dX1_neighbour_132 : decode cX1_neighbour 132 = .ok (.ifCond .eq 23, 3) := by decide +kernel
theorem dX1_neighbour_135 : decode cX1_neighbour 135 = .ok (.iload_n 2, 1) := by decide +kernel
theorem dX1_neighbour_136 : decode cX1_neighbour 136 = .ok (.ifCond .ne 7, 3) := by decide +kernel
theorem dX1_neighbour_139 : decode cX1_neighbour 139 = .ok (.iconst 1, 1) := by decide +kernel
theorem dX1_neighbour_140 : decode cX1_neighbour 140 = .ok (.goto 4, 3) := by decide +kernel
theorem dX1_neighbour_143 : decode cX1_neighbour 143 = .ok (.iconst 0, 1) := by decide +kernel
theorem dX1_neighbour_144 : decode cX1_neighbour 144 = .ok (.istore 4, 2) := by decide +kernel
theorem dX1_neighbour_146 : decode cX1_neighbour 146 = .ok (.iconst 0, 1) := by decide +kernel
theorem dX1_neighbour_147 : decode cX1_neighbour 147 = .ok (.istore 5, 2) := by decide +kernel
theorem dX1_neighbour_149 : decode cX1_neighbour 149 = .ok (.lconst 1, 1) := by decide +kernel
theorem dX1_neighbour_150 : decode cX1_neighbour 150 = .ok (.lstore 6, 2) := by decide +kernel
theorem dX1_neighbour_152 : decode cX1_neighbour 152 = .ok (.goto 128, 3) := by decide +kernel
theorem dX1_neighbour_155 : decode cX1_neighbour 155 = .ok (.aload_n 0, 1) := by decide +kernel
theorem dX1_neighbour_156 : decode cX1_neighbour 156 = .ok (.iload_n 1, 1) := by decide +kernel
theorem dX1_neighbour_157 : decode cX1_neighbour 157 = .ok (.invokevirtual 39, 3) := by decide +kernel
theorem dX1_neighbour_160 : decode cX1_neighbour 160 = .ok (.iconst 4, 1) := by decide +kernel
theorem dX1_neighbour_161 : decode cX1_neighbour 161 = .ok (.if_icmp .ne 8, 3) := by decide +kernel
theorem dX1_neighbour_164 : decode cX1_neighbour 164 = .ok (.ldc2_w 37, 3) := by decide +kernel
theorem dX1_neighbour_167 : decode cX1_neighbour 167 = .ok (.lstore 6, 2) := by decide +kernel
theorem dX1_neighbour_169 : decode cX1_neighbour 169 = .ok (.iload 5, 2) := by decide +kernel
theorem dX1_neighbour_171 : decode cX1_neighbour 171 = .ok (.ifCond .ne 7, 3) := by decide +kernel
theorem dX1_neighbour_174 : decode cX1_neighbour 174 = .ok (.iconst 1, 1) := by decide +kernel
theorem dX1_neighbour_175 : decode cX1_neighbour 175 = .ok (.goto 5, 3) := by decide +kernel
theorem dX1_neighbour_178 : decode cX1_neighbour 178 = .ok (.iload 5, 2) := by decide +kernel
theorem dX1_neighbour_180 : decode cX1_neighbour 180 = .ok (.istore 5, 2) := by decide +kernel
theorem dX1_neighbour_182 : decode cX1_neighbour 182 = .ok (.iload 5, 2) := by decide +kernel
theorem dX1_neighbour_184 : decode cX1_neighbour 184 = .ok (.iconst 1, 1) := by decide +kernel
theorem dX1_neighbour_185 : decode cX1_neighbour 185 = .ok (.if_icmp .le 24, 3) := by decide +kernel
theorem dX1_neighbour_188 : decode cX1_neighbour 188 = .ok (.lload 6, 2) := by decide +kernel
theorem dX1_neighbour_190 : decode cX1_neighbour 190 = .ok (.lconst 0, 1) := by decide +kernel
theorem dX1_neighbour_191 : decode cX1_neighbour 191 = .ok (.lcmp, 1) := by decide +kernel
theorem dX1_neighbour_192 : decode cX1_neighbour 192 = .ok (.ifCond .lt 17, 3) := by decide +kernel
theorem dX1_neighbour_195 : decode cX1_neighbour 195 = .ok (.ldc2_w 53, 3) := by decide +kernel
theorem dX1_neighbour_198 : decode cX1_neighbour 198 = .ok (.lload 6, 2) := by decide +kernel
theorem dX1_neighbour_200 : decode cX1_neighbour 200 = .ok (.lmul, 1) := by decide +kernel
theorem dX1_neighbour_201 : decode cX1_neighbour 201 = .ok (.lstore 6, 2) := by decide +kernel
theorem dX1_neighbour_203 : decode cX1_neighbour 203 = .ok (.iinc 5 (-1), 3) := by decide +kernel
theorem dX1_neighbour_206 : decode cX1_neighbour 206 = .ok (.goto (-24), 3) := by decide +kernel
theorem dX1_neighbour_209 : decode cX1_neighbour 209 = .ok (.iload 8, 2) := by decide +kernel
theorem dX1_neighbour_211 : decode cX1_neighbour 211 = .ok (.ifCond .eq 27, 3) := by decide +kernel
theorem dX1_neighbour_214 : decode cX1_neighbour 214 = .ok (.lload 6, 2) := by decide +kernel
theorem dX1_neighbour_216 : decode cX1_neighbour 216 = .ok (.lconst 1, 1) := by decide +kernel
theorem dX1_neighbour_217 : decode cX1_neighbour 217 = .ok (.ladd, 1) := by decide +kernel
theorem dX1_neighbour_218 : decode cX1_neighbour 218 = .ok (.lstore 6, 2) := by decide +kernel
theorem dX1_neighbour_220 : decode cX1_neighbour 220 = .ok (.lload 6, 2) := by decide +kernel
theorem dX1_neighbour_222 : decode cX1_neighbour 222 = .ok (.lconst 0, 1) := by decide +kernel
theorem dX1_neighbour_223 : decode cX1_neighbour 223 = .ok (.lcmp, 1) := by decide +kernel
theorem dX1_neighbour_224 : decode cX1_neighbour 224 = .ok (.ifCond .ne 41, 3) := by decide +kernel
theorem dX1_neighbour_227 : decode cX1_neighbour 227 = .ok (.ldc2_w 37, 3) := by decide +kernel
theorem dX1_neighbour_230 : decode cX1_neighbour 230 = .ok (.lstore 6, 2) := by decide +kernel
theorem dX1_neighbour_232 : decode cX1_neighbour 232 = .ok (.iinc 5 1, 3) := by decide +kernel
theorem dX1_neighbour_235 : decode cX1_neighbour 235 = .ok (.goto 30, 3) := by decide +kernel
theorem dX1_neighbour_238 : decode cX1_neighbour 238 = .ok (.lload 6, 2) := by decide +kernel
theorem dX1_neighbour_240 : decode cX1_neighbour 240 = .ok (.ldc2_w 37, 3) := by decide +kernel
theorem dX1_neighbour_243 : decode cX1_neighbour 243 = .ok (.lcmp, 1) := by decide +kernel
theorem dX1_neighbour_244 : decode cX1_neighbour 244 = .ok (.ifCond .ne 15, 3) := by decide +kernel
theorem dX1_neighbour_247 : decode cX1_neighbour 247 = .ok (.iload 5, 2) := by decide +kernel
theorem dX1_neighbour_249 : decode cX1_neighbour 249 = .ok (.iconst 1, 1) := by decide +kernel
theorem dX1_neighbour_250 : decode cX1_neighbour 250 = .ok (.if_icmp .le 9, 3) := by decide +kernel
theorem dX1_neighbour_253 : decode cX1_neighbour 253 = .ok (.lconst 0, 1) := by decide +kernel
theorem dX1_neighbour_254 : decode cX1_neighbour 254 = .ok (.lstore 6, 2) := by decide +kernel
theorem dX1_neighbour_256 : decode cX1_neighbour 256 = .ok (.iinc 5 (-1), 3) := by decide +kernel
theorem dX1_neighbour_259 : decode cX1_neighbour 259 = .ok (.lload 6, 2) := by decide +kernel
theorem dX1_neighbour_261 : decode cX1_neighbour 261 = .ok (.lconst 1, 1) := by decide +kernel
theorem dX1_neighbour_262 : decode cX1_neighbour 262 = .ok (.lsub, 1) := by decide +kernel
theorem dX1_neighbour_263 : decode cX1_neighbour 263 = .ok (.lstore 6, 2) := by decide +kernel
theorem dX1_neighbour_265 : decode cX1_neighbour 265 = .ok (.lload 6, 2) := by decide +kernel
theorem dX1_neighbour_267 : decode cX1_neighbour 267 = .ok (.lconst 0, 1) := by decide +kernel
theorem dX1_neighbour_268 : decode cX1_neighbour 268 = .ok (.lcmp, 1) := by decide +kernel
theorem dX1_neighbour_269 : decode cX1_neighbour 269 = .ok (.ifCond .lt 7, 3) := by decide +kernel
theorem dX1_neighbour_272 : decode cX1_neighbour 272 = .ok (.iconst 0, 1) := by decide +kernel
theorem dX1_neighbour_273 : decode cX1_neighbour 273 = .ok (.goto 5, 3) := by decide +kernel
theorem dX1_neighbour_276 : decode cX1_neighbour 276 = .ok (.iload 5, 2) := by decide +kernel
theorem dX1_neighbour_278 : decode cX1_neighbour 278 = .ok (.istore 5, 2) := by decide +kernel
theorem dX1_neighbour_280 : decode cX1_neighbour 280 = .ok (.aload_n 0, 1) := by decide +kernel
theorem dX1_neighbour_281 : decode cX1_neighbour 281 = .ok (.getfield 13, 3) := by decide +kernel
theorem dX1_neighbour_284 : decode cX1_neighbour 284 = .ok (.iload_n 3, 1) := by decide +kernel
theorem dX1_neighbour_285 : decode cX1_neighbour 285 = .ok (.iload 4, 2) := by decide +kernel
theorem dX1_neighbour_287 : decode cX1_neighbour 287 = .ok (.ifCond .eq 8, 3) := by decide +kernel
theorem dX1_neighbour_290 : decode cX1_neighbour 290 = .ok (.ldc 36, 2) := by decide +kernel
theorem dX1_neighbour_292 : decode cX1_neighbour 292 = .ok (.goto 4, 3) := by decide +kernel
theorem dX1_neighbour_295 : decode cX1_neighbour 295 = .ok (.iconst 0, 1) := by decide +kernel
theorem dX1_neighbour_296 : decode cX1_neighbour 296 = .ok (.iload 5, 2) := by decide +kernel
theorem dX1_neighbour_298 : decode cX1_neighbour 298 = .ok (.iadd, 1) := by decide +kernel
theorem dX1_neighbour_299 : decode cX1_neighbour 299 = .ok (.iastore, 1) := by decide +kernel
theorem dX1_neighbour_300 : decode cX1_neighbour 300 = .ok (.aload_n 0, 1) := by decide +kernel
theorem dX1_neighbour_301 : decode cX1_neighbour 301 = .ok (.getfield 17, 3) := by decide +kernel
theorem dX1_neighbour_304 : decode cX1_neighbour 304 = .ok (.iload_n 3, 1) := by decide +kernel
theorem dX1_neighbour_305 : decode cX1_neighbour 305 = .ok (.lload 6, 2) := by decide +kernel
theorem dX1_neighbour_307 : decode cX1_neighbour 307 = .ok (.lastore, 1) := by decide +kernel
theorem dX1_neighbour_308 : decode cX1_neighbour 308 = .ok (.return_, 1) := by decide +kernel
