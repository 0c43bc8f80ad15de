theorem dX7_init_0 : decode cX7_init 0 = .ok (.aload_n 0, 1) := by decide +kernel
theorem dX7_init_1 : decode cX7_init 1 = .ok (.invokespecial 1, 3) := by decide +kernel
theorem dX7_init_4 : decode cX7_init 4 = .ok (.aload_n 0, 1) := by decide +kernel
theorem dX7_init_5 : decode cX7_init 5 = .ok (.bipush 79, 2) := by decide +kernel
theorem dX7_init_7 : decode cX7_init 7 = .ok (.newarray .int, 2) := by decide +kernel
theorem dX7_init_9 : decode cX7_init 9 = .ok (.putfield 7, 3) := by decide +kernel
theorem dX7_init_12 : decode cX7_init 12 = .ok (.aload_n 0, 1) := by decide +kernel
theorem dX7_init_13 : decode cX7_init 13 = .ok (.sipush 474, 3) := by decide +kernel
theorem dX7_init_16 : decode cX7_init 16 = .ok (.newarray .int, 2) := by decide +kernel
theorem dX7_init_18 : decode cX7_init 18 = .ok (.putfield 13, 3) := by decide +kernel
theorem dX7_init_21 : decode cX7_init 21 = .ok (.aload_n 0, 1) := by decide +kernel
theorem dX7_init_22 : decode cX7_init 22 = .ok (.bipush 70, 2) := by decide +kernel
theorem dX7_init_24 : decode cX7_init 24 = .ok (.newarray .int, 2) := by decide +kernel
theorem dX7_init_26 : decode cX7_init 26 = .ok (.putfield 16, 3) := by decide +kernel
theorem dX7_init_29 : decode cX7_init 29 = .ok (.aload_n 0, 1) := by decide +kernel
theorem dX7_init_30 : decode cX7_init 30 = .ok (.sipush 720, 3) := by decide +kernel
theorem dX7_init_33 : decode cX7_init 33 = .ok (.newarray .int, 2) := by decide +kernel
theorem dX7_init_35 : decode cX7_init 35 = .ok (.putfield 19, 3) := by decide +kernel
theorem dX7_init_38 : decode cX7_init 38 = .ok (.aload_n 0, 1) := by decide +kernel
theorem dX7_init_39 : decode cX7_init 39 = .ok (.bipush 6, 2) := by decide +kernel
theorem dX7_init_41 : decode cX7_init 41 = .ok (.newarray .int, 2) := by decide +kernel
theorem dX7_init_43 : decode cX7_init 43 = .ok (.putfield 22, 3) := by decide +kernel
theorem dX7_init_46 : decode cX7_init 46 = .ok (.aload_n 0, 1) := by decide +kernel
theorem dX7_init_47 : decode cX7_init 47 = .ok (.bipush 7, 2) := by decide +kernel
theorem dX7_init_49 : decode cX7_init 49 = .ok (.newarray .int, 2) := by decide +kernel
theorem dX7_init_51 : decode cX7_init 51 = .ok (.putfield 25, 3) := by decide +kernel
theorem dX7_init_54 : decode cX7_init 54 = .ok (.aload_n 0, 1) := by decide +kernel
theorem dX7_init_55 : decode cX7_init 55 = .ok (.bipush 7, 2) := by decide +kernel
theorem dX7_init_57 : decode cX7_init 57 = .ok (.newarray .int, 2) := by decide +kernel
theorem dX7_init_59 : decode cX7_init 59 = .ok (.putfield 28, 3) := by decide +kernel
theorem dX7_init_62 : decode cX7_init 62 = .ok (.aload_n 0, 1) := by decide +kernel
theorem dX7_init_63 : decode cX7_init 63 = .ok (.getfield 7, 3) := by decide +kernel
theorem dX7_init_66 : decode cX7_init 66 = .ok (.iconst 0, 1) := by decide +kernel
theorem dX7_init_67 : decode cX7_init 67 = .ok (.iconst 1, 1) := by decide +kernel
theorem dX7_init_68 : decode cX7_init 68 = .ok (.iastore, 1) := by decide +kernel
theorem dX7_init_69 : decode cX7_init 69 = .ok (.aload_n 0, 1) := by decide +kernel
theorem dX7_init_70 : decode cX7_init 70 = .ok (.getfield 7, 3) := by decide +kernel
theorem dX7_init_73 : decode cX7_init 73 = .ok (.bipush 37, 2) := by decide +kernel
theorem dX7_init_75 : decode cX7_init 75 = .ok (.iconst 1, 1) := by decide +kernel
theorem dX7_init_76 : decode cX7_init 76 = .ok (.iastore, 1) := by decide +kernel
theorem dX7_init_77 : decode cX7_init 77 = .ok (.return_, 1) := by decide +kernel
theorem dX7_within_0 : decode cX7_within 0 = .ok (.iload_n 0, 1) := by decide +kernel
theorem dX7_within_1 : decode cX7_within 1 = .ok (.iload_n 1, 1) := by decide +kernel
theorem dX7_within_2 : decode cX7_within 2 = .ok (.if_icmp .lt 12, 3) := by decide +kernel
theorem dX7_within_5 : decode cX7_within 5 = .ok (.iload_n 0, 1) := by decide +kernel
theorem dX7_within_6 : decode cX7_within 6 = .ok (.iload_n 2, 1) := by decide +kernel
theorem dX7_within_7 : decode cX7_within 7 = .ok (.if_icmp .gt 7, 3) := by decide +kernel
theorem dX7_within_10 : decode cX7_within 10 = .ok (.iconst 1, 1) := by decide +kernel
theorem dX7_within_11 : decode cX7_within 11 = .ok (.goto 4, 3) := by decide +kernel
theorem dX7_within_14 : decode cX7_within 14 = .ok (.iconst 0, 1) := by decide +kernel
theorem dX7_within_15 : decode cX7_within 15 = .ok (.ireturn, 1) := by decide +kernel
theorem dX7_bits_0 : decode cX7_bits 0 = .ok (.iconst 0, 1) := by decide +kernel
theorem dX7_bits_1 : decode cX7_bits 1 = .ok (.istore_n 1, 1) := by decide +kernel
theorem dX7_bits_2 : decode cX7_bits 2 = .ok (.iconst 0, 1) := by decide +kernel
theorem dX7_bits_3 : decode cX7_bits 3 = .ok (.istore_n 2, 1) := by decide +kernel
theorem dX7_bits_4 : decode cX7_bits 4 = .ok (.iload_n 2, 1) := by decide +kernel
theorem dX7_bits_5 : decode cX7_bits 5 = .ok (.bipush 6, 2) := by decide +kernel
theorem dX7_bits_7 : decode cX7_bits 7 = .ok (.if_icmp .ge 17, 3) := by decide +kernel
theorem dX7_bits_10 : decode cX7_bits 10 = .ok (.iload_n 1, 1) := by decide +kernel
theorem dX7_bits_11 : decode cX7_bits 11 = .ok (.iload_n 0, 1) := by decide +kernel
theorem dX7_bits_12 : decode cX7_bits 12 = .ok (.iload_n 2, 1) := by decide +kernel
theorem dX7_bits_13 : decode cX7_bits 13 = .ok (.ishr, 1) := by decide +kernel
theorem dX7_bits_14 : decode cX7_bits 14 = .ok (.iconst 1, 1) := by decide +kernel
theorem dX7_bits_15 : decode cX7_bits 15 = .ok (.iand, 1) := by decide +kernel
theorem dX7_bits_16 : decode cX7_bits 16 = .ok (.iadd, 1) := by decide +kernel
theorem dX7_bits_17 : decode cX7_bits 17 = .ok (.istore_n 1, 1) := by decide +kernel
theorem dX7_bits_18 : decode cX7_bits 18 = .ok (.iinc 2 1, 3) := by decide +kernel
theorem dX7_bits_21 : decode cX7_bits 21 = .ok (.goto (-17), 3) := by decide +kernel
theorem dX7_bits_24 : decode cX7_bits 24 = .ok (.iload_n 1, 1) := by decide +kernel
theorem dX7_bits_25 : decode cX7_bits 25 = .ok (.ireturn, 1) := by decide +kernel
theorem dX7_record_0 : decode cX7_record 0 = .ok (.aload_n 0, 1) := by decide +kernel
theorem dX7_record_1 : decode cX7_record 1 = .ok (.getfield 31, 3) := by decide +kernel
theorem dX7_record_4 : decode cX7_record 4 = .ok (.bipush 6, 2) := by decide +kernel
theorem dX7_record_6 : decode cX7_record 6 = .ok (.if_icmp .ne 43, 3) := by decide +kernel
theorem dX7_record_9 : decode cX7_record 9 = .ok (.iconst 0, 1) := by decide +kernel
theorem dX7_record_10 : decode cX7_record 10 = .ok (.istore_n 1, 1) := by decide +kernel
theorem dX7_record_11 : decode cX7_record 11 = .ok (.iload_n 1, 1) := by decide +kernel
theorem dX7_record_12 : decode cX7_record 12 = .ok (.sipush 395, 3) := by decide +kernel
theorem dX7_record_15 : decode cX7_record 15 = .ok (.if_icmp .ge 24, 3) := by decide +kernel
theorem dX7_record_18 : decode cX7_record 18 = .ok (.aload_n 0, 1) := by decide +kernel
theorem dX7_record_19 : decode cX7_record 19 = .ok (.getfield 13, 3) := by decide +kernel
theorem dX7_record_22 : decode cX7_record 22 = .ok (.iload_n 1, 1) := by decide +kernel
theorem dX7_record_23 : decode cX7_record 23 = .ok (.aload_n 0, 1) := by decide +kernel
theorem dX7_record_24 : decode cX7_record 24 = .ok (.getfield 13, 3) := by decide +kernel
theorem dX7_record_27 : decode cX7_record 27 = .ok (.iload_n 1, 1) := by decide +kernel
theorem dX7_record_28 : decode cX7_record 28 = .ok (.bipush 79, 2) := by decide +kernel
theorem dX7_record_30 : decode cX7_record 30 = .ok (.iadd, 1) := by decide +kernel
theorem dX7_record_31 : decode cX7_record 31 = .ok (.iaload, 1) := by decide +kernel
theorem dX7_record_32 : decode cX7_record 32 = .ok (.iastore, 1) := by decide +kernel
theorem dX7_record_33 : decode cX7_record 33 = .ok (.iinc 1 1, 3) := by decide +kernel
theorem dX7_record_36 : decode cX7_record 36 = .ok (.goto (-25), 3) := by decide +kernel
theorem dX7_record_39 : decode cX7_record 39 = .ok (.aload_n 0, 1) := by decide +kernel
theorem dX7_record_40 : decode cX7_record 40 = .ok (.dup, 1) := by decide +kernel
theorem dX7_record_41 : decode cX7_record 41 = .ok (.getfield 31, 3) := by decide +kernel
theorem dX7_record_44 : decode cX7_record 44 = .ok (.iconst 1, 1) := by decide +kernel
theorem dX7_record_45 : decode cX7_record 45 = .ok (.isub, 1) := by decide +kernel
theorem dX7_record_46 : decode cX7_record 46 = .ok (.putfield 31, 3) := by decide +kernel
theorem dX7_record_49 : decode cX7_record 49 = .ok (.iconst 0, 1) := by decide +kernel
theorem dX7_record_50 : decode cX7_record 50 = .ok (.istore_n 1, 1) := by decide +kernel
theorem dX7_record_51 : decode cX7_record 51 = .ok (.iload_n 1, 1) := by decide +kernel
theorem dX7_record_52 : decode cX7_record 52 = .ok (.bipush 79, 2) := by decide +kernel
theorem dX7_record_54 : decode cX7_record 54 = .ok (.if_icmp .ge 29, 3) := by decide +kernel
theorem dX7_record_57 : decode cX7_record 57 = .ok (.aload_n 0, 1) := by decide +kernel
theorem dX7_record_58 : decode cX7_record 58 = .ok (.getfield 13, 3) := by decide +kernel
theorem dX7_record_61 : decode cX7_record 61 = .ok (.aload_n 0, 1) := by decide +kernel
theorem dX7_record_62 : decode cX7_record 62 = .ok (.getfield 31, 3) := by decide +kernel
theorem dX7_record_65 : decode cX7_record 65 = .ok (.bipush 79, 2) := by decide +kernel
theorem dX7_record_67 : decode cX7_record 67 = .ok (.imul, 1) := by decide +kernel
theorem dX7_record_68 : decode cX7_record 68 = .ok (.iload_n 1, 1) := by decide +kernel
theorem dX7_record_69 : decode cX7_record 69 = .ok (.iadd, 1) := by decide +kernel
theorem dX7_record_70 : decode cX7_record 70 = .ok (.aload_n 0, 1) := by decide +kernel
theorem dX7_record_71 : decode cX7_record 71 = .ok (.getfield 7, 3) := by decide +kernel
theorem dX7_record_74 : decode cX7_record 74 = .ok (.iload_n 1, 1) := by decide +kernel
theorem dX7_record_75 : decode cX7_record 75 = .ok (.iaload, 1) := by decide +kernel
theorem dX7_record_76 : decode cX7_record 76 = .ok (.iastore, 1) := by decide +kernel
theorem dX7_record_77 : decode cX7_record 77 = .ok (.iinc 1 1, 3) := by decide +kernel
theorem dX7_record_80 : decode cX7_record 80 = .ok (.goto (-29), 3) := by decide +kernel
theorem dX7_record_83 : decode cX7_record 83 = .ok (.aload_n 0, 1) := by decide +kernel
theorem dX7_record_84 : decode cX7_record 84 = .ok (.dup, 1) := by decide +kernel
theorem dX7_record_85 : decode cX7_record 85 = .ok (.getfield 31, 3) := by decide +kernel
theorem dX7_record_88 : decode cX7_record 88 = .ok (.iconst 1, 1) := by decide +kernel
theorem dX7_record_89 : decode cX7_record 89 = .ok (.iadd, 1) := by decide +kernel
theorem dX7_record_90 : decode cX7_record 90 = .ok (.putfield 31, 3) := by decide +kernel
theorem dX7_record_93 : decode cX7_record 93 = .ok (.return_, 1) := by decide +kernel
theorem dX7_isElement_0 : decode cX7_isElement 0 = .ok (.iload_n 1, 1) := by decide +kernel
theorem dX7_isElement_1 : decode cX7_isElement 1 = .ok (.iconst 0, 1) := by decide +kernel
theorem dX7_isElement_2 : decode cX7_isElement 2 = .ok (.aload_n 0, 1) := by decide +kernel
theorem dX7_isElement_3 : decode cX7_isElement 3 = .ok (.getfield 7, 3) := by decide +kernel
theorem dX7_isElement_6 : decode cX7_isElement 6 = .ok (.iconst 0, 1) := by decide +kernel
theorem dX7_isElement_7 : decode cX7_isElement 7 = .ok (.iaload, 1) := by decide +kernel
theorem dX7_isElement_8 : decode cX7_isElement 8 = .ok (.iconst 1, 1) := by decide +kernel
theorem dX7_isElement_9 : decode cX7_isElement 9 = .ok (.isub, 1) := by decide +kernel
theorem dX7_isElement_10 : decode cX7_isElement 10 = .ok (.invokestatic 35, 3) := by decide +kernel
theorem dX7_isElement_13 : decode cX7_isElement 13 = .ok (.ireturn, 1) := by decide +kernel
theorem dX7_times_0 : decode cX7_times 0 = .ok (.aload_n 0, 1) := by decide +kernel
theorem dX7_times_1 : decode cX7_times 1 = .ok (.getfield 7, 3) := by decide +kernel
theorem dX7_times_4 : decode cX7_times 4 = .ok (.iconst 1, 1) := by decide +kernel
theorem dX7_times_5 : decode cX7_times 5 = .ok (.bipush 6, 2) := by decide +kernel
theorem dX7_times_7 : decode cX7_times 7 = .ok (.iload_n 1, 1) := by decide +kernel
theorem dX7_times_8 : decode cX7_times 8 = .ok (.imul, 1) := by decide +kernel
theorem dX7_times_9 : decode cX7_times 9 = .ok (.iadd, 1) := by decide +kernel
theorem dX7_times_10 : decode cX7_times 10 = .ok (.iload_n 2, 1) := by decide +kernel
theorem dX7_times_11 : decode cX7_times 11 = .ok (.iadd, 1) := by decide +kernel
theorem dX7_times_12 : decode cX7_times 12 = .ok (.iaload, 1) := by decide +kernel
theorem dX7_times_13 : decode cX7_times 13 = .ok (.ireturn, 1) := by decide +kernel
theorem dX7_setTimes_0 : decode cX7_setTimes 0 = .ok (.aload_n 0, 1) := by decide +kernel
theorem dX7_setTimes_1 : decode cX7_setTimes 1 = .ok (.getfield 7, 3) := by decide +kernel
theorem dX7_setTimes_4 : decode cX7_setTimes 4 = .ok (.iconst 1, 1) := by decide +kernel
theorem dX7_setTimes_5 : decode cX7_setTimes 5 = .ok (.bipush 6, 2) := by decide +kernel
theorem dX7_setTimes_7 : decode cX7_setTimes 7 = .ok (.iload_n 1, 1) := by decide +kernel
theorem dX7_setTimes_8 : decode cX7_setTimes 8 = .ok (.imul, 1) := by decide +kernel
theorem dX7_setTimes_9 : decode cX7_setTimes 9 = .ok (.iadd, 1) := by decide +kernel
theorem dX7_setTimes_10 : decode cX7_setTimes 10 = .ok (.iload_n 2, 1) := by decide +kernel
theorem dX7_setTimes_11 : decode cX7_setTimes 11 = .ok (.iadd, 1) := by decide +kernel
theorem dX7_setTimes_12 : decode cX7_setTimes 12 = .ok (.iload_n 3, 1) := by decide +kernel
theorem dX7_setTimes_13 : decode cX7_setTimes 13 = .ok (.iastore, 1) := by decide +kernel
theorem dX7_setTimes_14 : decode cX7_setTimes 14 = .ok (.return_, 1) := by decide +kernel
theorem dX7_makes_0 : decode cX7_makes 0 = .ok (.aload_n 0, 1) := by decide +kernel
theorem dX7_makes_1 : decode cX7_makes 1 = .ok (.invokevirtual 39, 3) := by decide +kernel
theorem dX7_makes_4 : decode cX7_makes 4 = .ok (.aload_n 0, 1) := by decide +kernel
theorem dX7_makes_5 : decode cX7_makes 5 = .ok (.getfield 7, 3) := by decide +kernel
theorem dX7_makes_8 : decode cX7_makes 8 = .ok (.iconst 0, 1) := by decide +kernel
theorem dX7_makes_9 : decode cX7_makes 9 = .ok (.iaload, 1) := by decide +kernel
theorem dX7_makes_10 : decode cX7_makes 10 = .ok (.istore 4, 2) := by decide +kernel
theorem dX7_makes_12 : decode cX7_makes 12 = .ok (.aload_n 0, 1) := by decide +kernel
theorem dX7_makes_13 : decode cX7_makes 13 = .ok (.getfield 7, 3) := by decide +kernel
theorem dX7_makes_16 : decode cX7_makes 16 = .ok (.iconst 0, 1) := by decide +kernel
theorem dX7_makes_17 : decode cX7_makes 17 = .ok (.iload_n 1, 1) := by decide +kernel
theorem dX7_makes_18 : decode cX7_makes 18 = .ok (.iastore, 1) := by decide +kernel
theorem dX7_makes_19 : decode cX7_makes 19 = .ok (.iconst 0, 1) := by decide +kernel
theorem dX7_makes_20 : decode cX7_makes 20 = .ok (.istore 5, 2) := by decide +kernel
theorem dX7_makes_22 : decode cX7_makes 22 = .ok (.iload 5, 2) := by decide +kernel
theorem dX7_makes_24 : decode cX7_makes 24 = .ok (.bipush 6, 2) := by decide +kernel
theorem dX7_makes_26 : decode cX7_makes 26 = .ok (.if_icmp .ge 68, 3) := by decide +kernel
theorem dX7_makes_29 : decode cX7_makes 29 = .ok (.iconst 0, 1) := by decide +kernel
theorem dX7_makes_30 : decode cX7_makes 30 = .ok (.istore 6, 2) := by decide +kernel
theorem dX7_makes_32 : decode cX7_makes 32 = .ok (.iload 6, 2) := by decide +kernel
theorem dX7_makes_34 : decode cX7_makes 34 = .ok (.bipush 6, 2) := by decide +kernel
theorem dX7_makes_36 : decode cX7_makes 36 = .ok (.if_icmp .ge 52, 3) := by decide +kernel
theorem dX7_makes_39 : decode cX7_makes 39 = .ok (.iload_n 2, 1) := by decide +kernel
theorem dX7_makes_40 : decode cX7_makes 40 = .ok (.iload 5, 2) := by decide +kernel
theorem dX7_makes_42 : decode cX7_makes 42 = .ok (.imul, 1) := by decide +kernel
theorem dX7_makes_43 : decode cX7_makes 43 = .ok (.iload_n 3, 1) := by decide +kernel
theorem dX7_makes_44 : decode cX7_makes 44 = .ok (.iload 6, 2) := by decide +kernel
theorem dX7_makes_46 : decode cX7_makes 46 = .ok (.imul, 1) := by decide +kernel
theorem dX7_makes_47 : decode cX7_makes 47 = .ok (.iadd, 1) := by decide +kernel
theorem dX7_makes_48 : decode cX7_makes 48 = .ok (.iload_n 1, 1) := by decide +kernel
theorem dX7_makes_49 : decode cX7_makes 49 = .ok (.irem, 1) := by decide +kernel
theorem dX7_makes_50 : decode cX7_makes 50 = .ok (.istore 7, 2) := by decide +kernel
theorem dX7_makes_52 : decode cX7_makes 52 = .ok (.aload_n 0, 1) := by decide +kernel
theorem dX7_makes_53 : decode cX7_makes 53 = .ok (.iload 5, 2) := by decide +kernel
theorem dX7_makes_55 : decode cX7_makes 55 = .ok (.iload 6, 2) := by decide +kernel
theorem dX7_makes_57 : decode cX7_makes 57 = .ok (.iload 5, 2) := by decide +kernel
theorem dX7_makes_59 : decode cX7_makes 59 = .ok (.iload_n 1, 1) := by decide +kernel
theorem dX7_makes_60 : decode cX7_makes 60 = .ok (.if_icmp .ge 18, 3) := by decide +kernel
theorem dX7_makes_63 : decode cX7_makes 63 = .ok (.iload 6, 2) := by decide +kernel
theorem dX7_makes_65 : decode cX7_makes 65 = .ok (.iload_n 1, 1) := by decide +kernel
theorem dX7_makes_66 : decode cX7_makes 66 = .ok (.if_icmp .ge 12, 3) := by decide +kernel
theorem dX7_makes_69 : decode cX7_makes 69 = .ok (.iload 7, 2) := by decide +kernel
theorem dX7_makes_71 : decode cX7_makes 71 = .ok (.iload_n 1, 1) := by decide +kernel
theorem dX7_makes_72 : decode cX7_makes 72 = .ok (.iadd, 1) := by decide +kernel
theorem dX7_makes_73 : decode cX7_makes 73 = .ok (.iload_n 1, 1) := by decide +kernel
theorem dX7_makes_74 : decode cX7_makes 74 = .ok (.irem, 1) := by decide +kernel
theorem dX7_makes_75 : decode cX7_makes 75 = .ok (.goto 4, 3) := by decide +kernel
theorem dX7_makes_78 : decode cX7_makes 78 = .ok (.iconst 0, 1) := by decide +kernel
theorem dX7_makes_79 : decode cX7_makes 79 = .ok (.invokevirtual 42, 3) := by decide +kernel
theorem dX7_makes_82 : decode cX7_makes 82 = .ok (.iinc 6 1, 3) := by decide +kernel
theorem dX7_makes_85 : decode cX7_makes 85 = .ok (.goto (-53), 3) := by decide +kernel
theorem dX7_makes_88 : decode cX7_makes 88 = .ok (.iinc 5 1, 3) := by decide +kernel
theorem dX7_makes_91 : decode cX7_makes 91 = .ok (.goto (-69), 3) := by decide +kernel
theorem dX7_makes_94 : decode cX7_makes 94 = .ok (.iload 4, 2) := by decide +kernel
theorem dX7_makes_96 : decode cX7_makes 96 = .ok (.ireturn, 1) := by decide +kernel
theorem dX7_makesTrivial_0 : decode cX7_makesTrivial 0 = .ok (.aload_n 0, 1) := by decide +kernel
theorem dX7_makesTrivial_1 : decode cX7_makesTrivial 1 = .ok (.iload_n 1, 1) := by decide +kernel
theorem dX7_makesTrivial_2 : decode cX7_makesTrivial 2 = .ok (.iconst 1, 1) := by decide +kernel
theorem dX7_makesTrivial_3 : decode cX7_makesTrivial 3 = .ok (.iconst 0, 1) := by decide +kernel
theorem dX7_makesTrivial_4 : decode cX7_makesTrivial 4 = .ok (.invokevirtual 46, 3) := by decide +kernel
theorem dX7_makesTrivial_7 : decode cX7_makesTrivial 7 = .ok (.ireturn, 1) := by decide +kernel
theorem dX7_trivial_0 : decode cX7_trivial 0 = .ok (.iload_n 1, 1) := by decide +kernel
theorem dX7_trivial_1 : decode cX7_trivial 1 = .ok (.iconst 1, 1) := by decide +kernel
theorem dX7_trivial_2 : decode cX7_trivial 2 = .ok (.bipush 6, 2) := by decide +kernel
theorem dX7_trivial_4 : decode cX7_trivial 4 = .ok (.invokestatic 35, 3) := by decide +kernel
theorem dX7_trivial_7 : decode cX7_trivial 7 = .ok (.ifCond .eq 11, 3) := by decide +kernel
theorem dX7_trivial_10 : decode cX7_trivial 10 = .ok (.aload_n 0, 1) := by decide +kernel
theorem dX7_trivial_11 : decode cX7_trivial 11 = .ok (.iload_n 1, 1) := by decide +kernel
theorem dX7_trivial_12 : decode cX7_trivial 12 = .ok (.invokevirtual 50, 3) := by decide +kernel
theorem dX7_trivial_15 : decode cX7_trivial 15 = .ok (.goto 5, 3) := by decide +kernel
theorem dX7_trivial_18 : decode cX7_trivial 18 = .ok (.bipush (-2), 2) := by decide +kernel
theorem dX7_trivial_20 : decode cX7_trivial 20 = .ok (.ireturn, 1) := by decide +kernel
theorem dX7_dihedral_0 : decode cX7_dihedral 0 = .ok (.iload_n 1, 1) := by decide +kernel
theorem dX7_dihedral_1 : decode cX7_dihedral 1 = .ok (.iconst 1, 1) := by decide +kernel
theorem dX7_dihedral_2 : decode cX7_dihedral 2 = .ok (.bipush 6, 2) := by decide +kernel
theorem dX7_dihedral_4 : decode cX7_dihedral 4 = .ok (.invokestatic 35, 3) := by decide +kernel
theorem dX7_dihedral_7 : decode cX7_dihedral 7 = .ok (.ifCond .eq 13, 3) := by decide +kernel
theorem dX7_dihedral_10 : decode cX7_dihedral 10 = .ok (.aload_n 0, 1) := by decide +kernel
theorem dX7_dihedral_11 : decode cX7_dihedral 11 = .ok (.iload_n 1, 1) := by decide +kernel
theorem dX7_dihedral_12 : decode cX7_dihedral 12 = .ok (.iconst (-1), 1) := by decide +kernel
theorem dX7_dihedral_13 : decode cX7_dihedral 13 = .ok (.iconst 2, 1) := by decide +kernel
theorem dX7_dihedral_14 : decode cX7_dihedral 14 = .ok (.invokevirtual 46, 3) := by decide +kernel
theorem dX7_dihedral_17 : decode cX7_dihedral 17 = .ok (.goto 5, 3) := by decide +kernel
theorem dX7_dihedral_20 : decode cX7_dihedral 20 = .ok (.bipush (-2), 2) := by decide +kernel
theorem dX7_dihedral_22 : decode cX7_dihedral 22 = .ok (.ireturn, 1) := by decide +kernel
theorem dX7_linear_0 : decode cX7_linear 0 = .ok (.iload_n 1, 1) := by decide +kernel
theorem dX7_linear_1 : decode cX7_linear 1 = .ok (.iconst 1, 1) := by decide +kernel
theorem dX7_linear_2 : decode cX7_linear 2 = .ok (.bipush 6, 2) := by decide +kernel
theorem dX7_linear_4 : decode cX7_linear 4 = .ok (.invokestatic 35, 3) := by decide +kernel
theorem dX7_linear_7 : decode cX7_linear 7 = .ok (.ifCond .eq 24, 3) := by decide +kernel
theorem dX7_linear_10 : decode cX7_linear 10 = .ok (.iload_n 2, 1) := by decide +kernel
theorem dX7_linear_11 : decode cX7_linear 11 = .ok (.iconst 0, 1) := by decide +kernel
theorem dX7_linear_12 : decode cX7_linear 12 = .ok (.iconst 5, 1) := by decide +kernel
theorem dX7_linear_13 : decode cX7_linear 13 = .ok (.invokestatic 35, 3) := by decide +kernel
theorem dX7_linear_16 : decode cX7_linear 16 = .ok (.ifCond .eq 15, 3) := by decide +kernel
theorem dX7_linear_19 : decode cX7_linear 19 = .ok (.aload_n 0, 1) := by decide +kernel
theorem dX7_linear_20 : decode cX7_linear 20 = .ok (.iload_n 1, 1) := by decide +kernel
theorem dX7_linear_21 : decode cX7_linear 21 = .ok (.iload_n 2, 1) := by decide +kernel
theorem dX7_linear_22 : decode cX7_linear 22 = .ok (.iconst 1, 1) := by decide +kernel
theorem dX7_linear_23 : decode cX7_linear 23 = .ok (.iload_n 2, 1) := by decide +kernel
theorem dX7_linear_24 : decode cX7_linear 24 = .ok (.isub, 1) := by decide +kernel
theorem dX7_linear_25 : decode cX7_linear 25 = .ok (.invokevirtual 46, 3) := by decide +kernel
theorem dX7_linear_28 : decode cX7_linear 28 = .ok (.goto 5, 3) := by decide +kernel
theorem dX7_linear_31 : decode cX7_linear 31 = .ok (.bipush (-2), 2) := by decide +kernel
theorem dX7_linear_33 : decode cX7_linear 33 = .ok (.ireturn, 1) := by decide +kernel
theorem dX7_pairOf_0 : decode cX7_pairOf 0 = .ok (.iload_n 0, 1) := by decide +kernel
theorem dX7_pairOf_1 : decode cX7_pairOf 1 = .ok (.iload_n 1, 1) := by decide +kernel
theorem dX7_pairOf_2 : decode cX7_pairOf 2 = .ok (.if_icmp .ge 7, 3) := by decide +kernel
theorem dX7_pairOf_5 : decode cX7_pairOf 5 = .ok (.iload_n 0, 1) := by decide +kernel
theorem dX7_pairOf_6 : decode cX7_pairOf 6 = .ok (.goto 4, 3) := by decide +kernel
theorem dX7_pairOf_9 : decode cX7_pairOf 9 = .ok (.iload_n 1, 1) := by decide +kernel
theorem dX7_pairOf_10 : decode cX7_pairOf 10 = .ok (.istore_n 3, 1) := by decide +kernel
theorem dX7_pairOf_11 : decode cX7_pairOf 11 = .ok (.iload_n 0, 1) := by decide +kernel
theorem dX7_pairOf_12 : decode cX7_pairOf 12 = .ok (.iload_n 1, 1) := by decide +kernel
theorem dX7_pairOf_13 : decode cX7_pairOf 13 = .ok (.if_icmp .ge 7, 3) := by decide +kernel
theorem dX7_pairOf_16 : decode cX7_pairOf 16 = .ok (.iload_n 1, 1) := by decide +kernel
theorem dX7_pairOf_17 : decode cX7_pairOf 17 = .ok (.goto 4, 3) := by decide +kernel
theorem dX7_pairOf_20 : decode cX7_pairOf 20 = .ok (.iload_n 0, 1) := by decide +kernel
theorem dX7_pairOf_21 : decode cX7_pairOf 21 = .ok (.istore 4, 2) := by decide +kernel
theorem dX7_pairOf_23 : decode cX7_pairOf 23 = .ok (.iload 4, 2) := by decide +kernel
theorem dX7_pairOf_25 : decode cX7_pairOf 25 = .ok (.iload_n 3, 1) := by decide +kernel
theorem dX7_pairOf_26 : decode cX7_pairOf 26 = .ok (.isub, 1) := by decide +kernel
theorem dX7_pairOf_27 : decode cX7_pairOf 27 = .ok (.iconst 1, 1) := by decide +kernel
theorem dX7_pairOf_28 : decode cX7_pairOf 28 = .ok (.isub, 1) := by decide +kernel
theorem dX7_pairOf_29 : decode cX7_pairOf 29 = .ok (.istore 5, 2) := by decide +kernel
theorem dX7_pairOf_31 : decode cX7_pairOf 31 = .ok (.iconst 0, 1) := by decide +kernel
theorem dX7_pairOf_32 : decode cX7_pairOf 32 = .ok (.istore 6, 2) := by decide +kernel
theorem dX7_pairOf_34 : decode cX7_pairOf 34 = .ok (.iload 6, 2) := by decide +kernel
theorem dX7_pairOf_36 : decode cX7_pairOf 36 = .ok (.iload_n 3, 1) := by decide +kernel
theorem dX7_pairOf_37 : decode cX7_pairOf 37 = .ok (.if_icmp .ge 20, 3) := by decide +kernel
theorem dX7_pairOf_40 : decode cX7_pairOf 40 = .ok (.iload 5, 2) := by decide +kernel
theorem dX7_pairOf_42 : decode cX7_pairOf 42 = .ok (.iload_n 2, 1) := by decide +kernel
theorem dX7_pairOf_43 : decode cX7_pairOf 43 = .ok (.iconst 1, 1) := by decide +kernel
theorem dX7_pairOf_44 : decode cX7_pairOf 44 = .ok (.isub, 1) := by decide +kernel
theorem dX7_pairOf_45 : decode cX7_pairOf 45 = .ok (.iload 6, 2) := by decide +kernel
theorem dX7_pairOf_47 : decode cX7_pairOf 47 = .ok (.isub, 1) := by decide +kernel
theorem dX7_pairOf_48 : decode cX7_pairOf 48 = .ok (.iadd, 1) := by decide +kernel
theorem dX7_pairOf_49 : decode cX7_pairOf 49 = .ok (.istore 5, 2) := by decide +kernel
theorem dX7_pairOf_51 : decode cX7_pairOf 51 = .ok (.iinc 6 1, 3) := by decide +kernel
theorem dX7_pairOf_54 : decode cX7_pairOf 54 = .ok (.goto (-20), 3) := by decide +kernel
theorem dX7_pairOf_57 : decode cX7_pairOf 57 = .ok (.iload 5, 2) := by decide +kernel
theorem dX7_pairOf_59 : decode cX7_pairOf 59 = .ok (.ireturn, 1) := by decide +kernel
theorem dX7_replaced_0 : decode cX7_replaced 0 = .ok (.iload_n 0, 1) := by decide +kernel
theorem dX7_replaced_1 : decode cX7_replaced 1 = .ok (.iload_n 1, 1) := by decide +kernel
theorem dX7_replaced_2 : decode cX7_replaced 2 = .ok (.if_icmp .ne 7, 3) := by decide +kernel
theorem dX7_replaced_5 : decode cX7_replaced 5 = .ok (.iload_n 2, 1) := by decide +kernel
theorem dX7_replaced_6 : decode cX7_replaced 6 = .ok (.goto 13, 3) := by decide +kernel
theorem dX7_replaced_9 : decode cX7_replaced 9 = .ok (.iload_n 0, 1) := by decide +kernel
theorem dX7_replaced_10 : decode cX7_replaced 10 = .ok (.iload_n 2, 1) := by decide +kernel
theorem dX7_replaced_11 : decode cX7_replaced 11 = .ok (.if_icmp .ne 7, 3) := by decide +kernel
theorem dX7_replaced_14 : decode cX7_replaced 14 = .ok (.iload_n 1, 1) := by decide +kernel
theorem dX7_replaced_15 : decode cX7_replaced 15 = .ok (.goto 4, 3) := by decide +kernel
theorem dX7_replaced_18 : decode cX7_replaced 18 = .ok (.iload_n 0, 1) := by decide +kernel
theorem dX7_replaced_19 : decode cX7_replaced 19 = .ok (.ireturn, 1) := by decide +kernel
theorem dX7_laysPair_0 : decode cX7_laysPair 0 = .ok (.iload_n 1, 1) := by decide +kernel
theorem dX7_laysPair_1 : decode cX7_laysPair 1 = .ok (.iload_n 2, 1) := by decide +kernel
theorem dX7_laysPair_2 : decode cX7_laysPair 2 = .ok (.iload_n 3, 1) := by decide +kernel
theorem dX7_laysPair_3 : decode cX7_laysPair 3 = .ok (.invokestatic 54, 3) := by decide +kernel
theorem dX7_laysPair_6 : decode cX7_laysPair 6 = .ok (.istore 4, 2) := by decide +kernel
theorem dX7_laysPair_8 : decode cX7_laysPair 8 = .ok (.iconst 0, 1) := by decide +kernel
theorem dX7_laysPair_9 : decode cX7_laysPair 9 = .ok (.istore 5, 2) := by decide +kernel
theorem dX7_laysPair_11 : decode cX7_laysPair 11 = .ok (.iload 5, 2) := by decide +kernel
theorem dX7_laysPair_13 : decode cX7_laysPair 13 = .ok (.iload_n 3, 1) := by decide +kernel
theorem dX7_laysPair_14 : decode cX7_laysPair 14 = .ok (.if_icmp .ge 61, 3) := by decide +kernel
theorem dX7_laysPair_17 : decode cX7_laysPair 17 = .ok (.iload 5, 2) := by decide +kernel
theorem dX7_laysPair_19 : decode cX7_laysPair 19 = .ok (.iconst 1, 1) := by decide +kernel
theorem dX7_laysPair_20 : decode cX7_laysPair 20 = .ok (.iadd, 1) := by decide +kernel
theorem dX7_laysPair_21 : decode cX7_laysPair 21 = .ok (.istore 6, 2) := by decide +kernel
theorem dX7_laysPair_23 : decode cX7_laysPair 23 = .ok (.iload 6, 2) := by decide +kernel
theorem dX7_laysPair_25 : decode cX7_laysPair 25 = .ok (.iload_n 3, 1) := by decide +kernel
theorem dX7_laysPair_26 : decode cX7_laysPair 26 = .ok (.if_icmp .ge 43, 3) := by decide +kernel
theorem dX7_laysPair_29 : decode cX7_laysPair 29 = .ok (.aload_n 0, 1) := by decide +kernel
theorem dX7_laysPair_30 : decode cX7_laysPair 30 = .ok (.iload 4, 2) := by decide +kernel
theorem dX7_laysPair_32 : decode cX7_laysPair 32 = .ok (.iload 5, 2) := by decide +kernel
theorem dX7_laysPair_34 : decode cX7_laysPair 34 = .ok (.iload 6, 2) := by decide +kernel
theorem dX7_laysPair_36 : decode cX7_laysPair 36 = .ok (.iload_n 3, 1) := by decide +kernel
theorem dX7_laysPair_37 : decode cX7_laysPair 37 = .ok (.invokestatic 54, 3) := by decide +kernel
theorem dX7_laysPair_40 : decode cX7_laysPair 40 = .ok (.iload_n 1, 1) := by decide +kernel
theorem dX7_laysPair_41 : decode cX7_laysPair 41 = .ok (.iload 5, 2) := by decide +kernel
theorem dX7_laysPair_43 : decode cX7_laysPair 43 = .ok (.iload 6, 2) := by decide +kernel
theorem dX7_laysPair_45 : decode cX7_laysPair 45 = .ok (.invokestatic 57, 3) := by decide +kernel
theorem dX7_laysPair_48 : decode cX7_laysPair 48 = .ok (.iload_n 2, 1) := by decide +kernel
theorem dX7_laysPair_49 : decode cX7_laysPair 49 = .ok (.iload 5, 2) := by decide +kernel
theorem dX7_laysPair_51 : decode cX7_laysPair 51 = .ok (.iload 6, 2) := by decide +kernel
theorem dX7_laysPair_53 : decode cX7_laysPair 53 = .ok (.invokestatic 57, 3) := by decide +kernel
theorem dX7_laysPair_56 : decode cX7_laysPair 56 = .ok (.iload_n 3, 1) := by decide +kernel
theorem dX7_laysPair_57 : decode cX7_laysPair 57 = .ok (.invokestatic 54, 3) := by decide +kernel
theorem dX7_laysPair_60 : decode cX7_laysPair 60 = .ok (.invokevirtual 42, 3) := by decide +kernel
theorem dX7_laysPair_63 : decode cX7_laysPair 63 = .ok (.iinc 6 1, 3) := by decide +kernel
theorem dX7_laysPair_66 : decode cX7_laysPair 66 = .ok (.goto (-43), 3) := by decide +kernel
theorem dX7_laysPair_69 : decode cX7_laysPair 69 = .ok (.iinc 5 1, 3) := by decide +kernel
theorem dX7_laysPair_72 : decode cX7_laysPair 72 = .ok (.goto (-61), 3) := by decide +kernel
theorem dX7_laysPair_75 : decode cX7_laysPair 75 = .ok (.return_, 1) := by decide +kernel
theorem dX7_transpositions_0 : decode cX7_transpositions 0 = .ok (.iload_n 1, 1) := by decide +kernel
theorem dX7_transpositions_1 : decode cX7_transpositions 1 = .ok (.iconst 2, 1) := by decide +kernel
theorem dX7_transpositions_2 : decode cX7_transpositions 2 = .ok (.iconst 4, 1) := by decide +kernel
theorem dX7_transpositions_3 : decode cX7_transpositions 3 = .ok (.invokestatic 35, 3) := by decide +kernel
theorem dX7_transpositions_6 : decode cX7_transpositions 6 = .ok (.ifCond .ne 6, 3) := by decide +kernel
theorem dX7_transpositions_9 : decode cX7_transpositions 9 = .ok (.bipush (-2), 2) := by decide +kernel
theorem dX7_transpositions_11 : decode cX7_transpositions 11 = .ok (.ireturn, 1) := by decide +kernel
theorem dX7_transpositions_12 : decode cX7_transpositions 12 = .ok (.aload_n 0, 1) := by decide +kernel
theorem dX7_transpositions_13 : decode cX7_transpositions 13 = .ok (.iload_n 1, 1) := by decide +kernel
theorem dX7_transpositions_14 : decode cX7_transpositions 14 = .ok (.iload_n 1, 1) := by decide +kernel
theorem dX7_transpositions_15 : decode cX7_transpositions 15 = .ok (.iconst 1, 1) := by decide +kernel
theorem dX7_transpositions_16 : decode cX7_transpositions 16 = .ok (.isub, 1) := by decide +kernel
theorem dX7_transpositions_17 : decode cX7_transpositions 17 = .ok (.imul, 1) := by decide +kernel
theorem dX7_transpositions_18 : decode cX7_transpositions 18 = .ok (.iconst 2, 1) := by decide +kernel
theorem dX7_transpositions_19 : decode cX7_transpositions 19 = .ok (.idiv, 1) := by decide +kernel
theorem dX7_transpositions_20 : decode cX7_transpositions 20 = .ok (.invokevirtual 50, 3) := by decide +kernel
theorem dX7_transpositions_23 : decode cX7_transpositions 23 = .ok (.pop, 1) := by decide +kernel
theorem dX7_transpositions_24 : decode cX7_transpositions 24 = .ok (.iconst 0, 1) := by decide +kernel
theorem dX7_transpositions_25 : decode cX7_transpositions 25 = .ok (.istore_n 2, 1) := by decide +kernel
theorem dX7_transpositions_26 : decode cX7_transpositions 26 = .ok (.iload_n 2, 1) := by decide +kernel
theorem dX7_transpositions_27 : decode cX7_transpositions 27 = .ok (.iload_n 1, 1) := by decide +kernel
theorem dX7_transpositions_28 : decode cX7_transpositions 28 = .ok (.if_icmp .ge 31, 3) := by decide +kernel
theorem dX7_transpositions_31 : decode cX7_transpositions 31 = .ok (.iload_n 2, 1) := by decide +kernel
theorem dX7_transpositions_32 : decode cX7_transpositions 32 = .ok (.iconst 1, 1) := by decide +kernel
theorem dX7_transpositions_33 : decode cX7_transpositions 33 = .ok (.iadd, 1) := by decide +kernel
theorem dX7_transpositions_34 : decode cX7_transpositions 34 = .ok (.istore_n 3, 1) := by decide +kernel
theorem dX7_transpositions_35 : decode cX7_transpositions 35 = .ok (.iload_n 3, 1) := by decide +kernel
theorem dX7_transpositions_36 : decode cX7_transpositions 36 = .ok (.iload_n 1, 1) := by decide +kernel
theorem dX7_transpositions_37 : decode cX7_transpositions 37 = .ok (.if_icmp .ge 16, 3) := by decide +kernel
theorem dX7_transpositions_40 : decode cX7_transpositions 40 = .ok (.aload_n 0, 1) := by decide +kernel
theorem dX7_transpositions_41 : decode cX7_transpositions 41 = .ok (.iload_n 2, 1) := by decide +kernel
theorem dX7_transpositions_42 : decode cX7_transpositions 42 = .ok (.iload_n 3, 1) := by decide +kernel
theorem dX7_transpositions_43 : decode cX7_transpositions 43 = .ok (.iload_n 1, 1) := by decide +kernel
theorem dX7_transpositions_44 : decode cX7_transpositions 44 = .ok (.invokevirtual 60, 3) := by decide +kernel
theorem dX7_transpositions_47 : decode cX7_transpositions 47 = .ok (.iinc 3 1, 3) := by decide +kernel
theorem dX7_transpositions_50 : decode cX7_transpositions 50 = .ok (.goto (-15), 3) := by decide +kernel
theorem dX7_transpositions_53 : decode cX7_transpositions 53 = .ok (.iinc 2 1, 3) := by decide +kernel
theorem dX7_transpositions_56 : decode cX7_transpositions 56 = .ok (.goto (-30), 3) := by decide +kernel
theorem dX7_transpositions_59 : decode cX7_transpositions 59 = .ok (.aload_n 0, 1) := by decide +kernel
theorem dX7_transpositions_60 : decode cX7_transpositions 60 = .ok (.getfield 7, 3) := by decide +kernel
theorem dX7_transpositions_63 : decode cX7_transpositions 63 = .ok (.iconst 0, 1) := by decide +kernel
theorem dX7_transpositions_64 : decode cX7_transpositions 64 = .ok (.iaload, 1) := by decide +kernel
theorem dX7_transpositions_65 : decode cX7_transpositions 65 = .ok (.ireturn, 1) := by decide +kernel
theorem dX7_setProduct_0 : decode cX7_setProduct 0 = .ok (.aload_n 0, 1) := by decide +kernel
theorem dX7_setProduct_1 : decode cX7_setProduct 1 = .ok (.iload_n 1, 1) := by decide +kernel
theorem dX7_setProduct_2 : decode cX7_setProduct 2 = .ok (.invokevirtual 63, 3) := by decide +kernel
theorem dX7_setProduct_5 : decode cX7_setProduct 5 = .ok (.ifCond .eq 19, 3) := by decide +kernel
theorem dX7_setProduct_8 : decode cX7_setProduct 8 = .ok (.aload_n 0, 1) := by decide +kernel
theorem dX7_setProduct_9 : decode cX7_setProduct 9 = .ok (.iload_n 2, 1) := by decide +kernel
theorem dX7_setProduct_10 : decode cX7_setProduct 10 = .ok (.invokevirtual 63, 3) := by decide +kernel
theorem dX7_setProduct_13 : decode cX7_setProduct 13 = .ok (.ifCond .eq 11, 3) := by decide +kernel
theorem dX7_setProduct_16 : decode cX7_setProduct 16 = .ok (.aload_n 0, 1) := by decide +kernel
theorem dX7_setProduct_17 : decode cX7_setProduct 17 = .ok (.iload_n 3, 1) := by decide +kernel
theorem dX7_setProduct_18 : decode cX7_setProduct 18 = .ok (.invokevirtual 63, 3) := by decide +kernel
theorem dX7_setProduct_21 : decode cX7_setProduct 21 = .ok (.ifCond .ne 5, 3) := by decide +kernel
theorem dX7_setProduct_24 : decode cX7_setProduct 24 = .ok (.iconst (-1), 1) := by decide +kernel
theorem dX7_setProduct_25 : decode cX7_setProduct 25 = .ok (.ireturn, 1) := by decide +kernel
theorem dX7_setProduct_26 : decode cX7_setProduct 26 = .ok (.aload_n 0, 1) := by decide +kernel
theorem dX7_setProduct_27 : decode cX7_setProduct 27 = .ok (.invokevirtual 39, 3) := by decide +kernel
theorem dX7_setProduct_30 : decode cX7_setProduct 30 = .ok (.aload_n 0, 1) := by decide +kernel
theorem dX7_setProduct_31 : decode cX7_setProduct 31 = .ok (.iload_n 1, 1) := by decide +kernel
theorem dX7_setProduct_32 : decode cX7_setProduct 32 = .ok (.iload_n 2, 1) := by decide +kernel
theorem dX7_setProduct_33 : decode cX7_setProduct 33 = .ok (.invokevirtual 67, 3) := by decide +kernel
theorem dX7_setProduct_36 : decode cX7_setProduct 36 = .ok (.istore 4, 2) := by decide +kernel
theorem dX7_setProduct_38 : decode cX7_setProduct 38 = .ok (.aload_n 0, 1) := by decide +kernel
theorem dX7_setProduct_39 : decode cX7_setProduct 39 = .ok (.iload_n 1, 1) := by decide +kernel
theorem dX7_setProduct_40 : decode cX7_setProduct 40 = .ok (.iload_n 2, 1) := by decide +kernel
theorem dX7_setProduct_41 : decode cX7_setProduct 41 = .ok (.iload_n 3, 1) := by decide +kernel
theorem dX7_setProduct_42 : decode cX7_setProduct 42 = .ok (.invokevirtual 42, 3) := by decide +kernel
theorem dX7_setProduct_45 : decode cX7_setProduct 45 = .ok (.iload 4, 2) := by decide +kernel
theorem dX7_setProduct_47 : decode cX7_setProduct 47 = .ok (.ireturn, 1) := by decide +kernel
theorem dX7_dividedBy_0 : decode cX7_dividedBy 0 = .ok (.bipush (-6), 2) := by decide +kernel
theorem dX7_dividedBy_2 : decode cX7_dividedBy 2 = .ok (.istore_n 3, 1) := by decide +kernel
theorem dX7_dividedBy_3 : decode cX7_dividedBy 3 = .ok (.aload_n 0, 1) := by decide +kernel
theorem dX7_dividedBy_4 : decode cX7_dividedBy 4 = .ok (.getfield 7, 3) := by decide +kernel
theorem dX7_dividedBy_7 : decode cX7_dividedBy 7 = .ok (.iconst 0, 1) := by decide +kernel
theorem dX7_dividedBy_8 : decode cX7_dividedBy 8 = .ok (.iaload, 1) := by decide +kernel
theorem dX7_dividedBy_9 : decode cX7_dividedBy 9 = .ok (.iconst 1, 1) := by decide +kernel
theorem dX7_dividedBy_10 : decode cX7_dividedBy 10 = .ok (.isub, 1) := by decide +kernel
theorem dX7_dividedBy_11 : decode cX7_dividedBy 11 = .ok (.istore 4, 2) := by decide +kernel
theorem dX7_dividedBy_13 : decode cX7_dividedBy 13 = .ok (.iload 4, 2) := by decide +kernel
theorem dX7_dividedBy_15 : decode cX7_dividedBy 15 = .ok (.ifCond .lt 27, 3) := by decide +kernel
theorem dX7_dividedBy_18 : decode cX7_dividedBy 18 = .ok (.aload_n 0, 1) := by decide +kernel
theorem dX7_dividedBy_19 : decode cX7_dividedBy 19 = .ok (.iload 4, 2) := by decide +kernel
theorem dX7_dividedBy_21 : decode cX7_dividedBy 21 = .ok (.iload_n 2, 1) := by decide +kernel
theorem dX7_dividedBy_22 : decode cX7_dividedBy 22 = .ok (.invokevirtual 67, 3) := by decide +kernel
theorem dX7_dividedBy_25 : decode cX7_dividedBy 25 = .ok (.iload_n 1, 1) := by decide +kernel
theorem dX7_dividedBy_26 : decode cX7_dividedBy 26 = .ok (.if_icmp .ne 8, 3) := by decide +kernel
theorem dX7_dividedBy_29 : decode cX7_dividedBy 29 = .ok (.iload 4, 2) := by decide +kernel
theorem dX7_dividedBy_31 : decode cX7_dividedBy 31 = .ok (.goto 4, 3) := by decide +kernel
theorem dX7_dividedBy_34 : decode cX7_dividedBy 34 = .ok (.iload_n 3, 1) := by decide +kernel
theorem dX7_dividedBy_35 : decode cX7_dividedBy 35 = .ok (.istore_n 3, 1) := by decide +kernel
theorem dX7_dividedBy_36 : decode cX7_dividedBy 36 = .ok (.iinc 4 (-1), 3) := by decide +kernel
theorem dX7_dividedBy_39 : decode cX7_dividedBy 39 = .ok (.goto (-26), 3) := by decide +kernel
theorem dX7_dividedBy_42 : decode cX7_dividedBy 42 = .ok (.iload_n 3, 1) := by decide +kernel
theorem dX7_dividedBy_43 : decode cX7_dividedBy 43 = .ok (.ireturn, 1) := by decide +kernel
theorem dX7_isPermutation_0 : decode cX7_isPermutation 0 = .ok (.iconst 0, 1) := by decide +kernel
theorem dX7_isPermutation_1 : decode cX7_isPermutation 1 = .ok (.istore_n 2, 1) := by decide +kernel
theorem dX7_isPermutation_2 : decode cX7_isPermutation 2 = .ok (.iconst 0, 1) := by decide +kernel
theorem dX7_isPermutation_3 : decode cX7_isPermutation 3 = .ok (.istore_n 3, 1) := by decide +kernel
theorem dX7_isPermutation_4 : decode cX7_isPermutation 4 = .ok (.iload_n 3, 1) := by decide +kernel
theorem dX7_isPermutation_5 : decode cX7_isPermutation 5 = .ok (.aload_n 0, 1) := by decide +kernel
theorem dX7_isPermutation_6 : decode cX7_isPermutation 6 = .ok (.getfield 7, 3) := by decide +kernel
theorem dX7_isPermutation_9 : decode cX7_isPermutation 9 = .ok (.iconst 0, 1) := by decide +kernel
theorem dX7_isPermutation_10 : decode cX7_isPermutation 10 = .ok (.iaload, 1) := by decide +kernel
theorem dX7_isPermutation_11 : decode cX7_isPermutation 11 = .ok (.if_icmp .ge 20, 3) := by decide +kernel
theorem dX7_isPermutation_14 : decode cX7_isPermutation 14 = .ok (.iload_n 2, 1) := by decide +kernel
theorem dX7_isPermutation_15 : decode cX7_isPermutation 15 = .ok (.iconst 1, 1) := by decide +kernel
theorem dX7_isPermutation_16 : decode cX7_isPermutation 16 = .ok (.aload_n 0, 1) := by decide +kernel
theorem dX7_isPermutation_17 : decode cX7_isPermutation 17 = .ok (.iload_n 3, 1) := by decide +kernel
theorem dX7_isPermutation_18 : decode cX7_isPermutation 18 = .ok (.iload_n 1, 1) := by decide +kernel
theorem dX7_isPermutation_19 : decode cX7_isPermutation 19 = .ok (.invokevirtual 67, 3) := by decide +kernel
theorem dX7_isPermutation_22 : decode cX7_isPermutation 22 = .ok (.ishl, 1) := by decide +kernel
theorem dX7_isPermutation_23 : decode cX7_isPermutation 23 = .ok (.ior, 1) := by decide +kernel
theorem dX7_isPermutation_24 : decode cX7_isPermutation 24 = .ok (.istore_n 2, 1) := by decide +kernel
theorem dX7_isPermutation_25 : decode cX7_isPermutation 25 = .ok (.iinc 3 1, 3) := by decide +kernel
theorem dX7_isPermutation_28 : decode cX7_isPermutation 28 = .ok (.goto (-24), 3) := by decide +kernel
theorem dX7_isPermutation_31 : decode cX7_isPermutation 31 = .ok (.iload_n 2, 1) := by decide +kernel
theorem dX7_isPermutation_32 : decode cX7_isPermutation 32 = .ok (.invokestatic 71, 3) := by decide +kernel
theorem dX7_isPermutation_35 : decode cX7_isPermutation 35 = .ok (.aload_n 0, 1) := by decide +kernel
theorem dX7_isPermutation_36 : decode cX7_isPermutation 36 = .ok (.getfield 7, 3) := by decide +kernel
theorem dX7_isPermutation_39 : decode cX7_isPermutation 39 = .ok (.iconst 0, 1) := by decide +kernel
theorem dX7_isPermutation_40 : decode cX7_isPermutation 40 = .ok (.iaload, 1) := by decide +kernel
theorem dX7_isPermutation_41 : decode cX7_isPermutation 41 = .ok (.if_icmp .ne 7, 3) := by decide +kernel
theorem dX7_isPermutation_44 : decode cX7_isPermutation 44 = .ok (.iconst 1, 1) := by decide +kernel
theorem dX7_isPermutation_45 : decode cX7_isPermutation 45 = .ok (.goto 4, 3) := by decide +kernel
theorem dX7_isPermutation_48 : decode cX7_isPermutation 48 = .ok (.iconst 0, 1) := by decide +kernel
theorem dX7_isPermutation_49 : decode cX7_isPermutation 49 = .ok (.ireturn, 1) := by decide +kernel
theorem dX7_violatesFirst_0 : decode cX7_violatesFirst 0 = .ok (.bipush (-6), 2) := by decide +kernel
theorem dX7_violatesFirst_2 : decode cX7_violatesFirst 2 = .ok (.istore_n 1, 1) := by decide +kernel
theorem dX7_violatesFirst_3 : decode cX7_violatesFirst 3 = .ok (.aload_n 0, 1) := by decide +kernel
theorem dX7_violatesFirst_4 : decode cX7_violatesFirst 4 = .ok (.getfield 7, 3) := by decide +kernel
theorem dX7_violatesFirst_7 : decode cX7_violatesFirst 7 = .ok (.iconst 0, 1) := by decide +kernel
theorem dX7_violatesFirst_8 : decode cX7_violatesFirst 8 = .ok (.iaload, 1) := by decide +kernel
theorem dX7_violatesFirst_9 : decode cX7_violatesFirst 9 = .ok (.iconst 1, 1) := by decide +kernel
theorem dX7_violatesFirst_10 : decode cX7_violatesFirst 10 = .ok (.isub, 1) := by decide +kernel
theorem dX7_violatesFirst_11 : decode cX7_violatesFirst 11 = .ok (.istore_n 2, 1) := by decide +kernel
theorem dX7_violatesFirst_12 : decode cX7_violatesFirst 12 = .ok (.iload_n 2, 1) := by decide +kernel
theorem dX7_violatesFirst_13 : decode cX7_violatesFirst 13 = .ok (.ifCond .lt 25, 3) := by decide +kernel
theorem dX7_violatesFirst_16 : decode cX7_violatesFirst 16 = .ok (.aload_n 0, 1) := by decide +kernel
theorem dX7_violatesFirst_17 : decode cX7_violatesFirst 17 = .ok (.iload_n 2, 1) := by decide +kernel
theorem dX7_violatesFirst_18 : decode cX7_violatesFirst 18 = .ok (.iload_n 2, 1) := by decide +kernel
theorem dX7_violatesFirst_19 : decode cX7_violatesFirst 19 = .ok (.invokevirtual 67, 3) := by decide +kernel
theorem dX7_violatesFirst_22 : decode cX7_violatesFirst 22 = .ok (.iload_n 2, 1) := by decide +kernel
theorem dX7_violatesFirst_23 : decode cX7_violatesFirst 23 = .ok (.if_icmp .ne 7, 3) := by decide +kernel
theorem dX7_violatesFirst_26 : decode cX7_violatesFirst 26 = .ok (.iload_n 1, 1) := by decide +kernel
theorem dX7_violatesFirst_27 : decode cX7_violatesFirst 27 = .ok (.goto 4, 3) := by decide +kernel
theorem dX7_violatesFirst_30 : decode cX7_violatesFirst 30 = .ok (.iload_n 2, 1) := by decide +kernel
theorem dX7_violatesFirst_31 : decode cX7_violatesFirst 31 = .ok (.istore_n 1, 1) := by decide +kernel
theorem dX7_violatesFirst_32 : decode cX7_violatesFirst 32 = .ok (.iinc 2 (-1), 3) := by decide +kernel
theorem dX7_violatesFirst_35 : decode cX7_violatesFirst 35 = .ok (.goto (-23), 3) := by decide +kernel
theorem dX7_violatesFirst_38 : decode cX7_violatesFirst 38 = .ok (.iload_n 1, 1) := by decide +kernel
theorem dX7_violatesFirst_39 : decode cX7_violatesFirst 39 = .ok (.ireturn, 1) := by decide +kernel
theorem dX7_violatesSecond_0 : decode cX7_violatesSecond 0 = .ok (.bipush (-6), 2) := by decide +kernel
theorem dX7_violatesSecond_2 : decode cX7_violatesSecond 2 = .ok (.istore_n 1, 1) := by decide +kernel
theorem dX7_violatesSecond_3 : decode cX7_violatesSecond 3 = .ok (.aload_n 0, 1) := by decide +kernel
theorem dX7_violatesSecond_4 : decode cX7_violatesSecond 4 = .ok (.getfield 7, 3) := by decide +kernel
theorem dX7_violatesSecond_7 : decode cX7_violatesSecond 7 = .ok (.iconst 0, 1) := by decide +kernel
theorem dX7_violatesSecond_8 : decode cX7_violatesSecond 8 = .ok (.iaload, 1) := by decide +kernel
theorem dX7_violatesSecond_9 : decode cX7_violatesSecond 9 = .ok (.iconst 1, 1) := by decide +kernel
theorem dX7_violatesSecond_10 : decode cX7_violatesSecond 10 = .ok (.isub, 1) := by decide +kernel
theorem dX7_violatesSecond_11 : decode cX7_violatesSecond 11 = .ok (.istore_n 2, 1) := by decide +kernel
theorem dX7_violatesSecond_12 : decode cX7_violatesSecond 12 = .ok (.iload_n 2, 1) := by decide +kernel
theorem dX7_violatesSecond_13 : decode cX7_violatesSecond 13 = .ok (.ifCond .lt 23, 3) := by decide +kernel
theorem dX7_violatesSecond_16 : decode cX7_violatesSecond 16 = .ok (.aload_n 0, 1) := by decide +kernel
theorem dX7_violatesSecond_17 : decode cX7_violatesSecond 17 = .ok (.iload_n 2, 1) := by decide +kernel
theorem dX7_violatesSecond_18 : decode cX7_violatesSecond 18 = .ok (.invokevirtual 74, 3) := by decide +kernel
theorem dX7_violatesSecond_21 : decode cX7_violatesSecond 21 = .ok (.ifCond .eq 7, 3) := by decide +kernel
theorem dX7_violatesSecond_24 : decode cX7_violatesSecond 24 = .ok (.iload_n 1, 1) := by decide +kernel
theorem dX7_violatesSecond_25 : decode cX7_violatesSecond 25 = .ok (.goto 4, 3) := by decide +kernel
theorem dX7_violatesSecond_28 : decode cX7_violatesSecond 28 = .ok (.iload_n 2, 1) := by decide +kernel
theorem dX7_violatesSecond_29 : decode cX7_violatesSecond 29 = .ok (.istore_n 1, 1) := by decide +kernel
theorem dX7_violatesSecond_30 : decode cX7_violatesSecond 30 = .ok (.iinc 2 (-1), 3) := by decide +kernel
theorem dX7_violatesSecond_33 : decode cX7_violatesSecond 33 = .ok (.goto (-21), 3) := by decide +kernel
theorem dX7_violatesSecond_36 : decode cX7_violatesSecond 36 = .ok (.iload_n 1, 1) := by decide +kernel
theorem dX7_violatesSecond_37 : decode cX7_violatesSecond 37 = .ok (.ireturn, 1) := by decide +kernel
theorem dX7_violatesThird_0 : decode cX7_violatesThird 0 = .ok (.iconst 0, 1) := by decide +kernel
theorem dX7_violatesThird_1 : decode cX7_violatesThird 1 = .ok (.istore_n 1, 1) := by decide +kernel
theorem dX7_violatesThird_2 : decode cX7_violatesThird 2 = .ok (.iload_n 1, 1) := by decide +kernel
theorem dX7_violatesThird_3 : decode cX7_violatesThird 3 = .ok (.aload_n 0, 1) := by decide +kernel
theorem dX7_violatesThird_4 : decode cX7_violatesThird 4 = .ok (.getfield 7, 3) := by decide +kernel
theorem dX7_violatesThird_7 : decode cX7_violatesThird 7 = .ok (.iconst 0, 1) := by decide +kernel
theorem dX7_violatesThird_8 : decode cX7_violatesThird 8 = .ok (.iaload, 1) := by decide +kernel
theorem dX7_violatesThird_9 : decode cX7_violatesThird 9 = .ok (.if_icmp .ge 87, 3) := by decide +kernel
theorem dX7_violatesThird_12 : decode cX7_violatesThird 12 = .ok (.iconst 0, 1) := by decide +kernel
theorem dX7_violatesThird_13 : decode cX7_violatesThird 13 = .ok (.istore_n 2, 1) := by decide +kernel
theorem dX7_violatesThird_14 : decode cX7_violatesThird 14 = .ok (.iload_n 2, 1) := by decide +kernel
theorem dX7_violatesThird_15 : decode cX7_violatesThird 15 = .ok (.aload_n 0, 1) := by decide +kernel
theorem dX7_violatesThird_16 : decode cX7_violatesThird 16 = .ok (.getfield 7, 3) := by decide +kernel
theorem dX7_violatesThird_19 : decode cX7_violatesThird 19 = .ok (.iconst 0, 1) := by decide +kernel
theorem dX7_violatesThird_20 : decode cX7_violatesThird 20 = .ok (.iaload, 1) := by decide +kernel
theorem dX7_violatesThird_21 : decode cX7_violatesThird 21 = .ok (.if_icmp .ge 69, 3) := by decide +kernel
theorem dX7_violatesThird_24 : decode cX7_violatesThird 24 = .ok (.iconst 0, 1) := by decide +kernel
theorem dX7_violatesThird_25 : decode cX7_violatesThird 25 = .ok (.istore_n 3, 1) := by decide +kernel
theorem dX7_violatesThird_26 : decode cX7_violatesThird 26 = .ok (.iload_n 3, 1) := by decide +kernel
theorem dX7_violatesThird_27 : decode cX7_violatesThird 27 = .ok (.aload_n 0, 1) := by decide +kernel
theorem dX7_violatesThird_28 : decode cX7_violatesThird 28 = .ok (.getfield 7, 3) := by decide +kernel
theorem dX7_violatesThird_31 : decode cX7_violatesThird 31 = .ok (.iconst 0, 1) := by decide +kernel
theorem dX7_violatesThird_32 : decode cX7_violatesThird 32 = .ok (.iaload, 1) := by decide +kernel
theorem dX7_violatesThird_33 : decode cX7_violatesThird 33 = .ok (.if_icmp .ge 51, 3) := by decide +kernel
theorem dX7_violatesThird_36 : decode cX7_violatesThird 36 = .ok (.aload_n 0, 1) := by decide +kernel
theorem dX7_violatesThird_37 : decode cX7_violatesThird 37 = .ok (.aload_n 0, 1) := by decide +kernel
theorem dX7_violatesThird_38 : decode cX7_violatesThird 38 = .ok (.iload_n 1, 1) := by decide +kernel
theorem dX7_violatesThird_39 : decode cX7_violatesThird 39 = .ok (.iload_n 2, 1) := by decide +kernel
theorem dX7_violatesThird_40 : decode cX7_violatesThird 40 = .ok (.invokevirtual 67, 3) := by decide +kernel
theorem dX7_violatesThird_43 : decode cX7_violatesThird 43 = .ok (.iload_n 3, 1) := by decide +kernel
theorem dX7_violatesThird_44 : decode cX7_violatesThird 44 = .ok (.invokevirtual 67, 3) := by decide +kernel
theorem dX7_violatesThird_47 : decode cX7_violatesThird 47 = .ok (.aload_n 0, 1) := by decide +kernel
theorem dX7_violatesThird_48 : decode cX7_violatesThird 48 = .ok (.aload_n 0, 1) := by decide +kernel
theorem dX7_violatesThird_49 : decode cX7_violatesThird 49 = .ok (.iload_n 1, 1) := by decide +kernel
theorem dX7_violatesThird_50 : decode cX7_violatesThird 50 = .ok (.iload_n 3, 1) := by decide +kernel
theorem dX7_violatesThird_51 : decode cX7_violatesThird 51 = .ok (.invokevirtual 67, 3) := by decide +kernel
theorem dX7_violatesThird_54 : decode cX7_violatesThird 54 = .ok (.aload_n 0, 1) := by decide +kernel
theorem dX7_violatesThird_55 : decode cX7_violatesThird 55 = .ok (.iload_n 2, 1) := by decide +kernel
theorem dX7_violatesThird_56 : decode cX7_violatesThird 56 = .ok (.iload_n 3, 1) := by decide +kernel
theorem dX7_violatesThird_57 : decode cX7_violatesThird 57 = .ok (.invokevirtual 67, 3) := by decide +kernel
theorem dX7_violatesThird_60 : decode cX7_violatesThird 60 = .ok (.invokevirtual 67, 3) := by decide +kernel
theorem dX7_violatesThird_63 : decode cX7_violatesThird 63 = .ok (.if_icmp .eq 15, 3) := by decide +kernel
theorem dX7_violatesThird_66 : decode cX7_violatesThird 66 = .ok (.bipush 100, 2) := by decide +kernel
theorem dX7_violatesThird_68 : decode cX7_violatesThird 68 = .ok (.iload_n 1, 1) := by decide +kernel
theorem dX7_violatesThird_69 : decode cX7_violatesThird 69 = .ok (.imul, 1) := by decide +kernel
theorem dX7_violatesThird_70 : decode cX7_violatesThird 70 = .ok (.bipush 10, 2) := by decide +kernel
theorem dX7_violatesThird_72 : decode cX7_violatesThird 72 = .ok (.iload_n 2, 1) := by decide +kernel
theorem dX7_violatesThird_73 : decode cX7_violatesThird 73 = .ok (.imul, 1) := by decide +kernel
theorem dX7_violatesThird_74 : decode cX7_violatesThird 74 = .ok (.iadd, 1) := by decide +kernel
theorem dX7_violatesThird_75 : decode cX7_violatesThird 75 = .ok (.iload_n 3, 1) := by decide +kernel
theorem dX7_violatesThird_76 : decode cX7_violatesThird 76 = .ok (.iadd, 1) := by decide +kernel
theorem dX7_violatesThird_77 : decode cX7_violatesThird 77 = .ok (.ireturn, 1) := by decide +kernel
theorem dX7_violatesThird_78 : decode cX7_violatesThird 78 = .ok (.iinc 3 1, 3) := by decide +kernel
theorem dX7_violatesThird_81 : decode cX7_violatesThird 81 = .ok (.goto (-55), 3) := by decide +kernel
theorem dX7_violatesThird_84 : decode cX7_violatesThird 84 = .ok (.iinc 2 1, 3) := by decide +kernel
theorem dX7_violatesThird_87 : decode cX7_violatesThird 87 = .ok (.goto (-73), 3) := by decide +kernel
theorem dX7_violatesThird_90 : decode cX7_violatesThird 90 = .ok (.iinc 1 1, 3) := by decide +kernel
theorem dX7_violatesThird_93 : decode cX7_violatesThird 93 = .ok (.goto (-91), 3) := by decide +kernel
theorem dX7_violatesThird_96 : decode cX7_violatesThird 96 = .ok (.bipush (-6), 2) := by decide +kernel
theorem dX7_violatesThird_98 : decode cX7_violatesThird 98 = .ok (.ireturn, 1) := by decide +kernel
theorem dX7_violates_0 : decode cX7_violates 0 = .ok (.iload_n 1, 1) := by decide +kernel
theorem dX7_violates_1 : decode cX7_violates 1 = .ok (.iconst 1, 1) := by decide +kernel
theorem dX7_violates_2 : decode cX7_violates 2 = .ok (.if_icmp .ne 10, 3) := by decide +kernel
theorem dX7_violates_5 : decode cX7_violates 5 = .ok (.aload_n 0, 1) := by decide +kernel
theorem dX7_violates_6 : decode cX7_violates 6 = .ok (.invokevirtual 77, 3) := by decide +kernel
theorem dX7_violates_9 : decode cX7_violates 9 = .ok (.goto 19, 3) := by decide +kernel
theorem dX7_violates_12 : decode cX7_violates 12 = .ok (.iload_n 1, 1) := by decide +kernel
theorem dX7_violates_13 : decode cX7_violates 13 = .ok (.iconst 2, 1) := by decide +kernel
theorem dX7_violates_14 : decode cX7_violates 14 = .ok (.if_icmp .ne 10, 3) := by decide +kernel
theorem dX7_violates_17 : decode cX7_violates 17 = .ok (.aload_n 0, 1) := by decide +kernel
theorem dX7_violates_18 : decode cX7_violates 18 = .ok (.invokevirtual 81, 3) := by decide +kernel
theorem dX7_violates_21 : decode cX7_violates 21 = .ok (.goto 7, 3) := by decide +kernel
theorem dX7_violates_24 : decode cX7_violates 24 = .ok (.aload_n 0, 1) := by decide +kernel
theorem dX7_violates_25 : decode cX7_violates 25 = .ok (.invokevirtual 84, 3) := by decide +kernel
theorem dX7_violates_28 : decode cX7_violates 28 = .ok (.ireturn, 1) := by decide +kernel
theorem dX7_invert_0 : decode cX7_invert 0 = .ok (.aload_n 0, 1) := by decide +kernel
theorem dX7_invert_1 : decode cX7_invert 1 = .ok (.invokevirtual 81, 3) := by decide +kernel
theorem dX7_invert_4 : decode cX7_invert 4 = .ok (.bipush (-6), 2) := by decide +kernel
theorem dX7_invert_6 : decode cX7_invert 6 = .ok (.if_icmp .eq 6, 3) := by decide +kernel
theorem dX7_invert_9 : decode cX7_invert 9 = .ok (.bipush (-3), 2) := by decide +kernel
theorem dX7_invert_11 : decode cX7_invert 11 = .ok (.ireturn, 1) := by decide +kernel
theorem dX7_invert_12 : decode cX7_invert 12 = .ok (.aload_n 0, 1) := by decide +kernel
theorem dX7_invert_13 : decode cX7_invert 13 = .ok (.invokevirtual 39, 3) := by decide +kernel
theorem dX7_invert_16 : decode cX7_invert 16 = .ok (.iconst 0, 1) := by decide +kernel
theorem dX7_invert_17 : decode cX7_invert 17 = .ok (.istore_n 1, 1) := by decide +kernel
theorem dX7_invert_18 : decode cX7_invert 18 = .ok (.iconst 0, 1) := by decide +kernel
theorem dX7_invert_19 : decode cX7_invert 19 = .ok (.istore_n 2, 1) := by decide +kernel
theorem dX7_invert_20 : decode cX7_invert 20 = .ok (.iload_n 2, 1) := by decide +kernel
theorem dX7_invert_21 : decode cX7_invert 21 = .ok (.aload_n 0, 1) := by decide +kernel
theorem dX7_invert_22 : decode cX7_invert 22 = .ok (.getfield 7, 3) := by decide +kernel
theorem dX7_invert_25 : decode cX7_invert 25 = .ok (.iconst 0, 1) := by decide +kernel
theorem dX7_invert_26 : decode cX7_invert 26 = .ok (.iaload, 1) := by decide +kernel
theorem dX7_invert_27 : decode cX7_invert 27 = .ok (.if_icmp .ge 92, 3) := by decide +kernel
theorem dX7_invert_30 : decode cX7_invert 30 = .ok (.iconst 0, 1) := by decide +kernel
theorem dX7_invert_31 : decode cX7_invert 31 = .ok (.istore_n 3, 1) := by decide +kernel
theorem dX7_invert_32 : decode cX7_invert 32 = .ok (.iload_n 3, 1) := by decide +kernel
theorem dX7_invert_33 : decode cX7_invert 33 = .ok (.aload_n 0, 1) := by decide +kernel
theorem dX7_invert_34 : decode cX7_invert 34 = .ok (.getfield 7, 3) := by decide +kernel
theorem dX7_invert_37 : decode cX7_invert 37 = .ok (.iconst 0, 1) := by decide +kernel
theorem dX7_invert_38 : decode cX7_invert 38 = .ok (.iaload, 1) := by decide +kernel
theorem dX7_invert_39 : decode cX7_invert 39 = .ok (.if_icmp .ge 21, 3) := by decide +kernel
theorem dX7_invert_42 : decode cX7_invert 42 = .ok (.aload_n 0, 1) := by decide +kernel
theorem dX7_invert_43 : decode cX7_invert 43 = .ok (.getfield 22, 3) := by decide +kernel
theorem dX7_invert_46 : decode cX7_invert 46 = .ok (.iload_n 3, 1) := by decide +kernel
theorem dX7_invert_47 : decode cX7_invert 47 = .ok (.aload_n 0, 1) := by decide +kernel
theorem dX7_invert_48 : decode cX7_invert 48 = .ok (.iload_n 3, 1) := by decide +kernel
theorem dX7_invert_49 : decode cX7_invert 49 = .ok (.iload_n 2, 1) := by decide +kernel
theorem dX7_invert_50 : decode cX7_invert 50 = .ok (.invokevirtual 87, 3) := by decide +kernel
theorem dX7_invert_53 : decode cX7_invert 53 = .ok (.iastore, 1) := by decide +kernel
theorem dX7_invert_54 : decode cX7_invert 54 = .ok (.iinc 3 1, 3) := by decide +kernel
theorem dX7_invert_57 : decode cX7_invert 57 = .ok (.goto (-25), 3) := by decide +kernel
theorem dX7_invert_60 : decode cX7_invert 60 = .ok (.iconst 0, 1) := by decide +kernel
theorem dX7_invert_61 : decode cX7_invert 61 = .ok (.istore_n 3, 1) := by decide +kernel
theorem dX7_invert_62 : decode cX7_invert 62 = .ok (.iload_n 3, 1) := by decide +kernel
theorem dX7_invert_63 : decode cX7_invert 63 = .ok (.aload_n 0, 1) := by decide +kernel
theorem dX7_invert_64 : decode cX7_invert 64 = .ok (.getfield 7, 3) := by decide +kernel
theorem dX7_invert_67 : decode cX7_invert 67 = .ok (.iconst 0, 1) := by decide +kernel
theorem dX7_invert_68 : decode cX7_invert 68 = .ok (.iaload, 1) := by decide +kernel
theorem dX7_invert_69 : decode cX7_invert 69 = .ok (.if_icmp .ge 44, 3) := by decide +kernel
theorem dX7_invert_72 : decode cX7_invert 72 = .ok (.iload_n 1, 1) := by decide +kernel
theorem dX7_invert_73 : decode cX7_invert 73 = .ok (.aload_n 0, 1) := by decide +kernel
theorem dX7_invert_74 : decode cX7_invert 74 = .ok (.iload_n 3, 1) := by decide +kernel
theorem dX7_invert_75 : decode cX7_invert 75 = .ok (.iload_n 2, 1) := by decide +kernel
theorem dX7_invert_76 : decode cX7_invert 76 = .ok (.invokevirtual 67, 3) := by decide +kernel
theorem dX7_invert_79 : decode cX7_invert 79 = .ok (.aload_n 0, 1) := by decide +kernel
theorem dX7_invert_80 : decode cX7_invert 80 = .ok (.getfield 22, 3) := by decide +kernel
theorem dX7_invert_83 : decode cX7_invert 83 = .ok (.iload_n 3, 1) := by decide +kernel
theorem dX7_invert_84 : decode cX7_invert 84 = .ok (.iaload, 1) := by decide +kernel
theorem dX7_invert_85 : decode cX7_invert 85 = .ok (.if_icmp .ne 7, 3) := by decide +kernel
theorem dX7_invert_88 : decode cX7_invert 88 = .ok (.iconst 0, 1) := by decide +kernel
theorem dX7_invert_89 : decode cX7_invert 89 = .ok (.goto 4, 3) := by decide +kernel
theorem dX7_invert_92 : decode cX7_invert 92 = .ok (.iconst 1, 1) := by decide +kernel
theorem dX7_invert_93 : decode cX7_invert 93 = .ok (.iadd, 1) := by decide +kernel
theorem dX7_invert_94 : decode cX7_invert 94 = .ok (.istore_n 1, 1) := by decide +kernel
theorem dX7_invert_95 : decode cX7_invert 95 = .ok (.aload_n 0, 1) := by decide +kernel
theorem dX7_invert_96 : decode cX7_invert 96 = .ok (.iload_n 3, 1) := by decide +kernel
theorem dX7_invert_97 : decode cX7_invert 97 = .ok (.iload_n 2, 1) := by decide +kernel
theorem dX7_invert_98 : decode cX7_invert 98 = .ok (.aload_n 0, 1) := by decide +kernel
theorem dX7_invert_99 : decode cX7_invert 99 = .ok (.getfield 22, 3) := by decide +kernel
theorem dX7_invert_102 : decode cX7_invert 102 = .ok (.iload_n 3, 1) := by decide +kernel
theorem dX7_invert_103 : decode cX7_invert 103 = .ok (.iaload, 1) := by decide +kernel
theorem dX7_invert_104 : decode cX7_invert 104 = .ok (.invokevirtual 42, 3) := by decide +kernel
theorem dX7_invert_107 : decode cX7_invert 107 = .ok (.iinc 3 1, 3) := by decide +kernel
theorem dX7_invert_110 : decode cX7_invert 110 = .ok (.goto (-48), 3) := by decide +kernel
theorem dX7_invert_113 : decode cX7_invert 113 = .ok (.iinc 2 1, 3) := by decide +kernel
theorem dX7_invert_116 : decode cX7_invert 116 = .ok (.goto (-96), 3) := by decide +kernel
theorem dX7_invert_119 : decode cX7_invert 119 = .ok (.iload_n 1, 1) := by decide +kernel
theorem dX7_invert_120 : decode cX7_invert 120 = .ok (.ireturn, 1) := by decide +kernel
theorem dX7_size_0 : decode cX7_size 0 = .ok (.aload_n 0, 1) := by decide +kernel
theorem dX7_size_1 : decode cX7_size 1 = .ok (.getfield 7, 3) := by decide +kernel
theorem dX7_size_4 : decode cX7_size 4 = .ok (.iconst 0, 1) := by decide +kernel
theorem dX7_size_5 : decode cX7_size 5 = .ok (.iaload, 1) := by decide +kernel
theorem dX7_size_6 : decode cX7_size 6 = .ok (.ireturn, 1) := by decide +kernel
theorem dX7_product_0 : decode cX7_product 0 = .ok (.aload_n 0, 1) := by decide +kernel
theorem dX7_product_1 : decode cX7_product 1 = .ok (.iload_n 1, 1) := by decide +kernel
theorem dX7_product_2 : decode cX7_product 2 = .ok (.invokevirtual 63, 3) := by decide +kernel
theorem dX7_product_5 : decode cX7_product 5 = .ok (.ifCond .eq 20, 3) := by decide +kernel
theorem dX7_product_8 : decode cX7_product 8 = .ok (.aload_n 0, 1) := by decide +kernel
theorem dX7_product_9 : decode cX7_product 9 = .ok (.iload_n 2, 1) := by decide +kernel
theorem dX7_product_10 : decode cX7_product 10 = .ok (.invokevirtual 63, 3) := by decide +kernel
theorem dX7_product_13 : decode cX7_product 13 = .ok (.ifCond .eq 12, 3) := by decide +kernel
theorem dX7_product_16 : decode cX7_product 16 = .ok (.aload_n 0, 1) := by decide +kernel
theorem dX7_product_17 : decode cX7_product 17 = .ok (.iload_n 1, 1) := by decide +kernel
theorem dX7_product_18 : decode cX7_product 18 = .ok (.iload_n 2, 1) := by decide +kernel
theorem dX7_product_19 : decode cX7_product 19 = .ok (.invokevirtual 67, 3) := by decide +kernel
theorem dX7_product_22 : decode cX7_product 22 = .ok (.goto 4, 3) := by decide +kernel
theorem dX7_product_25 : decode cX7_product 25 = .ok (.iconst (-1), 1) := by decide +kernel
theorem dX7_product_26 : decode cX7_product 26 = .ok (.ireturn, 1) := by decide +kernel
theorem dX7_quotient_0 : decode cX7_quotient 0 = .ok (.aload_n 0, 1) := by decide +kernel
theorem dX7_quotient_1 : decode cX7_quotient 1 = .ok (.iload_n 1, 1) := by decide +kernel
theorem dX7_quotient_2 : decode cX7_quotient 2 = .ok (.invokevirtual 63, 3) := by decide +kernel
theorem dX7_quotient_5 : decode cX7_quotient 5 = .ok (.ifCond .eq 20, 3) := by decide +kernel
theorem dX7_quotient_8 : decode cX7_quotient 8 = .ok (.aload_n 0, 1) := by decide +kernel
theorem dX7_quotient_9 : decode cX7_quotient 9 = .ok (.iload_n 2, 1) := by decide +kernel
theorem dX7_quotient_10 : decode cX7_quotient 10 = .ok (.invokevirtual 63, 3) := by decide +kernel
theorem dX7_quotient_13 : decode cX7_quotient 13 = .ok (.ifCond .eq 12, 3) := by decide +kernel
theorem dX7_quotient_16 : decode cX7_quotient 16 = .ok (.aload_n 0, 1) := by decide +kernel
theorem dX7_quotient_17 : decode cX7_quotient 17 = .ok (.iload_n 1, 1) := by decide +kernel
theorem dX7_quotient_18 : decode cX7_quotient 18 = .ok (.iload_n 2, 1) := by decide +kernel
theorem dX7_quotient_19 : decode cX7_quotient 19 = .ok (.invokevirtual 87, 3) := by decide +kernel
theorem dX7_quotient_22 : decode cX7_quotient 22 = .ok (.goto 4, 3) := by decide +kernel
theorem dX7_quotient_25 : decode cX7_quotient 25 = .ok (.iconst (-1), 1) := by decide +kernel
theorem dX7_quotient_26 : decode cX7_quotient 26 = .ok (.ireturn, 1) := by decide +kernel
theorem dX7_violation_0 : decode cX7_violation 0 = .ok (.iload_n 1, 1) := by decide +kernel
theorem dX7_violation_1 : decode cX7_violation 1 = .ok (.iconst 1, 1) := by decide +kernel
theorem dX7_violation_2 : decode cX7_violation 2 = .ok (.iconst 3, 1) := by decide +kernel
theorem dX7_violation_3 : decode cX7_violation 3 = .ok (.invokestatic 35, 3) := by decide +kernel
theorem dX7_violation_6 : decode cX7_violation 6 = .ok (.ifCond .eq 11, 3) := by decide +kernel
theorem dX7_violation_9 : decode cX7_violation 9 = .ok (.aload_n 0, 1) := by decide +kernel
theorem dX7_violation_10 : decode cX7_violation 10 = .ok (.iload_n 1, 1) := by decide +kernel
theorem dX7_violation_11 : decode cX7_violation 11 = .ok (.invokevirtual 90, 3) := by decide +kernel
theorem dX7_violation_14 : decode cX7_violation 14 = .ok (.goto 4, 3) := by decide +kernel
theorem dX7_violation_17 : decode cX7_violation 17 = .ok (.iconst (-1), 1) := by decide +kernel
theorem dX7_violation_18 : decode cX7_violation 18 = .ok (.ireturn, 1) := by decide +kernel
theorem dX7_reach_0 : decode cX7_reach 0 = .ok (.aload_n 0, 1) := by decide +kernel
theorem dX7_reach_1 : decode cX7_reach 1 = .ok (.iload_n 1, 1) := by decide +kernel
theorem dX7_reach_2 : decode cX7_reach 2 = .ok (.invokevirtual 63, 3) := by decide +kernel
theorem dX7_reach_5 : decode cX7_reach 5 = .ok (.ifCond .ne 5, 3) := by decide +kernel
theorem dX7_reach_8 : decode cX7_reach 8 = .ok (.iconst (-1), 1) := by decide +kernel
theorem dX7_reach_9 : decode cX7_reach 9 = .ok (.ireturn, 1) := by decide +kernel
theorem dX7_reach_10 : decode cX7_reach 10 = .ok (.iconst 1, 1) := by decide +kernel
theorem dX7_reach_11 : decode cX7_reach 11 = .ok (.iload_n 1, 1) := by decide +kernel
theorem dX7_reach_12 : decode cX7_reach 12 = .ok (.ishl, 1) := by decide +kernel
theorem dX7_reach_13 : decode cX7_reach 13 = .ok (.istore_n 2, 1) := by decide +kernel
theorem dX7_reach_14 : decode cX7_reach 14 = .ok (.iconst 0, 1) := by decide +kernel
theorem dX7_reach_15 : decode cX7_reach 15 = .ok (.istore_n 3, 1) := by decide +kernel
theorem dX7_reach_16 : decode cX7_reach 16 = .ok (.iload_n 3, 1) := by decide +kernel
theorem dX7_reach_17 : decode cX7_reach 17 = .ok (.bipush 6, 2) := by decide +kernel
theorem dX7_reach_19 : decode cX7_reach 19 = .ok (.if_icmp .ge 72, 3) := by decide +kernel
theorem dX7_reach_22 : decode cX7_reach 22 = .ok (.iconst 0, 1) := by decide +kernel
theorem dX7_reach_23 : decode cX7_reach 23 = .ok (.istore 4, 2) := by decide +kernel
theorem dX7_reach_25 : decode cX7_reach 25 = .ok (.iload 4, 2) := by decide +kernel
theorem dX7_reach_27 : decode cX7_reach 27 = .ok (.aload_n 0, 1) := by decide +kernel
theorem dX7_reach_28 : decode cX7_reach 28 = .ok (.getfield 7, 3) := by decide +kernel
theorem dX7_reach_31 : decode cX7_reach 31 = .ok (.iconst 0, 1) := by decide +kernel
theorem dX7_reach_32 : decode cX7_reach 32 = .ok (.iaload, 1) := by decide +kernel
theorem dX7_reach_33 : decode cX7_reach 33 = .ok (.if_icmp .ge 52, 3) := by decide +kernel
theorem dX7_reach_36 : decode cX7_reach 36 = .ok (.iconst 0, 1) := by decide +kernel
theorem dX7_reach_37 : decode cX7_reach 37 = .ok (.istore 5, 2) := by decide +kernel
theorem dX7_reach_39 : decode cX7_reach 39 = .ok (.iload 5, 2) := by decide +kernel
theorem dX7_reach_41 : decode cX7_reach 41 = .ok (.aload_n 0, 1) := by decide +kernel
theorem dX7_reach_42 : decode cX7_reach 42 = .ok (.getfield 7, 3) := by decide +kernel
theorem dX7_reach_45 : decode cX7_reach 45 = .ok (.iconst 0, 1) := by decide +kernel
theorem dX7_reach_46 : decode cX7_reach 46 = .ok (.iaload, 1) := by decide +kernel
theorem dX7_reach_47 : decode cX7_reach 47 = .ok (.if_icmp .ge 32, 3) := by decide +kernel
theorem dX7_reach_50 : decode cX7_reach 50 = .ok (.iload_n 2, 1) := by decide +kernel
theorem dX7_reach_51 : decode cX7_reach 51 = .ok (.iload 4, 2) := by decide +kernel
theorem dX7_reach_53 : decode cX7_reach 53 = .ok (.ishr, 1) := by decide +kernel
theorem dX7_reach_54 : decode cX7_reach 54 = .ok (.iconst 1, 1) := by decide +kernel
theorem dX7_reach_55 : decode cX7_reach 55 = .ok (.iand, 1) := by decide +kernel
theorem dX7_reach_56 : decode cX7_reach 56 = .ok (.iconst 1, 1) := by decide +kernel
theorem dX7_reach_57 : decode cX7_reach 57 = .ok (.if_icmp .ne 22, 3) := by decide +kernel
theorem dX7_reach_60 : decode cX7_reach 60 = .ok (.iload_n 2, 1) := by decide +kernel
theorem dX7_reach_61 : decode cX7_reach 61 = .ok (.iconst 1, 1) := by decide +kernel
theorem dX7_reach_62 : decode cX7_reach 62 = .ok (.aload_n 0, 1) := by decide +kernel
theorem dX7_reach_63 : decode cX7_reach 63 = .ok (.iload 4, 2) := by decide +kernel
theorem dX7_reach_65 : decode cX7_reach 65 = .ok (.iload 5, 2) := by decide +kernel
theorem dX7_reach_67 : decode cX7_reach 67 = .ok (.invokevirtual 67, 3) := by decide +kernel
theorem dX7_reach_70 : decode cX7_reach 70 = .ok (.ishl, 1) := by decide +kernel
theorem dX7_reach_71 : decode cX7_reach 71 = .ok (.ior, 1) := by decide +kernel
theorem dX7_reach_72 : decode cX7_reach 72 = .ok (.istore_n 2, 1) := by decide +kernel
theorem dX7_reach_73 : decode cX7_reach 73 = .ok (.iinc 5 1, 3) := by decide +kernel
theorem dX7_reach_76 : decode cX7_reach 76 = .ok (.goto (-37), 3) := by decide +kernel
theorem dX7_reach_79 : decode cX7_reach 79 = .ok (.iinc 4 1, 3) := by decide +kernel
theorem dX7_reach_82 : decode cX7_reach 82 = .ok (.goto (-57), 3) := by decide +kernel
theorem dX7_reach_85 : decode cX7_reach 85 = .ok (.iinc 3 1, 3) := by decide +kernel
theorem dX7_reach_88 : decode cX7_reach 88 = .ok (.goto (-72), 3) := by decide +kernel
theorem dX7_reach_91 : decode cX7_reach 91 = .ok (.iload_n 2, 1) := by decide +kernel
theorem dX7_reach_92 : decode cX7_reach 92 = .ok (.ireturn, 1) := by decide +kernel
theorem dX7_joins_0 : decode cX7_joins 0 = .ok (.aload_n 0, 1) := by decide +kernel
theorem dX7_joins_1 : decode cX7_joins 1 = .ok (.getfield 25, 3) := by decide +kernel
theorem dX7_joins_4 : decode cX7_joins 4 = .ok (.iload_n 1, 1) := by decide +kernel
theorem dX7_joins_5 : decode cX7_joins 5 = .ok (.iaload, 1) := by decide +kernel
theorem dX7_joins_6 : decode cX7_joins 6 = .ok (.aload_n 0, 1) := by decide +kernel
theorem dX7_joins_7 : decode cX7_joins 7 = .ok (.getfield 25, 3) := by decide +kernel
theorem dX7_joins_10 : decode cX7_joins 10 = .ok (.iload_n 2, 1) := by decide +kernel
theorem dX7_joins_11 : decode cX7_joins 11 = .ok (.iaload, 1) := by decide +kernel
theorem dX7_joins_12 : decode cX7_joins 12 = .ok (.if_icmp .ge 12, 3) := by decide +kernel
theorem dX7_joins_15 : decode cX7_joins 15 = .ok (.aload_n 0, 1) := by decide +kernel
theorem dX7_joins_16 : decode cX7_joins 16 = .ok (.getfield 25, 3) := by decide +kernel
theorem dX7_joins_19 : decode cX7_joins 19 = .ok (.iload_n 1, 1) := by decide +kernel
theorem dX7_joins_20 : decode cX7_joins 20 = .ok (.iaload, 1) := by decide +kernel
theorem dX7_joins_21 : decode cX7_joins 21 = .ok (.goto 9, 3) := by decide +kernel
theorem dX7_joins_24 : decode cX7_joins 24 = .ok (.aload_n 0, 1) := by decide +kernel
theorem dX7_joins_25 : decode cX7_joins 25 = .ok (.getfield 25, 3) := by decide +kernel
theorem dX7_joins_28 : decode cX7_joins 28 = .ok (.iload_n 2, 1) := by decide +kernel
theorem dX7_joins_29 : decode cX7_joins 29 = .ok (.iaload, 1) := by decide +kernel
theorem dX7_joins_30 : decode cX7_joins 30 = .ok (.istore 4, 2) := by decide +kernel
theorem dX7_joins_32 : decode cX7_joins 32 = .ok (.aload_n 0, 1) := by decide +kernel
theorem dX7_joins_33 : decode cX7_joins 33 = .ok (.getfield 25, 3) := by decide +kernel
theorem dX7_joins_36 : decode cX7_joins 36 = .ok (.iload_n 1, 1) := by decide +kernel
theorem dX7_joins_37 : decode cX7_joins 37 = .ok (.iaload, 1) := by decide +kernel
theorem dX7_joins_38 : decode cX7_joins 38 = .ok (.aload_n 0, 1) := by decide +kernel
theorem dX7_joins_39 : decode cX7_joins 39 = .ok (.getfield 25, 3) := by decide +kernel
theorem dX7_joins_42 : decode cX7_joins 42 = .ok (.iload_n 2, 1) := by decide +kernel
theorem dX7_joins_43 : decode cX7_joins 43 = .ok (.iaload, 1) := by decide +kernel
theorem dX7_joins_44 : decode cX7_joins 44 = .ok (.if_icmp .ge 12, 3) := by decide +kernel
theorem dX7_joins_47 : decode cX7_joins 47 = .ok (.aload_n 0, 1) := by decide +kernel
theorem dX7_joins_48 : decode cX7_joins 48 = .ok (.getfield 25, 3) := by decide +kernel
theorem dX7_joins_51 : decode cX7_joins 51 = .ok (.iload_n 2, 1) := by decide +kernel
theorem dX7_joins_52 : decode cX7_joins 52 = .ok (.iaload, 1) := by decide +kernel
theorem dX7_joins_53 : decode cX7_joins 53 = .ok (.goto 9, 3) := by decide +kernel
theorem dX7_joins_56 : decode cX7_joins 56 = .ok (.aload_n 0, 1) := by decide +kernel
theorem dX7_joins_57 : decode cX7_joins 57 = .ok (.getfield 25, 3) := by decide +kernel
theorem dX7_joins_60 : decode cX7_joins 60 = .ok (.iload_n 1, 1) := by decide +kernel
theorem dX7_joins_61 : decode cX7_joins 61 = .ok (.iaload, 1) := by decide +kernel
theorem dX7_joins_62 : decode cX7_joins 62 = .ok (.istore 5, 2) := by decide +kernel
theorem dX7_joins_64 : decode cX7_joins 64 = .ok (.iconst 0, 1) := by decide +kernel
theorem dX7_joins_65 : decode cX7_joins 65 = .ok (.istore 6, 2) := by decide +kernel
theorem dX7_joins_67 : decode cX7_joins 67 = .ok (.iload 6, 2) := by decide +kernel
theorem dX7_joins_69 : decode cX7_joins 69 = .ok (.iload_n 3, 1) := by decide +kernel
theorem dX7_joins_70 : decode cX7_joins 70 = .ok (.if_icmp .ge 40, 3) := by decide +kernel
theorem dX7_joins_73 : decode cX7_joins 73 = .ok (.aload_n 0, 1) := by decide +kernel
theorem dX7_joins_74 : decode cX7_joins 74 = .ok (.getfield 25, 3) := by decide +kernel
theorem dX7_joins_77 : decode cX7_joins 77 = .ok (.iload 6, 2) := by decide +kernel
theorem dX7_joins_79 : decode cX7_joins 79 = .ok (.aload_n 0, 1) := by decide +kernel
theorem dX7_joins_80 : decode cX7_joins 80 = .ok (.getfield 25, 3) := by decide +kernel
theorem dX7_joins_83 : decode cX7_joins 83 = .ok (.iload 6, 2) := by decide +kernel
theorem dX7_joins_85 : decode cX7_joins 85 = .ok (.iaload, 1) := by decide +kernel
theorem dX7_joins_86 : decode cX7_joins 86 = .ok (.iload 5, 2) := by decide +kernel
theorem dX7_joins_88 : decode cX7_joins 88 = .ok (.if_icmp .ne 8, 3) := by decide +kernel
theorem dX7_joins_91 : decode cX7_joins 91 = .ok (.iload 4, 2) := by decide +kernel
theorem dX7_joins_93 : decode cX7_joins 93 = .ok (.goto 10, 3) := by decide +kernel
theorem dX7_joins_96 : decode cX7_joins 96 = .ok (.aload_n 0, 1) := by decide +kernel
theorem dX7_joins_97 : decode cX7_joins 97 = .ok (.getfield 25, 3) := by decide +kernel
theorem dX7_joins_100 : decode cX7_joins 100 = .ok (.iload 6, 2) := by decide +kernel
theorem dX7_joins_102 : decode cX7_joins 102 = .ok (.iaload, 1) := by decide +kernel
theorem dX7_joins_103 : decode cX7_joins 103 = .ok (.iastore, 1) := by decide +kernel
theorem dX7_joins_104 : decode cX7_joins 104 = .ok (.iinc 6 1, 3) := by decide +kernel
theorem dX7_joins_107 : decode cX7_joins 107 = .ok (.goto (-40), 3) := by decide +kernel
theorem dX7_joins_110 : decode cX7_joins 110 = .ok (.return_, 1) := by decide +kernel
theorem dX7_aloneAll_0 : decode cX7_aloneAll 0 = .ok (.iconst 0, 1) := by decide +kernel
theorem dX7_aloneAll_1 : decode cX7_aloneAll 1 = .ok (.istore_n 2, 1) := by decide +kernel
theorem dX7_aloneAll_2 : decode cX7_aloneAll 2 = .ok (.iload_n 2, 1) := by decide +kernel
theorem dX7_aloneAll_3 : decode cX7_aloneAll 3 = .ok (.iload_n 1, 1) := by decide +kernel
theorem dX7_aloneAll_4 : decode cX7_aloneAll 4 = .ok (.if_icmp .ge 16, 3) := by decide +kernel
theorem dX7_aloneAll_7 : decode cX7_aloneAll 7 = .ok (.aload_n 0, 1) := by decide +kernel
theorem dX7_aloneAll_8 : decode cX7_aloneAll 8 = .ok (.getfield 25, 3) := by decide +kernel
theorem dX7_aloneAll_11 : decode cX7_aloneAll 11 = .ok (.iload_n 2, 1) := by decide +kernel
theorem dX7_aloneAll_12 : decode cX7_aloneAll 12 = .ok (.iload_n 2, 1) := by decide +kernel
theorem dX7_aloneAll_13 : decode cX7_aloneAll 13 = .ok (.iastore, 1) := by decide +kernel
theorem dX7_aloneAll_14 : decode cX7_aloneAll 14 = .ok (.iinc 2 1, 3) := by decide +kernel
theorem dX7_aloneAll_17 : decode cX7_aloneAll 17 = .ok (.goto (-15), 3) := by decide +kernel
theorem dX7_aloneAll_20 : decode cX7_aloneAll 20 = .ok (.return_, 1) := by decide +kernel
theorem dX7_partsMany_0 : decode cX7_partsMany 0 = .ok (.iconst 0, 1) := by decide +kernel
theorem dX7_partsMany_1 : decode cX7_partsMany 1 = .ok (.istore_n 2, 1) := by decide +kernel
theorem dX7_partsMany_2 : decode cX7_partsMany 2 = .ok (.iconst 0, 1) := by decide +kernel
theorem dX7_partsMany_3 : decode cX7_partsMany 3 = .ok (.istore_n 3, 1) := by decide +kernel
theorem dX7_partsMany_4 : decode cX7_partsMany 4 = .ok (.iload_n 3, 1) := by decide +kernel
theorem dX7_partsMany_5 : decode cX7_partsMany 5 = .ok (.iload_n 1, 1) := by decide +kernel
theorem dX7_partsMany_6 : decode cX7_partsMany 6 = .ok (.if_icmp .ge 27, 3) := by decide +kernel
theorem dX7_partsMany_9 : decode cX7_partsMany 9 = .ok (.iload_n 2, 1) := by decide +kernel
theorem dX7_partsMany_10 : decode cX7_partsMany 10 = .ok (.aload_n 0, 1) := by decide +kernel
theorem dX7_partsMany_11 : decode cX7_partsMany 11 = .ok (.getfield 25, 3) := by decide +kernel
theorem dX7_partsMany_14 : decode cX7_partsMany 14 = .ok (.iload_n 3, 1) := by decide +kernel
theorem dX7_partsMany_15 : decode cX7_partsMany 15 = .ok (.iaload, 1) := by decide +kernel
theorem dX7_partsMany_16 : decode cX7_partsMany 16 = .ok (.iload_n 3, 1) := by decide +kernel
theorem dX7_partsMany_17 : decode cX7_partsMany 17 = .ok (.if_icmp .ne 7, 3) := by decide +kernel
theorem dX7_partsMany_20 : decode cX7_partsMany 20 = .ok (.iconst 1, 1) := by decide +kernel
theorem dX7_partsMany_21 : decode cX7_partsMany 21 = .ok (.goto 4, 3) := by decide +kernel
theorem dX7_partsMany_24 : decode cX7_partsMany 24 = .ok (.iconst 0, 1) := by decide +kernel
theorem dX7_partsMany_25 : decode cX7_partsMany 25 = .ok (.iadd, 1) := by decide +kernel
theorem dX7_partsMany_26 : decode cX7_partsMany 26 = .ok (.istore_n 2, 1) := by decide +kernel
theorem dX7_partsMany_27 : decode cX7_partsMany 27 = .ok (.iinc 3 1, 3) := by decide +kernel
theorem dX7_partsMany_30 : decode cX7_partsMany 30 = .ok (.goto (-26), 3) := by decide +kernel
theorem dX7_partsMany_33 : decode cX7_partsMany 33 = .ok (.iload_n 2, 1) := by decide +kernel
theorem dX7_partsMany_34 : decode cX7_partsMany 34 = .ok (.ireturn, 1) := by decide +kernel
theorem dX7_componentsOfTable_0 : decode cX7_componentsOfTable 0 = .ok (.aload_n 0, 1) := by decide +kernel
theorem dX7_componentsOfTable_1 : decode cX7_componentsOfTable 1 = .ok (.aload_n 0, 1) := by decide +kernel
theorem dX7_componentsOfTable_2 : decode cX7_componentsOfTable 2 = .ok (.getfield 7, 3) := by decide +kernel
theorem dX7_componentsOfTable_5 : decode cX7_componentsOfTable 5 = .ok (.iconst 0, 1) := by decide +kernel
theorem dX7_componentsOfTable_6 : decode cX7_componentsOfTable 6 = .ok (.iaload, 1) := by decide +kernel
theorem dX7_componentsOfTable_7 : decode cX7_componentsOfTable 7 = .ok (.invokevirtual 93, 3) := by decide +kernel
theorem dX7_componentsOfTable_10 : decode cX7_componentsOfTable 10 = .ok (.iconst 0, 1) := by decide +kernel
theorem dX7_componentsOfTable_11 : decode cX7_componentsOfTable 11 = .ok (.istore_n 1, 1) := by decide +kernel
theorem dX7_componentsOfTable_12 : decode cX7_componentsOfTable 12 = .ok (.iload_n 1, 1) := by decide +kernel
theorem dX7_componentsOfTable_13 : decode cX7_componentsOfTable 13 = .ok (.aload_n 0, 1) := by decide +kernel
theorem dX7_componentsOfTable_14 : decode cX7_componentsOfTable 14 = .ok (.getfield 7, 3) := by decide +kernel
theorem dX7_componentsOfTable_17 : decode cX7_componentsOfTable 17 = .ok (.iconst 0, 1) := by decide +kernel
theorem dX7_componentsOfTable_18 : decode cX7_componentsOfTable 18 = .ok (.iaload, 1) := by decide +kernel
theorem dX7_componentsOfTable_19 : decode cX7_componentsOfTable 19 = .ok (.if_icmp .ge 44, 3) := by decide +kernel
theorem dX7_componentsOfTable_22 : decode cX7_componentsOfTable 22 = .ok (.iconst 0, 1) := by decide +kernel
theorem dX7_componentsOfTable_23 : decode cX7_componentsOfTable 23 = .ok (.istore_n 2, 1) := by decide +kernel
theorem dX7_componentsOfTable_24 : decode cX7_componentsOfTable 24 = .ok (.iload_n 2, 1) := by decide +kernel
theorem dX7_componentsOfTable_25 : decode cX7_componentsOfTable 25 = .ok (.aload_n 0, 1) := by decide +kernel
theorem dX7_componentsOfTable_26 : decode cX7_componentsOfTable 26 = .ok (.getfield 7, 3) := by decide +kernel
theorem dX7_componentsOfTable_29 : decode cX7_componentsOfTable 29 = .ok (.iconst 0, 1) := by decide +kernel
theorem dX7_componentsOfTable_30 : decode cX7_componentsOfTable 30 = .ok (.iaload, 1) := by decide +kernel
theorem dX7_componentsOfTable_31 : decode cX7_componentsOfTable 31 = .ok (.if_icmp .ge 26, 3) := by decide +kernel
theorem dX7_componentsOfTable_34 : decode cX7_componentsOfTable 34 = .ok (.aload_n 0, 1) := by decide +kernel
theorem dX7_componentsOfTable_35 : decode cX7_componentsOfTable 35 = .ok (.iload_n 1, 1) := by decide +kernel
theorem dX7_componentsOfTable_36 : decode cX7_componentsOfTable 36 = .ok (.aload_n 0, 1) := by decide +kernel
theorem dX7_componentsOfTable_37 : decode cX7_componentsOfTable 37 = .ok (.iload_n 1, 1) := by decide +kernel
theorem dX7_componentsOfTable_38 : decode cX7_componentsOfTable 38 = .ok (.iload_n 2, 1) := by decide +kernel
theorem dX7_componentsOfTable_39 : decode cX7_componentsOfTable 39 = .ok (.invokevirtual 67, 3) := by decide +kernel
theorem dX7_componentsOfTable_42 : decode cX7_componentsOfTable 42 = .ok (.aload_n 0, 1) := by decide +kernel
theorem dX7_componentsOfTable_43 : decode cX7_componentsOfTable 43 = .ok (.getfield 7, 3) := by decide +kernel
theorem dX7_componentsOfTable_46 : decode cX7_componentsOfTable 46 = .ok (.iconst 0, 1) := by decide +kernel
theorem dX7_componentsOfTable_47 : decode cX7_componentsOfTable 47 = .ok (.iaload, 1) := by decide +kernel
theorem dX7_componentsOfTable_48 : decode cX7_componentsOfTable 48 = .ok (.invokevirtual 97, 3) := by decide +kernel
theorem dX7_componentsOfTable_51 : decode cX7_componentsOfTable 51 = .ok (.iinc 2 1, 3) := by decide +kernel
theorem dX7_componentsOfTable_54 : decode cX7_componentsOfTable 54 = .ok (.goto (-30), 3) := by decide +kernel
theorem dX7_componentsOfTable_57 : decode cX7_componentsOfTable 57 = .ok (.iinc 1 1, 3) := by decide +kernel
theorem dX7_componentsOfTable_60 : decode cX7_componentsOfTable 60 = .ok (.goto (-48), 3) := by decide +kernel
theorem dX7_componentsOfTable_63 : decode cX7_componentsOfTable 63 = .ok (.aload_n 0, 1) := by decide +kernel
theorem dX7_componentsOfTable_64 : decode cX7_componentsOfTable 64 = .ok (.aload_n 0, 1) := by decide +kernel
theorem dX7_componentsOfTable_65 : decode cX7_componentsOfTable 65 = .ok (.getfield 7, 3) := by decide +kernel
theorem dX7_componentsOfTable_68 : decode cX7_componentsOfTable 68 = .ok (.iconst 0, 1) := by decide +kernel
theorem dX7_componentsOfTable_69 : decode cX7_componentsOfTable 69 = .ok (.iaload, 1) := by decide +kernel
theorem dX7_componentsOfTable_70 : decode cX7_componentsOfTable 70 = .ok (.invokevirtual 100, 3) := by decide +kernel
theorem dX7_componentsOfTable_73 : decode cX7_componentsOfTable 73 = .ok (.ireturn, 1) := by decide +kernel
theorem dX7_tableComponents_0 : decode cX7_tableComponents 0 = .ok (.aload_n 0, 1) := by decide +kernel
theorem dX7_tableComponents_1 : decode cX7_tableComponents 1 = .ok (.invokevirtual 103, 3) := by decide +kernel
theorem dX7_tableComponents_4 : decode cX7_tableComponents 4 = .ok (.ireturn, 1) := by decide +kernel
theorem dX7_closureOf_0 : decode cX7_closureOf 0 = .ok (.iload_n 1, 1) := by decide +kernel
theorem dX7_closureOf_1 : decode cX7_closureOf 1 = .ok (.istore_n 2, 1) := by decide +kernel
theorem dX7_closureOf_2 : decode cX7_closureOf 2 = .ok (.iconst 0, 1) := by decide +kernel
theorem dX7_closureOf_3 : decode cX7_closureOf 3 = .ok (.istore_n 3, 1) := by decide +kernel
theorem dX7_closureOf_4 : decode cX7_closureOf 4 = .ok (.iload_n 3, 1) := by decide +kernel
theorem dX7_closureOf_5 : decode cX7_closureOf 5 = .ok (.bipush 6, 2) := by decide +kernel
theorem dX7_closureOf_7 : decode cX7_closureOf 7 = .ok (.if_icmp .ge 86, 3) := by decide +kernel
theorem dX7_closureOf_10 : decode cX7_closureOf 10 = .ok (.iconst 0, 1) := by decide +kernel
theorem dX7_closureOf_11 : decode cX7_closureOf 11 = .ok (.istore 4, 2) := by decide +kernel
theorem dX7_closureOf_13 : decode cX7_closureOf 13 = .ok (.iload 4, 2) := by decide +kernel
theorem dX7_closureOf_15 : decode cX7_closureOf 15 = .ok (.aload_n 0, 1) := by decide +kernel
theorem dX7_closureOf_16 : decode cX7_closureOf 16 = .ok (.getfield 7, 3) := by decide +kernel
theorem dX7_closureOf_19 : decode cX7_closureOf 19 = .ok (.iconst 0, 1) := by decide +kernel
theorem dX7_closureOf_20 : decode cX7_closureOf 20 = .ok (.iaload, 1) := by decide +kernel
theorem dX7_closureOf_21 : decode cX7_closureOf 21 = .ok (.if_icmp .ge 66, 3) := by decide +kernel
theorem dX7_closureOf_24 : decode cX7_closureOf 24 = .ok (.iconst 0, 1) := by decide +kernel
theorem dX7_closureOf_25 : decode cX7_closureOf 25 = .ok (.istore 5, 2) := by decide +kernel
theorem dX7_closureOf_27 : decode cX7_closureOf 27 = .ok (.iload 5, 2) := by decide +kernel
theorem dX7_closureOf_29 : decode cX7_closureOf 29 = .ok (.aload_n 0, 1) := by decide +kernel
theorem dX7_closureOf_30 : decode cX7_closureOf 30 = .ok (.getfield 7, 3) := by decide +kernel
theorem dX7_closureOf_33 : decode cX7_closureOf 33 = .ok (.iconst 0, 1) := by decide +kernel
theorem dX7_closureOf_34 : decode cX7_closureOf 34 = .ok (.iaload, 1) := by decide +kernel
theorem dX7_closureOf_35 : decode cX7_closureOf 35 = .ok (.if_icmp .ge 46, 3) := by decide +kernel
theorem dX7_closureOf_38 : decode cX7_closureOf 38 = .ok (.iload_n 2, 1) := by decide +kernel
theorem dX7_closureOf_39 : decode cX7_closureOf 39 = .ok (.iload_n 2, 1) := by decide +kernel
theorem dX7_closureOf_40 : decode cX7_closureOf 40 = .ok (.iload 4, 2) := by decide +kernel
theorem dX7_closureOf_42 : decode cX7_closureOf 42 = .ok (.ishr, 1) := by decide +kernel
theorem dX7_closureOf_43 : decode cX7_closureOf 43 = .ok (.iconst 1, 1) := by decide +kernel
theorem dX7_closureOf_44 : decode cX7_closureOf 44 = .ok (.iand, 1) := by decide +kernel
theorem dX7_closureOf_45 : decode cX7_closureOf 45 = .ok (.iconst 1, 1) := by decide +kernel
theorem dX7_closureOf_46 : decode cX7_closureOf 46 = .ok (.if_icmp .ne 26, 3) := by decide +kernel
theorem dX7_closureOf_49 : decode cX7_closureOf 49 = .ok (.iload_n 2, 1) := by decide +kernel
theorem dX7_closureOf_50 : decode cX7_closureOf 50 = .ok (.iload 5, 2) := by decide +kernel
theorem dX7_closureOf_52 : decode cX7_closureOf 52 = .ok (.ishr, 1) := by decide +kernel
theorem dX7_closureOf_53 : decode cX7_closureOf 53 = .ok (.iconst 1, 1) := by decide +kernel
theorem dX7_closureOf_54 : decode cX7_closureOf 54 = .ok (.iand, 1) := by decide +kernel
theorem dX7_closureOf_55 : decode cX7_closureOf 55 = .ok (.iconst 1, 1) := by decide +kernel
theorem dX7_closureOf_56 : decode cX7_closureOf 56 = .ok (.if_icmp .ne 16, 3) := by decide +kernel
theorem dX7_closureOf_59 : decode cX7_closureOf 59 = .ok (.iconst 1, 1) := by decide +kernel
theorem dX7_closureOf_60 : decode cX7_closureOf 60 = .ok (.aload_n 0, 1) := by decide +kernel
theorem dX7_closureOf_61 : decode cX7_closureOf 61 = .ok (.iload 4, 2) := by decide +kernel
theorem dX7_closureOf_63 : decode cX7_closureOf 63 = .ok (.iload 5, 2) := by decide +kernel
theorem dX7_closureOf_65 : decode cX7_closureOf 65 = .ok (.invokevirtual 67, 3) := by decide +kernel
theorem dX7_closureOf_68 : decode cX7_closureOf 68 = .ok (.ishl, 1) := by decide +kernel
theorem dX7_closureOf_69 : decode cX7_closureOf 69 = .ok (.goto 4, 3) := by decide +kernel
theorem dX7_closureOf_72 : decode cX7_closureOf 72 = .ok (.iconst 0, 1) := by decide +kernel
theorem dX7_closureOf_73 : decode cX7_closureOf 73 = .ok (.ior, 1) := by decide +kernel
theorem dX7_closureOf_74 : decode cX7_closureOf 74 = .ok (.istore_n 2, 1) := by decide +kernel
theorem dX7_closureOf_75 : decode cX7_closureOf 75 = .ok (.iinc 5 1, 3) := by decide +kernel
theorem dX7_closureOf_78 : decode cX7_closureOf 78 = .ok (.goto (-51), 3) := by decide +kernel
theorem dX7_closureOf_81 : decode cX7_closureOf 81 = .ok (.iinc 4 1, 3) := by decide +kernel
theorem dX7_closureOf_84 : decode cX7_closureOf 84 = .ok (.goto (-71), 3) := by decide +kernel
theorem dX7_closureOf_87 : decode cX7_closureOf 87 = .ok (.iinc 3 1, 3) := by decide +kernel
theorem dX7_closureOf_90 : decode cX7_closureOf 90 = .ok (.goto (-86), 3) := by decide +kernel
theorem dX7_closureOf_93 : decode cX7_closureOf 93 = .ok (.iload_n 2, 1) := by decide +kernel
theorem dX7_closureOf_94 : decode cX7_closureOf 94 = .ok (.ireturn, 1) := by decide +kernel
theorem dX7_closure_0 : decode cX7_closure 0 = .ok (.iload_n 1, 1) := by decide +kernel
theorem dX7_closure_1 : decode cX7_closure 1 = .ok (.iconst 0, 1) := by decide +kernel
theorem dX7_closure_2 : decode cX7_closure 2 = .ok (.iconst 1, 1) := by decide +kernel
theorem dX7_closure_3 : decode cX7_closure 3 = .ok (.aload_n 0, 1) := by decide +kernel
theorem dX7_closure_4 : decode cX7_closure 4 = .ok (.getfield 7, 3) := by decide +kernel
theorem dX7_closure_7 : decode cX7_closure 7 = .ok (.iconst 0, 1) := by decide +kernel
theorem dX7_closure_8 : decode cX7_closure 8 = .ok (.iaload, 1) := by decide +kernel
theorem dX7_closure_9 : decode cX7_closure 9 = .ok (.ishl, 1) := by decide +kernel
theorem dX7_closure_10 : decode cX7_closure 10 = .ok (.iconst 1, 1) := by decide +kernel
theorem dX7_closure_11 : decode cX7_closure 11 = .ok (.isub, 1) := by decide +kernel
theorem dX7_closure_12 : decode cX7_closure 12 = .ok (.invokestatic 35, 3) := by decide +kernel
theorem dX7_closure_15 : decode cX7_closure 15 = .ok (.ifCond .eq 11, 3) := by decide +kernel
theorem dX7_closure_18 : decode cX7_closure 18 = .ok (.aload_n 0, 1) := by decide +kernel
theorem dX7_closure_19 : decode cX7_closure 19 = .ok (.iload_n 1, 1) := by decide +kernel
theorem dX7_closure_20 : decode cX7_closure 20 = .ok (.invokevirtual 106, 3) := by decide +kernel
theorem dX7_closure_23 : decode cX7_closure 23 = .ok (.goto 5, 3) := by decide +kernel
theorem dX7_closure_26 : decode cX7_closure 26 = .ok (.bipush (-2), 2) := by decide +kernel
theorem dX7_closure_28 : decode cX7_closure 28 = .ok (.ireturn, 1) := by decide +kernel
theorem dX7_fewestGenerators_0 : decode cX7_fewestGenerators 0 = .ok (.iconst 1, 1) := by decide +kernel
theorem dX7_fewestGenerators_1 : decode cX7_fewestGenerators 1 = .ok (.aload_n 0, 1) := by decide +kernel
theorem dX7_fewestGenerators_2 : decode cX7_fewestGenerators 2 = .ok (.getfield 7, 3) := by decide +kernel
theorem dX7_fewestGenerators_5 : decode cX7_fewestGenerators 5 = .ok (.iconst 0, 1) := by decide +kernel
theorem dX7_fewestGenerators_6 : decode cX7_fewestGenerators 6 = .ok (.iaload, 1) := by decide +kernel
theorem dX7_fewestGenerators_7 : decode cX7_fewestGenerators 7 = .ok (.ishl, 1) := by decide +kernel
theorem dX7_fewestGenerators_8 : decode cX7_fewestGenerators 8 = .ok (.iconst 1, 1) := by decide +kernel
theorem dX7_fewestGenerators_9 : decode cX7_fewestGenerators 9 = .ok (.isub, 1) := by decide +kernel
theorem dX7_fewestGenerators_10 : decode cX7_fewestGenerators 10 = .ok (.istore_n 1, 1) := by decide +kernel
theorem dX7_fewestGenerators_11 : decode cX7_fewestGenerators 11 = .ok (.aload_n 0, 1) := by decide +kernel
theorem dX7_fewestGenerators_12 : decode cX7_fewestGenerators 12 = .ok (.getfield 7, 3) := by decide +kernel
theorem dX7_fewestGenerators_15 : decode cX7_fewestGenerators 15 = .ok (.iconst 0, 1) := by decide +kernel
theorem dX7_fewestGenerators_16 : decode cX7_fewestGenerators 16 = .ok (.iaload, 1) := by decide +kernel
theorem dX7_fewestGenerators_17 : decode cX7_fewestGenerators 17 = .ok (.istore_n 2, 1) := by decide +kernel
theorem dX7_fewestGenerators_18 : decode cX7_fewestGenerators 18 = .ok (.iconst 1, 1) := by decide +kernel
theorem dX7_fewestGenerators_19 : decode cX7_fewestGenerators 19 = .ok (.istore_n 3, 1) := by decide +kernel
theorem dX7_fewestGenerators_20 : decode cX7_fewestGenerators 20 = .ok (.iload_n 3, 1) := by decide +kernel
theorem dX7_fewestGenerators_21 : decode cX7_fewestGenerators 21 = .ok (.iload_n 1, 1) := by decide +kernel
theorem dX7_fewestGenerators_22 : decode cX7_fewestGenerators 22 = .ok (.if_icmp .gt 35, 3) := by decide +kernel
theorem dX7_fewestGenerators_25 : decode cX7_fewestGenerators 25 = .ok (.iload_n 3, 1) := by decide +kernel
theorem dX7_fewestGenerators_26 : decode cX7_fewestGenerators 26 = .ok (.invokestatic 71, 3) := by decide +kernel
theorem dX7_fewestGenerators_29 : decode cX7_fewestGenerators 29 = .ok (.iload_n 2, 1) := by decide +kernel
theorem dX7_fewestGenerators_30 : decode cX7_fewestGenerators 30 = .ok (.if_icmp .ge 19, 3) := by decide +kernel
theorem dX7_fewestGenerators_33 : decode cX7_fewestGenerators 33 = .ok (.aload_n 0, 1) := by decide +kernel
theorem dX7_fewestGenerators_34 : decode cX7_fewestGenerators 34 = .ok (.iload_n 3, 1) := by decide +kernel
theorem dX7_fewestGenerators_35 : decode cX7_fewestGenerators 35 = .ok (.invokevirtual 106, 3) := by decide +kernel
theorem dX7_fewestGenerators_38 : decode cX7_fewestGenerators 38 = .ok (.iload_n 1, 1) := by decide +kernel
theorem dX7_fewestGenerators_39 : decode cX7_fewestGenerators 39 = .ok (.if_icmp .ne 10, 3) := by decide +kernel
theorem dX7_fewestGenerators_42 : decode cX7_fewestGenerators 42 = .ok (.iload_n 3, 1) := by decide +kernel
theorem dX7_fewestGenerators_43 : decode cX7_fewestGenerators 43 = .ok (.invokestatic 71, 3) := by decide +kernel
theorem dX7_fewestGenerators_46 : decode cX7_fewestGenerators 46 = .ok (.goto 4, 3) := by decide +kernel
theorem dX7_fewestGenerators_49 : decode cX7_fewestGenerators 49 = .ok (.iload_n 2, 1) := by decide +kernel
theorem dX7_fewestGenerators_50 : decode cX7_fewestGenerators 50 = .ok (.istore_n 2, 1) := by decide +kernel
theorem dX7_fewestGenerators_51 : decode cX7_fewestGenerators 51 = .ok (.iinc 3 1, 3) := by decide +kernel
theorem dX7_fewestGenerators_54 : decode cX7_fewestGenerators 54 = .ok (.goto (-34), 3) := by decide +kernel
theorem dX7_fewestGenerators_57 : decode cX7_fewestGenerators 57 = .ok (.iload_n 2, 1) := by decide +kernel
theorem dX7_fewestGenerators_58 : decode cX7_fewestGenerators 58 = .ok (.ireturn, 1) := by decide +kernel
theorem dX7_generators_0 : decode cX7_generators 0 = .ok (.aload_n 0, 1) := by decide +kernel
theorem dX7_generators_1 : decode cX7_generators 1 = .ok (.invokevirtual 109, 3) := by decide +kernel
theorem dX7_generators_4 : decode cX7_generators 4 = .ok (.ireturn, 1) := by decide +kernel
theorem dX7_translationOrder_0 : decode cX7_translationOrder 0 = .ok (.aload_n 0, 1) := by decide +kernel
theorem dX7_translationOrder_1 : decode cX7_translationOrder 1 = .ok (.iload_n 1, 1) := by decide +kernel
theorem dX7_translationOrder_2 : decode cX7_translationOrder 2 = .ok (.invokevirtual 63, 3) := by decide +kernel
theorem dX7_translationOrder_5 : decode cX7_translationOrder 5 = .ok (.ifCond .ne 5, 3) := by decide +kernel
theorem dX7_translationOrder_8 : decode cX7_translationOrder 8 = .ok (.iconst (-1), 1) := by decide +kernel
theorem dX7_translationOrder_9 : decode cX7_translationOrder 9 = .ok (.ireturn, 1) := by decide +kernel
theorem dX7_translationOrder_10 : decode cX7_translationOrder 10 = .ok (.aload_n 0, 1) := by decide +kernel
theorem dX7_translationOrder_11 : decode cX7_translationOrder 11 = .ok (.iload_n 1, 1) := by decide +kernel
theorem dX7_translationOrder_12 : decode cX7_translationOrder 12 = .ok (.invokevirtual 74, 3) := by decide +kernel
theorem dX7_translationOrder_15 : decode cX7_translationOrder 15 = .ok (.ifCond .ne 6, 3) := by decide +kernel
theorem dX7_translationOrder_18 : decode cX7_translationOrder 18 = .ok (.bipush (-6), 2) := by decide +kernel
theorem dX7_translationOrder_20 : decode cX7_translationOrder 20 = .ok (.ireturn, 1) := by decide +kernel
theorem dX7_translationOrder_21 : decode cX7_translationOrder 21 = .ok (.iconst 0, 1) := by decide +kernel
theorem dX7_translationOrder_22 : decode cX7_translationOrder 22 = .ok (.istore_n 2, 1) := by decide +kernel
theorem dX7_translationOrder_23 : decode cX7_translationOrder 23 = .ok (.iload_n 2, 1) := by decide +kernel
theorem dX7_translationOrder_24 : decode cX7_translationOrder 24 = .ok (.aload_n 0, 1) := by decide +kernel
theorem dX7_translationOrder_25 : decode cX7_translationOrder 25 = .ok (.getfield 7, 3) := by decide +kernel
theorem dX7_translationOrder_28 : decode cX7_translationOrder 28 = .ok (.iconst 0, 1) := by decide +kernel
theorem dX7_translationOrder_29 : decode cX7_translationOrder 29 = .ok (.iaload, 1) := by decide +kernel
theorem dX7_translationOrder_30 : decode cX7_translationOrder 30 = .ok (.if_icmp .ge 16, 3) := by decide +kernel
theorem dX7_translationOrder_33 : decode cX7_translationOrder 33 = .ok (.aload_n 0, 1) := by decide +kernel
theorem dX7_translationOrder_34 : decode cX7_translationOrder 34 = .ok (.getfield 22, 3) := by decide +kernel
theorem dX7_translationOrder_37 : decode cX7_translationOrder 37 = .ok (.iload_n 2, 1) := by decide +kernel
theorem dX7_translationOrder_38 : decode cX7_translationOrder 38 = .ok (.iload_n 2, 1) := by decide +kernel
theorem dX7_translationOrder_39 : decode cX7_translationOrder 39 = .ok (.iastore, 1) := by decide +kernel
theorem dX7_translationOrder_40 : decode cX7_translationOrder 40 = .ok (.iinc 2 1, 3) := by decide +kernel
theorem dX7_translationOrder_43 : decode cX7_translationOrder 43 = .ok (.goto (-20), 3) := by decide +kernel
theorem dX7_translationOrder_46 : decode cX7_translationOrder 46 = .ok (.iconst 0, 1) := by decide +kernel
theorem dX7_translationOrder_47 : decode cX7_translationOrder 47 = .ok (.istore_n 2, 1) := by decide +kernel
theorem dX7_translationOrder_48 : decode cX7_translationOrder 48 = .ok (.iconst 1, 1) := by decide +kernel
theorem dX7_translationOrder_49 : decode cX7_translationOrder 49 = .ok (.istore_n 3, 1) := by decide +kernel
theorem dX7_translationOrder_50 : decode cX7_translationOrder 50 = .ok (.iload_n 3, 1) := by decide +kernel
theorem dX7_translationOrder_51 : decode cX7_translationOrder 51 = .ok (.ifCond .eq 72, 3) := by decide +kernel
theorem dX7_translationOrder_54 : decode cX7_translationOrder 54 = .ok (.iinc 2 1, 3) := by decide +kernel
theorem dX7_translationOrder_57 : decode cX7_translationOrder 57 = .ok (.iconst 0, 1) := by decide +kernel
theorem dX7_translationOrder_58 : decode cX7_translationOrder 58 = .ok (.istore_n 3, 1) := by decide +kernel
theorem dX7_translationOrder_59 : decode cX7_translationOrder 59 = .ok (.iconst 0, 1) := by decide +kernel
theorem dX7_translationOrder_60 : decode cX7_translationOrder 60 = .ok (.istore 4, 2) := by decide +kernel
theorem dX7_translationOrder_62 : decode cX7_translationOrder 62 = .ok (.iload 4, 2) := by decide +kernel
theorem dX7_translationOrder_64 : decode cX7_translationOrder 64 = .ok (.aload_n 0, 1) := by decide +kernel
theorem dX7_translationOrder_65 : decode cX7_translationOrder 65 = .ok (.getfield 7, 3) := by decide +kernel
theorem dX7_translationOrder_68 : decode cX7_translationOrder 68 = .ok (.iconst 0, 1) := by decide +kernel
theorem dX7_translationOrder_69 : decode cX7_translationOrder 69 = .ok (.iaload, 1) := by decide +kernel
theorem dX7_translationOrder_70 : decode cX7_translationOrder 70 = .ok (.if_icmp .ge 50, 3) := by decide +kernel
theorem dX7_translationOrder_73 : decode cX7_translationOrder 73 = .ok (.aload_n 0, 1) := by decide +kernel
theorem dX7_translationOrder_74 : decode cX7_translationOrder 74 = .ok (.getfield 22, 3) := by decide +kernel
theorem dX7_translationOrder_77 : decode cX7_translationOrder 77 = .ok (.iload 4, 2) := by decide +kernel
theorem dX7_translationOrder_79 : decode cX7_translationOrder 79 = .ok (.aload_n 0, 1) := by decide +kernel
theorem dX7_translationOrder_80 : decode cX7_translationOrder 80 = .ok (.aload_n 0, 1) := by decide +kernel
theorem dX7_translationOrder_81 : decode cX7_translationOrder 81 = .ok (.getfield 22, 3) := by decide +kernel
theorem dX7_translationOrder_84 : decode cX7_translationOrder 84 = .ok (.iload 4, 2) := by decide +kernel
theorem dX7_translationOrder_86 : decode cX7_translationOrder 86 = .ok (.iaload, 1) := by decide +kernel
theorem dX7_translationOrder_87 : decode cX7_translationOrder 87 = .ok (.iload_n 1, 1) := by decide +kernel
theorem dX7_translationOrder_88 : decode cX7_translationOrder 88 = .ok (.invokevirtual 67, 3) := by decide +kernel
theorem dX7_translationOrder_91 : decode cX7_translationOrder 91 = .ok (.iastore, 1) := by decide +kernel
theorem dX7_translationOrder_92 : decode cX7_translationOrder 92 = .ok (.iload_n 3, 1) := by decide +kernel
theorem dX7_translationOrder_93 : decode cX7_translationOrder 93 = .ok (.ifCond .ne 15, 3) := by decide +kernel
theorem dX7_translationOrder_96 : decode cX7_translationOrder 96 = .ok (.aload_n 0, 1) := by decide +kernel
theorem dX7_translationOrder_97 : decode cX7_translationOrder 97 = .ok (.getfield 22, 3) := by decide +kernel
theorem dX7_translationOrder_100 : decode cX7_translationOrder 100 = .ok (.iload 4, 2) := by decide +kernel
theorem dX7_translationOrder_102 : decode cX7_translationOrder 102 = .ok (.iaload, 1) := by decide +kernel
theorem dX7_translationOrder_103 : decode cX7_translationOrder 103 = .ok (.iload 4, 2) := by decide +kernel
theorem dX7_translationOrder_105 : decode cX7_translationOrder 105 = .ok (.if_icmp .eq 7, 3) := by decide +kernel
theorem dX7_translationOrder_108 : decode cX7_translationOrder 108 = .ok (.iconst 1, 1) := by decide +kernel
theorem dX7_translationOrder_109 : decode cX7_translationOrder 109 = .ok (.goto 4, 3) := by decide +kernel
theorem dX7_translationOrder_112 : decode cX7_translationOrder 112 = .ok (.iconst 0, 1) := by decide +kernel
theorem dX7_translationOrder_113 : decode cX7_translationOrder 113 = .ok (.istore_n 3, 1) := by decide +kernel
theorem dX7_translationOrder_114 : decode cX7_translationOrder 114 = .ok (.iinc 4 1, 3) := by decide +kernel
theorem dX7_translationOrder_117 : decode cX7_translationOrder 117 = .ok (.goto (-55), 3) := by decide +kernel
theorem dX7_translationOrder_120 : decode cX7_translationOrder 120 = .ok (.goto (-70), 3) := by decide +kernel
theorem dX7_translationOrder_123 : decode cX7_translationOrder 123 = .ok (.iload_n 2, 1) := by decide +kernel
theorem dX7_translationOrder_124 : decode cX7_translationOrder 124 = .ok (.ireturn, 1) := by decide +kernel
theorem dX7_differentTranslations_0 : decode cX7_differentTranslations 0 = .ok (.iconst 0, 1) := by decide +kernel
theorem dX7_differentTranslations_1 : decode cX7_differentTranslations 1 = .ok (.istore_n 1, 1) := by decide +kernel
theorem dX7_differentTranslations_2 : decode cX7_differentTranslations 2 = .ok (.iconst 0, 1) := by decide +kernel
theorem dX7_differentTranslations_3 : decode cX7_differentTranslations 3 = .ok (.istore_n 2, 1) := by decide +kernel
theorem dX7_differentTranslations_4 : decode cX7_differentTranslations 4 = .ok (.iload_n 2, 1) := by decide +kernel
theorem dX7_differentTranslations_5 : decode cX7_differentTranslations 5 = .ok (.aload_n 0, 1) := by decide +kernel
theorem dX7_differentTranslations_6 : decode cX7_differentTranslations 6 = .ok (.getfield 7, 3) := by decide +kernel
theorem dX7_differentTranslations_9 : decode cX7_differentTranslations 9 = .ok (.iconst 0, 1) := by decide +kernel
theorem dX7_differentTranslations_10 : decode cX7_differentTranslations 10 = .ok (.iaload, 1) := by decide +kernel
theorem dX7_differentTranslations_11 : decode cX7_differentTranslations 11 = .ok (.if_icmp .ge 106, 3) := by decide +kernel
theorem dX7_differentTranslations_14 : decode cX7_differentTranslations 14 = .ok (.iconst 1, 1) := by decide +kernel
theorem dX7_differentTranslations_15 : decode cX7_differentTranslations 15 = .ok (.istore_n 3, 1) := by decide +kernel
theorem dX7_differentTranslations_16 : decode cX7_differentTranslations 16 = .ok (.iconst 0, 1) := by decide +kernel
theorem dX7_differentTranslations_17 : decode cX7_differentTranslations 17 = .ok (.istore 4, 2) := by decide +kernel
theorem dX7_differentTranslations_19 : decode cX7_differentTranslations 19 = .ok (.iload 4, 2) := by decide +kernel
theorem dX7_differentTranslations_21 : decode cX7_differentTranslations 21 = .ok (.iload_n 2, 1) := by decide +kernel
theorem dX7_differentTranslations_22 : decode cX7_differentTranslations 22 = .ok (.if_icmp .ge 77, 3) := by decide +kernel
theorem dX7_differentTranslations_25 : decode cX7_differentTranslations 25 = .ok (.iconst 1, 1) := by decide +kernel
theorem dX7_differentTranslations_26 : decode cX7_differentTranslations 26 = .ok (.istore 5, 2) := by decide +kernel
theorem dX7_differentTranslations_28 : decode cX7_differentTranslations 28 = .ok (.iconst 0, 1) := by decide +kernel
theorem dX7_differentTranslations_29 : decode cX7_differentTranslations 29 = .ok (.istore 6, 2) := by decide +kernel
theorem dX7_differentTranslations_31 : decode cX7_differentTranslations 31 = .ok (.iload 6, 2) := by decide +kernel
theorem dX7_differentTranslations_33 : decode cX7_differentTranslations 33 = .ok (.aload_n 0, 1) := by decide +kernel
theorem dX7_differentTranslations_34 : decode cX7_differentTranslations 34 = .ok (.getfield 7, 3) := by decide +kernel
theorem dX7_differentTranslations_37 : decode cX7_differentTranslations 37 = .ok (.iconst 0, 1) := by decide +kernel
theorem dX7_differentTranslations_38 : decode cX7_differentTranslations 38 = .ok (.iaload, 1) := by decide +kernel
theorem dX7_differentTranslations_39 : decode cX7_differentTranslations 39 = .ok (.if_icmp .ge 39, 3) := by decide +kernel
theorem dX7_differentTranslations_42 : decode cX7_differentTranslations 42 = .ok (.iload 5, 2) := by decide +kernel
theorem dX7_differentTranslations_44 : decode cX7_differentTranslations 44 = .ok (.ifCond .eq 25, 3) := by decide +kernel
theorem dX7_differentTranslations_47 : decode cX7_differentTranslations 47 = .ok (.aload_n 0, 1) := by decide +kernel
theorem dX7_differentTranslations_48 : decode cX7_differentTranslations 48 = .ok (.iload 6, 2) := by decide +kernel
theorem dX7_differentTranslations_50 : decode cX7_differentTranslations 50 = .ok (.iload 4, 2) := by decide +kernel
theorem dX7_differentTranslations_52 : decode cX7_differentTranslations 52 = .ok (.invokevirtual 67, 3) := by decide +kernel
theorem dX7_differentTranslations_55 : decode cX7_differentTranslations 55 = .ok (.aload_n 0, 1) := by decide +kernel
theorem dX7_differentTranslations_56 : decode cX7_differentTranslations 56 = .ok (.iload 6, 2) := by decide +kernel
theorem dX7_differentTranslations_58 : decode cX7_differentTranslations 58 = .ok (.iload_n 2, 1) := by decide +kernel
theorem dX7_differentTranslations_59 : decode cX7_differentTranslations 59 = .ok (.invokevirtual 67, 3) := by decide +kernel
theorem dX7_differentTranslations_62 : decode cX7_differentTranslations 62 = .ok (.if_icmp .ne 7, 3) := by decide +kernel
theorem dX7_differentTranslations_65 : decode cX7_differentTranslations 65 = .ok (.iconst 1, 1) := by decide +kernel
theorem dX7_differentTranslations_66 : decode cX7_differentTranslations 66 = .ok (.goto 4, 3) := by decide +kernel
theorem dX7_differentTranslations_69 : decode cX7_differentTranslations 69 = .ok (.iconst 0, 1) := by decide +kernel
theorem dX7_differentTranslations_70 : decode cX7_differentTranslations 70 = .ok (.istore 5, 2) := by decide +kernel
theorem dX7_differentTranslations_72 : decode cX7_differentTranslations 72 = .ok (.iinc 6 1, 3) := by decide +kernel
theorem dX7_differentTranslations_75 : decode cX7_differentTranslations 75 = .ok (.goto (-44), 3) := by decide +kernel
theorem dX7_differentTranslations_78 : decode cX7_differentTranslations 78 = .ok (.iload_n 3, 1) := by decide +kernel
theorem dX7_differentTranslations_79 : decode cX7_differentTranslations 79 = .ok (.ifCond .eq 12, 3) := by decide +kernel
theorem dX7_differentTranslations_82 : decode cX7_differentTranslations 82 = .ok (.iload 5, 2) := by decide +kernel
theorem dX7_differentTranslations_84 : decode cX7_differentTranslations 84 = .ok (.ifCond .ne 7, 3) := by decide +kernel
theorem dX7_differentTranslations_87 : decode cX7_differentTranslations 87 = .ok (.iconst 1, 1) := by decide +kernel
theorem dX7_differentTranslations_88 : decode cX7_differentTranslations 88 = .ok (.goto 4, 3) := by decide +kernel
theorem dX7_differentTranslations_91 : decode cX7_differentTranslations 91 = .ok (.iconst 0, 1) := by decide +kernel
theorem dX7_differentTranslations_92 : decode cX7_differentTranslations 92 = .ok (.istore_n 3, 1) := by decide +kernel
theorem dX7_differentTranslations_93 : decode cX7_differentTranslations 93 = .ok (.iinc 4 1, 3) := by decide +kernel
theorem dX7_differentTranslations_96 : decode cX7_differentTranslations 96 = .ok (.goto (-77), 3) := by decide +kernel
theorem dX7_differentTranslations_99 : decode cX7_differentTranslations 99 = .ok (.iload_n 1, 1) := by decide +kernel
theorem dX7_differentTranslations_100 : decode cX7_differentTranslations 100 = .ok (.iload_n 3, 1) := by decide +kernel
theorem dX7_differentTranslations_101 : decode cX7_differentTranslations 101 = .ok (.ifCond .eq 7, 3) := by decide +kernel
theorem dX7_differentTranslations_104 : decode cX7_differentTranslations 104 = .ok (.iconst 1, 1) := by decide +kernel
theorem dX7_differentTranslations_105 : decode cX7_differentTranslations 105 = .ok (.goto 4, 3) := by decide +kernel
theorem dX7_differentTranslations_108 : decode cX7_differentTranslations 108 = .ok (.iconst 0, 1) := by decide +kernel
theorem dX7_differentTranslations_109 : decode cX7_differentTranslations 109 = .ok (.iadd, 1) := by decide +kernel
theorem dX7_differentTranslations_110 : decode cX7_differentTranslations 110 = .ok (.istore_n 1, 1) := by decide +kernel
theorem dX7_differentTranslations_111 : decode cX7_differentTranslations 111 = .ok (.iinc 2 1, 3) := by decide +kernel
theorem dX7_differentTranslations_114 : decode cX7_differentTranslations 114 = .ok (.goto (-110), 3) := by decide +kernel
theorem dX7_differentTranslations_117 : decode cX7_differentTranslations 117 = .ok (.iload_n 1, 1) := by decide +kernel
theorem dX7_differentTranslations_118 : decode cX7_differentTranslations 118 = .ok (.ireturn, 1) := by decide +kernel
theorem dX7_translations_0 : decode cX7_translations 0 = .ok (.aload_n 0, 1) := by decide +kernel
theorem dX7_translations_1 : decode cX7_translations 1 = .ok (.invokevirtual 112, 3) := by decide +kernel
theorem dX7_translations_4 : decode cX7_translations 4 = .ok (.ireturn, 1) := by decide +kernel
theorem dX7_unpacks_0 : decode cX7_unpacks 0 = .ok (.iload_n 1, 1) := by decide +kernel
theorem dX7_unpacks_1 : decode cX7_unpacks 1 = .ok (.istore_n 2, 1) := by decide +kernel
theorem dX7_unpacks_2 : decode cX7_unpacks 2 = .ok (.aload_n 0, 1) := by decide +kernel
theorem dX7_unpacks_3 : decode cX7_unpacks 3 = .ok (.getfield 7, 3) := by decide +kernel
theorem dX7_unpacks_6 : decode cX7_unpacks 6 = .ok (.iconst 0, 1) := by decide +kernel
theorem dX7_unpacks_7 : decode cX7_unpacks 7 = .ok (.iaload, 1) := by decide +kernel
theorem dX7_unpacks_8 : decode cX7_unpacks 8 = .ok (.iconst 1, 1) := by decide +kernel
theorem dX7_unpacks_9 : decode cX7_unpacks 9 = .ok (.isub, 1) := by decide +kernel
theorem dX7_unpacks_10 : decode cX7_unpacks 10 = .ok (.istore_n 3, 1) := by decide +kernel
theorem dX7_unpacks_11 : decode cX7_unpacks 11 = .ok (.iload_n 3, 1) := by decide +kernel
theorem dX7_unpacks_12 : decode cX7_unpacks 12 = .ok (.ifCond .lt 24, 3) := by decide +kernel
theorem dX7_unpacks_15 : decode cX7_unpacks 15 = .ok (.aload_n 0, 1) := by decide +kernel
theorem dX7_unpacks_16 : decode cX7_unpacks 16 = .ok (.getfield 22, 3) := by decide +kernel
theorem dX7_unpacks_19 : decode cX7_unpacks 19 = .ok (.iload_n 3, 1) := by decide +kernel
theorem dX7_unpacks_20 : decode cX7_unpacks 20 = .ok (.iload_n 2, 1) := by decide +kernel
theorem dX7_unpacks_21 : decode cX7_unpacks 21 = .ok (.bipush 6, 2) := by decide +kernel
theorem dX7_unpacks_23 : decode cX7_unpacks 23 = .ok (.irem, 1) := by decide +kernel
theorem dX7_unpacks_24 : decode cX7_unpacks 24 = .ok (.iastore, 1) := by decide +kernel
theorem dX7_unpacks_25 : decode cX7_unpacks 25 = .ok (.iload_n 2, 1) := by decide +kernel
theorem dX7_unpacks_26 : decode cX7_unpacks 26 = .ok (.bipush 6, 2) := by decide +kernel
theorem dX7_unpacks_28 : decode cX7_unpacks 28 = .ok (.idiv, 1) := by decide +kernel
theorem dX7_unpacks_29 : decode cX7_unpacks 29 = .ok (.istore_n 2, 1) := by decide +kernel
theorem dX7_unpacks_30 : decode cX7_unpacks 30 = .ok (.iinc 3 (-1), 3) := by decide +kernel
theorem dX7_unpacks_33 : decode cX7_unpacks 33 = .ok (.goto (-22), 3) := by decide +kernel
theorem dX7_unpacks_36 : decode cX7_unpacks 36 = .ok (.return_, 1) := by decide +kernel
theorem dX7_packed_0 : decode cX7_packed 0 = .ok (.iconst 0, 1) := by decide +kernel
theorem dX7_packed_1 : decode cX7_packed 1 = .ok (.istore_n 2, 1) := by decide +kernel
theorem dX7_packed_2 : decode cX7_packed 2 = .ok (.iconst 0, 1) := by decide +kernel
theorem dX7_packed_3 : decode cX7_packed 3 = .ok (.istore_n 3, 1) := by decide +kernel
theorem dX7_packed_4 : decode cX7_packed 4 = .ok (.iload_n 3, 1) := by decide +kernel
theorem dX7_packed_5 : decode cX7_packed 5 = .ok (.aload_n 0, 1) := by decide +kernel
theorem dX7_packed_6 : decode cX7_packed 6 = .ok (.getfield 7, 3) := by decide +kernel
theorem dX7_packed_9 : decode cX7_packed 9 = .ok (.iconst 0, 1) := by decide +kernel
theorem dX7_packed_10 : decode cX7_packed 10 = .ok (.iaload, 1) := by decide +kernel
theorem dX7_packed_11 : decode cX7_packed 11 = .ok (.if_icmp .ge 26, 3) := by decide +kernel
theorem dX7_packed_14 : decode cX7_packed 14 = .ok (.bipush 6, 2) := by decide +kernel
theorem dX7_packed_16 : decode cX7_packed 16 = .ok (.iload_n 2, 1) := by decide +kernel
theorem dX7_packed_17 : decode cX7_packed 17 = .ok (.imul, 1) := by decide +kernel
theorem dX7_packed_18 : decode cX7_packed 18 = .ok (.aload_n 0, 1) := by decide +kernel
theorem dX7_packed_19 : decode cX7_packed 19 = .ok (.aload_n 0, 1) := by decide +kernel
theorem dX7_packed_20 : decode cX7_packed 20 = .ok (.getfield 22, 3) := by decide +kernel
theorem dX7_packed_23 : decode cX7_packed 23 = .ok (.iload_n 3, 1) := by decide +kernel
theorem dX7_packed_24 : decode cX7_packed 24 = .ok (.iaload, 1) := by decide +kernel
theorem dX7_packed_25 : decode cX7_packed 25 = .ok (.iload_n 1, 1) := by decide +kernel
theorem dX7_packed_26 : decode cX7_packed 26 = .ok (.invokevirtual 67, 3) := by decide +kernel
theorem dX7_packed_29 : decode cX7_packed 29 = .ok (.iadd, 1) := by decide +kernel
theorem dX7_packed_30 : decode cX7_packed 30 = .ok (.istore_n 2, 1) := by decide +kernel
theorem dX7_packed_31 : decode cX7_packed 31 = .ok (.iinc 3 1, 3) := by decide +kernel
theorem dX7_packed_34 : decode cX7_packed 34 = .ok (.goto (-30), 3) := by decide +kernel
theorem dX7_packed_37 : decode cX7_packed 37 = .ok (.iload_n 2, 1) := by decide +kernel
theorem dX7_packed_38 : decode cX7_packed 38 = .ok (.ireturn, 1) := by decide +kernel
theorem dX7_keepsFound_0 : decode cX7_keepsFound 0 = .ok (.iconst 1, 1) := by decide +kernel
theorem dX7_keepsFound_1 : decode cX7_keepsFound 1 = .ok (.istore_n 2, 1) := by decide +kernel
theorem dX7_keepsFound_2 : decode cX7_keepsFound 2 = .ok (.iconst 0, 1) := by decide +kernel
theorem dX7_keepsFound_3 : decode cX7_keepsFound 3 = .ok (.istore_n 3, 1) := by decide +kernel
theorem dX7_keepsFound_4 : decode cX7_keepsFound 4 = .ok (.iload_n 3, 1) := by decide +kernel
theorem dX7_keepsFound_5 : decode cX7_keepsFound 5 = .ok (.aload_n 0, 1) := by decide +kernel
theorem dX7_keepsFound_6 : decode cX7_keepsFound 6 = .ok (.getfield 115, 3) := by decide +kernel
theorem dX7_keepsFound_9 : decode cX7_keepsFound 9 = .ok (.if_icmp .ge 29, 3) := by decide +kernel
theorem dX7_keepsFound_12 : decode cX7_keepsFound 12 = .ok (.iload_n 2, 1) := by decide +kernel
theorem dX7_keepsFound_13 : decode cX7_keepsFound 13 = .ok (.ifCond .eq 17, 3) := by decide +kernel
theorem dX7_keepsFound_16 : decode cX7_keepsFound 16 = .ok (.aload_n 0, 1) := by decide +kernel
theorem dX7_keepsFound_17 : decode cX7_keepsFound 17 = .ok (.getfield 19, 3) := by decide +kernel
theorem dX7_keepsFound_20 : decode cX7_keepsFound 20 = .ok (.iload_n 3, 1) := by decide +kernel
theorem dX7_keepsFound_21 : decode cX7_keepsFound 21 = .ok (.iaload, 1) := by decide +kernel
theorem dX7_keepsFound_22 : decode cX7_keepsFound 22 = .ok (.iload_n 1, 1) := by decide +kernel
theorem dX7_keepsFound_23 : decode cX7_keepsFound 23 = .ok (.if_icmp .eq 7, 3) := by decide +kernel
theorem dX7_keepsFound_26 : decode cX7_keepsFound 26 = .ok (.iconst 1, 1) := by decide +kernel
theorem dX7_keepsFound_27 : decode cX7_keepsFound 27 = .ok (.goto 4, 3) := by decide +kernel
theorem dX7_keepsFound_30 : decode cX7_keepsFound 30 = .ok (.iconst 0, 1) := by decide +kernel
theorem dX7_keepsFound_31 : decode cX7_keepsFound 31 = .ok (.istore_n 2, 1) := by decide +kernel
theorem dX7_keepsFound_32 : decode cX7_keepsFound 32 = .ok (.iinc 3 1, 3) := by decide +kernel
theorem dX7_keepsFound_35 : decode cX7_keepsFound 35 = .ok (.goto (-31), 3) := by decide +kernel
theorem dX7_keepsFound_38 : decode cX7_keepsFound 38 = .ok (.iload_n 2, 1) := by decide +kernel
theorem dX7_keepsFound_39 : decode cX7_keepsFound 39 = .ok (.ifCond .eq 23, 3) := by decide +kernel
theorem dX7_keepsFound_42 : decode cX7_keepsFound 42 = .ok (.aload_n 0, 1) := by decide +kernel
theorem dX7_keepsFound_43 : decode cX7_keepsFound 43 = .ok (.getfield 19, 3) := by decide +kernel
theorem dX7_keepsFound_46 : decode cX7_keepsFound 46 = .ok (.aload_n 0, 1) := by decide +kernel
theorem dX7_keepsFound_47 : decode cX7_keepsFound 47 = .ok (.getfield 115, 3) := by decide +kernel
theorem dX7_keepsFound_50 : decode cX7_keepsFound 50 = .ok (.iload_n 1, 1) := by decide +kernel
theorem dX7_keepsFound_51 : decode cX7_keepsFound 51 = .ok (.iastore, 1) := by decide +kernel
theorem dX7_keepsFound_52 : decode cX7_keepsFound 52 = .ok (.aload_n 0, 1) := by decide +kernel
theorem dX7_keepsFound_53 : decode cX7_keepsFound 53 = .ok (.dup, 1) := by decide +kernel
theorem dX7_keepsFound_54 : decode cX7_keepsFound 54 = .ok (.getfield 115, 3) := by decide +kernel
theorem dX7_keepsFound_57 : decode cX7_keepsFound 57 = .ok (.iconst 1, 1) := by decide +kernel
theorem dX7_keepsFound_58 : decode cX7_keepsFound 58 = .ok (.iadd, 1) := by decide +kernel
theorem dX7_keepsFound_59 : decode cX7_keepsFound 59 = .ok (.putfield 115, 3) := by decide +kernel
theorem dX7_keepsFound_62 : decode cX7_keepsFound 62 = .ok (.return_, 1) := by decide +kernel
theorem dX7_groupSize_0 : decode cX7_groupSize 0 = .ok (.aload_n 0, 1) := by decide +kernel
theorem dX7_groupSize_1 : decode cX7_groupSize 1 = .ok (.invokevirtual 81, 3) := by decide +kernel
theorem dX7_groupSize_4 : decode cX7_groupSize 4 = .ok (.bipush (-6), 2) := by decide +kernel
theorem dX7_groupSize_6 : decode cX7_groupSize 6 = .ok (.if_icmp .eq 6, 3) := by decide +kernel
theorem dX7_groupSize_9 : decode cX7_groupSize 9 = .ok (.bipush (-6), 2) := by decide +kernel
theorem dX7_groupSize_11 : decode cX7_groupSize 11 = .ok (.ireturn, 1) := by decide +kernel
theorem dX7_groupSize_12 : decode cX7_groupSize 12 = .ok (.iconst 0, 1) := by decide +kernel
theorem dX7_groupSize_13 : decode cX7_groupSize 13 = .ok (.istore_n 1, 1) := by decide +kernel
theorem dX7_groupSize_14 : decode cX7_groupSize 14 = .ok (.iconst 0, 1) := by decide +kernel
theorem dX7_groupSize_15 : decode cX7_groupSize 15 = .ok (.istore_n 2, 1) := by decide +kernel
theorem dX7_groupSize_16 : decode cX7_groupSize 16 = .ok (.iload_n 2, 1) := by decide +kernel
theorem dX7_groupSize_17 : decode cX7_groupSize 17 = .ok (.aload_n 0, 1) := by decide +kernel
theorem dX7_groupSize_18 : decode cX7_groupSize 18 = .ok (.getfield 7, 3) := by decide +kernel
theorem dX7_groupSize_21 : decode cX7_groupSize 21 = .ok (.iconst 0, 1) := by decide +kernel
theorem dX7_groupSize_22 : decode cX7_groupSize 22 = .ok (.iaload, 1) := by decide +kernel
theorem dX7_groupSize_23 : decode cX7_groupSize 23 = .ok (.if_icmp .ge 16, 3) := by decide +kernel
theorem dX7_groupSize_26 : decode cX7_groupSize 26 = .ok (.bipush 6, 2) := by decide +kernel
theorem dX7_groupSize_28 : decode cX7_groupSize 28 = .ok (.iload_n 1, 1) := by decide +kernel
theorem dX7_groupSize_29 : decode cX7_groupSize 29 = .ok (.imul, 1) := by decide +kernel
theorem dX7_groupSize_30 : decode cX7_groupSize 30 = .ok (.iload_n 2, 1) := by decide +kernel
theorem dX7_groupSize_31 : decode cX7_groupSize 31 = .ok (.iadd, 1) := by decide +kernel
theorem dX7_groupSize_32 : decode cX7_groupSize 32 = .ok (.istore_n 1, 1) := by decide +kernel
theorem dX7_groupSize_33 : decode cX7_groupSize 33 = .ok (.iinc 2 1, 3) := by decide +kernel
theorem dX7_groupSize_36 : decode cX7_groupSize 36 = .ok (.goto (-20), 3) := by decide +kernel
theorem dX7_groupSize_39 : decode cX7_groupSize 39 = .ok (.aload_n 0, 1) := by decide +kernel
theorem dX7_groupSize_40 : decode cX7_groupSize 40 = .ok (.iconst 0, 1) := by decide +kernel
theorem dX7_groupSize_41 : decode cX7_groupSize 41 = .ok (.putfield 115, 3) := by decide +kernel
theorem dX7_groupSize_44 : decode cX7_groupSize 44 = .ok (.aload_n 0, 1) := by decide +kernel
theorem dX7_groupSize_45 : decode cX7_groupSize 45 = .ok (.iload_n 1, 1) := by decide +kernel
theorem dX7_groupSize_46 : decode cX7_groupSize 46 = .ok (.invokevirtual 118, 3) := by decide +kernel
theorem dX7_groupSize_49 : decode cX7_groupSize 49 = .ok (.iconst 0, 1) := by decide +kernel
theorem dX7_groupSize_50 : decode cX7_groupSize 50 = .ok (.istore_n 2, 1) := by decide +kernel
theorem dX7_groupSize_51 : decode cX7_groupSize 51 = .ok (.iload_n 2, 1) := by decide +kernel
theorem dX7_groupSize_52 : decode cX7_groupSize 52 = .ok (.aload_n 0, 1) := by decide +kernel
theorem dX7_groupSize_53 : decode cX7_groupSize 53 = .ok (.getfield 115, 3) := by decide +kernel
theorem dX7_groupSize_56 : decode cX7_groupSize 56 = .ok (.if_icmp .ge 46, 3) := by decide +kernel
theorem dX7_groupSize_59 : decode cX7_groupSize 59 = .ok (.iconst 0, 1) := by decide +kernel
theorem dX7_groupSize_60 : decode cX7_groupSize 60 = .ok (.istore_n 3, 1) := by decide +kernel
theorem dX7_groupSize_61 : decode cX7_groupSize 61 = .ok (.iload_n 3, 1) := by decide +kernel
theorem dX7_groupSize_62 : decode cX7_groupSize 62 = .ok (.aload_n 0, 1) := by decide +kernel
theorem dX7_groupSize_63 : decode cX7_groupSize 63 = .ok (.getfield 7, 3) := by decide +kernel
theorem dX7_groupSize_66 : decode cX7_groupSize 66 = .ok (.iconst 0, 1) := by decide +kernel
theorem dX7_groupSize_67 : decode cX7_groupSize 67 = .ok (.iaload, 1) := by decide +kernel
theorem dX7_groupSize_68 : decode cX7_groupSize 68 = .ok (.if_icmp .ge 28, 3) := by decide +kernel
theorem dX7_groupSize_71 : decode cX7_groupSize 71 = .ok (.aload_n 0, 1) := by decide +kernel
theorem dX7_groupSize_72 : decode cX7_groupSize 72 = .ok (.aload_n 0, 1) := by decide +kernel
theorem dX7_groupSize_73 : decode cX7_groupSize 73 = .ok (.getfield 19, 3) := by decide +kernel
theorem dX7_groupSize_76 : decode cX7_groupSize 76 = .ok (.iload_n 2, 1) := by decide +kernel
theorem dX7_groupSize_77 : decode cX7_groupSize 77 = .ok (.iaload, 1) := by decide +kernel
theorem dX7_groupSize_78 : decode cX7_groupSize 78 = .ok (.invokevirtual 121, 3) := by decide +kernel
theorem dX7_groupSize_81 : decode cX7_groupSize 81 = .ok (.aload_n 0, 1) := by decide +kernel
theorem dX7_groupSize_82 : decode cX7_groupSize 82 = .ok (.aload_n 0, 1) := by decide +kernel
theorem dX7_groupSize_83 : decode cX7_groupSize 83 = .ok (.iload_n 3, 1) := by decide +kernel
theorem dX7_groupSize_84 : decode cX7_groupSize 84 = .ok (.invokevirtual 124, 3) := by decide +kernel
theorem dX7_groupSize_87 : decode cX7_groupSize 87 = .ok (.invokevirtual 118, 3) := by decide +kernel
theorem dX7_groupSize_90 : decode cX7_groupSize 90 = .ok (.iinc 3 1, 3) := by decide +kernel
theorem dX7_groupSize_93 : decode cX7_groupSize 93 = .ok (.goto (-32), 3) := by decide +kernel
theorem dX7_groupSize_96 : decode cX7_groupSize 96 = .ok (.iinc 2 1, 3) := by decide +kernel
theorem dX7_groupSize_99 : decode cX7_groupSize 99 = .ok (.goto (-48), 3) := by decide +kernel
theorem dX7_groupSize_102 : decode cX7_groupSize 102 = .ok (.aload_n 0, 1) := by decide +kernel
theorem dX7_groupSize_103 : decode cX7_groupSize 103 = .ok (.getfield 115, 3) := by decide +kernel
theorem dX7_groupSize_106 : decode cX7_groupSize 106 = .ok (.ireturn, 1) := by decide +kernel
theorem dX7_innerGroup_0 : decode cX7_innerGroup 0 = .ok (.aload_n 0, 1) := by decide +kernel
theorem dX7_innerGroup_1 : decode cX7_innerGroup 1 = .ok (.invokevirtual 127, 3) := by decide +kernel
theorem dX7_innerGroup_4 : decode cX7_innerGroup 4 = .ok (.ireturn, 1) := by decide +kernel
theorem dX7_isAutomorphism_0 : decode cX7_isAutomorphism 0 = .ok (.iconst 0, 1) := by decide +kernel
theorem dX7_isAutomorphism_1 : decode cX7_isAutomorphism 1 = .ok (.istore_n 1, 1) := by decide +kernel
theorem dX7_isAutomorphism_2 : decode cX7_isAutomorphism 2 = .ok (.iconst 0, 1) := by decide +kernel
theorem dX7_isAutomorphism_3 : decode cX7_isAutomorphism 3 = .ok (.istore_n 2, 1) := by decide +kernel
theorem dX7_isAutomorphism_4 : decode cX7_isAutomorphism 4 = .ok (.iload_n 2, 1) := by decide +kernel
theorem dX7_isAutomorphism_5 : decode cX7_isAutomorphism 5 = .ok (.aload_n 0, 1) := by decide +kernel
theorem dX7_isAutomorphism_6 : decode cX7_isAutomorphism 6 = .ok (.getfield 7, 3) := by decide +kernel
theorem dX7_isAutomorphism_9 : decode cX7_isAutomorphism 9 = .ok (.iconst 0, 1) := by decide +kernel
theorem dX7_isAutomorphism_10 : decode cX7_isAutomorphism 10 = .ok (.iaload, 1) := by decide +kernel
theorem dX7_isAutomorphism_11 : decode cX7_isAutomorphism 11 = .ok (.if_icmp .ge 20, 3) := by decide +kernel
theorem dX7_isAutomorphism_14 : decode cX7_isAutomorphism 14 = .ok (.iload_n 1, 1) := by decide +kernel
theorem dX7_isAutomorphism_15 : decode cX7_isAutomorphism 15 = .ok (.iconst 1, 1) := by decide +kernel
theorem dX7_isAutomorphism_16 : decode cX7_isAutomorphism 16 = .ok (.aload_n 0, 1) := by decide +kernel
theorem dX7_isAutomorphism_17 : decode cX7_isAutomorphism 17 = .ok (.getfield 22, 3) := by decide +kernel
theorem dX7_isAutomorphism_20 : decode cX7_isAutomorphism 20 = .ok (.iload_n 2, 1) := by decide +kernel
theorem dX7_isAutomorphism_21 : decode cX7_isAutomorphism 21 = .ok (.iaload, 1) := by decide +kernel
theorem dX7_isAutomorphism_22 : decode cX7_isAutomorphism 22 = .ok (.ishl, 1) := by decide +kernel
theorem dX7_isAutomorphism_23 : decode cX7_isAutomorphism 23 = .ok (.ior, 1) := by decide +kernel
theorem dX7_isAutomorphism_24 : decode cX7_isAutomorphism 24 = .ok (.istore_n 1, 1) := by decide +kernel
theorem dX7_isAutomorphism_25 : decode cX7_isAutomorphism 25 = .ok (.iinc 2 1, 3) := by decide +kernel
theorem dX7_isAutomorphism_28 : decode cX7_isAutomorphism 28 = .ok (.goto (-24), 3) := by decide +kernel
theorem dX7_isAutomorphism_31 : decode cX7_isAutomorphism 31 = .ok (.iload_n 1, 1) := by decide +kernel
theorem dX7_isAutomorphism_32 : decode cX7_isAutomorphism 32 = .ok (.iconst 1, 1) := by decide +kernel
theorem dX7_isAutomorphism_33 : decode cX7_isAutomorphism 33 = .ok (.aload_n 0, 1) := by decide +kernel
theorem dX7_isAutomorphism_34 : decode cX7_isAutomorphism 34 = .ok (.getfield 7, 3) := by decide +kernel
theorem dX7_isAutomorphism_37 : decode cX7_isAutomorphism 37 = .ok (.iconst 0, 1) := by decide +kernel
theorem dX7_isAutomorphism_38 : decode cX7_isAutomorphism 38 = .ok (.iaload, 1) := by decide +kernel
theorem dX7_isAutomorphism_39 : decode cX7_isAutomorphism 39 = .ok (.ishl, 1) := by decide +kernel
theorem dX7_isAutomorphism_40 : decode cX7_isAutomorphism 40 = .ok (.iconst 1, 1) := by decide +kernel
theorem dX7_isAutomorphism_41 : decode cX7_isAutomorphism 41 = .ok (.isub, 1) := by decide +kernel
theorem dX7_isAutomorphism_42 : decode cX7_isAutomorphism 42 = .ok (.if_icmp .ne 7, 3) := by decide +kernel
theorem dX7_isAutomorphism_45 : decode cX7_isAutomorphism 45 = .ok (.iconst 1, 1) := by decide +kernel
theorem dX7_isAutomorphism_46 : decode cX7_isAutomorphism 46 = .ok (.goto 4, 3) := by decide +kernel
theorem dX7_isAutomorphism_49 : decode cX7_isAutomorphism 49 = .ok (.iconst 0, 1) := by decide +kernel
theorem dX7_isAutomorphism_50 : decode cX7_isAutomorphism 50 = .ok (.istore_n 2, 1) := by decide +kernel
theorem dX7_isAutomorphism_51 : decode cX7_isAutomorphism 51 = .ok (.iconst 0, 1) := by decide +kernel
theorem dX7_isAutomorphism_52 : decode cX7_isAutomorphism 52 = .ok (.istore_n 3, 1) := by decide +kernel
theorem dX7_isAutomorphism_53 : decode cX7_isAutomorphism 53 = .ok (.iload_n 3, 1) := by decide +kernel
theorem dX7_isAutomorphism_54 : decode cX7_isAutomorphism 54 = .ok (.aload_n 0, 1) := by decide +kernel
theorem dX7_isAutomorphism_55 : decode cX7_isAutomorphism 55 = .ok (.getfield 7, 3) := by decide +kernel
theorem dX7_isAutomorphism_58 : decode cX7_isAutomorphism 58 = .ok (.iconst 0, 1) := by decide +kernel
theorem dX7_isAutomorphism_59 : decode cX7_isAutomorphism 59 = .ok (.iaload, 1) := by decide +kernel
theorem dX7_isAutomorphism_60 : decode cX7_isAutomorphism 60 = .ok (.if_icmp .ge 75, 3) := by decide +kernel
theorem dX7_isAutomorphism_63 : decode cX7_isAutomorphism 63 = .ok (.iload_n 2, 1) := by decide +kernel
theorem dX7_isAutomorphism_64 : decode cX7_isAutomorphism 64 = .ok (.ifCond .eq 71, 3) := by decide +kernel
theorem dX7_isAutomorphism_67 : decode cX7_isAutomorphism 67 = .ok (.iconst 0, 1) := by decide +kernel
theorem dX7_isAutomorphism_68 : decode cX7_isAutomorphism 68 = .ok (.istore 4, 2) := by decide +kernel
theorem dX7_isAutomorphism_70 : decode cX7_isAutomorphism 70 = .ok (.iload 4, 2) := by decide +kernel
theorem dX7_isAutomorphism_72 : decode cX7_isAutomorphism 72 = .ok (.aload_n 0, 1) := by decide +kernel
theorem dX7_isAutomorphism_73 : decode cX7_isAutomorphism 73 = .ok (.getfield 7, 3) := by decide +kernel
theorem dX7_isAutomorphism_76 : decode cX7_isAutomorphism 76 = .ok (.iconst 0, 1) := by decide +kernel
theorem dX7_isAutomorphism_77 : decode cX7_isAutomorphism 77 = .ok (.iaload, 1) := by decide +kernel
theorem dX7_isAutomorphism_78 : decode cX7_isAutomorphism 78 = .ok (.if_icmp .ge 51, 3) := by decide +kernel
theorem dX7_isAutomorphism_81 : decode cX7_isAutomorphism 81 = .ok (.iload_n 2, 1) := by decide +kernel
theorem dX7_isAutomorphism_82 : decode cX7_isAutomorphism 82 = .ok (.ifCond .eq 39, 3) := by decide +kernel
theorem dX7_isAutomorphism_85 : decode cX7_isAutomorphism 85 = .ok (.aload_n 0, 1) := by decide +kernel
theorem dX7_isAutomorphism_86 : decode cX7_isAutomorphism 86 = .ok (.getfield 22, 3) := by decide +kernel
theorem dX7_isAutomorphism_89 : decode cX7_isAutomorphism 89 = .ok (.aload_n 0, 1) := by decide +kernel
theorem dX7_isAutomorphism_90 : decode cX7_isAutomorphism 90 = .ok (.iload_n 3, 1) := by decide +kernel
theorem dX7_isAutomorphism_91 : decode cX7_isAutomorphism 91 = .ok (.iload 4, 2) := by decide +kernel
theorem dX7_isAutomorphism_93 : decode cX7_isAutomorphism 93 = .ok (.invokevirtual 67, 3) := by decide +kernel
theorem dX7_isAutomorphism_96 : decode cX7_isAutomorphism 96 = .ok (.iaload, 1) := by decide +kernel
theorem dX7_isAutomorphism_97 : decode cX7_isAutomorphism 97 = .ok (.aload_n 0, 1) := by decide +kernel
theorem dX7_isAutomorphism_98 : decode cX7_isAutomorphism 98 = .ok (.aload_n 0, 1) := by decide +kernel
theorem dX7_isAutomorphism_99 : decode cX7_isAutomorphism 99 = .ok (.getfield 22, 3) := by decide +kernel
theorem dX7_isAutomorphism_102 : decode cX7_isAutomorphism 102 = .ok (.iload_n 3, 1) := by decide +kernel
theorem dX7_isAutomorphism_103 : decode cX7_isAutomorphism 103 = .ok (.iaload, 1) := by decide +kernel
theorem dX7_isAutomorphism_104 : decode cX7_isAutomorphism 104 = .ok (.aload_n 0, 1) := by decide +kernel
theorem dX7_isAutomorphism_105 : decode cX7_isAutomorphism 105 = .ok (.getfield 22, 3) := by decide +kernel
theorem dX7_isAutomorphism_108 : decode cX7_isAutomorphism 108 = .ok (.iload 4, 2) := by decide +kernel
theorem dX7_isAutomorphism_110 : decode cX7_isAutomorphism 110 = .ok (.iaload, 1) := by decide +kernel
theorem dX7_isAutomorphism_111 : decode cX7_isAutomorphism 111 = .ok (.invokevirtual 67, 3) := by decide +kernel
theorem dX7_isAutomorphism_114 : decode cX7_isAutomorphism 114 = .ok (.if_icmp .ne 7, 3) := by decide +kernel
theorem dX7_isAutomorphism_117 : decode cX7_isAutomorphism 117 = .ok (.iconst 1, 1) := by decide +kernel
theorem dX7_isAutomorphism_118 : decode cX7_isAutomorphism 118 = .ok (.goto 4, 3) := by decide +kernel
theorem dX7_isAutomorphism_121 : decode cX7_isAutomorphism 121 = .ok (.iconst 0, 1) := by decide +kernel
theorem dX7_isAutomorphism_122 : decode cX7_isAutomorphism 122 = .ok (.istore_n 2, 1) := by decide +kernel
theorem dX7_isAutomorphism_123 : decode cX7_isAutomorphism 123 = .ok (.iinc 4 1, 3) := by decide +kernel
theorem dX7_isAutomorphism_126 : decode cX7_isAutomorphism 126 = .ok (.goto (-56), 3) := by decide +kernel
theorem dX7_isAutomorphism_129 : decode cX7_isAutomorphism 129 = .ok (.iinc 3 1, 3) := by decide +kernel
theorem dX7_isAutomorphism_132 : decode cX7_isAutomorphism 132 = .ok (.goto (-79), 3) := by decide +kernel
theorem dX7_isAutomorphism_135 : decode cX7_isAutomorphism 135 = .ok (.iload_n 2, 1) := by decide +kernel
theorem dX7_isAutomorphism_136 : decode cX7_isAutomorphism 136 = .ok (.ireturn, 1) := by decide +kernel
theorem dX7_automorphismsMany_0 : decode cX7_automorphismsMany 0 = .ok (.iconst 1, 1) := by decide +kernel
theorem dX7_automorphismsMany_1 : decode cX7_automorphismsMany 1 = .ok (.istore_n 1, 1) := by decide +kernel
theorem dX7_automorphismsMany_2 : decode cX7_automorphismsMany 2 = .ok (.iconst 0, 1) := by decide +kernel
theorem dX7_automorphismsMany_3 : decode cX7_automorphismsMany 3 = .ok (.istore_n 2, 1) := by decide +kernel
theorem dX7_automorphismsMany_4 : decode cX7_automorphismsMany 4 = .ok (.iload_n 2, 1) := by decide +kernel
theorem dX7_automorphismsMany_5 : decode cX7_automorphismsMany 5 = .ok (.aload_n 0, 1) := by decide +kernel
theorem dX7_automorphismsMany_6 : decode cX7_automorphismsMany 6 = .ok (.getfield 7, 3) := by decide +kernel
theorem dX7_automorphismsMany_9 : decode cX7_automorphismsMany 9 = .ok (.iconst 0, 1) := by decide +kernel
theorem dX7_automorphismsMany_10 : decode cX7_automorphismsMany 10 = .ok (.iaload, 1) := by decide +kernel
theorem dX7_automorphismsMany_11 : decode cX7_automorphismsMany 11 = .ok (.if_icmp .ge 14, 3) := by decide +kernel
theorem dX7_automorphismsMany_14 : decode cX7_automorphismsMany 14 = .ok (.iload_n 1, 1) := by decide +kernel
theorem dX7_automorphismsMany_15 : decode cX7_automorphismsMany 15 = .ok (.bipush 6, 2) := by decide +kernel
theorem dX7_automorphismsMany_17 : decode cX7_automorphismsMany 17 = .ok (.imul, 1) := by decide +kernel
theorem dX7_automorphismsMany_18 : decode cX7_automorphismsMany 18 = .ok (.istore_n 1, 1) := by decide +kernel
theorem dX7_automorphismsMany_19 : decode cX7_automorphismsMany 19 = .ok (.iinc 2 1, 3) := by decide +kernel
theorem dX7_automorphismsMany_22 : decode cX7_automorphismsMany 22 = .ok (.goto (-18), 3) := by decide +kernel
theorem dX7_automorphismsMany_25 : decode cX7_automorphismsMany 25 = .ok (.iconst 0, 1) := by decide +kernel
theorem dX7_automorphismsMany_26 : decode cX7_automorphismsMany 26 = .ok (.istore_n 2, 1) := by decide +kernel
theorem dX7_automorphismsMany_27 : decode cX7_automorphismsMany 27 = .ok (.iconst 0, 1) := by decide +kernel
theorem dX7_automorphismsMany_28 : decode cX7_automorphismsMany 28 = .ok (.istore_n 3, 1) := by decide +kernel
theorem dX7_automorphismsMany_29 : decode cX7_automorphismsMany 29 = .ok (.iload_n 3, 1) := by decide +kernel
theorem dX7_automorphismsMany_30 : decode cX7_automorphismsMany 30 = .ok (.iload_n 1, 1) := by decide +kernel
theorem dX7_automorphismsMany_31 : decode cX7_automorphismsMany 31 = .ok (.if_icmp .ge 29, 3) := by decide +kernel
theorem dX7_automorphismsMany_34 : decode cX7_automorphismsMany 34 = .ok (.aload_n 0, 1) := by decide +kernel
theorem dX7_automorphismsMany_35 : decode cX7_automorphismsMany 35 = .ok (.iload_n 3, 1) := by decide +kernel
theorem dX7_automorphismsMany_36 : decode cX7_automorphismsMany 36 = .ok (.invokevirtual 121, 3) := by decide +kernel
theorem dX7_automorphismsMany_39 : decode cX7_automorphismsMany 39 = .ok (.iload_n 2, 1) := by decide +kernel
theorem dX7_automorphismsMany_40 : decode cX7_automorphismsMany 40 = .ok (.aload_n 0, 1) := by decide +kernel
theorem dX7_automorphismsMany_41 : decode cX7_automorphismsMany 41 = .ok (.invokevirtual 130, 3) := by decide +kernel
theorem dX7_automorphismsMany_44 : decode cX7_automorphismsMany 44 = .ok (.ifCond .eq 7, 3) := by decide +kernel
theorem dX7_automorphismsMany_47 : decode cX7_automorphismsMany 47 = .ok (.iconst 1, 1) := by decide +kernel
theorem dX7_automorphismsMany_48 : decode cX7_automorphismsMany 48 = .ok (.goto 4, 3) := by decide +kernel
theorem dX7_automorphismsMany_51 : decode cX7_automorphismsMany 51 = .ok (.iconst 0, 1) := by decide +kernel
theorem dX7_automorphismsMany_52 : decode cX7_automorphismsMany 52 = .ok (.iadd, 1) := by decide +kernel
theorem dX7_automorphismsMany_53 : decode cX7_automorphismsMany 53 = .ok (.istore_n 2, 1) := by decide +kernel
theorem dX7_automorphismsMany_54 : decode cX7_automorphismsMany 54 = .ok (.iinc 3 1, 3) := by decide +kernel
theorem dX7_automorphismsMany_57 : decode cX7_automorphismsMany 57 = .ok (.goto (-28), 3) := by decide +kernel
theorem dX7_automorphismsMany_60 : decode cX7_automorphismsMany 60 = .ok (.iload_n 2, 1) := by decide +kernel
theorem dX7_automorphismsMany_61 : decode cX7_automorphismsMany 61 = .ok (.ireturn, 1) := by decide +kernel
theorem dX7_automorphisms_0 : decode cX7_automorphisms 0 = .ok (.aload_n 0, 1) := by decide +kernel
theorem dX7_automorphisms_1 : decode cX7_automorphisms 1 = .ok (.invokevirtual 134, 3) := by decide +kernel
theorem dX7_automorphisms_4 : decode cX7_automorphisms 4 = .ok (.ireturn, 1) := by decide +kernel
theorem dX7_isArc_0 : decode cX7_isArc 0 = .ok (.iload_n 1, 1) := by decide +kernel
theorem dX7_isArc_1 : decode cX7_isArc 1 = .ok (.iconst 0, 1) := by decide +kernel
theorem dX7_isArc_2 : decode cX7_isArc 2 = .ok (.aload_n 0, 1) := by decide +kernel
theorem dX7_isArc_3 : decode cX7_isArc 3 = .ok (.getfield 7, 3) := by decide +kernel
theorem dX7_isArc_6 : decode cX7_isArc 6 = .ok (.bipush 37, 2) := by decide +kernel
theorem dX7_isArc_8 : decode cX7_isArc 8 = .ok (.iaload, 1) := by decide +kernel
theorem dX7_isArc_9 : decode cX7_isArc 9 = .ok (.iconst 1, 1) := by decide +kernel
theorem dX7_isArc_10 : decode cX7_isArc 10 = .ok (.isub, 1) := by decide +kernel
theorem dX7_isArc_11 : decode cX7_isArc 11 = .ok (.invokestatic 35, 3) := by decide +kernel
theorem dX7_isArc_14 : decode cX7_isArc 14 = .ok (.ireturn, 1) := by decide +kernel
theorem dX7_isCrossing_0 : decode cX7_isCrossing 0 = .ok (.iload_n 1, 1) := by decide +kernel
theorem dX7_isCrossing_1 : decode cX7_isCrossing 1 = .ok (.iconst 0, 1) := by decide +kernel
theorem dX7_isCrossing_2 : decode cX7_isCrossing 2 = .ok (.aload_n 0, 1) := by decide +kernel
theorem dX7_isCrossing_3 : decode cX7_isCrossing 3 = .ok (.getfield 7, 3) := by decide +kernel
theorem dX7_isCrossing_6 : decode cX7_isCrossing 6 = .ok (.bipush 38, 2) := by decide +kernel
theorem dX7_isCrossing_8 : decode cX7_isCrossing 8 = .ok (.iaload, 1) := by decide +kernel
theorem dX7_isCrossing_9 : decode cX7_isCrossing 9 = .ok (.iconst 1, 1) := by decide +kernel
theorem dX7_isCrossing_10 : decode cX7_isCrossing 10 = .ok (.isub, 1) := by decide +kernel
theorem dX7_isCrossing_11 : decode cX7_isCrossing 11 = .ok (.invokestatic 35, 3) := by decide +kernel
theorem dX7_isCrossing_14 : decode cX7_isCrossing 14 = .ok (.ireturn, 1) := by decide +kernel
theorem dX7_crossingPart_0 : decode cX7_crossingPart 0 = .ok (.aload_n 0, 1) := by decide +kernel
theorem dX7_crossingPart_1 : decode cX7_crossingPart 1 = .ok (.getfield 7, 3) := by decide +kernel
theorem dX7_crossingPart_4 : decode cX7_crossingPart 4 = .ok (.bipush 39, 2) := by decide +kernel
theorem dX7_crossingPart_6 : decode cX7_crossingPart 6 = .ok (.iconst 4, 1) := by decide +kernel
theorem dX7_crossingPart_7 : decode cX7_crossingPart 7 = .ok (.iload_n 1, 1) := by decide +kernel
theorem dX7_crossingPart_8 : decode cX7_crossingPart 8 = .ok (.imul, 1) := by decide +kernel
theorem dX7_crossingPart_9 : decode cX7_crossingPart 9 = .ok (.iadd, 1) := by decide +kernel
theorem dX7_crossingPart_10 : decode cX7_crossingPart 10 = .ok (.iload_n 2, 1) := by decide +kernel
theorem dX7_crossingPart_11 : decode cX7_crossingPart 11 = .ok (.iadd, 1) := by decide +kernel
theorem dX7_crossingPart_12 : decode cX7_crossingPart 12 = .ok (.iaload, 1) := by decide +kernel
theorem dX7_crossingPart_13 : decode cX7_crossingPart 13 = .ok (.ireturn, 1) := by decide +kernel
theorem dX7_adds_0 : decode cX7_adds 0 = .ok (.bipush 39, 2) := by decide +kernel
theorem dX7_adds_2 : decode cX7_adds 2 = .ok (.iconst 4, 1) := by decide +kernel
theorem dX7_adds_3 : decode cX7_adds 3 = .ok (.aload_n 0, 1) := by decide +kernel
theorem dX7_adds_4 : decode cX7_adds 4 = .ok (.getfield 7, 3) := by decide +kernel
theorem dX7_adds_7 : decode cX7_adds 7 = .ok (.bipush 38, 2) := by decide +kernel
theorem dX7_adds_9 : decode cX7_adds 9 = .ok (.iaload, 1) := by decide +kernel
theorem dX7_adds_10 : decode cX7_adds 10 = .ok (.imul, 1) := by decide +kernel
theorem dX7_adds_11 : decode cX7_adds 11 = .ok (.iadd, 1) := by decide +kernel
theorem dX7_adds_12 : decode cX7_adds 12 = .ok (.istore 5, 2) := by decide +kernel
theorem dX7_adds_14 : decode cX7_adds 14 = .ok (.aload_n 0, 1) := by decide +kernel
theorem dX7_adds_15 : decode cX7_adds 15 = .ok (.getfield 7, 3) := by decide +kernel
theorem dX7_adds_18 : decode cX7_adds 18 = .ok (.iload 5, 2) := by decide +kernel
theorem dX7_adds_20 : decode cX7_adds 20 = .ok (.iconst 0, 1) := by decide +kernel
theorem dX7_adds_21 : decode cX7_adds 21 = .ok (.iadd, 1) := by decide +kernel
theorem dX7_adds_22 : decode cX7_adds 22 = .ok (.iload_n 1, 1) := by decide +kernel
theorem dX7_adds_23 : decode cX7_adds 23 = .ok (.iastore, 1) := by decide +kernel
theorem dX7_adds_24 : decode cX7_adds 24 = .ok (.aload_n 0, 1) := by decide +kernel
theorem dX7_adds_25 : decode cX7_adds 25 = .ok (.getfield 7, 3) := by decide +kernel
theorem dX7_adds_28 : decode cX7_adds 28 = .ok (.iload 5, 2) := by decide +kernel
theorem dX7_adds_30 : decode cX7_adds 30 = .ok (.iconst 1, 1) := by decide +kernel
theorem dX7_adds_31 : decode cX7_adds 31 = .ok (.iadd, 1) := by decide +kernel
theorem dX7_adds_32 : decode cX7_adds 32 = .ok (.iload_n 2, 1) := by decide +kernel
theorem dX7_adds_33 : decode cX7_adds 33 = .ok (.iastore, 1) := by decide +kernel
theorem dX7_adds_34 : decode cX7_adds 34 = .ok (.aload_n 0, 1) := by decide +kernel
theorem dX7_adds_35 : decode cX7_adds 35 = .ok (.getfield 7, 3) := by decide +kernel
theorem dX7_adds_38 : decode cX7_adds 38 = .ok (.iload 5, 2) := by decide +kernel
theorem dX7_adds_40 : decode cX7_adds 40 = .ok (.iconst 2, 1) := by decide +kernel
theorem dX7_adds_41 : decode cX7_adds 41 = .ok (.iadd, 1) := by decide +kernel
theorem dX7_adds_42 : decode cX7_adds 42 = .ok (.iload_n 3, 1) := by decide +kernel
theorem dX7_adds_43 : decode cX7_adds 43 = .ok (.iastore, 1) := by decide +kernel
theorem dX7_adds_44 : decode cX7_adds 44 = .ok (.aload_n 0, 1) := by decide +kernel
theorem dX7_adds_45 : decode cX7_adds 45 = .ok (.getfield 7, 3) := by decide +kernel
theorem dX7_adds_48 : decode cX7_adds 48 = .ok (.iload 5, 2) := by decide +kernel
theorem dX7_adds_50 : decode cX7_adds 50 = .ok (.iconst 3, 1) := by decide +kernel
theorem dX7_adds_51 : decode cX7_adds 51 = .ok (.iadd, 1) := by decide +kernel
theorem dX7_adds_52 : decode cX7_adds 52 = .ok (.iload 4, 2) := by decide +kernel
theorem dX7_adds_54 : decode cX7_adds 54 = .ok (.iastore, 1) := by decide +kernel
theorem dX7_adds_55 : decode cX7_adds 55 = .ok (.aload_n 0, 1) := by decide +kernel
theorem dX7_adds_56 : decode cX7_adds 56 = .ok (.getfield 7, 3) := by decide +kernel
theorem dX7_adds_59 : decode cX7_adds 59 = .ok (.bipush 38, 2) := by decide +kernel
theorem dX7_adds_61 : decode cX7_adds 61 = .ok (.dup2, 1) := by decide +kernel
theorem dX7_adds_62 : decode cX7_adds 62 = .ok (.iaload, 1) := by decide +kernel
theorem dX7_adds_63 : decode cX7_adds 63 = .ok (.iconst 1, 1) := by decide +kernel
theorem dX7_adds_64 : decode cX7_adds 64 = .ok (.iadd, 1) := by decide +kernel
theorem dX7_adds_65 : decode cX7_adds 65 = .ok (.iastore, 1) := by decide +kernel
theorem dX7_adds_66 : decode cX7_adds 66 = .ok (.return_, 1) := by decide +kernel
theorem dX7_clears_0 : decode cX7_clears 0 = .ok (.aload_n 0, 1) := by decide +kernel
theorem dX7_clears_1 : decode cX7_clears 1 = .ok (.getfield 7, 3) := by decide +kernel
theorem dX7_clears_4 : decode cX7_clears 4 = .ok (.bipush 37, 2) := by decide +kernel
theorem dX7_clears_6 : decode cX7_clears 6 = .ok (.iload_n 1, 1) := by decide +kernel
theorem dX7_clears_7 : decode cX7_clears 7 = .ok (.iastore, 1) := by decide +kernel
theorem dX7_clears_8 : decode cX7_clears 8 = .ok (.aload_n 0, 1) := by decide +kernel
theorem dX7_clears_9 : decode cX7_clears 9 = .ok (.getfield 7, 3) := by decide +kernel
theorem dX7_clears_12 : decode cX7_clears 12 = .ok (.bipush 38, 2) := by decide +kernel
theorem dX7_clears_14 : decode cX7_clears 14 = .ok (.iconst 0, 1) := by decide +kernel
theorem dX7_clears_15 : decode cX7_clears 15 = .ok (.iastore, 1) := by decide +kernel
theorem dX7_clears_16 : decode cX7_clears 16 = .ok (.bipush 39, 2) := by decide +kernel
theorem dX7_clears_18 : decode cX7_clears 18 = .ok (.istore_n 2, 1) := by decide +kernel
theorem dX7_clears_19 : decode cX7_clears 19 = .ok (.iload_n 2, 1) := by decide +kernel
theorem dX7_clears_20 : decode cX7_clears 20 = .ok (.bipush 79, 2) := by decide +kernel
theorem dX7_clears_22 : decode cX7_clears 22 = .ok (.if_icmp .ge 16, 3) := by decide +kernel
theorem dX7_clears_25 : decode cX7_clears 25 = .ok (.aload_n 0, 1) := by decide +kernel
theorem dX7_clears_26 : decode cX7_clears 26 = .ok (.getfield 7, 3) := by decide +kernel
theorem dX7_clears_29 : decode cX7_clears 29 = .ok (.iload_n 2, 1) := by decide +kernel
theorem dX7_clears_30 : decode cX7_clears 30 = .ok (.iconst 0, 1) := by decide +kernel
theorem dX7_clears_31 : decode cX7_clears 31 = .ok (.iastore, 1) := by decide +kernel
theorem dX7_clears_32 : decode cX7_clears 32 = .ok (.iinc 2 1, 3) := by decide +kernel
theorem dX7_clears_35 : decode cX7_clears 35 = .ok (.goto (-16), 3) := by decide +kernel
theorem dX7_clears_38 : decode cX7_clears 38 = .ok (.return_, 1) := by decide +kernel
theorem dX7_newDiagram_0 : decode cX7_newDiagram 0 = .ok (.iload_n 1, 1) := by decide +kernel
theorem dX7_newDiagram_1 : decode cX7_newDiagram 1 = .ok (.iconst 1, 1) := by decide +kernel
theorem dX7_newDiagram_2 : decode cX7_newDiagram 2 = .ok (.bipush 7, 2) := by decide +kernel
theorem dX7_newDiagram_4 : decode cX7_newDiagram 4 = .ok (.invokestatic 35, 3) := by decide +kernel
theorem dX7_newDiagram_7 : decode cX7_newDiagram 7 = .ok (.ifCond .ne 6, 3) := by decide +kernel
theorem dX7_newDiagram_10 : decode cX7_newDiagram 10 = .ok (.bipush (-2), 2) := by decide +kernel
theorem dX7_newDiagram_12 : decode cX7_newDiagram 12 = .ok (.ireturn, 1) := by decide +kernel
theorem dX7_newDiagram_13 : decode cX7_newDiagram 13 = .ok (.aload_n 0, 1) := by decide +kernel
theorem dX7_newDiagram_14 : decode cX7_newDiagram 14 = .ok (.invokevirtual 39, 3) := by decide +kernel
theorem dX7_newDiagram_17 : decode cX7_newDiagram 17 = .ok (.aload_n 0, 1) := by decide +kernel
theorem dX7_newDiagram_18 : decode cX7_newDiagram 18 = .ok (.getfield 7, 3) := by decide +kernel
theorem dX7_newDiagram_21 : decode cX7_newDiagram 21 = .ok (.bipush 37, 2) := by decide +kernel
theorem dX7_newDiagram_23 : decode cX7_newDiagram 23 = .ok (.iaload, 1) := by decide +kernel
theorem dX7_newDiagram_24 : decode cX7_newDiagram 24 = .ok (.istore_n 2, 1) := by decide +kernel
theorem dX7_newDiagram_25 : decode cX7_newDiagram 25 = .ok (.aload_n 0, 1) := by decide +kernel
theorem dX7_newDiagram_26 : decode cX7_newDiagram 26 = .ok (.iload_n 1, 1) := by decide +kernel
theorem dX7_newDiagram_27 : decode cX7_newDiagram 27 = .ok (.invokevirtual 137, 3) := by decide +kernel
theorem dX7_newDiagram_30 : decode cX7_newDiagram 30 = .ok (.iload_n 2, 1) := by decide +kernel
theorem dX7_newDiagram_31 : decode cX7_newDiagram 31 = .ok (.ireturn, 1) := by decide +kernel
theorem dX7_standard_0 : decode cX7_standard 0 = .ok (.iload_n 1, 1) := by decide +kernel
theorem dX7_standard_1 : decode cX7_standard 1 = .ok (.iconst 0, 1) := by decide +kernel
theorem dX7_standard_2 : decode cX7_standard 2 = .ok (.iconst 5, 1) := by decide +kernel
theorem dX7_standard_3 : decode cX7_standard 3 = .ok (.invokestatic 35, 3) := by decide +kernel
theorem dX7_standard_6 : decode cX7_standard 6 = .ok (.ifCond .ne 5, 3) := by decide +kernel
theorem dX7_standard_9 : decode cX7_standard 9 = .ok (.iconst (-1), 1) := by decide +kernel
theorem dX7_standard_10 : decode cX7_standard 10 = .ok (.ireturn, 1) := by decide +kernel
theorem dX7_standard_11 : decode cX7_standard 11 = .ok (.aload_n 0, 1) := by decide +kernel
theorem dX7_standard_12 : decode cX7_standard 12 = .ok (.invokevirtual 39, 3) := by decide +kernel
theorem dX7_standard_15 : decode cX7_standard 15 = .ok (.aload_n 0, 1) := by decide +kernel
theorem dX7_standard_16 : decode cX7_standard 16 = .ok (.iload_n 1, 1) := by decide +kernel
theorem dX7_standard_17 : decode cX7_standard 17 = .ok (.ifCond .ne 7, 3) := by decide +kernel
theorem dX7_standard_20 : decode cX7_standard 20 = .ok (.iconst 1, 1) := by decide +kernel
theorem dX7_standard_21 : decode cX7_standard 21 = .ok (.goto 31, 3) := by decide +kernel
theorem dX7_standard_24 : decode cX7_standard 24 = .ok (.iload_n 1, 1) := by decide +kernel
theorem dX7_standard_25 : decode cX7_standard 25 = .ok (.iconst 1, 1) := by decide +kernel
theorem dX7_standard_26 : decode cX7_standard 26 = .ok (.if_icmp .ne 7, 3) := by decide +kernel
theorem dX7_standard_29 : decode cX7_standard 29 = .ok (.iconst 3, 1) := by decide +kernel
theorem dX7_standard_30 : decode cX7_standard 30 = .ok (.goto 22, 3) := by decide +kernel
theorem dX7_standard_33 : decode cX7_standard 33 = .ok (.iload_n 1, 1) := by decide +kernel
theorem dX7_standard_34 : decode cX7_standard 34 = .ok (.iconst 2, 1) := by decide +kernel
theorem dX7_standard_35 : decode cX7_standard 35 = .ok (.if_icmp .ne 7, 3) := by decide +kernel
theorem dX7_standard_38 : decode cX7_standard 38 = .ok (.iconst 4, 1) := by decide +kernel
theorem dX7_standard_39 : decode cX7_standard 39 = .ok (.goto 13, 3) := by decide +kernel
theorem dX7_standard_42 : decode cX7_standard 42 = .ok (.iload_n 1, 1) := by decide +kernel
theorem dX7_standard_43 : decode cX7_standard 43 = .ok (.iconst 3, 1) := by decide +kernel
theorem dX7_standard_44 : decode cX7_standard 44 = .ok (.if_icmp .ne 7, 3) := by decide +kernel
theorem dX7_standard_47 : decode cX7_standard 47 = .ok (.iconst 5, 1) := by decide +kernel
theorem dX7_standard_48 : decode cX7_standard 48 = .ok (.goto 4, 3) := by decide +kernel
theorem dX7_standard_51 : decode cX7_standard 51 = .ok (.iconst 2, 1) := by decide +kernel
theorem dX7_standard_52 : decode cX7_standard 52 = .ok (.invokevirtual 137, 3) := by decide +kernel
theorem dX7_standard_55 : decode cX7_standard 55 = .ok (.iload_n 1, 1) := by decide +kernel
theorem dX7_standard_56 : decode cX7_standard 56 = .ok (.tableswitch 156 1 4 #[32, 59, 94, 137], 32) := by decide +kernel
theorem dX7_standard_88 : decode cX7_standard 88 = .ok (.aload_n 0, 1) := by decide +kernel
theorem dX7_standard_89 : decode cX7_standard 89 = .ok (.iconst 0, 1) := by decide +kernel
theorem dX7_standard_90 : decode cX7_standard 90 = .ok (.iconst 1, 1) := by decide +kernel
theorem dX7_standard_91 : decode cX7_standard 91 = .ok (.iconst 2, 1) := by decide +kernel
theorem dX7_standard_92 : decode cX7_standard 92 = .ok (.iconst 1, 1) := by decide +kernel
theorem dX7_standard_93 : decode cX7_standard 93 = .ok (.invokevirtual 140, 3) := by decide +kernel
theorem dX7_standard_96 : decode cX7_standard 96 = .ok (.aload_n 0, 1) := by decide +kernel
theorem dX7_standard_97 : decode cX7_standard 97 = .ok (.iconst 1, 1) := by decide +kernel
theorem dX7_standard_98 : decode cX7_standard 98 = .ok (.iconst 2, 1) := by decide +kernel
theorem dX7_standard_99 : decode cX7_standard 99 = .ok (.iconst 0, 1) := by decide +kernel
theorem dX7_standard_100 : decode cX7_standard 100 = .ok (.iconst 1, 1) := by decide +kernel
theorem dX7_standard_101 : decode cX7_standard 101 = .ok (.invokevirtual 140, 3) := by decide +kernel
theorem dX7_standard_104 : decode cX7_standard 104 = .ok (.aload_n 0, 1) := by decide +kernel
theorem dX7_standard_105 : decode cX7_standard 105 = .ok (.iconst 2, 1) := by decide +kernel
theorem dX7_standard_106 : decode cX7_standard 106 = .ok (.iconst 0, 1) := by decide +kernel
theorem dX7_standard_107 : decode cX7_standard 107 = .ok (.iconst 1, 1) := by decide +kernel
theorem dX7_standard_108 : decode cX7_standard 108 = .ok (.iconst 1, 1) := by decide +kernel
theorem dX7_standard_109 : decode cX7_standard 109 = .ok (.invokevirtual 140, 3) := by decide +kernel
theorem dX7_standard_112 : decode cX7_standard 112 = .ok (.goto 100, 3) := by decide +kernel
theorem dX7_standard_115 : decode cX7_standard 115 = .ok (.aload_n 0, 1) := by decide +kernel
theorem dX7_standard_116 : decode cX7_standard 116 = .ok (.iconst 0, 1) := by decide +kernel
theorem dX7_standard_117 : decode cX7_standard 117 = .ok (.iconst 2, 1) := by decide +kernel
theorem dX7_standard_118 : decode cX7_standard 118 = .ok (.iconst 3, 1) := by decide +kernel
theorem dX7_standard_119 : decode cX7_standard 119 = .ok (.iconst 1, 1) := by decide +kernel
theorem dX7_standard_120 : decode cX7_standard 120 = .ok (.invokevirtual 140, 3) := by decide +kernel
theorem dX7_standard_123 : decode cX7_standard 123 = .ok (.aload_n 0, 1) := by decide +kernel
theorem dX7_standard_124 : decode cX7_standard 124 = .ok (.iconst 1, 1) := by decide +kernel
theorem dX7_standard_125 : decode cX7_standard 125 = .ok (.iconst 3, 1) := by decide +kernel
theorem dX7_standard_126 : decode cX7_standard 126 = .ok (.iconst 0, 1) := by decide +kernel
theorem dX7_standard_127 : decode cX7_standard 127 = .ok (.iconst (-1), 1) := by decide +kernel
theorem dX7_standard_128 : decode cX7_standard 128 = .ok (.invokevirtual 140, 3) := by decide +kernel
theorem dX7_standard_131 : decode cX7_standard 131 = .ok (.aload_n 0, 1) := by decide +kernel
theorem dX7_standard_132 : decode cX7_standard 132 = .ok (.iconst 2, 1) := by decide +kernel
theorem dX7_standard_133 : decode cX7_standard 133 = .ok (.iconst 0, 1) := by decide +kernel
theorem dX7_standard_134 : decode cX7_standard 134 = .ok (.iconst 1, 1) := by decide +kernel
theorem dX7_standard_135 : decode cX7_standard 135 = .ok (.iconst 1, 1) := by decide +kernel
theorem dX7_standard_136 : decode cX7_standard 136 = .ok (.invokevirtual 140, 3) := by decide +kernel
theorem dX7_standard_139 : decode cX7_standard 139 = .ok (.aload_n 0, 1) := by decide +kernel
theorem dX7_standard_140 : decode cX7_standard 140 = .ok (.iconst 3, 1) := by decide +kernel
theorem dX7_standard_141 : decode cX7_standard 141 = .ok (.iconst 1, 1) := by decide +kernel
theorem dX7_standard_142 : decode cX7_standard 142 = .ok (.iconst 2, 1) := by decide +kernel
theorem dX7_standard_143 : decode cX7_standard 143 = .ok (.iconst (-1), 1) := by decide +kernel
theorem dX7_standard_144 : decode cX7_standard 144 = .ok (.invokevirtual 140, 3) := by decide +kernel
theorem dX7_standard_147 : decode cX7_standard 147 = .ok (.goto 65, 3) := by decide +kernel
theorem dX7_standard_150 : decode cX7_standard 150 = .ok (.aload_n 0, 1) := by decide +kernel
theorem dX7_standard_151 : decode cX7_standard 151 = .ok (.iconst 0, 1) := by decide +kernel
theorem dX7_standard_152 : decode cX7_standard 152 = .ok (.iconst 2, 1) := by decide +kernel
theorem dX7_standard_153 : decode cX7_standard 153 = .ok (.iconst 3, 1) := by decide +kernel
theorem dX7_standard_154 : decode cX7_standard 154 = .ok (.iconst 1, 1) := by decide +kernel
theorem dX7_standard_155 : decode cX7_standard 155 = .ok (.invokevirtual 140, 3) := by decide +kernel
theorem dX7_standard_158 : decode cX7_standard 158 = .ok (.aload_n 0, 1) := by decide +kernel
theorem dX7_standard_159 : decode cX7_standard 159 = .ok (.iconst 3, 1) := by decide +kernel
theorem dX7_standard_160 : decode cX7_standard 160 = .ok (.iconst 0, 1) := by decide +kernel
theorem dX7_standard_161 : decode cX7_standard 161 = .ok (.iconst 1, 1) := by decide +kernel
theorem dX7_standard_162 : decode cX7_standard 162 = .ok (.iconst 1, 1) := by decide +kernel
theorem dX7_standard_163 : decode cX7_standard 163 = .ok (.invokevirtual 140, 3) := by decide +kernel
theorem dX7_standard_166 : decode cX7_standard 166 = .ok (.aload_n 0, 1) := by decide +kernel
theorem dX7_standard_167 : decode cX7_standard 167 = .ok (.iconst 1, 1) := by decide +kernel
theorem dX7_standard_168 : decode cX7_standard 168 = .ok (.iconst 3, 1) := by decide +kernel
theorem dX7_standard_169 : decode cX7_standard 169 = .ok (.iconst 4, 1) := by decide +kernel
theorem dX7_standard_170 : decode cX7_standard 170 = .ok (.iconst 1, 1) := by decide +kernel
theorem dX7_standard_171 : decode cX7_standard 171 = .ok (.invokevirtual 140, 3) := by decide +kernel
theorem dX7_standard_174 : decode cX7_standard 174 = .ok (.aload_n 0, 1) := by decide +kernel
theorem dX7_standard_175 : decode cX7_standard 175 = .ok (.iconst 4, 1) := by decide +kernel
theorem dX7_standard_176 : decode cX7_standard 176 = .ok (.iconst 1, 1) := by decide +kernel
theorem dX7_standard_177 : decode cX7_standard 177 = .ok (.iconst 2, 1) := by decide +kernel
theorem dX7_standard_178 : decode cX7_standard 178 = .ok (.iconst 1, 1) := by decide +kernel
theorem dX7_standard_179 : decode cX7_standard 179 = .ok (.invokevirtual 140, 3) := by decide +kernel
theorem dX7_standard_182 : decode cX7_standard 182 = .ok (.aload_n 0, 1) := by decide +kernel
theorem dX7_standard_183 : decode cX7_standard 183 = .ok (.iconst 2, 1) := by decide +kernel
theorem dX7_standard_184 : decode cX7_standard 184 = .ok (.iconst 4, 1) := by decide +kernel
theorem dX7_standard_185 : decode cX7_standard 185 = .ok (.iconst 0, 1) := by decide +kernel
theorem dX7_standard_186 : decode cX7_standard 186 = .ok (.iconst 1, 1) := by decide +kernel
theorem dX7_standard_187 : decode cX7_standard 187 = .ok (.invokevirtual 140, 3) := by decide +kernel
theorem dX7_standard_190 : decode cX7_standard 190 = .ok (.goto 22, 3) := by decide +kernel
theorem dX7_standard_193 : decode cX7_standard 193 = .ok (.aload_n 0, 1) := by decide +kernel
theorem dX7_standard_194 : decode cX7_standard 194 = .ok (.iconst 0, 1) := by decide +kernel
theorem dX7_standard_195 : decode cX7_standard 195 = .ok (.iconst 1, 1) := by decide +kernel
theorem dX7_standard_196 : decode cX7_standard 196 = .ok (.iconst 1, 1) := by decide +kernel
theorem dX7_standard_197 : decode cX7_standard 197 = .ok (.iconst 1, 1) := by decide +kernel
theorem dX7_standard_198 : decode cX7_standard 198 = .ok (.invokevirtual 140, 3) := by decide +kernel
theorem dX7_standard_201 : decode cX7_standard 201 = .ok (.aload_n 0, 1) := by decide +kernel
theorem dX7_standard_202 : decode cX7_standard 202 = .ok (.iconst 1, 1) := by decide +kernel
theorem dX7_standard_203 : decode cX7_standard 203 = .ok (.iconst 0, 1) := by decide +kernel
theorem dX7_standard_204 : decode cX7_standard 204 = .ok (.iconst 0, 1) := by decide +kernel
theorem dX7_standard_205 : decode cX7_standard 205 = .ok (.iconst 1, 1) := by decide +kernel
theorem dX7_standard_206 : decode cX7_standard 206 = .ok (.invokevirtual 140, 3) := by decide +kernel
theorem dX7_standard_209 : decode cX7_standard 209 = .ok (.goto 3, 3) := by decide +kernel
theorem dX7_standard_212 : decode cX7_standard 212 = .ok (.aload_n 0, 1) := by decide +kernel
theorem dX7_standard_213 : decode cX7_standard 213 = .ok (.getfield 7, 3) := by decide +kernel
theorem dX7_standard_216 : decode cX7_standard 216 = .ok (.bipush 38, 2) := by decide +kernel
theorem dX7_standard_218 : decode cX7_standard 218 = .ok (.iaload, 1) := by decide +kernel
theorem dX7_standard_219 : decode cX7_standard 219 = .ok (.ireturn, 1) := by decide +kernel
theorem dX7_isSign_0 : decode cX7_isSign 0 = .ok (.iload_n 0, 1) := by decide +kernel
theorem dX7_isSign_1 : decode cX7_isSign 1 = .ok (.iconst 1, 1) := by decide +kernel
theorem dX7_isSign_2 : decode cX7_isSign 2 = .ok (.if_icmp .eq 8, 3) := by decide +kernel
theorem dX7_isSign_5 : decode cX7_isSign 5 = .ok (.iload_n 0, 1) := by decide +kernel
theorem dX7_isSign_6 : decode cX7_isSign 6 = .ok (.iconst (-1), 1) := by decide +kernel
theorem dX7_isSign_7 : decode cX7_isSign 7 = .ok (.if_icmp .ne 7, 3) := by decide +kernel
theorem dX7_isSign_10 : decode cX7_isSign 10 = .ok (.iconst 1, 1) := by decide +kernel
theorem dX7_isSign_11 : decode cX7_isSign 11 = .ok (.goto 4, 3) := by decide +kernel
theorem dX7_isSign_14 : decode cX7_isSign 14 = .ok (.iconst 0, 1) := by decide +kernel
theorem dX7_isSign_15 : decode cX7_isSign 15 = .ok (.ireturn, 1) := by decide +kernel
theorem dX7_addCrossing_0 : decode cX7_addCrossing 0 = .ok (.aload_n 0, 1) := by decide +kernel
theorem dX7_addCrossing_1 : decode cX7_addCrossing 1 = .ok (.iload_n 1, 1) := by decide +kernel
theorem dX7_addCrossing_2 : decode cX7_addCrossing 2 = .ok (.invokevirtual 144, 3) := by decide +kernel
theorem dX7_addCrossing_5 : decode cX7_addCrossing 5 = .ok (.ifCond .eq 19, 3) := by decide +kernel
theorem dX7_addCrossing_8 : decode cX7_addCrossing 8 = .ok (.aload_n 0, 1) := by decide +kernel
theorem dX7_addCrossing_9 : decode cX7_addCrossing 9 = .ok (.iload_n 2, 1) := by decide +kernel
theorem dX7_addCrossing_10 : decode cX7_addCrossing 10 = .ok (.invokevirtual 144, 3) := by decide +kernel
theorem dX7_addCrossing_13 : decode cX7_addCrossing 13 = .ok (.ifCond .eq 11, 3) := by decide +kernel
theorem dX7_addCrossing_16 : decode cX7_addCrossing 16 = .ok (.aload_n 0, 1) := by decide +kernel
theorem dX7_addCrossing_17 : decode cX7_addCrossing 17 = .ok (.iload_n 3, 1) := by decide +kernel
theorem dX7_addCrossing_18 : decode cX7_addCrossing 18 = .ok (.invokevirtual 144, 3) := by decide +kernel
theorem dX7_addCrossing_21 : decode cX7_addCrossing 21 = .ok (.ifCond .ne 5, 3) := by decide +kernel
theorem dX7_addCrossing_24 : decode cX7_addCrossing 24 = .ok (.iconst (-1), 1) := by decide +kernel
theorem dX7_addCrossing_25 : decode cX7_addCrossing 25 = .ok (.ireturn, 1) := by decide +kernel
theorem dX7_addCrossing_26 : decode cX7_addCrossing 26 = .ok (.iload 4, 2) := by decide +kernel
theorem dX7_addCrossing_28 : decode cX7_addCrossing 28 = .ok (.invokestatic 147, 3) := by decide +kernel
theorem dX7_addCrossing_31 : decode cX7_addCrossing 31 = .ok (.ifCond .ne 6, 3) := by decide +kernel
theorem dX7_addCrossing_34 : decode cX7_addCrossing 34 = .ok (.bipush (-2), 2) := by decide +kernel
theorem dX7_addCrossing_36 : decode cX7_addCrossing 36 = .ok (.ireturn, 1) := by decide +kernel
theorem dX7_addCrossing_37 : decode cX7_addCrossing 37 = .ok (.aload_n 0, 1) := by decide +kernel
theorem dX7_addCrossing_38 : decode cX7_addCrossing 38 = .ok (.getfield 7, 3) := by decide +kernel
theorem dX7_addCrossing_41 : decode cX7_addCrossing 41 = .ok (.bipush 38, 2) := by decide +kernel
theorem dX7_addCrossing_43 : decode cX7_addCrossing 43 = .ok (.iaload, 1) := by decide +kernel
theorem dX7_addCrossing_44 : decode cX7_addCrossing 44 = .ok (.bipush 10, 2) := by decide +kernel
theorem dX7_addCrossing_46 : decode cX7_addCrossing 46 = .ok (.if_icmp .ne 6, 3) := by decide +kernel
theorem dX7_addCrossing_49 : decode cX7_addCrossing 49 = .ok (.bipush (-4), 2) := by decide +kernel
theorem dX7_addCrossing_51 : decode cX7_addCrossing 51 = .ok (.ireturn, 1) := by decide +kernel
theorem dX7_addCrossing_52 : decode cX7_addCrossing 52 = .ok (.aload_n 0, 1) := by decide +kernel
theorem dX7_addCrossing_53 : decode cX7_addCrossing 53 = .ok (.invokevirtual 39, 3) := by decide +kernel
theorem dX7_addCrossing_56 : decode cX7_addCrossing 56 = .ok (.aload_n 0, 1) := by decide +kernel
theorem dX7_addCrossing_57 : decode cX7_addCrossing 57 = .ok (.iload_n 1, 1) := by decide +kernel
theorem dX7_addCrossing_58 : decode cX7_addCrossing 58 = .ok (.iload_n 2, 1) := by decide +kernel
theorem dX7_addCrossing_59 : decode cX7_addCrossing 59 = .ok (.iload_n 3, 1) := by decide +kernel
theorem dX7_addCrossing_60 : decode cX7_addCrossing 60 = .ok (.iload 4, 2) := by decide +kernel
theorem dX7_addCrossing_62 : decode cX7_addCrossing 62 = .ok (.invokevirtual 140, 3) := by decide +kernel
theorem dX7_addCrossing_65 : decode cX7_addCrossing 65 = .ok (.aload_n 0, 1) := by decide +kernel
theorem dX7_addCrossing_66 : decode cX7_addCrossing 66 = .ok (.getfield 7, 3) := by decide +kernel
theorem dX7_addCrossing_69 : decode cX7_addCrossing 69 = .ok (.bipush 38, 2) := by decide +kernel
theorem dX7_addCrossing_71 : decode cX7_addCrossing 71 = .ok (.iaload, 1) := by decide +kernel
theorem dX7_addCrossing_72 : decode cX7_addCrossing 72 = .ok (.iconst 1, 1) := by decide +kernel
theorem dX7_addCrossing_73 : decode cX7_addCrossing 73 = .ok (.isub, 1) := by decide +kernel
theorem dX7_addCrossing_74 : decode cX7_addCrossing 74 = .ok (.ireturn, 1) := by decide +kernel
theorem dX7_removeCrossing_0 : decode cX7_removeCrossing 0 = .ok (.aload_n 0, 1) := by decide +kernel
theorem dX7_removeCrossing_1 : decode cX7_removeCrossing 1 = .ok (.iload_n 1, 1) := by decide +kernel
theorem dX7_removeCrossing_2 : decode cX7_removeCrossing 2 = .ok (.invokevirtual 150, 3) := by decide +kernel
theorem dX7_removeCrossing_5 : decode cX7_removeCrossing 5 = .ok (.ifCond .ne 5, 3) := by decide +kernel
theorem dX7_removeCrossing_8 : decode cX7_removeCrossing 8 = .ok (.iconst (-1), 1) := by decide +kernel
theorem dX7_removeCrossing_9 : decode cX7_removeCrossing 9 = .ok (.ireturn, 1) := by decide +kernel
theorem dX7_removeCrossing_10 : decode cX7_removeCrossing 10 = .ok (.aload_n 0, 1) := by decide +kernel
theorem dX7_removeCrossing_11 : decode cX7_removeCrossing 11 = .ok (.invokevirtual 39, 3) := by decide +kernel
theorem dX7_removeCrossing_14 : decode cX7_removeCrossing 14 = .ok (.aload_n 0, 1) := by decide +kernel
theorem dX7_removeCrossing_15 : decode cX7_removeCrossing 15 = .ok (.getfield 7, 3) := by decide +kernel
theorem dX7_removeCrossing_18 : decode cX7_removeCrossing 18 = .ok (.bipush 38, 2) := by decide +kernel
theorem dX7_removeCrossing_20 : decode cX7_removeCrossing 20 = .ok (.dup2, 1) := by decide +kernel
theorem dX7_removeCrossing_21 : decode cX7_removeCrossing 21 = .ok (.iaload, 1) := by decide +kernel
theorem dX7_removeCrossing_22 : decode cX7_removeCrossing 22 = .ok (.iconst 1, 1) := by decide +kernel
theorem dX7_removeCrossing_23 : decode cX7_removeCrossing 23 = .ok (.isub, 1) := by decide +kernel
theorem dX7_removeCrossing_24 : decode cX7_removeCrossing 24 = .ok (.iastore, 1) := by decide +kernel
theorem dX7_removeCrossing_25 : decode cX7_removeCrossing 25 = .ok (.bipush 39, 2) := by decide +kernel
theorem dX7_removeCrossing_27 : decode cX7_removeCrossing 27 = .ok (.iconst 4, 1) := by decide +kernel
theorem dX7_removeCrossing_28 : decode cX7_removeCrossing 28 = .ok (.iload_n 1, 1) := by decide +kernel
theorem dX7_removeCrossing_29 : decode cX7_removeCrossing 29 = .ok (.imul, 1) := by decide +kernel
theorem dX7_removeCrossing_30 : decode cX7_removeCrossing 30 = .ok (.iadd, 1) := by decide +kernel
theorem dX7_removeCrossing_31 : decode cX7_removeCrossing 31 = .ok (.istore_n 2, 1) := by decide +kernel
theorem dX7_removeCrossing_32 : decode cX7_removeCrossing 32 = .ok (.iload_n 2, 1) := by decide +kernel
theorem dX7_removeCrossing_33 : decode cX7_removeCrossing 33 = .ok (.bipush 39, 2) := by decide +kernel
theorem dX7_removeCrossing_35 : decode cX7_removeCrossing 35 = .ok (.iconst 4, 1) := by decide +kernel
theorem dX7_removeCrossing_36 : decode cX7_removeCrossing 36 = .ok (.aload_n 0, 1) := by decide +kernel
theorem dX7_removeCrossing_37 : decode cX7_removeCrossing 37 = .ok (.getfield 7, 3) := by decide +kernel
theorem dX7_removeCrossing_40 : decode cX7_removeCrossing 40 = .ok (.bipush 38, 2) := by decide +kernel
theorem dX7_removeCrossing_42 : decode cX7_removeCrossing 42 = .ok (.iaload, 1) := by decide +kernel
theorem dX7_removeCrossing_43 : decode cX7_removeCrossing 43 = .ok (.imul, 1) := by decide +kernel
theorem dX7_removeCrossing_44 : decode cX7_removeCrossing 44 = .ok (.iadd, 1) := by decide +kernel
theorem dX7_removeCrossing_45 : decode cX7_removeCrossing 45 = .ok (.if_icmp .ge 23, 3) := by decide +kernel
theorem dX7_removeCrossing_48 : decode cX7_removeCrossing 48 = .ok (.aload_n 0, 1) := by decide +kernel
theorem dX7_removeCrossing_49 : decode cX7_removeCrossing 49 = .ok (.getfield 7, 3) := by decide +kernel
theorem dX7_removeCrossing_52 : decode cX7_removeCrossing 52 = .ok (.iload_n 2, 1) := by decide +kernel
theorem dX7_removeCrossing_53 : decode cX7_removeCrossing 53 = .ok (.aload_n 0, 1) := by decide +kernel
theorem dX7_removeCrossing_54 : decode cX7_removeCrossing 54 = .ok (.getfield 7, 3) := by decide +kernel
theorem dX7_removeCrossing_57 : decode cX7_removeCrossing 57 = .ok (.iload_n 2, 1) := by decide +kernel
theorem dX7_removeCrossing_58 : decode cX7_removeCrossing 58 = .ok (.iconst 4, 1) := by decide +kernel
theorem dX7_removeCrossing_59 : decode cX7_removeCrossing 59 = .ok (.iadd, 1) := by decide +kernel
theorem dX7_removeCrossing_60 : decode cX7_removeCrossing 60 = .ok (.iaload, 1) := by decide +kernel
theorem dX7_removeCrossing_61 : decode cX7_removeCrossing 61 = .ok (.iastore, 1) := by decide +kernel
theorem dX7_removeCrossing_62 : decode cX7_removeCrossing 62 = .ok (.iinc 2 1, 3) := by decide +kernel
theorem dX7_removeCrossing_65 : decode cX7_removeCrossing 65 = .ok (.goto (-33), 3) := by decide +kernel
theorem dX7_removeCrossing_68 : decode cX7_removeCrossing 68 = .ok (.aload_n 0, 1) := by decide +kernel
theorem dX7_removeCrossing_69 : decode cX7_removeCrossing 69 = .ok (.getfield 7, 3) := by decide +kernel
theorem dX7_removeCrossing_72 : decode cX7_removeCrossing 72 = .ok (.bipush 38, 2) := by decide +kernel
theorem dX7_removeCrossing_74 : decode cX7_removeCrossing 74 = .ok (.iaload, 1) := by decide +kernel
theorem dX7_removeCrossing_75 : decode cX7_removeCrossing 75 = .ok (.ireturn, 1) := by decide +kernel
theorem dX7_moves_0 : decode cX7_moves 0 = .ok (.iconst 0, 1) := by decide +kernel
theorem dX7_moves_1 : decode cX7_moves 1 = .ok (.istore_n 3, 1) := by decide +kernel
theorem dX7_moves_2 : decode cX7_moves 2 = .ok (.iload_n 3, 1) := by decide +kernel
theorem dX7_moves_3 : decode cX7_moves 3 = .ok (.aload_n 0, 1) := by decide +kernel
theorem dX7_moves_4 : decode cX7_moves 4 = .ok (.getfield 7, 3) := by decide +kernel
theorem dX7_moves_7 : decode cX7_moves 7 = .ok (.bipush 38, 2) := by decide +kernel
theorem dX7_moves_9 : decode cX7_moves 9 = .ok (.iaload, 1) := by decide +kernel
theorem dX7_moves_10 : decode cX7_moves 10 = .ok (.if_icmp .ge 33, 3) := by decide +kernel
theorem dX7_moves_13 : decode cX7_moves 13 = .ok (.aload_n 0, 1) := by decide +kernel
theorem dX7_moves_14 : decode cX7_moves 14 = .ok (.iload_n 3, 1) := by decide +kernel
theorem dX7_moves_15 : decode cX7_moves 15 = .ok (.iconst 1, 1) := by decide +kernel
theorem dX7_moves_16 : decode cX7_moves 16 = .ok (.invokevirtual 153, 3) := by decide +kernel
theorem dX7_moves_19 : decode cX7_moves 19 = .ok (.iload_n 1, 1) := by decide +kernel
theorem dX7_moves_20 : decode cX7_moves 20 = .ok (.if_icmp .ne 17, 3) := by decide +kernel
theorem dX7_moves_23 : decode cX7_moves 23 = .ok (.aload_n 0, 1) := by decide +kernel
theorem dX7_moves_24 : decode cX7_moves 24 = .ok (.getfield 7, 3) := by decide +kernel
theorem dX7_moves_27 : decode cX7_moves 27 = .ok (.bipush 39, 2) := by decide +kernel
theorem dX7_moves_29 : decode cX7_moves 29 = .ok (.iconst 4, 1) := by decide +kernel
theorem dX7_moves_30 : decode cX7_moves 30 = .ok (.iload_n 3, 1) := by decide +kernel
theorem dX7_moves_31 : decode cX7_moves 31 = .ok (.imul, 1) := by decide +kernel
theorem dX7_moves_32 : decode cX7_moves 32 = .ok (.iadd, 1) := by decide +kernel
theorem dX7_moves_33 : decode cX7_moves 33 = .ok (.iconst 1, 1) := by decide +kernel
theorem dX7_moves_34 : decode cX7_moves 34 = .ok (.iadd, 1) := by decide +kernel
theorem dX7_moves_35 : decode cX7_moves 35 = .ok (.iload_n 2, 1) := by decide +kernel
theorem dX7_moves_36 : decode cX7_moves 36 = .ok (.iastore, 1) := by decide +kernel
theorem dX7_moves_37 : decode cX7_moves 37 = .ok (.iinc 3 1, 3) := by decide +kernel
theorem dX7_moves_40 : decode cX7_moves 40 = .ok (.goto (-38), 3) := by decide +kernel
theorem dX7_moves_43 : decode cX7_moves 43 = .ok (.return_, 1) := by decide +kernel
theorem dX7_kink_0 : decode cX7_kink 0 = .ok (.aload_n 0, 1) := by decide +kernel
theorem dX7_kink_1 : decode cX7_kink 1 = .ok (.iload_n 1, 1) := by decide +kernel
theorem dX7_kink_2 : decode cX7_kink 2 = .ok (.invokevirtual 144, 3) := by decide +kernel
theorem dX7_kink_5 : decode cX7_kink 5 = .ok (.ifCond .ne 5, 3) := by decide +kernel
theorem dX7_kink_8 : decode cX7_kink 8 = .ok (.iconst (-1), 1) := by decide +kernel
theorem dX7_kink_9 : decode cX7_kink 9 = .ok (.ireturn, 1) := by decide +kernel
theorem dX7_kink_10 : decode cX7_kink 10 = .ok (.iload_n 2, 1) := by decide +kernel
theorem dX7_kink_11 : decode cX7_kink 11 = .ok (.invokestatic 147, 3) := by decide +kernel
theorem dX7_kink_14 : decode cX7_kink 14 = .ok (.ifCond .ne 6, 3) := by decide +kernel
theorem dX7_kink_17 : decode cX7_kink 17 = .ok (.bipush (-2), 2) := by decide +kernel
theorem dX7_kink_19 : decode cX7_kink 19 = .ok (.ireturn, 1) := by decide +kernel
theorem dX7_kink_20 : decode cX7_kink 20 = .ok (.aload_n 0, 1) := by decide +kernel
theorem dX7_kink_21 : decode cX7_kink 21 = .ok (.getfield 7, 3) := by decide +kernel
theorem dX7_kink_24 : decode cX7_kink 24 = .ok (.bipush 37, 2) := by decide +kernel
theorem dX7_kink_26 : decode cX7_kink 26 = .ok (.iaload, 1) := by decide +kernel
theorem dX7_kink_27 : decode cX7_kink 27 = .ok (.bipush 7, 2) := by decide +kernel
theorem dX7_kink_29 : decode cX7_kink 29 = .ok (.if_icmp .eq 15, 3) := by decide +kernel
theorem dX7_kink_32 : decode cX7_kink 32 = .ok (.aload_n 0, 1) := by decide +kernel
theorem dX7_kink_33 : decode cX7_kink 33 = .ok (.getfield 7, 3) := by decide +kernel
theorem dX7_kink_36 : decode cX7_kink 36 = .ok (.bipush 38, 2) := by decide +kernel
theorem dX7_kink_38 : decode cX7_kink 38 = .ok (.iaload, 1) := by decide +kernel
theorem dX7_kink_39 : decode cX7_kink 39 = .ok (.bipush 10, 2) := by decide +kernel
theorem dX7_kink_41 : decode cX7_kink 41 = .ok (.if_icmp .ne 6, 3) := by decide +kernel
theorem dX7_kink_44 : decode cX7_kink 44 = .ok (.bipush (-4), 2) := by decide +kernel
theorem dX7_kink_46 : decode cX7_kink 46 = .ok (.ireturn, 1) := by decide +kernel
theorem dX7_kink_47 : decode cX7_kink 47 = .ok (.aload_n 0, 1) := by decide +kernel
theorem dX7_kink_48 : decode cX7_kink 48 = .ok (.invokevirtual 39, 3) := by decide +kernel
theorem dX7_kink_51 : decode cX7_kink 51 = .ok (.aload_n 0, 1) := by decide +kernel
theorem dX7_kink_52 : decode cX7_kink 52 = .ok (.getfield 7, 3) := by decide +kernel
theorem dX7_kink_55 : decode cX7_kink 55 = .ok (.bipush 37, 2) := by decide +kernel
theorem dX7_kink_57 : decode cX7_kink 57 = .ok (.iaload, 1) := by decide +kernel
theorem dX7_kink_58 : decode cX7_kink 58 = .ok (.istore_n 3, 1) := by decide +kernel
theorem dX7_kink_59 : decode cX7_kink 59 = .ok (.aload_n 0, 1) := by decide +kernel
theorem dX7_kink_60 : decode cX7_kink 60 = .ok (.getfield 7, 3) := by decide +kernel
theorem dX7_kink_63 : decode cX7_kink 63 = .ok (.bipush 37, 2) := by decide +kernel
theorem dX7_kink_65 : decode cX7_kink 65 = .ok (.dup2, 1) := by decide +kernel
theorem dX7_kink_66 : decode cX7_kink 66 = .ok (.iaload, 1) := by decide +kernel
theorem dX7_kink_67 : decode cX7_kink 67 = .ok (.iconst 1, 1) := by decide +kernel
theorem dX7_kink_68 : decode cX7_kink 68 = .ok (.iadd, 1) := by decide +kernel
theorem dX7_kink_69 : decode cX7_kink 69 = .ok (.iastore, 1) := by decide +kernel
theorem dX7_kink_70 : decode cX7_kink 70 = .ok (.aload_n 0, 1) := by decide +kernel
theorem dX7_kink_71 : decode cX7_kink 71 = .ok (.iload_n 1, 1) := by decide +kernel
theorem dX7_kink_72 : decode cX7_kink 72 = .ok (.iload_n 3, 1) := by decide +kernel
theorem dX7_kink_73 : decode cX7_kink 73 = .ok (.invokevirtual 156, 3) := by decide +kernel
theorem dX7_kink_76 : decode cX7_kink 76 = .ok (.aload_n 0, 1) := by decide +kernel
theorem dX7_kink_77 : decode cX7_kink 77 = .ok (.iload_n 1, 1) := by decide +kernel
theorem dX7_kink_78 : decode cX7_kink 78 = .ok (.iload_n 1, 1) := by decide +kernel
theorem dX7_kink_79 : decode cX7_kink 79 = .ok (.iload_n 3, 1) := by decide +kernel
theorem dX7_kink_80 : decode cX7_kink 80 = .ok (.iload_n 2, 1) := by decide +kernel
theorem dX7_kink_81 : decode cX7_kink 81 = .ok (.invokevirtual 140, 3) := by decide +kernel
theorem dX7_kink_84 : decode cX7_kink 84 = .ok (.iload_n 3, 1) := by decide +kernel
theorem dX7_kink_85 : decode cX7_kink 85 = .ok (.ireturn, 1) := by decide +kernel
theorem dX7_poke_0 : decode cX7_poke 0 = .ok (.aload_n 0, 1) := by decide +kernel
theorem dX7_poke_1 : decode cX7_poke 1 = .ok (.iload_n 1, 1) := by decide +kernel
theorem dX7_poke_2 : decode cX7_poke 2 = .ok (.invokevirtual 144, 3) := by decide +kernel
theorem dX7_poke_5 : decode cX7_poke 5 = .ok (.ifCond .eq 11, 3) := by decide +kernel
theorem dX7_poke_8 : decode cX7_poke 8 = .ok (.aload_n 0, 1) := by decide +kernel
theorem dX7_poke_9 : decode cX7_poke 9 = .ok (.iload_n 2, 1) := by decide +kernel
theorem dX7_poke_10 : decode cX7_poke 10 = .ok (.invokevirtual 144, 3) := by decide +kernel
theorem dX7_poke_13 : decode cX7_poke 13 = .ok (.ifCond .ne 5, 3) := by decide +kernel
theorem dX7_poke_16 : decode cX7_poke 16 = .ok (.iconst (-1), 1) := by decide +kernel
theorem dX7_poke_17 : decode cX7_poke 17 = .ok (.ireturn, 1) := by decide +kernel
theorem dX7_poke_18 : decode cX7_poke 18 = .ok (.aload_n 0, 1) := by decide +kernel
theorem dX7_poke_19 : decode cX7_poke 19 = .ok (.getfield 7, 3) := by decide +kernel
theorem dX7_poke_22 : decode cX7_poke 22 = .ok (.bipush 37, 2) := by decide +kernel
theorem dX7_poke_24 : decode cX7_poke 24 = .ok (.iaload, 1) := by decide +kernel
theorem dX7_poke_25 : decode cX7_poke 25 = .ok (.iconst 5, 1) := by decide +kernel
theorem dX7_poke_26 : decode cX7_poke 26 = .ok (.if_icmp .gt 15, 3) := by decide +kernel
theorem dX7_poke_29 : decode cX7_poke 29 = .ok (.aload_n 0, 1) := by decide +kernel
theorem dX7_poke_30 : decode cX7_poke 30 = .ok (.getfield 7, 3) := by decide +kernel
theorem dX7_poke_33 : decode cX7_poke 33 = .ok (.bipush 38, 2) := by decide +kernel
theorem dX7_poke_35 : decode cX7_poke 35 = .ok (.iaload, 1) := by decide +kernel
theorem dX7_poke_36 : decode cX7_poke 36 = .ok (.bipush 8, 2) := by decide +kernel
theorem dX7_poke_38 : decode cX7_poke 38 = .ok (.if_icmp .le 6, 3) := by decide +kernel
theorem dX7_poke_41 : decode cX7_poke 41 = .ok (.bipush (-4), 2) := by decide +kernel
theorem dX7_poke_43 : decode cX7_poke 43 = .ok (.ireturn, 1) := by decide +kernel
theorem dX7_poke_44 : decode cX7_poke 44 = .ok (.aload_n 0, 1) := by decide +kernel
theorem dX7_poke_45 : decode cX7_poke 45 = .ok (.invokevirtual 39, 3) := by decide +kernel
theorem dX7_poke_48 : decode cX7_poke 48 = .ok (.aload_n 0, 1) := by decide +kernel
theorem dX7_poke_49 : decode cX7_poke 49 = .ok (.getfield 7, 3) := by decide +kernel
theorem dX7_poke_52 : decode cX7_poke 52 = .ok (.bipush 37, 2) := by decide +kernel
theorem dX7_poke_54 : decode cX7_poke 54 = .ok (.iaload, 1) := by decide +kernel
theorem dX7_poke_55 : decode cX7_poke 55 = .ok (.istore_n 3, 1) := by decide +kernel
theorem dX7_poke_56 : decode cX7_poke 56 = .ok (.aload_n 0, 1) := by decide +kernel
theorem dX7_poke_57 : decode cX7_poke 57 = .ok (.getfield 7, 3) := by decide +kernel
theorem dX7_poke_60 : decode cX7_poke 60 = .ok (.bipush 37, 2) := by decide +kernel
theorem dX7_poke_62 : decode cX7_poke 62 = .ok (.dup2, 1) := by decide +kernel
theorem dX7_poke_63 : decode cX7_poke 63 = .ok (.iaload, 1) := by decide +kernel
theorem dX7_poke_64 : decode cX7_poke 64 = .ok (.iconst 2, 1) := by decide +kernel
theorem dX7_poke_65 : decode cX7_poke 65 = .ok (.iadd, 1) := by decide +kernel
theorem dX7_poke_66 : decode cX7_poke 66 = .ok (.iastore, 1) := by decide +kernel
theorem dX7_poke_67 : decode cX7_poke 67 = .ok (.aload_n 0, 1) := by decide +kernel
theorem dX7_poke_68 : decode cX7_poke 68 = .ok (.iload_n 1, 1) := by decide +kernel
theorem dX7_poke_69 : decode cX7_poke 69 = .ok (.iload_n 3, 1) := by decide +kernel
theorem dX7_poke_70 : decode cX7_poke 70 = .ok (.iconst 1, 1) := by decide +kernel
theorem dX7_poke_71 : decode cX7_poke 71 = .ok (.iadd, 1) := by decide +kernel
theorem dX7_poke_72 : decode cX7_poke 72 = .ok (.invokevirtual 156, 3) := by decide +kernel
theorem dX7_poke_75 : decode cX7_poke 75 = .ok (.aload_n 0, 1) := by decide +kernel
theorem dX7_poke_76 : decode cX7_poke 76 = .ok (.iload_n 2, 1) := by decide +kernel
theorem dX7_poke_77 : decode cX7_poke 77 = .ok (.iload_n 1, 1) := by decide +kernel
theorem dX7_poke_78 : decode cX7_poke 78 = .ok (.iload_n 3, 1) := by decide +kernel
theorem dX7_poke_79 : decode cX7_poke 79 = .ok (.iconst 1, 1) := by decide +kernel
theorem dX7_poke_80 : decode cX7_poke 80 = .ok (.invokevirtual 140, 3) := by decide +kernel
theorem dX7_poke_83 : decode cX7_poke 83 = .ok (.aload_n 0, 1) := by decide +kernel
theorem dX7_poke_84 : decode cX7_poke 84 = .ok (.iload_n 2, 1) := by decide +kernel
theorem dX7_poke_85 : decode cX7_poke 85 = .ok (.iload_n 3, 1) := by decide +kernel
theorem dX7_poke_86 : decode cX7_poke 86 = .ok (.iload_n 3, 1) := by decide +kernel
theorem dX7_poke_87 : decode cX7_poke 87 = .ok (.iconst 1, 1) := by decide +kernel
theorem dX7_poke_88 : decode cX7_poke 88 = .ok (.iadd, 1) := by decide +kernel
theorem dX7_poke_89 : decode cX7_poke 89 = .ok (.iconst (-1), 1) := by decide +kernel
theorem dX7_poke_90 : decode cX7_poke 90 = .ok (.invokevirtual 140, 3) := by decide +kernel
theorem dX7_poke_93 : decode cX7_poke 93 = .ok (.aload_n 0, 1) := by decide +kernel
theorem dX7_poke_94 : decode cX7_poke 94 = .ok (.getfield 7, 3) := by decide +kernel
theorem dX7_poke_97 : decode cX7_poke 97 = .ok (.bipush 37, 2) := by decide +kernel
theorem dX7_poke_99 : decode cX7_poke 99 = .ok (.iaload, 1) := by decide +kernel
theorem dX7_poke_100 : decode cX7_poke 100 = .ok (.ireturn, 1) := by decide +kernel
theorem dX7_arcs_0 : decode cX7_arcs 0 = .ok (.aload_n 0, 1) := by decide +kernel
theorem dX7_arcs_1 : decode cX7_arcs 1 = .ok (.getfield 7, 3) := by decide +kernel
theorem dX7_arcs_4 : decode cX7_arcs 4 = .ok (.bipush 37, 2) := by decide +kernel
theorem dX7_arcs_6 : decode cX7_arcs 6 = .ok (.iaload, 1) := by decide +kernel
theorem dX7_arcs_7 : decode cX7_arcs 7 = .ok (.ireturn, 1) := by decide +kernel
theorem dX7_crossings_0 : decode cX7_crossings 0 = .ok (.aload_n 0, 1) := by decide +kernel
theorem dX7_crossings_1 : decode cX7_crossings 1 = .ok (.getfield 7, 3) := by decide +kernel
theorem dX7_crossings_4 : decode cX7_crossings 4 = .ok (.bipush 38, 2) := by decide +kernel
theorem dX7_crossings_6 : decode cX7_crossings 6 = .ok (.iaload, 1) := by decide +kernel
theorem dX7_crossings_7 : decode cX7_crossings 7 = .ok (.ireturn, 1) := by decide +kernel
theorem dX7_crossing_0 : decode cX7_crossing 0 = .ok (.aload_n 0, 1) := by decide +kernel
theorem dX7_crossing_1 : decode cX7_crossing 1 = .ok (.iload_n 1, 1) := by decide +kernel
theorem dX7_crossing_2 : decode cX7_crossing 2 = .ok (.invokevirtual 150, 3) := by decide +kernel
theorem dX7_crossing_5 : decode cX7_crossing 5 = .ok (.ifCond .ne 5, 3) := by decide +kernel
theorem dX7_crossing_8 : decode cX7_crossing 8 = .ok (.iconst (-1), 1) := by decide +kernel
theorem dX7_crossing_9 : decode cX7_crossing 9 = .ok (.ireturn, 1) := by decide +kernel
theorem dX7_crossing_10 : decode cX7_crossing 10 = .ok (.iload_n 2, 1) := by decide +kernel
theorem dX7_crossing_11 : decode cX7_crossing 11 = .ok (.iconst 0, 1) := by decide +kernel
theorem dX7_crossing_12 : decode cX7_crossing 12 = .ok (.iconst 3, 1) := by decide +kernel
theorem dX7_crossing_13 : decode cX7_crossing 13 = .ok (.invokestatic 35, 3) := by decide +kernel
theorem dX7_crossing_16 : decode cX7_crossing 16 = .ok (.ifCond .eq 12, 3) := by decide +kernel
theorem dX7_crossing_19 : decode cX7_crossing 19 = .ok (.aload_n 0, 1) := by decide +kernel
theorem dX7_crossing_20 : decode cX7_crossing 20 = .ok (.iload_n 1, 1) := by decide +kernel
theorem dX7_crossing_21 : decode cX7_crossing 21 = .ok (.iload_n 2, 1) := by decide +kernel
theorem dX7_crossing_22 : decode cX7_crossing 22 = .ok (.invokevirtual 153, 3) := by decide +kernel
theorem dX7_crossing_25 : decode cX7_crossing 25 = .ok (.goto 5, 3) := by decide +kernel
theorem dX7_crossing_28 : decode cX7_crossing 28 = .ok (.bipush (-2), 2) := by decide +kernel
theorem dX7_crossing_30 : decode cX7_crossing 30 = .ok (.ireturn, 1) := by decide +kernel
theorem dX7_isClosed_0 : decode cX7_isClosed 0 = .ok (.iconst 1, 1) := by decide +kernel
theorem dX7_isClosed_1 : decode cX7_isClosed 1 = .ok (.istore_n 1, 1) := by decide +kernel
theorem dX7_isClosed_2 : decode cX7_isClosed 2 = .ok (.iconst 0, 1) := by decide +kernel
theorem dX7_isClosed_3 : decode cX7_isClosed 3 = .ok (.istore_n 2, 1) := by decide +kernel
theorem dX7_isClosed_4 : decode cX7_isClosed 4 = .ok (.iload_n 2, 1) := by decide +kernel
theorem dX7_isClosed_5 : decode cX7_isClosed 5 = .ok (.aload_n 0, 1) := by decide +kernel
theorem dX7_isClosed_6 : decode cX7_isClosed 6 = .ok (.getfield 7, 3) := by decide +kernel
theorem dX7_isClosed_9 : decode cX7_isClosed 9 = .ok (.bipush 37, 2) := by decide +kernel
theorem dX7_isClosed_11 : decode cX7_isClosed 11 = .ok (.iaload, 1) := by decide +kernel
theorem dX7_isClosed_12 : decode cX7_isClosed 12 = .ok (.if_icmp .ge 96, 3) := by decide +kernel
theorem dX7_isClosed_15 : decode cX7_isClosed 15 = .ok (.iconst 0, 1) := by decide +kernel
theorem dX7_isClosed_16 : decode cX7_isClosed 16 = .ok (.istore_n 3, 1) := by decide +kernel
theorem dX7_isClosed_17 : decode cX7_isClosed 17 = .ok (.iconst 0, 1) := by decide +kernel
theorem dX7_isClosed_18 : decode cX7_isClosed 18 = .ok (.istore 4, 2) := by decide +kernel
theorem dX7_isClosed_20 : decode cX7_isClosed 20 = .ok (.iconst 0, 1) := by decide +kernel
theorem dX7_isClosed_21 : decode cX7_isClosed 21 = .ok (.istore 5, 2) := by decide +kernel
theorem dX7_isClosed_23 : decode cX7_isClosed 23 = .ok (.iload 5, 2) := by decide +kernel
theorem dX7_isClosed_25 : decode cX7_isClosed 25 = .ok (.aload_n 0, 1) := by decide +kernel
theorem dX7_isClosed_26 : decode cX7_isClosed 26 = .ok (.getfield 7, 3) := by decide +kernel
theorem dX7_isClosed_29 : decode cX7_isClosed 29 = .ok (.bipush 38, 2) := by decide +kernel
theorem dX7_isClosed_31 : decode cX7_isClosed 31 = .ok (.iaload, 1) := by decide +kernel
theorem dX7_isClosed_32 : decode cX7_isClosed 32 = .ok (.if_icmp .ge 49, 3) := by decide +kernel
theorem dX7_isClosed_35 : decode cX7_isClosed 35 = .ok (.iload_n 3, 1) := by decide +kernel
theorem dX7_isClosed_36 : decode cX7_isClosed 36 = .ok (.aload_n 0, 1) := by decide +kernel
theorem dX7_isClosed_37 : decode cX7_isClosed 37 = .ok (.iload 5, 2) := by decide +kernel
theorem dX7_isClosed_39 : decode cX7_isClosed 39 = .ok (.iconst 1, 1) := by decide +kernel
theorem dX7_isClosed_40 : decode cX7_isClosed 40 = .ok (.invokevirtual 153, 3) := by decide +kernel
theorem dX7_isClosed_43 : decode cX7_isClosed 43 = .ok (.iload_n 2, 1) := by decide +kernel
theorem dX7_isClosed_44 : decode cX7_isClosed 44 = .ok (.if_icmp .ne 7, 3) := by decide +kernel
theorem dX7_isClosed_47 : decode cX7_isClosed 47 = .ok (.iconst 1, 1) := by decide +kernel
theorem dX7_isClosed_48 : decode cX7_isClosed 48 = .ok (.goto 4, 3) := by decide +kernel
theorem dX7_isClosed_51 : decode cX7_isClosed 51 = .ok (.iconst 0, 1) := by decide +kernel
theorem dX7_isClosed_52 : decode cX7_isClosed 52 = .ok (.iadd, 1) := by decide +kernel
theorem dX7_isClosed_53 : decode cX7_isClosed 53 = .ok (.istore_n 3, 1) := by decide +kernel
theorem dX7_isClosed_54 : decode cX7_isClosed 54 = .ok (.iload 4, 2) := by decide +kernel
theorem dX7_isClosed_56 : decode cX7_isClosed 56 = .ok (.aload_n 0, 1) := by decide +kernel
theorem dX7_isClosed_57 : decode cX7_isClosed 57 = .ok (.iload 5, 2) := by decide +kernel
theorem dX7_isClosed_59 : decode cX7_isClosed 59 = .ok (.iconst 2, 1) := by decide +kernel
theorem dX7_isClosed_60 : decode cX7_isClosed 60 = .ok (.invokevirtual 153, 3) := by decide +kernel
theorem dX7_isClosed_63 : decode cX7_isClosed 63 = .ok (.iload_n 2, 1) := by decide +kernel
theorem dX7_isClosed_64 : decode cX7_isClosed 64 = .ok (.if_icmp .ne 7, 3) := by decide +kernel
theorem dX7_isClosed_67 : decode cX7_isClosed 67 = .ok (.iconst 1, 1) := by decide +kernel
theorem dX7_isClosed_68 : decode cX7_isClosed 68 = .ok (.goto 4, 3) := by decide +kernel
theorem dX7_isClosed_71 : decode cX7_isClosed 71 = .ok (.iconst 0, 1) := by decide +kernel
theorem dX7_isClosed_72 : decode cX7_isClosed 72 = .ok (.iadd, 1) := by decide +kernel
theorem dX7_isClosed_73 : decode cX7_isClosed 73 = .ok (.istore 4, 2) := by decide +kernel
theorem dX7_isClosed_75 : decode cX7_isClosed 75 = .ok (.iinc 5 1, 3) := by decide +kernel
theorem dX7_isClosed_78 : decode cX7_isClosed 78 = .ok (.goto (-55), 3) := by decide +kernel
theorem dX7_isClosed_81 : decode cX7_isClosed 81 = .ok (.iload_n 1, 1) := by decide +kernel
theorem dX7_isClosed_82 : decode cX7_isClosed 82 = .ok (.ifCond .eq 18, 3) := by decide +kernel
theorem dX7_isClosed_85 : decode cX7_isClosed 85 = .ok (.iload_n 3, 1) := by decide +kernel
theorem dX7_isClosed_86 : decode cX7_isClosed 86 = .ok (.iload 4, 2) := by decide +kernel
theorem dX7_isClosed_88 : decode cX7_isClosed 88 = .ok (.if_icmp .ne 12, 3) := by decide +kernel
theorem dX7_isClosed_91 : decode cX7_isClosed 91 = .ok (.iload_n 3, 1) := by decide +kernel
theorem dX7_isClosed_92 : decode cX7_isClosed 92 = .ok (.iconst 1, 1) := by decide +kernel
theorem dX7_isClosed_93 : decode cX7_isClosed 93 = .ok (.if_icmp .gt 7, 3) := by decide +kernel
theorem dX7_isClosed_96 : decode cX7_isClosed 96 = .ok (.iconst 1, 1) := by decide +kernel
theorem dX7_isClosed_97 : decode cX7_isClosed 97 = .ok (.goto 4, 3) := by decide +kernel
theorem dX7_isClosed_100 : decode cX7_isClosed 100 = .ok (.iconst 0, 1) := by decide +kernel
theorem dX7_isClosed_101 : decode cX7_isClosed 101 = .ok (.istore_n 1, 1) := by decide +kernel
theorem dX7_isClosed_102 : decode cX7_isClosed 102 = .ok (.iinc 2 1, 3) := by decide +kernel
theorem dX7_isClosed_105 : decode cX7_isClosed 105 = .ok (.goto (-101), 3) := by decide +kernel
theorem dX7_isClosed_108 : decode cX7_isClosed 108 = .ok (.iload_n 1, 1) := by decide +kernel
theorem dX7_isClosed_109 : decode cX7_isClosed 109 = .ok (.ireturn, 1) := by decide +kernel
theorem dX7_findParts_0 : decode cX7_findParts 0 = .ok (.aload_n 0, 1) := by decide +kernel
theorem dX7_findParts_1 : decode cX7_findParts 1 = .ok (.aload_n 0, 1) := by decide +kernel
theorem dX7_findParts_2 : decode cX7_findParts 2 = .ok (.getfield 7, 3) := by decide +kernel
theorem dX7_findParts_5 : decode cX7_findParts 5 = .ok (.bipush 37, 2) := by decide +kernel
theorem dX7_findParts_7 : decode cX7_findParts 7 = .ok (.iaload, 1) := by decide +kernel
theorem dX7_findParts_8 : decode cX7_findParts 8 = .ok (.invokevirtual 93, 3) := by decide +kernel
theorem dX7_findParts_11 : decode cX7_findParts 11 = .ok (.iconst 0, 1) := by decide +kernel
theorem dX7_findParts_12 : decode cX7_findParts 12 = .ok (.istore_n 1, 1) := by decide +kernel
theorem dX7_findParts_13 : decode cX7_findParts 13 = .ok (.iload_n 1, 1) := by decide +kernel
theorem dX7_findParts_14 : decode cX7_findParts 14 = .ok (.aload_n 0, 1) := by decide +kernel
theorem dX7_findParts_15 : decode cX7_findParts 15 = .ok (.getfield 7, 3) := by decide +kernel
theorem dX7_findParts_18 : decode cX7_findParts 18 = .ok (.bipush 38, 2) := by decide +kernel
theorem dX7_findParts_20 : decode cX7_findParts 20 = .ok (.iaload, 1) := by decide +kernel
theorem dX7_findParts_21 : decode cX7_findParts 21 = .ok (.if_icmp .ge 32, 3) := by decide +kernel
theorem dX7_findParts_24 : decode cX7_findParts 24 = .ok (.aload_n 0, 1) := by decide +kernel
theorem dX7_findParts_25 : decode cX7_findParts 25 = .ok (.aload_n 0, 1) := by decide +kernel
theorem dX7_findParts_26 : decode cX7_findParts 26 = .ok (.iload_n 1, 1) := by decide +kernel
theorem dX7_findParts_27 : decode cX7_findParts 27 = .ok (.iconst 1, 1) := by decide +kernel
theorem dX7_findParts_28 : decode cX7_findParts 28 = .ok (.invokevirtual 153, 3) := by decide +kernel
theorem dX7_findParts_31 : decode cX7_findParts 31 = .ok (.aload_n 0, 1) := by decide +kernel
theorem dX7_findParts_32 : decode cX7_findParts 32 = .ok (.iload_n 1, 1) := by decide +kernel
theorem dX7_findParts_33 : decode cX7_findParts 33 = .ok (.iconst 2, 1) := by decide +kernel
theorem dX7_findParts_34 : decode cX7_findParts 34 = .ok (.invokevirtual 153, 3) := by decide +kernel
theorem dX7_findParts_37 : decode cX7_findParts 37 = .ok (.aload_n 0, 1) := by decide +kernel
theorem dX7_findParts_38 : decode cX7_findParts 38 = .ok (.getfield 7, 3) := by decide +kernel
theorem dX7_findParts_41 : decode cX7_findParts 41 = .ok (.bipush 37, 2) := by decide +kernel
theorem dX7_findParts_43 : decode cX7_findParts 43 = .ok (.iaload, 1) := by decide +kernel
theorem dX7_findParts_44 : decode cX7_findParts 44 = .ok (.invokevirtual 97, 3) := by decide +kernel
theorem dX7_findParts_47 : decode cX7_findParts 47 = .ok (.iinc 1 1, 3) := by decide +kernel
theorem dX7_findParts_50 : decode cX7_findParts 50 = .ok (.goto (-37), 3) := by decide +kernel
theorem dX7_findParts_53 : decode cX7_findParts 53 = .ok (.return_, 1) := by decide +kernel
theorem dX7_componentsNow_0 : decode cX7_componentsNow 0 = .ok (.aload_n 0, 1) := by decide +kernel
theorem dX7_componentsNow_1 : decode cX7_componentsNow 1 = .ok (.invokevirtual 160, 3) := by decide +kernel
theorem dX7_componentsNow_4 : decode cX7_componentsNow 4 = .ok (.ifCond .ne 6, 3) := by decide +kernel
theorem dX7_componentsNow_7 : decode cX7_componentsNow 7 = .ok (.bipush (-6), 2) := by decide +kernel
theorem dX7_componentsNow_9 : decode cX7_componentsNow 9 = .ok (.ireturn, 1) := by decide +kernel
theorem dX7_componentsNow_10 : decode cX7_componentsNow 10 = .ok (.aload_n 0, 1) := by decide +kernel
theorem dX7_componentsNow_11 : decode cX7_componentsNow 11 = .ok (.invokevirtual 163, 3) := by decide +kernel
theorem dX7_componentsNow_14 : decode cX7_componentsNow 14 = .ok (.aload_n 0, 1) := by decide +kernel
theorem dX7_componentsNow_15 : decode cX7_componentsNow 15 = .ok (.aload_n 0, 1) := by decide +kernel
theorem dX7_componentsNow_16 : decode cX7_componentsNow 16 = .ok (.getfield 7, 3) := by decide +kernel
theorem dX7_componentsNow_19 : decode cX7_componentsNow 19 = .ok (.bipush 37, 2) := by decide +kernel
theorem dX7_componentsNow_21 : decode cX7_componentsNow 21 = .ok (.iaload, 1) := by decide +kernel
theorem dX7_componentsNow_22 : decode cX7_componentsNow 22 = .ok (.invokevirtual 100, 3) := by decide +kernel
theorem dX7_componentsNow_25 : decode cX7_componentsNow 25 = .ok (.ireturn, 1) := by decide +kernel
theorem dX7_components_0 : decode cX7_components 0 = .ok (.aload_n 0, 1) := by decide +kernel
theorem dX7_components_1 : decode cX7_components 1 = .ok (.invokevirtual 166, 3) := by decide +kernel
theorem dX7_components_4 : decode cX7_components 4 = .ok (.ireturn, 1) := by decide +kernel
theorem dX7_writheNow_0 : decode cX7_writheNow 0 = .ok (.bipush 100, 2) := by decide +kernel
theorem dX7_writheNow_2 : decode cX7_writheNow 2 = .ok (.istore_n 1, 1) := by decide +kernel
theorem dX7_writheNow_3 : decode cX7_writheNow 3 = .ok (.iconst 0, 1) := by decide +kernel
theorem dX7_writheNow_4 : decode cX7_writheNow 4 = .ok (.istore_n 2, 1) := by decide +kernel
theorem dX7_writheNow_5 : decode cX7_writheNow 5 = .ok (.iload_n 2, 1) := by decide +kernel
theorem dX7_writheNow_6 : decode cX7_writheNow 6 = .ok (.aload_n 0, 1) := by decide +kernel
theorem dX7_writheNow_7 : decode cX7_writheNow 7 = .ok (.getfield 7, 3) := by decide +kernel
theorem dX7_writheNow_10 : decode cX7_writheNow 10 = .ok (.bipush 38, 2) := by decide +kernel
theorem dX7_writheNow_12 : decode cX7_writheNow 12 = .ok (.iaload, 1) := by decide +kernel
theorem dX7_writheNow_13 : decode cX7_writheNow 13 = .ok (.if_icmp .ge 18, 3) := by decide +kernel
theorem dX7_writheNow_16 : decode cX7_writheNow 16 = .ok (.iload_n 1, 1) := by decide +kernel
theorem dX7_writheNow_17 : decode cX7_writheNow 17 = .ok (.aload_n 0, 1) := by decide +kernel
theorem dX7_writheNow_18 : decode cX7_writheNow 18 = .ok (.iload_n 2, 1) := by decide +kernel
theorem dX7_writheNow_19 : decode cX7_writheNow 19 = .ok (.iconst 3, 1) := by decide +kernel
theorem dX7_writheNow_20 : decode cX7_writheNow 20 = .ok (.invokevirtual 153, 3) := by decide +kernel
theorem dX7_writheNow_23 : decode cX7_writheNow 23 = .ok (.iadd, 1) := by decide +kernel
theorem dX7_writheNow_24 : decode cX7_writheNow 24 = .ok (.istore_n 1, 1) := by decide +kernel
theorem dX7_writheNow_25 : decode cX7_writheNow 25 = .ok (.iinc 2 1, 3) := by decide +kernel
theorem dX7_writheNow_28 : decode cX7_writheNow 28 = .ok (.goto (-23), 3) := by decide +kernel
theorem dX7_writheNow_31 : decode cX7_writheNow 31 = .ok (.iload_n 1, 1) := by decide +kernel
theorem dX7_writheNow_32 : decode cX7_writheNow 32 = .ok (.ireturn, 1) := by decide +kernel
theorem dX7_writhe_0 : decode cX7_writhe 0 = .ok (.aload_n 0, 1) := by decide +kernel
theorem dX7_writhe_1 : decode cX7_writhe 1 = .ok (.invokevirtual 169, 3) := by decide +kernel
theorem dX7_writhe_4 : decode cX7_writhe 4 = .ok (.ireturn, 1) := by decide +kernel
theorem dX7_linking_0 : decode cX7_linking 0 = .ok (.aload_n 0, 1) := by decide +kernel
theorem dX7_linking_1 : decode cX7_linking 1 = .ok (.iload_n 1, 1) := by decide +kernel
theorem dX7_linking_2 : decode cX7_linking 2 = .ok (.invokevirtual 144, 3) := by decide +kernel
theorem dX7_linking_5 : decode cX7_linking 5 = .ok (.ifCond .eq 11, 3) := by decide +kernel
theorem dX7_linking_8 : decode cX7_linking 8 = .ok (.aload_n 0, 1) := by decide +kernel
theorem dX7_linking_9 : decode cX7_linking 9 = .ok (.iload_n 2, 1) := by decide +kernel
theorem dX7_linking_10 : decode cX7_linking 10 = .ok (.invokevirtual 144, 3) := by decide +kernel
theorem dX7_linking_13 : decode cX7_linking 13 = .ok (.ifCond .ne 5, 3) := by decide +kernel
theorem dX7_linking_16 : decode cX7_linking 16 = .ok (.iconst (-1), 1) := by decide +kernel
theorem dX7_linking_17 : decode cX7_linking 17 = .ok (.ireturn, 1) := by decide +kernel
theorem dX7_linking_18 : decode cX7_linking 18 = .ok (.aload_n 0, 1) := by decide +kernel
theorem dX7_linking_19 : decode cX7_linking 19 = .ok (.invokevirtual 160, 3) := by decide +kernel
theorem dX7_linking_22 : decode cX7_linking 22 = .ok (.ifCond .ne 6, 3) := by decide +kernel
theorem dX7_linking_25 : decode cX7_linking 25 = .ok (.bipush (-6), 2) := by decide +kernel
theorem dX7_linking_27 : decode cX7_linking 27 = .ok (.ireturn, 1) := by decide +kernel
theorem dX7_linking_28 : decode cX7_linking 28 = .ok (.aload_n 0, 1) := by decide +kernel
theorem dX7_linking_29 : decode cX7_linking 29 = .ok (.invokevirtual 163, 3) := by decide +kernel
theorem dX7_linking_32 : decode cX7_linking 32 = .ok (.bipush 100, 2) := by decide +kernel
theorem dX7_linking_34 : decode cX7_linking 34 = .ok (.istore_n 3, 1) := by decide +kernel
theorem dX7_linking_35 : decode cX7_linking 35 = .ok (.iconst 0, 1) := by decide +kernel
theorem dX7_linking_36 : decode cX7_linking 36 = .ok (.istore 4, 2) := by decide +kernel
theorem dX7_linking_38 : decode cX7_linking 38 = .ok (.iload 4, 2) := by decide +kernel
theorem dX7_linking_40 : decode cX7_linking 40 = .ok (.aload_n 0, 1) := by decide +kernel
theorem dX7_linking_41 : decode cX7_linking 41 = .ok (.getfield 7, 3) := by decide +kernel
theorem dX7_linking_44 : decode cX7_linking 44 = .ok (.bipush 38, 2) := by decide +kernel
theorem dX7_linking_46 : decode cX7_linking 46 = .ok (.iaload, 1) := by decide +kernel
theorem dX7_linking_47 : decode cX7_linking 47 = .ok (.if_icmp .ge 77, 3) := by decide +kernel
theorem dX7_linking_50 : decode cX7_linking 50 = .ok (.aload_n 0, 1) := by decide +kernel
theorem dX7_linking_51 : decode cX7_linking 51 = .ok (.getfield 25, 3) := by decide +kernel
theorem dX7_linking_54 : decode cX7_linking 54 = .ok (.aload_n 0, 1) := by decide +kernel
theorem dX7_linking_55 : decode cX7_linking 55 = .ok (.iload 4, 2) := by decide +kernel
theorem dX7_linking_57 : decode cX7_linking 57 = .ok (.iconst 0, 1) := by decide +kernel
theorem dX7_linking_58 : decode cX7_linking 58 = .ok (.invokevirtual 153, 3) := by decide +kernel
theorem dX7_linking_61 : decode cX7_linking 61 = .ok (.iaload, 1) := by decide +kernel
theorem dX7_linking_62 : decode cX7_linking 62 = .ok (.aload_n 0, 1) := by decide +kernel
theorem dX7_linking_63 : decode cX7_linking 63 = .ok (.getfield 25, 3) := by decide +kernel
theorem dX7_linking_66 : decode cX7_linking 66 = .ok (.iload_n 1, 1) := by decide +kernel
theorem dX7_linking_67 : decode cX7_linking 67 = .ok (.iaload, 1) := by decide +kernel
theorem dX7_linking_68 : decode cX7_linking 68 = .ok (.if_icmp .ne 28, 3) := by decide +kernel
theorem dX7_linking_71 : decode cX7_linking 71 = .ok (.aload_n 0, 1) := by decide +kernel
theorem dX7_linking_72 : decode cX7_linking 72 = .ok (.getfield 25, 3) := by decide +kernel
theorem dX7_linking_75 : decode cX7_linking 75 = .ok (.aload_n 0, 1) := by decide +kernel
theorem dX7_linking_76 : decode cX7_linking 76 = .ok (.iload 4, 2) := by decide +kernel
theorem dX7_linking_78 : decode cX7_linking 78 = .ok (.iconst 1, 1) := by decide +kernel
theorem dX7_linking_79 : decode cX7_linking 79 = .ok (.invokevirtual 153, 3) := by decide +kernel
theorem dX7_linking_82 : decode cX7_linking 82 = .ok (.iaload, 1) := by decide +kernel
theorem dX7_linking_83 : decode cX7_linking 83 = .ok (.aload_n 0, 1) := by decide +kernel
theorem dX7_linking_84 : decode cX7_linking 84 = .ok (.getfield 25, 3) := by decide +kernel
theorem dX7_linking_87 : decode cX7_linking 87 = .ok (.iload_n 2, 1) := by decide +kernel
theorem dX7_linking_88 : decode cX7_linking 88 = .ok (.iaload, 1) := by decide +kernel
theorem dX7_linking_89 : decode cX7_linking 89 = .ok (.if_icmp .ne 7, 3) := by decide +kernel
theorem dX7_linking_92 : decode cX7_linking 92 = .ok (.iconst 1, 1) := by decide +kernel
theorem dX7_linking_93 : decode cX7_linking 93 = .ok (.goto 4, 3) := by decide +kernel
theorem dX7_linking_96 : decode cX7_linking 96 = .ok (.iconst 0, 1) := by decide +kernel
theorem dX7_linking_97 : decode cX7_linking 97 = .ok (.istore 5, 2) := by decide +kernel
theorem dX7_linking_99 : decode cX7_linking 99 = .ok (.iload_n 3, 1) := by decide +kernel
theorem dX7_linking_100 : decode cX7_linking 100 = .ok (.iload 5, 2) := by decide +kernel
theorem dX7_linking_102 : decode cX7_linking 102 = .ok (.ifCond .eq 13, 3) := by decide +kernel
theorem dX7_linking_105 : decode cX7_linking 105 = .ok (.aload_n 0, 1) := by decide +kernel
theorem dX7_linking_106 : decode cX7_linking 106 = .ok (.iload 4, 2) := by decide +kernel
theorem dX7_linking_108 : decode cX7_linking 108 = .ok (.iconst 3, 1) := by decide +kernel
theorem dX7_linking_109 : decode cX7_linking 109 = .ok (.invokevirtual 153, 3) := by decide +kernel
theorem dX7_linking_112 : decode cX7_linking 112 = .ok (.goto 4, 3) := by decide +kernel
theorem dX7_linking_115 : decode cX7_linking 115 = .ok (.iconst 0, 1) := by decide +kernel
theorem dX7_linking_116 : decode cX7_linking 116 = .ok (.iadd, 1) := by decide +kernel
theorem dX7_linking_117 : decode cX7_linking 117 = .ok (.istore_n 3, 1) := by decide +kernel
theorem dX7_linking_118 : decode cX7_linking 118 = .ok (.iinc 4 1, 3) := by decide +kernel
theorem dX7_linking_121 : decode cX7_linking 121 = .ok (.goto (-83), 3) := by decide +kernel
theorem dX7_linking_124 : decode cX7_linking 124 = .ok (.iload_n 3, 1) := by decide +kernel
theorem dX7_linking_125 : decode cX7_linking 125 = .ok (.ireturn, 1) := by decide +kernel
theorem dX7_isColouring_0 : decode cX7_isColouring 0 = .ok (.iconst 1, 1) := by decide +kernel
theorem dX7_isColouring_1 : decode cX7_isColouring 1 = .ok (.istore_n 1, 1) := by decide +kernel
theorem dX7_isColouring_2 : decode cX7_isColouring 2 = .ok (.iconst 0, 1) := by decide +kernel
theorem dX7_isColouring_3 : decode cX7_isColouring 3 = .ok (.istore_n 2, 1) := by decide +kernel
theorem dX7_isColouring_4 : decode cX7_isColouring 4 = .ok (.iload_n 2, 1) := by decide +kernel
theorem dX7_isColouring_5 : decode cX7_isColouring 5 = .ok (.aload_n 0, 1) := by decide +kernel
theorem dX7_isColouring_6 : decode cX7_isColouring 6 = .ok (.getfield 7, 3) := by decide +kernel
theorem dX7_isColouring_9 : decode cX7_isColouring 9 = .ok (.bipush 38, 2) := by decide +kernel
theorem dX7_isColouring_11 : decode cX7_isColouring 11 = .ok (.iaload, 1) := by decide +kernel
theorem dX7_isColouring_12 : decode cX7_isColouring 12 = .ok (.if_icmp .ge 99, 3) := by decide +kernel
theorem dX7_isColouring_15 : decode cX7_isColouring 15 = .ok (.iload_n 1, 1) := by decide +kernel
theorem dX7_isColouring_16 : decode cX7_isColouring 16 = .ok (.ifCond .eq 95, 3) := by decide +kernel
theorem dX7_isColouring_19 : decode cX7_isColouring 19 = .ok (.aload_n 0, 1) := by decide +kernel
theorem dX7_isColouring_20 : decode cX7_isColouring 20 = .ok (.getfield 28, 3) := by decide +kernel
theorem dX7_isColouring_23 : decode cX7_isColouring 23 = .ok (.aload_n 0, 1) := by decide +kernel
theorem dX7_isColouring_24 : decode cX7_isColouring 24 = .ok (.iload_n 2, 1) := by decide +kernel
theorem dX7_isColouring_25 : decode cX7_isColouring 25 = .ok (.iconst 1, 1) := by decide +kernel
theorem dX7_isColouring_26 : decode cX7_isColouring 26 = .ok (.invokevirtual 153, 3) := by decide +kernel
theorem dX7_isColouring_29 : decode cX7_isColouring 29 = .ok (.iaload, 1) := by decide +kernel
theorem dX7_isColouring_30 : decode cX7_isColouring 30 = .ok (.istore_n 3, 1) := by decide +kernel
theorem dX7_isColouring_31 : decode cX7_isColouring 31 = .ok (.aload_n 0, 1) := by decide +kernel
theorem dX7_isColouring_32 : decode cX7_isColouring 32 = .ok (.getfield 28, 3) := by decide +kernel
theorem dX7_isColouring_35 : decode cX7_isColouring 35 = .ok (.aload_n 0, 1) := by decide +kernel
theorem dX7_isColouring_36 : decode cX7_isColouring 36 = .ok (.iload_n 2, 1) := by decide +kernel
theorem dX7_isColouring_37 : decode cX7_isColouring 37 = .ok (.iconst 2, 1) := by decide +kernel
theorem dX7_isColouring_38 : decode cX7_isColouring 38 = .ok (.invokevirtual 153, 3) := by decide +kernel
theorem dX7_isColouring_41 : decode cX7_isColouring 41 = .ok (.iaload, 1) := by decide +kernel
theorem dX7_isColouring_42 : decode cX7_isColouring 42 = .ok (.istore 4, 2) := by decide +kernel
theorem dX7_isColouring_44 : decode cX7_isColouring 44 = .ok (.aload_n 0, 1) := by decide +kernel
theorem dX7_isColouring_45 : decode cX7_isColouring 45 = .ok (.getfield 28, 3) := by decide +kernel
theorem dX7_isColouring_48 : decode cX7_isColouring 48 = .ok (.aload_n 0, 1) := by decide +kernel
theorem dX7_isColouring_49 : decode cX7_isColouring 49 = .ok (.iload_n 2, 1) := by decide +kernel
theorem dX7_isColouring_50 : decode cX7_isColouring 50 = .ok (.iconst 0, 1) := by decide +kernel
theorem dX7_isColouring_51 : decode cX7_isColouring 51 = .ok (.invokevirtual 153, 3) := by decide +kernel
theorem dX7_isColouring_54 : decode cX7_isColouring 54 = .ok (.iaload, 1) := by decide +kernel
theorem dX7_isColouring_55 : decode cX7_isColouring 55 = .ok (.istore 5, 2) := by decide +kernel
theorem dX7_isColouring_57 : decode cX7_isColouring 57 = .ok (.aload_n 0, 1) := by decide +kernel
theorem dX7_isColouring_58 : decode cX7_isColouring 58 = .ok (.iload_n 2, 1) := by decide +kernel
theorem dX7_isColouring_59 : decode cX7_isColouring 59 = .ok (.iconst 3, 1) := by decide +kernel
theorem dX7_isColouring_60 : decode cX7_isColouring 60 = .ok (.invokevirtual 153, 3) := by decide +kernel
theorem dX7_isColouring_63 : decode cX7_isColouring 63 = .ok (.iconst 1, 1) := by decide +kernel
theorem dX7_isColouring_64 : decode cX7_isColouring 64 = .ok (.if_icmp .ne 23, 3) := by decide +kernel
theorem dX7_isColouring_67 : decode cX7_isColouring 67 = .ok (.iload 4, 2) := by decide +kernel
theorem dX7_isColouring_69 : decode cX7_isColouring 69 = .ok (.aload_n 0, 1) := by decide +kernel
theorem dX7_isColouring_70 : decode cX7_isColouring 70 = .ok (.iload_n 3, 1) := by decide +kernel
theorem dX7_isColouring_71 : decode cX7_isColouring 71 = .ok (.iload 5, 2) := by decide +kernel
theorem dX7_isColouring_73 : decode cX7_isColouring 73 = .ok (.invokevirtual 67, 3) := by decide +kernel
theorem dX7_isColouring_76 : decode cX7_isColouring 76 = .ok (.if_icmp .ne 7, 3) := by decide +kernel
theorem dX7_isColouring_79 : decode cX7_isColouring 79 = .ok (.iconst 1, 1) := by decide +kernel
theorem dX7_isColouring_80 : decode cX7_isColouring 80 = .ok (.goto 24, 3) := by decide +kernel
theorem dX7_isColouring_83 : decode cX7_isColouring 83 = .ok (.iconst 0, 1) := by decide +kernel
theorem dX7_isColouring_84 : decode cX7_isColouring 84 = .ok (.goto 20, 3) := by decide +kernel
theorem dX7_isColouring_87 : decode cX7_isColouring 87 = .ok (.iload_n 3, 1) := by decide +kernel
theorem dX7_isColouring_88 : decode cX7_isColouring 88 = .ok (.aload_n 0, 1) := by decide +kernel
theorem dX7_isColouring_89 : decode cX7_isColouring 89 = .ok (.iload 4, 2) := by decide +kernel
theorem dX7_isColouring_91 : decode cX7_isColouring 91 = .ok (.iload 5, 2) := by decide +kernel
theorem dX7_isColouring_93 : decode cX7_isColouring 93 = .ok (.invokevirtual 67, 3) := by decide +kernel
theorem dX7_isColouring_96 : decode cX7_isColouring 96 = .ok (.if_icmp .ne 7, 3) := by decide +kernel
theorem dX7_isColouring_99 : decode cX7_isColouring 99 = .ok (.iconst 1, 1) := by decide +kernel
theorem dX7_isColouring_100 : decode cX7_isColouring 100 = .ok (.goto 4, 3) := by decide +kernel
theorem dX7_isColouring_103 : decode cX7_isColouring 103 = .ok (.iconst 0, 1) := by decide +kernel
theorem dX7_isColouring_104 : decode cX7_isColouring 104 = .ok (.istore_n 1, 1) := by decide +kernel
theorem dX7_isColouring_105 : decode cX7_isColouring 105 = .ok (.iinc 2 1, 3) := by decide +kernel
theorem dX7_isColouring_108 : decode cX7_isColouring 108 = .ok (.goto (-104), 3) := by decide +kernel
theorem dX7_isColouring_111 : decode cX7_isColouring 111 = .ok (.iload_n 1, 1) := by decide +kernel
theorem dX7_isColouring_112 : decode cX7_isColouring 112 = .ok (.ireturn, 1) := by decide +kernel
theorem dX7_usedColours_0 : decode cX7_usedColours 0 = .ok (.iconst 0, 1) := by decide +kernel
theorem dX7_usedColours_1 : decode cX7_usedColours 1 = .ok (.istore_n 1, 1) := by decide +kernel
theorem dX7_usedColours_2 : decode cX7_usedColours 2 = .ok (.iconst 0, 1) := by decide +kernel
theorem dX7_usedColours_3 : decode cX7_usedColours 3 = .ok (.istore_n 2, 1) := by decide +kernel
theorem dX7_usedColours_4 : decode cX7_usedColours 4 = .ok (.iload_n 2, 1) := by decide +kernel
theorem dX7_usedColours_5 : decode cX7_usedColours 5 = .ok (.aload_n 0, 1) := by decide +kernel
theorem dX7_usedColours_6 : decode cX7_usedColours 6 = .ok (.getfield 7, 3) := by decide +kernel
theorem dX7_usedColours_9 : decode cX7_usedColours 9 = .ok (.bipush 37, 2) := by decide +kernel
theorem dX7_usedColours_11 : decode cX7_usedColours 11 = .ok (.iaload, 1) := by decide +kernel
theorem dX7_usedColours_12 : decode cX7_usedColours 12 = .ok (.if_icmp .ge 20, 3) := by decide +kernel
theorem dX7_usedColours_15 : decode cX7_usedColours 15 = .ok (.iload_n 1, 1) := by decide +kernel
theorem dX7_usedColours_16 : decode cX7_usedColours 16 = .ok (.iconst 1, 1) := by decide +kernel
theorem dX7_usedColours_17 : decode cX7_usedColours 17 = .ok (.aload_n 0, 1) := by decide +kernel
theorem dX7_usedColours_18 : decode cX7_usedColours 18 = .ok (.getfield 28, 3) := by decide +kernel
theorem dX7_usedColours_21 : decode cX7_usedColours 21 = .ok (.iload_n 2, 1) := by decide +kernel
theorem dX7_usedColours_22 : decode cX7_usedColours 22 = .ok (.iaload, 1) := by decide +kernel
theorem dX7_usedColours_23 : decode cX7_usedColours 23 = .ok (.ishl, 1) := by decide +kernel
theorem dX7_usedColours_24 : decode cX7_usedColours 24 = .ok (.ior, 1) := by decide +kernel
theorem dX7_usedColours_25 : decode cX7_usedColours 25 = .ok (.istore_n 1, 1) := by decide +kernel
theorem dX7_usedColours_26 : decode cX7_usedColours 26 = .ok (.iinc 2 1, 3) := by decide +kernel
theorem dX7_usedColours_29 : decode cX7_usedColours 29 = .ok (.goto (-25), 3) := by decide +kernel
theorem dX7_usedColours_32 : decode cX7_usedColours 32 = .ok (.iload_n 1, 1) := by decide +kernel
theorem dX7_usedColours_33 : decode cX7_usedColours 33 = .ok (.invokestatic 71, 3) := by decide +kernel
theorem dX7_usedColours_36 : decode cX7_usedColours 36 = .ok (.ireturn, 1) := by decide +kernel
theorem dX7_beginsColours_0 : decode cX7_beginsColours 0 = .ok (.iconst 0, 1) := by decide +kernel
theorem dX7_beginsColours_1 : decode cX7_beginsColours 1 = .ok (.istore_n 1, 1) := by decide +kernel
theorem dX7_beginsColours_2 : decode cX7_beginsColours 2 = .ok (.iload_n 1, 1) := by decide +kernel
theorem dX7_beginsColours_3 : decode cX7_beginsColours 3 = .ok (.bipush 7, 2) := by decide +kernel
theorem dX7_beginsColours_5 : decode cX7_beginsColours 5 = .ok (.if_icmp .ge 16, 3) := by decide +kernel
theorem dX7_beginsColours_8 : decode cX7_beginsColours 8 = .ok (.aload_n 0, 1) := by decide +kernel
theorem dX7_beginsColours_9 : decode cX7_beginsColours 9 = .ok (.getfield 28, 3) := by decide +kernel
theorem dX7_beginsColours_12 : decode cX7_beginsColours 12 = .ok (.iload_n 1, 1) := by decide +kernel
theorem dX7_beginsColours_13 : decode cX7_beginsColours 13 = .ok (.iconst 0, 1) := by decide +kernel
theorem dX7_beginsColours_14 : decode cX7_beginsColours 14 = .ok (.iastore, 1) := by decide +kernel
theorem dX7_beginsColours_15 : decode cX7_beginsColours 15 = .ok (.iinc 1 1, 3) := by decide +kernel
theorem dX7_beginsColours_18 : decode cX7_beginsColours 18 = .ok (.goto (-16), 3) := by decide +kernel
theorem dX7_beginsColours_21 : decode cX7_beginsColours 21 = .ok (.return_, 1) := by decide +kernel
theorem dX7_goesOnColours_0 : decode cX7_goesOnColours 0 = .ok (.aload_n 0, 1) := by decide +kernel
theorem dX7_goesOnColours_1 : decode cX7_goesOnColours 1 = .ok (.getfield 7, 3) := by decide +kernel
theorem dX7_goesOnColours_4 : decode cX7_goesOnColours 4 = .ok (.bipush 37, 2) := by decide +kernel
theorem dX7_goesOnColours_6 : decode cX7_goesOnColours 6 = .ok (.iaload, 1) := by decide +kernel
theorem dX7_goesOnColours_7 : decode cX7_goesOnColours 7 = .ok (.iconst 1, 1) := by decide +kernel
theorem dX7_goesOnColours_8 : decode cX7_goesOnColours 8 = .ok (.isub, 1) := by decide +kernel
theorem dX7_goesOnColours_9 : decode cX7_goesOnColours 9 = .ok (.istore_n 1, 1) := by decide +kernel
theorem dX7_goesOnColours_10 : decode cX7_goesOnColours 10 = .ok (.iload_n 1, 1) := by decide +kernel
theorem dX7_goesOnColours_11 : decode cX7_goesOnColours 11 = .ok (.ifCond .lt 33, 3) := by decide +kernel
theorem dX7_goesOnColours_14 : decode cX7_goesOnColours 14 = .ok (.aload_n 0, 1) := by decide +kernel
theorem dX7_goesOnColours_15 : decode cX7_goesOnColours 15 = .ok (.getfield 28, 3) := by decide +kernel
theorem dX7_goesOnColours_18 : decode cX7_goesOnColours 18 = .ok (.iload_n 1, 1) := by decide +kernel
theorem dX7_goesOnColours_19 : decode cX7_goesOnColours 19 = .ok (.iaload, 1) := by decide +kernel
theorem dX7_goesOnColours_20 : decode cX7_goesOnColours 20 = .ok (.aload_n 0, 1) := by decide +kernel
theorem dX7_goesOnColours_21 : decode cX7_goesOnColours 21 = .ok (.getfield 7, 3) := by decide +kernel
theorem dX7_goesOnColours_24 : decode cX7_goesOnColours 24 = .ok (.iconst 0, 1) := by decide +kernel
theorem dX7_goesOnColours_25 : decode cX7_goesOnColours 25 = .ok (.iaload, 1) := by decide +kernel
theorem dX7_goesOnColours_26 : decode cX7_goesOnColours 26 = .ok (.iconst 1, 1) := by decide +kernel
theorem dX7_goesOnColours_27 : decode cX7_goesOnColours 27 = .ok (.isub, 1) := by decide +kernel
theorem dX7_goesOnColours_28 : decode cX7_goesOnColours 28 = .ok (.if_icmp .ne 16, 3) := by decide +kernel
theorem dX7_goesOnColours_31 : decode cX7_goesOnColours 31 = .ok (.aload_n 0, 1) := by decide +kernel
theorem dX7_goesOnColours_32 : decode cX7_goesOnColours 32 = .ok (.getfield 28, 3) := by decide +kernel
theorem dX7_goesOnColours_35 : decode cX7_goesOnColours 35 = .ok (.iload_n 1, 1) := by decide +kernel
theorem dX7_goesOnColours_36 : decode cX7_goesOnColours 36 = .ok (.iconst 0, 1) := by decide +kernel
theorem dX7_goesOnColours_37 : decode cX7_goesOnColours 37 = .ok (.iastore, 1) := by decide +kernel
theorem dX7_goesOnColours_38 : decode cX7_goesOnColours 38 = .ok (.iinc 1 (-1), 3) := by decide +kernel
theorem dX7_goesOnColours_41 : decode cX7_goesOnColours 41 = .ok (.goto (-31), 3) := by decide +kernel
theorem dX7_goesOnColours_44 : decode cX7_goesOnColours 44 = .ok (.iload_n 1, 1) := by decide +kernel
theorem dX7_goesOnColours_45 : decode cX7_goesOnColours 45 = .ok (.ifCond .lt 13, 3) := by decide +kernel
theorem dX7_goesOnColours_48 : decode cX7_goesOnColours 48 = .ok (.aload_n 0, 1) := by decide +kernel
theorem dX7_goesOnColours_49 : decode cX7_goesOnColours 49 = .ok (.getfield 28, 3) := by decide +kernel
theorem dX7_goesOnColours_52 : decode cX7_goesOnColours 52 = .ok (.iload_n 1, 1) := by decide +kernel
theorem dX7_goesOnColours_53 : decode cX7_goesOnColours 53 = .ok (.dup2, 1) := by decide +kernel
theorem dX7_goesOnColours_54 : decode cX7_goesOnColours 54 = .ok (.iaload, 1) := by decide +kernel
theorem dX7_goesOnColours_55 : decode cX7_goesOnColours 55 = .ok (.iconst 1, 1) := by decide +kernel
theorem dX7_goesOnColours_56 : decode cX7_goesOnColours 56 = .ok (.iadd, 1) := by decide +kernel
theorem dX7_goesOnColours_57 : decode cX7_goesOnColours 57 = .ok (.iastore, 1) := by decide +kernel
theorem dX7_goesOnColours_58 : decode cX7_goesOnColours 58 = .ok (.iload_n 1, 1) := by decide +kernel
theorem dX7_goesOnColours_59 : decode cX7_goesOnColours 59 = .ok (.ifCond .lt 7, 3) := by decide +kernel
theorem dX7_goesOnColours_62 : decode cX7_goesOnColours 62 = .ok (.iconst 1, 1) := by decide +kernel
theorem dX7_goesOnColours_63 : decode cX7_goesOnColours 63 = .ok (.goto 4, 3) := by decide +kernel
theorem dX7_goesOnColours_66 : decode cX7_goesOnColours 66 = .ok (.iconst 0, 1) := by decide +kernel
theorem dX7_goesOnColours_67 : decode cX7_goesOnColours 67 = .ok (.ireturn, 1) := by decide +kernel
theorem dX7_counts_0 : decode cX7_counts 0 = .ok (.iconst 0, 1) := by decide +kernel
theorem dX7_counts_1 : decode cX7_counts 1 = .ok (.istore 4, 2) := by decide +kernel
theorem dX7_counts_3 : decode cX7_counts 3 = .ok (.aload_n 0, 1) := by decide +kernel
theorem dX7_counts_4 : decode cX7_counts 4 = .ok (.invokevirtual 172, 3) := by decide +kernel
theorem dX7_counts_7 : decode cX7_counts 7 = .ok (.iconst 1, 1) := by decide +kernel
theorem dX7_counts_8 : decode cX7_counts 8 = .ok (.istore 5, 2) := by decide +kernel
theorem dX7_counts_10 : decode cX7_counts 10 = .ok (.iload 5, 2) := by decide +kernel
theorem dX7_counts_12 : decode cX7_counts 12 = .ok (.ifCond .eq 94, 3) := by decide +kernel
theorem dX7_counts_15 : decode cX7_counts 15 = .ok (.iload_n 1, 1) := by decide +kernel
theorem dX7_counts_16 : decode cX7_counts 16 = .ok (.ifCond .eq 52, 3) := by decide +kernel
theorem dX7_counts_19 : decode cX7_counts 19 = .ok (.iload_n 1, 1) := by decide +kernel
theorem dX7_counts_20 : decode cX7_counts 20 = .ok (.iconst 1, 1) := by decide +kernel
theorem dX7_counts_21 : decode cX7_counts 21 = .ok (.if_icmp .ne 16, 3) := by decide +kernel
theorem dX7_counts_24 : decode cX7_counts 24 = .ok (.aload_n 0, 1) := by decide +kernel
theorem dX7_counts_25 : decode cX7_counts 25 = .ok (.getfield 28, 3) := by decide +kernel
theorem dX7_counts_28 : decode cX7_counts 28 = .ok (.iload_n 2, 1) := by decide +kernel
theorem dX7_counts_29 : decode cX7_counts 29 = .ok (.iaload, 1) := by decide +kernel
theorem dX7_counts_30 : decode cX7_counts 30 = .ok (.iload_n 3, 1) := by decide +kernel
theorem dX7_counts_31 : decode cX7_counts 31 = .ok (.if_icmp .ne 41, 3) := by decide +kernel
theorem dX7_counts_34 : decode cX7_counts 34 = .ok (.goto 34, 3) := by decide +kernel
theorem dX7_counts_37 : decode cX7_counts 37 = .ok (.iload_n 1, 1) := by decide +kernel
theorem dX7_counts_38 : decode cX7_counts 38 = .ok (.iconst 2, 1) := by decide +kernel
theorem dX7_counts_39 : decode cX7_counts 39 = .ok (.if_icmp .ne 21, 3) := by decide +kernel
theorem dX7_counts_42 : decode cX7_counts 42 = .ok (.aload_n 0, 1) := by decide +kernel
theorem dX7_counts_43 : decode cX7_counts 43 = .ok (.getfield 28, 3) := by decide +kernel
theorem dX7_counts_46 : decode cX7_counts 46 = .ok (.iload_n 2, 1) := by decide +kernel
theorem dX7_counts_47 : decode cX7_counts 47 = .ok (.iaload, 1) := by decide +kernel
theorem dX7_counts_48 : decode cX7_counts 48 = .ok (.aload_n 0, 1) := by decide +kernel
theorem dX7_counts_49 : decode cX7_counts 49 = .ok (.getfield 28, 3) := by decide +kernel
theorem dX7_counts_52 : decode cX7_counts 52 = .ok (.iload_n 3, 1) := by decide +kernel
theorem dX7_counts_53 : decode cX7_counts 53 = .ok (.iaload, 1) := by decide +kernel
theorem dX7_counts_54 : decode cX7_counts 54 = .ok (.if_icmp .ne 18, 3) := by decide +kernel
theorem dX7_counts_57 : decode cX7_counts 57 = .ok (.goto 11, 3) := by decide +kernel
theorem dX7_counts_60 : decode cX7_counts 60 = .ok (.aload_n 0, 1) := by decide +kernel
theorem dX7_counts_61 : decode cX7_counts 61 = .ok (.invokevirtual 175, 3) := by decide +kernel
theorem dX7_counts_64 : decode cX7_counts 64 = .ok (.iload_n 2, 1) := by decide +kernel
theorem dX7_counts_65 : decode cX7_counts 65 = .ok (.if_icmp .ne 7, 3) := by decide +kernel
theorem dX7_counts_68 : decode cX7_counts 68 = .ok (.iconst 1, 1) := by decide +kernel
theorem dX7_counts_69 : decode cX7_counts 69 = .ok (.goto 4, 3) := by decide +kernel
theorem dX7_counts_72 : decode cX7_counts 72 = .ok (.iconst 0, 1) := by decide +kernel
theorem dX7_counts_73 : decode cX7_counts 73 = .ok (.istore 6, 2) := by decide +kernel
theorem dX7_counts_75 : decode cX7_counts 75 = .ok (.iload 4, 2) := by decide +kernel
theorem dX7_counts_77 : decode cX7_counts 77 = .ok (.iload 6, 2) := by decide +kernel
theorem dX7_counts_79 : decode cX7_counts 79 = .ok (.ifCond .eq 14, 3) := by decide +kernel
theorem dX7_counts_82 : decode cX7_counts 82 = .ok (.aload_n 0, 1) := by decide +kernel
theorem dX7_counts_83 : decode cX7_counts 83 = .ok (.invokevirtual 178, 3) := by decide +kernel
theorem dX7_counts_86 : decode cX7_counts 86 = .ok (.ifCond .eq 7, 3) := by decide +kernel
theorem dX7_counts_89 : decode cX7_counts 89 = .ok (.iconst 1, 1) := by decide +kernel
theorem dX7_counts_90 : decode cX7_counts 90 = .ok (.goto 4, 3) := by decide +kernel
theorem dX7_counts_93 : decode cX7_counts 93 = .ok (.iconst 0, 1) := by decide +kernel
theorem dX7_counts_94 : decode cX7_counts 94 = .ok (.iadd, 1) := by decide +kernel
theorem dX7_counts_95 : decode cX7_counts 95 = .ok (.istore 4, 2) := by decide +kernel
theorem dX7_counts_97 : decode cX7_counts 97 = .ok (.aload_n 0, 1) := by decide +kernel
theorem dX7_counts_98 : decode cX7_counts 98 = .ok (.invokevirtual 181, 3) := by decide +kernel
theorem dX7_counts_101 : decode cX7_counts 101 = .ok (.istore 5, 2) := by decide +kernel
theorem dX7_counts_103 : decode cX7_counts 103 = .ok (.goto (-93), 3) := by decide +kernel
theorem dX7_counts_106 : decode cX7_counts 106 = .ok (.iload 4, 2) := by decide +kernel
theorem dX7_counts_108 : decode cX7_counts 108 = .ok (.ireturn, 1) := by decide +kernel
theorem dX7_colourings_0 : decode cX7_colourings 0 = .ok (.aload_n 0, 1) := by decide +kernel
theorem dX7_colourings_1 : decode cX7_colourings 1 = .ok (.iconst 0, 1) := by decide +kernel
theorem dX7_colourings_2 : decode cX7_colourings 2 = .ok (.iconst 0, 1) := by decide +kernel
theorem dX7_colourings_3 : decode cX7_colourings 3 = .ok (.iconst 0, 1) := by decide +kernel
theorem dX7_colourings_4 : decode cX7_colourings 4 = .ok (.invokevirtual 184, 3) := by decide +kernel
theorem dX7_colourings_7 : decode cX7_colourings 7 = .ok (.ireturn, 1) := by decide +kernel
theorem dX7_colouringsWith_0 : decode cX7_colouringsWith 0 = .ok (.aload_n 0, 1) := by decide +kernel
theorem dX7_colouringsWith_1 : decode cX7_colouringsWith 1 = .ok (.iload_n 1, 1) := by decide +kernel
theorem dX7_colouringsWith_2 : decode cX7_colouringsWith 2 = .ok (.invokevirtual 144, 3) := by decide +kernel
theorem dX7_colouringsWith_5 : decode cX7_colouringsWith 5 = .ok (.ifCond .eq 21, 3) := by decide +kernel
theorem dX7_colouringsWith_8 : decode cX7_colouringsWith 8 = .ok (.aload_n 0, 1) := by decide +kernel
theorem dX7_colouringsWith_9 : decode cX7_colouringsWith 9 = .ok (.iload_n 2, 1) := by decide +kernel
theorem dX7_colouringsWith_10 : decode cX7_colouringsWith 10 = .ok (.invokevirtual 63, 3) := by decide +kernel
theorem dX7_colouringsWith_13 : decode cX7_colouringsWith 13 = .ok (.ifCond .eq 13, 3) := by decide +kernel
theorem dX7_colouringsWith_16 : decode cX7_colouringsWith 16 = .ok (.aload_n 0, 1) := by decide +kernel
theorem dX7_colouringsWith_17 : decode cX7_colouringsWith 17 = .ok (.iconst 1, 1) := by decide +kernel
theorem dX7_colouringsWith_18 : decode cX7_colouringsWith 18 = .ok (.iload_n 1, 1) := by decide +kernel
theorem dX7_colouringsWith_19 : decode cX7_colouringsWith 19 = .ok (.iload_n 2, 1) := by decide +kernel
theorem dX7_colouringsWith_20 : decode cX7_colouringsWith 20 = .ok (.invokevirtual 184, 3) := by decide +kernel
theorem dX7_colouringsWith_23 : decode cX7_colouringsWith 23 = .ok (.goto 4, 3) := by decide +kernel
theorem dX7_colouringsWith_26 : decode cX7_colouringsWith 26 = .ok (.iconst (-1), 1) := by decide +kernel
theorem dX7_colouringsWith_27 : decode cX7_colouringsWith 27 = .ok (.ireturn, 1) := by decide +kernel
theorem dX7_colouringsAlike_0 : decode cX7_colouringsAlike 0 = .ok (.aload_n 0, 1) := by decide +kernel
theorem dX7_colouringsAlike_1 : decode cX7_colouringsAlike 1 = .ok (.iload_n 1, 1) := by decide +kernel
theorem dX7_colouringsAlike_2 : decode cX7_colouringsAlike 2 = .ok (.invokevirtual 144, 3) := by decide +kernel
theorem dX7_colouringsAlike_5 : decode cX7_colouringsAlike 5 = .ok (.ifCond .eq 21, 3) := by decide +kernel
theorem dX7_colouringsAlike_8 : decode cX7_colouringsAlike 8 = .ok (.aload_n 0, 1) := by decide +kernel
theorem dX7_colouringsAlike_9 : decode cX7_colouringsAlike 9 = .ok (.iload_n 2, 1) := by decide +kernel
theorem dX7_colouringsAlike_10 : decode cX7_colouringsAlike 10 = .ok (.invokevirtual 144, 3) := by decide +kernel
theorem dX7_colouringsAlike_13 : decode cX7_colouringsAlike 13 = .ok (.ifCond .eq 13, 3) := by decide +kernel
theorem dX7_colouringsAlike_16 : decode cX7_colouringsAlike 16 = .ok (.aload_n 0, 1) := by decide +kernel
theorem dX7_colouringsAlike_17 : decode cX7_colouringsAlike 17 = .ok (.iconst 2, 1) := by decide +kernel
theorem dX7_colouringsAlike_18 : decode cX7_colouringsAlike 18 = .ok (.iload_n 1, 1) := by decide +kernel
theorem dX7_colouringsAlike_19 : decode cX7_colouringsAlike 19 = .ok (.iload_n 2, 1) := by decide +kernel
theorem dX7_colouringsAlike_20 : decode cX7_colouringsAlike 20 = .ok (.invokevirtual 184, 3) := by decide +kernel
theorem dX7_colouringsAlike_23 : decode cX7_colouringsAlike 23 = .ok (.goto 4, 3) := by decide +kernel
theorem dX7_colouringsAlike_26 : decode cX7_colouringsAlike 26 = .ok (.iconst (-1), 1) := by decide +kernel
theorem dX7_colouringsAlike_27 : decode cX7_colouringsAlike 27 = .ok (.ireturn, 1) := by decide +kernel
theorem dX7_colouringsUsing_0 : decode cX7_colouringsUsing 0 = .ok (.iload_n 1, 1) := by decide +kernel
theorem dX7_colouringsUsing_1 : decode cX7_colouringsUsing 1 = .ok (.iconst 1, 1) := by decide +kernel
theorem dX7_colouringsUsing_2 : decode cX7_colouringsUsing 2 = .ok (.bipush 6, 2) := by decide +kernel
theorem dX7_colouringsUsing_4 : decode cX7_colouringsUsing 4 = .ok (.invokestatic 35, 3) := by decide +kernel
theorem dX7_colouringsUsing_7 : decode cX7_colouringsUsing 7 = .ok (.ifCond .eq 13, 3) := by decide +kernel
theorem dX7_colouringsUsing_10 : decode cX7_colouringsUsing 10 = .ok (.aload_n 0, 1) := by decide +kernel
theorem dX7_colouringsUsing_11 : decode cX7_colouringsUsing 11 = .ok (.iconst 3, 1) := by decide +kernel
theorem dX7_colouringsUsing_12 : decode cX7_colouringsUsing 12 = .ok (.iload_n 1, 1) := by decide +kernel
theorem dX7_colouringsUsing_13 : decode cX7_colouringsUsing 13 = .ok (.iconst 0, 1) := by decide +kernel
theorem dX7_colouringsUsing_14 : decode cX7_colouringsUsing 14 = .ok (.invokevirtual 184, 3) := by decide +kernel
theorem dX7_colouringsUsing_17 : decode cX7_colouringsUsing 17 = .ok (.goto 5, 3) := by decide +kernel
theorem dX7_colouringsUsing_20 : decode cX7_colouringsUsing 20 = .ok (.bipush (-2), 2) := by decide +kernel
theorem dX7_colouringsUsing_22 : decode cX7_colouringsUsing 22 = .ok (.ireturn, 1) := by decide +kernel
theorem dX7_colour_0 : decode cX7_colour 0 = .ok (.iload_n 1, 1) := by decide +kernel
theorem dX7_colour_1 : decode cX7_colour 1 = .ok (.ifCond .lt 11, 3) := by decide +kernel
theorem dX7_colour_4 : decode cX7_colour 4 = .ok (.aload_n 0, 1) := by decide +kernel
theorem dX7_colour_5 : decode cX7_colour 5 = .ok (.iload_n 2, 1) := by decide +kernel
theorem dX7_colour_6 : decode cX7_colour 6 = .ok (.invokevirtual 144, 3) := by decide +kernel
theorem dX7_colour_9 : decode cX7_colour 9 = .ok (.ifCond .ne 5, 3) := by decide +kernel
theorem dX7_colour_12 : decode cX7_colour 12 = .ok (.iconst (-1), 1) := by decide +kernel
theorem dX7_colour_13 : decode cX7_colour 13 = .ok (.ireturn, 1) := by decide +kernel
theorem dX7_colour_14 : decode cX7_colour 14 = .ok (.iload_n 1, 1) := by decide +kernel
theorem dX7_colour_15 : decode cX7_colour 15 = .ok (.istore_n 3, 1) := by decide +kernel
theorem dX7_colour_16 : decode cX7_colour 16 = .ok (.aload_n 0, 1) := by decide +kernel
theorem dX7_colour_17 : decode cX7_colour 17 = .ok (.invokevirtual 172, 3) := by decide +kernel
theorem dX7_colour_20 : decode cX7_colour 20 = .ok (.iconst 1, 1) := by decide +kernel
theorem dX7_colour_21 : decode cX7_colour 21 = .ok (.istore 4, 2) := by decide +kernel
theorem dX7_colour_23 : decode cX7_colour 23 = .ok (.iload 4, 2) := by decide +kernel
theorem dX7_colour_25 : decode cX7_colour 25 = .ok (.ifCond .eq 33, 3) := by decide +kernel
theorem dX7_colour_28 : decode cX7_colour 28 = .ok (.aload_n 0, 1) := by decide +kernel
theorem dX7_colour_29 : decode cX7_colour 29 = .ok (.invokevirtual 178, 3) := by decide +kernel
theorem dX7_colour_32 : decode cX7_colour 32 = .ok (.ifCond .eq 17, 3) := by decide +kernel
theorem dX7_colour_35 : decode cX7_colour 35 = .ok (.iload_n 3, 1) := by decide +kernel
theorem dX7_colour_36 : decode cX7_colour 36 = .ok (.ifCond .ne 10, 3) := by decide +kernel
theorem dX7_colour_39 : decode cX7_colour 39 = .ok (.aload_n 0, 1) := by decide +kernel
theorem dX7_colour_40 : decode cX7_colour 40 = .ok (.getfield 28, 3) := by decide +kernel
theorem dX7_colour_43 : decode cX7_colour 43 = .ok (.iload_n 2, 1) := by decide +kernel
theorem dX7_colour_44 : decode cX7_colour 44 = .ok (.iaload, 1) := by decide +kernel
theorem dX7_colour_45 : decode cX7_colour 45 = .ok (.ireturn, 1) := by decide +kernel
theorem dX7_colour_46 : decode cX7_colour 46 = .ok (.iinc 3 (-1), 3) := by decide +kernel
theorem dX7_colour_49 : decode cX7_colour 49 = .ok (.aload_n 0, 1) := by decide +kernel
theorem dX7_colour_50 : decode cX7_colour 50 = .ok (.invokevirtual 181, 3) := by decide +kernel
theorem dX7_colour_53 : decode cX7_colour 53 = .ok (.istore 4, 2) := by decide +kernel
theorem dX7_colour_55 : decode cX7_colour 55 = .ok (.goto (-32), 3) := by decide +kernel
theorem dX7_colour_58 : decode cX7_colour 58 = .ok (.iconst (-1), 1) := by decide +kernel
theorem dX7_colour_59 : decode cX7_colour 59 = .ok (.ireturn, 1) := by decide +kernel
theorem dX7_type_0 : decode cX7_type 0 = .ok (.iload_n 1, 1) := by decide +kernel
theorem dX7_type_1 : decode cX7_type 1 = .ok (.bipush 33, 2) := by decide +kernel
theorem dX7_type_3 : decode cX7_type 3 = .ok (.bipush 126, 2) := by decide +kernel
theorem dX7_type_5 : decode cX7_type 5 = .ok (.invokestatic 35, 3) := by decide +kernel
theorem dX7_type_8 : decode cX7_type 8 = .ok (.ifCond .ne 6, 3) := by decide +kernel
theorem dX7_type_11 : decode cX7_type 11 = .ok (.bipush (-2), 2) := by decide +kernel
theorem dX7_type_13 : decode cX7_type 13 = .ok (.ireturn, 1) := by decide +kernel
theorem dX7_type_14 : decode cX7_type 14 = .ok (.aload_n 0, 1) := by decide +kernel
theorem dX7_type_15 : decode cX7_type 15 = .ok (.getfield 187, 3) := by decide +kernel
theorem dX7_type_18 : decode cX7_type 18 = .ok (.bipush 70, 2) := by decide +kernel
theorem dX7_type_20 : decode cX7_type 20 = .ok (.if_icmp .ne 6, 3) := by decide +kernel
theorem dX7_type_23 : decode cX7_type 23 = .ok (.bipush (-4), 2) := by decide +kernel
theorem dX7_type_25 : decode cX7_type 25 = .ok (.ireturn, 1) := by decide +kernel
theorem dX7_type_26 : decode cX7_type 26 = .ok (.aload_n 0, 1) := by decide +kernel
theorem dX7_type_27 : decode cX7_type 27 = .ok (.getfield 16, 3) := by decide +kernel
theorem dX7_type_30 : decode cX7_type 30 = .ok (.aload_n 0, 1) := by decide +kernel
theorem dX7_type_31 : decode cX7_type 31 = .ok (.getfield 187, 3) := by decide +kernel
theorem dX7_type_34 : decode cX7_type 34 = .ok (.iload_n 1, 1) := by decide +kernel
theorem dX7_type_35 : decode cX7_type 35 = .ok (.iastore, 1) := by decide +kernel
theorem dX7_type_36 : decode cX7_type 36 = .ok (.aload_n 0, 1) := by decide +kernel
theorem dX7_type_37 : decode cX7_type 37 = .ok (.dup, 1) := by decide +kernel
theorem dX7_type_38 : decode cX7_type 38 = .ok (.getfield 187, 3) := by decide +kernel
theorem dX7_type_41 : decode cX7_type 41 = .ok (.iconst 1, 1) := by decide +kernel
theorem dX7_type_42 : decode cX7_type 42 = .ok (.iadd, 1) := by decide +kernel
theorem dX7_type_43 : decode cX7_type 43 = .ok (.putfield 187, 3) := by decide +kernel
theorem dX7_type_46 : decode cX7_type 46 = .ok (.aload_n 0, 1) := by decide +kernel
theorem dX7_type_47 : decode cX7_type 47 = .ok (.getfield 187, 3) := by decide +kernel
theorem dX7_type_50 : decode cX7_type 50 = .ok (.ireturn, 1) := by decide +kernel
theorem dX7_clearText_0 : decode cX7_clearText 0 = .ok (.aload_n 0, 1) := by decide +kernel
theorem dX7_clearText_1 : decode cX7_clearText 1 = .ok (.getfield 187, 3) := by decide +kernel
theorem dX7_clearText_4 : decode cX7_clearText 4 = .ok (.istore_n 1, 1) := by decide +kernel
theorem dX7_clearText_5 : decode cX7_clearText 5 = .ok (.aload_n 0, 1) := by decide +kernel
theorem dX7_clearText_6 : decode cX7_clearText 6 = .ok (.iconst 0, 1) := by decide +kernel
theorem dX7_clearText_7 : decode cX7_clearText 7 = .ok (.putfield 187, 3) := by decide +kernel
theorem dX7_clearText_10 : decode cX7_clearText 10 = .ok (.iload_n 1, 1) := by decide +kernel
theorem dX7_clearText_11 : decode cX7_clearText 11 = .ok (.ireturn, 1) := by decide +kernel
theorem dX7_character_0 : decode cX7_character 0 = .ok (.iload_n 1, 1) := by decide +kernel
theorem dX7_character_1 : decode cX7_character 1 = .ok (.aload_n 0, 1) := by decide +kernel
theorem dX7_character_2 : decode cX7_character 2 = .ok (.getfield 187, 3) := by decide +kernel
theorem dX7_character_5 : decode cX7_character 5 = .ok (.if_icmp .ge 12, 3) := by decide +kernel
theorem dX7_character_8 : decode cX7_character 8 = .ok (.aload_n 0, 1) := by decide +kernel
theorem dX7_character_9 : decode cX7_character 9 = .ok (.getfield 16, 3) := by decide +kernel
theorem dX7_character_12 : decode cX7_character 12 = .ok (.iload_n 1, 1) := by decide +kernel
theorem dX7_character_13 : decode cX7_character 13 = .ok (.iaload, 1) := by decide +kernel
theorem dX7_character_14 : decode cX7_character 14 = .ok (.goto 4, 3) := by decide +kernel
theorem dX7_character_17 : decode cX7_character 17 = .ok (.iconst (-1), 1) := by decide +kernel
theorem dX7_character_18 : decode cX7_character 18 = .ok (.ireturn, 1) := by decide +kernel
theorem dX7_isNext_0 : decode cX7_isNext 0 = .ok (.aload_n 0, 1) := by decide +kernel
theorem dX7_isNext_1 : decode cX7_isNext 1 = .ok (.aload_n 0, 1) := by decide +kernel
theorem dX7_isNext_2 : decode cX7_isNext 2 = .ok (.getfield 190, 3) := by decide +kernel
theorem dX7_isNext_5 : decode cX7_isNext 5 = .ok (.invokevirtual 193, 3) := by decide +kernel
theorem dX7_isNext_8 : decode cX7_isNext 8 = .ok (.iload_n 1, 1) := by decide +kernel
theorem dX7_isNext_9 : decode cX7_isNext 9 = .ok (.if_icmp .ne 7, 3) := by decide +kernel
theorem dX7_isNext_12 : decode cX7_isNext 12 = .ok (.iconst 1, 1) := by decide +kernel
theorem dX7_isNext_13 : decode cX7_isNext 13 = .ok (.goto 4, 3) := by decide +kernel
theorem dX7_isNext_16 : decode cX7_isNext 16 = .ok (.iconst 0, 1) := by decide +kernel
theorem dX7_isNext_17 : decode cX7_isNext 17 = .ok (.istore_n 2, 1) := by decide +kernel
theorem dX7_isNext_18 : decode cX7_isNext 18 = .ok (.aload_n 0, 1) := by decide +kernel
theorem dX7_isNext_19 : decode cX7_isNext 19 = .ok (.dup, 1) := by decide +kernel
theorem dX7_isNext_20 : decode cX7_isNext 20 = .ok (.getfield 190, 3) := by decide +kernel
theorem dX7_isNext_23 : decode cX7_isNext 23 = .ok (.iload_n 2, 1) := by decide +kernel
theorem dX7_isNext_24 : decode cX7_isNext 24 = .ok (.ifCond .eq 7, 3) := by decide +kernel
theorem dX7_isNext_27 : decode cX7_isNext 27 = .ok (.iconst 1, 1) := by decide +kernel
theorem dX7_isNext_28 : decode cX7_isNext 28 = .ok (.goto 4, 3) := by decide +kernel
theorem dX7_isNext_31 : decode cX7_isNext 31 = .ok (.iconst 0, 1) := by decide +kernel
theorem dX7_isNext_32 : decode cX7_isNext 32 = .ok (.iadd, 1) := by decide +kernel
theorem dX7_isNext_33 : decode cX7_isNext 33 = .ok (.putfield 190, 3) := by decide +kernel
theorem dX7_isNext_36 : decode cX7_isNext 36 = .ok (.iload_n 2, 1) := by decide +kernel
theorem dX7_isNext_37 : decode cX7_isNext 37 = .ok (.ireturn, 1) := by decide +kernel
theorem dX7_arcRead_0 : decode cX7_arcRead 0 = .ok (.aload_n 0, 1) := by decide +kernel
theorem dX7_arcRead_1 : decode cX7_arcRead 1 = .ok (.aload_n 0, 1) := by decide +kernel
theorem dX7_arcRead_2 : decode cX7_arcRead 2 = .ok (.getfield 190, 3) := by decide +kernel
theorem dX7_arcRead_5 : decode cX7_arcRead 5 = .ok (.invokevirtual 193, 3) := by decide +kernel
theorem dX7_arcRead_8 : decode cX7_arcRead 8 = .ok (.bipush 48, 2) := by decide +kernel
theorem dX7_arcRead_10 : decode cX7_arcRead 10 = .ok (.isub, 1) := by decide +kernel
theorem dX7_arcRead_11 : decode cX7_arcRead 11 = .ok (.istore_n 1, 1) := by decide +kernel
theorem dX7_arcRead_12 : decode cX7_arcRead 12 = .ok (.iload_n 1, 1) := by decide +kernel
theorem dX7_arcRead_13 : decode cX7_arcRead 13 = .ok (.iconst 0, 1) := by decide +kernel
theorem dX7_arcRead_14 : decode cX7_arcRead 14 = .ok (.bipush 6, 2) := by decide +kernel
theorem dX7_arcRead_16 : decode cX7_arcRead 16 = .ok (.invokestatic 35, 3) := by decide +kernel
theorem dX7_arcRead_19 : decode cX7_arcRead 19 = .ok (.ifCond .ne 6, 3) := by decide +kernel
theorem dX7_arcRead_22 : decode cX7_arcRead 22 = .ok (.bipush (-6), 2) := by decide +kernel
theorem dX7_arcRead_24 : decode cX7_arcRead 24 = .ok (.ireturn, 1) := by decide +kernel
theorem dX7_arcRead_25 : decode cX7_arcRead 25 = .ok (.aload_n 0, 1) := by decide +kernel
theorem dX7_arcRead_26 : decode cX7_arcRead 26 = .ok (.dup, 1) := by decide +kernel
theorem dX7_arcRead_27 : decode cX7_arcRead 27 = .ok (.getfield 190, 3) := by decide +kernel
theorem dX7_arcRead_30 : decode cX7_arcRead 30 = .ok (.iconst 1, 1) := by decide +kernel
theorem dX7_arcRead_31 : decode cX7_arcRead 31 = .ok (.iadd, 1) := by decide +kernel
theorem dX7_arcRead_32 : decode cX7_arcRead 32 = .ok (.putfield 190, 3) := by decide +kernel
theorem dX7_arcRead_35 : decode cX7_arcRead 35 = .ok (.iload_n 1, 1) := by decide +kernel
theorem dX7_arcRead_36 : decode cX7_arcRead 36 = .ok (.ireturn, 1) := by decide +kernel
theorem dX7_readsCrossing_0 : decode cX7_readsCrossing 0 = .ok (.aload_n 0, 1) := by decide +kernel
theorem dX7_readsCrossing_1 : decode cX7_readsCrossing 1 = .ok (.aload_n 0, 1) := by decide +kernel
theorem dX7_readsCrossing_2 : decode cX7_readsCrossing 2 = .ok (.invokevirtual 196, 3) := by decide +kernel
theorem dX7_readsCrossing_5 : decode cX7_readsCrossing 5 = .ok (.putfield 199, 3) := by decide +kernel
theorem dX7_readsCrossing_8 : decode cX7_readsCrossing 8 = .ok (.aload_n 0, 1) := by decide +kernel
theorem dX7_readsCrossing_9 : decode cX7_readsCrossing 9 = .ok (.getfield 199, 3) := by decide +kernel
theorem dX7_readsCrossing_12 : decode cX7_readsCrossing 12 = .ok (.bipush (-6), 2) := by decide +kernel
theorem dX7_readsCrossing_14 : decode cX7_readsCrossing 14 = .ok (.if_icmp .eq 12, 3) := by decide +kernel
theorem dX7_readsCrossing_17 : decode cX7_readsCrossing 17 = .ok (.aload_n 0, 1) := by decide +kernel
theorem dX7_readsCrossing_18 : decode cX7_readsCrossing 18 = .ok (.bipush 44, 2) := by decide +kernel
theorem dX7_readsCrossing_20 : decode cX7_readsCrossing 20 = .ok (.invokevirtual 202, 3) := by decide +kernel
theorem dX7_readsCrossing_23 : decode cX7_readsCrossing 23 = .ok (.ifCond .ne 5, 3) := by decide +kernel
theorem dX7_readsCrossing_26 : decode cX7_readsCrossing 26 = .ok (.iconst 0, 1) := by decide +kernel
theorem dX7_readsCrossing_27 : decode cX7_readsCrossing 27 = .ok (.ireturn, 1) := by decide +kernel
theorem dX7_readsCrossing_28 : decode cX7_readsCrossing 28 = .ok (.aload_n 0, 1) := by decide +kernel
theorem dX7_readsCrossing_29 : decode cX7_readsCrossing 29 = .ok (.aload_n 0, 1) := by decide +kernel
theorem dX7_readsCrossing_30 : decode cX7_readsCrossing 30 = .ok (.invokevirtual 196, 3) := by decide +kernel
theorem dX7_readsCrossing_33 : decode cX7_readsCrossing 33 = .ok (.putfield 205, 3) := by decide +kernel
theorem dX7_readsCrossing_36 : decode cX7_readsCrossing 36 = .ok (.aload_n 0, 1) := by decide +kernel
theorem dX7_readsCrossing_37 : decode cX7_readsCrossing 37 = .ok (.getfield 205, 3) := by decide +kernel
theorem dX7_readsCrossing_40 : decode cX7_readsCrossing 40 = .ok (.bipush (-6), 2) := by decide +kernel
theorem dX7_readsCrossing_42 : decode cX7_readsCrossing 42 = .ok (.if_icmp .eq 12, 3) := by decide +kernel
theorem dX7_readsCrossing_45 : decode cX7_readsCrossing 45 = .ok (.aload_n 0, 1) := by decide +kernel
theorem dX7_readsCrossing_46 : decode cX7_readsCrossing 46 = .ok (.bipush 44, 2) := by decide +kernel
theorem dX7_readsCrossing_48 : decode cX7_readsCrossing 48 = .ok (.invokevirtual 202, 3) := by decide +kernel
theorem dX7_readsCrossing_51 : decode cX7_readsCrossing 51 = .ok (.ifCond .ne 5, 3) := by decide +kernel
theorem dX7_readsCrossing_54 : decode cX7_readsCrossing 54 = .ok (.iconst 0, 1) := by decide +kernel
theorem dX7_readsCrossing_55 : decode cX7_readsCrossing 55 = .ok (.ireturn, 1) := by decide +kernel
theorem dX7_readsCrossing_56 : decode cX7_readsCrossing 56 = .ok (.aload_n 0, 1) := by decide +kernel
theorem dX7_readsCrossing_57 : decode cX7_readsCrossing 57 = .ok (.aload_n 0, 1) := by decide +kernel
theorem dX7_readsCrossing_58 : decode cX7_readsCrossing 58 = .ok (.invokevirtual 196, 3) := by decide +kernel
theorem dX7_readsCrossing_61 : decode cX7_readsCrossing 61 = .ok (.putfield 208, 3) := by decide +kernel
theorem dX7_readsCrossing_64 : decode cX7_readsCrossing 64 = .ok (.aload_n 0, 1) := by decide +kernel
theorem dX7_readsCrossing_65 : decode cX7_readsCrossing 65 = .ok (.getfield 208, 3) := by decide +kernel
theorem dX7_readsCrossing_68 : decode cX7_readsCrossing 68 = .ok (.bipush (-6), 2) := by decide +kernel
theorem dX7_readsCrossing_70 : decode cX7_readsCrossing 70 = .ok (.if_icmp .ne 5, 3) := by decide +kernel
theorem dX7_readsCrossing_73 : decode cX7_readsCrossing 73 = .ok (.iconst 0, 1) := by decide +kernel
theorem dX7_readsCrossing_74 : decode cX7_readsCrossing 74 = .ok (.ireturn, 1) := by decide +kernel
theorem dX7_readsCrossing_75 : decode cX7_readsCrossing 75 = .ok (.aload_n 0, 1) := by decide +kernel
theorem dX7_readsCrossing_76 : decode cX7_readsCrossing 76 = .ok (.aload_n 0, 1) := by decide +kernel
theorem dX7_readsCrossing_77 : decode cX7_readsCrossing 77 = .ok (.bipush 43, 2) := by decide +kernel
theorem dX7_readsCrossing_79 : decode cX7_readsCrossing 79 = .ok (.invokevirtual 202, 3) := by decide +kernel
theorem dX7_readsCrossing_82 : decode cX7_readsCrossing 82 = .ok (.ifCond .eq 7, 3) := by decide +kernel
theorem dX7_readsCrossing_85 : decode cX7_readsCrossing 85 = .ok (.iconst 1, 1) := by decide +kernel
theorem dX7_readsCrossing_86 : decode cX7_readsCrossing 86 = .ok (.goto 17, 3) := by decide +kernel
theorem dX7_readsCrossing_89 : decode cX7_readsCrossing 89 = .ok (.aload_n 0, 1) := by decide +kernel
theorem dX7_readsCrossing_90 : decode cX7_readsCrossing 90 = .ok (.bipush 45, 2) := by decide +kernel
theorem dX7_readsCrossing_92 : decode cX7_readsCrossing 92 = .ok (.invokevirtual 202, 3) := by decide +kernel
theorem dX7_readsCrossing_95 : decode cX7_readsCrossing 95 = .ok (.ifCond .eq 7, 3) := by decide +kernel
theorem dX7_readsCrossing_98 : decode cX7_readsCrossing 98 = .ok (.iconst (-1), 1) := by decide +kernel
theorem dX7_readsCrossing_99 : decode cX7_readsCrossing 99 = .ok (.goto 4, 3) := by decide +kernel
theorem dX7_readsCrossing_102 : decode cX7_readsCrossing 102 = .ok (.iconst 0, 1) := by decide +kernel
theorem dX7_readsCrossing_103 : decode cX7_readsCrossing 103 = .ok (.putfield 211, 3) := by decide +kernel
theorem dX7_readsCrossing_106 : decode cX7_readsCrossing 106 = .ok (.aload_n 0, 1) := by decide +kernel
theorem dX7_readsCrossing_107 : decode cX7_readsCrossing 107 = .ok (.dup, 1) := by decide +kernel
theorem dX7_readsCrossing_108 : decode cX7_readsCrossing 108 = .ok (.getfield 214, 3) := by decide +kernel
theorem dX7_readsCrossing_111 : decode cX7_readsCrossing 111 = .ok (.iconst 1, 1) := by decide +kernel
theorem dX7_readsCrossing_112 : decode cX7_readsCrossing 112 = .ok (.iadd, 1) := by decide +kernel
theorem dX7_readsCrossing_113 : decode cX7_readsCrossing 113 = .ok (.putfield 214, 3) := by decide +kernel
theorem dX7_readsCrossing_116 : decode cX7_readsCrossing 116 = .ok (.aload_n 0, 1) := by decide +kernel
theorem dX7_readsCrossing_117 : decode cX7_readsCrossing 117 = .ok (.getfield 211, 3) := by decide +kernel
theorem dX7_readsCrossing_120 : decode cX7_readsCrossing 120 = .ok (.ifCond .eq 7, 3) := by decide +kernel
theorem dX7_readsCrossing_123 : decode cX7_readsCrossing 123 = .ok (.iconst 1, 1) := by decide +kernel
theorem dX7_readsCrossing_124 : decode cX7_readsCrossing 124 = .ok (.goto 4, 3) := by decide +kernel
theorem dX7_readsCrossing_127 : decode cX7_readsCrossing 127 = .ok (.iconst 0, 1) := by decide +kernel
theorem dX7_readsCrossing_128 : decode cX7_readsCrossing 128 = .ok (.ireturn, 1) := by decide +kernel
theorem dX7_findError_0 : decode cX7_findError 0 = .ok (.aload_n 0, 1) := by decide +kernel
theorem dX7_findError_1 : decode cX7_findError 1 = .ok (.iconst 0, 1) := by decide +kernel
theorem dX7_findError_2 : decode cX7_findError 2 = .ok (.putfield 190, 3) := by decide +kernel
theorem dX7_findError_5 : decode cX7_findError 5 = .ok (.aload_n 0, 1) := by decide +kernel
theorem dX7_findError_6 : decode cX7_findError 6 = .ok (.iconst 0, 1) := by decide +kernel
theorem dX7_findError_7 : decode cX7_findError 7 = .ok (.putfield 214, 3) := by decide +kernel
theorem dX7_findError_10 : decode cX7_findError 10 = .ok (.aload_n 0, 1) := by decide +kernel
theorem dX7_findError_11 : decode cX7_findError 11 = .ok (.invokevirtual 217, 3) := by decide +kernel
theorem dX7_findError_14 : decode cX7_findError 14 = .ok (.ifCond .ne 8, 3) := by decide +kernel
theorem dX7_findError_17 : decode cX7_findError 17 = .ok (.aload_n 0, 1) := by decide +kernel
theorem dX7_findError_18 : decode cX7_findError 18 = .ok (.getfield 190, 3) := by decide +kernel
theorem dX7_findError_21 : decode cX7_findError 21 = .ok (.ireturn, 1) := by decide +kernel
theorem dX7_findError_22 : decode cX7_findError 22 = .ok (.aload_n 0, 1) := by decide +kernel
theorem dX7_findError_23 : decode cX7_findError 23 = .ok (.getfield 190, 3) := by decide +kernel
theorem dX7_findError_26 : decode cX7_findError 26 = .ok (.aload_n 0, 1) := by decide +kernel
theorem dX7_findError_27 : decode cX7_findError 27 = .ok (.getfield 187, 3) := by decide +kernel
theorem dX7_findError_30 : decode cX7_findError 30 = .ok (.if_icmp .ne 6, 3) := by decide +kernel
theorem dX7_findError_33 : decode cX7_findError 33 = .ok (.bipush (-6), 2) := by decide +kernel
theorem dX7_findError_35 : decode cX7_findError 35 = .ok (.ireturn, 1) := by decide +kernel
theorem dX7_findError_36 : decode cX7_findError 36 = .ok (.aload_n 0, 1) := by decide +kernel
theorem dX7_findError_37 : decode cX7_findError 37 = .ok (.getfield 214, 3) := by decide +kernel
theorem dX7_findError_40 : decode cX7_findError 40 = .ok (.bipush 10, 2) := by decide +kernel
theorem dX7_findError_42 : decode cX7_findError 42 = .ok (.if_icmp .eq 12, 3) := by decide +kernel
theorem dX7_findError_45 : decode cX7_findError 45 = .ok (.aload_n 0, 1) := by decide +kernel
theorem dX7_findError_46 : decode cX7_findError 46 = .ok (.bipush 59, 2) := by decide +kernel
theorem dX7_findError_48 : decode cX7_findError 48 = .ok (.invokevirtual 202, 3) := by decide +kernel
theorem dX7_findError_51 : decode cX7_findError 51 = .ok (.ifCond .ne (-41), 3) := by decide +kernel
theorem dX7_findError_54 : decode cX7_findError 54 = .ok (.aload_n 0, 1) := by decide +kernel
theorem dX7_findError_55 : decode cX7_findError 55 = .ok (.getfield 190, 3) := by decide +kernel
theorem dX7_findError_58 : decode cX7_findError 58 = .ok (.ireturn, 1) := by decide +kernel
theorem dX7_syntaxError_0 : decode cX7_syntaxError 0 = .ok (.aload_n 0, 1) := by decide +kernel
theorem dX7_syntaxError_1 : decode cX7_syntaxError 1 = .ok (.invokevirtual 220, 3) := by decide +kernel
theorem dX7_syntaxError_4 : decode cX7_syntaxError 4 = .ok (.ireturn, 1) := by decide +kernel
theorem dX7_read_0 : decode cX7_read 0 = .ok (.aload_n 0, 1) := by decide +kernel
theorem dX7_read_1 : decode cX7_read 1 = .ok (.invokevirtual 220, 3) := by decide +kernel
theorem dX7_read_4 : decode cX7_read 4 = .ok (.bipush (-6), 2) := by decide +kernel
theorem dX7_read_6 : decode cX7_read 6 = .ok (.if_icmp .eq 6, 3) := by decide +kernel
theorem dX7_read_9 : decode cX7_read 9 = .ok (.bipush (-5), 2) := by decide +kernel
theorem dX7_read_11 : decode cX7_read 11 = .ok (.ireturn, 1) := by decide +kernel
theorem dX7_read_12 : decode cX7_read 12 = .ok (.aload_n 0, 1) := by decide +kernel
theorem dX7_read_13 : decode cX7_read 13 = .ok (.invokevirtual 39, 3) := by decide +kernel
theorem dX7_read_16 : decode cX7_read 16 = .ok (.iconst 0, 1) := by decide +kernel
theorem dX7_read_17 : decode cX7_read 17 = .ok (.istore_n 1, 1) := by decide +kernel
theorem dX7_read_18 : decode cX7_read 18 = .ok (.iconst 0, 1) := by decide +kernel
theorem dX7_read_19 : decode cX7_read 19 = .ok (.istore_n 2, 1) := by decide +kernel
theorem dX7_read_20 : decode cX7_read 20 = .ok (.iload_n 2, 1) := by decide +kernel
theorem dX7_read_21 : decode cX7_read 21 = .ok (.aload_n 0, 1) := by decide +kernel
theorem dX7_read_22 : decode cX7_read 22 = .ok (.getfield 187, 3) := by decide +kernel
theorem dX7_read_25 : decode cX7_read 25 = .ok (.if_icmp .ge 40, 3) := by decide +kernel
theorem dX7_read_28 : decode cX7_read 28 = .ok (.aload_n 0, 1) := by decide +kernel
theorem dX7_read_29 : decode cX7_read 29 = .ok (.getfield 16, 3) := by decide +kernel
theorem dX7_read_32 : decode cX7_read 32 = .ok (.iload_n 2, 1) := by decide +kernel
theorem dX7_read_33 : decode cX7_read 33 = .ok (.iaload, 1) := by decide +kernel
theorem dX7_read_34 : decode cX7_read 34 = .ok (.bipush 48, 2) := by decide +kernel
theorem dX7_read_36 : decode cX7_read 36 = .ok (.isub, 1) := by decide +kernel
theorem dX7_read_37 : decode cX7_read 37 = .ok (.istore_n 3, 1) := by decide +kernel
theorem dX7_read_38 : decode cX7_read 38 = .ok (.iload_n 3, 1) := by decide +kernel
theorem dX7_read_39 : decode cX7_read 39 = .ok (.iconst 0, 1) := by decide +kernel
theorem dX7_read_40 : decode cX7_read 40 = .ok (.bipush 6, 2) := by decide +kernel
theorem dX7_read_42 : decode cX7_read 42 = .ok (.invokestatic 35, 3) := by decide +kernel
theorem dX7_read_45 : decode cX7_read 45 = .ok (.ifCond .eq 12, 3) := by decide +kernel
theorem dX7_read_48 : decode cX7_read 48 = .ok (.iload_n 3, 1) := by decide +kernel
theorem dX7_read_49 : decode cX7_read 49 = .ok (.iload_n 1, 1) := by decide +kernel
theorem dX7_read_50 : decode cX7_read 50 = .ok (.if_icmp .le 7, 3) := by decide +kernel
theorem dX7_read_53 : decode cX7_read 53 = .ok (.iload_n 3, 1) := by decide +kernel
theorem dX7_read_54 : decode cX7_read 54 = .ok (.goto 4, 3) := by decide +kernel
theorem dX7_read_57 : decode cX7_read 57 = .ok (.iload_n 1, 1) := by decide +kernel
theorem dX7_read_58 : decode cX7_read 58 = .ok (.istore_n 1, 1) := by decide +kernel
theorem dX7_read_59 : decode cX7_read 59 = .ok (.iinc 2 1, 3) := by decide +kernel
theorem dX7_read_62 : decode cX7_read 62 = .ok (.goto (-42), 3) := by decide +kernel
theorem dX7_read_65 : decode cX7_read 65 = .ok (.aload_n 0, 1) := by decide +kernel
theorem dX7_read_66 : decode cX7_read 66 = .ok (.iload_n 1, 1) := by decide +kernel
theorem dX7_read_67 : decode cX7_read 67 = .ok (.iconst 1, 1) := by decide +kernel
theorem dX7_read_68 : decode cX7_read 68 = .ok (.iadd, 1) := by decide +kernel
theorem dX7_read_69 : decode cX7_read 69 = .ok (.invokevirtual 137, 3) := by decide +kernel
theorem dX7_read_72 : decode cX7_read 72 = .ok (.aload_n 0, 1) := by decide +kernel
theorem dX7_read_73 : decode cX7_read 73 = .ok (.iconst 0, 1) := by decide +kernel
theorem dX7_read_74 : decode cX7_read 74 = .ok (.putfield 190, 3) := by decide +kernel
theorem dX7_read_77 : decode cX7_read 77 = .ok (.aload_n 0, 1) := by decide +kernel
theorem dX7_read_78 : decode cX7_read 78 = .ok (.getfield 190, 3) := by decide +kernel
theorem dX7_read_81 : decode cX7_read 81 = .ok (.aload_n 0, 1) := by decide +kernel
theorem dX7_read_82 : decode cX7_read 82 = .ok (.getfield 187, 3) := by decide +kernel
theorem dX7_read_85 : decode cX7_read 85 = .ok (.if_icmp .ge 38, 3) := by decide +kernel
theorem dX7_read_88 : decode cX7_read 88 = .ok (.aload_n 0, 1) := by decide +kernel
theorem dX7_read_89 : decode cX7_read 89 = .ok (.invokevirtual 217, 3) := by decide +kernel
theorem dX7_read_92 : decode cX7_read 92 = .ok (.pop, 1) := by decide +kernel
theorem dX7_read_93 : decode cX7_read 93 = .ok (.aload_n 0, 1) := by decide +kernel
theorem dX7_read_94 : decode cX7_read 94 = .ok (.bipush 59, 2) := by decide +kernel
theorem dX7_read_96 : decode cX7_read 96 = .ok (.invokevirtual 202, 3) := by decide +kernel
theorem dX7_read_99 : decode cX7_read 99 = .ok (.pop, 1) := by decide +kernel
theorem dX7_read_100 : decode cX7_read 100 = .ok (.aload_n 0, 1) := by decide +kernel
theorem dX7_read_101 : decode cX7_read 101 = .ok (.aload_n 0, 1) := by decide +kernel
theorem dX7_read_102 : decode cX7_read 102 = .ok (.getfield 199, 3) := by decide +kernel
theorem dX7_read_105 : decode cX7_read 105 = .ok (.aload_n 0, 1) := by decide +kernel
theorem dX7_read_106 : decode cX7_read 106 = .ok (.getfield 205, 3) := by decide +kernel
theorem dX7_read_109 : decode cX7_read 109 = .ok (.aload_n 0, 1) := by decide +kernel
theorem dX7_read_110 : decode cX7_read 110 = .ok (.getfield 208, 3) := by decide +kernel
theorem dX7_read_113 : decode cX7_read 113 = .ok (.aload_n 0, 1) := by decide +kernel
theorem dX7_read_114 : decode cX7_read 114 = .ok (.getfield 211, 3) := by decide +kernel
theorem dX7_read_117 : decode cX7_read 117 = .ok (.invokevirtual 140, 3) := by decide +kernel
theorem dX7_read_120 : decode cX7_read 120 = .ok (.goto (-43), 3) := by decide +kernel
theorem dX7_read_123 : decode cX7_read 123 = .ok (.aload_n 0, 1) := by decide +kernel
theorem dX7_read_124 : decode cX7_read 124 = .ok (.iconst 0, 1) := by decide +kernel
theorem dX7_read_125 : decode cX7_read 125 = .ok (.putfield 187, 3) := by decide +kernel
theorem dX7_read_128 : decode cX7_read 128 = .ok (.aload_n 0, 1) := by decide +kernel
theorem dX7_read_129 : decode cX7_read 129 = .ok (.getfield 7, 3) := by decide +kernel
theorem dX7_read_132 : decode cX7_read 132 = .ok (.bipush 37, 2) := by decide +kernel
theorem dX7_read_134 : decode cX7_read 134 = .ok (.iaload, 1) := by decide +kernel
theorem dX7_read_135 : decode cX7_read 135 = .ok (.ireturn, 1) := by decide +kernel
theorem dX7_undo_0 : decode cX7_undo 0 = .ok (.aload_n 0, 1) := by decide +kernel
theorem dX7_undo_1 : decode cX7_undo 1 = .ok (.getfield 31, 3) := by decide +kernel
theorem dX7_undo_4 : decode cX7_undo 4 = .ok (.ifCond .ne 6, 3) := by decide +kernel
theorem dX7_undo_7 : decode cX7_undo 7 = .ok (.bipush (-3), 2) := by decide +kernel
theorem dX7_undo_9 : decode cX7_undo 9 = .ok (.ireturn, 1) := by decide +kernel
theorem dX7_undo_10 : decode cX7_undo 10 = .ok (.aload_n 0, 1) := by decide +kernel
theorem dX7_undo_11 : decode cX7_undo 11 = .ok (.dup, 1) := by decide +kernel
theorem dX7_undo_12 : decode cX7_undo 12 = .ok (.getfield 31, 3) := by decide +kernel
theorem dX7_undo_15 : decode cX7_undo 15 = .ok (.iconst 1, 1) := by decide +kernel
theorem dX7_undo_16 : decode cX7_undo 16 = .ok (.isub, 1) := by decide +kernel
theorem dX7_undo_17 : decode cX7_undo 17 = .ok (.putfield 31, 3) := by decide +kernel
theorem dX7_undo_20 : decode cX7_undo 20 = .ok (.iconst 0, 1) := by decide +kernel
theorem dX7_undo_21 : decode cX7_undo 21 = .ok (.istore_n 1, 1) := by decide +kernel
theorem dX7_undo_22 : decode cX7_undo 22 = .ok (.iload_n 1, 1) := by decide +kernel
theorem dX7_undo_23 : decode cX7_undo 23 = .ok (.bipush 79, 2) := by decide +kernel
theorem dX7_undo_25 : decode cX7_undo 25 = .ok (.if_icmp .ge 29, 3) := by decide +kernel
theorem dX7_undo_28 : decode cX7_undo 28 = .ok (.aload_n 0, 1) := by decide +kernel
theorem dX7_undo_29 : decode cX7_undo 29 = .ok (.getfield 7, 3) := by decide +kernel
theorem dX7_undo_32 : decode cX7_undo 32 = .ok (.iload_n 1, 1) := by decide +kernel
theorem dX7_undo_33 : decode cX7_undo 33 = .ok (.aload_n 0, 1) := by decide +kernel
theorem dX7_undo_34 : decode cX7_undo 34 = .ok (.getfield 13, 3) := by decide +kernel
theorem dX7_undo_37 : decode cX7_undo 37 = .ok (.aload_n 0, 1) := by decide +kernel
theorem dX7_undo_38 : decode cX7_undo 38 = .ok (.getfield 31, 3) := by decide +kernel
theorem dX7_undo_41 : decode cX7_undo 41 = .ok (.bipush 79, 2) := by decide +kernel
theorem dX7_undo_43 : decode cX7_undo 43 = .ok (.imul, 1) := by decide +kernel
theorem dX7_undo_44 : decode cX7_undo 44 = .ok (.iload_n 1, 1) := by decide +kernel
theorem dX7_undo_45 : decode cX7_undo 45 = .ok (.iadd, 1) := by decide +kernel
theorem dX7_undo_46 : decode cX7_undo 46 = .ok (.iaload, 1) := by decide +kernel
theorem dX7_undo_47 : decode cX7_undo 47 = .ok (.iastore, 1) := by decide +kernel
theorem dX7_undo_48 : decode cX7_undo 48 = .ok (.iinc 1 1, 3) := by decide +kernel
theorem dX7_undo_51 : decode cX7_undo 51 = .ok (.goto (-29), 3) := by decide +kernel
theorem dX7_undo_54 : decode cX7_undo 54 = .ok (.aload_n 0, 1) := by decide +kernel
theorem dX7_undo_55 : decode cX7_undo 55 = .ok (.getfield 31, 3) := by decide +kernel
theorem dX7_undo_58 : decode cX7_undo 58 = .ok (.ireturn, 1) := by decide +kernel
theorem dX7_digest_0 : decode cX7_digest 0 = .ok (.ldc2_w 223, 3) := by decide +kernel
theorem dX7_digest_3 : decode cX7_digest 3 = .ok (.lstore_n 1, 1) := by decide +kernel
theorem dX7_digest_4 : decode cX7_digest 4 = .ok (.ldc2_w 225, 3) := by decide +kernel
theorem dX7_digest_7 : decode cX7_digest 7 = .ok (.lload_n 1, 1) := by decide +kernel
theorem dX7_digest_8 : decode cX7_digest 8 = .ok (.lmul, 1) := by decide +kernel
theorem dX7_digest_9 : decode cX7_digest 9 = .ok (.aload_n 0, 1) := by decide +kernel
theorem dX7_digest_10 : decode cX7_digest 10 = .ok (.getfield 7, 3) := by decide +kernel
theorem dX7_digest_13 : decode cX7_digest 13 = .ok (.iconst 0, 1) := by decide +kernel
theorem dX7_digest_14 : decode cX7_digest 14 = .ok (.iaload, 1) := by decide +kernel
theorem dX7_digest_15 : decode cX7_digest 15 = .ok (.i2l, 1) := by decide +kernel
theorem dX7_digest_16 : decode cX7_digest 16 = .ok (.ladd, 1) := by decide +kernel
theorem dX7_digest_17 : decode cX7_digest 17 = .ok (.lstore_n 1, 1) := by decide +kernel
theorem dX7_digest_18 : decode cX7_digest 18 = .ok (.iconst 0, 1) := by decide +kernel
theorem dX7_digest_19 : decode cX7_digest 19 = .ok (.istore_n 3, 1) := by decide +kernel
theorem dX7_digest_20 : decode cX7_digest 20 = .ok (.iload_n 3, 1) := by decide +kernel
theorem dX7_digest_21 : decode cX7_digest 21 = .ok (.aload_n 0, 1) := by decide +kernel
theorem dX7_digest_22 : decode cX7_digest 22 = .ok (.getfield 7, 3) := by decide +kernel
theorem dX7_digest_25 : decode cX7_digest 25 = .ok (.iconst 0, 1) := by decide +kernel
theorem dX7_digest_26 : decode cX7_digest 26 = .ok (.iaload, 1) := by decide +kernel
theorem dX7_digest_27 : decode cX7_digest 27 = .ok (.if_icmp .ge 44, 3) := by decide +kernel
theorem dX7_digest_30 : decode cX7_digest 30 = .ok (.iconst 0, 1) := by decide +kernel
theorem dX7_digest_31 : decode cX7_digest 31 = .ok (.istore 4, 2) := by decide +kernel
theorem dX7_digest_33 : decode cX7_digest 33 = .ok (.iload 4, 2) := by decide +kernel
theorem dX7_digest_35 : decode cX7_digest 35 = .ok (.aload_n 0, 1) := by decide +kernel
theorem dX7_digest_36 : decode cX7_digest 36 = .ok (.getfield 7, 3) := by decide +kernel
theorem dX7_digest_39 : decode cX7_digest 39 = .ok (.iconst 0, 1) := by decide +kernel
theorem dX7_digest_40 : decode cX7_digest 40 = .ok (.iaload, 1) := by decide +kernel
theorem dX7_digest_41 : decode cX7_digest 41 = .ok (.if_icmp .ge 24, 3) := by decide +kernel
theorem dX7_digest_44 : decode cX7_digest 44 = .ok (.ldc2_w 225, 3) := by decide +kernel
theorem dX7_digest_47 : decode cX7_digest 47 = .ok (.lload_n 1, 1) := by decide +kernel
theorem dX7_digest_48 : decode cX7_digest 48 = .ok (.lmul, 1) := by decide +kernel
theorem dX7_digest_49 : decode cX7_digest 49 = .ok (.aload_n 0, 1) := by decide +kernel
theorem dX7_digest_50 : decode cX7_digest 50 = .ok (.iload_n 3, 1) := by decide +kernel
theorem dX7_digest_51 : decode cX7_digest 51 = .ok (.iload 4, 2) := by decide +kernel
theorem dX7_digest_53 : decode cX7_digest 53 = .ok (.invokevirtual 67, 3) := by decide +kernel
theorem dX7_digest_56 : decode cX7_digest 56 = .ok (.i2l, 1) := by decide +kernel
theorem dX7_digest_57 : decode cX7_digest 57 = .ok (.ladd, 1) := by decide +kernel
theorem dX7_digest_58 : decode cX7_digest 58 = .ok (.lstore_n 1, 1) := by decide +kernel
theorem dX7_digest_59 : decode cX7_digest 59 = .ok (.iinc 4 1, 3) := by decide +kernel
theorem dX7_digest_62 : decode cX7_digest 62 = .ok (.goto (-29), 3) := by decide +kernel
theorem dX7_digest_65 : decode cX7_digest 65 = .ok (.iinc 3 1, 3) := by decide +kernel
theorem dX7_digest_68 : decode cX7_digest 68 = .ok (.goto (-48), 3) := by decide +kernel
theorem dX7_digest_71 : decode cX7_digest 71 = .ok (.iconst 1, 1) := by decide +kernel
theorem dX7_digest_72 : decode cX7_digest 72 = .ok (.istore_n 3, 1) := by decide +kernel
theorem dX7_digest_73 : decode cX7_digest 73 = .ok (.iload_n 3, 1) := by decide +kernel
theorem dX7_digest_74 : decode cX7_digest 74 = .ok (.iconst 3, 1) := by decide +kernel
theorem dX7_digest_75 : decode cX7_digest 75 = .ok (.if_icmp .gt 22, 3) := by decide +kernel
theorem dX7_digest_78 : decode cX7_digest 78 = .ok (.ldc2_w 225, 3) := by decide +kernel
theorem dX7_digest_81 : decode cX7_digest 81 = .ok (.lload_n 1, 1) := by decide +kernel
theorem dX7_digest_82 : decode cX7_digest 82 = .ok (.lmul, 1) := by decide +kernel
theorem dX7_digest_83 : decode cX7_digest 83 = .ok (.aload_n 0, 1) := by decide +kernel
theorem dX7_digest_84 : decode cX7_digest 84 = .ok (.iload_n 3, 1) := by decide +kernel
theorem dX7_digest_85 : decode cX7_digest 85 = .ok (.invokevirtual 90, 3) := by decide +kernel
theorem dX7_digest_88 : decode cX7_digest 88 = .ok (.i2l, 1) := by decide +kernel
theorem dX7_digest_89 : decode cX7_digest 89 = .ok (.ladd, 1) := by decide +kernel
theorem dX7_digest_90 : decode cX7_digest 90 = .ok (.lstore_n 1, 1) := by decide +kernel
theorem dX7_digest_91 : decode cX7_digest 91 = .ok (.iinc 3 1, 3) := by decide +kernel
theorem dX7_digest_94 : decode cX7_digest 94 = .ok (.goto (-21), 3) := by decide +kernel
theorem dX7_digest_97 : decode cX7_digest 97 = .ok (.ldc2_w 225, 3) := by decide +kernel
theorem dX7_digest_100 : decode cX7_digest 100 = .ok (.lload_n 1, 1) := by decide +kernel
theorem dX7_digest_101 : decode cX7_digest 101 = .ok (.lmul, 1) := by decide +kernel
theorem dX7_digest_102 : decode cX7_digest 102 = .ok (.aload_n 0, 1) := by decide +kernel
theorem dX7_digest_103 : decode cX7_digest 103 = .ok (.invokevirtual 103, 3) := by decide +kernel
theorem dX7_digest_106 : decode cX7_digest 106 = .ok (.i2l, 1) := by decide +kernel
theorem dX7_digest_107 : decode cX7_digest 107 = .ok (.ladd, 1) := by decide +kernel
theorem dX7_digest_108 : decode cX7_digest 108 = .ok (.lstore_n 1, 1) := by decide +kernel
theorem dX7_digest_109 : decode cX7_digest 109 = .ok (.ldc2_w 225, 3) := by decide +kernel
theorem dX7_digest_112 : decode cX7_digest 112 = .ok (.lload_n 1, 1) := by decide +kernel
theorem dX7_digest_113 : decode cX7_digest 113 = .ok (.lmul, 1) := by decide +kernel
theorem dX7_digest_114 : decode cX7_digest 114 = .ok (.aload_n 0, 1) := by decide +kernel
theorem dX7_digest_115 : decode cX7_digest 115 = .ok (.invokevirtual 109, 3) := by decide +kernel
theorem dX7_digest_118 : decode cX7_digest 118 = .ok (.i2l, 1) := by decide +kernel
theorem dX7_digest_119 : decode cX7_digest 119 = .ok (.ladd, 1) := by decide +kernel
theorem dX7_digest_120 : decode cX7_digest 120 = .ok (.lstore_n 1, 1) := by decide +kernel
theorem dX7_digest_121 : decode cX7_digest 121 = .ok (.ldc2_w 225, 3) := by decide +kernel
theorem dX7_digest_124 : decode cX7_digest 124 = .ok (.lload_n 1, 1) := by decide +kernel
theorem dX7_digest_125 : decode cX7_digest 125 = .ok (.lmul, 1) := by decide +kernel
theorem dX7_digest_126 : decode cX7_digest 126 = .ok (.aload_n 0, 1) := by decide +kernel
theorem dX7_digest_127 : decode cX7_digest 127 = .ok (.invokevirtual 112, 3) := by decide +kernel
theorem dX7_digest_130 : decode cX7_digest 130 = .ok (.i2l, 1) := by decide +kernel
theorem dX7_digest_131 : decode cX7_digest 131 = .ok (.ladd, 1) := by decide +kernel
theorem dX7_digest_132 : decode cX7_digest 132 = .ok (.lstore_n 1, 1) := by decide +kernel
theorem dX7_digest_133 : decode cX7_digest 133 = .ok (.ldc2_w 225, 3) := by decide +kernel
theorem dX7_digest_136 : decode cX7_digest 136 = .ok (.lload_n 1, 1) := by decide +kernel
theorem dX7_digest_137 : decode cX7_digest 137 = .ok (.lmul, 1) := by decide +kernel
theorem dX7_digest_138 : decode cX7_digest 138 = .ok (.aload_n 0, 1) := by decide +kernel
theorem dX7_digest_139 : decode cX7_digest 139 = .ok (.invokevirtual 127, 3) := by decide +kernel
theorem dX7_digest_142 : decode cX7_digest 142 = .ok (.i2l, 1) := by decide +kernel
theorem dX7_digest_143 : decode cX7_digest 143 = .ok (.ladd, 1) := by decide +kernel
theorem dX7_digest_144 : decode cX7_digest 144 = .ok (.lstore_n 1, 1) := by decide +kernel
theorem dX7_digest_145 : decode cX7_digest 145 = .ok (.ldc2_w 225, 3) := by decide +kernel
theorem dX7_digest_148 : decode cX7_digest 148 = .ok (.lload_n 1, 1) := by decide +kernel
theorem dX7_digest_149 : decode cX7_digest 149 = .ok (.lmul, 1) := by decide +kernel
theorem dX7_digest_150 : decode cX7_digest 150 = .ok (.aload_n 0, 1) := by decide +kernel
theorem dX7_digest_151 : decode cX7_digest 151 = .ok (.invokevirtual 134, 3) := by decide +kernel
theorem dX7_digest_154 : decode cX7_digest 154 = .ok (.i2l, 1) := by decide +kernel
theorem dX7_digest_155 : decode cX7_digest 155 = .ok (.ladd, 1) := by decide +kernel
theorem dX7_digest_156 : decode cX7_digest 156 = .ok (.lstore_n 1, 1) := by decide +kernel
theorem dX7_digest_157 : decode cX7_digest 157 = .ok (.ldc2_w 225, 3) := by decide +kernel
theorem dX7_digest_160 : decode cX7_digest 160 = .ok (.lload_n 1, 1) := by decide +kernel
theorem dX7_digest_161 : decode cX7_digest 161 = .ok (.lmul, 1) := by decide +kernel
theorem dX7_digest_162 : decode cX7_digest 162 = .ok (.aload_n 0, 1) := by decide +kernel
theorem dX7_digest_163 : decode cX7_digest 163 = .ok (.getfield 7, 3) := by decide +kernel
theorem dX7_digest_166 : decode cX7_digest 166 = .ok (.bipush 37, 2) := by decide +kernel
theorem dX7_digest_168 : decode cX7_digest 168 = .ok (.iaload, 1) := by decide +kernel
theorem dX7_digest_169 : decode cX7_digest 169 = .ok (.i2l, 1) := by decide +kernel
theorem dX7_digest_170 : decode cX7_digest 170 = .ok (.ladd, 1) := by decide +kernel
theorem dX7_digest_171 : decode cX7_digest 171 = .ok (.lstore_n 1, 1) := by decide +kernel
theorem dX7_digest_172 : decode cX7_digest 172 = .ok (.ldc2_w 225, 3) := by decide +kernel
theorem dX7_digest_175 : decode cX7_digest 175 = .ok (.lload_n 1, 1) := by decide +kernel
theorem dX7_digest_176 : decode cX7_digest 176 = .ok (.lmul, 1) := by decide +kernel
theorem dX7_digest_177 : decode cX7_digest 177 = .ok (.aload_n 0, 1) := by decide +kernel
theorem dX7_digest_178 : decode cX7_digest 178 = .ok (.getfield 7, 3) := by decide +kernel
theorem dX7_digest_181 : decode cX7_digest 181 = .ok (.bipush 38, 2) := by decide +kernel
theorem dX7_digest_183 : decode cX7_digest 183 = .ok (.iaload, 1) := by decide +kernel
theorem dX7_digest_184 : decode cX7_digest 184 = .ok (.i2l, 1) := by decide +kernel
theorem dX7_digest_185 : decode cX7_digest 185 = .ok (.ladd, 1) := by decide +kernel
theorem dX7_digest_186 : decode cX7_digest 186 = .ok (.lstore_n 1, 1) := by decide +kernel
theorem dX7_digest_187 : decode cX7_digest 187 = .ok (.iconst 0, 1) := by decide +kernel
theorem dX7_digest_188 : decode cX7_digest 188 = .ok (.istore_n 3, 1) := by decide +kernel
theorem dX7_digest_189 : decode cX7_digest 189 = .ok (.iload_n 3, 1) := by decide +kernel
theorem dX7_digest_190 : decode cX7_digest 190 = .ok (.aload_n 0, 1) := by decide +kernel
theorem dX7_digest_191 : decode cX7_digest 191 = .ok (.getfield 7, 3) := by decide +kernel
theorem dX7_digest_194 : decode cX7_digest 194 = .ok (.bipush 38, 2) := by decide +kernel
theorem dX7_digest_196 : decode cX7_digest 196 = .ok (.iaload, 1) := by decide +kernel
theorem dX7_digest_197 : decode cX7_digest 197 = .ok (.if_icmp .ge 39, 3) := by decide +kernel
theorem dX7_digest_200 : decode cX7_digest 200 = .ok (.iconst 0, 1) := by decide +kernel
theorem dX7_digest_201 : decode cX7_digest 201 = .ok (.istore 4, 2) := by decide +kernel
theorem dX7_digest_203 : decode cX7_digest 203 = .ok (.iload 4, 2) := by decide +kernel
theorem dX7_digest_205 : decode cX7_digest 205 = .ok (.iconst 4, 1) := by decide +kernel
theorem dX7_digest_206 : decode cX7_digest 206 = .ok (.if_icmp .ge 24, 3) := by decide +kernel
theorem dX7_digest_209 : decode cX7_digest 209 = .ok (.ldc2_w 225, 3) := by decide +kernel
theorem dX7_digest_212 : decode cX7_digest 212 = .ok (.lload_n 1, 1) := by decide +kernel
theorem dX7_digest_213 : decode cX7_digest 213 = .ok (.lmul, 1) := by decide +kernel
theorem dX7_digest_214 : decode cX7_digest 214 = .ok (.aload_n 0, 1) := by decide +kernel
theorem dX7_digest_215 : decode cX7_digest 215 = .ok (.iload_n 3, 1) := by decide +kernel
theorem dX7_digest_216 : decode cX7_digest 216 = .ok (.iload 4, 2) := by decide +kernel
theorem dX7_digest_218 : decode cX7_digest 218 = .ok (.invokevirtual 153, 3) := by decide +kernel
theorem dX7_digest_221 : decode cX7_digest 221 = .ok (.i2l, 1) := by decide +kernel
theorem dX7_digest_222 : decode cX7_digest 222 = .ok (.ladd, 1) := by decide +kernel
theorem dX7_digest_223 : decode cX7_digest 223 = .ok (.lstore_n 1, 1) := by decide +kernel
theorem dX7_digest_224 : decode cX7_digest 224 = .ok (.iinc 4 1, 3) := by decide +kernel
theorem dX7_digest_227 : decode cX7_digest 227 = .ok (.goto (-24), 3) := by decide +kernel
theorem dX7_digest_230 : decode cX7_digest 230 = .ok (.iinc 3 1, 3) := by decide +kernel
theorem dX7_digest_233 : decode cX7_digest 233 = .ok (.goto (-44), 3) := by decide +kernel
theorem dX7_digest_236 : decode cX7_digest 236 = .ok (.ldc2_w 225, 3) := by decide +kernel
theorem dX7_digest_239 : decode cX7_digest 239 = .ok (.lload_n 1, 1) := by decide +kernel
theorem dX7_digest_240 : decode cX7_digest 240 = .ok (.lmul, 1) := by decide +kernel
theorem dX7_digest_241 : decode cX7_digest 241 = .ok (.aload_n 0, 1) := by decide +kernel
theorem dX7_digest_242 : decode cX7_digest 242 = .ok (.invokevirtual 166, 3) := by decide +kernel
theorem dX7_digest_245 : decode cX7_digest 245 = .ok (.i2l, 1) := by decide +kernel
theorem dX7_digest_246 : decode cX7_digest 246 = .ok (.ladd, 1) := by decide +kernel
theorem dX7_digest_247 : decode cX7_digest 247 = .ok (.lstore_n 1, 1) := by decide +kernel
theorem dX7_digest_248 : decode cX7_digest 248 = .ok (.ldc2_w 225, 3) := by decide +kernel
theorem dX7_digest_251 : decode cX7_digest 251 = .ok (.lload_n 1, 1) := by decide +kernel
theorem dX7_digest_252 : decode cX7_digest 252 = .ok (.lmul, 1) := by decide +kernel
theorem dX7_digest_253 : decode cX7_digest 253 = .ok (.aload_n 0, 1) := by decide +kernel
theorem dX7_digest_254 : decode cX7_digest 254 = .ok (.invokevirtual 169, 3) := by decide +kernel
theorem dX7_digest_257 : decode cX7_digest 257 = .ok (.i2l, 1) := by decide +kernel
theorem dX7_digest_258 : decode cX7_digest 258 = .ok (.ladd, 1) := by decide +kernel
theorem dX7_digest_259 : decode cX7_digest 259 = .ok (.lstore_n 1, 1) := by decide +kernel
theorem dX7_digest_260 : decode cX7_digest 260 = .ok (.ldc2_w 225, 3) := by decide +kernel
theorem dX7_digest_263 : decode cX7_digest 263 = .ok (.lload_n 1, 1) := by decide +kernel
theorem dX7_digest_264 : decode cX7_digest 264 = .ok (.lmul, 1) := by decide +kernel
theorem dX7_digest_265 : decode cX7_digest 265 = .ok (.aload_n 0, 1) := by decide +kernel
theorem dX7_digest_266 : decode cX7_digest 266 = .ok (.iconst 0, 1) := by decide +kernel
theorem dX7_digest_267 : decode cX7_digest 267 = .ok (.iconst 0, 1) := by decide +kernel
theorem dX7_digest_268 : decode cX7_digest 268 = .ok (.iconst 0, 1) := by decide +kernel
theorem dX7_digest_269 : decode cX7_digest 269 = .ok (.invokevirtual 184, 3) := by decide +kernel
theorem dX7_digest_272 : decode cX7_digest 272 = .ok (.i2l, 1) := by decide +kernel
theorem dX7_digest_273 : decode cX7_digest 273 = .ok (.ladd, 1) := by decide +kernel
theorem dX7_digest_274 : decode cX7_digest 274 = .ok (.lstore_n 1, 1) := by decide +kernel
theorem dX7_digest_275 : decode cX7_digest 275 = .ok (.iconst 1, 1) := by decide +kernel
theorem dX7_digest_276 : decode cX7_digest 276 = .ok (.istore_n 3, 1) := by decide +kernel
theorem dX7_digest_277 : decode cX7_digest 277 = .ok (.iload_n 3, 1) := by decide +kernel
theorem dX7_digest_278 : decode cX7_digest 278 = .ok (.bipush 6, 2) := by decide +kernel
theorem dX7_digest_280 : decode cX7_digest 280 = .ok (.if_icmp .gt 24, 3) := by decide +kernel
theorem dX7_digest_283 : decode cX7_digest 283 = .ok (.ldc2_w 225, 3) := by decide +kernel
theorem dX7_digest_286 : decode cX7_digest 286 = .ok (.lload_n 1, 1) := by decide +kernel
theorem dX7_digest_287 : decode cX7_digest 287 = .ok (.lmul, 1) := by decide +kernel
theorem dX7_digest_288 : decode cX7_digest 288 = .ok (.aload_n 0, 1) := by decide +kernel
theorem dX7_digest_289 : decode cX7_digest 289 = .ok (.iconst 3, 1) := by decide +kernel
theorem dX7_digest_290 : decode cX7_digest 290 = .ok (.iload_n 3, 1) := by decide +kernel
theorem dX7_digest_291 : decode cX7_digest 291 = .ok (.iconst 0, 1) := by decide +kernel
theorem dX7_digest_292 : decode cX7_digest 292 = .ok (.invokevirtual 184, 3) := by decide +kernel
theorem dX7_digest_295 : decode cX7_digest 295 = .ok (.i2l, 1) := by decide +kernel
theorem dX7_digest_296 : decode cX7_digest 296 = .ok (.ladd, 1) := by decide +kernel
theorem dX7_digest_297 : decode cX7_digest 297 = .ok (.lstore_n 1, 1) := by decide +kernel
theorem dX7_digest_298 : decode cX7_digest 298 = .ok (.iinc 3 1, 3) := by decide +kernel
theorem dX7_digest_301 : decode cX7_digest 301 = .ok (.goto (-24), 3) := by decide +kernel
theorem dX7_digest_304 : decode cX7_digest 304 = .ok (.lload_n 1, 1) := by decide +kernel
theorem dX7_digest_305 : decode cX7_digest 305 = .ok (.lreturn, 1) := by decide +kernel
