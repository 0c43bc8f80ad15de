theorem dX0_init_0 : decode cX0_init 0 = .ok (.aload_n 0, 1) := by decide +kernel
theorem dX0_init_1 : decode cX0_init 1 = .ok (.invokespecial 3, 3) := by decide +kernel
theorem dX0_init_4 : decode cX0_init 4 = .ok (.aload_n 0, 1) := by decide +kernel
theorem dX0_init_5 : decode cX0_init 5 = .ok (.bipush 7, 2) := by decide +kernel
theorem dX0_init_7 : decode cX0_init 7 = .ok (.newarray .int, 2) := by decide +kernel
theorem dX0_init_9 : decode cX0_init 9 = .ok (.putfield 9, 3) := by decide +kernel
theorem dX0_init_12 : decode cX0_init 12 = .ok (.aload_n 0, 1) := by decide +kernel
theorem dX0_init_13 : decode cX0_init 13 = .ok (.bipush 10, 2) := by decide +kernel
theorem dX0_init_15 : decode cX0_init 15 = .ok (.newarray .int, 2) := by decide +kernel
theorem dX0_init_17 : decode cX0_init 17 = .ok (.putfield 15, 3) := by decide +kernel
theorem dX0_init_20 : decode cX0_init 20 = .ok (.aload_n 0, 1) := by decide +kernel
theorem dX0_init_21 : decode cX0_init 21 = .ok (.bipush 7, 2) := by decide +kernel
theorem dX0_init_23 : decode cX0_init 23 = .ok (.newarray .int, 2) := by decide +kernel
theorem dX0_init_25 : decode cX0_init 25 = .ok (.putfield 18, 3) := by decide +kernel
theorem dX0_init_28 : decode cX0_init 28 = .ok (.aload_n 0, 1) := by decide +kernel
theorem dX0_init_29 : decode cX0_init 29 = .ok (.aload_n 1, 1) := by decide +kernel
theorem dX0_init_30 : decode cX0_init 30 = .ok (.putfield 21, 3) := by decide +kernel
theorem dX0_init_33 : decode cX0_init 33 = .ok (.aload_n 0, 1) := by decide +kernel
theorem dX0_init_34 : decode cX0_init 34 = .ok (.aload_n 2, 1) := by decide +kernel
theorem dX0_init_35 : decode cX0_init 35 = .ok (.putfield 25, 3) := by decide +kernel
theorem dX0_init_38 : decode cX0_init 38 = .ok (.return_, 1) := by decide +kernel
theorem dX0_tally_0 : decode cX0_tally 0 = .ok (.iconst 0, 1) := by decide +kernel
theorem dX0_tally_1 : decode cX0_tally 1 = .ok (.istore_n 1, 1) := by decide +kernel
theorem dX0_tally_2 : decode cX0_tally 2 = .ok (.iload_n 1, 1) := by decide +kernel
theorem dX0_tally_3 : decode cX0_tally 3 = .ok (.bipush 6, 2) := by decide +kernel
theorem dX0_tally_5 : decode cX0_tally 5 = .ok (.if_icmp .gt 16, 3) := by decide +kernel
theorem dX0_tally_8 : decode cX0_tally 8 = .ok (.aload_n 0, 1) := by decide +kernel
theorem dX0_tally_9 : decode cX0_tally 9 = .ok (.getfield 18, 3) := by decide +kernel
theorem dX0_tally_12 : decode cX0_tally 12 = .ok (.iload_n 1, 1) := by decide +kernel
theorem dX0_tally_13 : decode cX0_tally 13 = .ok (.iconst 0, 1) := by decide +kernel
theorem dX0_tally_14 : decode cX0_tally 14 = .ok (.iastore, 1) := by decide +kernel
theorem dX0_tally_15 : decode cX0_tally 15 = .ok (.iinc 1 1, 3) := by decide +kernel
theorem dX0_tally_18 : decode cX0_tally 18 = .ok (.goto (-16), 3) := by decide +kernel
theorem dX0_tally_21 : decode cX0_tally 21 = .ok (.aload_n 0, 1) := by decide +kernel
theorem dX0_tally_22 : decode cX0_tally 22 = .ok (.invokevirtual 29, 3) := by decide +kernel
theorem dX0_tally_25 : decode cX0_tally 25 = .ok (.iconst 0, 1) := by decide +kernel
theorem dX0_tally_26 : decode cX0_tally 26 = .ok (.istore_n 1, 1) := by decide +kernel
theorem dX0_tally_27 : decode cX0_tally 27 = .ok (.iload_n 1, 1) := by decide +kernel
theorem dX0_tally_28 : decode cX0_tally 28 = .ok (.ldc 32, 2) := by decide +kernel
theorem dX0_tally_30 : decode cX0_tally 30 = .ok (.if_icmp .ge 29, 3) := by decide +kernel
theorem dX0_tally_33 : decode cX0_tally 33 = .ok (.aload_n 0, 1) := by decide +kernel
theorem dX0_tally_34 : decode cX0_tally 34 = .ok (.invokevirtual 33, 3) := by decide +kernel
theorem dX0_tally_37 : decode cX0_tally 37 = .ok (.ifCond .eq 22, 3) := by decide +kernel
theorem dX0_tally_40 : decode cX0_tally 40 = .ok (.iinc 1 1, 3) := by decide +kernel
theorem dX0_tally_43 : decode cX0_tally 43 = .ok (.aload_n 0, 1) := by decide +kernel
theorem dX0_tally_44 : decode cX0_tally 44 = .ok (.getfield 18, 3) := by decide +kernel
theorem dX0_tally_47 : decode cX0_tally 47 = .ok (.aload_n 0, 1) := by decide +kernel
theorem dX0_tally_48 : decode cX0_tally 48 = .ok (.invokevirtual 37, 3) := by decide +kernel
theorem dX0_tally_51 : decode cX0_tally 51 = .ok (.dup2, 1) := by decide +kernel
theorem dX0_tally_52 : decode cX0_tally 52 = .ok (.iaload, 1) := by decide +kernel
theorem dX0_tally_53 : decode cX0_tally 53 = .ok (.iconst 1, 1) := by decide +kernel
theorem dX0_tally_54 : decode cX0_tally 54 = .ok (.iadd, 1) := by decide +kernel
theorem dX0_tally_55 : decode cX0_tally 55 = .ok (.iastore, 1) := by decide +kernel
theorem dX0_tally_56 : decode cX0_tally 56 = .ok (.goto (-29), 3) := by decide +kernel
theorem dX0_tally_59 : decode cX0_tally 59 = .ok (.iload_n 1, 1) := by decide +kernel
theorem dX0_tally_60 : decode cX0_tally 60 = .ok (.ireturn, 1) := by decide +kernel
theorem dX0_talliedUsing_0 : decode cX0_talliedUsing 0 = .ok (.aload_n 0, 1) := by decide +kernel
theorem dX0_talliedUsing_1 : decode cX0_talliedUsing 1 = .ok (.getfield 18, 3) := by decide +kernel
theorem dX0_talliedUsing_4 : decode cX0_talliedUsing 4 = .ok (.iload_n 1, 1) := by decide +kernel
theorem dX0_talliedUsing_5 : decode cX0_talliedUsing 5 = .ok (.iaload, 1) := by decide +kernel
theorem dX0_talliedUsing_6 : decode cX0_talliedUsing 6 = .ok (.ireturn, 1) := by decide +kernel
theorem dX0_coloursUsed_0 : decode cX0_coloursUsed 0 = .ok (.iconst 0, 1) := by decide +kernel
theorem dX0_coloursUsed_1 : decode cX0_coloursUsed 1 = .ok (.istore_n 1, 1) := by decide +kernel
theorem dX0_coloursUsed_2 : decode cX0_coloursUsed 2 = .ok (.iconst 0, 1) := by decide +kernel
theorem dX0_coloursUsed_3 : decode cX0_coloursUsed 3 = .ok (.istore_n 2, 1) := by decide +kernel
theorem dX0_coloursUsed_4 : decode cX0_coloursUsed 4 = .ok (.iload_n 2, 1) := by decide +kernel
theorem dX0_coloursUsed_5 : decode cX0_coloursUsed 5 = .ok (.aload_n 0, 1) := by decide +kernel
theorem dX0_coloursUsed_6 : decode cX0_coloursUsed 6 = .ok (.getfield 25, 3) := by decide +kernel
theorem dX0_coloursUsed_9 : decode cX0_coloursUsed 9 = .ok (.getfield 41, 3) := by decide +kernel
theorem dX0_coloursUsed_12 : decode cX0_coloursUsed 12 = .ok (.if_icmp .ge 20, 3) := by decide +kernel
theorem dX0_coloursUsed_15 : decode cX0_coloursUsed 15 = .ok (.iload_n 1, 1) := by decide +kernel
theorem dX0_coloursUsed_16 : decode cX0_coloursUsed 16 = .ok (.iconst 1, 1) := by decide +kernel
theorem dX0_coloursUsed_17 : decode cX0_coloursUsed 17 = .ok (.aload_n 0, 1) := by decide +kernel
theorem dX0_coloursUsed_18 : decode cX0_coloursUsed 18 = .ok (.getfield 9, 3) := by decide +kernel
theorem dX0_coloursUsed_21 : decode cX0_coloursUsed 21 = .ok (.iload_n 2, 1) := by decide +kernel
theorem dX0_coloursUsed_22 : decode cX0_coloursUsed 22 = .ok (.iaload, 1) := by decide +kernel
theorem dX0_coloursUsed_23 : decode cX0_coloursUsed 23 = .ok (.ishl, 1) := by decide +kernel
theorem dX0_coloursUsed_24 : decode cX0_coloursUsed 24 = .ok (.ior, 1) := by decide +kernel
theorem dX0_coloursUsed_25 : decode cX0_coloursUsed 25 = .ok (.istore_n 1, 1) := by decide +kernel
theorem dX0_coloursUsed_26 : decode cX0_coloursUsed 26 = .ok (.iinc 2 1, 3) := by decide +kernel
theorem dX0_coloursUsed_29 : decode cX0_coloursUsed 29 = .ok (.goto (-25), 3) := by decide +kernel
theorem dX0_coloursUsed_32 : decode cX0_coloursUsed 32 = .ok (.iload_n 1, 1) := by decide +kernel
theorem dX0_coloursUsed_33 : decode cX0_coloursUsed 33 = .ok (.invokestatic 47, 3) := by decide +kernel
theorem dX0_coloursUsed_36 : decode cX0_coloursUsed 36 = .ok (.ireturn, 1) := by decide +kernel
theorem dX0_countWith_0 : decode cX0_countWith 0 = .ok (.aload_n 0, 1) := by decide +kernel
theorem dX0_countWith_1 : decode cX0_countWith 1 = .ok (.invokevirtual 29, 3) := by decide +kernel
theorem dX0_countWith_4 : decode cX0_countWith 4 = .ok (.iconst 0, 1) := by decide +kernel
theorem dX0_countWith_5 : decode cX0_countWith 5 = .ok (.istore_n 3, 1) := by decide +kernel
theorem dX0_countWith_6 : decode cX0_countWith 6 = .ok (.iconst 0, 1) := by decide +kernel
theorem dX0_countWith_7 : decode cX0_countWith 7 = .ok (.istore 4, 2) := by decide +kernel
theorem dX0_countWith_9 : decode cX0_countWith 9 = .ok (.iload 4, 2) := by decide +kernel
theorem dX0_countWith_11 : decode cX0_countWith 11 = .ok (.ldc 32, 2) := by decide +kernel
theorem dX0_countWith_13 : decode cX0_countWith 13 = .ok (.if_icmp .ge 29, 3) := by decide +kernel
theorem dX0_countWith_16 : decode cX0_countWith 16 = .ok (.aload_n 0, 1) := by decide +kernel
theorem dX0_countWith_17 : decode cX0_countWith 17 = .ok (.invokevirtual 33, 3) := by decide +kernel
theorem dX0_countWith_20 : decode cX0_countWith 20 = .ok (.ifCond .eq 22, 3) := by decide +kernel
theorem dX0_countWith_23 : decode cX0_countWith 23 = .ok (.aload_n 0, 1) := by decide +kernel
theorem dX0_countWith_24 : decode cX0_countWith 24 = .ok (.getfield 9, 3) := by decide +kernel
theorem dX0_countWith_27 : decode cX0_countWith 27 = .ok (.iload_n 1, 1) := by decide +kernel
theorem dX0_countWith_28 : decode cX0_countWith 28 = .ok (.iaload, 1) := by decide +kernel
theorem dX0_countWith_29 : decode cX0_countWith 29 = .ok (.iload_n 2, 1) := by decide +kernel
theorem dX0_countWith_30 : decode cX0_countWith 30 = .ok (.if_icmp .ne 6, 3) := by decide +kernel
theorem dX0_countWith_33 : decode cX0_countWith 33 = .ok (.iinc 3 1, 3) := by decide +kernel
theorem dX0_countWith_36 : decode cX0_countWith 36 = .ok (.iinc 4 1, 3) := by decide +kernel
theorem dX0_countWith_39 : decode cX0_countWith 39 = .ok (.goto (-30), 3) := by decide +kernel
theorem dX0_countWith_42 : decode cX0_countWith 42 = .ok (.iload_n 3, 1) := by decide +kernel
theorem dX0_countWith_43 : decode cX0_countWith 43 = .ok (.ireturn, 1) := by decide +kernel
theorem dX0_countAlike_0 : decode cX0_countAlike 0 = .ok (.aload_n 0, 1) := by decide +kernel
theorem dX0_countAlike_1 : decode cX0_countAlike 1 = .ok (.invokevirtual 29, 3) := by decide +kernel
theorem dX0_countAlike_4 : decode cX0_countAlike 4 = .ok (.iconst 0, 1) := by decide +kernel
theorem dX0_countAlike_5 : decode cX0_countAlike 5 = .ok (.istore_n 3, 1) := by decide +kernel
theorem dX0_countAlike_6 : decode cX0_countAlike 6 = .ok (.iconst 0, 1) := by decide +kernel
theorem dX0_countAlike_7 : decode cX0_countAlike 7 = .ok (.istore 4, 2) := by decide +kernel
theorem dX0_countAlike_9 : decode cX0_countAlike 9 = .ok (.iload 4, 2) := by decide +kernel
theorem dX0_countAlike_11 : decode cX0_countAlike 11 = .ok (.ldc 32, 2) := by decide +kernel
theorem dX0_countAlike_13 : decode cX0_countAlike 13 = .ok (.if_icmp .ge 34, 3) := by decide +kernel
theorem dX0_countAlike_16 : decode cX0_countAlike 16 = .ok (.aload_n 0, 1) := by decide +kernel
theorem dX0_countAlike_17 : decode cX0_countAlike 17 = .ok (.invokevirtual 33, 3) := by decide +kernel
theorem dX0_countAlike_20 : decode cX0_countAlike 20 = .ok (.ifCond .eq 27, 3) := by decide +kernel
theorem dX0_countAlike_23 : decode cX0_countAlike 23 = .ok (.aload_n 0, 1) := by decide +kernel
theorem dX0_countAlike_24 : decode cX0_countAlike 24 = .ok (.getfield 9, 3) := by decide +kernel
theorem dX0_countAlike_27 : decode cX0_countAlike 27 = .ok (.iload_n 1, 1) := by decide +kernel
theorem dX0_countAlike_28 : decode cX0_countAlike 28 = .ok (.iaload, 1) := by decide +kernel
theorem dX0_countAlike_29 : decode cX0_countAlike 29 = .ok (.aload_n 0, 1) := by decide +kernel
theorem dX0_countAlike_30 : decode cX0_countAlike 30 = .ok (.getfield 9, 3) := by decide +kernel
theorem dX0_countAlike_33 : decode cX0_countAlike 33 = .ok (.iload_n 2, 1) := by decide +kernel
theorem dX0_countAlike_34 : decode cX0_countAlike 34 = .ok (.iaload, 1) := by decide +kernel
theorem dX0_countAlike_35 : decode cX0_countAlike 35 = .ok (.if_icmp .ne 6, 3) := by decide +kernel
theorem dX0_countAlike_38 : decode cX0_countAlike 38 = .ok (.iinc 3 1, 3) := by decide +kernel
theorem dX0_countAlike_41 : decode cX0_countAlike 41 = .ok (.iinc 4 1, 3) := by decide +kernel
theorem dX0_countAlike_44 : decode cX0_countAlike 44 = .ok (.goto (-35), 3) := by decide +kernel
theorem dX0_countAlike_47 : decode cX0_countAlike 47 = .ok (.iload_n 3, 1) := by decide +kernel
theorem dX0_countAlike_48 : decode cX0_countAlike 48 = .ok (.ireturn, 1) := by decide +kernel
theorem dX0_colourAt_0 : decode cX0_colourAt 0 = .ok (.aload_n 0, 1) := by decide +kernel
theorem dX0_colourAt_1 : decode cX0_colourAt 1 = .ok (.invokevirtual 29, 3) := by decide +kernel
theorem dX0_colourAt_4 : decode cX0_colourAt 4 = .ok (.iconst 0, 1) := by decide +kernel
theorem dX0_colourAt_5 : decode cX0_colourAt 5 = .ok (.istore_n 3, 1) := by decide +kernel
theorem dX0_colourAt_6 : decode cX0_colourAt 6 = .ok (.iload_n 3, 1) := by decide +kernel
theorem dX0_colourAt_7 : decode cX0_colourAt 7 = .ok (.ldc 32, 2) := by decide +kernel
theorem dX0_colourAt_9 : decode cX0_colourAt 9 = .ok (.if_icmp .ge 28, 3) := by decide +kernel
theorem dX0_colourAt_12 : decode cX0_colourAt 12 = .ok (.aload_n 0, 1) := by decide +kernel
theorem dX0_colourAt_13 : decode cX0_colourAt 13 = .ok (.invokevirtual 33, 3) := by decide +kernel
theorem dX0_colourAt_16 : decode cX0_colourAt 16 = .ok (.ifCond .eq 21, 3) := by decide +kernel
theorem dX0_colourAt_19 : decode cX0_colourAt 19 = .ok (.iload_n 3, 1) := by decide +kernel
theorem dX0_colourAt_20 : decode cX0_colourAt 20 = .ok (.iload_n 1, 1) := by decide +kernel
theorem dX0_colourAt_21 : decode cX0_colourAt 21 = .ok (.if_icmp .ne 10, 3) := by decide +kernel
theorem dX0_colourAt_24 : decode cX0_colourAt 24 = .ok (.aload_n 0, 1) := by decide +kernel
theorem dX0_colourAt_25 : decode cX0_colourAt 25 = .ok (.getfield 9, 3) := by decide +kernel
theorem dX0_colourAt_28 : decode cX0_colourAt 28 = .ok (.iload_n 2, 1) := by decide +kernel
theorem dX0_colourAt_29 : decode cX0_colourAt 29 = .ok (.iaload, 1) := by decide +kernel
theorem dX0_colourAt_30 : decode cX0_colourAt 30 = .ok (.ireturn, 1) := by decide +kernel
theorem dX0_colourAt_31 : decode cX0_colourAt 31 = .ok (.iinc 3 1, 3) := by decide +kernel
theorem dX0_colourAt_34 : decode cX0_colourAt 34 = .ok (.goto (-28), 3) := by decide +kernel
theorem dX0_colourAt_37 : decode cX0_colourAt 37 = .ok (.iconst (-1), 1) := by decide +kernel
theorem dX0_colourAt_38 : decode cX0_colourAt 38 = .ok (.ireturn, 1) := by decide +kernel
theorem dX0_start_0 : decode cX0_start 0 = .ok (.iconst 0, 1) := by decide +kernel
theorem dX0_start_1 : decode cX0_start 1 = .ok (.istore_n 1, 1) := by decide +kernel
theorem dX0_start_2 : decode cX0_start 2 = .ok (.iload_n 1, 1) := by decide +kernel
theorem dX0_start_3 : decode cX0_start 3 = .ok (.bipush 7, 2) := by decide +kernel
theorem dX0_start_5 : decode cX0_start 5 = .ok (.if_icmp .ge 16, 3) := by decide +kernel
theorem dX0_start_8 : decode cX0_start 8 = .ok (.aload_n 0, 1) := by decide +kernel
theorem dX0_start_9 : decode cX0_start 9 = .ok (.getfield 9, 3) := by decide +kernel
theorem dX0_start_12 : decode cX0_start 12 = .ok (.iload_n 1, 1) := by decide +kernel
theorem dX0_start_13 : decode cX0_start 13 = .ok (.iconst (-1), 1) := by decide +kernel
theorem dX0_start_14 : decode cX0_start 14 = .ok (.iastore, 1) := by decide +kernel
theorem dX0_start_15 : decode cX0_start 15 = .ok (.iinc 1 1, 3) := by decide +kernel
theorem dX0_start_18 : decode cX0_start 18 = .ok (.goto (-16), 3) := by decide +kernel
theorem dX0_start_21 : decode cX0_start 21 = .ok (.iconst 0, 1) := by decide +kernel
theorem dX0_start_22 : decode cX0_start 22 = .ok (.istore_n 1, 1) := by decide +kernel
theorem dX0_start_23 : decode cX0_start 23 = .ok (.iload_n 1, 1) := by decide +kernel
theorem dX0_start_24 : decode cX0_start 24 = .ok (.aload_n 0, 1) := by decide +kernel
theorem dX0_start_25 : decode cX0_start 25 = .ok (.getfield 25, 3) := by decide +kernel
theorem dX0_start_28 : decode cX0_start 28 = .ok (.getfield 53, 3) := by decide +kernel
theorem dX0_start_31 : decode cX0_start 31 = .ok (.if_icmp .ge 50, 3) := by decide +kernel
theorem dX0_start_34 : decode cX0_start 34 = .ok (.aload_n 0, 1) := by decide +kernel
theorem dX0_start_35 : decode cX0_start 35 = .ok (.getfield 25, 3) := by decide +kernel
theorem dX0_start_38 : decode cX0_start 38 = .ok (.iload_n 1, 1) := by decide +kernel
theorem dX0_start_39 : decode cX0_start 39 = .ok (.iconst 1, 1) := by decide +kernel
theorem dX0_start_40 : decode cX0_start 40 = .ok (.invokevirtual 56, 3) := by decide +kernel
theorem dX0_start_43 : decode cX0_start 43 = .ok (.aload_n 0, 1) := by decide +kernel
theorem dX0_start_44 : decode cX0_start 44 = .ok (.getfield 25, 3) := by decide +kernel
theorem dX0_start_47 : decode cX0_start 47 = .ok (.iload_n 1, 1) := by decide +kernel
theorem dX0_start_48 : decode cX0_start 48 = .ok (.iconst 2, 1) := by decide +kernel
theorem dX0_start_49 : decode cX0_start 49 = .ok (.invokevirtual 56, 3) := by decide +kernel
theorem dX0_start_52 : decode cX0_start 52 = .ok (.invokestatic 60, 3) := by decide +kernel
theorem dX0_start_55 : decode cX0_start 55 = .ok (.istore_n 2, 1) := by decide +kernel
theorem dX0_start_56 : decode cX0_start 56 = .ok (.aload_n 0, 1) := by decide +kernel
theorem dX0_start_57 : decode cX0_start 57 = .ok (.getfield 15, 3) := by decide +kernel
theorem dX0_start_60 : decode cX0_start 60 = .ok (.iload_n 1, 1) := by decide +kernel
theorem dX0_start_61 : decode cX0_start 61 = .ok (.aload_n 0, 1) := by decide +kernel
theorem dX0_start_62 : decode cX0_start 62 = .ok (.getfield 25, 3) := by decide +kernel
theorem dX0_start_65 : decode cX0_start 65 = .ok (.iload_n 1, 1) := by decide +kernel
theorem dX0_start_66 : decode cX0_start 66 = .ok (.iconst 0, 1) := by decide +kernel
theorem dX0_start_67 : decode cX0_start 67 = .ok (.invokevirtual 56, 3) := by decide +kernel
theorem dX0_start_70 : decode cX0_start 70 = .ok (.iload_n 2, 1) := by decide +kernel
theorem dX0_start_71 : decode cX0_start 71 = .ok (.invokestatic 60, 3) := by decide +kernel
theorem dX0_start_74 : decode cX0_start 74 = .ok (.iastore, 1) := by decide +kernel
theorem dX0_start_75 : decode cX0_start 75 = .ok (.iinc 1 1, 3) := by decide +kernel
theorem dX0_start_78 : decode cX0_start 78 = .ok (.goto (-55), 3) := by decide +kernel
theorem dX0_start_81 : decode cX0_start 81 = .ok (.aload_n 0, 1) := by decide +kernel
theorem dX0_start_82 : decode cX0_start 82 = .ok (.iconst 0, 1) := by decide +kernel
theorem dX0_start_83 : decode cX0_start 83 = .ok (.putfield 65, 3) := by decide +kernel
theorem dX0_start_86 : decode cX0_start 86 = .ok (.return_, 1) := by decide +kernel
theorem dX0_advance_0 : decode cX0_advance 0 = .ok (.iconst 0, 1) := by decide +kernel
theorem dX0_advance_1 : decode cX0_advance 1 = .ok (.istore_n 1, 1) := by decide +kernel
theorem dX0_advance_2 : decode cX0_advance 2 = .ok (.iload_n 1, 1) := by decide +kernel
theorem dX0_advance_3 : decode cX0_advance 3 = .ok (.ldc 68, 2) := by decide +kernel
theorem dX0_advance_5 : decode cX0_advance 5 = .ok (.if_icmp .ge 106, 3) := by decide +kernel
theorem dX0_advance_8 : decode cX0_advance 8 = .ok (.aload_n 0, 1) := by decide +kernel
theorem dX0_advance_9 : decode cX0_advance 9 = .ok (.getfield 65, 3) := by decide +kernel
theorem dX0_advance_12 : decode cX0_advance 12 = .ok (.ifCond .lt 99, 3) := by decide +kernel
theorem dX0_advance_15 : decode cX0_advance 15 = .ok (.aload_n 0, 1) := by decide +kernel
theorem dX0_advance_16 : decode cX0_advance 16 = .ok (.getfield 9, 3) := by decide +kernel
theorem dX0_advance_19 : decode cX0_advance 19 = .ok (.aload_n 0, 1) := by decide +kernel
theorem dX0_advance_20 : decode cX0_advance 20 = .ok (.getfield 65, 3) := by decide +kernel
theorem dX0_advance_23 : decode cX0_advance 23 = .ok (.dup2, 1) := by decide +kernel
theorem dX0_advance_24 : decode cX0_advance 24 = .ok (.iaload, 1) := by decide +kernel
theorem dX0_advance_25 : decode cX0_advance 25 = .ok (.iconst 1, 1) := by decide +kernel
theorem dX0_advance_26 : decode cX0_advance 26 = .ok (.iadd, 1) := by decide +kernel
theorem dX0_advance_27 : decode cX0_advance 27 = .ok (.iastore, 1) := by decide +kernel
theorem dX0_advance_28 : decode cX0_advance 28 = .ok (.aload_n 0, 1) := by decide +kernel
theorem dX0_advance_29 : decode cX0_advance 29 = .ok (.getfield 9, 3) := by decide +kernel
theorem dX0_advance_32 : decode cX0_advance 32 = .ok (.aload_n 0, 1) := by decide +kernel
theorem dX0_advance_33 : decode cX0_advance 33 = .ok (.getfield 65, 3) := by decide +kernel
theorem dX0_advance_36 : decode cX0_advance 36 = .ok (.iaload, 1) := by decide +kernel
theorem dX0_advance_37 : decode cX0_advance 37 = .ok (.aload_n 0, 1) := by decide +kernel
theorem dX0_advance_38 : decode cX0_advance 38 = .ok (.getfield 21, 3) := by decide +kernel
theorem dX0_advance_41 : decode cX0_advance 41 = .ok (.getfield 69, 3) := by decide +kernel
theorem dX0_advance_44 : decode cX0_advance 44 = .ok (.if_icmp .lt 26, 3) := by decide +kernel
theorem dX0_advance_47 : decode cX0_advance 47 = .ok (.aload_n 0, 1) := by decide +kernel
theorem dX0_advance_48 : decode cX0_advance 48 = .ok (.getfield 9, 3) := by decide +kernel
theorem dX0_advance_51 : decode cX0_advance 51 = .ok (.aload_n 0, 1) := by decide +kernel
theorem dX0_advance_52 : decode cX0_advance 52 = .ok (.getfield 65, 3) := by decide +kernel
theorem dX0_advance_55 : decode cX0_advance 55 = .ok (.iconst (-1), 1) := by decide +kernel
theorem dX0_advance_56 : decode cX0_advance 56 = .ok (.iastore, 1) := by decide +kernel
theorem dX0_advance_57 : decode cX0_advance 57 = .ok (.aload_n 0, 1) := by decide +kernel
theorem dX0_advance_58 : decode cX0_advance 58 = .ok (.dup, 1) := by decide +kernel
theorem dX0_advance_59 : decode cX0_advance 59 = .ok (.getfield 65, 3) := by decide +kernel
theorem dX0_advance_62 : decode cX0_advance 62 = .ok (.iconst 1, 1) := by decide +kernel
theorem dX0_advance_63 : decode cX0_advance 63 = .ok (.isub, 1) := by decide +kernel
theorem dX0_advance_64 : decode cX0_advance 64 = .ok (.putfield 65, 3) := by decide +kernel
theorem dX0_advance_67 : decode cX0_advance 67 = .ok (.goto 38, 3) := by decide +kernel
theorem dX0_advance_70 : decode cX0_advance 70 = .ok (.aload_n 0, 1) := by decide +kernel
theorem dX0_advance_71 : decode cX0_advance 71 = .ok (.invokevirtual 74, 3) := by decide +kernel
theorem dX0_advance_74 : decode cX0_advance 74 = .ok (.ifCond .eq 31, 3) := by decide +kernel
theorem dX0_advance_77 : decode cX0_advance 77 = .ok (.aload_n 0, 1) := by decide +kernel
theorem dX0_advance_78 : decode cX0_advance 78 = .ok (.getfield 65, 3) := by decide +kernel
theorem dX0_advance_81 : decode cX0_advance 81 = .ok (.aload_n 0, 1) := by decide +kernel
theorem dX0_advance_82 : decode cX0_advance 82 = .ok (.getfield 25, 3) := by decide +kernel
theorem dX0_advance_85 : decode cX0_advance 85 = .ok (.getfield 41, 3) := by decide +kernel
theorem dX0_advance_88 : decode cX0_advance 88 = .ok (.iconst 1, 1) := by decide +kernel
theorem dX0_advance_89 : decode cX0_advance 89 = .ok (.isub, 1) := by decide +kernel
theorem dX0_advance_90 : decode cX0_advance 90 = .ok (.if_icmp .ne 5, 3) := by decide +kernel
theorem dX0_advance_93 : decode cX0_advance 93 = .ok (.iconst 1, 1) := by decide +kernel
theorem dX0_advance_94 : decode cX0_advance 94 = .ok (.ireturn, 1) := by decide +kernel
theorem dX0_advance_95 : decode cX0_advance 95 = .ok (.aload_n 0, 1) := by decide +kernel
theorem dX0_advance_96 : decode cX0_advance 96 = .ok (.dup, 1) := by decide +kernel
theorem dX0_advance_97 : decode cX0_advance 97 = .ok (.getfield 65, 3) := by decide +kernel
theorem dX0_advance_100 : decode cX0_advance 100 = .ok (.iconst 1, 1) := by decide +kernel
theorem dX0_advance_101 : decode cX0_advance 101 = .ok (.iadd, 1) := by decide +kernel
theorem dX0_advance_102 : decode cX0_advance 102 = .ok (.putfield 65, 3) := by decide +kernel
theorem dX0_advance_105 : decode cX0_advance 105 = .ok (.iinc 1 1, 3) := by decide +kernel
theorem dX0_advance_108 : decode cX0_advance 108 = .ok (.goto (-106), 3) := by decide +kernel
theorem dX0_advance_111 : decode cX0_advance 111 = .ok (.iconst 0, 1) := by decide +kernel
theorem dX0_advance_112 : decode cX0_advance 112 = .ok (.ireturn, 1) := by decide +kernel
theorem dX0_fits_0 : decode cX0_fits 0 = .ok (.iconst 0, 1) := by decide +kernel
theorem dX0_fits_1 : decode cX0_fits 1 = .ok (.istore_n 1, 1) := by decide +kernel
theorem dX0_fits_2 : decode cX0_fits 2 = .ok (.iload_n 1, 1) := by decide +kernel
theorem dX0_fits_3 : decode cX0_fits 3 = .ok (.aload_n 0, 1) := by decide +kernel
theorem dX0_fits_4 : decode cX0_fits 4 = .ok (.getfield 25, 3) := by decide +kernel
theorem dX0_fits_7 : decode cX0_fits 7 = .ok (.getfield 53, 3) := by decide +kernel
theorem dX0_fits_10 : decode cX0_fits 10 = .ok (.if_icmp .ge 32, 3) := by decide +kernel
theorem dX0_fits_13 : decode cX0_fits 13 = .ok (.aload_n 0, 1) := by decide +kernel
theorem dX0_fits_14 : decode cX0_fits 14 = .ok (.getfield 15, 3) := by decide +kernel
theorem dX0_fits_17 : decode cX0_fits 17 = .ok (.iload_n 1, 1) := by decide +kernel
theorem dX0_fits_18 : decode cX0_fits 18 = .ok (.iaload, 1) := by decide +kernel
theorem dX0_fits_19 : decode cX0_fits 19 = .ok (.aload_n 0, 1) := by decide +kernel
theorem dX0_fits_20 : decode cX0_fits 20 = .ok (.getfield 65, 3) := by decide +kernel
theorem dX0_fits_23 : decode cX0_fits 23 = .ok (.if_icmp .ne 13, 3) := by decide +kernel
theorem dX0_fits_26 : decode cX0_fits 26 = .ok (.aload_n 0, 1) := by decide +kernel
theorem dX0_fits_27 : decode cX0_fits 27 = .ok (.iload_n 1, 1) := by decide +kernel
theorem dX0_fits_28 : decode cX0_fits 28 = .ok (.invokevirtual 77, 3) := by decide +kernel
theorem dX0_fits_31 : decode cX0_fits 31 = .ok (.ifCond .ne 5, 3) := by decide +kernel
theorem dX0_fits_34 : decode cX0_fits 34 = .ok (.iconst 0, 1) := by decide +kernel
theorem dX0_fits_35 : decode cX0_fits 35 = .ok (.ireturn, 1) := by decide +kernel
theorem dX0_fits_36 : decode cX0_fits 36 = .ok (.iinc 1 1, 3) := by decide +kernel
theorem dX0_fits_39 : decode cX0_fits 39 = .ok (.goto (-37), 3) := by decide +kernel
theorem dX0_fits_42 : decode cX0_fits 42 = .ok (.iconst 1, 1) := by decide +kernel
theorem dX0_fits_43 : decode cX0_fits 43 = .ok (.ireturn, 1) := by decide +kernel
theorem dX0_isMet_0 : decode cX0_isMet 0 = .ok (.aload_n 0, 1) := by decide +kernel
theorem dX0_isMet_1 : decode cX0_isMet 1 = .ok (.getfield 9, 3) := by decide +kernel
theorem dX0_isMet_4 : decode cX0_isMet 4 = .ok (.aload_n 0, 1) := by decide +kernel
theorem dX0_isMet_5 : decode cX0_isMet 5 = .ok (.getfield 25, 3) := by decide +kernel
theorem dX0_isMet_8 : decode cX0_isMet 8 = .ok (.iload_n 1, 1) := by decide +kernel
theorem dX0_isMet_9 : decode cX0_isMet 9 = .ok (.iconst 0, 1) := by decide +kernel
theorem dX0_isMet_10 : decode cX0_isMet 10 = .ok (.invokevirtual 56, 3) := by decide +kernel
theorem dX0_isMet_13 : decode cX0_isMet 13 = .ok (.iaload, 1) := by decide +kernel
theorem dX0_isMet_14 : decode cX0_isMet 14 = .ok (.istore_n 2, 1) := by decide +kernel
theorem dX0_isMet_15 : decode cX0_isMet 15 = .ok (.aload_n 0, 1) := by decide +kernel
theorem dX0_isMet_16 : decode cX0_isMet 16 = .ok (.getfield 9, 3) := by decide +kernel
theorem dX0_isMet_19 : decode cX0_isMet 19 = .ok (.aload_n 0, 1) := by decide +kernel
theorem dX0_isMet_20 : decode cX0_isMet 20 = .ok (.getfield 25, 3) := by decide +kernel
theorem dX0_isMet_23 : decode cX0_isMet 23 = .ok (.iload_n 1, 1) := by decide +kernel
theorem dX0_isMet_24 : decode cX0_isMet 24 = .ok (.iconst 1, 1) := by decide +kernel
theorem dX0_isMet_25 : decode cX0_isMet 25 = .ok (.invokevirtual 56, 3) := by decide +kernel
theorem dX0_isMet_28 : decode cX0_isMet 28 = .ok (.iaload, 1) := by decide +kernel
theorem dX0_isMet_29 : decode cX0_isMet 29 = .ok (.istore_n 3, 1) := by decide +kernel
theorem dX0_isMet_30 : decode cX0_isMet 30 = .ok (.aload_n 0, 1) := by decide +kernel
theorem dX0_isMet_31 : decode cX0_isMet 31 = .ok (.getfield 9, 3) := by decide +kernel
theorem dX0_isMet_34 : decode cX0_isMet 34 = .ok (.aload_n 0, 1) := by decide +kernel
theorem dX0_isMet_35 : decode cX0_isMet 35 = .ok (.getfield 25, 3) := by decide +kernel
theorem dX0_isMet_38 : decode cX0_isMet 38 = .ok (.iload_n 1, 1) := by decide +kernel
theorem dX0_isMet_39 : decode cX0_isMet 39 = .ok (.iconst 2, 1) := by decide +kernel
theorem dX0_isMet_40 : decode cX0_isMet 40 = .ok (.invokevirtual 56, 3) := by decide +kernel
theorem dX0_isMet_43 : decode cX0_isMet 43 = .ok (.iaload, 1) := by decide +kernel
theorem dX0_isMet_44 : decode cX0_isMet 44 = .ok (.istore 4, 2) := by decide +kernel
theorem dX0_isMet_46 : decode cX0_isMet 46 = .ok (.aload_n 0, 1) := by decide +kernel
theorem dX0_isMet_47 : decode cX0_isMet 47 = .ok (.getfield 25, 3) := by decide +kernel
theorem dX0_isMet_50 : decode cX0_isMet 50 = .ok (.iload_n 1, 1) := by decide +kernel
theorem dX0_isMet_51 : decode cX0_isMet 51 = .ok (.iconst 3, 1) := by decide +kernel
theorem dX0_isMet_52 : decode cX0_isMet 52 = .ok (.invokevirtual 56, 3) := by decide +kernel
theorem dX0_isMet_55 : decode cX0_isMet 55 = .ok (.iconst 1, 1) := by decide +kernel
theorem dX0_isMet_56 : decode cX0_isMet 56 = .ok (.if_icmp .ne 23, 3) := by decide +kernel
theorem dX0_isMet_59 : decode cX0_isMet 59 = .ok (.iload 4, 2) := by decide +kernel
theorem dX0_isMet_61 : decode cX0_isMet 61 = .ok (.aload_n 0, 1) := by decide +kernel
theorem dX0_isMet_62 : decode cX0_isMet 62 = .ok (.getfield 21, 3) := by decide +kernel
theorem dX0_isMet_65 : decode cX0_isMet 65 = .ok (.iload_n 3, 1) := by decide +kernel
theorem dX0_isMet_66 : decode cX0_isMet 66 = .ok (.iload_n 2, 1) := by decide +kernel
theorem dX0_isMet_67 : decode cX0_isMet 67 = .ok (.invokevirtual 81, 3) := by decide +kernel
theorem dX0_isMet_70 : decode cX0_isMet 70 = .ok (.if_icmp .ne 7, 3) := by decide +kernel
theorem dX0_isMet_73 : decode cX0_isMet 73 = .ok (.iconst 1, 1) := by decide +kernel
theorem dX0_isMet_74 : decode cX0_isMet 74 = .ok (.goto 4, 3) := by decide +kernel
theorem dX0_isMet_77 : decode cX0_isMet 77 = .ok (.iconst 0, 1) := by decide +kernel
theorem dX0_isMet_78 : decode cX0_isMet 78 = .ok (.ireturn, 1) := by decide +kernel
theorem dX0_isMet_79 : decode cX0_isMet 79 = .ok (.iload_n 3, 1) := by decide +kernel
theorem dX0_isMet_80 : decode cX0_isMet 80 = .ok (.aload_n 0, 1) := by decide +kernel
theorem dX0_isMet_81 : decode cX0_isMet 81 = .ok (.getfield 21, 3) := by decide +kernel
theorem dX0_isMet_84 : decode cX0_isMet 84 = .ok (.iload 4, 2) := by decide +kernel
theorem dX0_isMet_86 : decode cX0_isMet 86 = .ok (.iload_n 2, 1) := by decide +kernel
theorem dX0_isMet_87 : decode cX0_isMet 87 = .ok (.invokevirtual 81, 3) := by decide +kernel
theorem dX0_isMet_90 : decode cX0_isMet 90 = .ok (.if_icmp .ne 7, 3) := by decide +kernel
theorem dX0_isMet_93 : decode cX0_isMet 93 = .ok (.iconst 1, 1) := by decide +kernel
theorem dX0_isMet_94 : decode cX0_isMet 94 = .ok (.goto 4, 3) := by decide +kernel
theorem dX0_isMet_97 : decode cX0_isMet 97 = .ok (.iconst 0, 1) := by decide +kernel
theorem dX0_isMet_98 : decode cX0_isMet 98 = .ok (.ireturn, 1) := by decide +kernel
theorem dX1_init_0 : decode cX1_init 0 = .ok (.aload_n 0, 1) := by decide +kernel
theorem dX1_init_1 : decode cX1_init 1 = .ok (.invokespecial 3, 3) := by decide +kernel
theorem dX1_init_4 : decode cX1_init 4 = .ok (.aload_n 0, 1) := by decide +kernel
theorem dX1_init_5 : decode cX1_init 5 = .ok (.iconst 1, 1) := by decide +kernel
theorem dX1_init_6 : decode cX1_init 6 = .ok (.putfield 9, 3) := by decide +kernel
theorem dX1_init_9 : decode cX1_init 9 = .ok (.aload_n 0, 1) := by decide +kernel
theorem dX1_init_10 : decode cX1_init 10 = .ok (.iconst 0, 1) := by decide +kernel
theorem dX1_init_11 : decode cX1_init 11 = .ok (.putfield 15, 3) := by decide +kernel
theorem dX1_init_14 : decode cX1_init 14 = .ok (.aload_n 0, 1) := by decide +kernel
theorem dX1_init_15 : decode cX1_init 15 = .ok (.bipush 40, 2) := by decide +kernel
theorem dX1_init_17 : decode cX1_init 17 = .ok (.newarray .int, 2) := by decide +kernel
theorem dX1_init_19 : decode cX1_init 19 = .ok (.putfield 18, 3) := by decide +kernel
theorem dX1_init_22 : decode cX1_init 22 = .ok (.return_, 1) := by decide +kernel
theorem dX1_hasArc_0 : decode cX1_hasArc 0 = .ok (.iload_n 1, 1) := by decide +kernel
theorem dX1_hasArc_1 : decode cX1_hasArc 1 = .ok (.ifCond .lt 15, 3) := by decide +kernel
theorem dX1_hasArc_4 : decode cX1_hasArc 4 = .ok (.iload_n 1, 1) := by decide +kernel
theorem dX1_hasArc_5 : decode cX1_hasArc 5 = .ok (.aload_n 0, 1) := by decide +kernel
theorem dX1_hasArc_6 : decode cX1_hasArc 6 = .ok (.getfield 9, 3) := by decide +kernel
theorem dX1_hasArc_9 : decode cX1_hasArc 9 = .ok (.if_icmp .ge 7, 3) := by decide +kernel
theorem dX1_hasArc_12 : decode cX1_hasArc 12 = .ok (.iconst 1, 1) := by decide +kernel
theorem dX1_hasArc_13 : decode cX1_hasArc 13 = .ok (.goto 4, 3) := by decide +kernel
theorem dX1_hasArc_16 : decode cX1_hasArc 16 = .ok (.iconst 0, 1) := by decide +kernel
theorem dX1_hasArc_17 : decode cX1_hasArc 17 = .ok (.ireturn, 1) := by decide +kernel
theorem dX1_hasCrossing_0 : decode cX1_hasCrossing 0 = .ok (.iload_n 1, 1) := by decide +kernel
theorem dX1_hasCrossing_1 : decode cX1_hasCrossing 1 = .ok (.ifCond .lt 15, 3) := by decide +kernel
theorem dX1_hasCrossing_4 : decode cX1_hasCrossing 4 = .ok (.iload_n 1, 1) := by decide +kernel
theorem dX1_hasCrossing_5 : decode cX1_hasCrossing 5 = .ok (.aload_n 0, 1) := by decide +kernel
theorem dX1_hasCrossing_6 : decode cX1_hasCrossing 6 = .ok (.getfield 15, 3) := by decide +kernel
theorem dX1_hasCrossing_9 : decode cX1_hasCrossing 9 = .ok (.if_icmp .ge 7, 3) := by decide +kernel
theorem dX1_hasCrossing_12 : decode cX1_hasCrossing 12 = .ok (.iconst 1, 1) := by decide +kernel
theorem dX1_hasCrossing_13 : decode cX1_hasCrossing 13 = .ok (.goto 4, 3) := by decide +kernel
theorem dX1_hasCrossing_16 : decode cX1_hasCrossing 16 = .ok (.iconst 0, 1) := by decide +kernel
theorem dX1_hasCrossing_17 : decode cX1_hasCrossing 17 = .ok (.ireturn, 1) := by decide +kernel
theorem dX1_hasRoom_0 : decode cX1_hasRoom 0 = .ok (.aload_n 0, 1) := by decide +kernel
theorem dX1_hasRoom_1 : decode cX1_hasRoom 1 = .ok (.getfield 9, 3) := by decide +kernel
theorem dX1_hasRoom_4 : decode cX1_hasRoom 4 = .ok (.iload_n 1, 1) := by decide +kernel
theorem dX1_hasRoom_5 : decode cX1_hasRoom 5 = .ok (.iadd, 1) := by decide +kernel
theorem dX1_hasRoom_6 : decode cX1_hasRoom 6 = .ok (.bipush 7, 2) := by decide +kernel
theorem dX1_hasRoom_8 : decode cX1_hasRoom 8 = .ok (.if_icmp .gt 18, 3) := by decide +kernel
theorem dX1_hasRoom_11 : decode cX1_hasRoom 11 = .ok (.aload_n 0, 1) := by decide +kernel
theorem dX1_hasRoom_12 : decode cX1_hasRoom 12 = .ok (.getfield 15, 3) := by decide +kernel
theorem dX1_hasRoom_15 : decode cX1_hasRoom 15 = .ok (.iload_n 2, 1) := by decide +kernel
theorem dX1_hasRoom_16 : decode cX1_hasRoom 16 = .ok (.iadd, 1) := by decide +kernel
theorem dX1_hasRoom_17 : decode cX1_hasRoom 17 = .ok (.bipush 10, 2) := by decide +kernel
theorem dX1_hasRoom_19 : decode cX1_hasRoom 19 = .ok (.if_icmp .gt 7, 3) := by decide +kernel
theorem dX1_hasRoom_22 : decode cX1_hasRoom 22 = .ok (.iconst 1, 1) := by decide +kernel
theorem dX1_hasRoom_23 : decode cX1_hasRoom 23 = .ok (.goto 4, 3) := by decide +kernel
theorem dX1_hasRoom_26 : decode cX1_hasRoom 26 = .ok (.iconst 0, 1) := by decide +kernel
theorem dX1_hasRoom_27 : decode cX1_hasRoom 27 = .ok (.ireturn, 1) := by decide +kernel
theorem dX1_part_0 : decode cX1_part 0 = .ok (.aload_n 0, 1) := by decide +kernel
theorem dX1_part_1 : decode cX1_part 1 = .ok (.getfield 18, 3) := by decide +kernel
theorem dX1_part_4 : decode cX1_part 4 = .ok (.iconst 4, 1) := by decide +kernel
theorem dX1_part_5 : decode cX1_part 5 = .ok (.iload_n 1, 1) := by decide +kernel
theorem dX1_part_6 : decode cX1_part 6 = .ok (.imul, 1) := by decide +kernel
theorem dX1_part_7 : decode cX1_part 7 = .ok (.iload_n 2, 1) := by decide +kernel
theorem dX1_part_8 : decode cX1_part 8 = .ok (.iadd, 1) := by decide +kernel
theorem dX1_part_9 : decode cX1_part 9 = .ok (.iaload, 1) := by decide +kernel
theorem dX1_part_10 : decode cX1_part 10 = .ok (.ireturn, 1) := by decide +kernel
theorem dX1_copyFrom_0 : decode cX1_copyFrom 0 = .ok (.aload_n 0, 1) := by decide +kernel
theorem dX1_copyFrom_1 : decode cX1_copyFrom 1 = .ok (.aload_n 1, 1) := by decide +kernel
theorem dX1_copyFrom_2 : decode cX1_copyFrom 2 = .ok (.getfield 9, 3) := by decide +kernel
theorem dX1_copyFrom_5 : decode cX1_copyFrom 5 = .ok (.putfield 9, 3) := by decide +kernel
theorem dX1_copyFrom_8 : decode cX1_copyFrom 8 = .ok (.aload_n 0, 1) := by decide +kernel
theorem dX1_copyFrom_9 : decode cX1_copyFrom 9 = .ok (.aload_n 1, 1) := by decide +kernel
theorem dX1_copyFrom_10 : decode cX1_copyFrom 10 = .ok (.getfield 15, 3) := by decide +kernel
theorem dX1_copyFrom_13 : decode cX1_copyFrom 13 = .ok (.putfield 15, 3) := by decide +kernel
theorem dX1_copyFrom_16 : decode cX1_copyFrom 16 = .ok (.aload_n 1, 1) := by decide +kernel
theorem dX1_copyFrom_17 : decode cX1_copyFrom 17 = .ok (.getfield 18, 3) := by decide +kernel
theorem dX1_copyFrom_20 : decode cX1_copyFrom 20 = .ok (.iconst 0, 1) := by decide +kernel
theorem dX1_copyFrom_21 : decode cX1_copyFrom 21 = .ok (.aload_n 0, 1) := by decide +kernel
theorem dX1_copyFrom_22 : decode cX1_copyFrom 22 = .ok (.getfield 18, 3) := by decide +kernel
theorem dX1_copyFrom_25 : decode cX1_copyFrom 25 = .ok (.iconst 0, 1) := by decide +kernel
theorem dX1_copyFrom_26 : decode cX1_copyFrom 26 = .ok (.aload_n 0, 1) := by decide +kernel
theorem dX1_copyFrom_27 : decode cX1_copyFrom 27 = .ok (.getfield 18, 3) := by decide +kernel
theorem dX1_copyFrom_30 : decode cX1_copyFrom 30 = .ok (.arraylength, 1) := by decide +kernel
theorem dX1_copyFrom_31 : decode cX1_copyFrom 31 = .ok (.invokestatic 22, 3) := by decide +kernel
theorem dX1_copyFrom_34 : decode cX1_copyFrom 34 = .ok (.return_, 1) := by decide +kernel
theorem dX1_clear_0 : decode cX1_clear 0 = .ok (.aload_n 0, 1) := by decide +kernel
theorem dX1_clear_1 : decode cX1_clear 1 = .ok (.iload_n 1, 1) := by decide +kernel
theorem dX1_clear_2 : decode cX1_clear 2 = .ok (.putfield 9, 3) := by decide +kernel
theorem dX1_clear_5 : decode cX1_clear 5 = .ok (.aload_n 0, 1) := by decide +kernel
theorem dX1_clear_6 : decode cX1_clear 6 = .ok (.iconst 0, 1) := by decide +kernel
theorem dX1_clear_7 : decode cX1_clear 7 = .ok (.putfield 15, 3) := by decide +kernel
theorem dX1_clear_10 : decode cX1_clear 10 = .ok (.return_, 1) := by decide +kernel
theorem dX1_addArc_0 : decode cX1_addArc 0 = .ok (.aload_n 0, 1) := by decide +kernel
theorem dX1_addArc_1 : decode cX1_addArc 1 = .ok (.dup, 1) := by decide +kernel
theorem dX1_addArc_2 : decode cX1_addArc 2 = .ok (.getfield 9, 3) := by decide +kernel
theorem dX1_addArc_5 : decode cX1_addArc 5 = .ok (.iconst 1, 1) := by decide +kernel
theorem dX1_addArc_6 : decode cX1_addArc 6 = .ok (.iadd, 1) := by decide +kernel
theorem dX1_addArc_7 : decode cX1_addArc 7 = .ok (.putfield 9, 3) := by decide +kernel
theorem dX1_addArc_10 : decode cX1_addArc 10 = .ok (.aload_n 0, 1) := by decide +kernel
theorem dX1_addArc_11 : decode cX1_addArc 11 = .ok (.getfield 9, 3) := by decide +kernel
theorem dX1_addArc_14 : decode cX1_addArc 14 = .ok (.iconst 1, 1) := by decide +kernel
theorem dX1_addArc_15 : decode cX1_addArc 15 = .ok (.isub, 1) := by decide +kernel
theorem dX1_addArc_16 : decode cX1_addArc 16 = .ok (.ireturn, 1) := by decide +kernel
theorem dX1_append_0 : decode cX1_append 0 = .ok (.iconst 4, 1) := by decide +kernel
theorem dX1_append_1 : decode cX1_append 1 = .ok (.aload_n 0, 1) := by decide +kernel
theorem dX1_append_2 : decode cX1_append 2 = .ok (.getfield 15, 3) := by decide +kernel
theorem dX1_append_5 : decode cX1_append 5 = .ok (.imul, 1) := by decide +kernel
theorem dX1_append_6 : decode cX1_append 6 = .ok (.istore 5, 2) := by decide +kernel
theorem dX1_append_8 : decode cX1_append 8 = .ok (.aload_n 0, 1) := by decide +kernel
theorem dX1_append_9 : decode cX1_append 9 = .ok (.getfield 18, 3) := by decide +kernel
theorem dX1_append_12 : decode cX1_append 12 = .ok (.iload 5, 2) := by decide +kernel
theorem dX1_append_14 : decode cX1_append 14 = .ok (.iconst 0, 1) := by decide +kernel
theorem dX1_append_15 : decode cX1_append 15 = .ok (.iadd, 1) := by decide +kernel
theorem dX1_append_16 : decode cX1_append 16 = .ok (.iload_n 1, 1) := by decide +kernel
theorem dX1_append_17 : decode cX1_append 17 = .ok (.iastore, 1) := by decide +kernel
theorem dX1_append_18 : decode cX1_append 18 = .ok (.aload_n 0, 1) := by decide +kernel
theorem dX1_append_19 : decode cX1_append 19 = .ok (.getfield 18, 3) := by decide +kernel
theorem dX1_append_22 : decode cX1_append 22 = .ok (.iload 5, 2) := by decide +kernel
theorem dX1_append_24 : decode cX1_append 24 = .ok (.iconst 1, 1) := by decide +kernel
theorem dX1_append_25 : decode cX1_append 25 = .ok (.iadd, 1) := by decide +kernel
theorem dX1_append_26 : decode cX1_append 26 = .ok (.iload_n 2, 1) := by decide +kernel
theorem dX1_append_27 : decode cX1_append 27 = .ok (.iastore, 1) := by decide +kernel
theorem dX1_append_28 : decode cX1_append 28 = .ok (.aload_n 0, 1) := by decide +kernel
theorem dX1_append_29 : decode cX1_append 29 = .ok (.getfield 18, 3) := by decide +kernel
theorem dX1_append_32 : decode cX1_append 32 = .ok (.iload 5, 2) := by decide +kernel
theorem dX1_append_34 : decode cX1_append 34 = .ok (.iconst 2, 1) := by decide +kernel
theorem dX1_append_35 : decode cX1_append 35 = .ok (.iadd, 1) := by decide +kernel
theorem dX1_append_36 : decode cX1_append 36 = .ok (.iload_n 3, 1) := by decide +kernel
theorem dX1_append_37 : decode cX1_append 37 = .ok (.iastore, 1) := by decide +kernel
theorem dX1_append_38 : decode cX1_append 38 = .ok (.aload_n 0, 1) := by decide +kernel
theorem dX1_append_39 : decode cX1_append 39 = .ok (.getfield 18, 3) := by decide +kernel
theorem dX1_append_42 : decode cX1_append 42 = .ok (.iload 5, 2) := by decide +kernel
theorem dX1_append_44 : decode cX1_append 44 = .ok (.iconst 3, 1) := by decide +kernel
theorem dX1_append_45 : decode cX1_append 45 = .ok (.iadd, 1) := by decide +kernel
theorem dX1_append_46 : decode cX1_append 46 = .ok (.iload 4, 2) := by decide +kernel
theorem dX1_append_48 : decode cX1_append 48 = .ok (.iastore, 1) := by decide +kernel
theorem dX1_append_49 : decode cX1_append 49 = .ok (.aload_n 0, 1) := by decide +kernel
theorem dX1_append_50 : decode cX1_append 50 = .ok (.dup, 1) := by decide +kernel
theorem dX1_append_51 : decode cX1_append 51 = .ok (.getfield 15, 3) := by decide +kernel
theorem dX1_append_54 : decode cX1_append 54 = .ok (.iconst 1, 1) := by decide +kernel
theorem dX1_append_55 : decode cX1_append 55 = .ok (.iadd, 1) := by decide +kernel
theorem dX1_append_56 : decode cX1_append 56 = .ok (.putfield 15, 3) := by decide +kernel
theorem dX1_append_59 : decode cX1_append 59 = .ok (.return_, 1) := by decide +kernel
theorem dX1_remove_0 : decode cX1_remove 0 = .ok (.iconst 4, 1) := by decide +kernel
theorem dX1_remove_1 : decode cX1_remove 1 = .ok (.iload_n 1, 1) := by decide +kernel
theorem dX1_remove_2 : decode cX1_remove 2 = .ok (.iconst 1, 1) := by decide +kernel
theorem dX1_remove_3 : decode cX1_remove 3 = .ok (.iadd, 1) := by decide +kernel
theorem dX1_remove_4 : decode cX1_remove 4 = .ok (.imul, 1) := by decide +kernel
theorem dX1_remove_5 : decode cX1_remove 5 = .ok (.istore_n 2, 1) := by decide +kernel
theorem dX1_remove_6 : decode cX1_remove 6 = .ok (.aload_n 0, 1) := by decide +kernel
theorem dX1_remove_7 : decode cX1_remove 7 = .ok (.getfield 18, 3) := by decide +kernel
theorem dX1_remove_10 : decode cX1_remove 10 = .ok (.iload_n 2, 1) := by decide +kernel
theorem dX1_remove_11 : decode cX1_remove 11 = .ok (.aload_n 0, 1) := by decide +kernel
theorem dX1_remove_12 : decode cX1_remove 12 = .ok (.getfield 18, 3) := by decide +kernel
theorem dX1_remove_15 : decode cX1_remove 15 = .ok (.iload_n 2, 1) := by decide +kernel
theorem dX1_remove_16 : decode cX1_remove 16 = .ok (.iconst 4, 1) := by decide +kernel
theorem dX1_remove_17 : decode cX1_remove 17 = .ok (.isub, 1) := by decide +kernel
theorem dX1_remove_18 : decode cX1_remove 18 = .ok (.iconst 4, 1) := by decide +kernel
theorem dX1_remove_19 : decode cX1_remove 19 = .ok (.aload_n 0, 1) := by decide +kernel
theorem dX1_remove_20 : decode cX1_remove 20 = .ok (.getfield 15, 3) := by decide +kernel
theorem dX1_remove_23 : decode cX1_remove 23 = .ok (.imul, 1) := by decide +kernel
theorem dX1_remove_24 : decode cX1_remove 24 = .ok (.iload_n 2, 1) := by decide +kernel
theorem dX1_remove_25 : decode cX1_remove 25 = .ok (.isub, 1) := by decide +kernel
theorem dX1_remove_26 : decode cX1_remove 26 = .ok (.invokestatic 22, 3) := by decide +kernel
theorem dX1_remove_29 : decode cX1_remove 29 = .ok (.aload_n 0, 1) := by decide +kernel
theorem dX1_remove_30 : decode cX1_remove 30 = .ok (.dup, 1) := by decide +kernel
theorem dX1_remove_31 : decode cX1_remove 31 = .ok (.getfield 15, 3) := by decide +kernel
theorem dX1_remove_34 : decode cX1_remove 34 = .ok (.iconst 1, 1) := by decide +kernel
theorem dX1_remove_35 : decode cX1_remove 35 = .ok (.isub, 1) := by decide +kernel
theorem dX1_remove_36 : decode cX1_remove 36 = .ok (.putfield 15, 3) := by decide +kernel
theorem dX1_remove_39 : decode cX1_remove 39 = .ok (.return_, 1) := by decide +kernel
theorem dX1_moveIn_0 : decode cX1_moveIn 0 = .ok (.iconst 0, 1) := by decide +kernel
theorem dX1_moveIn_1 : decode cX1_moveIn 1 = .ok (.istore_n 3, 1) := by decide +kernel
theorem dX1_moveIn_2 : decode cX1_moveIn 2 = .ok (.iload_n 3, 1) := by decide +kernel
theorem dX1_moveIn_3 : decode cX1_moveIn 3 = .ok (.aload_n 0, 1) := by decide +kernel
theorem dX1_moveIn_4 : decode cX1_moveIn 4 = .ok (.getfield 15, 3) := by decide +kernel
theorem dX1_moveIn_7 : decode cX1_moveIn 7 = .ok (.if_icmp .ge 30, 3) := by decide +kernel
theorem dX1_moveIn_10 : decode cX1_moveIn 10 = .ok (.aload_n 0, 1) := by decide +kernel
theorem dX1_moveIn_11 : decode cX1_moveIn 11 = .ok (.iload_n 3, 1) := by decide +kernel
theorem dX1_moveIn_12 : decode cX1_moveIn 12 = .ok (.iconst 1, 1) := by decide +kernel
theorem dX1_moveIn_13 : decode cX1_moveIn 13 = .ok (.invokevirtual 28, 3) := by decide +kernel
theorem dX1_moveIn_16 : decode cX1_moveIn 16 = .ok (.iload_n 1, 1) := by decide +kernel
theorem dX1_moveIn_17 : decode cX1_moveIn 17 = .ok (.if_icmp .ne 14, 3) := by decide +kernel
theorem dX1_moveIn_20 : decode cX1_moveIn 20 = .ok (.aload_n 0, 1) := by decide +kernel
theorem dX1_moveIn_21 : decode cX1_moveIn 21 = .ok (.getfield 18, 3) := by decide +kernel
theorem dX1_moveIn_24 : decode cX1_moveIn 24 = .ok (.iconst 4, 1) := by decide +kernel
theorem dX1_moveIn_25 : decode cX1_moveIn 25 = .ok (.iload_n 3, 1) := by decide +kernel
theorem dX1_moveIn_26 : decode cX1_moveIn 26 = .ok (.imul, 1) := by decide +kernel
theorem dX1_moveIn_27 : decode cX1_moveIn 27 = .ok (.iconst 1, 1) := by decide +kernel
theorem dX1_moveIn_28 : decode cX1_moveIn 28 = .ok (.iadd, 1) := by decide +kernel
theorem dX1_moveIn_29 : decode cX1_moveIn 29 = .ok (.iload_n 2, 1) := by decide +kernel
theorem dX1_moveIn_30 : decode cX1_moveIn 30 = .ok (.iastore, 1) := by decide +kernel
theorem dX1_moveIn_31 : decode cX1_moveIn 31 = .ok (.iinc 3 1, 3) := by decide +kernel
theorem dX1_moveIn_34 : decode cX1_moveIn 34 = .ok (.goto (-32), 3) := by decide +kernel
theorem dX1_moveIn_37 : decode cX1_moveIn 37 = .ok (.return_, 1) := by decide +kernel
theorem dX1_isClosed_0 : decode cX1_isClosed 0 = .ok (.iconst 0, 1) := by decide +kernel
theorem dX1_isClosed_1 : decode cX1_isClosed 1 = .ok (.istore_n 1, 1) := by decide +kernel
theorem dX1_isClosed_2 : decode cX1_isClosed 2 = .ok (.iload_n 1, 1) := by decide +kernel
theorem dX1_isClosed_3 : decode cX1_isClosed 3 = .ok (.aload_n 0, 1) := by decide +kernel
theorem dX1_isClosed_4 : decode cX1_isClosed 4 = .ok (.getfield 9, 3) := by decide +kernel
theorem dX1_isClosed_7 : decode cX1_isClosed 7 = .ok (.if_icmp .ge 33, 3) := by decide +kernel
theorem dX1_isClosed_10 : decode cX1_isClosed 10 = .ok (.aload_n 0, 1) := by decide +kernel
theorem dX1_isClosed_11 : decode cX1_isClosed 11 = .ok (.iconst 1, 1) := by decide +kernel
theorem dX1_isClosed_12 : decode cX1_isClosed 12 = .ok (.iload_n 1, 1) := by decide +kernel
theorem dX1_isClosed_13 : decode cX1_isClosed 13 = .ok (.invokevirtual 32, 3) := by decide +kernel
theorem dX1_isClosed_16 : decode cX1_isClosed 16 = .ok (.istore_n 2, 1) := by decide +kernel
theorem dX1_isClosed_17 : decode cX1_isClosed 17 = .ok (.iload_n 2, 1) := by decide +kernel
theorem dX1_isClosed_18 : decode cX1_isClosed 18 = .ok (.iconst 1, 1) := by decide +kernel
theorem dX1_isClosed_19 : decode cX1_isClosed 19 = .ok (.if_icmp .gt 13, 3) := by decide +kernel
theorem dX1_isClosed_22 : decode cX1_isClosed 22 = .ok (.iload_n 2, 1) := by decide +kernel
theorem dX1_isClosed_23 : decode cX1_isClosed 23 = .ok (.aload_n 0, 1) := by decide +kernel
theorem dX1_isClosed_24 : decode cX1_isClosed 24 = .ok (.iconst 2, 1) := by decide +kernel
theorem dX1_isClosed_25 : decode cX1_isClosed 25 = .ok (.iload_n 1, 1) := by decide +kernel
theorem dX1_isClosed_26 : decode cX1_isClosed 26 = .ok (.invokevirtual 32, 3) := by decide +kernel
theorem dX1_isClosed_29 : decode cX1_isClosed 29 = .ok (.if_icmp .eq 5, 3) := by decide +kernel
theorem dX1_isClosed_32 : decode cX1_isClosed 32 = .ok (.iconst 0, 1) := by decide +kernel
theorem dX1_isClosed_33 : decode cX1_isClosed 33 = .ok (.ireturn, 1) := by decide +kernel
theorem dX1_isClosed_34 : decode cX1_isClosed 34 = .ok (.iinc 1 1, 3) := by decide +kernel
theorem dX1_isClosed_37 : decode cX1_isClosed 37 = .ok (.goto (-35), 3) := by decide +kernel
theorem dX1_isClosed_40 : decode cX1_isClosed 40 = .ok (.iconst 1, 1) := by decide +kernel
theorem dX1_isClosed_41 : decode cX1_isClosed 41 = .ok (.ireturn, 1) := by decide +kernel
theorem dX1_countAs_0 : decode cX1_countAs 0 = .ok (.iconst 0, 1) := by decide +kernel
theorem dX1_countAs_1 : decode cX1_countAs 1 = .ok (.istore_n 3, 1) := by decide +kernel
theorem dX1_countAs_2 : decode cX1_countAs 2 = .ok (.iconst 0, 1) := by decide +kernel
theorem dX1_countAs_3 : decode cX1_countAs 3 = .ok (.istore 4, 2) := by decide +kernel
theorem dX1_countAs_5 : decode cX1_countAs 5 = .ok (.iload 4, 2) := by decide +kernel
theorem dX1_countAs_7 : decode cX1_countAs 7 = .ok (.aload_n 0, 1) := by decide +kernel
theorem dX1_countAs_8 : decode cX1_countAs 8 = .ok (.getfield 15, 3) := by decide +kernel
theorem dX1_countAs_11 : decode cX1_countAs 11 = .ok (.if_icmp .ge 23, 3) := by decide +kernel
theorem dX1_countAs_14 : decode cX1_countAs 14 = .ok (.aload_n 0, 1) := by decide +kernel
theorem dX1_countAs_15 : decode cX1_countAs 15 = .ok (.iload 4, 2) := by decide +kernel
theorem dX1_countAs_17 : decode cX1_countAs 17 = .ok (.iload_n 1, 1) := by decide +kernel
theorem dX1_countAs_18 : decode cX1_countAs 18 = .ok (.invokevirtual 28, 3) := by decide +kernel
theorem dX1_countAs_21 : decode cX1_countAs 21 = .ok (.iload_n 2, 1) := by decide +kernel
theorem dX1_countAs_22 : decode cX1_countAs 22 = .ok (.if_icmp .ne 6, 3) := by decide +kernel
theorem dX1_countAs_25 : decode cX1_countAs 25 = .ok (.iinc 3 1, 3) := by decide +kernel
theorem dX1_countAs_28 : decode cX1_countAs 28 = .ok (.iinc 4 1, 3) := by decide +kernel
theorem dX1_countAs_31 : decode cX1_countAs 31 = .ok (.goto (-26), 3) := by decide +kernel
theorem dX1_countAs_34 : decode cX1_countAs 34 = .ok (.iload_n 3, 1) := by decide +kernel
theorem dX1_countAs_35 : decode cX1_countAs 35 = .ok (.ireturn, 1) := by decide +kernel
theorem dX1_countComponents_0 : decode cX1_countComponents 0 = .ok (.iconst 0, 1) := by decide +kernel
theorem dX1_countComponents_1 : decode cX1_countComponents 1 = .ok (.istore_n 1, 1) := by decide +kernel
theorem dX1_countComponents_2 : decode cX1_countComponents 2 = .ok (.iconst 0, 1) := by decide +kernel
theorem dX1_countComponents_3 : decode cX1_countComponents 3 = .ok (.istore_n 2, 1) := by decide +kernel
theorem dX1_countComponents_4 : decode cX1_countComponents 4 = .ok (.iconst 0, 1) := by decide +kernel
theorem dX1_countComponents_5 : decode cX1_countComponents 5 = .ok (.istore_n 3, 1) := by decide +kernel
theorem dX1_countComponents_6 : decode cX1_countComponents 6 = .ok (.iload_n 3, 1) := by decide +kernel
theorem dX1_countComponents_7 : decode cX1_countComponents 7 = .ok (.aload_n 0, 1) := by decide +kernel
theorem dX1_countComponents_8 : decode cX1_countComponents 8 = .ok (.getfield 9, 3) := by decide +kernel
theorem dX1_countComponents_11 : decode cX1_countComponents 11 = .ok (.if_icmp .ge 28, 3) := by decide +kernel
theorem dX1_countComponents_14 : decode cX1_countComponents 14 = .ok (.iload_n 2, 1) := by decide +kernel
theorem dX1_countComponents_15 : decode cX1_countComponents 15 = .ok (.iload_n 3, 1) := by decide +kernel
theorem dX1_countComponents_16 : decode cX1_countComponents 16 = .ok (.ishr, 1) := by decide +kernel
theorem dX1_countComponents_17 : decode cX1_countComponents 17 = .ok (.iconst 1, 1) := by decide +kernel
theorem dX1_countComponents_18 : decode cX1_countComponents 18 = .ok (.iand, 1) := by decide +kernel
theorem dX1_countComponents_19 : decode cX1_countComponents 19 = .ok (.ifCond .ne 14, 3) := by decide +kernel
theorem dX1_countComponents_22 : decode cX1_countComponents 22 = .ok (.iinc 1 1, 3) := by decide +kernel
theorem dX1_countComponents_25 : decode cX1_countComponents 25 = .ok (.iload_n 2, 1) := by decide +kernel
theorem dX1_countComponents_26 : decode cX1_countComponents 26 = .ok (.aload_n 0, 1) := by decide +kernel
theorem dX1_countComponents_27 : decode cX1_countComponents 27 = .ok (.iload_n 3, 1) := by decide +kernel
theorem dX1_countComponents_28 : decode cX1_countComponents 28 = .ok (.invokevirtual 35, 3) := by decide +kernel
theorem dX1_countComponents_31 : decode cX1_countComponents 31 = .ok (.ior, 1) := by decide +kernel
theorem dX1_countComponents_32 : decode cX1_countComponents 32 = .ok (.istore_n 2, 1) := by decide +kernel
theorem dX1_countComponents_33 : decode cX1_countComponents 33 = .ok (.iinc 3 1, 3) := by decide +kernel
theorem dX1_countComponents_36 : decode cX1_countComponents 36 = .ok (.goto (-30), 3) := by decide +kernel
theorem dX1_countComponents_39 : decode cX1_countComponents 39 = .ok (.iload_n 1, 1) := by decide +kernel
theorem dX1_countComponents_40 : decode cX1_countComponents 40 = .ok (.ireturn, 1) := by decide +kernel
theorem dX1_componentOf_0 : decode cX1_componentOf 0 = .ok (.iconst 1, 1) := by decide +kernel
theorem dX1_componentOf_1 : decode cX1_componentOf 1 = .ok (.iload_n 1, 1) := by decide +kernel
theorem dX1_componentOf_2 : decode cX1_componentOf 2 = .ok (.ishl, 1) := by decide +kernel
theorem dX1_componentOf_3 : decode cX1_componentOf 3 = .ok (.istore_n 2, 1) := by decide +kernel
theorem dX1_componentOf_4 : decode cX1_componentOf 4 = .ok (.iconst 0, 1) := by decide +kernel
theorem dX1_componentOf_5 : decode cX1_componentOf 5 = .ok (.istore_n 3, 1) := by decide +kernel
theorem dX1_componentOf_6 : decode cX1_componentOf 6 = .ok (.iload_n 3, 1) := by decide +kernel
theorem dX1_componentOf_7 : decode cX1_componentOf 7 = .ok (.aload_n 0, 1) := by decide +kernel
theorem dX1_componentOf_8 : decode cX1_componentOf 8 = .ok (.getfield 9, 3) := by decide +kernel
theorem dX1_componentOf_11 : decode cX1_componentOf 11 = .ok (.if_icmp .ge 60, 3) := by decide +kernel
theorem dX1_componentOf_14 : decode cX1_componentOf 14 = .ok (.iconst 0, 1) := by decide +kernel
theorem dX1_componentOf_15 : decode cX1_componentOf 15 = .ok (.istore 4, 2) := by decide +kernel
theorem dX1_componentOf_17 : decode cX1_componentOf 17 = .ok (.iload 4, 2) := by decide +kernel
theorem dX1_componentOf_19 : decode cX1_componentOf 19 = .ok (.aload_n 0, 1) := by decide +kernel
theorem dX1_componentOf_20 : decode cX1_componentOf 20 = .ok (.getfield 15, 3) := by decide +kernel
theorem dX1_componentOf_23 : decode cX1_componentOf 23 = .ok (.if_icmp .ge 42, 3) := by decide +kernel
theorem dX1_componentOf_26 : decode cX1_componentOf 26 = .ok (.iconst 1, 1) := by decide +kernel
theorem dX1_componentOf_27 : decode cX1_componentOf 27 = .ok (.aload_n 0, 1) := by decide +kernel
theorem dX1_componentOf_28 : decode cX1_componentOf 28 = .ok (.iload 4, 2) := by decide +kernel
theorem dX1_componentOf_30 : decode cX1_componentOf 30 = .ok (.iconst 1, 1) := by decide +kernel
theorem dX1_componentOf_31 : decode cX1_componentOf 31 = .ok (.invokevirtual 28, 3) := by decide +kernel
theorem dX1_componentOf_34 : decode cX1_componentOf 34 = .ok (.ishl, 1) := by decide +kernel
theorem dX1_componentOf_35 : decode cX1_componentOf 35 = .ok (.iconst 1, 1) := by decide +kernel
theorem dX1_componentOf_36 : decode cX1_componentOf 36 = .ok (.aload_n 0, 1) := by decide +kernel
theorem dX1_componentOf_37 : decode cX1_componentOf 37 = .ok (.iload 4, 2) := by decide +kernel
theorem dX1_componentOf_39 : decode cX1_componentOf 39 = .ok (.iconst 2, 1) := by decide +kernel
theorem dX1_componentOf_40 : decode cX1_componentOf 40 = .ok (.invokevirtual 28, 3) := by decide +kernel
theorem dX1_componentOf_43 : decode cX1_componentOf 43 = .ok (.ishl, 1) := by decide +kernel
theorem dX1_componentOf_44 : decode cX1_componentOf 44 = .ok (.ior, 1) := by decide +kernel
theorem dX1_componentOf_45 : decode cX1_componentOf 45 = .ok (.istore 5, 2) := by decide +kernel
theorem dX1_componentOf_47 : decode cX1_componentOf 47 = .ok (.iload_n 2, 1) := by decide +kernel
theorem dX1_componentOf_48 : decode cX1_componentOf 48 = .ok (.iload 5, 2) := by decide +kernel
theorem dX1_componentOf_50 : decode cX1_componentOf 50 = .ok (.iand, 1) := by decide +kernel
theorem dX1_componentOf_51 : decode cX1_componentOf 51 = .ok (.ifCond .eq 8, 3) := by decide +kernel
theorem dX1_componentOf_54 : decode cX1_componentOf 54 = .ok (.iload_n 2, 1) := by decide +kernel
theorem dX1_componentOf_55 : decode cX1_componentOf 55 = .ok (.iload 5, 2) := by decide +kernel
theorem dX1_componentOf_57 : decode cX1_componentOf 57 = .ok (.ior, 1) := by decide +kernel
theorem dX1_componentOf_58 : decode cX1_componentOf 58 = .ok (.istore_n 2, 1) := by decide +kernel
theorem dX1_componentOf_59 : decode cX1_componentOf 59 = .ok (.iinc 4 1, 3) := by decide +kernel
theorem dX1_componentOf_62 : decode cX1_componentOf 62 = .ok (.goto (-45), 3) := by decide +kernel
theorem dX1_componentOf_65 : decode cX1_componentOf 65 = .ok (.iinc 3 1, 3) := by decide +kernel
theorem dX1_componentOf_68 : decode cX1_componentOf 68 = .ok (.goto (-62), 3) := by decide +kernel
theorem dX1_componentOf_71 : decode cX1_componentOf 71 = .ok (.iload_n 2, 1) := by decide +kernel
theorem dX1_componentOf_72 : decode cX1_componentOf 72 = .ok (.ireturn, 1) := by decide +kernel
theorem dX1_signSum_0 : decode cX1_signSum 0 = .ok (.iconst 0, 1) := by decide +kernel
theorem dX1_signSum_1 : decode cX1_signSum 1 = .ok (.istore_n 1, 1) := by decide +kernel
theorem dX1_signSum_2 : decode cX1_signSum 2 = .ok (.iconst 0, 1) := by decide +kernel
theorem dX1_signSum_3 : decode cX1_signSum 3 = .ok (.istore_n 2, 1) := by decide +kernel
theorem dX1_signSum_4 : decode cX1_signSum 4 = .ok (.iload_n 2, 1) := by decide +kernel
theorem dX1_signSum_5 : decode cX1_signSum 5 = .ok (.aload_n 0, 1) := by decide +kernel
theorem dX1_signSum_6 : decode cX1_signSum 6 = .ok (.getfield 15, 3) := by decide +kernel
theorem dX1_signSum_9 : decode cX1_signSum 9 = .ok (.if_icmp .ge 18, 3) := by decide +kernel
theorem dX1_signSum_12 : decode cX1_signSum 12 = .ok (.iload_n 1, 1) := by decide +kernel
theorem dX1_signSum_13 : decode cX1_signSum 13 = .ok (.aload_n 0, 1) := by decide +kernel
theorem dX1_signSum_14 : decode cX1_signSum 14 = .ok (.iload_n 2, 1) := by decide +kernel
theorem dX1_signSum_15 : decode cX1_signSum 15 = .ok (.iconst 3, 1) := by decide +kernel
theorem dX1_signSum_16 : decode cX1_signSum 16 = .ok (.invokevirtual 28, 3) := by decide +kernel
theorem dX1_signSum_19 : decode cX1_signSum 19 = .ok (.iadd, 1) := by decide +kernel
theorem dX1_signSum_20 : decode cX1_signSum 20 = .ok (.istore_n 1, 1) := by decide +kernel
theorem dX1_signSum_21 : decode cX1_signSum 21 = .ok (.iinc 2 1, 3) := by decide +kernel
theorem dX1_signSum_24 : decode cX1_signSum 24 = .ok (.goto (-20), 3) := by decide +kernel
theorem dX1_signSum_27 : decode cX1_signSum 27 = .ok (.iload_n 1, 1) := by decide +kernel
theorem dX1_signSum_28 : decode cX1_signSum 28 = .ok (.ireturn, 1) := by decide +kernel
theorem dX1_linkingSum_0 : decode cX1_linkingSum 0 = .ok (.aload_n 0, 1) := by decide +kernel
theorem dX1_linkingSum_1 : decode cX1_linkingSum 1 = .ok (.iload_n 1, 1) := by decide +kernel
theorem dX1_linkingSum_2 : decode cX1_linkingSum 2 = .ok (.invokevirtual 35, 3) := by decide +kernel
theorem dX1_linkingSum_5 : decode cX1_linkingSum 5 = .ok (.istore_n 3, 1) := by decide +kernel
theorem dX1_linkingSum_6 : decode cX1_linkingSum 6 = .ok (.aload_n 0, 1) := by decide +kernel
theorem dX1_linkingSum_7 : decode cX1_linkingSum 7 = .ok (.iload_n 2, 1) := by decide +kernel
theorem dX1_linkingSum_8 : decode cX1_linkingSum 8 = .ok (.invokevirtual 35, 3) := by decide +kernel
theorem dX1_linkingSum_11 : decode cX1_linkingSum 11 = .ok (.istore 4, 2) := by decide +kernel
theorem dX1_linkingSum_13 : decode cX1_linkingSum 13 = .ok (.iconst 0, 1) := by decide +kernel
theorem dX1_linkingSum_14 : decode cX1_linkingSum 14 = .ok (.istore 5, 2) := by decide +kernel
theorem dX1_linkingSum_16 : decode cX1_linkingSum 16 = .ok (.iconst 0, 1) := by decide +kernel
theorem dX1_linkingSum_17 : decode cX1_linkingSum 17 = .ok (.istore 6, 2) := by decide +kernel
theorem dX1_linkingSum_19 : decode cX1_linkingSum 19 = .ok (.iload 6, 2) := by decide +kernel
theorem dX1_linkingSum_21 : decode cX1_linkingSum 21 = .ok (.aload_n 0, 1) := by decide +kernel
theorem dX1_linkingSum_22 : decode cX1_linkingSum 22 = .ok (.getfield 15, 3) := by decide +kernel
theorem dX1_linkingSum_25 : decode cX1_linkingSum 25 = .ok (.if_icmp .ge 52, 3) := by decide +kernel
theorem dX1_linkingSum_28 : decode cX1_linkingSum 28 = .ok (.iload_n 3, 1) := by decide +kernel
theorem dX1_linkingSum_29 : decode cX1_linkingSum 29 = .ok (.aload_n 0, 1) := by decide +kernel
theorem dX1_linkingSum_30 : decode cX1_linkingSum 30 = .ok (.iload 6, 2) := by decide +kernel
theorem dX1_linkingSum_32 : decode cX1_linkingSum 32 = .ok (.iconst 0, 1) := by decide +kernel
theorem dX1_linkingSum_33 : decode cX1_linkingSum 33 = .ok (.invokevirtual 28, 3) := by decide +kernel
theorem dX1_linkingSum_36 : decode cX1_linkingSum 36 = .ok (.ishr, 1) := by decide +kernel
theorem dX1_linkingSum_37 : decode cX1_linkingSum 37 = .ok (.iconst 1, 1) := by decide +kernel
theorem dX1_linkingSum_38 : decode cX1_linkingSum 38 = .ok (.iand, 1) := by decide +kernel
theorem dX1_linkingSum_39 : decode cX1_linkingSum 39 = .ok (.iconst 1, 1) := by decide +kernel
theorem dX1_linkingSum_40 : decode cX1_linkingSum 40 = .ok (.if_icmp .ne 31, 3) := by decide +kernel
theorem dX1_linkingSum_43 : decode cX1_linkingSum 43 = .ok (.iload 4, 2) := by decide +kernel
theorem dX1_linkingSum_45 : decode cX1_linkingSum 45 = .ok (.aload_n 0, 1) := by decide +kernel
theorem dX1_linkingSum_46 : decode cX1_linkingSum 46 = .ok (.iload 6, 2) := by decide +kernel
theorem dX1_linkingSum_48 : decode cX1_linkingSum 48 = .ok (.iconst 1, 1) := by decide +kernel
theorem dX1_linkingSum_49 : decode cX1_linkingSum 49 = .ok (.invokevirtual 28, 3) := by decide +kernel
theorem dX1_linkingSum_52 : decode cX1_linkingSum 52 = .ok (.ishr, 1) := by decide +kernel
theorem dX1_linkingSum_53 : decode cX1_linkingSum 53 = .ok (.iconst 1, 1) := by decide +kernel
theorem dX1_linkingSum_54 : decode cX1_linkingSum 54 = .ok (.iand, 1) := by decide +kernel
theorem dX1_linkingSum_55 : decode cX1_linkingSum 55 = .ok (.iconst 1, 1) := by decide +kernel
theorem dX1_linkingSum_56 : decode cX1_linkingSum 56 = .ok (.if_icmp .ne 15, 3) := by decide +kernel
theorem dX1_linkingSum_59 : decode cX1_linkingSum 59 = .ok (.iload 5, 2) := by decide +kernel
theorem dX1_linkingSum_61 : decode cX1_linkingSum 61 = .ok (.aload_n 0, 1) := by decide +kernel
theorem dX1_linkingSum_62 : decode cX1_linkingSum 62 = .ok (.iload 6, 2) := by decide +kernel
theorem dX1_linkingSum_64 : decode cX1_linkingSum 64 = .ok (.iconst 3, 1) := by decide +kernel
theorem dX1_linkingSum_65 : decode cX1_linkingSum 65 = .ok (.invokevirtual 28, 3) := by decide +kernel
theorem dX1_linkingSum_68 : decode cX1_linkingSum 68 = .ok (.iadd, 1) := by decide +kernel
theorem dX1_linkingSum_69 : decode cX1_linkingSum 69 = .ok (.istore 5, 2) := by decide +kernel
theorem dX1_linkingSum_71 : decode cX1_linkingSum 71 = .ok (.iinc 6 1, 3) := by decide +kernel
theorem dX1_linkingSum_74 : decode cX1_linkingSum 74 = .ok (.goto (-55), 3) := by decide +kernel
theorem dX1_linkingSum_77 : decode cX1_linkingSum 77 = .ok (.iload 5, 2) := by decide +kernel
theorem dX1_linkingSum_79 : decode cX1_linkingSum 79 = .ok (.ireturn, 1) := by decide +kernel
theorem dX2_init_0 : decode cX2_init 0 = .ok (.aload_n 0, 1) := by decide +kernel
theorem dX2_init_1 : decode cX2_init 1 = .ok (.invokespecial 5, 3) := by decide +kernel
theorem dX2_init_4 : decode cX2_init 4 = .ok (.aload_n 0, 1) := by decide +kernel
theorem dX2_init_5 : decode cX2_init 5 = .ok (.iconst 0, 1) := by decide +kernel
theorem dX2_init_6 : decode cX2_init 6 = .ok (.putfield 11, 3) := by decide +kernel
theorem dX2_init_9 : decode cX2_init 9 = .ok (.aload_n 0, 1) := by decide +kernel
theorem dX2_init_10 : decode cX2_init 10 = .ok (.bipush 70, 2) := by decide +kernel
theorem dX2_init_12 : decode cX2_init 12 = .ok (.newarray .char, 2) := by decide +kernel
theorem dX2_init_14 : decode cX2_init 14 = .ok (.putfield 15, 3) := by decide +kernel
theorem dX2_init_17 : decode cX2_init 17 = .ok (.return_, 1) := by decide +kernel
theorem dX3_init_0 : decode cX3_init 0 = .ok (.aload_n 0, 1) := by decide +kernel
theorem dX3_init_1 : decode cX3_init 1 = .ok (.invokespecial 3, 3) := by decide +kernel
theorem dX3_init_4 : decode cX3_init 4 = .ok (.aload_n 0, 1) := by decide +kernel
theorem dX3_init_5 : decode cX3_init 5 = .ok (.iconst 0, 1) := by decide +kernel
theorem dX3_init_6 : decode cX3_init 6 = .ok (.putfield 9, 3) := by decide +kernel
theorem dX3_init_9 : decode cX3_init 9 = .ok (.aload_n 0, 1) := by decide +kernel
theorem dX3_init_10 : decode cX3_init 10 = .ok (.iconst 0, 1) := by decide +kernel
theorem dX3_init_11 : decode cX3_init 11 = .ok (.putfield 15, 3) := by decide +kernel
theorem dX3_init_14 : decode cX3_init 14 = .ok (.aload_n 0, 1) := by decide +kernel
theorem dX3_init_15 : decode cX3_init 15 = .ok (.bipush 6, 2) := by decide +kernel
theorem dX3_init_17 : decode cX3_init 17 = .ok (.anewarray 18, 3) := by decide +kernel
theorem dX3_init_20 : decode cX3_init 20 = .ok (.putfield 20, 3) := by decide +kernel
theorem dX3_init_23 : decode cX3_init 23 = .ok (.aload_n 0, 1) := by decide +kernel
theorem dX3_init_24 : decode cX3_init 24 = .ok (.bipush 6, 2) := by decide +kernel
theorem dX3_init_26 : decode cX3_init 26 = .ok (.anewarray 24, 3) := by decide +kernel
theorem dX3_init_29 : decode cX3_init 29 = .ok (.putfield 26, 3) := by decide +kernel
theorem dX3_init_32 : decode cX3_init 32 = .ok (.iconst 0, 1) := by decide +kernel
theorem dX3_init_33 : decode cX3_init 33 = .ok (.istore_n 1, 1) := by decide +kernel
theorem dX3_init_34 : decode cX3_init 34 = .ok (.iload_n 1, 1) := by decide +kernel
theorem dX3_init_35 : decode cX3_init 35 = .ok (.bipush 6, 2) := by decide +kernel
theorem dX3_init_37 : decode cX3_init 37 = .ok (.if_icmp .ge 35, 3) := by decide +kernel
theorem dX3_init_40 : decode cX3_init 40 = .ok (.aload_n 0, 1) := by decide +kernel
theorem dX3_init_41 : decode cX3_init 41 = .ok (.getfield 20, 3) := by decide +kernel
theorem dX3_init_44 : decode cX3_init 44 = .ok (.iload_n 1, 1) := by decide +kernel
theorem dX3_init_45 : decode cX3_init 45 = .ok (.new 18, 3) := by decide +kernel
theorem dX3_init_48 : decode cX3_init 48 = .ok (.dup, 1) := by decide +kernel
theorem dX3_init_49 : decode cX3_init 49 = .ok (.invokespecial 30, 3) := by decide +kernel
theorem dX3_init_52 : decode cX3_init 52 = .ok (.aastore, 1) := by decide +kernel
theorem dX3_init_53 : decode cX3_init 53 = .ok (.aload_n 0, 1) := by decide +kernel
theorem dX3_init_54 : decode cX3_init 54 = .ok (.getfield 26, 3) := by decide +kernel
theorem dX3_init_57 : decode cX3_init 57 = .ok (.iload_n 1, 1) := by decide +kernel
theorem dX3_init_58 : decode cX3_init 58 = .ok (.new 24, 3) := by decide +kernel
theorem dX3_init_61 : decode cX3_init 61 = .ok (.dup, 1) := by decide +kernel
theorem dX3_init_62 : decode cX3_init 62 = .ok (.invokespecial 31, 3) := by decide +kernel
theorem dX3_init_65 : decode cX3_init 65 = .ok (.aastore, 1) := by decide +kernel
theorem dX3_init_66 : decode cX3_init 66 = .ok (.iinc 1 1, 3) := by decide +kernel
theorem dX3_init_69 : decode cX3_init 69 = .ok (.goto (-35), 3) := by decide +kernel
theorem dX3_init_72 : decode cX3_init 72 = .ok (.return_, 1) := by decide +kernel
theorem dX3_save_0 : decode cX3_save 0 = .ok (.aload_n 0, 1) := by decide +kernel
theorem dX3_save_1 : decode cX3_save 1 = .ok (.getfield 20, 3) := by decide +kernel
theorem dX3_save_4 : decode cX3_save 4 = .ok (.aload_n 0, 1) := by decide +kernel
theorem dX3_save_5 : decode cX3_save 5 = .ok (.getfield 15, 3) := by decide +kernel
theorem dX3_save_8 : decode cX3_save 8 = .ok (.aaload, 1) := by decide +kernel
theorem dX3_save_9 : decode cX3_save 9 = .ok (.aload_n 1, 1) := by decide +kernel
theorem dX3_save_10 : decode cX3_save 10 = .ok (.invokevirtual 32, 3) := by decide +kernel
theorem dX3_save_13 : decode cX3_save 13 = .ok (.aload_n 0, 1) := by decide +kernel
theorem dX3_save_14 : decode cX3_save 14 = .ok (.getfield 26, 3) := by decide +kernel
theorem dX3_save_17 : decode cX3_save 17 = .ok (.aload_n 0, 1) := by decide +kernel
theorem dX3_save_18 : decode cX3_save 18 = .ok (.getfield 15, 3) := by decide +kernel
theorem dX3_save_21 : decode cX3_save 21 = .ok (.aaload, 1) := by decide +kernel
theorem dX3_save_22 : decode cX3_save 22 = .ok (.aload_n 2, 1) := by decide +kernel
theorem dX3_save_23 : decode cX3_save 23 = .ok (.invokevirtual 36, 3) := by decide +kernel
theorem dX3_save_26 : decode cX3_save 26 = .ok (.aload_n 0, 1) := by decide +kernel
theorem dX3_save_27 : decode cX3_save 27 = .ok (.aload_n 0, 1) := by decide +kernel
theorem dX3_save_28 : decode cX3_save 28 = .ok (.getfield 15, 3) := by decide +kernel
theorem dX3_save_31 : decode cX3_save 31 = .ok (.iconst 1, 1) := by decide +kernel
theorem dX3_save_32 : decode cX3_save 32 = .ok (.iadd, 1) := by decide +kernel
theorem dX3_save_33 : decode cX3_save 33 = .ok (.bipush 6, 2) := by decide +kernel
theorem dX3_save_35 : decode cX3_save 35 = .ok (.irem, 1) := by decide +kernel
theorem dX3_save_36 : decode cX3_save 36 = .ok (.putfield 15, 3) := by decide +kernel
theorem dX3_save_39 : decode cX3_save 39 = .ok (.aload_n 0, 1) := by decide +kernel
theorem dX3_save_40 : decode cX3_save 40 = .ok (.aload_n 0, 1) := by decide +kernel
theorem dX3_save_41 : decode cX3_save 41 = .ok (.getfield 9, 3) := by decide +kernel
theorem dX3_save_44 : decode cX3_save 44 = .ok (.iconst 1, 1) := by decide +kernel
theorem dX3_save_45 : decode cX3_save 45 = .ok (.iadd, 1) := by decide +kernel
theorem dX3_save_46 : decode cX3_save 46 = .ok (.bipush 6, 2) := by decide +kernel
theorem dX3_save_48 : decode cX3_save 48 = .ok (.invokestatic 39, 3) := by decide +kernel
theorem dX3_save_51 : decode cX3_save 51 = .ok (.putfield 9, 3) := by decide +kernel
theorem dX3_save_54 : decode cX3_save 54 = .ok (.return_, 1) := by decide +kernel
theorem dX4_init_0 : decode cX4_init 0 = .ok (.aload_n 0, 1) := by decide +kernel
theorem dX4_init_1 : decode cX4_init 1 = .ok (.invokespecial 3, 3) := by decide +kernel
theorem dX4_init_4 : decode cX4_init 4 = .ok (.aload_n 0, 1) := by decide +kernel
theorem dX4_init_5 : decode cX4_init 5 = .ok (.bipush 6, 2) := by decide +kernel
theorem dX4_init_7 : decode cX4_init 7 = .ok (.newarray .int, 2) := by decide +kernel
theorem dX4_init_9 : decode cX4_init 9 = .ok (.putfield 9, 3) := by decide +kernel
theorem dX4_init_12 : decode cX4_init 12 = .ok (.aload_n 0, 1) := by decide +kernel
theorem dX4_init_13 : decode cX4_init 13 = .ok (.bipush 6, 2) := by decide +kernel
theorem dX4_init_15 : decode cX4_init 15 = .ok (.newarray .int, 2) := by decide +kernel
theorem dX4_init_17 : decode cX4_init 17 = .ok (.putfield 15, 3) := by decide +kernel
theorem dX4_init_20 : decode cX4_init 20 = .ok (.aload_n 0, 1) := by decide +kernel
theorem dX4_init_21 : decode cX4_init 21 = .ok (.sipush 720, 3) := by decide +kernel
theorem dX4_init_24 : decode cX4_init 24 = .ok (.newarray .int, 2) := by decide +kernel
theorem dX4_init_26 : decode cX4_init 26 = .ok (.putfield 18, 3) := by decide +kernel
theorem dX4_init_29 : decode cX4_init 29 = .ok (.aload_n 0, 1) := by decide +kernel
theorem dX4_init_30 : decode cX4_init 30 = .ok (.sipush 720, 3) := by decide +kernel
theorem dX4_init_33 : decode cX4_init 33 = .ok (.newarray .boolean, 2) := by decide +kernel
theorem dX4_init_35 : decode cX4_init 35 = .ok (.putfield 21, 3) := by decide +kernel
theorem dX4_init_38 : decode cX4_init 38 = .ok (.return_, 1) := by decide +kernel
theorem dX4_countCompositions_0 : decode cX4_countCompositions 0 = .ok (.aload_n 0, 1) := by decide +kernel
theorem dX4_countCompositions_1 : decode cX4_countCompositions 1 = .ok (.invokevirtual 25, 3) := by decide +kernel
theorem dX4_countCompositions_4 : decode cX4_countCompositions 4 = .ok (.iconst 1, 1) := by decide +kernel
theorem dX4_countCompositions_5 : decode cX4_countCompositions 5 = .ok (.istore_n 2, 1) := by decide +kernel
theorem dX4_countCompositions_6 : decode cX4_countCompositions 6 = .ok (.iconst 0, 1) := by decide +kernel
theorem dX4_countCompositions_7 : decode cX4_countCompositions 7 = .ok (.istore_n 3, 1) := by decide +kernel
theorem dX4_countCompositions_8 : decode cX4_countCompositions 8 = .ok (.iload_n 3, 1) := by decide +kernel
theorem dX4_countCompositions_9 : decode cX4_countCompositions 9 = .ok (.iload_n 2, 1) := by decide +kernel
theorem dX4_countCompositions_10 : decode cX4_countCompositions 10 = .ok (.if_icmp .ge 86, 3) := by decide +kernel
theorem dX4_countCompositions_13 : decode cX4_countCompositions 13 = .ok (.aload_n 0, 1) := by decide +kernel
theorem dX4_countCompositions_14 : decode cX4_countCompositions 14 = .ok (.aload_n 0, 1) := by decide +kernel
theorem dX4_countCompositions_15 : decode cX4_countCompositions 15 = .ok (.getfield 18, 3) := by decide +kernel
theorem dX4_countCompositions_18 : decode cX4_countCompositions 18 = .ok (.iload_n 3, 1) := by decide +kernel
theorem dX4_countCompositions_19 : decode cX4_countCompositions 19 = .ok (.iaload, 1) := by decide +kernel
theorem dX4_countCompositions_20 : decode cX4_countCompositions 20 = .ok (.aload_n 1, 1) := by decide +kernel
theorem dX4_countCompositions_21 : decode cX4_countCompositions 21 = .ok (.getfield 28, 3) := by decide +kernel
theorem dX4_countCompositions_24 : decode cX4_countCompositions 24 = .ok (.invokevirtual 34, 3) := by decide +kernel
theorem dX4_countCompositions_27 : decode cX4_countCompositions 27 = .ok (.iconst 0, 1) := by decide +kernel
theorem dX4_countCompositions_28 : decode cX4_countCompositions 28 = .ok (.istore 4, 2) := by decide +kernel
theorem dX4_countCompositions_30 : decode cX4_countCompositions 30 = .ok (.iload 4, 2) := by decide +kernel
theorem dX4_countCompositions_32 : decode cX4_countCompositions 32 = .ok (.aload_n 1, 1) := by decide +kernel
theorem dX4_countCompositions_33 : decode cX4_countCompositions 33 = .ok (.getfield 28, 3) := by decide +kernel
theorem dX4_countCompositions_36 : decode cX4_countCompositions 36 = .ok (.if_icmp .ge 54, 3) := by decide +kernel
theorem dX4_countCompositions_39 : decode cX4_countCompositions 39 = .ok (.aload_n 0, 1) := by decide +kernel
theorem dX4_countCompositions_40 : decode cX4_countCompositions 40 = .ok (.aload_n 1, 1) := by decide +kernel
theorem dX4_countCompositions_41 : decode cX4_countCompositions 41 = .ok (.iload 4, 2) := by decide +kernel
theorem dX4_countCompositions_43 : decode cX4_countCompositions 43 = .ok (.invokevirtual 38, 3) := by decide +kernel
theorem dX4_countCompositions_46 : decode cX4_countCompositions 46 = .ok (.istore 5, 2) := by decide +kernel
theorem dX4_countCompositions_48 : decode cX4_countCompositions 48 = .ok (.aload_n 0, 1) := by decide +kernel
theorem dX4_countCompositions_49 : decode cX4_countCompositions 49 = .ok (.getfield 21, 3) := by decide +kernel
theorem dX4_countCompositions_52 : decode cX4_countCompositions 52 = .ok (.iload 5, 2) := by decide +kernel
theorem dX4_countCompositions_54 : decode cX4_countCompositions 54 = .ok (.baload, 1) := by decide +kernel
theorem dX4_countCompositions_55 : decode cX4_countCompositions 55 = .ok (.ifCond .ne 29, 3) := by decide +kernel
theorem dX4_countCompositions_58 : decode cX4_countCompositions 58 = .ok (.iload_n 2, 1) := by decide +kernel
theorem dX4_countCompositions_59 : decode cX4_countCompositions 59 = .ok (.sipush 720, 3) := by decide +kernel
theorem dX4_countCompositions_62 : decode cX4_countCompositions 62 = .ok (.if_icmp .ge 22, 3) := by decide +kernel
theorem dX4_countCompositions_65 : decode cX4_countCompositions 65 = .ok (.aload_n 0, 1) := by decide +kernel
theorem dX4_countCompositions_66 : decode cX4_countCompositions 66 = .ok (.getfield 21, 3) := by decide +kernel
theorem dX4_countCompositions_69 : decode cX4_countCompositions 69 = .ok (.iload 5, 2) := by decide +kernel
theorem dX4_countCompositions_71 : decode cX4_countCompositions 71 = .ok (.iconst 1, 1) := by decide +kernel
theorem dX4_countCompositions_72 : decode cX4_countCompositions 72 = .ok (.bastore, 1) := by decide +kernel
theorem dX4_countCompositions_73 : decode cX4_countCompositions 73 = .ok (.aload_n 0, 1) := by decide +kernel
theorem dX4_countCompositions_74 : decode cX4_countCompositions 74 = .ok (.getfield 18, 3) := by decide +kernel
theorem dX4_countCompositions_77 : decode cX4_countCompositions 77 = .ok (.iload_n 2, 1) := by decide +kernel
theorem dX4_countCompositions_78 : decode cX4_countCompositions 78 = .ok (.iload 5, 2) := by decide +kernel
theorem dX4_countCompositions_80 : decode cX4_countCompositions 80 = .ok (.iastore, 1) := by decide +kernel
theorem dX4_countCompositions_81 : decode cX4_countCompositions 81 = .ok (.iinc 2 1, 3) := by decide +kernel
theorem dX4_countCompositions_84 : decode cX4_countCompositions 84 = .ok (.iinc 4 1, 3) := by decide +kernel
theorem dX4_countCompositions_87 : decode cX4_countCompositions 87 = .ok (.goto (-57), 3) := by decide +kernel
theorem dX4_countCompositions_90 : decode cX4_countCompositions 90 = .ok (.iinc 3 1, 3) := by decide +kernel
theorem dX4_countCompositions_93 : decode cX4_countCompositions 93 = .ok (.goto (-85), 3) := by decide +kernel
theorem dX4_countCompositions_96 : decode cX4_countCompositions 96 = .ok (.iload_n 2, 1) := by decide +kernel
theorem dX4_countCompositions_97 : decode cX4_countCompositions 97 = .ok (.ireturn, 1) := by decide +kernel
theorem dX4_startAtIdentity_0 : decode cX4_startAtIdentity 0 = .ok (.iconst 0, 1) := by decide +kernel
theorem dX4_startAtIdentity_1 : decode cX4_startAtIdentity 1 = .ok (.istore_n 1, 1) := by decide +kernel
theorem dX4_startAtIdentity_2 : decode cX4_startAtIdentity 2 = .ok (.iload_n 1, 1) := by decide +kernel
theorem dX4_startAtIdentity_3 : decode cX4_startAtIdentity 3 = .ok (.sipush 720, 3) := by decide +kernel
theorem dX4_startAtIdentity_6 : decode cX4_startAtIdentity 6 = .ok (.if_icmp .ge 16, 3) := by decide +kernel
theorem dX4_startAtIdentity_9 : decode cX4_startAtIdentity 9 = .ok (.aload_n 0, 1) := by decide +kernel
theorem dX4_startAtIdentity_10 : decode cX4_startAtIdentity 10 = .ok (.getfield 21, 3) := by decide +kernel
theorem dX4_startAtIdentity_13 : decode cX4_startAtIdentity 13 = .ok (.iload_n 1, 1) := by decide +kernel
theorem dX4_startAtIdentity_14 : decode cX4_startAtIdentity 14 = .ok (.iconst 0, 1) := by decide +kernel
theorem dX4_startAtIdentity_15 : decode cX4_startAtIdentity 15 = .ok (.bastore, 1) := by decide +kernel
theorem dX4_startAtIdentity_16 : decode cX4_startAtIdentity 16 = .ok (.iinc 1 1, 3) := by decide +kernel
theorem dX4_startAtIdentity_19 : decode cX4_startAtIdentity 19 = .ok (.goto (-17), 3) := by decide +kernel
theorem dX4_startAtIdentity_22 : decode cX4_startAtIdentity 22 = .ok (.aload_n 0, 1) := by decide +kernel
theorem dX4_startAtIdentity_23 : decode cX4_startAtIdentity 23 = .ok (.getfield 21, 3) := by decide +kernel
theorem dX4_startAtIdentity_26 : decode cX4_startAtIdentity 26 = .ok (.iconst 0, 1) := by decide +kernel
theorem dX4_startAtIdentity_27 : decode cX4_startAtIdentity 27 = .ok (.iconst 1, 1) := by decide +kernel
theorem dX4_startAtIdentity_28 : decode cX4_startAtIdentity 28 = .ok (.bastore, 1) := by decide +kernel
theorem dX4_startAtIdentity_29 : decode cX4_startAtIdentity 29 = .ok (.aload_n 0, 1) := by decide +kernel
theorem dX4_startAtIdentity_30 : decode cX4_startAtIdentity 30 = .ok (.getfield 18, 3) := by decide +kernel
theorem dX4_startAtIdentity_33 : decode cX4_startAtIdentity 33 = .ok (.iconst 0, 1) := by decide +kernel
theorem dX4_startAtIdentity_34 : decode cX4_startAtIdentity 34 = .ok (.iconst 0, 1) := by decide +kernel
theorem dX4_startAtIdentity_35 : decode cX4_startAtIdentity 35 = .ok (.iastore, 1) := by decide +kernel
theorem dX4_startAtIdentity_36 : decode cX4_startAtIdentity 36 = .ok (.return_, 1) := by decide +kernel
theorem dX4_rankBehind_0 : decode cX4_rankBehind 0 = .ok (.iconst 0, 1) := by decide +kernel
theorem dX4_rankBehind_1 : decode cX4_rankBehind 1 = .ok (.istore_n 3, 1) := by decide +kernel
theorem dX4_rankBehind_2 : decode cX4_rankBehind 2 = .ok (.iload_n 3, 1) := by decide +kernel
theorem dX4_rankBehind_3 : decode cX4_rankBehind 3 = .ok (.aload_n 1, 1) := by decide +kernel
theorem dX4_rankBehind_4 : decode cX4_rankBehind 4 = .ok (.getfield 28, 3) := by decide +kernel
theorem dX4_rankBehind_7 : decode cX4_rankBehind 7 = .ok (.if_icmp .ge 26, 3) := by decide +kernel
theorem dX4_rankBehind_10 : decode cX4_rankBehind 10 = .ok (.aload_n 0, 1) := by decide +kernel
theorem dX4_rankBehind_11 : decode cX4_rankBehind 11 = .ok (.getfield 15, 3) := by decide +kernel
theorem dX4_rankBehind_14 : decode cX4_rankBehind 14 = .ok (.iload_n 3, 1) := by decide +kernel
theorem dX4_rankBehind_15 : decode cX4_rankBehind 15 = .ok (.aload_n 1, 1) := by decide +kernel
theorem dX4_rankBehind_16 : decode cX4_rankBehind 16 = .ok (.aload_n 0, 1) := by decide +kernel
theorem dX4_rankBehind_17 : decode cX4_rankBehind 17 = .ok (.getfield 9, 3) := by decide +kernel
theorem dX4_rankBehind_20 : decode cX4_rankBehind 20 = .ok (.iload_n 3, 1) := by decide +kernel
theorem dX4_rankBehind_21 : decode cX4_rankBehind 21 = .ok (.iaload, 1) := by decide +kernel
theorem dX4_rankBehind_22 : decode cX4_rankBehind 22 = .ok (.iload_n 2, 1) := by decide +kernel
theorem dX4_rankBehind_23 : decode cX4_rankBehind 23 = .ok (.invokevirtual 42, 3) := by decide +kernel
theorem dX4_rankBehind_26 : decode cX4_rankBehind 26 = .ok (.iastore, 1) := by decide +kernel
theorem dX4_rankBehind_27 : decode cX4_rankBehind 27 = .ok (.iinc 3 1, 3) := by decide +kernel
theorem dX4_rankBehind_30 : decode cX4_rankBehind 30 = .ok (.goto (-28), 3) := by decide +kernel
theorem dX4_rankBehind_33 : decode cX4_rankBehind 33 = .ok (.iconst 0, 1) := by decide +kernel
theorem dX4_rankBehind_34 : decode cX4_rankBehind 34 = .ok (.istore_n 3, 1) := by decide +kernel
theorem dX4_rankBehind_35 : decode cX4_rankBehind 35 = .ok (.iconst 0, 1) := by decide +kernel
theorem dX4_rankBehind_36 : decode cX4_rankBehind 36 = .ok (.istore 4, 2) := by decide +kernel
theorem dX4_rankBehind_38 : decode cX4_rankBehind 38 = .ok (.iload 4, 2) := by decide +kernel
theorem dX4_rankBehind_40 : decode cX4_rankBehind 40 = .ok (.aload_n 1, 1) := by decide +kernel
theorem dX4_rankBehind_41 : decode cX4_rankBehind 41 = .ok (.getfield 28, 3) := by decide +kernel
theorem dX4_rankBehind_44 : decode cX4_rankBehind 44 = .ok (.if_icmp .ge 66, 3) := by decide +kernel
theorem dX4_rankBehind_47 : decode cX4_rankBehind 47 = .ok (.iconst 0, 1) := by decide +kernel
theorem dX4_rankBehind_48 : decode cX4_rankBehind 48 = .ok (.istore 5, 2) := by decide +kernel
theorem dX4_rankBehind_50 : decode cX4_rankBehind 50 = .ok (.iload 4, 2) := by decide +kernel
theorem dX4_rankBehind_52 : decode cX4_rankBehind 52 = .ok (.iconst 1, 1) := by decide +kernel
theorem dX4_rankBehind_53 : decode cX4_rankBehind 53 = .ok (.iadd, 1) := by decide +kernel
theorem dX4_rankBehind_54 : decode cX4_rankBehind 54 = .ok (.istore 6, 2) := by decide +kernel
theorem dX4_rankBehind_56 : decode cX4_rankBehind 56 = .ok (.iload 6, 2) := by decide +kernel
theorem dX4_rankBehind_58 : decode cX4_rankBehind 58 = .ok (.aload_n 1, 1) := by decide +kernel
theorem dX4_rankBehind_59 : decode cX4_rankBehind 59 = .ok (.getfield 28, 3) := by decide +kernel
theorem dX4_rankBehind_62 : decode cX4_rankBehind 62 = .ok (.if_icmp .ge 29, 3) := by decide +kernel
theorem dX4_rankBehind_65 : decode cX4_rankBehind 65 = .ok (.aload_n 0, 1) := by decide +kernel
theorem dX4_rankBehind_66 : decode cX4_rankBehind 66 = .ok (.getfield 15, 3) := by decide +kernel
theorem dX4_rankBehind_69 : decode cX4_rankBehind 69 = .ok (.iload 6, 2) := by decide +kernel
theorem dX4_rankBehind_71 : decode cX4_rankBehind 71 = .ok (.iaload, 1) := by decide +kernel
theorem dX4_rankBehind_72 : decode cX4_rankBehind 72 = .ok (.aload_n 0, 1) := by decide +kernel
theorem dX4_rankBehind_73 : decode cX4_rankBehind 73 = .ok (.getfield 15, 3) := by decide +kernel
theorem dX4_rankBehind_76 : decode cX4_rankBehind 76 = .ok (.iload 4, 2) := by decide +kernel
theorem dX4_rankBehind_78 : decode cX4_rankBehind 78 = .ok (.iaload, 1) := by decide +kernel
theorem dX4_rankBehind_79 : decode cX4_rankBehind 79 = .ok (.if_icmp .ge 6, 3) := by decide +kernel
theorem dX4_rankBehind_82 : decode cX4_rankBehind 82 = .ok (.iinc 5 1, 3) := by decide +kernel
theorem dX4_rankBehind_85 : decode cX4_rankBehind 85 = .ok (.iinc 6 1, 3) := by decide +kernel
theorem dX4_rankBehind_88 : decode cX4_rankBehind 88 = .ok (.goto (-32), 3) := by decide +kernel
theorem dX4_rankBehind_91 : decode cX4_rankBehind 91 = .ok (.iload_n 3, 1) := by decide +kernel
theorem dX4_rankBehind_92 : decode cX4_rankBehind 92 = .ok (.aload_n 1, 1) := by decide +kernel
theorem dX4_rankBehind_93 : decode cX4_rankBehind 93 = .ok (.getfield 28, 3) := by decide +kernel
theorem dX4_rankBehind_96 : decode cX4_rankBehind 96 = .ok (.iload 4, 2) := by decide +kernel
theorem dX4_rankBehind_98 : decode cX4_rankBehind 98 = .ok (.isub, 1) := by decide +kernel
theorem dX4_rankBehind_99 : decode cX4_rankBehind 99 = .ok (.imul, 1) := by decide +kernel
theorem dX4_rankBehind_100 : decode cX4_rankBehind 100 = .ok (.iload 5, 2) := by decide +kernel
theorem dX4_rankBehind_102 : decode cX4_rankBehind 102 = .ok (.iadd, 1) := by decide +kernel
theorem dX4_rankBehind_103 : decode cX4_rankBehind 103 = .ok (.istore_n 3, 1) := by decide +kernel
theorem dX4_rankBehind_104 : decode cX4_rankBehind 104 = .ok (.iinc 4 1, 3) := by decide +kernel
theorem dX4_rankBehind_107 : decode cX4_rankBehind 107 = .ok (.goto (-69), 3) := by decide +kernel
theorem dX4_rankBehind_110 : decode cX4_rankBehind 110 = .ok (.iload_n 3, 1) := by decide +kernel
theorem dX4_rankBehind_111 : decode cX4_rankBehind 111 = .ok (.ireturn, 1) := by decide +kernel
theorem dX4_unrank_0 : decode cX4_unrank 0 = .ok (.iload_n 1, 1) := by decide +kernel
theorem dX4_unrank_1 : decode cX4_unrank 1 = .ok (.istore_n 3, 1) := by decide +kernel
theorem dX4_unrank_2 : decode cX4_unrank 2 = .ok (.iload_n 2, 1) := by decide +kernel
theorem dX4_unrank_3 : decode cX4_unrank 3 = .ok (.iconst 1, 1) := by decide +kernel
theorem dX4_unrank_4 : decode cX4_unrank 4 = .ok (.isub, 1) := by decide +kernel
theorem dX4_unrank_5 : decode cX4_unrank 5 = .ok (.istore 4, 2) := by decide +kernel
theorem dX4_unrank_7 : decode cX4_unrank 7 = .ok (.iload 4, 2) := by decide +kernel
theorem dX4_unrank_9 : decode cX4_unrank 9 = .ok (.ifCond .lt 76, 3) := by decide +kernel
theorem dX4_unrank_12 : decode cX4_unrank 12 = .ok (.iload_n 2, 1) := by decide +kernel
theorem dX4_unrank_13 : decode cX4_unrank 13 = .ok (.iload 4, 2) := by decide +kernel
theorem dX4_unrank_15 : decode cX4_unrank 15 = .ok (.isub, 1) := by decide +kernel
theorem dX4_unrank_16 : decode cX4_unrank 16 = .ok (.istore 5, 2) := by decide +kernel
theorem dX4_unrank_18 : decode cX4_unrank 18 = .ok (.iload_n 3, 1) := by decide +kernel
theorem dX4_unrank_19 : decode cX4_unrank 19 = .ok (.iload 5, 2) := by decide +kernel
theorem dX4_unrank_21 : decode cX4_unrank 21 = .ok (.irem, 1) := by decide +kernel
theorem dX4_unrank_22 : decode cX4_unrank 22 = .ok (.istore 6, 2) := by decide +kernel
theorem dX4_unrank_24 : decode cX4_unrank 24 = .ok (.iload_n 3, 1) := by decide +kernel
theorem dX4_unrank_25 : decode cX4_unrank 25 = .ok (.iload 5, 2) := by decide +kernel
theorem dX4_unrank_27 : decode cX4_unrank 27 = .ok (.idiv, 1) := by decide +kernel
theorem dX4_unrank_28 : decode cX4_unrank 28 = .ok (.istore_n 3, 1) := by decide +kernel
theorem dX4_unrank_29 : decode cX4_unrank 29 = .ok (.aload_n 0, 1) := by decide +kernel
theorem dX4_unrank_30 : decode cX4_unrank 30 = .ok (.getfield 9, 3) := by decide +kernel
theorem dX4_unrank_33 : decode cX4_unrank 33 = .ok (.iload 4, 2) := by decide +kernel
theorem dX4_unrank_35 : decode cX4_unrank 35 = .ok (.iload 6, 2) := by decide +kernel
theorem dX4_unrank_37 : decode cX4_unrank 37 = .ok (.iastore, 1) := by decide +kernel
theorem dX4_unrank_38 : decode cX4_unrank 38 = .ok (.iload 4, 2) := by decide +kernel
theorem dX4_unrank_40 : decode cX4_unrank 40 = .ok (.iconst 1, 1) := by decide +kernel
theorem dX4_unrank_41 : decode cX4_unrank 41 = .ok (.iadd, 1) := by decide +kernel
theorem dX4_unrank_42 : decode cX4_unrank 42 = .ok (.istore 7, 2) := by decide +kernel
theorem dX4_unrank_44 : decode cX4_unrank 44 = .ok (.iload 7, 2) := by decide +kernel
theorem dX4_unrank_46 : decode cX4_unrank 46 = .ok (.iload_n 2, 1) := by decide +kernel
theorem dX4_unrank_47 : decode cX4_unrank 47 = .ok (.if_icmp .ge 32, 3) := by decide +kernel
theorem dX4_unrank_50 : decode cX4_unrank 50 = .ok (.aload_n 0, 1) := by decide +kernel
theorem dX4_unrank_51 : decode cX4_unrank 51 = .ok (.getfield 9, 3) := by decide +kernel
theorem dX4_unrank_54 : decode cX4_unrank 54 = .ok (.iload 7, 2) := by decide +kernel
theorem dX4_unrank_56 : decode cX4_unrank 56 = .ok (.iaload, 1) := by decide +kernel
theorem dX4_unrank_57 : decode cX4_unrank 57 = .ok (.iload 6, 2) := by decide +kernel
theorem dX4_unrank_59 : decode cX4_unrank 59 = .ok (.if_icmp .lt 14, 3) := by decide +kernel
theorem dX4_unrank_62 : decode cX4_unrank 62 = .ok (.aload_n 0, 1) := by decide +kernel
theorem dX4_unrank_63 : decode cX4_unrank 63 = .ok (.getfield 9, 3) := by decide +kernel
theorem dX4_unrank_66 : decode cX4_unrank 66 = .ok (.iload 7, 2) := by decide +kernel
theorem dX4_unrank_68 : decode cX4_unrank 68 = .ok (.dup2, 1) := by decide +kernel
theorem dX4_unrank_69 : decode cX4_unrank 69 = .ok (.iaload, 1) := by decide +kernel
theorem dX4_unrank_70 : decode cX4_unrank 70 = .ok (.iconst 1, 1) := by decide +kernel
theorem dX4_unrank_71 : decode cX4_unrank 71 = .ok (.iadd, 1) := by decide +kernel
theorem dX4_unrank_72 : decode cX4_unrank 72 = .ok (.iastore, 1) := by decide +kernel
theorem dX4_unrank_73 : decode cX4_unrank 73 = .ok (.iinc 7 1, 3) := by decide +kernel
theorem dX4_unrank_76 : decode cX4_unrank 76 = .ok (.goto (-32), 3) := by decide +kernel
theorem dX4_unrank_79 : decode cX4_unrank 79 = .ok (.iinc 4 (-1), 3) := by decide +kernel
theorem dX4_unrank_82 : decode cX4_unrank 82 = .ok (.goto (-75), 3) := by decide +kernel
theorem dX4_unrank_85 : decode cX4_unrank 85 = .ok (.return_, 1) := by decide +kernel
theorem dX4_countAutomorphisms_0 : decode cX4_countAutomorphisms 0 = .ok (.iconst 1, 1) := by decide +kernel
theorem dX4_countAutomorphisms_1 : decode cX4_countAutomorphisms 1 = .ok (.istore_n 2, 1) := by decide +kernel
theorem dX4_countAutomorphisms_2 : decode cX4_countAutomorphisms 2 = .ok (.iconst 2, 1) := by decide +kernel
theorem dX4_countAutomorphisms_3 : decode cX4_countAutomorphisms 3 = .ok (.istore_n 3, 1) := by decide +kernel
theorem dX4_countAutomorphisms_4 : decode cX4_countAutomorphisms 4 = .ok (.iload_n 3, 1) := by decide +kernel
theorem dX4_countAutomorphisms_5 : decode cX4_countAutomorphisms 5 = .ok (.aload_n 1, 1) := by decide +kernel
theorem dX4_countAutomorphisms_6 : decode cX4_countAutomorphisms 6 = .ok (.getfield 28, 3) := by decide +kernel
theorem dX4_countAutomorphisms_9 : decode cX4_countAutomorphisms 9 = .ok (.if_icmp .gt 13, 3) := by decide +kernel
theorem dX4_countAutomorphisms_12 : decode cX4_countAutomorphisms 12 = .ok (.iload_n 2, 1) := by decide +kernel
theorem dX4_countAutomorphisms_13 : decode cX4_countAutomorphisms 13 = .ok (.iload_n 3, 1) := by decide +kernel
theorem dX4_countAutomorphisms_14 : decode cX4_countAutomorphisms 14 = .ok (.imul, 1) := by decide +kernel
theorem dX4_countAutomorphisms_15 : decode cX4_countAutomorphisms 15 = .ok (.istore_n 2, 1) := by decide +kernel
theorem dX4_countAutomorphisms_16 : decode cX4_countAutomorphisms 16 = .ok (.iinc 3 1, 3) := by decide +kernel
theorem dX4_countAutomorphisms_19 : decode cX4_countAutomorphisms 19 = .ok (.goto (-15), 3) := by decide +kernel
theorem dX4_countAutomorphisms_22 : decode cX4_countAutomorphisms 22 = .ok (.iconst 0, 1) := by decide +kernel
theorem dX4_countAutomorphisms_23 : decode cX4_countAutomorphisms 23 = .ok (.istore_n 3, 1) := by decide +kernel
theorem dX4_countAutomorphisms_24 : decode cX4_countAutomorphisms 24 = .ok (.iconst 0, 1) := by decide +kernel
theorem dX4_countAutomorphisms_25 : decode cX4_countAutomorphisms 25 = .ok (.istore 4, 2) := by decide +kernel
theorem dX4_countAutomorphisms_27 : decode cX4_countAutomorphisms 27 = .ok (.iload 4, 2) := by decide +kernel
theorem dX4_countAutomorphisms_29 : decode cX4_countAutomorphisms 29 = .ok (.iload_n 2, 1) := by decide +kernel
theorem dX4_countAutomorphisms_30 : decode cX4_countAutomorphisms 30 = .ok (.if_icmp .ge 30, 3) := by decide +kernel
theorem dX4_countAutomorphisms_33 : decode cX4_countAutomorphisms 33 = .ok (.aload_n 0, 1) := by decide +kernel
theorem dX4_countAutomorphisms_34 : decode cX4_countAutomorphisms 34 = .ok (.iload 4, 2) := by decide +kernel
theorem dX4_countAutomorphisms_36 : decode cX4_countAutomorphisms 36 = .ok (.aload_n 1, 1) := by decide +kernel
theorem dX4_countAutomorphisms_37 : decode cX4_countAutomorphisms 37 = .ok (.getfield 28, 3) := by decide +kernel
theorem dX4_countAutomorphisms_40 : decode cX4_countAutomorphisms 40 = .ok (.invokevirtual 34, 3) := by decide +kernel
theorem dX4_countAutomorphisms_43 : decode cX4_countAutomorphisms 43 = .ok (.aload_n 0, 1) := by decide +kernel
theorem dX4_countAutomorphisms_44 : decode cX4_countAutomorphisms 44 = .ok (.aload_n 1, 1) := by decide +kernel
theorem dX4_countAutomorphisms_45 : decode cX4_countAutomorphisms 45 = .ok (.invokevirtual 46, 3) := by decide +kernel
theorem dX4_countAutomorphisms_48 : decode cX4_countAutomorphisms 48 = .ok (.ifCond .eq 6, 3) := by decide +kernel
theorem dX4_countAutomorphisms_51 : decode cX4_countAutomorphisms 51 = .ok (.iinc 3 1, 3) := by decide +kernel
theorem dX4_countAutomorphisms_54 : decode cX4_countAutomorphisms 54 = .ok (.iinc 4 1, 3) := by decide +kernel
theorem dX4_countAutomorphisms_57 : decode cX4_countAutomorphisms 57 = .ok (.goto (-30), 3) := by decide +kernel
theorem dX4_countAutomorphisms_60 : decode cX4_countAutomorphisms 60 = .ok (.iload_n 3, 1) := by decide +kernel
theorem dX4_countAutomorphisms_61 : decode cX4_countAutomorphisms 61 = .ok (.ireturn, 1) := by decide +kernel
theorem dX4_keepsProducts_0 : decode cX4_keepsProducts 0 = .ok (.iconst 0, 1) := by decide +kernel
theorem dX4_keepsProducts_1 : decode cX4_keepsProducts 1 = .ok (.istore_n 2, 1) := by decide +kernel
theorem dX4_keepsProducts_2 : decode cX4_keepsProducts 2 = .ok (.iload_n 2, 1) := by decide +kernel
theorem dX4_keepsProducts_3 : decode cX4_keepsProducts 3 = .ok (.aload_n 1, 1) := by decide +kernel
theorem dX4_keepsProducts_4 : decode cX4_keepsProducts 4 = .ok (.getfield 28, 3) := by decide +kernel
theorem dX4_keepsProducts_7 : decode cX4_keepsProducts 7 = .ok (.if_icmp .ge 57, 3) := by decide +kernel
theorem dX4_keepsProducts_10 : decode cX4_keepsProducts 10 = .ok (.iconst 0, 1) := by decide +kernel
theorem dX4_keepsProducts_11 : decode cX4_keepsProducts 11 = .ok (.istore_n 3, 1) := by decide +kernel
theorem dX4_keepsProducts_12 : decode cX4_keepsProducts 12 = .ok (.iload_n 3, 1) := by decide +kernel
theorem dX4_keepsProducts_13 : decode cX4_keepsProducts 13 = .ok (.aload_n 1, 1) := by decide +kernel
theorem dX4_keepsProducts_14 : decode cX4_keepsProducts 14 = .ok (.getfield 28, 3) := by decide +kernel
theorem dX4_keepsProducts_17 : decode cX4_keepsProducts 17 = .ok (.if_icmp .ge 41, 3) := by decide +kernel
theorem dX4_keepsProducts_20 : decode cX4_keepsProducts 20 = .ok (.aload_n 0, 1) := by decide +kernel
theorem dX4_keepsProducts_21 : decode cX4_keepsProducts 21 = .ok (.getfield 9, 3) := by decide +kernel
theorem dX4_keepsProducts_24 : decode cX4_keepsProducts 24 = .ok (.aload_n 1, 1) := by decide +kernel
theorem dX4_keepsProducts_25 : decode cX4_keepsProducts 25 = .ok (.iload_n 2, 1) := by decide +kernel
theorem dX4_keepsProducts_26 : decode cX4_keepsProducts 26 = .ok (.iload_n 3, 1) := by decide +kernel
theorem dX4_keepsProducts_27 : decode cX4_keepsProducts 27 = .ok (.invokevirtual 42, 3) := by decide +kernel
theorem dX4_keepsProducts_30 : decode cX4_keepsProducts 30 = .ok (.iaload, 1) := by decide +kernel
theorem dX4_keepsProducts_31 : decode cX4_keepsProducts 31 = .ok (.aload_n 1, 1) := by decide +kernel
theorem dX4_keepsProducts_32 : decode cX4_keepsProducts 32 = .ok (.aload_n 0, 1) := by decide +kernel
theorem dX4_keepsProducts_33 : decode cX4_keepsProducts 33 = .ok (.getfield 9, 3) := by decide +kernel
theorem dX4_keepsProducts_36 : decode cX4_keepsProducts 36 = .ok (.iload_n 2, 1) := by decide +kernel
theorem dX4_keepsProducts_37 : decode cX4_keepsProducts 37 = .ok (.iaload, 1) := by decide +kernel
theorem dX4_keepsProducts_38 : decode cX4_keepsProducts 38 = .ok (.aload_n 0, 1) := by decide +kernel
theorem dX4_keepsProducts_39 : decode cX4_keepsProducts 39 = .ok (.getfield 9, 3) := by decide +kernel
theorem dX4_keepsProducts_42 : decode cX4_keepsProducts 42 = .ok (.iload_n 3, 1) := by decide +kernel
theorem dX4_keepsProducts_43 : decode cX4_keepsProducts 43 = .ok (.iaload, 1) := by decide +kernel
theorem dX4_keepsProducts_44 : decode cX4_keepsProducts 44 = .ok (.invokevirtual 42, 3) := by decide +kernel
theorem dX4_keepsProducts_47 : decode cX4_keepsProducts 47 = .ok (.if_icmp .eq 5, 3) := by decide +kernel
theorem dX4_keepsProducts_50 : decode cX4_keepsProducts 50 = .ok (.iconst 0, 1) := by decide +kernel
theorem dX4_keepsProducts_51 : decode cX4_keepsProducts 51 = .ok (.ireturn, 1) := by decide +kernel
theorem dX4_keepsProducts_52 : decode cX4_keepsProducts 52 = .ok (.iinc 3 1, 3) := by decide +kernel
theorem dX4_keepsProducts_55 : decode cX4_keepsProducts 55 = .ok (.goto (-43), 3) := by decide +kernel
theorem dX4_keepsProducts_58 : decode cX4_keepsProducts 58 = .ok (.iinc 2 1, 3) := by decide +kernel
theorem dX4_keepsProducts_61 : decode cX4_keepsProducts 61 = .ok (.goto (-59), 3) := by decide +kernel
theorem dX4_keepsProducts_64 : decode cX4_keepsProducts 64 = .ok (.iconst 1, 1) := by decide +kernel
theorem dX4_keepsProducts_65 : decode cX4_keepsProducts 65 = .ok (.ireturn, 1) := by decide +kernel
theorem dX5_init_0 : decode cX5_init 0 = .ok (.aload_n 0, 1) := by decide +kernel
theorem dX5_init_1 : decode cX5_init 1 = .ok (.invokespecial 3, 3) := by decide +kernel
theorem dX5_init_4 : decode cX5_init 4 = .ok (.aload_n 0, 1) := by decide +kernel
theorem dX5_init_5 : decode cX5_init 5 = .ok (.iconst 1, 1) := by decide +kernel
theorem dX5_init_6 : decode cX5_init 6 = .ok (.putfield 9, 3) := by decide +kernel
theorem dX5_init_9 : decode cX5_init 9 = .ok (.aload_n 0, 1) := by decide +kernel
theorem dX5_init_10 : decode cX5_init 10 = .ok (.bipush 36, 2) := by decide +kernel
theorem dX5_init_12 : decode cX5_init 12 = .ok (.newarray .int, 2) := by decide +kernel
theorem dX5_init_14 : decode cX5_init 14 = .ok (.putfield 15, 3) := by decide +kernel
theorem dX5_init_17 : decode cX5_init 17 = .ok (.return_, 1) := by decide +kernel
theorem dX5_has_0 : decode cX5_has 0 = .ok (.iload_n 1, 1) := by decide +kernel
theorem dX5_has_1 : decode cX5_has 1 = .ok (.ifCond .lt 15, 3) := by decide +kernel
theorem dX5_has_4 : decode cX5_has 4 = .ok (.iload_n 1, 1) := by decide +kernel
theorem dX5_has_5 : decode cX5_has 5 = .ok (.aload_n 0, 1) := by decide +kernel
theorem dX5_has_6 : decode cX5_has 6 = .ok (.getfield 9, 3) := by decide +kernel
theorem dX5_has_9 : decode cX5_has 9 = .ok (.if_icmp .ge 7, 3) := by decide +kernel
theorem dX5_has_12 : decode cX5_has 12 = .ok (.iconst 1, 1) := by decide +kernel
theorem dX5_has_13 : decode cX5_has 13 = .ok (.goto 4, 3) := by decide +kernel
theorem dX5_has_16 : decode cX5_has 16 = .ok (.iconst 0, 1) := by decide +kernel
theorem dX5_has_17 : decode cX5_has 17 = .ok (.ireturn, 1) := by decide +kernel
theorem dX5_times_0 : decode cX5_times 0 = .ok (.aload_n 0, 1) := by decide +kernel
theorem dX5_times_1 : decode cX5_times 1 = .ok (.getfield 15, 3) := by decide +kernel
theorem dX5_times_4 : decode cX5_times 4 = .ok (.bipush 6, 2) := by decide +kernel
theorem dX5_times_6 : decode cX5_times 6 = .ok (.iload_n 1, 1) := by decide +kernel
theorem dX5_times_7 : decode cX5_times 7 = .ok (.imul, 1) := by decide +kernel
theorem dX5_times_8 : decode cX5_times 8 = .ok (.iload_n 2, 1) := by decide +kernel
theorem dX5_times_9 : decode cX5_times 9 = .ok (.iadd, 1) := by decide +kernel
theorem dX5_times_10 : decode cX5_times 10 = .ok (.iaload, 1) := by decide +kernel
theorem dX5_times_11 : decode cX5_times 11 = .ok (.ireturn, 1) := by decide +kernel
theorem dX5_put_0 : decode cX5_put 0 = .ok (.aload_n 0, 1) := by decide +kernel
theorem dX5_put_1 : decode cX5_put 1 = .ok (.getfield 15, 3) := by decide +kernel
theorem dX5_put_4 : decode cX5_put 4 = .ok (.bipush 6, 2) := by decide +kernel
theorem dX5_put_6 : decode cX5_put 6 = .ok (.iload_n 1, 1) := by decide +kernel
theorem dX5_put_7 : decode cX5_put 7 = .ok (.imul, 1) := by decide +kernel
theorem dX5_put_8 : decode cX5_put 8 = .ok (.iload_n 2, 1) := by decide +kernel
theorem dX5_put_9 : decode cX5_put 9 = .ok (.iadd, 1) := by decide +kernel
theorem dX5_put_10 : decode cX5_put 10 = .ok (.iload_n 3, 1) := by decide +kernel
theorem dX5_put_11 : decode cX5_put 11 = .ok (.iastore, 1) := by decide +kernel
theorem dX5_put_12 : decode cX5_put 12 = .ok (.return_, 1) := by decide +kernel
theorem dX5_copyFrom_0 : decode cX5_copyFrom 0 = .ok (.aload_n 0, 1) := by decide +kernel
theorem dX5_copyFrom_1 : decode cX5_copyFrom 1 = .ok (.aload_n 1, 1) := by decide +kernel
theorem dX5_copyFrom_2 : decode cX5_copyFrom 2 = .ok (.getfield 9, 3) := by decide +kernel
theorem dX5_copyFrom_5 : decode cX5_copyFrom 5 = .ok (.putfield 9, 3) := by decide +kernel
theorem dX5_copyFrom_8 : decode cX5_copyFrom 8 = .ok (.aload_n 1, 1) := by decide +kernel
theorem dX5_copyFrom_9 : decode cX5_copyFrom 9 = .ok (.getfield 15, 3) := by decide +kernel
theorem dX5_copyFrom_12 : decode cX5_copyFrom 12 = .ok (.iconst 0, 1) := by decide +kernel
theorem dX5_copyFrom_13 : decode cX5_copyFrom 13 = .ok (.aload_n 0, 1) := by decide +kernel
theorem dX5_copyFrom_14 : decode cX5_copyFrom 14 = .ok (.getfield 15, 3) := by decide +kernel
theorem dX5_copyFrom_17 : decode cX5_copyFrom 17 = .ok (.iconst 0, 1) := by decide +kernel
theorem dX5_copyFrom_18 : decode cX5_copyFrom 18 = .ok (.aload_n 0, 1) := by decide +kernel
theorem dX5_copyFrom_19 : decode cX5_copyFrom 19 = .ok (.getfield 15, 3) := by decide +kernel
theorem dX5_copyFrom_22 : decode cX5_copyFrom 22 = .ok (.arraylength, 1) := by decide +kernel
theorem dX5_copyFrom_23 : decode cX5_copyFrom 23 = .ok (.invokestatic 19, 3) := by decide +kernel
theorem dX5_copyFrom_26 : decode cX5_copyFrom 26 = .ok (.return_, 1) := by decide +kernel
theorem dX5_fillLinear_0 : decode cX5_fillLinear 0 = .ok (.aload_n 0, 1) := by decide +kernel
theorem dX5_fillLinear_1 : decode cX5_fillLinear 1 = .ok (.iload_n 1, 1) := by decide +kernel
theorem dX5_fillLinear_2 : decode cX5_fillLinear 2 = .ok (.putfield 9, 3) := by decide +kernel
theorem dX5_fillLinear_5 : decode cX5_fillLinear 5 = .ok (.iconst 0, 1) := by decide +kernel
theorem dX5_fillLinear_6 : decode cX5_fillLinear 6 = .ok (.istore_n 3, 1) := by decide +kernel
theorem dX5_fillLinear_7 : decode cX5_fillLinear 7 = .ok (.iload_n 3, 1) := by decide +kernel
theorem dX5_fillLinear_8 : decode cX5_fillLinear 8 = .ok (.iload_n 1, 1) := by decide +kernel
theorem dX5_fillLinear_9 : decode cX5_fillLinear 9 = .ok (.if_icmp .ge 45, 3) := by decide +kernel
theorem dX5_fillLinear_12 : decode cX5_fillLinear 12 = .ok (.iconst 0, 1) := by decide +kernel
theorem dX5_fillLinear_13 : decode cX5_fillLinear 13 = .ok (.istore 4, 2) := by decide +kernel
theorem dX5_fillLinear_15 : decode cX5_fillLinear 15 = .ok (.iload 4, 2) := by decide +kernel
theorem dX5_fillLinear_17 : decode cX5_fillLinear 17 = .ok (.iload_n 1, 1) := by decide +kernel
theorem dX5_fillLinear_18 : decode cX5_fillLinear 18 = .ok (.if_icmp .ge 30, 3) := by decide +kernel
theorem dX5_fillLinear_21 : decode cX5_fillLinear 21 = .ok (.aload_n 0, 1) := by decide +kernel
theorem dX5_fillLinear_22 : decode cX5_fillLinear 22 = .ok (.iload_n 3, 1) := by decide +kernel
theorem dX5_fillLinear_23 : decode cX5_fillLinear 23 = .ok (.iload 4, 2) := by decide +kernel
theorem dX5_fillLinear_25 : decode cX5_fillLinear 25 = .ok (.iload_n 2, 1) := by decide +kernel
theorem dX5_fillLinear_26 : decode cX5_fillLinear 26 = .ok (.iload_n 3, 1) := by decide +kernel
theorem dX5_fillLinear_27 : decode cX5_fillLinear 27 = .ok (.imul, 1) := by decide +kernel
theorem dX5_fillLinear_28 : decode cX5_fillLinear 28 = .ok (.iconst 1, 1) := by decide +kernel
theorem dX5_fillLinear_29 : decode cX5_fillLinear 29 = .ok (.iload_n 2, 1) := by decide +kernel
theorem dX5_fillLinear_30 : decode cX5_fillLinear 30 = .ok (.isub, 1) := by decide +kernel
theorem dX5_fillLinear_31 : decode cX5_fillLinear 31 = .ok (.iload 4, 2) := by decide +kernel
theorem dX5_fillLinear_33 : decode cX5_fillLinear 33 = .ok (.imul, 1) := by decide +kernel
theorem dX5_fillLinear_34 : decode cX5_fillLinear 34 = .ok (.iadd, 1) := by decide +kernel
theorem dX5_fillLinear_35 : decode cX5_fillLinear 35 = .ok (.iload_n 1, 1) := by decide +kernel
theorem dX5_fillLinear_36 : decode cX5_fillLinear 36 = .ok (.invokestatic 25, 3) := by decide +kernel
theorem dX5_fillLinear_39 : decode cX5_fillLinear 39 = .ok (.invokevirtual 31, 3) := by decide +kernel
theorem dX5_fillLinear_42 : decode cX5_fillLinear 42 = .ok (.iinc 4 1, 3) := by decide +kernel
theorem dX5_fillLinear_45 : decode cX5_fillLinear 45 = .ok (.goto (-30), 3) := by decide +kernel
theorem dX5_fillLinear_48 : decode cX5_fillLinear 48 = .ok (.iinc 3 1, 3) := by decide +kernel
theorem dX5_fillLinear_51 : decode cX5_fillLinear 51 = .ok (.goto (-44), 3) := by decide +kernel
theorem dX5_fillLinear_54 : decode cX5_fillLinear 54 = .ok (.return_, 1) := by decide +kernel
theorem dX5_fillTranspositions_0 : decode cX5_fillTranspositions 0 = .ok (.aload_n 0, 1) := by decide +kernel
theorem dX5_fillTranspositions_1 : decode cX5_fillTranspositions 1 = .ok (.iload_n 1, 1) := by decide +kernel
theorem dX5_fillTranspositions_2 : decode cX5_fillTranspositions 2 = .ok (.iload_n 1, 1) := by decide +kernel
theorem dX5_fillTranspositions_3 : decode cX5_fillTranspositions 3 = .ok (.iconst 1, 1) := by decide +kernel
theorem dX5_fillTranspositions_4 : decode cX5_fillTranspositions 4 = .ok (.isub, 1) := by decide +kernel
theorem dX5_fillTranspositions_5 : decode cX5_fillTranspositions 5 = .ok (.imul, 1) := by decide +kernel
theorem dX5_fillTranspositions_6 : decode cX5_fillTranspositions 6 = .ok (.iconst 2, 1) := by decide +kernel
theorem dX5_fillTranspositions_7 : decode cX5_fillTranspositions 7 = .ok (.idiv, 1) := by decide +kernel
theorem dX5_fillTranspositions_8 : decode cX5_fillTranspositions 8 = .ok (.putfield 9, 3) := by decide +kernel
theorem dX5_fillTranspositions_11 : decode cX5_fillTranspositions 11 = .ok (.iconst 0, 1) := by decide +kernel
theorem dX5_fillTranspositions_12 : decode cX5_fillTranspositions 12 = .ok (.istore_n 2, 1) := by decide +kernel
theorem dX5_fillTranspositions_13 : decode cX5_fillTranspositions 13 = .ok (.iload_n 2, 1) := by decide +kernel
theorem dX5_fillTranspositions_14 : decode cX5_fillTranspositions 14 = .ok (.iload_n 1, 1) := by decide +kernel
theorem dX5_fillTranspositions_15 : decode cX5_fillTranspositions 15 = .ok (.if_icmp .ge 31, 3) := by decide +kernel
theorem dX5_fillTranspositions_18 : decode cX5_fillTranspositions 18 = .ok (.iload_n 2, 1) := by decide +kernel
theorem dX5_fillTranspositions_19 : decode cX5_fillTranspositions 19 = .ok (.iconst 1, 1) := by decide +kernel
theorem dX5_fillTranspositions_20 : decode cX5_fillTranspositions 20 = .ok (.iadd, 1) := by decide +kernel
theorem dX5_fillTranspositions_21 : decode cX5_fillTranspositions 21 = .ok (.istore_n 3, 1) := by decide +kernel
theorem dX5_fillTranspositions_22 : decode cX5_fillTranspositions 22 = .ok (.iload_n 3, 1) := by decide +kernel
theorem dX5_fillTranspositions_23 : decode cX5_fillTranspositions 23 = .ok (.iload_n 1, 1) := by decide +kernel
theorem dX5_fillTranspositions_24 : decode cX5_fillTranspositions 24 = .ok (.if_icmp .ge 16, 3) := by decide +kernel
theorem dX5_fillTranspositions_27 : decode cX5_fillTranspositions 27 = .ok (.aload_n 0, 1) := by decide +kernel
theorem dX5_fillTranspositions_28 : decode cX5_fillTranspositions 28 = .ok (.iload_n 2, 1) := by decide +kernel
theorem dX5_fillTranspositions_29 : decode cX5_fillTranspositions 29 = .ok (.iload_n 3, 1) := by decide +kernel
theorem dX5_fillTranspositions_30 : decode cX5_fillTranspositions 30 = .ok (.iload_n 1, 1) := by decide +kernel
theorem dX5_fillTranspositions_31 : decode cX5_fillTranspositions 31 = .ok (.invokevirtual 35, 3) := by decide +kernel
theorem dX5_fillTranspositions_34 : decode cX5_fillTranspositions 34 = .ok (.iinc 3 1, 3) := by decide +kernel
theorem dX5_fillTranspositions_37 : decode cX5_fillTranspositions 37 = .ok (.goto (-15), 3) := by decide +kernel
theorem dX5_fillTranspositions_40 : decode cX5_fillTranspositions 40 = .ok (.iinc 2 1, 3) := by decide +kernel
theorem dX5_fillTranspositions_43 : decode cX5_fillTranspositions 43 = .ok (.goto (-30), 3) := by decide +kernel
theorem dX5_fillTranspositions_46 : decode cX5_fillTranspositions 46 = .ok (.return_, 1) := by decide +kernel
theorem dX5_fillTranslation_0 : decode cX5_fillTranslation 0 = .ok (.iload_n 1, 1) := by decide +kernel
theorem dX5_fillTranslation_1 : decode cX5_fillTranslation 1 = .ok (.iload_n 2, 1) := by decide +kernel
theorem dX5_fillTranslation_2 : decode cX5_fillTranslation 2 = .ok (.iload_n 3, 1) := by decide +kernel
theorem dX5_fillTranslation_3 : decode cX5_fillTranslation 3 = .ok (.invokestatic 38, 3) := by decide +kernel
theorem dX5_fillTranslation_6 : decode cX5_fillTranslation 6 = .ok (.istore 4, 2) := by decide +kernel
theorem dX5_fillTranslation_8 : decode cX5_fillTranslation 8 = .ok (.iconst 0, 1) := by decide +kernel
theorem dX5_fillTranslation_9 : decode cX5_fillTranslation 9 = .ok (.istore 5, 2) := by decide +kernel
theorem dX5_fillTranslation_11 : decode cX5_fillTranslation 11 = .ok (.iload 5, 2) := by decide +kernel
theorem dX5_fillTranslation_13 : decode cX5_fillTranslation 13 = .ok (.iload_n 3, 1) := by decide +kernel
theorem dX5_fillTranslation_14 : decode cX5_fillTranslation 14 = .ok (.if_icmp .ge 77, 3) := by decide +kernel
theorem dX5_fillTranslation_17 : decode cX5_fillTranslation 17 = .ok (.iload 5, 2) := by decide +kernel
theorem dX5_fillTranslation_19 : decode cX5_fillTranslation 19 = .ok (.iconst 1, 1) := by decide +kernel
theorem dX5_fillTranslation_20 : decode cX5_fillTranslation 20 = .ok (.iadd, 1) := by decide +kernel
theorem dX5_fillTranslation_21 : decode cX5_fillTranslation 21 = .ok (.istore 6, 2) := by decide +kernel
theorem dX5_fillTranslation_23 : decode cX5_fillTranslation 23 = .ok (.iload 6, 2) := by decide +kernel
theorem dX5_fillTranslation_25 : decode cX5_fillTranslation 25 = .ok (.iload_n 3, 1) := by decide +kernel
theorem dX5_fillTranslation_26 : decode cX5_fillTranslation 26 = .ok (.if_icmp .ge 59, 3) := by decide +kernel
theorem dX5_fillTranslation_29 : decode cX5_fillTranslation 29 = .ok (.iload 5, 2) := by decide +kernel
theorem dX5_fillTranslation_31 : decode cX5_fillTranslation 31 = .ok (.iload_n 1, 1) := by decide +kernel
theorem dX5_fillTranslation_32 : decode cX5_fillTranslation 32 = .ok (.iload_n 2, 1) := by decide +kernel
theorem dX5_fillTranslation_33 : decode cX5_fillTranslation 33 = .ok (.invokestatic 42, 3) := by decide +kernel
theorem dX5_fillTranslation_36 : decode cX5_fillTranslation 36 = .ok (.istore 7, 2) := by decide +kernel
theorem dX5_fillTranslation_38 : decode cX5_fillTranslation 38 = .ok (.iload 6, 2) := by decide +kernel
theorem dX5_fillTranslation_40 : decode cX5_fillTranslation 40 = .ok (.iload_n 1, 1) := by decide +kernel
theorem dX5_fillTranslation_41 : decode cX5_fillTranslation 41 = .ok (.iload_n 2, 1) := by decide +kernel
theorem dX5_fillTranslation_42 : decode cX5_fillTranslation 42 = .ok (.invokestatic 42, 3) := by decide +kernel
theorem dX5_fillTranslation_45 : decode cX5_fillTranslation 45 = .ok (.istore 8, 2) := by decide +kernel
theorem dX5_fillTranslation_47 : decode cX5_fillTranslation 47 = .ok (.aload_n 0, 1) := by decide +kernel
theorem dX5_fillTranslation_48 : decode cX5_fillTranslation 48 = .ok (.iload 5, 2) := by decide +kernel
theorem dX5_fillTranslation_50 : decode cX5_fillTranslation 50 = .ok (.iload 6, 2) := by decide +kernel
theorem dX5_fillTranslation_52 : decode cX5_fillTranslation 52 = .ok (.iload_n 3, 1) := by decide +kernel
theorem dX5_fillTranslation_53 : decode cX5_fillTranslation 53 = .ok (.invokestatic 38, 3) := by decide +kernel
theorem dX5_fillTranslation_56 : decode cX5_fillTranslation 56 = .ok (.iload 4, 2) := by decide +kernel
theorem dX5_fillTranslation_58 : decode cX5_fillTranslation 58 = .ok (.iload 7, 2) := by decide +kernel
theorem dX5_fillTranslation_60 : decode cX5_fillTranslation 60 = .ok (.iload 8, 2) := by decide +kernel
theorem dX5_fillTranslation_62 : decode cX5_fillTranslation 62 = .ok (.invokestatic 45, 3) := by decide +kernel
theorem dX5_fillTranslation_65 : decode cX5_fillTranslation 65 = .ok (.iload 7, 2) := by decide +kernel
theorem dX5_fillTranslation_67 : decode cX5_fillTranslation 67 = .ok (.iload 8, 2) := by decide +kernel
theorem dX5_fillTranslation_69 : decode cX5_fillTranslation 69 = .ok (.invokestatic 48, 3) := by decide +kernel
theorem dX5_fillTranslation_72 : decode cX5_fillTranslation 72 = .ok (.iload_n 3, 1) := by decide +kernel
theorem dX5_fillTranslation_73 : decode cX5_fillTranslation 73 = .ok (.invokestatic 38, 3) := by decide +kernel
theorem dX5_fillTranslation_76 : decode cX5_fillTranslation 76 = .ok (.invokevirtual 31, 3) := by decide +kernel
theorem dX5_fillTranslation_79 : decode cX5_fillTranslation 79 = .ok (.iinc 6 1, 3) := by decide +kernel
theorem dX5_fillTranslation_82 : decode cX5_fillTranslation 82 = .ok (.goto (-59), 3) := by decide +kernel
theorem dX5_fillTranslation_85 : decode cX5_fillTranslation 85 = .ok (.iinc 5 1, 3) := by decide +kernel
theorem dX5_fillTranslation_88 : decode cX5_fillTranslation 88 = .ok (.goto (-77), 3) := by decide +kernel
theorem dX5_fillTranslation_91 : decode cX5_fillTranslation 91 = .ok (.return_, 1) := by decide +kernel
theorem dX5_pairNumber_0 : decode cX5_pairNumber 0 = .ok (.iload_n 0, 1) := by decide +kernel
theorem dX5_pairNumber_1 : decode cX5_pairNumber 1 = .ok (.iconst 2, 1) := by decide +kernel
theorem dX5_pairNumber_2 : decode cX5_pairNumber 2 = .ok (.iload_n 2, 1) := by decide +kernel
theorem dX5_pairNumber_3 : decode cX5_pairNumber 3 = .ok (.imul, 1) := by decide +kernel
theorem dX5_pairNumber_4 : decode cX5_pairNumber 4 = .ok (.iload_n 0, 1) := by decide +kernel
theorem dX5_pairNumber_5 : decode cX5_pairNumber 5 = .ok (.isub, 1) := by decide +kernel
theorem dX5_pairNumber_6 : decode cX5_pairNumber 6 = .ok (.iconst 1, 1) := by decide +kernel
theorem dX5_pairNumber_7 : decode cX5_pairNumber 7 = .ok (.isub, 1) := by decide +kernel
theorem dX5_pairNumber_8 : decode cX5_pairNumber 8 = .ok (.imul, 1) := by decide +kernel
theorem dX5_pairNumber_9 : decode cX5_pairNumber 9 = .ok (.iconst 2, 1) := by decide +kernel
theorem dX5_pairNumber_10 : decode cX5_pairNumber 10 = .ok (.idiv, 1) := by decide +kernel
theorem dX5_pairNumber_11 : decode cX5_pairNumber 11 = .ok (.iload_n 1, 1) := by decide +kernel
theorem dX5_pairNumber_12 : decode cX5_pairNumber 12 = .ok (.iadd, 1) := by decide +kernel
theorem dX5_pairNumber_13 : decode cX5_pairNumber 13 = .ok (.iload_n 0, 1) := by decide +kernel
theorem dX5_pairNumber_14 : decode cX5_pairNumber 14 = .ok (.isub, 1) := by decide +kernel
theorem dX5_pairNumber_15 : decode cX5_pairNumber 15 = .ok (.iconst 1, 1) := by decide +kernel
theorem dX5_pairNumber_16 : decode cX5_pairNumber 16 = .ok (.isub, 1) := by decide +kernel
theorem dX5_pairNumber_17 : decode cX5_pairNumber 17 = .ok (.ireturn, 1) := by decide +kernel
theorem dX5_swapped_0 : decode cX5_swapped 0 = .ok (.iload_n 0, 1) := by decide +kernel
theorem dX5_swapped_1 : decode cX5_swapped 1 = .ok (.iload_n 1, 1) := by decide +kernel
theorem dX5_swapped_2 : decode cX5_swapped 2 = .ok (.if_icmp .ne 5, 3) := by decide +kernel
theorem dX5_swapped_5 : decode cX5_swapped 5 = .ok (.iload_n 2, 1) := by decide +kernel
theorem dX5_swapped_6 : decode cX5_swapped 6 = .ok (.ireturn, 1) := by decide +kernel
theorem dX5_swapped_7 : decode cX5_swapped 7 = .ok (.iload_n 0, 1) := by decide +kernel
theorem dX5_swapped_8 : decode cX5_swapped 8 = .ok (.iload_n 2, 1) := by decide +kernel
theorem dX5_swapped_9 : decode cX5_swapped 9 = .ok (.if_icmp .ne 7, 3) := by decide +kernel
theorem dX5_swapped_12 : decode cX5_swapped 12 = .ok (.iload_n 1, 1) := by decide +kernel
theorem dX5_swapped_13 : decode cX5_swapped 13 = .ok (.goto 4, 3) := by decide +kernel
theorem dX5_swapped_16 : decode cX5_swapped 16 = .ok (.iload_n 0, 1) := by decide +kernel
theorem dX5_swapped_17 : decode cX5_swapped 17 = .ok (.ireturn, 1) := by decide +kernel
theorem dX5_fillInverse_0 : decode cX5_fillInverse 0 = .ok (.iconst 0, 1) := by decide +kernel
theorem dX5_fillInverse_1 : decode cX5_fillInverse 1 = .ok (.istore_n 2, 1) := by decide +kernel
theorem dX5_fillInverse_2 : decode cX5_fillInverse 2 = .ok (.iconst 0, 1) := by decide +kernel
theorem dX5_fillInverse_3 : decode cX5_fillInverse 3 = .ok (.istore_n 3, 1) := by decide +kernel
theorem dX5_fillInverse_4 : decode cX5_fillInverse 4 = .ok (.iload_n 3, 1) := by decide +kernel
theorem dX5_fillInverse_5 : decode cX5_fillInverse 5 = .ok (.aload_n 0, 1) := by decide +kernel
theorem dX5_fillInverse_6 : decode cX5_fillInverse 6 = .ok (.getfield 9, 3) := by decide +kernel
theorem dX5_fillInverse_9 : decode cX5_fillInverse 9 = .ok (.if_icmp .ge 60, 3) := by decide +kernel
theorem dX5_fillInverse_12 : decode cX5_fillInverse 12 = .ok (.iconst 0, 1) := by decide +kernel
theorem dX5_fillInverse_13 : decode cX5_fillInverse 13 = .ok (.istore 4, 2) := by decide +kernel
theorem dX5_fillInverse_15 : decode cX5_fillInverse 15 = .ok (.iload 4, 2) := by decide +kernel
theorem dX5_fillInverse_17 : decode cX5_fillInverse 17 = .ok (.aload_n 0, 1) := by decide +kernel
theorem dX5_fillInverse_18 : decode cX5_fillInverse 18 = .ok (.getfield 9, 3) := by decide +kernel
theorem dX5_fillInverse_21 : decode cX5_fillInverse 21 = .ok (.if_icmp .ge 42, 3) := by decide +kernel
theorem dX5_fillInverse_24 : decode cX5_fillInverse 24 = .ok (.aload_n 1, 1) := by decide +kernel
theorem dX5_fillInverse_25 : decode cX5_fillInverse 25 = .ok (.iload_n 3, 1) := by decide +kernel
theorem dX5_fillInverse_26 : decode cX5_fillInverse 26 = .ok (.iload 4, 2) := by decide +kernel
theorem dX5_fillInverse_28 : decode cX5_fillInverse 28 = .ok (.invokevirtual 51, 3) := by decide +kernel
theorem dX5_fillInverse_31 : decode cX5_fillInverse 31 = .ok (.istore 5, 2) := by decide +kernel
theorem dX5_fillInverse_33 : decode cX5_fillInverse 33 = .ok (.aload_n 0, 1) := by decide +kernel
theorem dX5_fillInverse_34 : decode cX5_fillInverse 34 = .ok (.iload_n 3, 1) := by decide +kernel
theorem dX5_fillInverse_35 : decode cX5_fillInverse 35 = .ok (.iload 4, 2) := by decide +kernel
theorem dX5_fillInverse_37 : decode cX5_fillInverse 37 = .ok (.iload 5, 2) := by decide +kernel
theorem dX5_fillInverse_39 : decode cX5_fillInverse 39 = .ok (.invokevirtual 31, 3) := by decide +kernel
theorem dX5_fillInverse_42 : decode cX5_fillInverse 42 = .ok (.iload 5, 2) := by decide +kernel
theorem dX5_fillInverse_44 : decode cX5_fillInverse 44 = .ok (.aload_n 1, 1) := by decide +kernel
theorem dX5_fillInverse_45 : decode cX5_fillInverse 45 = .ok (.iload_n 3, 1) := by decide +kernel
theorem dX5_fillInverse_46 : decode cX5_fillInverse 46 = .ok (.iload 4, 2) := by decide +kernel
theorem dX5_fillInverse_48 : decode cX5_fillInverse 48 = .ok (.invokevirtual 54, 3) := by decide +kernel
theorem dX5_fillInverse_51 : decode cX5_fillInverse 51 = .ok (.if_icmp .eq 6, 3) := by decide +kernel
theorem dX5_fillInverse_54 : decode cX5_fillInverse 54 = .ok (.iinc 2 1, 3) := by decide +kernel
theorem dX5_fillInverse_57 : decode cX5_fillInverse 57 = .ok (.iinc 4 1, 3) := by decide +kernel
theorem dX5_fillInverse_60 : decode cX5_fillInverse 60 = .ok (.goto (-45), 3) := by decide +kernel
theorem dX5_fillInverse_63 : decode cX5_fillInverse 63 = .ok (.iinc 3 1, 3) := by decide +kernel
theorem dX5_fillInverse_66 : decode cX5_fillInverse 66 = .ok (.goto (-62), 3) := by decide +kernel
theorem dX5_fillInverse_69 : decode cX5_fillInverse 69 = .ok (.iload_n 2, 1) := by decide +kernel
theorem dX5_fillInverse_70 : decode cX5_fillInverse 70 = .ok (.ireturn, 1) := by decide +kernel
theorem dX5_lowestFactor_0 : decode cX5_lowestFactor 0 = .ok (.iconst 0, 1) := by decide +kernel
theorem dX5_lowestFactor_1 : decode cX5_lowestFactor 1 = .ok (.istore_n 3, 1) := by decide +kernel
theorem dX5_lowestFactor_2 : decode cX5_lowestFactor 2 = .ok (.iload_n 3, 1) := by decide +kernel
theorem dX5_lowestFactor_3 : decode cX5_lowestFactor 3 = .ok (.aload_n 0, 1) := by decide +kernel
theorem dX5_lowestFactor_4 : decode cX5_lowestFactor 4 = .ok (.getfield 9, 3) := by decide +kernel
theorem dX5_lowestFactor_7 : decode cX5_lowestFactor 7 = .ok (.if_icmp .ge 21, 3) := by decide +kernel
theorem dX5_lowestFactor_10 : decode cX5_lowestFactor 10 = .ok (.aload_n 0, 1) := by decide +kernel
theorem dX5_lowestFactor_11 : decode cX5_lowestFactor 11 = .ok (.iload_n 3, 1) := by decide +kernel
theorem dX5_lowestFactor_12 : decode cX5_lowestFactor 12 = .ok (.iload_n 2, 1) := by decide +kernel
theorem dX5_lowestFactor_13 : decode cX5_lowestFactor 13 = .ok (.invokevirtual 54, 3) := by decide +kernel
theorem dX5_lowestFactor_16 : decode cX5_lowestFactor 16 = .ok (.iload_n 1, 1) := by decide +kernel
theorem dX5_lowestFactor_17 : decode cX5_lowestFactor 17 = .ok (.if_icmp .ne 5, 3) := by decide +kernel
theorem dX5_lowestFactor_20 : decode cX5_lowestFactor 20 = .ok (.iload_n 3, 1) := by decide +kernel
theorem dX5_lowestFactor_21 : decode cX5_lowestFactor 21 = .ok (.ireturn, 1) := by decide +kernel
theorem dX5_lowestFactor_22 : decode cX5_lowestFactor 22 = .ok (.iinc 3 1, 3) := by decide +kernel
theorem dX5_lowestFactor_25 : decode cX5_lowestFactor 25 = .ok (.goto (-23), 3) := by decide +kernel
theorem dX5_lowestFactor_28 : decode cX5_lowestFactor 28 = .ok (.bipush (-6), 2) := by decide +kernel
theorem dX5_lowestFactor_30 : decode cX5_lowestFactor 30 = .ok (.ireturn, 1) := by decide +kernel
theorem dX5_firstNotIdempotent_0 : decode cX5_firstNotIdempotent 0 = .ok (.iconst 0, 1) := by decide +kernel
theorem dX5_firstNotIdempotent_1 : decode cX5_firstNotIdempotent 1 = .ok (.istore_n 1, 1) := by decide +kernel
theorem dX5_firstNotIdempotent_2 : decode cX5_firstNotIdempotent 2 = .ok (.iload_n 1, 1) := by decide +kernel
theorem dX5_firstNotIdempotent_3 : decode cX5_firstNotIdempotent 3 = .ok (.aload_n 0, 1) := by decide +kernel
theorem dX5_firstNotIdempotent_4 : decode cX5_firstNotIdempotent 4 = .ok (.getfield 9, 3) := by decide +kernel
theorem dX5_firstNotIdempotent_7 : decode cX5_firstNotIdempotent 7 = .ok (.if_icmp .ge 21, 3) := by decide +kernel
theorem dX5_firstNotIdempotent_10 : decode cX5_firstNotIdempotent 10 = .ok (.aload_n 0, 1) := by decide +kernel
theorem dX5_firstNotIdempotent_11 : decode cX5_firstNotIdempotent 11 = .ok (.iload_n 1, 1) := by decide +kernel
theorem dX5_firstNotIdempotent_12 : decode cX5_firstNotIdempotent 12 = .ok (.iload_n 1, 1) := by decide +kernel
theorem dX5_firstNotIdempotent_13 : decode cX5_firstNotIdempotent 13 = .ok (.invokevirtual 54, 3) := by decide +kernel
theorem dX5_firstNotIdempotent_16 : decode cX5_firstNotIdempotent 16 = .ok (.iload_n 1, 1) := by decide +kernel
theorem dX5_firstNotIdempotent_17 : decode cX5_firstNotIdempotent 17 = .ok (.if_icmp .eq 5, 3) := by decide +kernel
theorem dX5_firstNotIdempotent_20 : decode cX5_firstNotIdempotent 20 = .ok (.iload_n 1, 1) := by decide +kernel
theorem dX5_firstNotIdempotent_21 : decode cX5_firstNotIdempotent 21 = .ok (.ireturn, 1) := by decide +kernel
theorem dX5_firstNotIdempotent_22 : decode cX5_firstNotIdempotent 22 = .ok (.iinc 1 1, 3) := by decide +kernel
theorem dX5_firstNotIdempotent_25 : decode cX5_firstNotIdempotent 25 = .ok (.goto (-23), 3) := by decide +kernel
theorem dX5_firstNotIdempotent_28 : decode cX5_firstNotIdempotent 28 = .ok (.bipush (-6), 2) := by decide +kernel
theorem dX5_firstNotIdempotent_30 : decode cX5_firstNotIdempotent 30 = .ok (.ireturn, 1) := by decide +kernel
theorem dX5_firstNoPermutation_0 : decode cX5_firstNoPermutation 0 = .ok (.iconst 0, 1) := by decide +kernel
theorem dX5_firstNoPermutation_1 : decode cX5_firstNoPermutation 1 = .ok (.istore_n 1, 1) := by decide +kernel
theorem dX5_firstNoPermutation_2 : decode cX5_firstNoPermutation 2 = .ok (.iload_n 1, 1) := by decide +kernel
theorem dX5_firstNoPermutation_3 : decode cX5_firstNoPermutation 3 = .ok (.aload_n 0, 1) := by decide +kernel
theorem dX5_firstNoPermutation_4 : decode cX5_firstNoPermutation 4 = .ok (.getfield 9, 3) := by decide +kernel
theorem dX5_firstNoPermutation_7 : decode cX5_firstNoPermutation 7 = .ok (.if_icmp .ge 19, 3) := by decide +kernel
theorem dX5_firstNoPermutation_10 : decode cX5_firstNoPermutation 10 = .ok (.aload_n 0, 1) := by decide +kernel
theorem dX5_firstNoPermutation_11 : decode cX5_firstNoPermutation 11 = .ok (.iload_n 1, 1) := by decide +kernel
theorem dX5_firstNoPermutation_12 : decode cX5_firstNoPermutation 12 = .ok (.invokevirtual 57, 3) := by decide +kernel
theorem dX5_firstNoPermutation_15 : decode cX5_firstNoPermutation 15 = .ok (.ifCond .ne 5, 3) := by decide +kernel
theorem dX5_firstNoPermutation_18 : decode cX5_firstNoPermutation 18 = .ok (.iload_n 1, 1) := by decide +kernel
theorem dX5_firstNoPermutation_19 : decode cX5_firstNoPermutation 19 = .ok (.ireturn, 1) := by decide +kernel
theorem dX5_firstNoPermutation_20 : decode cX5_firstNoPermutation 20 = .ok (.iinc 1 1, 3) := by decide +kernel
theorem dX5_firstNoPermutation_23 : decode cX5_firstNoPermutation 23 = .ok (.goto (-21), 3) := by decide +kernel
theorem dX5_firstNoPermutation_26 : decode cX5_firstNoPermutation 26 = .ok (.bipush (-6), 2) := by decide +kernel
theorem dX5_firstNoPermutation_28 : decode cX5_firstNoPermutation 28 = .ok (.ireturn, 1) := by decide +kernel
theorem dX5_isPermutation_0 : decode cX5_isPermutation 0 = .ok (.iconst 0, 1) := by decide +kernel
theorem dX5_isPermutation_1 : decode cX5_isPermutation 1 = .ok (.istore_n 2, 1) := by decide +kernel
theorem dX5_isPermutation_2 : decode cX5_isPermutation 2 = .ok (.iconst 0, 1) := by decide +kernel
theorem dX5_isPermutation_3 : decode cX5_isPermutation 3 = .ok (.istore_n 3, 1) := by decide +kernel
theorem dX5_isPermutation_4 : decode cX5_isPermutation 4 = .ok (.iload_n 3, 1) := by decide +kernel
theorem dX5_isPermutation_5 : decode cX5_isPermutation 5 = .ok (.aload_n 0, 1) := by decide +kernel
theorem dX5_isPermutation_6 : decode cX5_isPermutation 6 = .ok (.getfield 9, 3) := by decide +kernel
theorem dX5_isPermutation_9 : decode cX5_isPermutation 9 = .ok (.if_icmp .ge 20, 3) := by decide +kernel
theorem dX5_isPermutation_12 : decode cX5_isPermutation 12 = .ok (.iload_n 2, 1) := by decide +kernel
theorem dX5_isPermutation_13 : decode cX5_isPermutation 13 = .ok (.iconst 1, 1) := by decide +kernel
theorem dX5_isPermutation_14 : decode cX5_isPermutation 14 = .ok (.aload_n 0, 1) := by decide +kernel
theorem dX5_isPermutation_15 : decode cX5_isPermutation 15 = .ok (.iload_n 3, 1) := by decide +kernel
theorem dX5_isPermutation_16 : decode cX5_isPermutation 16 = .ok (.iload_n 1, 1) := by decide +kernel
theorem dX5_isPermutation_17 : decode cX5_isPermutation 17 = .ok (.invokevirtual 54, 3) := by decide +kernel
theorem dX5_isPermutation_20 : decode cX5_isPermutation 20 = .ok (.ishl, 1) := by decide +kernel
theorem dX5_isPermutation_21 : decode cX5_isPermutation 21 = .ok (.ior, 1) := by decide +kernel
theorem dX5_isPermutation_22 : decode cX5_isPermutation 22 = .ok (.istore_n 2, 1) := by decide +kernel
theorem dX5_isPermutation_23 : decode cX5_isPermutation 23 = .ok (.iinc 3 1, 3) := by decide +kernel
theorem dX5_isPermutation_26 : decode cX5_isPermutation 26 = .ok (.goto (-22), 3) := by decide +kernel
theorem dX5_isPermutation_29 : decode cX5_isPermutation 29 = .ok (.iload_n 2, 1) := by decide +kernel
theorem dX5_isPermutation_30 : decode cX5_isPermutation 30 = .ok (.aload_n 0, 1) := by decide +kernel
theorem dX5_isPermutation_31 : decode cX5_isPermutation 31 = .ok (.invokevirtual 61, 3) := by decide +kernel
theorem dX5_isPermutation_34 : decode cX5_isPermutation 34 = .ok (.if_icmp .ne 7, 3) := by decide +kernel
theorem dX5_isPermutation_37 : decode cX5_isPermutation 37 = .ok (.iconst 1, 1) := by decide +kernel
theorem dX5_isPermutation_38 : decode cX5_isPermutation 38 = .ok (.goto 4, 3) := by decide +kernel
theorem dX5_isPermutation_41 : decode cX5_isPermutation 41 = .ok (.iconst 0, 1) := by decide +kernel
theorem dX5_isPermutation_42 : decode cX5_isPermutation 42 = .ok (.ireturn, 1) := by decide +kernel
theorem dX5_firstNotDistributive_0 : decode cX5_firstNotDistributive 0 = .ok (.iconst 0, 1) := by decide +kernel
theorem dX5_firstNotDistributive_1 : decode cX5_firstNotDistributive 1 = .ok (.istore_n 1, 1) := by decide +kernel
theorem dX5_firstNotDistributive_2 : decode cX5_firstNotDistributive 2 = .ok (.iload_n 1, 1) := by decide +kernel
theorem dX5_firstNotDistributive_3 : decode cX5_firstNotDistributive 3 = .ok (.aload_n 0, 1) := by decide +kernel
theorem dX5_firstNotDistributive_4 : decode cX5_firstNotDistributive 4 = .ok (.getfield 9, 3) := by decide +kernel
theorem dX5_firstNotDistributive_7 : decode cX5_firstNotDistributive 7 = .ok (.if_icmp .ge 83, 3) := by decide +kernel
theorem dX5_firstNotDistributive_10 : decode cX5_firstNotDistributive 10 = .ok (.iconst 0, 1) := by decide +kernel
theorem dX5_firstNotDistributive_11 : decode cX5_firstNotDistributive 11 = .ok (.istore_n 2, 1) := by decide +kernel
theorem dX5_firstNotDistributive_12 : decode cX5_firstNotDistributive 12 = .ok (.iload_n 2, 1) := by decide +kernel
theorem dX5_firstNotDistributive_13 : decode cX5_firstNotDistributive 13 = .ok (.aload_n 0, 1) := by decide +kernel
theorem dX5_firstNotDistributive_14 : decode cX5_firstNotDistributive 14 = .ok (.getfield 9, 3) := by decide +kernel
theorem dX5_firstNotDistributive_17 : decode cX5_firstNotDistributive 17 = .ok (.if_icmp .ge 67, 3) := by decide +kernel
theorem dX5_firstNotDistributive_20 : decode cX5_firstNotDistributive 20 = .ok (.iconst 0, 1) := by decide +kernel
theorem dX5_firstNotDistributive_21 : decode cX5_firstNotDistributive 21 = .ok (.istore_n 3, 1) := by decide +kernel
theorem dX5_firstNotDistributive_22 : decode cX5_firstNotDistributive 22 = .ok (.iload_n 3, 1) := by decide +kernel
theorem dX5_firstNotDistributive_23 : decode cX5_firstNotDistributive 23 = .ok (.aload_n 0, 1) := by decide +kernel
theorem dX5_firstNotDistributive_24 : decode cX5_firstNotDistributive 24 = .ok (.getfield 9, 3) := by decide +kernel
theorem dX5_firstNotDistributive_27 : decode cX5_firstNotDistributive 27 = .ok (.if_icmp .ge 51, 3) := by decide +kernel
theorem dX5_firstNotDistributive_30 : decode cX5_firstNotDistributive 30 = .ok (.aload_n 0, 1) := by decide +kernel
theorem dX5_firstNotDistributive_31 : decode cX5_firstNotDistributive 31 = .ok (.aload_n 0, 1) := by decide +kernel
theorem dX5_firstNotDistributive_32 : decode cX5_firstNotDistributive 32 = .ok (.iload_n 1, 1) := by decide +kernel
theorem dX5_firstNotDistributive_33 : decode cX5_firstNotDistributive 33 = .ok (.iload_n 2, 1) := by decide +kernel
theorem dX5_firstNotDistributive_34 : decode cX5_firstNotDistributive 34 = .ok (.invokevirtual 54, 3) := by decide +kernel
theorem dX5_firstNotDistributive_37 : decode cX5_firstNotDistributive 37 = .ok (.iload_n 3, 1) := by decide +kernel
theorem dX5_firstNotDistributive_38 : decode cX5_firstNotDistributive 38 = .ok (.invokevirtual 54, 3) := by decide +kernel
theorem dX5_firstNotDistributive_41 : decode cX5_firstNotDistributive 41 = .ok (.aload_n 0, 1) := by decide +kernel
theorem dX5_firstNotDistributive_42 : decode cX5_firstNotDistributive 42 = .ok (.aload_n 0, 1) := by decide +kernel
theorem dX5_firstNotDistributive_43 : decode cX5_firstNotDistributive 43 = .ok (.iload_n 1, 1) := by decide +kernel
theorem dX5_firstNotDistributive_44 : decode cX5_firstNotDistributive 44 = .ok (.iload_n 3, 1) := by decide +kernel
theorem dX5_firstNotDistributive_45 : decode cX5_firstNotDistributive 45 = .ok (.invokevirtual 54, 3) := by decide +kernel
theorem dX5_firstNotDistributive_48 : decode cX5_firstNotDistributive 48 = .ok (.aload_n 0, 1) := by decide +kernel
theorem dX5_firstNotDistributive_49 : decode cX5_firstNotDistributive 49 = .ok (.iload_n 2, 1) := by decide +kernel
theorem dX5_firstNotDistributive_50 : decode cX5_firstNotDistributive 50 = .ok (.iload_n 3, 1) := by decide +kernel
theorem dX5_firstNotDistributive_51 : decode cX5_firstNotDistributive 51 = .ok (.invokevirtual 54, 3) := by decide +kernel
theorem dX5_firstNotDistributive_54 : decode cX5_firstNotDistributive 54 = .ok (.invokevirtual 54, 3) := by decide +kernel
theorem dX5_firstNotDistributive_57 : decode cX5_firstNotDistributive 57 = .ok (.if_icmp .eq 15, 3) := by decide +kernel
theorem dX5_firstNotDistributive_60 : decode cX5_firstNotDistributive 60 = .ok (.bipush 100, 2) := by decide +kernel
theorem dX5_firstNotDistributive_62 : decode cX5_firstNotDistributive 62 = .ok (.iload_n 1, 1) := by decide +kernel
theorem dX5_firstNotDistributive_63 : decode cX5_firstNotDistributive 63 = .ok (.imul, 1) := by decide +kernel
theorem dX5_firstNotDistributive_64 : decode cX5_firstNotDistributive 64 = .ok (.bipush 10, 2) := by decide +kernel
theorem dX5_firstNotDistributive_66 : decode cX5_firstNotDistributive 66 = .ok (.iload_n 2, 1) := by decide +kernel
theorem dX5_firstNotDistributive_67 : decode cX5_firstNotDistributive 67 = .ok (.imul, 1) := by decide +kernel
theorem dX5_firstNotDistributive_68 : decode cX5_firstNotDistributive 68 = .ok (.iadd, 1) := by decide +kernel
theorem dX5_firstNotDistributive_69 : decode cX5_firstNotDistributive 69 = .ok (.iload_n 3, 1) := by decide +kernel
theorem dX5_firstNotDistributive_70 : decode cX5_firstNotDistributive 70 = .ok (.iadd, 1) := by decide +kernel
theorem dX5_firstNotDistributive_71 : decode cX5_firstNotDistributive 71 = .ok (.ireturn, 1) := by decide +kernel
theorem dX5_firstNotDistributive_72 : decode cX5_firstNotDistributive 72 = .ok (.iinc 3 1, 3) := by decide +kernel
theorem dX5_firstNotDistributive_75 : decode cX5_firstNotDistributive 75 = .ok (.goto (-53), 3) := by decide +kernel
theorem dX5_firstNotDistributive_78 : decode cX5_firstNotDistributive 78 = .ok (.iinc 2 1, 3) := by decide +kernel
theorem dX5_firstNotDistributive_81 : decode cX5_firstNotDistributive 81 = .ok (.goto (-69), 3) := by decide +kernel
theorem dX5_firstNotDistributive_84 : decode cX5_firstNotDistributive 84 = .ok (.iinc 1 1, 3) := by decide +kernel
theorem dX5_firstNotDistributive_87 : decode cX5_firstNotDistributive 87 = .ok (.goto (-85), 3) := by decide +kernel
theorem dX5_firstNotDistributive_90 : decode cX5_firstNotDistributive 90 = .ok (.bipush (-6), 2) := by decide +kernel
theorem dX5_firstNotDistributive_92 : decode cX5_firstNotDistributive 92 = .ok (.ireturn, 1) := by decide +kernel
theorem dX5_allElements_0 : decode cX5_allElements 0 = .ok (.iconst 1, 1) := by decide +kernel
theorem dX5_allElements_1 : decode cX5_allElements 1 = .ok (.aload_n 0, 1) := by decide +kernel
theorem dX5_allElements_2 : decode cX5_allElements 2 = .ok (.getfield 9, 3) := by decide +kernel
theorem dX5_allElements_5 : decode cX5_allElements 5 = .ok (.ishl, 1) := by decide +kernel
theorem dX5_allElements_6 : decode cX5_allElements 6 = .ok (.iconst 1, 1) := by decide +kernel
theorem dX5_allElements_7 : decode cX5_allElements 7 = .ok (.isub, 1) := by decide +kernel
theorem dX5_allElements_8 : decode cX5_allElements 8 = .ok (.ireturn, 1) := by decide +kernel
theorem dX5_reachedFrom_0 : decode cX5_reachedFrom 0 = .ok (.iconst 1, 1) := by decide +kernel
theorem dX5_reachedFrom_1 : decode cX5_reachedFrom 1 = .ok (.iload_n 1, 1) := by decide +kernel
theorem dX5_reachedFrom_2 : decode cX5_reachedFrom 2 = .ok (.ishl, 1) := by decide +kernel
theorem dX5_reachedFrom_3 : decode cX5_reachedFrom 3 = .ok (.istore_n 2, 1) := by decide +kernel
theorem dX5_reachedFrom_4 : decode cX5_reachedFrom 4 = .ok (.iconst 0, 1) := by decide +kernel
theorem dX5_reachedFrom_5 : decode cX5_reachedFrom 5 = .ok (.istore_n 3, 1) := by decide +kernel
theorem dX5_reachedFrom_6 : decode cX5_reachedFrom 6 = .ok (.iload_n 3, 1) := by decide +kernel
theorem dX5_reachedFrom_7 : decode cX5_reachedFrom 7 = .ok (.aload_n 0, 1) := by decide +kernel
theorem dX5_reachedFrom_8 : decode cX5_reachedFrom 8 = .ok (.getfield 9, 3) := by decide +kernel
theorem dX5_reachedFrom_11 : decode cX5_reachedFrom 11 = .ok (.if_icmp .ge 68, 3) := by decide +kernel
theorem dX5_reachedFrom_14 : decode cX5_reachedFrom 14 = .ok (.iconst 0, 1) := by decide +kernel
theorem dX5_reachedFrom_15 : decode cX5_reachedFrom 15 = .ok (.istore 4, 2) := by decide +kernel
theorem dX5_reachedFrom_17 : decode cX5_reachedFrom 17 = .ok (.iload 4, 2) := by decide +kernel
theorem dX5_reachedFrom_19 : decode cX5_reachedFrom 19 = .ok (.aload_n 0, 1) := by decide +kernel
theorem dX5_reachedFrom_20 : decode cX5_reachedFrom 20 = .ok (.getfield 9, 3) := by decide +kernel
theorem dX5_reachedFrom_23 : decode cX5_reachedFrom 23 = .ok (.if_icmp .ge 50, 3) := by decide +kernel
theorem dX5_reachedFrom_26 : decode cX5_reachedFrom 26 = .ok (.iconst 0, 1) := by decide +kernel
theorem dX5_reachedFrom_27 : decode cX5_reachedFrom 27 = .ok (.istore 5, 2) := by decide +kernel
theorem dX5_reachedFrom_29 : decode cX5_reachedFrom 29 = .ok (.iload 5, 2) := by decide +kernel
theorem dX5_reachedFrom_31 : decode cX5_reachedFrom 31 = .ok (.aload_n 0, 1) := by decide +kernel
theorem dX5_reachedFrom_32 : decode cX5_reachedFrom 32 = .ok (.getfield 9, 3) := by decide +kernel
theorem dX5_reachedFrom_35 : decode cX5_reachedFrom 35 = .ok (.if_icmp .ge 32, 3) := by decide +kernel
theorem dX5_reachedFrom_38 : decode cX5_reachedFrom 38 = .ok (.iload_n 2, 1) := by decide +kernel
theorem dX5_reachedFrom_39 : decode cX5_reachedFrom 39 = .ok (.iload 4, 2) := by decide +kernel
theorem dX5_reachedFrom_41 : decode cX5_reachedFrom 41 = .ok (.ishr, 1) := by decide +kernel
theorem dX5_reachedFrom_42 : decode cX5_reachedFrom 42 = .ok (.iconst 1, 1) := by decide +kernel
theorem dX5_reachedFrom_43 : decode cX5_reachedFrom 43 = .ok (.iand, 1) := by decide +kernel
theorem dX5_reachedFrom_44 : decode cX5_reachedFrom 44 = .ok (.iconst 1, 1) := by decide +kernel
theorem dX5_reachedFrom_45 : decode cX5_reachedFrom 45 = .ok (.if_icmp .ne 16, 3) := by decide +kernel
theorem dX5_reachedFrom_48 : decode cX5_reachedFrom 48 = .ok (.iload_n 2, 1) := by decide +kernel
theorem dX5_reachedFrom_49 : decode cX5_reachedFrom 49 = .ok (.iconst 1, 1) := by decide +kernel
theorem dX5_reachedFrom_50 : decode cX5_reachedFrom 50 = .ok (.aload_n 0, 1) := by decide +kernel
theorem dX5_reachedFrom_51 : decode cX5_reachedFrom 51 = .ok (.iload 4, 2) := by decide +kernel
theorem dX5_reachedFrom_53 : decode cX5_reachedFrom 53 = .ok (.iload 5, 2) := by decide +kernel
theorem dX5_reachedFrom_55 : decode cX5_reachedFrom 55 = .ok (.invokevirtual 54, 3) := by decide +kernel
theorem dX5_reachedFrom_58 : decode cX5_reachedFrom 58 = .ok (.ishl, 1) := by decide +kernel
theorem dX5_reachedFrom_59 : decode cX5_reachedFrom 59 = .ok (.ior, 1) := by decide +kernel
theorem dX5_reachedFrom_60 : decode cX5_reachedFrom 60 = .ok (.istore_n 2, 1) := by decide +kernel
theorem dX5_reachedFrom_61 : decode cX5_reachedFrom 61 = .ok (.iinc 5 1, 3) := by decide +kernel
theorem dX5_reachedFrom_64 : decode cX5_reachedFrom 64 = .ok (.goto (-35), 3) := by decide +kernel
theorem dX5_reachedFrom_67 : decode cX5_reachedFrom 67 = .ok (.iinc 4 1, 3) := by decide +kernel
theorem dX5_reachedFrom_70 : decode cX5_reachedFrom 70 = .ok (.goto (-53), 3) := by decide +kernel
theorem dX5_reachedFrom_73 : decode cX5_reachedFrom 73 = .ok (.iinc 3 1, 3) := by decide +kernel
theorem dX5_reachedFrom_76 : decode cX5_reachedFrom 76 = .ok (.goto (-70), 3) := by decide +kernel
theorem dX5_reachedFrom_79 : decode cX5_reachedFrom 79 = .ok (.iload_n 2, 1) := by decide +kernel
theorem dX5_reachedFrom_80 : decode cX5_reachedFrom 80 = .ok (.ireturn, 1) := by decide +kernel
theorem dX5_countComponents_0 : decode cX5_countComponents 0 = .ok (.iconst 0, 1) := by decide +kernel
theorem dX5_countComponents_1 : decode cX5_countComponents 1 = .ok (.istore_n 1, 1) := by decide +kernel
theorem dX5_countComponents_2 : decode cX5_countComponents 2 = .ok (.iconst 0, 1) := by decide +kernel
theorem dX5_countComponents_3 : decode cX5_countComponents 3 = .ok (.istore_n 2, 1) := by decide +kernel
theorem dX5_countComponents_4 : decode cX5_countComponents 4 = .ok (.iconst 0, 1) := by decide +kernel
theorem dX5_countComponents_5 : decode cX5_countComponents 5 = .ok (.istore_n 3, 1) := by decide +kernel
theorem dX5_countComponents_6 : decode cX5_countComponents 6 = .ok (.iload_n 3, 1) := by decide +kernel
theorem dX5_countComponents_7 : decode cX5_countComponents 7 = .ok (.aload_n 0, 1) := by decide +kernel
theorem dX5_countComponents_8 : decode cX5_countComponents 8 = .ok (.getfield 9, 3) := by decide +kernel
theorem dX5_countComponents_11 : decode cX5_countComponents 11 = .ok (.if_icmp .ge 28, 3) := by decide +kernel
theorem dX5_countComponents_14 : decode cX5_countComponents 14 = .ok (.iload_n 2, 1) := by decide +kernel
theorem dX5_countComponents_15 : decode cX5_countComponents 15 = .ok (.iload_n 3, 1) := by decide +kernel
theorem dX5_countComponents_16 : decode cX5_countComponents 16 = .ok (.ishr, 1) := by decide +kernel
theorem dX5_countComponents_17 : decode cX5_countComponents 17 = .ok (.iconst 1, 1) := by decide +kernel
theorem dX5_countComponents_18 : decode cX5_countComponents 18 = .ok (.iand, 1) := by decide +kernel
theorem dX5_countComponents_19 : decode cX5_countComponents 19 = .ok (.ifCond .ne 14, 3) := by decide +kernel
theorem dX5_countComponents_22 : decode cX5_countComponents 22 = .ok (.iinc 1 1, 3) := by decide +kernel
theorem dX5_countComponents_25 : decode cX5_countComponents 25 = .ok (.iload_n 2, 1) := by decide +kernel
theorem dX5_countComponents_26 : decode cX5_countComponents 26 = .ok (.aload_n 0, 1) := by decide +kernel
theorem dX5_countComponents_27 : decode cX5_countComponents 27 = .ok (.iload_n 3, 1) := by decide +kernel
theorem dX5_countComponents_28 : decode cX5_countComponents 28 = .ok (.invokevirtual 65, 3) := by decide +kernel
theorem dX5_countComponents_31 : decode cX5_countComponents 31 = .ok (.ior, 1) := by decide +kernel
theorem dX5_countComponents_32 : decode cX5_countComponents 32 = .ok (.istore_n 2, 1) := by decide +kernel
theorem dX5_countComponents_33 : decode cX5_countComponents 33 = .ok (.iinc 3 1, 3) := by decide +kernel
theorem dX5_countComponents_36 : decode cX5_countComponents 36 = .ok (.goto (-30), 3) := by decide +kernel
theorem dX5_countComponents_39 : decode cX5_countComponents 39 = .ok (.iload_n 1, 1) := by decide +kernel
theorem dX5_countComponents_40 : decode cX5_countComponents 40 = .ok (.ireturn, 1) := by decide +kernel
theorem dX5_componentOf_0 : decode cX5_componentOf 0 = .ok (.iconst 1, 1) := by decide +kernel
theorem dX5_componentOf_1 : decode cX5_componentOf 1 = .ok (.iload_n 1, 1) := by decide +kernel
theorem dX5_componentOf_2 : decode cX5_componentOf 2 = .ok (.ishl, 1) := by decide +kernel
theorem dX5_componentOf_3 : decode cX5_componentOf 3 = .ok (.istore_n 2, 1) := by decide +kernel
theorem dX5_componentOf_4 : decode cX5_componentOf 4 = .ok (.iconst 0, 1) := by decide +kernel
theorem dX5_componentOf_5 : decode cX5_componentOf 5 = .ok (.istore_n 3, 1) := by decide +kernel
theorem dX5_componentOf_6 : decode cX5_componentOf 6 = .ok (.iload_n 3, 1) := by decide +kernel
theorem dX5_componentOf_7 : decode cX5_componentOf 7 = .ok (.aload_n 0, 1) := by decide +kernel
theorem dX5_componentOf_8 : decode cX5_componentOf 8 = .ok (.getfield 9, 3) := by decide +kernel
theorem dX5_componentOf_11 : decode cX5_componentOf 11 = .ok (.if_icmp .ge 74, 3) := by decide +kernel
theorem dX5_componentOf_14 : decode cX5_componentOf 14 = .ok (.iconst 0, 1) := by decide +kernel
theorem dX5_componentOf_15 : decode cX5_componentOf 15 = .ok (.istore 4, 2) := by decide +kernel
theorem dX5_componentOf_17 : decode cX5_componentOf 17 = .ok (.iload 4, 2) := by decide +kernel
theorem dX5_componentOf_19 : decode cX5_componentOf 19 = .ok (.aload_n 0, 1) := by decide +kernel
theorem dX5_componentOf_20 : decode cX5_componentOf 20 = .ok (.getfield 9, 3) := by decide +kernel
theorem dX5_componentOf_23 : decode cX5_componentOf 23 = .ok (.if_icmp .ge 56, 3) := by decide +kernel
theorem dX5_componentOf_26 : decode cX5_componentOf 26 = .ok (.iconst 0, 1) := by decide +kernel
theorem dX5_componentOf_27 : decode cX5_componentOf 27 = .ok (.istore 5, 2) := by decide +kernel
theorem dX5_componentOf_29 : decode cX5_componentOf 29 = .ok (.iload 5, 2) := by decide +kernel
theorem dX5_componentOf_31 : decode cX5_componentOf 31 = .ok (.aload_n 0, 1) := by decide +kernel
theorem dX5_componentOf_32 : decode cX5_componentOf 32 = .ok (.getfield 9, 3) := by decide +kernel
theorem dX5_componentOf_35 : decode cX5_componentOf 35 = .ok (.if_icmp .ge 38, 3) := by decide +kernel
theorem dX5_componentOf_38 : decode cX5_componentOf 38 = .ok (.iconst 1, 1) := by decide +kernel
theorem dX5_componentOf_39 : decode cX5_componentOf 39 = .ok (.iload 4, 2) := by decide +kernel
theorem dX5_componentOf_41 : decode cX5_componentOf 41 = .ok (.ishl, 1) := by decide +kernel
theorem dX5_componentOf_42 : decode cX5_componentOf 42 = .ok (.iconst 1, 1) := by decide +kernel
theorem dX5_componentOf_43 : decode cX5_componentOf 43 = .ok (.aload_n 0, 1) := by decide +kernel
theorem dX5_componentOf_44 : decode cX5_componentOf 44 = .ok (.iload 4, 2) := by decide +kernel
theorem dX5_componentOf_46 : decode cX5_componentOf 46 = .ok (.iload 5, 2) := by decide +kernel
theorem dX5_componentOf_48 : decode cX5_componentOf 48 = .ok (.invokevirtual 54, 3) := by decide +kernel
theorem dX5_componentOf_51 : decode cX5_componentOf 51 = .ok (.ishl, 1) := by decide +kernel
theorem dX5_componentOf_52 : decode cX5_componentOf 52 = .ok (.ior, 1) := by decide +kernel
theorem dX5_componentOf_53 : decode cX5_componentOf 53 = .ok (.istore 6, 2) := by decide +kernel
theorem dX5_componentOf_55 : decode cX5_componentOf 55 = .ok (.iload_n 2, 1) := by decide +kernel
theorem dX5_componentOf_56 : decode cX5_componentOf 56 = .ok (.iload 6, 2) := by decide +kernel
theorem dX5_componentOf_58 : decode cX5_componentOf 58 = .ok (.iand, 1) := by decide +kernel
theorem dX5_componentOf_59 : decode cX5_componentOf 59 = .ok (.ifCond .eq 8, 3) := by decide +kernel
theorem dX5_componentOf_62 : decode cX5_componentOf 62 = .ok (.iload_n 2, 1) := by decide +kernel
theorem dX5_componentOf_63 : decode cX5_componentOf 63 = .ok (.iload 6, 2) := by decide +kernel
theorem dX5_componentOf_65 : decode cX5_componentOf 65 = .ok (.ior, 1) := by decide +kernel
theorem dX5_componentOf_66 : decode cX5_componentOf 66 = .ok (.istore_n 2, 1) := by decide +kernel
theorem dX5_componentOf_67 : decode cX5_componentOf 67 = .ok (.iinc 5 1, 3) := by decide +kernel
theorem dX5_componentOf_70 : decode cX5_componentOf 70 = .ok (.goto (-41), 3) := by decide +kernel
theorem dX5_componentOf_73 : decode cX5_componentOf 73 = .ok (.iinc 4 1, 3) := by decide +kernel
theorem dX5_componentOf_76 : decode cX5_componentOf 76 = .ok (.goto (-59), 3) := by decide +kernel
theorem dX5_componentOf_79 : decode cX5_componentOf 79 = .ok (.iinc 3 1, 3) := by decide +kernel
theorem dX5_componentOf_82 : decode cX5_componentOf 82 = .ok (.goto (-76), 3) := by decide +kernel
theorem dX5_componentOf_85 : decode cX5_componentOf 85 = .ok (.iload_n 2, 1) := by decide +kernel
theorem dX5_componentOf_86 : decode cX5_componentOf 86 = .ok (.ireturn, 1) := by decide +kernel
theorem dX5_closureOf_0 : decode cX5_closureOf 0 = .ok (.iload_n 1, 1) := by decide +kernel
theorem dX5_closureOf_1 : decode cX5_closureOf 1 = .ok (.istore_n 2, 1) := by decide +kernel
theorem dX5_closureOf_2 : decode cX5_closureOf 2 = .ok (.iconst 0, 1) := by decide +kernel
theorem dX5_closureOf_3 : decode cX5_closureOf 3 = .ok (.istore_n 3, 1) := by decide +kernel
theorem dX5_closureOf_4 : decode cX5_closureOf 4 = .ok (.iload_n 3, 1) := by decide +kernel
theorem dX5_closureOf_5 : decode cX5_closureOf 5 = .ok (.aload_n 0, 1) := by decide +kernel
theorem dX5_closureOf_6 : decode cX5_closureOf 6 = .ok (.getfield 9, 3) := by decide +kernel
theorem dX5_closureOf_9 : decode cX5_closureOf 9 = .ok (.if_icmp .ge 78, 3) := by decide +kernel
theorem dX5_closureOf_12 : decode cX5_closureOf 12 = .ok (.iconst 0, 1) := by decide +kernel
theorem dX5_closureOf_13 : decode cX5_closureOf 13 = .ok (.istore 4, 2) := by decide +kernel
theorem dX5_closureOf_15 : decode cX5_closureOf 15 = .ok (.iload 4, 2) := by decide +kernel
theorem dX5_closureOf_17 : decode cX5_closureOf 17 = .ok (.aload_n 0, 1) := by decide +kernel
theorem dX5_closureOf_18 : decode cX5_closureOf 18 = .ok (.getfield 9, 3) := by decide +kernel
theorem dX5_closureOf_21 : decode cX5_closureOf 21 = .ok (.if_icmp .ge 60, 3) := by decide +kernel
theorem dX5_closureOf_24 : decode cX5_closureOf 24 = .ok (.iconst 0, 1) := by decide +kernel
theorem dX5_closureOf_25 : decode cX5_closureOf 25 = .ok (.istore 5, 2) := by decide +kernel
theorem dX5_closureOf_27 : decode cX5_closureOf 27 = .ok (.iload 5, 2) := by decide +kernel
theorem dX5_closureOf_29 : decode cX5_closureOf 29 = .ok (.aload_n 0, 1) := by decide +kernel
theorem dX5_closureOf_30 : decode cX5_closureOf 30 = .ok (.getfield 9, 3) := by decide +kernel
theorem dX5_closureOf_33 : decode cX5_closureOf 33 = .ok (.if_icmp .ge 42, 3) := by decide +kernel
theorem dX5_closureOf_36 : decode cX5_closureOf 36 = .ok (.iload_n 2, 1) := by decide +kernel
theorem dX5_closureOf_37 : decode cX5_closureOf 37 = .ok (.iload 4, 2) := by decide +kernel
theorem dX5_closureOf_39 : decode cX5_closureOf 39 = .ok (.ishr, 1) := by decide +kernel
theorem dX5_closureOf_40 : decode cX5_closureOf 40 = .ok (.iconst 1, 1) := by decide +kernel
theorem dX5_closureOf_41 : decode cX5_closureOf 41 = .ok (.iand, 1) := by decide +kernel
theorem dX5_closureOf_42 : decode cX5_closureOf 42 = .ok (.iconst 1, 1) := by decide +kernel
theorem dX5_closureOf_43 : decode cX5_closureOf 43 = .ok (.if_icmp .ne 26, 3) := by decide +kernel
theorem dX5_closureOf_46 : decode cX5_closureOf 46 = .ok (.iload_n 2, 1) := by decide +kernel
theorem dX5_closureOf_47 : decode cX5_closureOf 47 = .ok (.iload 5, 2) := by decide +kernel
theorem dX5_closureOf_49 : decode cX5_closureOf 49 = .ok (.ishr, 1) := by decide +kernel
theorem dX5_closureOf_50 : decode cX5_closureOf 50 = .ok (.iconst 1, 1) := by decide +kernel
theorem dX5_closureOf_51 : decode cX5_closureOf 51 = .ok (.iand, 1) := by decide +kernel
theorem dX5_closureOf_52 : decode cX5_closureOf 52 = .ok (.iconst 1, 1) := by decide +kernel
theorem dX5_closureOf_53 : decode cX5_closureOf 53 = .ok (.if_icmp .ne 16, 3) := by decide +kernel
theorem dX5_closureOf_56 : decode cX5_closureOf 56 = .ok (.iload_n 2, 1) := by decide +kernel
theorem dX5_closureOf_57 : decode cX5_closureOf 57 = .ok (.iconst 1, 1) := by decide +kernel
theorem dX5_closureOf_58 : decode cX5_closureOf 58 = .ok (.aload_n 0, 1) := by decide +kernel
theorem dX5_closureOf_59 : decode cX5_closureOf 59 = .ok (.iload 4, 2) := by decide +kernel
theorem dX5_closureOf_61 : decode cX5_closureOf 61 = .ok (.iload 5, 2) := by decide +kernel
theorem dX5_closureOf_63 : decode cX5_closureOf 63 = .ok (.invokevirtual 54, 3) := by decide +kernel
theorem dX5_closureOf_66 : decode cX5_closureOf 66 = .ok (.ishl, 1) := by decide +kernel
theorem dX5_closureOf_67 : decode cX5_closureOf 67 = .ok (.ior, 1) := by decide +kernel
theorem dX5_closureOf_68 : decode cX5_closureOf 68 = .ok (.istore_n 2, 1) := by decide +kernel
theorem dX5_closureOf_69 : decode cX5_closureOf 69 = .ok (.iinc 5 1, 3) := by decide +kernel
theorem dX5_closureOf_72 : decode cX5_closureOf 72 = .ok (.goto (-45), 3) := by decide +kernel
theorem dX5_closureOf_75 : decode cX5_closureOf 75 = .ok (.iinc 4 1, 3) := by decide +kernel
theorem dX5_closureOf_78 : decode cX5_closureOf 78 = .ok (.goto (-63), 3) := by decide +kernel
theorem dX5_closureOf_81 : decode cX5_closureOf 81 = .ok (.iinc 3 1, 3) := by decide +kernel
theorem dX5_closureOf_84 : decode cX5_closureOf 84 = .ok (.goto (-80), 3) := by decide +kernel
theorem dX5_closureOf_87 : decode cX5_closureOf 87 = .ok (.iload_n 2, 1) := by decide +kernel
theorem dX5_closureOf_88 : decode cX5_closureOf 88 = .ok (.ireturn, 1) := by decide +kernel
theorem dX5_leastGenerators_0 : decode cX5_leastGenerators 0 = .ok (.aload_n 0, 1) := by decide +kernel
theorem dX5_leastGenerators_1 : decode cX5_leastGenerators 1 = .ok (.getfield 9, 3) := by decide +kernel
theorem dX5_leastGenerators_4 : decode cX5_leastGenerators 4 = .ok (.istore_n 1, 1) := by decide +kernel
theorem dX5_leastGenerators_5 : decode cX5_leastGenerators 5 = .ok (.iconst 0, 1) := by decide +kernel
theorem dX5_leastGenerators_6 : decode cX5_leastGenerators 6 = .ok (.istore_n 2, 1) := by decide +kernel
theorem dX5_leastGenerators_7 : decode cX5_leastGenerators 7 = .ok (.iload_n 2, 1) := by decide +kernel
theorem dX5_leastGenerators_8 : decode cX5_leastGenerators 8 = .ok (.aload_n 0, 1) := by decide +kernel
theorem dX5_leastGenerators_9 : decode cX5_leastGenerators 9 = .ok (.invokevirtual 61, 3) := by decide +kernel
theorem dX5_leastGenerators_12 : decode cX5_leastGenerators 12 = .ok (.if_icmp .gt 30, 3) := by decide +kernel
theorem dX5_leastGenerators_15 : decode cX5_leastGenerators 15 = .ok (.aload_n 0, 1) := by decide +kernel
theorem dX5_leastGenerators_16 : decode cX5_leastGenerators 16 = .ok (.iload_n 2, 1) := by decide +kernel
theorem dX5_leastGenerators_17 : decode cX5_leastGenerators 17 = .ok (.invokevirtual 69, 3) := by decide +kernel
theorem dX5_leastGenerators_20 : decode cX5_leastGenerators 20 = .ok (.aload_n 0, 1) := by decide +kernel
theorem dX5_leastGenerators_21 : decode cX5_leastGenerators 21 = .ok (.invokevirtual 61, 3) := by decide +kernel
theorem dX5_leastGenerators_24 : decode cX5_leastGenerators 24 = .ok (.if_icmp .ne 12, 3) := by decide +kernel
theorem dX5_leastGenerators_27 : decode cX5_leastGenerators 27 = .ok (.iload_n 1, 1) := by decide +kernel
theorem dX5_leastGenerators_28 : decode cX5_leastGenerators 28 = .ok (.iload_n 2, 1) := by decide +kernel
theorem dX5_leastGenerators_29 : decode cX5_leastGenerators 29 = .ok (.invokestatic 72, 3) := by decide +kernel
theorem dX5_leastGenerators_32 : decode cX5_leastGenerators 32 = .ok (.invokestatic 45, 3) := by decide +kernel
theorem dX5_leastGenerators_35 : decode cX5_leastGenerators 35 = .ok (.istore_n 1, 1) := by decide +kernel
theorem dX5_leastGenerators_36 : decode cX5_leastGenerators 36 = .ok (.iinc 2 1, 3) := by decide +kernel
theorem dX5_leastGenerators_39 : decode cX5_leastGenerators 39 = .ok (.goto (-32), 3) := by decide +kernel
theorem dX5_leastGenerators_42 : decode cX5_leastGenerators 42 = .ok (.iload_n 1, 1) := by decide +kernel
theorem dX5_leastGenerators_43 : decode cX5_leastGenerators 43 = .ok (.ireturn, 1) := by decide +kernel
theorem dX5_orderOfTranslation_0 : decode cX5_orderOfTranslation 0 = .ok (.aload_n 0, 1) := by decide +kernel
theorem dX5_orderOfTranslation_1 : decode cX5_orderOfTranslation 1 = .ok (.iload_n 1, 1) := by decide +kernel
theorem dX5_orderOfTranslation_2 : decode cX5_orderOfTranslation 2 = .ok (.invokevirtual 57, 3) := by decide +kernel
theorem dX5_orderOfTranslation_5 : decode cX5_orderOfTranslation 5 = .ok (.ifCond .ne 6, 3) := by decide +kernel
theorem dX5_orderOfTranslation_8 : decode cX5_orderOfTranslation 8 = .ok (.bipush (-6), 2) := by decide +kernel
theorem dX5_orderOfTranslation_10 : decode cX5_orderOfTranslation 10 = .ok (.ireturn, 1) := by decide +kernel
theorem dX5_orderOfTranslation_11 : decode cX5_orderOfTranslation 11 = .ok (.iconst 1, 1) := by decide +kernel
theorem dX5_orderOfTranslation_12 : decode cX5_orderOfTranslation 12 = .ok (.istore_n 2, 1) := by decide +kernel
theorem dX5_orderOfTranslation_13 : decode cX5_orderOfTranslation 13 = .ok (.iload_n 2, 1) := by decide +kernel
theorem dX5_orderOfTranslation_14 : decode cX5_orderOfTranslation 14 = .ok (.bipush 6, 2) := by decide +kernel
theorem dX5_orderOfTranslation_16 : decode cX5_orderOfTranslation 16 = .ok (.if_icmp .ge 18, 3) := by decide +kernel
theorem dX5_orderOfTranslation_19 : decode cX5_orderOfTranslation 19 = .ok (.aload_n 0, 1) := by decide +kernel
theorem dX5_orderOfTranslation_20 : decode cX5_orderOfTranslation 20 = .ok (.iload_n 1, 1) := by decide +kernel
theorem dX5_orderOfTranslation_21 : decode cX5_orderOfTranslation 21 = .ok (.iload_n 2, 1) := by decide +kernel
theorem dX5_orderOfTranslation_22 : decode cX5_orderOfTranslation 22 = .ok (.invokevirtual 77, 3) := by decide +kernel
theorem dX5_orderOfTranslation_25 : decode cX5_orderOfTranslation 25 = .ok (.ifCond .ne 9, 3) := by decide +kernel
theorem dX5_orderOfTranslation_28 : decode cX5_orderOfTranslation 28 = .ok (.iinc 2 1, 3) := by decide +kernel
theorem dX5_orderOfTranslation_31 : decode cX5_orderOfTranslation 31 = .ok (.goto (-18), 3) := by decide +kernel
theorem dX5_orderOfTranslation_34 : decode cX5_orderOfTranslation 34 = .ok (.iload_n 2, 1) := by decide +kernel
theorem dX5_orderOfTranslation_35 : decode cX5_orderOfTranslation 35 = .ok (.ireturn, 1) := by decide +kernel
theorem dX5_isIdentityAfter_0 : decode cX5_isIdentityAfter 0 = .ok (.iconst 0, 1) := by decide +kernel
theorem dX5_isIdentityAfter_1 : decode cX5_isIdentityAfter 1 = .ok (.istore_n 3, 1) := by decide +kernel
theorem dX5_isIdentityAfter_2 : decode cX5_isIdentityAfter 2 = .ok (.iload_n 3, 1) := by decide +kernel
theorem dX5_isIdentityAfter_3 : decode cX5_isIdentityAfter 3 = .ok (.aload_n 0, 1) := by decide +kernel
theorem dX5_isIdentityAfter_4 : decode cX5_isIdentityAfter 4 = .ok (.getfield 9, 3) := by decide +kernel
theorem dX5_isIdentityAfter_7 : decode cX5_isIdentityAfter 7 = .ok (.if_icmp .ge 44, 3) := by decide +kernel
theorem dX5_isIdentityAfter_10 : decode cX5_isIdentityAfter 10 = .ok (.iload_n 3, 1) := by decide +kernel
theorem dX5_isIdentityAfter_11 : decode cX5_isIdentityAfter 11 = .ok (.istore 4, 2) := by decide +kernel
theorem dX5_isIdentityAfter_13 : decode cX5_isIdentityAfter 13 = .ok (.iconst 0, 1) := by decide +kernel
theorem dX5_isIdentityAfter_14 : decode cX5_isIdentityAfter 14 = .ok (.istore 5, 2) := by decide +kernel
theorem dX5_isIdentityAfter_16 : decode cX5_isIdentityAfter 16 = .ok (.iload 5, 2) := by decide +kernel
theorem dX5_isIdentityAfter_18 : decode cX5_isIdentityAfter 18 = .ok (.iload_n 2, 1) := by decide +kernel
theorem dX5_isIdentityAfter_19 : decode cX5_isIdentityAfter 19 = .ok (.if_icmp .ge 18, 3) := by decide +kernel
theorem dX5_isIdentityAfter_22 : decode cX5_isIdentityAfter 22 = .ok (.aload_n 0, 1) := by decide +kernel
theorem dX5_isIdentityAfter_23 : decode cX5_isIdentityAfter 23 = .ok (.iload 4, 2) := by decide +kernel
theorem dX5_isIdentityAfter_25 : decode cX5_isIdentityAfter 25 = .ok (.iload_n 1, 1) := by decide +kernel
theorem dX5_isIdentityAfter_26 : decode cX5_isIdentityAfter 26 = .ok (.invokevirtual 54, 3) := by decide +kernel
theorem dX5_isIdentityAfter_29 : decode cX5_isIdentityAfter 29 = .ok (.istore 4, 2) := by decide +kernel
theorem dX5_isIdentityAfter_31 : decode cX5_isIdentityAfter 31 = .ok (.iinc 5 1, 3) := by decide +kernel
theorem dX5_isIdentityAfter_34 : decode cX5_isIdentityAfter 34 = .ok (.goto (-18), 3) := by decide +kernel
theorem dX5_isIdentityAfter_37 : decode cX5_isIdentityAfter 37 = .ok (.iload 4, 2) := by decide +kernel
theorem dX5_isIdentityAfter_39 : decode cX5_isIdentityAfter 39 = .ok (.iload_n 3, 1) := by decide +kernel
theorem dX5_isIdentityAfter_40 : decode cX5_isIdentityAfter 40 = .ok (.if_icmp .eq 5, 3) := by decide +kernel
theorem dX5_isIdentityAfter_43 : decode cX5_isIdentityAfter 43 = .ok (.iconst 0, 1) := by decide +kernel
theorem dX5_isIdentityAfter_44 : decode cX5_isIdentityAfter 44 = .ok (.ireturn, 1) := by decide +kernel
theorem dX5_isIdentityAfter_45 : decode cX5_isIdentityAfter 45 = .ok (.iinc 3 1, 3) := by decide +kernel
theorem dX5_isIdentityAfter_48 : decode cX5_isIdentityAfter 48 = .ok (.goto (-46), 3) := by decide +kernel
theorem dX5_isIdentityAfter_51 : decode cX5_isIdentityAfter 51 = .ok (.iconst 1, 1) := by decide +kernel
theorem dX5_isIdentityAfter_52 : decode cX5_isIdentityAfter 52 = .ok (.ireturn, 1) := by decide +kernel
theorem dX5_countTranslations_0 : decode cX5_countTranslations 0 = .ok (.iconst 0, 1) := by decide +kernel
theorem dX5_countTranslations_1 : decode cX5_countTranslations 1 = .ok (.istore_n 1, 1) := by decide +kernel
theorem dX5_countTranslations_2 : decode cX5_countTranslations 2 = .ok (.iconst 0, 1) := by decide +kernel
theorem dX5_countTranslations_3 : decode cX5_countTranslations 3 = .ok (.istore_n 2, 1) := by decide +kernel
theorem dX5_countTranslations_4 : decode cX5_countTranslations 4 = .ok (.iload_n 2, 1) := by decide +kernel
theorem dX5_countTranslations_5 : decode cX5_countTranslations 5 = .ok (.aload_n 0, 1) := by decide +kernel
theorem dX5_countTranslations_6 : decode cX5_countTranslations 6 = .ok (.getfield 9, 3) := by decide +kernel
theorem dX5_countTranslations_9 : decode cX5_countTranslations 9 = .ok (.if_icmp .ge 20, 3) := by decide +kernel
theorem dX5_countTranslations_12 : decode cX5_countTranslations 12 = .ok (.aload_n 0, 1) := by decide +kernel
theorem dX5_countTranslations_13 : decode cX5_countTranslations 13 = .ok (.iload_n 2, 1) := by decide +kernel
theorem dX5_countTranslations_14 : decode cX5_countTranslations 14 = .ok (.invokevirtual 81, 3) := by decide +kernel
theorem dX5_countTranslations_17 : decode cX5_countTranslations 17 = .ok (.ifCond .eq 6, 3) := by decide +kernel
theorem dX5_countTranslations_20 : decode cX5_countTranslations 20 = .ok (.iinc 1 1, 3) := by decide +kernel
theorem dX5_countTranslations_23 : decode cX5_countTranslations 23 = .ok (.iinc 2 1, 3) := by decide +kernel
theorem dX5_countTranslations_26 : decode cX5_countTranslations 26 = .ok (.goto (-22), 3) := by decide +kernel
theorem dX5_countTranslations_29 : decode cX5_countTranslations 29 = .ok (.iload_n 1, 1) := by decide +kernel
theorem dX5_countTranslations_30 : decode cX5_countTranslations 30 = .ok (.ireturn, 1) := by decide +kernel
theorem dX5_isNewTranslation_0 : decode cX5_isNewTranslation 0 = .ok (.iconst 0, 1) := by decide +kernel
theorem dX5_isNewTranslation_1 : decode cX5_isNewTranslation 1 = .ok (.istore_n 2, 1) := by decide +kernel
theorem dX5_isNewTranslation_2 : decode cX5_isNewTranslation 2 = .ok (.iload_n 2, 1) := by decide +kernel
theorem dX5_isNewTranslation_3 : decode cX5_isNewTranslation 3 = .ok (.iload_n 1, 1) := by decide +kernel
theorem dX5_isNewTranslation_4 : decode cX5_isNewTranslation 4 = .ok (.if_icmp .ge 20, 3) := by decide +kernel
theorem dX5_isNewTranslation_7 : decode cX5_isNewTranslation 7 = .ok (.aload_n 0, 1) := by decide +kernel
theorem dX5_isNewTranslation_8 : decode cX5_isNewTranslation 8 = .ok (.iload_n 2, 1) := by decide +kernel
theorem dX5_isNewTranslation_9 : decode cX5_isNewTranslation 9 = .ok (.iload_n 1, 1) := by decide +kernel
theorem dX5_isNewTranslation_10 : decode cX5_isNewTranslation 10 = .ok (.invokevirtual 84, 3) := by decide +kernel
theorem dX5_isNewTranslation_13 : decode cX5_isNewTranslation 13 = .ok (.ifCond .eq 5, 3) := by decide +kernel
theorem dX5_isNewTranslation_16 : decode cX5_isNewTranslation 16 = .ok (.iconst 0, 1) := by decide +kernel
theorem dX5_isNewTranslation_17 : decode cX5_isNewTranslation 17 = .ok (.ireturn, 1) := by decide +kernel
theorem dX5_isNewTranslation_18 : decode cX5_isNewTranslation 18 = .ok (.iinc 2 1, 3) := by decide +kernel
theorem dX5_isNewTranslation_21 : decode cX5_isNewTranslation 21 = .ok (.goto (-19), 3) := by decide +kernel
theorem dX5_isNewTranslation_24 : decode cX5_isNewTranslation 24 = .ok (.iconst 1, 1) := by decide +kernel
theorem dX5_isNewTranslation_25 : decode cX5_isNewTranslation 25 = .ok (.ireturn, 1) := by decide +kernel
theorem dX5_sameTranslation_0 : decode cX5_sameTranslation 0 = .ok (.iconst 0, 1) := by decide +kernel
theorem dX5_sameTranslation_1 : decode cX5_sameTranslation 1 = .ok (.istore_n 3, 1) := by decide +kernel
theorem dX5_sameTranslation_2 : decode cX5_sameTranslation 2 = .ok (.iload_n 3, 1) := by decide +kernel
theorem dX5_sameTranslation_3 : decode cX5_sameTranslation 3 = .ok (.aload_n 0, 1) := by decide +kernel
theorem dX5_sameTranslation_4 : decode cX5_sameTranslation 4 = .ok (.getfield 9, 3) := by decide +kernel
theorem dX5_sameTranslation_7 : decode cX5_sameTranslation 7 = .ok (.if_icmp .ge 26, 3) := by decide +kernel
theorem dX5_sameTranslation_10 : decode cX5_sameTranslation 10 = .ok (.aload_n 0, 1) := by decide +kernel
theorem dX5_sameTranslation_11 : decode cX5_sameTranslation 11 = .ok (.iload_n 3, 1) := by decide +kernel
theorem dX5_sameTranslation_12 : decode cX5_sameTranslation 12 = .ok (.iload_n 1, 1) := by decide +kernel
theorem dX5_sameTranslation_13 : decode cX5_sameTranslation 13 = .ok (.invokevirtual 54, 3) := by decide +kernel
theorem dX5_sameTranslation_16 : decode cX5_sameTranslation 16 = .ok (.aload_n 0, 1) := by decide +kernel
theorem dX5_sameTranslation_17 : decode cX5_sameTranslation 17 = .ok (.iload_n 3, 1) := by decide +kernel
theorem dX5_sameTranslation_18 : decode cX5_sameTranslation 18 = .ok (.iload_n 2, 1) := by decide +kernel
theorem dX5_sameTranslation_19 : decode cX5_sameTranslation 19 = .ok (.invokevirtual 54, 3) := by decide +kernel
theorem dX5_sameTranslation_22 : decode cX5_sameTranslation 22 = .ok (.if_icmp .eq 5, 3) := by decide +kernel
theorem dX5_sameTranslation_25 : decode cX5_sameTranslation 25 = .ok (.iconst 0, 1) := by decide +kernel
theorem dX5_sameTranslation_26 : decode cX5_sameTranslation 26 = .ok (.ireturn, 1) := by decide +kernel
theorem dX5_sameTranslation_27 : decode cX5_sameTranslation 27 = .ok (.iinc 3 1, 3) := by decide +kernel
theorem dX5_sameTranslation_30 : decode cX5_sameTranslation 30 = .ok (.goto (-28), 3) := by decide +kernel
theorem dX5_sameTranslation_33 : decode cX5_sameTranslation 33 = .ok (.iconst 1, 1) := by decide +kernel
theorem dX5_sameTranslation_34 : decode cX5_sameTranslation 34 = .ok (.ireturn, 1) := by decide +kernel
theorem dX6_init_0 : decode cX6_init 0 = .ok (.aload_n 0, 1) := by decide +kernel
theorem dX6_init_1 : decode cX6_init 1 = .ok (.invokespecial 1, 3) := by decide +kernel
theorem dX6_init_4 : decode cX6_init 4 = .ok (.aload_n 0, 1) := by decide +kernel
theorem dX6_init_5 : decode cX6_init 5 = .ok (.new 7, 3) := by decide +kernel
theorem dX6_init_8 : decode cX6_init 8 = .ok (.dup, 1) := by decide +kernel
theorem dX6_init_9 : decode cX6_init 9 = .ok (.invokespecial 9, 3) := by decide +kernel
theorem dX6_init_12 : decode cX6_init 12 = .ok (.putfield 10, 3) := by decide +kernel
theorem dX6_init_15 : decode cX6_init 15 = .ok (.aload_n 0, 1) := by decide +kernel
theorem dX6_init_16 : decode cX6_init 16 = .ok (.new 7, 3) := by decide +kernel
theorem dX6_init_19 : decode cX6_init 19 = .ok (.dup, 1) := by decide +kernel
theorem dX6_init_20 : decode cX6_init 20 = .ok (.invokespecial 9, 3) := by decide +kernel
theorem dX6_init_23 : decode cX6_init 23 = .ok (.putfield 16, 3) := by decide +kernel
theorem dX6_init_26 : decode cX6_init 26 = .ok (.aload_n 0, 1) := by decide +kernel
theorem dX6_init_27 : decode cX6_init 27 = .ok (.new 19, 3) := by decide +kernel
theorem dX6_init_30 : decode cX6_init 30 = .ok (.dup, 1) := by decide +kernel
theorem dX6_init_31 : decode cX6_init 31 = .ok (.invokespecial 21, 3) := by decide +kernel
theorem dX6_init_34 : decode cX6_init 34 = .ok (.putfield 22, 3) := by decide +kernel
theorem dX6_init_37 : decode cX6_init 37 = .ok (.aload_n 0, 1) := by decide +kernel
theorem dX6_init_38 : decode cX6_init 38 = .ok (.new 26, 3) := by decide +kernel
theorem dX6_init_41 : decode cX6_init 41 = .ok (.dup, 1) := by decide +kernel
theorem dX6_init_42 : decode cX6_init 42 = .ok (.invokespecial 28, 3) := by decide +kernel
theorem dX6_init_45 : decode cX6_init 45 = .ok (.putfield 29, 3) := by decide +kernel
theorem dX6_init_48 : decode cX6_init 48 = .ok (.aload_n 0, 1) := by decide +kernel
theorem dX6_init_49 : decode cX6_init 49 = .ok (.new 33, 3) := by decide +kernel
theorem dX6_init_52 : decode cX6_init 52 = .ok (.dup, 1) := by decide +kernel
theorem dX6_init_53 : decode cX6_init 53 = .ok (.aload_n 0, 1) := by decide +kernel
theorem dX6_init_54 : decode cX6_init 54 = .ok (.getfield 10, 3) := by decide +kernel
theorem dX6_init_57 : decode cX6_init 57 = .ok (.aload_n 0, 1) := by decide +kernel
theorem dX6_init_58 : decode cX6_init 58 = .ok (.getfield 29, 3) := by decide +kernel
theorem dX6_init_61 : decode cX6_init 61 = .ok (.invokespecial 35, 3) := by decide +kernel
theorem dX6_init_64 : decode cX6_init 64 = .ok (.putfield 38, 3) := by decide +kernel
theorem dX6_init_67 : decode cX6_init 67 = .ok (.aload_n 0, 1) := by decide +kernel
theorem dX6_init_68 : decode cX6_init 68 = .ok (.new 42, 3) := by decide +kernel
theorem dX6_init_71 : decode cX6_init 71 = .ok (.dup, 1) := by decide +kernel
theorem dX6_init_72 : decode cX6_init 72 = .ok (.invokespecial 44, 3) := by decide +kernel
theorem dX6_init_75 : decode cX6_init 75 = .ok (.putfield 45, 3) := by decide +kernel
theorem dX6_init_78 : decode cX6_init 78 = .ok (.aload_n 0, 1) := by decide +kernel
theorem dX6_init_79 : decode cX6_init 79 = .ok (.new 49, 3) := by decide +kernel
theorem dX6_init_82 : decode cX6_init 82 = .ok (.dup, 1) := by decide +kernel
theorem dX6_init_83 : decode cX6_init 83 = .ok (.invokespecial 51, 3) := by decide +kernel
theorem dX6_init_86 : decode cX6_init 86 = .ok (.putfield 52, 3) := by decide +kernel
theorem dX6_init_89 : decode cX6_init 89 = .ok (.return_, 1) := by decide +kernel
theorem dX6_trivial_0 : decode cX6_trivial 0 = .ok (.iload_n 1, 1) := by decide +kernel
theorem dX6_trivial_1 : decode cX6_trivial 1 = .ok (.invokestatic 56, 3) := by decide +kernel
theorem dX6_trivial_4 : decode cX6_trivial 4 = .ok (.ifCond .eq 12, 3) := by decide +kernel
theorem dX6_trivial_7 : decode cX6_trivial 7 = .ok (.aload_n 0, 1) := by decide +kernel
theorem dX6_trivial_8 : decode cX6_trivial 8 = .ok (.iload_n 1, 1) := by decide +kernel
theorem dX6_trivial_9 : decode cX6_trivial 9 = .ok (.iconst 1, 1) := by decide +kernel
theorem dX6_trivial_10 : decode cX6_trivial 10 = .ok (.invokevirtual 60, 3) := by decide +kernel
theorem dX6_trivial_13 : decode cX6_trivial 13 = .ok (.goto 5, 3) := by decide +kernel
theorem dX6_trivial_16 : decode cX6_trivial 16 = .ok (.bipush (-2), 2) := by decide +kernel
theorem dX6_trivial_18 : decode cX6_trivial 18 = .ok (.ireturn, 1) := by decide +kernel
theorem dX6_dihedral_0 : decode cX6_dihedral 0 = .ok (.iload_n 1, 1) := by decide +kernel
theorem dX6_dihedral_1 : decode cX6_dihedral 1 = .ok (.invokestatic 56, 3) := by decide +kernel
theorem dX6_dihedral_4 : decode cX6_dihedral 4 = .ok (.ifCond .eq 12, 3) := by decide +kernel
theorem dX6_dihedral_7 : decode cX6_dihedral 7 = .ok (.aload_n 0, 1) := by decide +kernel
theorem dX6_dihedral_8 : decode cX6_dihedral 8 = .ok (.iload_n 1, 1) := by decide +kernel
theorem dX6_dihedral_9 : decode cX6_dihedral 9 = .ok (.iconst (-1), 1) := by decide +kernel
theorem dX6_dihedral_10 : decode cX6_dihedral 10 = .ok (.invokevirtual 60, 3) := by decide +kernel
theorem dX6_dihedral_13 : decode cX6_dihedral 13 = .ok (.goto 5, 3) := by decide +kernel
theorem dX6_dihedral_16 : decode cX6_dihedral 16 = .ok (.bipush (-2), 2) := by decide +kernel
theorem dX6_dihedral_18 : decode cX6_dihedral 18 = .ok (.ireturn, 1) := by decide +kernel
theorem dX6_linear_0 : decode cX6_linear 0 = .ok (.iload_n 1, 1) := by decide +kernel
theorem dX6_linear_1 : decode cX6_linear 1 = .ok (.invokestatic 56, 3) := by decide +kernel
theorem dX6_linear_4 : decode cX6_linear 4 = .ok (.ifCond .eq 12, 3) := by decide +kernel
theorem dX6_linear_7 : decode cX6_linear 7 = .ok (.iload_n 2, 1) := by decide +kernel
theorem dX6_linear_8 : decode cX6_linear 8 = .ok (.ifCond .lt 8, 3) := by decide +kernel
theorem dX6_linear_11 : decode cX6_linear 11 = .ok (.iload_n 2, 1) := by decide +kernel
theorem dX6_linear_12 : decode cX6_linear 12 = .ok (.iconst 5, 1) := by decide +kernel
theorem dX6_linear_13 : decode cX6_linear 13 = .ok (.if_icmp .le 6, 3) := by decide +kernel
theorem dX6_linear_16 : decode cX6_linear 16 = .ok (.bipush (-2), 2) := by decide +kernel
theorem dX6_linear_18 : decode cX6_linear 18 = .ok (.ireturn, 1) := by decide +kernel
theorem dX6_linear_19 : decode cX6_linear 19 = .ok (.aload_n 0, 1) := by decide +kernel
theorem dX6_linear_20 : decode cX6_linear 20 = .ok (.iload_n 1, 1) := by decide +kernel
theorem dX6_linear_21 : decode cX6_linear 21 = .ok (.iload_n 2, 1) := by decide +kernel
theorem dX6_linear_22 : decode cX6_linear 22 = .ok (.invokevirtual 60, 3) := by decide +kernel
theorem dX6_linear_25 : decode cX6_linear 25 = .ok (.ireturn, 1) := by decide +kernel
theorem dX6_transpositions_0 : decode cX6_transpositions 0 = .ok (.iload_n 1, 1) := by decide +kernel
theorem dX6_transpositions_1 : decode cX6_transpositions 1 = .ok (.iconst 2, 1) := by decide +kernel
theorem dX6_transpositions_2 : decode cX6_transpositions 2 = .ok (.if_icmp .lt 8, 3) := by decide +kernel
theorem dX6_transpositions_5 : decode cX6_transpositions 5 = .ok (.iload_n 1, 1) := by decide +kernel
theorem dX6_transpositions_6 : decode cX6_transpositions 6 = .ok (.iconst 4, 1) := by decide +kernel
theorem dX6_transpositions_7 : decode cX6_transpositions 7 = .ok (.if_icmp .le 6, 3) := by decide +kernel
theorem dX6_transpositions_10 : decode cX6_transpositions 10 = .ok (.bipush (-2), 2) := by decide +kernel
theorem dX6_transpositions_12 : decode cX6_transpositions 12 = .ok (.ireturn, 1) := by decide +kernel
theorem dX6_transpositions_13 : decode cX6_transpositions 13 = .ok (.aload_n 0, 1) := by decide +kernel
theorem dX6_transpositions_14 : decode cX6_transpositions 14 = .ok (.invokevirtual 64, 3) := by decide +kernel
theorem dX6_transpositions_17 : decode cX6_transpositions 17 = .ok (.aload_n 0, 1) := by decide +kernel
theorem dX6_transpositions_18 : decode cX6_transpositions 18 = .ok (.getfield 10, 3) := by decide +kernel
theorem dX6_transpositions_21 : decode cX6_transpositions 21 = .ok (.iload_n 1, 1) := by decide +kernel
theorem dX6_transpositions_22 : decode cX6_transpositions 22 = .ok (.invokevirtual 67, 3) := by decide +kernel
theorem dX6_transpositions_25 : decode cX6_transpositions 25 = .ok (.aload_n 0, 1) := by decide +kernel
theorem dX6_transpositions_26 : decode cX6_transpositions 26 = .ok (.getfield 10, 3) := by decide +kernel
theorem dX6_transpositions_29 : decode cX6_transpositions 29 = .ok (.getfield 71, 3) := by decide +kernel
theorem dX6_transpositions_32 : decode cX6_transpositions 32 = .ok (.ireturn, 1) := by decide +kernel
theorem dX6_setProduct_0 : decode cX6_setProduct 0 = .ok (.aload_n 0, 1) := by decide +kernel
theorem dX6_setProduct_1 : decode cX6_setProduct 1 = .ok (.getfield 10, 3) := by decide +kernel
theorem dX6_setProduct_4 : decode cX6_setProduct 4 = .ok (.iload_n 1, 1) := by decide +kernel
theorem dX6_setProduct_5 : decode cX6_setProduct 5 = .ok (.invokevirtual 75, 3) := by decide +kernel
theorem dX6_setProduct_8 : decode cX6_setProduct 8 = .ok (.ifCond .eq 25, 3) := by decide +kernel
theorem dX6_setProduct_11 : decode cX6_setProduct 11 = .ok (.aload_n 0, 1) := by decide +kernel
theorem dX6_setProduct_12 : decode cX6_setProduct 12 = .ok (.getfield 10, 3) := by decide +kernel
theorem dX6_setProduct_15 : decode cX6_setProduct 15 = .ok (.iload_n 2, 1) := by decide +kernel
theorem dX6_setProduct_16 : decode cX6_setProduct 16 = .ok (.invokevirtual 75, 3) := by decide +kernel
theorem dX6_setProduct_19 : decode cX6_setProduct 19 = .ok (.ifCond .eq 14, 3) := by decide +kernel
theorem dX6_setProduct_22 : decode cX6_setProduct 22 = .ok (.aload_n 0, 1) := by decide +kernel
theorem dX6_setProduct_23 : decode cX6_setProduct 23 = .ok (.getfield 10, 3) := by decide +kernel
theorem dX6_setProduct_26 : decode cX6_setProduct 26 = .ok (.iload_n 3, 1) := by decide +kernel
theorem dX6_setProduct_27 : decode cX6_setProduct 27 = .ok (.invokevirtual 75, 3) := by decide +kernel
theorem dX6_setProduct_30 : decode cX6_setProduct 30 = .ok (.ifCond .ne 5, 3) := by decide +kernel
theorem dX6_setProduct_33 : decode cX6_setProduct 33 = .ok (.iconst (-1), 1) := by decide +kernel
theorem dX6_setProduct_34 : decode cX6_setProduct 34 = .ok (.ireturn, 1) := by decide +kernel
theorem dX6_setProduct_35 : decode cX6_setProduct 35 = .ok (.aload_n 0, 1) := by decide +kernel
theorem dX6_setProduct_36 : decode cX6_setProduct 36 = .ok (.invokevirtual 64, 3) := by decide +kernel
theorem dX6_setProduct_39 : decode cX6_setProduct 39 = .ok (.aload_n 0, 1) := by decide +kernel
theorem dX6_setProduct_40 : decode cX6_setProduct 40 = .ok (.getfield 10, 3) := by decide +kernel
theorem dX6_setProduct_43 : decode cX6_setProduct 43 = .ok (.iload_n 1, 1) := by decide +kernel
theorem dX6_setProduct_44 : decode cX6_setProduct 44 = .ok (.iload_n 2, 1) := by decide +kernel
theorem dX6_setProduct_45 : decode cX6_setProduct 45 = .ok (.invokevirtual 78, 3) := by decide +kernel
theorem dX6_setProduct_48 : decode cX6_setProduct 48 = .ok (.istore 4, 2) := by decide +kernel
theorem dX6_setProduct_50 : decode cX6_setProduct 50 = .ok (.aload_n 0, 1) := by decide +kernel
theorem dX6_setProduct_51 : decode cX6_setProduct 51 = .ok (.getfield 10, 3) := by decide +kernel
theorem dX6_setProduct_54 : decode cX6_setProduct 54 = .ok (.iload_n 1, 1) := by decide +kernel
theorem dX6_setProduct_55 : decode cX6_setProduct 55 = .ok (.iload_n 2, 1) := by decide +kernel
theorem dX6_setProduct_56 : decode cX6_setProduct 56 = .ok (.iload_n 3, 1) := by decide +kernel
theorem dX6_setProduct_57 : decode cX6_setProduct 57 = .ok (.invokevirtual 81, 3) := by decide +kernel
theorem dX6_setProduct_60 : decode cX6_setProduct 60 = .ok (.iload 4, 2) := by decide +kernel
theorem dX6_setProduct_62 : decode cX6_setProduct 62 = .ok (.ireturn, 1) := by decide +kernel
theorem dX6_invert_0 : decode cX6_invert 0 = .ok (.aload_n 0, 1) := by decide +kernel
theorem dX6_invert_1 : decode cX6_invert 1 = .ok (.getfield 10, 3) := by decide +kernel
theorem dX6_invert_4 : decode cX6_invert 4 = .ok (.invokevirtual 85, 3) := by decide +kernel
theorem dX6_invert_7 : decode cX6_invert 7 = .ok (.bipush (-6), 2) := by decide +kernel
theorem dX6_invert_9 : decode cX6_invert 9 = .ok (.if_icmp .eq 6, 3) := by decide +kernel
theorem dX6_invert_12 : decode cX6_invert 12 = .ok (.bipush (-3), 2) := by decide +kernel
theorem dX6_invert_14 : decode cX6_invert 14 = .ok (.ireturn, 1) := by decide +kernel
theorem dX6_invert_15 : decode cX6_invert 15 = .ok (.aload_n 0, 1) := by decide +kernel
theorem dX6_invert_16 : decode cX6_invert 16 = .ok (.invokevirtual 64, 3) := by decide +kernel
theorem dX6_invert_19 : decode cX6_invert 19 = .ok (.aload_n 0, 1) := by decide +kernel
theorem dX6_invert_20 : decode cX6_invert 20 = .ok (.getfield 16, 3) := by decide +kernel
theorem dX6_invert_23 : decode cX6_invert 23 = .ok (.aload_n 0, 1) := by decide +kernel
theorem dX6_invert_24 : decode cX6_invert 24 = .ok (.getfield 10, 3) := by decide +kernel
theorem dX6_invert_27 : decode cX6_invert 27 = .ok (.invokevirtual 89, 3) := by decide +kernel
theorem dX6_invert_30 : decode cX6_invert 30 = .ok (.aload_n 0, 1) := by decide +kernel
theorem dX6_invert_31 : decode cX6_invert 31 = .ok (.getfield 10, 3) := by decide +kernel
theorem dX6_invert_34 : decode cX6_invert 34 = .ok (.aload_n 0, 1) := by decide +kernel
theorem dX6_invert_35 : decode cX6_invert 35 = .ok (.getfield 16, 3) := by decide +kernel
theorem dX6_invert_38 : decode cX6_invert 38 = .ok (.invokevirtual 93, 3) := by decide +kernel
theorem dX6_invert_41 : decode cX6_invert 41 = .ok (.ireturn, 1) := by decide +kernel
theorem dX6_size_0 : decode cX6_size 0 = .ok (.aload_n 0, 1) := by decide +kernel
theorem dX6_size_1 : decode cX6_size 1 = .ok (.getfield 10, 3) := by decide +kernel
theorem dX6_size_4 : decode cX6_size 4 = .ok (.getfield 71, 3) := by decide +kernel
theorem dX6_size_7 : decode cX6_size 7 = .ok (.ireturn, 1) := by decide +kernel
theorem dX6_product_0 : decode cX6_product 0 = .ok (.aload_n 0, 1) := by decide +kernel
theorem dX6_product_1 : decode cX6_product 1 = .ok (.getfield 10, 3) := by decide +kernel
theorem dX6_product_4 : decode cX6_product 4 = .ok (.iload_n 1, 1) := by decide +kernel
theorem dX6_product_5 : decode cX6_product 5 = .ok (.invokevirtual 75, 3) := by decide +kernel
theorem dX6_product_8 : decode cX6_product 8 = .ok (.ifCond .eq 14, 3) := by decide +kernel
theorem dX6_product_11 : decode cX6_product 11 = .ok (.aload_n 0, 1) := by decide +kernel
theorem dX6_product_12 : decode cX6_product 12 = .ok (.getfield 10, 3) := by decide +kernel
theorem dX6_product_15 : decode cX6_product 15 = .ok (.iload_n 2, 1) := by decide +kernel
theorem dX6_product_16 : decode cX6_product 16 = .ok (.invokevirtual 75, 3) := by decide +kernel
theorem dX6_product_19 : decode cX6_product 19 = .ok (.ifCond .ne 5, 3) := by decide +kernel
theorem dX6_product_22 : decode cX6_product 22 = .ok (.iconst (-1), 1) := by decide +kernel
theorem dX6_product_23 : decode cX6_product 23 = .ok (.ireturn, 1) := by decide +kernel
theorem dX6_product_24 : decode cX6_product 24 = .ok (.aload_n 0, 1) := by decide +kernel
theorem dX6_product_25 : decode cX6_product 25 = .ok (.getfield 10, 3) := by decide +kernel
theorem dX6_product_28 : decode cX6_product 28 = .ok (.iload_n 1, 1) := by decide +kernel
theorem dX6_product_29 : decode cX6_product 29 = .ok (.iload_n 2, 1) := by decide +kernel
theorem dX6_product_30 : decode cX6_product 30 = .ok (.invokevirtual 78, 3) := by decide +kernel
theorem dX6_product_33 : decode cX6_product 33 = .ok (.ireturn, 1) := by decide +kernel
theorem dX6_quotient_0 : decode cX6_quotient 0 = .ok (.aload_n 0, 1) := by decide +kernel
theorem dX6_quotient_1 : decode cX6_quotient 1 = .ok (.getfield 10, 3) := by decide +kernel
theorem dX6_quotient_4 : decode cX6_quotient 4 = .ok (.iload_n 1, 1) := by decide +kernel
theorem dX6_quotient_5 : decode cX6_quotient 5 = .ok (.invokevirtual 75, 3) := by decide +kernel
theorem dX6_quotient_8 : decode cX6_quotient 8 = .ok (.ifCond .eq 14, 3) := by decide +kernel
theorem dX6_quotient_11 : decode cX6_quotient 11 = .ok (.aload_n 0, 1) := by decide +kernel
theorem dX6_quotient_12 : decode cX6_quotient 12 = .ok (.getfield 10, 3) := by decide +kernel
theorem dX6_quotient_15 : decode cX6_quotient 15 = .ok (.iload_n 2, 1) := by decide +kernel
theorem dX6_quotient_16 : decode cX6_quotient 16 = .ok (.invokevirtual 75, 3) := by decide +kernel
theorem dX6_quotient_19 : decode cX6_quotient 19 = .ok (.ifCond .ne 5, 3) := by decide +kernel
theorem dX6_quotient_22 : decode cX6_quotient 22 = .ok (.iconst (-1), 1) := by decide +kernel
theorem dX6_quotient_23 : decode cX6_quotient 23 = .ok (.ireturn, 1) := by decide +kernel
theorem dX6_quotient_24 : decode cX6_quotient 24 = .ok (.aload_n 0, 1) := by decide +kernel
theorem dX6_quotient_25 : decode cX6_quotient 25 = .ok (.getfield 10, 3) := by decide +kernel
theorem dX6_quotient_28 : decode cX6_quotient 28 = .ok (.iload_n 1, 1) := by decide +kernel
theorem dX6_quotient_29 : decode cX6_quotient 29 = .ok (.iload_n 2, 1) := by decide +kernel
theorem dX6_quotient_30 : decode cX6_quotient 30 = .ok (.invokevirtual 97, 3) := by decide +kernel
theorem dX6_quotient_33 : decode cX6_quotient 33 = .ok (.ireturn, 1) := by decide +kernel
theorem dX6_violation_0 : decode cX6_violation 0 = .ok (.iload_n 1, 1) := by decide +kernel
theorem dX6_violation_1 : decode cX6_violation 1 = .ok (.tableswitch 51 1 3 #[27, 35, 43], 27) := by decide +kernel
theorem dX6_violation_28 : decode cX6_violation 28 = .ok (.aload_n 0, 1) := by decide +kernel
theorem dX6_violation_29 : decode cX6_violation 29 = .ok (.getfield 10, 3) := by decide +kernel
theorem dX6_violation_32 : decode cX6_violation 32 = .ok (.invokevirtual 100, 3) := by decide +kernel
theorem dX6_violation_35 : decode cX6_violation 35 = .ok (.ireturn, 1) := by decide +kernel
theorem dX6_violation_36 : decode cX6_violation 36 = .ok (.aload_n 0, 1) := by decide +kernel
theorem dX6_violation_37 : decode cX6_violation 37 = .ok (.getfield 10, 3) := by decide +kernel
theorem dX6_violation_40 : decode cX6_violation 40 = .ok (.invokevirtual 85, 3) := by decide +kernel
theorem dX6_violation_43 : decode cX6_violation 43 = .ok (.ireturn, 1) := by decide +kernel
theorem dX6_violation_44 : decode cX6_violation 44 = .ok (.aload_n 0, 1) := by decide +kernel
theorem dX6_violation_45 : decode cX6_violation 45 = .ok (.getfield 10, 3) := by decide +kernel
theorem dX6_violation_48 : decode cX6_violation 48 = .ok (.invokevirtual 103, 3) := by decide +kernel
theorem dX6_violation_51 : decode cX6_violation 51 = .ok (.ireturn, 1) := by decide +kernel
theorem dX6_violation_52 : decode cX6_violation 52 = .ok (.iconst (-1), 1) := by decide +kernel
theorem dX6_violation_53 : decode cX6_violation 53 = .ok (.ireturn, 1) := by decide +kernel
theorem dX6_reach_0 : decode cX6_reach 0 = .ok (.aload_n 0, 1) := by decide +kernel
theorem dX6_reach_1 : decode cX6_reach 1 = .ok (.getfield 10, 3) := by decide +kernel
theorem dX6_reach_4 : decode cX6_reach 4 = .ok (.iload_n 1, 1) := by decide +kernel
theorem dX6_reach_5 : decode cX6_reach 5 = .ok (.invokevirtual 75, 3) := by decide +kernel
theorem dX6_reach_8 : decode cX6_reach 8 = .ok (.ifCond .eq 14, 3) := by decide +kernel
theorem dX6_reach_11 : decode cX6_reach 11 = .ok (.aload_n 0, 1) := by decide +kernel
theorem dX6_reach_12 : decode cX6_reach 12 = .ok (.getfield 10, 3) := by decide +kernel
theorem dX6_reach_15 : decode cX6_reach 15 = .ok (.iload_n 1, 1) := by decide +kernel
theorem dX6_reach_16 : decode cX6_reach 16 = .ok (.invokevirtual 106, 3) := by decide +kernel
theorem dX6_reach_19 : decode cX6_reach 19 = .ok (.goto 4, 3) := by decide +kernel
theorem dX6_reach_22 : decode cX6_reach 22 = .ok (.iconst (-1), 1) := by decide +kernel
theorem dX6_reach_23 : decode cX6_reach 23 = .ok (.ireturn, 1) := by decide +kernel
theorem dX6_tableComponents_0 : decode cX6_tableComponents 0 = .ok (.aload_n 0, 1) := by decide +kernel
theorem dX6_tableComponents_1 : decode cX6_tableComponents 1 = .ok (.getfield 10, 3) := by decide +kernel
theorem dX6_tableComponents_4 : decode cX6_tableComponents 4 = .ok (.invokevirtual 110, 3) := by decide +kernel
theorem dX6_tableComponents_7 : decode cX6_tableComponents 7 = .ok (.ireturn, 1) := by decide +kernel
theorem dX6_closure_0 : decode cX6_closure 0 = .ok (.iload_n 1, 1) := by decide +kernel
theorem dX6_closure_1 : decode cX6_closure 1 = .ok (.ifCond .lt 14, 3) := by decide +kernel
theorem dX6_closure_4 : decode cX6_closure 4 = .ok (.iload_n 1, 1) := by decide +kernel
theorem dX6_closure_5 : decode cX6_closure 5 = .ok (.aload_n 0, 1) := by decide +kernel
theorem dX6_closure_6 : decode cX6_closure 6 = .ok (.getfield 10, 3) := by decide +kernel
theorem dX6_closure_9 : decode cX6_closure 9 = .ok (.invokevirtual 113, 3) := by decide +kernel
theorem dX6_closure_12 : decode cX6_closure 12 = .ok (.if_icmp .le 6, 3) := by decide +kernel
theorem dX6_closure_15 : decode cX6_closure 15 = .ok (.bipush (-2), 2) := by decide +kernel
theorem dX6_closure_17 : decode cX6_closure 17 = .ok (.ireturn, 1) := by decide +kernel
theorem dX6_closure_18 : decode cX6_closure 18 = .ok (.aload_n 0, 1) := by decide +kernel
theorem dX6_closure_19 : decode cX6_closure 19 = .ok (.getfield 10, 3) := by decide +kernel
theorem dX6_closure_22 : decode cX6_closure 22 = .ok (.iload_n 1, 1) := by decide +kernel
theorem dX6_closure_23 : decode cX6_closure 23 = .ok (.invokevirtual 116, 3) := by decide +kernel
theorem dX6_closure_26 : decode cX6_closure 26 = .ok (.ireturn, 1) := by decide +kernel
theorem dX6_generators_0 : decode cX6_generators 0 = .ok (.aload_n 0, 1) := by decide +kernel
theorem dX6_generators_1 : decode cX6_generators 1 = .ok (.getfield 10, 3) := by decide +kernel
theorem dX6_generators_4 : decode cX6_generators 4 = .ok (.invokevirtual 119, 3) := by decide +kernel
theorem dX6_generators_7 : decode cX6_generators 7 = .ok (.ireturn, 1) := by decide +kernel
theorem dX6_translationOrder_0 : decode cX6_translationOrder 0 = .ok (.aload_n 0, 1) := by decide +kernel
theorem dX6_translationOrder_1 : decode cX6_translationOrder 1 = .ok (.getfield 10, 3) := by decide +kernel
theorem dX6_translationOrder_4 : decode cX6_translationOrder 4 = .ok (.iload_n 1, 1) := by decide +kernel
theorem dX6_translationOrder_5 : decode cX6_translationOrder 5 = .ok (.invokevirtual 75, 3) := by decide +kernel
theorem dX6_translationOrder_8 : decode cX6_translationOrder 8 = .ok (.ifCond .eq 14, 3) := by decide +kernel
theorem dX6_translationOrder_11 : decode cX6_translationOrder 11 = .ok (.aload_n 0, 1) := by decide +kernel
theorem dX6_translationOrder_12 : decode cX6_translationOrder 12 = .ok (.getfield 10, 3) := by decide +kernel
theorem dX6_translationOrder_15 : decode cX6_translationOrder 15 = .ok (.iload_n 1, 1) := by decide +kernel
theorem dX6_translationOrder_16 : decode cX6_translationOrder 16 = .ok (.invokevirtual 122, 3) := by decide +kernel
theorem dX6_translationOrder_19 : decode cX6_translationOrder 19 = .ok (.goto 4, 3) := by decide +kernel
theorem dX6_translationOrder_22 : decode cX6_translationOrder 22 = .ok (.iconst (-1), 1) := by decide +kernel
theorem dX6_translationOrder_23 : decode cX6_translationOrder 23 = .ok (.ireturn, 1) := by decide +kernel
theorem dX6_translations_0 : decode cX6_translations 0 = .ok (.aload_n 0, 1) := by decide +kernel
theorem dX6_translations_1 : decode cX6_translations 1 = .ok (.getfield 10, 3) := by decide +kernel
theorem dX6_translations_4 : decode cX6_translations 4 = .ok (.invokevirtual 125, 3) := by decide +kernel
theorem dX6_translations_7 : decode cX6_translations 7 = .ok (.ireturn, 1) := by decide +kernel
theorem dX6_innerGroup_0 : decode cX6_innerGroup 0 = .ok (.aload_n 0, 1) := by decide +kernel
theorem dX6_innerGroup_1 : decode cX6_innerGroup 1 = .ok (.getfield 10, 3) := by decide +kernel
theorem dX6_innerGroup_4 : decode cX6_innerGroup 4 = .ok (.invokevirtual 85, 3) := by decide +kernel
theorem dX6_innerGroup_7 : decode cX6_innerGroup 7 = .ok (.bipush (-6), 2) := by decide +kernel
theorem dX6_innerGroup_9 : decode cX6_innerGroup 9 = .ok (.if_icmp .eq 6, 3) := by decide +kernel
theorem dX6_innerGroup_12 : decode cX6_innerGroup 12 = .ok (.bipush (-6), 2) := by decide +kernel
theorem dX6_innerGroup_14 : decode cX6_innerGroup 14 = .ok (.ireturn, 1) := by decide +kernel
theorem dX6_innerGroup_15 : decode cX6_innerGroup 15 = .ok (.aload_n 0, 1) := by decide +kernel
theorem dX6_innerGroup_16 : decode cX6_innerGroup 16 = .ok (.getfield 22, 3) := by decide +kernel
theorem dX6_innerGroup_19 : decode cX6_innerGroup 19 = .ok (.aload_n 0, 1) := by decide +kernel
theorem dX6_innerGroup_20 : decode cX6_innerGroup 20 = .ok (.getfield 10, 3) := by decide +kernel
theorem dX6_innerGroup_23 : decode cX6_innerGroup 23 = .ok (.invokevirtual 128, 3) := by decide +kernel
theorem dX6_innerGroup_26 : decode cX6_innerGroup 26 = .ok (.ireturn, 1) := by decide +kernel
theorem dX6_automorphisms_0 : decode cX6_automorphisms 0 = .ok (.aload_n 0, 1) := by decide +kernel
theorem dX6_automorphisms_1 : decode cX6_automorphisms 1 = .ok (.getfield 22, 3) := by decide +kernel
theorem dX6_automorphisms_4 : decode cX6_automorphisms 4 = .ok (.aload_n 0, 1) := by decide +kernel
theorem dX6_automorphisms_5 : decode cX6_automorphisms 5 = .ok (.getfield 10, 3) := by decide +kernel
theorem dX6_automorphisms_8 : decode cX6_automorphisms 8 = .ok (.invokevirtual 131, 3) := by decide +kernel
theorem dX6_automorphisms_11 : decode cX6_automorphisms 11 = .ok (.ireturn, 1) := by decide +kernel
theorem dX6_newDiagram_0 : decode cX6_newDiagram 0 = .ok (.iload_n 1, 1) := by decide +kernel
theorem dX6_newDiagram_1 : decode cX6_newDiagram 1 = .ok (.iconst 1, 1) := by decide +kernel
theorem dX6_newDiagram_2 : decode cX6_newDiagram 2 = .ok (.if_icmp .lt 9, 3) := by decide +kernel
theorem dX6_newDiagram_5 : decode cX6_newDiagram 5 = .ok (.iload_n 1, 1) := by decide +kernel
theorem dX6_newDiagram_6 : decode cX6_newDiagram 6 = .ok (.bipush 7, 2) := by decide +kernel
theorem dX6_newDiagram_8 : decode cX6_newDiagram 8 = .ok (.if_icmp .le 6, 3) := by decide +kernel
theorem dX6_newDiagram_11 : decode cX6_newDiagram 11 = .ok (.bipush (-2), 2) := by decide +kernel
theorem dX6_newDiagram_13 : decode cX6_newDiagram 13 = .ok (.ireturn, 1) := by decide +kernel
theorem dX6_newDiagram_14 : decode cX6_newDiagram 14 = .ok (.aload_n 0, 1) := by decide +kernel
theorem dX6_newDiagram_15 : decode cX6_newDiagram 15 = .ok (.invokevirtual 64, 3) := by decide +kernel
theorem dX6_newDiagram_18 : decode cX6_newDiagram 18 = .ok (.aload_n 0, 1) := by decide +kernel
theorem dX6_newDiagram_19 : decode cX6_newDiagram 19 = .ok (.getfield 29, 3) := by decide +kernel
theorem dX6_newDiagram_22 : decode cX6_newDiagram 22 = .ok (.getfield 134, 3) := by decide +kernel
theorem dX6_newDiagram_25 : decode cX6_newDiagram 25 = .ok (.istore_n 2, 1) := by decide +kernel
theorem dX6_newDiagram_26 : decode cX6_newDiagram 26 = .ok (.aload_n 0, 1) := by decide +kernel
theorem dX6_newDiagram_27 : decode cX6_newDiagram 27 = .ok (.getfield 29, 3) := by decide +kernel
theorem dX6_newDiagram_30 : decode cX6_newDiagram 30 = .ok (.iload_n 1, 1) := by decide +kernel
theorem dX6_newDiagram_31 : decode cX6_newDiagram 31 = .ok (.invokevirtual 137, 3) := by decide +kernel
theorem dX6_newDiagram_34 : decode cX6_newDiagram 34 = .ok (.iload_n 2, 1) := by decide +kernel
theorem dX6_newDiagram_35 : decode cX6_newDiagram 35 = .ok (.ireturn, 1) := by decide +kernel
theorem dX6_standard_0 : decode cX6_standard 0 = .ok (.iload_n 1, 1) := by decide +kernel
theorem dX6_standard_1 : decode cX6_standard 1 = .ok (.ifCond .lt 9, 3) := by decide +kernel
theorem dX6_standard_4 : decode cX6_standard 4 = .ok (.iload_n 1, 1) := by decide +kernel
theorem dX6_standard_5 : decode cX6_standard 5 = .ok (.bipush 6, 2) := by decide +kernel
theorem dX6_standard_7 : decode cX6_standard 7 = .ok (.if_icmp .lt 5, 3) := by decide +kernel
theorem dX6_standard_10 : decode cX6_standard 10 = .ok (.iconst (-1), 1) := by decide +kernel
theorem dX6_standard_11 : decode cX6_standard 11 = .ok (.ireturn, 1) := by decide +kernel
theorem dX6_standard_12 : decode cX6_standard 12 = .ok (.aload_n 0, 1) := by decide +kernel
theorem dX6_standard_13 : decode cX6_standard 13 = .ok (.invokevirtual 64, 3) := by decide +kernel
theorem dX6_standard_16 : decode cX6_standard 16 = .ok (.aload_n 0, 1) := by decide +kernel
theorem dX6_standard_17 : decode cX6_standard 17 = .ok (.getfield 29, 3) := by decide +kernel
theorem dX6_standard_20 : decode cX6_standard 20 = .ok (.getstatic 140, 3) := by decide +kernel
theorem dX6_standard_23 : decode cX6_standard 23 = .ok (.iload_n 1, 1) := by decide +kernel
theorem dX6_standard_24 : decode cX6_standard 24 = .ok (.iaload, 1) := by decide +kernel
theorem dX6_standard_25 : decode cX6_standard 25 = .ok (.invokevirtual 137, 3) := by decide +kernel
theorem dX6_standard_28 : decode cX6_standard 28 = .ok (.getstatic 144, 3) := by decide +kernel
theorem dX6_standard_31 : decode cX6_standard 31 = .ok (.iload_n 1, 1) := by decide +kernel
theorem dX6_standard_32 : decode cX6_standard 32 = .ok (.iaload, 1) := by decide +kernel
theorem dX6_standard_33 : decode cX6_standard 33 = .ok (.istore_n 2, 1) := by decide +kernel
theorem dX6_standard_34 : decode cX6_standard 34 = .ok (.iload_n 2, 1) := by decide +kernel
theorem dX6_standard_35 : decode cX6_standard 35 = .ok (.getstatic 144, 3) := by decide +kernel
theorem dX6_standard_38 : decode cX6_standard 38 = .ok (.iload_n 1, 1) := by decide +kernel
theorem dX6_standard_39 : decode cX6_standard 39 = .ok (.iconst 1, 1) := by decide +kernel
theorem dX6_standard_40 : decode cX6_standard 40 = .ok (.iadd, 1) := by decide +kernel
theorem dX6_standard_41 : decode cX6_standard 41 = .ok (.iaload, 1) := by decide +kernel
theorem dX6_standard_42 : decode cX6_standard 42 = .ok (.if_icmp .ge 48, 3) := by decide +kernel
theorem dX6_standard_45 : decode cX6_standard 45 = .ok (.iconst 4, 1) := by decide +kernel
theorem dX6_standard_46 : decode cX6_standard 46 = .ok (.iload_n 2, 1) := by decide +kernel
theorem dX6_standard_47 : decode cX6_standard 47 = .ok (.imul, 1) := by decide +kernel
theorem dX6_standard_48 : decode cX6_standard 48 = .ok (.istore_n 3, 1) := by decide +kernel
theorem dX6_standard_49 : decode cX6_standard 49 = .ok (.aload_n 0, 1) := by decide +kernel
theorem dX6_standard_50 : decode cX6_standard 50 = .ok (.getfield 29, 3) := by decide +kernel
theorem dX6_standard_53 : decode cX6_standard 53 = .ok (.getstatic 147, 3) := by decide +kernel
theorem dX6_standard_56 : decode cX6_standard 56 = .ok (.iload_n 3, 1) := by decide +kernel
theorem dX6_standard_57 : decode cX6_standard 57 = .ok (.iconst 0, 1) := by decide +kernel
theorem dX6_standard_58 : decode cX6_standard 58 = .ok (.iadd, 1) := by decide +kernel
theorem dX6_standard_59 : decode cX6_standard 59 = .ok (.iaload, 1) := by decide +kernel
theorem dX6_standard_60 : decode cX6_standard 60 = .ok (.getstatic 147, 3) := by decide +kernel
theorem dX6_standard_63 : decode cX6_standard 63 = .ok (.iload_n 3, 1) := by decide +kernel
theorem dX6_standard_64 : decode cX6_standard 64 = .ok (.iconst 1, 1) := by decide +kernel
theorem dX6_standard_65 : decode cX6_standard 65 = .ok (.iadd, 1) := by decide +kernel
theorem dX6_standard_66 : decode cX6_standard 66 = .ok (.iaload, 1) := by decide +kernel
theorem dX6_standard_67 : decode cX6_standard 67 = .ok (.getstatic 147, 3) := by decide +kernel
theorem dX6_standard_70 : decode cX6_standard 70 = .ok (.iload_n 3, 1) := by decide +kernel
theorem dX6_standard_71 : decode cX6_standard 71 = .ok (.iconst 2, 1) := by decide +kernel
theorem dX6_standard_72 : decode cX6_standard 72 = .ok (.iadd, 1) := by decide +kernel
theorem dX6_standard_73 : decode cX6_standard 73 = .ok (.iaload, 1) := by decide +kernel
theorem dX6_standard_74 : decode cX6_standard 74 = .ok (.getstatic 147, 3) := by decide +kernel
theorem dX6_standard_77 : decode cX6_standard 77 = .ok (.iload_n 3, 1) := by decide +kernel
theorem dX6_standard_78 : decode cX6_standard 78 = .ok (.iconst 3, 1) := by decide +kernel
theorem dX6_standard_79 : decode cX6_standard 79 = .ok (.iadd, 1) := by decide +kernel
theorem dX6_standard_80 : decode cX6_standard 80 = .ok (.iaload, 1) := by decide +kernel
theorem dX6_standard_81 : decode cX6_standard 81 = .ok (.invokevirtual 150, 3) := by decide +kernel
theorem dX6_standard_84 : decode cX6_standard 84 = .ok (.iinc 2 1, 3) := by decide +kernel
theorem dX6_standard_87 : decode cX6_standard 87 = .ok (.goto (-53), 3) := by decide +kernel
theorem dX6_standard_90 : decode cX6_standard 90 = .ok (.aload_n 0, 1) := by decide +kernel
theorem dX6_standard_91 : decode cX6_standard 91 = .ok (.getfield 29, 3) := by decide +kernel
theorem dX6_standard_94 : decode cX6_standard 94 = .ok (.getfield 154, 3) := by decide +kernel
theorem dX6_standard_97 : decode cX6_standard 97 = .ok (.ireturn, 1) := by decide +kernel
theorem dX6_addCrossing_0 : decode cX6_addCrossing 0 = .ok (.aload_n 0, 1) := by decide +kernel
theorem dX6_addCrossing_1 : decode cX6_addCrossing 1 = .ok (.getfield 29, 3) := by decide +kernel
theorem dX6_addCrossing_4 : decode cX6_addCrossing 4 = .ok (.iload_n 1, 1) := by decide +kernel
theorem dX6_addCrossing_5 : decode cX6_addCrossing 5 = .ok (.invokevirtual 157, 3) := by decide +kernel
theorem dX6_addCrossing_8 : decode cX6_addCrossing 8 = .ok (.ifCond .eq 25, 3) := by decide +kernel
theorem dX6_addCrossing_11 : decode cX6_addCrossing 11 = .ok (.aload_n 0, 1) := by decide +kernel
theorem dX6_addCrossing_12 : decode cX6_addCrossing 12 = .ok (.getfield 29, 3) := by decide +kernel
theorem dX6_addCrossing_15 : decode cX6_addCrossing 15 = .ok (.iload_n 2, 1) := by decide +kernel
theorem dX6_addCrossing_16 : decode cX6_addCrossing 16 = .ok (.invokevirtual 157, 3) := by decide +kernel
theorem dX6_addCrossing_19 : decode cX6_addCrossing 19 = .ok (.ifCond .eq 14, 3) := by decide +kernel
theorem dX6_addCrossing_22 : decode cX6_addCrossing 22 = .ok (.aload_n 0, 1) := by decide +kernel
theorem dX6_addCrossing_23 : decode cX6_addCrossing 23 = .ok (.getfield 29, 3) := by decide +kernel
theorem dX6_addCrossing_26 : decode cX6_addCrossing 26 = .ok (.iload_n 3, 1) := by decide +kernel
theorem dX6_addCrossing_27 : decode cX6_addCrossing 27 = .ok (.invokevirtual 157, 3) := by decide +kernel
theorem dX6_addCrossing_30 : decode cX6_addCrossing 30 = .ok (.ifCond .ne 5, 3) := by decide +kernel
theorem dX6_addCrossing_33 : decode cX6_addCrossing 33 = .ok (.iconst (-1), 1) := by decide +kernel
theorem dX6_addCrossing_34 : decode cX6_addCrossing 34 = .ok (.ireturn, 1) := by decide +kernel
theorem dX6_addCrossing_35 : decode cX6_addCrossing 35 = .ok (.iload 4, 2) := by decide +kernel
theorem dX6_addCrossing_37 : decode cX6_addCrossing 37 = .ok (.iconst 1, 1) := by decide +kernel
theorem dX6_addCrossing_38 : decode cX6_addCrossing 38 = .ok (.if_icmp .eq 12, 3) := by decide +kernel
theorem dX6_addCrossing_41 : decode cX6_addCrossing 41 = .ok (.iload 4, 2) := by decide +kernel
theorem dX6_addCrossing_43 : decode cX6_addCrossing 43 = .ok (.iconst (-1), 1) := by decide +kernel
theorem dX6_addCrossing_44 : decode cX6_addCrossing 44 = .ok (.if_icmp .eq 6, 3) := by decide +kernel
theorem dX6_addCrossing_47 : decode cX6_addCrossing 47 = .ok (.bipush (-2), 2) := by decide +kernel
theorem dX6_addCrossing_49 : decode cX6_addCrossing 49 = .ok (.ireturn, 1) := by decide +kernel
theorem dX6_addCrossing_50 : decode cX6_addCrossing 50 = .ok (.aload_n 0, 1) := by decide +kernel
theorem dX6_addCrossing_51 : decode cX6_addCrossing 51 = .ok (.getfield 29, 3) := by decide +kernel
theorem dX6_addCrossing_54 : decode cX6_addCrossing 54 = .ok (.iconst 0, 1) := by decide +kernel
theorem dX6_addCrossing_55 : decode cX6_addCrossing 55 = .ok (.iconst 1, 1) := by decide +kernel
theorem dX6_addCrossing_56 : decode cX6_addCrossing 56 = .ok (.invokevirtual 160, 3) := by decide +kernel
theorem dX6_addCrossing_59 : decode cX6_addCrossing 59 = .ok (.ifCond .ne 6, 3) := by decide +kernel
theorem dX6_addCrossing_62 : decode cX6_addCrossing 62 = .ok (.bipush (-4), 2) := by decide +kernel
theorem dX6_addCrossing_64 : decode cX6_addCrossing 64 = .ok (.ireturn, 1) := by decide +kernel
theorem dX6_addCrossing_65 : decode cX6_addCrossing 65 = .ok (.aload_n 0, 1) := by decide +kernel
theorem dX6_addCrossing_66 : decode cX6_addCrossing 66 = .ok (.invokevirtual 64, 3) := by decide +kernel
theorem dX6_addCrossing_69 : decode cX6_addCrossing 69 = .ok (.aload_n 0, 1) := by decide +kernel
theorem dX6_addCrossing_70 : decode cX6_addCrossing 70 = .ok (.getfield 29, 3) := by decide +kernel
theorem dX6_addCrossing_73 : decode cX6_addCrossing 73 = .ok (.iload_n 1, 1) := by decide +kernel
theorem dX6_addCrossing_74 : decode cX6_addCrossing 74 = .ok (.iload_n 2, 1) := by decide +kernel
theorem dX6_addCrossing_75 : decode cX6_addCrossing 75 = .ok (.iload_n 3, 1) := by decide +kernel
theorem dX6_addCrossing_76 : decode cX6_addCrossing 76 = .ok (.iload 4, 2) := by decide +kernel
theorem dX6_addCrossing_78 : decode cX6_addCrossing 78 = .ok (.invokevirtual 150, 3) := by decide +kernel
theorem dX6_addCrossing_81 : decode cX6_addCrossing 81 = .ok (.aload_n 0, 1) := by decide +kernel
theorem dX6_addCrossing_82 : decode cX6_addCrossing 82 = .ok (.getfield 29, 3) := by decide +kernel
theorem dX6_addCrossing_85 : decode cX6_addCrossing 85 = .ok (.getfield 154, 3) := by decide +kernel
theorem dX6_addCrossing_88 : decode cX6_addCrossing 88 = .ok (.iconst 1, 1) := by decide +kernel
theorem dX6_addCrossing_89 : decode cX6_addCrossing 89 = .ok (.isub, 1) := by decide +kernel
theorem dX6_addCrossing_90 : decode cX6_addCrossing 90 = .ok (.ireturn, 1) := by decide +kernel
theorem dX6_removeCrossing_0 : decode cX6_removeCrossing 0 = .ok (.aload_n 0, 1) := by decide +kernel
theorem dX6_removeCrossing_1 : decode cX6_removeCrossing 1 = .ok (.getfield 29, 3) := by decide +kernel
theorem dX6_removeCrossing_4 : decode cX6_removeCrossing 4 = .ok (.iload_n 1, 1) := by decide +kernel
theorem dX6_removeCrossing_5 : decode cX6_removeCrossing 5 = .ok (.invokevirtual 164, 3) := by decide +kernel
theorem dX6_removeCrossing_8 : decode cX6_removeCrossing 8 = .ok (.ifCond .ne 5, 3) := by decide +kernel
theorem dX6_removeCrossing_11 : decode cX6_removeCrossing 11 = .ok (.iconst (-1), 1) := by decide +kernel
theorem dX6_removeCrossing_12 : decode cX6_removeCrossing 12 = .ok (.ireturn, 1) := by decide +kernel
theorem dX6_removeCrossing_13 : decode cX6_removeCrossing 13 = .ok (.aload_n 0, 1) := by decide +kernel
theorem dX6_removeCrossing_14 : decode cX6_removeCrossing 14 = .ok (.invokevirtual 64, 3) := by decide +kernel
theorem dX6_removeCrossing_17 : decode cX6_removeCrossing 17 = .ok (.aload_n 0, 1) := by decide +kernel
theorem dX6_removeCrossing_18 : decode cX6_removeCrossing 18 = .ok (.getfield 29, 3) := by decide +kernel
theorem dX6_removeCrossing_21 : decode cX6_removeCrossing 21 = .ok (.iload_n 1, 1) := by decide +kernel
theorem dX6_removeCrossing_22 : decode cX6_removeCrossing 22 = .ok (.invokevirtual 167, 3) := by decide +kernel
theorem dX6_removeCrossing_25 : decode cX6_removeCrossing 25 = .ok (.aload_n 0, 1) := by decide +kernel
theorem dX6_removeCrossing_26 : decode cX6_removeCrossing 26 = .ok (.getfield 29, 3) := by decide +kernel
theorem dX6_removeCrossing_29 : decode cX6_removeCrossing 29 = .ok (.getfield 154, 3) := by decide +kernel
theorem dX6_removeCrossing_32 : decode cX6_removeCrossing 32 = .ok (.ireturn, 1) := by decide +kernel
theorem dX6_kink_0 : decode cX6_kink 0 = .ok (.aload_n 0, 1) := by decide +kernel
theorem dX6_kink_1 : decode cX6_kink 1 = .ok (.getfield 29, 3) := by decide +kernel
theorem dX6_kink_4 : decode cX6_kink 4 = .ok (.iload_n 1, 1) := by decide +kernel
theorem dX6_kink_5 : decode cX6_kink 5 = .ok (.invokevirtual 157, 3) := by decide +kernel
theorem dX6_kink_8 : decode cX6_kink 8 = .ok (.ifCond .ne 5, 3) := by decide +kernel
theorem dX6_kink_11 : decode cX6_kink 11 = .ok (.iconst (-1), 1) := by decide +kernel
theorem dX6_kink_12 : decode cX6_kink 12 = .ok (.ireturn, 1) := by decide +kernel
theorem dX6_kink_13 : decode cX6_kink 13 = .ok (.iload_n 2, 1) := by decide +kernel
theorem dX6_kink_14 : decode cX6_kink 14 = .ok (.iconst 1, 1) := by decide +kernel
theorem dX6_kink_15 : decode cX6_kink 15 = .ok (.if_icmp .eq 11, 3) := by decide +kernel
theorem dX6_kink_18 : decode cX6_kink 18 = .ok (.iload_n 2, 1) := by decide +kernel
theorem dX6_kink_19 : decode cX6_kink 19 = .ok (.iconst (-1), 1) := by decide +kernel
theorem dX6_kink_20 : decode cX6_kink 20 = .ok (.if_icmp .eq 6, 3) := by decide +kernel
theorem dX6_kink_23 : decode cX6_kink 23 = .ok (.bipush (-2), 2) := by decide +kernel
theorem dX6_kink_25 : decode cX6_kink 25 = .ok (.ireturn, 1) := by decide +kernel
theorem dX6_kink_26 : decode cX6_kink 26 = .ok (.aload_n 0, 1) := by decide +kernel
theorem dX6_kink_27 : decode cX6_kink 27 = .ok (.getfield 29, 3) := by decide +kernel
theorem dX6_kink_30 : decode cX6_kink 30 = .ok (.iconst 1, 1) := by decide +kernel
theorem dX6_kink_31 : decode cX6_kink 31 = .ok (.iconst 1, 1) := by decide +kernel
theorem dX6_kink_32 : decode cX6_kink 32 = .ok (.invokevirtual 160, 3) := by decide +kernel
theorem dX6_kink_35 : decode cX6_kink 35 = .ok (.ifCond .ne 6, 3) := by decide +kernel
theorem dX6_kink_38 : decode cX6_kink 38 = .ok (.bipush (-4), 2) := by decide +kernel
theorem dX6_kink_40 : decode cX6_kink 40 = .ok (.ireturn, 1) := by decide +kernel
theorem dX6_kink_41 : decode cX6_kink 41 = .ok (.aload_n 0, 1) := by decide +kernel
theorem dX6_kink_42 : decode cX6_kink 42 = .ok (.invokevirtual 64, 3) := by decide +kernel
theorem dX6_kink_45 : decode cX6_kink 45 = .ok (.aload_n 0, 1) := by decide +kernel
theorem dX6_kink_46 : decode cX6_kink 46 = .ok (.getfield 29, 3) := by decide +kernel
theorem dX6_kink_49 : decode cX6_kink 49 = .ok (.invokevirtual 170, 3) := by decide +kernel
theorem dX6_kink_52 : decode cX6_kink 52 = .ok (.istore_n 3, 1) := by decide +kernel
theorem dX6_kink_53 : decode cX6_kink 53 = .ok (.aload_n 0, 1) := by decide +kernel
theorem dX6_kink_54 : decode cX6_kink 54 = .ok (.getfield 29, 3) := by decide +kernel
theorem dX6_kink_57 : decode cX6_kink 57 = .ok (.iload_n 1, 1) := by decide +kernel
theorem dX6_kink_58 : decode cX6_kink 58 = .ok (.iload_n 3, 1) := by decide +kernel
theorem dX6_kink_59 : decode cX6_kink 59 = .ok (.invokevirtual 173, 3) := by decide +kernel
theorem dX6_kink_62 : decode cX6_kink 62 = .ok (.aload_n 0, 1) := by decide +kernel
theorem dX6_kink_63 : decode cX6_kink 63 = .ok (.getfield 29, 3) := by decide +kernel
theorem dX6_kink_66 : decode cX6_kink 66 = .ok (.iload_n 1, 1) := by decide +kernel
theorem dX6_kink_67 : decode cX6_kink 67 = .ok (.iload_n 1, 1) := by decide +kernel
theorem dX6_kink_68 : decode cX6_kink 68 = .ok (.iload_n 3, 1) := by decide +kernel
theorem dX6_kink_69 : decode cX6_kink 69 = .ok (.iload_n 2, 1) := by decide +kernel
theorem dX6_kink_70 : decode cX6_kink 70 = .ok (.invokevirtual 150, 3) := by decide +kernel
theorem dX6_kink_73 : decode cX6_kink 73 = .ok (.iload_n 3, 1) := by decide +kernel
theorem dX6_kink_74 : decode cX6_kink 74 = .ok (.ireturn, 1) := by decide +kernel
theorem dX6_poke_0 : decode cX6_poke 0 = .ok (.aload_n 0, 1) := by decide +kernel
theorem dX6_poke_1 : decode cX6_poke 1 = .ok (.getfield 29, 3) := by decide +kernel
theorem dX6_poke_4 : decode cX6_poke 4 = .ok (.iload_n 1, 1) := by decide +kernel
theorem dX6_poke_5 : decode cX6_poke 5 = .ok (.invokevirtual 157, 3) := by decide +kernel
theorem dX6_poke_8 : decode cX6_poke 8 = .ok (.ifCond .eq 14, 3) := by decide +kernel
theorem dX6_poke_11 : decode cX6_poke 11 = .ok (.aload_n 0, 1) := by decide +kernel
theorem dX6_poke_12 : decode cX6_poke 12 = .ok (.getfield 29, 3) := by decide +kernel
theorem dX6_poke_15 : decode cX6_poke 15 = .ok (.iload_n 2, 1) := by decide +kernel
theorem dX6_poke_16 : decode cX6_poke 16 = .ok (.invokevirtual 157, 3) := by decide +kernel
theorem dX6_poke_19 : decode cX6_poke 19 = .ok (.ifCond .ne 5, 3) := by decide +kernel
theorem dX6_poke_22 : decode cX6_poke 22 = .ok (.iconst (-1), 1) := by decide +kernel
theorem dX6_poke_23 : decode cX6_poke 23 = .ok (.ireturn, 1) := by decide +kernel
theorem dX6_poke_24 : decode cX6_poke 24 = .ok (.aload_n 0, 1) := by decide +kernel
theorem dX6_poke_25 : decode cX6_poke 25 = .ok (.getfield 29, 3) := by decide +kernel
theorem dX6_poke_28 : decode cX6_poke 28 = .ok (.iconst 2, 1) := by decide +kernel
theorem dX6_poke_29 : decode cX6_poke 29 = .ok (.iconst 2, 1) := by decide +kernel
theorem dX6_poke_30 : decode cX6_poke 30 = .ok (.invokevirtual 160, 3) := by decide +kernel
theorem dX6_poke_33 : decode cX6_poke 33 = .ok (.ifCond .ne 6, 3) := by decide +kernel
theorem dX6_poke_36 : decode cX6_poke 36 = .ok (.bipush (-4), 2) := by decide +kernel
theorem dX6_poke_38 : decode cX6_poke 38 = .ok (.ireturn, 1) := by decide +kernel
theorem dX6_poke_39 : decode cX6_poke 39 = .ok (.aload_n 0, 1) := by decide +kernel
theorem dX6_poke_40 : decode cX6_poke 40 = .ok (.invokevirtual 64, 3) := by decide +kernel
theorem dX6_poke_43 : decode cX6_poke 43 = .ok (.aload_n 0, 1) := by decide +kernel
theorem dX6_poke_44 : decode cX6_poke 44 = .ok (.getfield 29, 3) := by decide +kernel
theorem dX6_poke_47 : decode cX6_poke 47 = .ok (.invokevirtual 170, 3) := by decide +kernel
theorem dX6_poke_50 : decode cX6_poke 50 = .ok (.istore_n 3, 1) := by decide +kernel
theorem dX6_poke_51 : decode cX6_poke 51 = .ok (.aload_n 0, 1) := by decide +kernel
theorem dX6_poke_52 : decode cX6_poke 52 = .ok (.getfield 29, 3) := by decide +kernel
theorem dX6_poke_55 : decode cX6_poke 55 = .ok (.invokevirtual 170, 3) := by decide +kernel
theorem dX6_poke_58 : decode cX6_poke 58 = .ok (.istore 4, 2) := by decide +kernel
theorem dX6_poke_60 : decode cX6_poke 60 = .ok (.aload_n 0, 1) := by decide +kernel
theorem dX6_poke_61 : decode cX6_poke 61 = .ok (.getfield 29, 3) := by decide +kernel
theorem dX6_poke_64 : decode cX6_poke 64 = .ok (.iload_n 1, 1) := by decide +kernel
theorem dX6_poke_65 : decode cX6_poke 65 = .ok (.iload 4, 2) := by decide +kernel
theorem dX6_poke_67 : decode cX6_poke 67 = .ok (.invokevirtual 173, 3) := by decide +kernel
theorem dX6_poke_70 : decode cX6_poke 70 = .ok (.aload_n 0, 1) := by decide +kernel
theorem dX6_poke_71 : decode cX6_poke 71 = .ok (.getfield 29, 3) := by decide +kernel
theorem dX6_poke_74 : decode cX6_poke 74 = .ok (.iload_n 2, 1) := by decide +kernel
theorem dX6_poke_75 : decode cX6_poke 75 = .ok (.iload_n 1, 1) := by decide +kernel
theorem dX6_poke_76 : decode cX6_poke 76 = .ok (.iload_n 3, 1) := by decide +kernel
theorem dX6_poke_77 : decode cX6_poke 77 = .ok (.iconst 1, 1) := by decide +kernel
theorem dX6_poke_78 : decode cX6_poke 78 = .ok (.invokevirtual 150, 3) := by decide +kernel
theorem dX6_poke_81 : decode cX6_poke 81 = .ok (.aload_n 0, 1) := by decide +kernel
theorem dX6_poke_82 : decode cX6_poke 82 = .ok (.getfield 29, 3) := by decide +kernel
theorem dX6_poke_85 : decode cX6_poke 85 = .ok (.iload_n 2, 1) := by decide +kernel
theorem dX6_poke_86 : decode cX6_poke 86 = .ok (.iload_n 3, 1) := by decide +kernel
theorem dX6_poke_87 : decode cX6_poke 87 = .ok (.iload 4, 2) := by decide +kernel
theorem dX6_poke_89 : decode cX6_poke 89 = .ok (.iconst (-1), 1) := by decide +kernel
theorem dX6_poke_90 : decode cX6_poke 90 = .ok (.invokevirtual 150, 3) := by decide +kernel
theorem dX6_poke_93 : decode cX6_poke 93 = .ok (.aload_n 0, 1) := by decide +kernel
theorem dX6_poke_94 : decode cX6_poke 94 = .ok (.getfield 29, 3) := by decide +kernel
theorem dX6_poke_97 : decode cX6_poke 97 = .ok (.getfield 134, 3) := by decide +kernel
theorem dX6_poke_100 : decode cX6_poke 100 = .ok (.ireturn, 1) := by decide +kernel
theorem dX6_arcs_0 : decode cX6_arcs 0 = .ok (.aload_n 0, 1) := by decide +kernel
theorem dX6_arcs_1 : decode cX6_arcs 1 = .ok (.getfield 29, 3) := by decide +kernel
theorem dX6_arcs_4 : decode cX6_arcs 4 = .ok (.getfield 134, 3) := by decide +kernel
theorem dX6_arcs_7 : decode cX6_arcs 7 = .ok (.ireturn, 1) := by decide +kernel
theorem dX6_crossings_0 : decode cX6_crossings 0 = .ok (.aload_n 0, 1) := by decide +kernel
theorem dX6_crossings_1 : decode cX6_crossings 1 = .ok (.getfield 29, 3) := by decide +kernel
theorem dX6_crossings_4 : decode cX6_crossings 4 = .ok (.getfield 154, 3) := by decide +kernel
theorem dX6_crossings_7 : decode cX6_crossings 7 = .ok (.ireturn, 1) := by decide +kernel
theorem dX6_crossing_0 : decode cX6_crossing 0 = .ok (.aload_n 0, 1) := by decide +kernel
theorem dX6_crossing_1 : decode cX6_crossing 1 = .ok (.getfield 29, 3) := by decide +kernel
theorem dX6_crossing_4 : decode cX6_crossing 4 = .ok (.iload_n 1, 1) := by decide +kernel
theorem dX6_crossing_5 : decode cX6_crossing 5 = .ok (.invokevirtual 164, 3) := by decide +kernel
theorem dX6_crossing_8 : decode cX6_crossing 8 = .ok (.ifCond .ne 5, 3) := by decide +kernel
theorem dX6_crossing_11 : decode cX6_crossing 11 = .ok (.iconst (-1), 1) := by decide +kernel
theorem dX6_crossing_12 : decode cX6_crossing 12 = .ok (.ireturn, 1) := by decide +kernel
theorem dX6_crossing_13 : decode cX6_crossing 13 = .ok (.iload_n 2, 1) := by decide +kernel
theorem dX6_crossing_14 : decode cX6_crossing 14 = .ok (.ifCond .lt 8, 3) := by decide +kernel
theorem dX6_crossing_17 : decode cX6_crossing 17 = .ok (.iload_n 2, 1) := by decide +kernel
theorem dX6_crossing_18 : decode cX6_crossing 18 = .ok (.iconst 4, 1) := by decide +kernel
theorem dX6_crossing_19 : decode cX6_crossing 19 = .ok (.if_icmp .lt 6, 3) := by decide +kernel
theorem dX6_crossing_22 : decode cX6_crossing 22 = .ok (.bipush (-2), 2) := by decide +kernel
theorem dX6_crossing_24 : decode cX6_crossing 24 = .ok (.ireturn, 1) := by decide +kernel
theorem dX6_crossing_25 : decode cX6_crossing 25 = .ok (.aload_n 0, 1) := by decide +kernel
theorem dX6_crossing_26 : decode cX6_crossing 26 = .ok (.getfield 29, 3) := by decide +kernel
theorem dX6_crossing_29 : decode cX6_crossing 29 = .ok (.iload_n 1, 1) := by decide +kernel
theorem dX6_crossing_30 : decode cX6_crossing 30 = .ok (.iload_n 2, 1) := by decide +kernel
theorem dX6_crossing_31 : decode cX6_crossing 31 = .ok (.invokevirtual 177, 3) := by decide +kernel
theorem dX6_crossing_34 : decode cX6_crossing 34 = .ok (.ireturn, 1) := by decide +kernel
theorem dX6_components_0 : decode cX6_components 0 = .ok (.aload_n 0, 1) := by decide +kernel
theorem dX6_components_1 : decode cX6_components 1 = .ok (.getfield 29, 3) := by decide +kernel
theorem dX6_components_4 : decode cX6_components 4 = .ok (.invokevirtual 180, 3) := by decide +kernel
theorem dX6_components_7 : decode cX6_components 7 = .ok (.ifCond .eq 13, 3) := by decide +kernel
theorem dX6_components_10 : decode cX6_components 10 = .ok (.aload_n 0, 1) := by decide +kernel
theorem dX6_components_11 : decode cX6_components 11 = .ok (.getfield 29, 3) := by decide +kernel
theorem dX6_components_14 : decode cX6_components 14 = .ok (.invokevirtual 184, 3) := by decide +kernel
theorem dX6_components_17 : decode cX6_components 17 = .ok (.goto 5, 3) := by decide +kernel
theorem dX6_components_20 : decode cX6_components 20 = .ok (.bipush (-6), 2) := by decide +kernel
theorem dX6_components_22 : decode cX6_components 22 = .ok (.ireturn, 1) := by decide +kernel
theorem dX6_writhe_0 : decode cX6_writhe 0 = .ok (.aload_n 0, 1) := by decide +kernel
theorem dX6_writhe_1 : decode cX6_writhe 1 = .ok (.getfield 29, 3) := by decide +kernel
theorem dX6_writhe_4 : decode cX6_writhe 4 = .ok (.invokevirtual 185, 3) := by decide +kernel
theorem dX6_writhe_7 : decode cX6_writhe 7 = .ok (.bipush 100, 2) := by decide +kernel
theorem dX6_writhe_9 : decode cX6_writhe 9 = .ok (.iadd, 1) := by decide +kernel
theorem dX6_writhe_10 : decode cX6_writhe 10 = .ok (.ireturn, 1) := by decide +kernel
theorem dX6_linking_0 : decode cX6_linking 0 = .ok (.aload_n 0, 1) := by decide +kernel
theorem dX6_linking_1 : decode cX6_linking 1 = .ok (.getfield 29, 3) := by decide +kernel
theorem dX6_linking_4 : decode cX6_linking 4 = .ok (.iload_n 1, 1) := by decide +kernel
theorem dX6_linking_5 : decode cX6_linking 5 = .ok (.invokevirtual 157, 3) := by decide +kernel
theorem dX6_linking_8 : decode cX6_linking 8 = .ok (.ifCond .eq 14, 3) := by decide +kernel
theorem dX6_linking_11 : decode cX6_linking 11 = .ok (.aload_n 0, 1) := by decide +kernel
theorem dX6_linking_12 : decode cX6_linking 12 = .ok (.getfield 29, 3) := by decide +kernel
theorem dX6_linking_15 : decode cX6_linking 15 = .ok (.iload_n 2, 1) := by decide +kernel
theorem dX6_linking_16 : decode cX6_linking 16 = .ok (.invokevirtual 157, 3) := by decide +kernel
theorem dX6_linking_19 : decode cX6_linking 19 = .ok (.ifCond .ne 5, 3) := by decide +kernel
theorem dX6_linking_22 : decode cX6_linking 22 = .ok (.iconst (-1), 1) := by decide +kernel
theorem dX6_linking_23 : decode cX6_linking 23 = .ok (.ireturn, 1) := by decide +kernel
theorem dX6_linking_24 : decode cX6_linking 24 = .ok (.aload_n 0, 1) := by decide +kernel
theorem dX6_linking_25 : decode cX6_linking 25 = .ok (.getfield 29, 3) := by decide +kernel
theorem dX6_linking_28 : decode cX6_linking 28 = .ok (.invokevirtual 180, 3) := by decide +kernel
theorem dX6_linking_31 : decode cX6_linking 31 = .ok (.ifCond .ne 6, 3) := by decide +kernel
theorem dX6_linking_34 : decode cX6_linking 34 = .ok (.bipush (-6), 2) := by decide +kernel
theorem dX6_linking_36 : decode cX6_linking 36 = .ok (.ireturn, 1) := by decide +kernel
theorem dX6_linking_37 : decode cX6_linking 37 = .ok (.aload_n 0, 1) := by decide +kernel
theorem dX6_linking_38 : decode cX6_linking 38 = .ok (.getfield 29, 3) := by decide +kernel
theorem dX6_linking_41 : decode cX6_linking 41 = .ok (.iload_n 1, 1) := by decide +kernel
theorem dX6_linking_42 : decode cX6_linking 42 = .ok (.iload_n 2, 1) := by decide +kernel
theorem dX6_linking_43 : decode cX6_linking 43 = .ok (.invokevirtual 188, 3) := by decide +kernel
theorem dX6_linking_46 : decode cX6_linking 46 = .ok (.bipush 100, 2) := by decide +kernel
theorem dX6_linking_48 : decode cX6_linking 48 = .ok (.iadd, 1) := by decide +kernel
theorem dX6_linking_49 : decode cX6_linking 49 = .ok (.ireturn, 1) := by decide +kernel
theorem dX6_colourings_0 : decode cX6_colourings 0 = .ok (.aload_n 0, 1) := by decide +kernel
theorem dX6_colourings_1 : decode cX6_colourings 1 = .ok (.getfield 38, 3) := by decide +kernel
theorem dX6_colourings_4 : decode cX6_colourings 4 = .ok (.invokevirtual 191, 3) := by decide +kernel
theorem dX6_colourings_7 : decode cX6_colourings 7 = .ok (.ireturn, 1) := by decide +kernel
theorem dX6_colouringsWith_0 : decode cX6_colouringsWith 0 = .ok (.aload_n 0, 1) := by decide +kernel
theorem dX6_colouringsWith_1 : decode cX6_colouringsWith 1 = .ok (.getfield 29, 3) := by decide +kernel
theorem dX6_colouringsWith_4 : decode cX6_colouringsWith 4 = .ok (.iload_n 1, 1) := by decide +kernel
theorem dX6_colouringsWith_5 : decode cX6_colouringsWith 5 = .ok (.invokevirtual 157, 3) := by decide +kernel
theorem dX6_colouringsWith_8 : decode cX6_colouringsWith 8 = .ok (.ifCond .eq 14, 3) := by decide +kernel
theorem dX6_colouringsWith_11 : decode cX6_colouringsWith 11 = .ok (.aload_n 0, 1) := by decide +kernel
theorem dX6_colouringsWith_12 : decode cX6_colouringsWith 12 = .ok (.getfield 10, 3) := by decide +kernel
theorem dX6_colouringsWith_15 : decode cX6_colouringsWith 15 = .ok (.iload_n 2, 1) := by decide +kernel
theorem dX6_colouringsWith_16 : decode cX6_colouringsWith 16 = .ok (.invokevirtual 75, 3) := by decide +kernel
theorem dX6_colouringsWith_19 : decode cX6_colouringsWith 19 = .ok (.ifCond .ne 5, 3) := by decide +kernel
theorem dX6_colouringsWith_22 : decode cX6_colouringsWith 22 = .ok (.iconst (-1), 1) := by decide +kernel
theorem dX6_colouringsWith_23 : decode cX6_colouringsWith 23 = .ok (.ireturn, 1) := by decide +kernel
theorem dX6_colouringsWith_24 : decode cX6_colouringsWith 24 = .ok (.aload_n 0, 1) := by decide +kernel
theorem dX6_colouringsWith_25 : decode cX6_colouringsWith 25 = .ok (.getfield 38, 3) := by decide +kernel
theorem dX6_colouringsWith_28 : decode cX6_colouringsWith 28 = .ok (.iload_n 1, 1) := by decide +kernel
theorem dX6_colouringsWith_29 : decode cX6_colouringsWith 29 = .ok (.iload_n 2, 1) := by decide +kernel
theorem dX6_colouringsWith_30 : decode cX6_colouringsWith 30 = .ok (.invokevirtual 194, 3) := by decide +kernel
theorem dX6_colouringsWith_33 : decode cX6_colouringsWith 33 = .ok (.ireturn, 1) := by decide +kernel
theorem dX6_colouringsAlike_0 : decode cX6_colouringsAlike 0 = .ok (.aload_n 0, 1) := by decide +kernel
theorem dX6_colouringsAlike_1 : decode cX6_colouringsAlike 1 = .ok (.getfield 29, 3) := by decide +kernel
theorem dX6_colouringsAlike_4 : decode cX6_colouringsAlike 4 = .ok (.iload_n 1, 1) := by decide +kernel
theorem dX6_colouringsAlike_5 : decode cX6_colouringsAlike 5 = .ok (.invokevirtual 157, 3) := by decide +kernel
theorem dX6_colouringsAlike_8 : decode cX6_colouringsAlike 8 = .ok (.ifCond .eq 14, 3) := by decide +kernel
theorem dX6_colouringsAlike_11 : decode cX6_colouringsAlike 11 = .ok (.aload_n 0, 1) := by decide +kernel
theorem dX6_colouringsAlike_12 : decode cX6_colouringsAlike 12 = .ok (.getfield 29, 3) := by decide +kernel
theorem dX6_colouringsAlike_15 : decode cX6_colouringsAlike 15 = .ok (.iload_n 2, 1) := by decide +kernel
theorem dX6_colouringsAlike_16 : decode cX6_colouringsAlike 16 = .ok (.invokevirtual 157, 3) := by decide +kernel
theorem dX6_colouringsAlike_19 : decode cX6_colouringsAlike 19 = .ok (.ifCond .ne 5, 3) := by decide +kernel
theorem dX6_colouringsAlike_22 : decode cX6_colouringsAlike 22 = .ok (.iconst (-1), 1) := by decide +kernel
theorem dX6_colouringsAlike_23 : decode cX6_colouringsAlike 23 = .ok (.ireturn, 1) := by decide +kernel
theorem dX6_colouringsAlike_24 : decode cX6_colouringsAlike 24 = .ok (.aload_n 0, 1) := by decide +kernel
theorem dX6_colouringsAlike_25 : decode cX6_colouringsAlike 25 = .ok (.getfield 38, 3) := by decide +kernel
theorem dX6_colouringsAlike_28 : decode cX6_colouringsAlike 28 = .ok (.iload_n 1, 1) := by decide +kernel
theorem dX6_colouringsAlike_29 : decode cX6_colouringsAlike 29 = .ok (.iload_n 2, 1) := by decide +kernel
theorem dX6_colouringsAlike_30 : decode cX6_colouringsAlike 30 = .ok (.invokevirtual 197, 3) := by decide +kernel
theorem dX6_colouringsAlike_33 : decode cX6_colouringsAlike 33 = .ok (.ireturn, 1) := by decide +kernel
theorem dX6_colouringsUsing_0 : decode cX6_colouringsUsing 0 = .ok (.iload_n 1, 1) := by decide +kernel
theorem dX6_colouringsUsing_1 : decode cX6_colouringsUsing 1 = .ok (.iconst 1, 1) := by decide +kernel
theorem dX6_colouringsUsing_2 : decode cX6_colouringsUsing 2 = .ok (.if_icmp .lt 9, 3) := by decide +kernel
theorem dX6_colouringsUsing_5 : decode cX6_colouringsUsing 5 = .ok (.iload_n 1, 1) := by decide +kernel
theorem dX6_colouringsUsing_6 : decode cX6_colouringsUsing 6 = .ok (.bipush 6, 2) := by decide +kernel
theorem dX6_colouringsUsing_8 : decode cX6_colouringsUsing 8 = .ok (.if_icmp .le 6, 3) := by decide +kernel
theorem dX6_colouringsUsing_11 : decode cX6_colouringsUsing 11 = .ok (.bipush (-2), 2) := by decide +kernel
theorem dX6_colouringsUsing_13 : decode cX6_colouringsUsing 13 = .ok (.ireturn, 1) := by decide +kernel
theorem dX6_colouringsUsing_14 : decode cX6_colouringsUsing 14 = .ok (.aload_n 0, 1) := by decide +kernel
theorem dX6_colouringsUsing_15 : decode cX6_colouringsUsing 15 = .ok (.getfield 38, 3) := by decide +kernel
theorem dX6_colouringsUsing_18 : decode cX6_colouringsUsing 18 = .ok (.invokevirtual 191, 3) := by decide +kernel
theorem dX6_colouringsUsing_21 : decode cX6_colouringsUsing 21 = .ok (.pop, 1) := by decide +kernel
theorem dX6_colouringsUsing_22 : decode cX6_colouringsUsing 22 = .ok (.aload_n 0, 1) := by decide +kernel
theorem dX6_colouringsUsing_23 : decode cX6_colouringsUsing 23 = .ok (.getfield 38, 3) := by decide +kernel
theorem dX6_colouringsUsing_26 : decode cX6_colouringsUsing 26 = .ok (.iload_n 1, 1) := by decide +kernel
theorem dX6_colouringsUsing_27 : decode cX6_colouringsUsing 27 = .ok (.invokevirtual 200, 3) := by decide +kernel
theorem dX6_colouringsUsing_30 : decode cX6_colouringsUsing 30 = .ok (.ireturn, 1) := by decide +kernel
theorem dX6_colour_0 : decode cX6_colour 0 = .ok (.iload_n 1, 1) := by decide +kernel
theorem dX6_colour_1 : decode cX6_colour 1 = .ok (.ifCond .lt 20, 3) := by decide +kernel
theorem dX6_colour_4 : decode cX6_colour 4 = .ok (.iload_n 1, 1) := by decide +kernel
theorem dX6_colour_5 : decode cX6_colour 5 = .ok (.ldc 203, 2) := by decide +kernel
theorem dX6_colour_7 : decode cX6_colour 7 = .ok (.if_icmp .ge 14, 3) := by decide +kernel
theorem dX6_colour_10 : decode cX6_colour 10 = .ok (.aload_n 0, 1) := by decide +kernel
theorem dX6_colour_11 : decode cX6_colour 11 = .ok (.getfield 29, 3) := by decide +kernel
theorem dX6_colour_14 : decode cX6_colour 14 = .ok (.iload_n 2, 1) := by decide +kernel
theorem dX6_colour_15 : decode cX6_colour 15 = .ok (.invokevirtual 157, 3) := by decide +kernel
theorem dX6_colour_18 : decode cX6_colour 18 = .ok (.ifCond .ne 5, 3) := by decide +kernel
theorem dX6_colour_21 : decode cX6_colour 21 = .ok (.iconst (-1), 1) := by decide +kernel
theorem dX6_colour_22 : decode cX6_colour 22 = .ok (.ireturn, 1) := by decide +kernel
theorem dX6_colour_23 : decode cX6_colour 23 = .ok (.aload_n 0, 1) := by decide +kernel
theorem dX6_colour_24 : decode cX6_colour 24 = .ok (.getfield 38, 3) := by decide +kernel
theorem dX6_colour_27 : decode cX6_colour 27 = .ok (.iload_n 1, 1) := by decide +kernel
theorem dX6_colour_28 : decode cX6_colour 28 = .ok (.iload_n 2, 1) := by decide +kernel
theorem dX6_colour_29 : decode cX6_colour 29 = .ok (.invokevirtual 204, 3) := by decide +kernel
theorem dX6_colour_32 : decode cX6_colour 32 = .ok (.ireturn, 1) := by decide +kernel
theorem dX6_isSize_0 : decode cX6_isSize 0 = .ok (.iload_n 0, 1) := by decide +kernel
theorem dX6_isSize_1 : decode cX6_isSize 1 = .ok (.iconst 1, 1) := by decide +kernel
theorem dX6_isSize_2 : decode cX6_isSize 2 = .ok (.if_icmp .lt 13, 3) := by decide +kernel
theorem dX6_isSize_5 : decode cX6_isSize 5 = .ok (.iload_n 0, 1) := by decide +kernel
theorem dX6_isSize_6 : decode cX6_isSize 6 = .ok (.bipush 6, 2) := by decide +kernel
theorem dX6_isSize_8 : decode cX6_isSize 8 = .ok (.if_icmp .gt 7, 3) := by decide +kernel
theorem dX6_isSize_11 : decode cX6_isSize 11 = .ok (.iconst 1, 1) := by decide +kernel
theorem dX6_isSize_12 : decode cX6_isSize 12 = .ok (.goto 4, 3) := by decide +kernel
theorem dX6_isSize_15 : decode cX6_isSize 15 = .ok (.iconst 0, 1) := by decide +kernel
theorem dX6_isSize_16 : decode cX6_isSize 16 = .ok (.ireturn, 1) := by decide +kernel
theorem dX6_makeLinear_0 : decode cX6_makeLinear 0 = .ok (.aload_n 0, 1) := by decide +kernel
theorem dX6_makeLinear_1 : decode cX6_makeLinear 1 = .ok (.invokevirtual 64, 3) := by decide +kernel
theorem dX6_makeLinear_4 : decode cX6_makeLinear 4 = .ok (.aload_n 0, 1) := by decide +kernel
theorem dX6_makeLinear_5 : decode cX6_makeLinear 5 = .ok (.getfield 10, 3) := by decide +kernel
theorem dX6_makeLinear_8 : decode cX6_makeLinear 8 = .ok (.getfield 71, 3) := by decide +kernel
theorem dX6_makeLinear_11 : decode cX6_makeLinear 11 = .ok (.istore_n 3, 1) := by decide +kernel
theorem dX6_makeLinear_12 : decode cX6_makeLinear 12 = .ok (.aload_n 0, 1) := by decide +kernel
theorem dX6_makeLinear_13 : decode cX6_makeLinear 13 = .ok (.getfield 10, 3) := by decide +kernel
theorem dX6_makeLinear_16 : decode cX6_makeLinear 16 = .ok (.iload_n 1, 1) := by decide +kernel
theorem dX6_makeLinear_17 : decode cX6_makeLinear 17 = .ok (.iload_n 2, 1) := by decide +kernel
theorem dX6_makeLinear_18 : decode cX6_makeLinear 18 = .ok (.invokevirtual 240, 3) := by decide +kernel
theorem dX6_makeLinear_21 : decode cX6_makeLinear 21 = .ok (.iload_n 3, 1) := by decide +kernel
theorem dX6_makeLinear_22 : decode cX6_makeLinear 22 = .ok (.ireturn, 1) := by decide +kernel
theorem dX6_saveState_0 : decode cX6_saveState 0 = .ok (.aload_n 0, 1) := by decide +kernel
theorem dX6_saveState_1 : decode cX6_saveState 1 = .ok (.getfield 52, 3) := by decide +kernel
theorem dX6_saveState_4 : decode cX6_saveState 4 = .ok (.aload_n 0, 1) := by decide +kernel
theorem dX6_saveState_5 : decode cX6_saveState 5 = .ok (.getfield 10, 3) := by decide +kernel
theorem dX6_saveState_8 : decode cX6_saveState 8 = .ok (.aload_n 0, 1) := by decide +kernel
theorem dX6_saveState_9 : decode cX6_saveState 9 = .ok (.getfield 29, 3) := by decide +kernel
theorem dX6_saveState_12 : decode cX6_saveState 12 = .ok (.invokevirtual 243, 3) := by decide +kernel
theorem dX6_saveState_15 : decode cX6_saveState 15 = .ok (.return_, 1) := by decide +kernel
theorem dJ6_bitCount_0f7a4_0 : decode cJ6_bitCount_0f7a4 0 = .ok (.iload_n 0, 1) := by decide +kernel
theorem dJ6_bitCount_0f7a4_1 : decode cJ6_bitCount_0f7a4 1 = .ok (.iload_n 0, 1) := by decide +kernel
theorem dJ6_bitCount_0f7a4_2 : decode cJ6_bitCount_0f7a4 2 = .ok (.iconst 1, 1) := by decide +kernel
theorem dJ6_bitCount_0f7a4_3 : decode cJ6_bitCount_0f7a4 3 = .ok (.iushr, 1) := by decide +kernel
theorem dJ6_bitCount_0f7a4_4 : decode cJ6_bitCount_0f7a4 4 = .ok (.ldc_w 265, 3) := by decide +kernel
theorem dJ6_bitCount_0f7a4_7 : decode cJ6_bitCount_0f7a4 7 = .ok (.iand, 1) := by decide +kernel
theorem dJ6_bitCount_0f7a4_8 : decode cJ6_bitCount_0f7a4 8 = .ok (.isub, 1) := by decide +kernel
theorem dJ6_bitCount_0f7a4_9 : decode cJ6_bitCount_0f7a4 9 = .ok (.istore_n 0, 1) := by decide +kernel
theorem dJ6_bitCount_0f7a4_10 : decode cJ6_bitCount_0f7a4 10 = .ok (.iload_n 0, 1) := by decide +kernel
theorem dJ6_bitCount_0f7a4_11 : decode cJ6_bitCount_0f7a4 11 = .ok (.ldc_w 266, 3) := by decide +kernel
theorem dJ6_bitCount_0f7a4_14 : decode cJ6_bitCount_0f7a4 14 = .ok (.iand, 1) := by decide +kernel
theorem dJ6_bitCount_0f7a4_15 : decode cJ6_bitCount_0f7a4 15 = .ok (.iload_n 0, 1) := by decide +kernel
theorem dJ6_bitCount_0f7a4_16 : decode cJ6_bitCount_0f7a4 16 = .ok (.iconst 2, 1) := by decide +kernel
theorem dJ6_bitCount_0f7a4_17 : decode cJ6_bitCount_0f7a4 17 = .ok (.iushr, 1) := by decide +kernel
theorem dJ6_bitCount_0f7a4_18 : decode cJ6_bitCount_0f7a4 18 = .ok (.ldc_w 266, 3) := by decide +kernel
theorem dJ6_bitCount_0f7a4_21 : decode cJ6_bitCount_0f7a4 21 = .ok (.iand, 1) := by decide +kernel
theorem dJ6_bitCount_0f7a4_22 : decode cJ6_bitCount_0f7a4 22 = .ok (.iadd, 1) := by decide +kernel
theorem dJ6_bitCount_0f7a4_23 : decode cJ6_bitCount_0f7a4 23 = .ok (.istore_n 0, 1) := by decide +kernel
theorem dJ6_bitCount_0f7a4_24 : decode cJ6_bitCount_0f7a4 24 = .ok (.iload_n 0, 1) := by decide +kernel
theorem dJ6_bitCount_0f7a4_25 : decode cJ6_bitCount_0f7a4 25 = .ok (.iload_n 0, 1) := by decide +kernel
theorem dJ6_bitCount_0f7a4_26 : decode cJ6_bitCount_0f7a4 26 = .ok (.iconst 4, 1) := by decide +kernel
theorem dJ6_bitCount_0f7a4_27 : decode cJ6_bitCount_0f7a4 27 = .ok (.iushr, 1) := by decide +kernel
theorem dJ6_bitCount_0f7a4_28 : decode cJ6_bitCount_0f7a4 28 = .ok (.iadd, 1) := by decide +kernel
theorem dJ6_bitCount_0f7a4_29 : decode cJ6_bitCount_0f7a4 29 = .ok (.ldc_w 267, 3) := by decide +kernel
theorem dJ6_bitCount_0f7a4_32 : decode cJ6_bitCount_0f7a4 32 = .ok (.iand, 1) := by decide +kernel
theorem dJ6_bitCount_0f7a4_33 : decode cJ6_bitCount_0f7a4 33 = .ok (.istore_n 0, 1) := by decide +kernel
theorem dJ6_bitCount_0f7a4_34 : decode cJ6_bitCount_0f7a4 34 = .ok (.iload_n 0, 1) := by decide +kernel
theorem dJ6_bitCount_0f7a4_35 : decode cJ6_bitCount_0f7a4 35 = .ok (.iload_n 0, 1) := by decide +kernel
theorem dJ6_bitCount_0f7a4_36 : decode cJ6_bitCount_0f7a4 36 = .ok (.bipush 8, 2) := by decide +kernel
theorem dJ6_bitCount_0f7a4_38 : decode cJ6_bitCount_0f7a4 38 = .ok (.iushr, 1) := by decide +kernel
theorem dJ6_bitCount_0f7a4_39 : decode cJ6_bitCount_0f7a4 39 = .ok (.iadd, 1) := by decide +kernel
theorem dJ6_bitCount_0f7a4_40 : decode cJ6_bitCount_0f7a4 40 = .ok (.istore_n 0, 1) := by decide +kernel
theorem dJ6_bitCount_0f7a4_41 : decode cJ6_bitCount_0f7a4 41 = .ok (.iload_n 0, 1) := by decide +kernel
theorem dJ6_bitCount_0f7a4_42 : decode cJ6_bitCount_0f7a4 42 = .ok (.iload_n 0, 1) := by decide +kernel
theorem dJ6_bitCount_0f7a4_43 : decode cJ6_bitCount_0f7a4 43 = .ok (.bipush 16, 2) := by decide +kernel
theorem dJ6_bitCount_0f7a4_45 : decode cJ6_bitCount_0f7a4 45 = .ok (.iushr, 1) := by decide +kernel
theorem dJ6_bitCount_0f7a4_46 : decode cJ6_bitCount_0f7a4 46 = .ok (.iadd, 1) := by decide +kernel
theorem dJ6_bitCount_0f7a4_47 : decode cJ6_bitCount_0f7a4 47 = .ok (.istore_n 0, 1) := by decide +kernel
theorem dJ6_bitCount_0f7a4_48 : decode cJ6_bitCount_0f7a4 48 = .ok (.iload_n 0, 1) := by decide +kernel
theorem dJ6_bitCount_0f7a4_49 : decode cJ6_bitCount_0f7a4 49 = .ok (.bipush 63, 2) := by decide +kernel
theorem dJ6_bitCount_0f7a4_51 : decode cJ6_bitCount_0f7a4 51 = .ok (.iand, 1) := by decide +kernel
theorem dJ6_bitCount_0f7a4_52 : decode cJ6_bitCount_0f7a4 52 = .ok (.ireturn, 1) := by decide +kernel
theorem dJ9_floorMod_7cf53_0 : decode cJ9_floorMod_7cf53 0 = .ok (.iload_n 0, 1) := by decide +kernel
theorem dJ9_floorMod_7cf53_1 : decode cJ9_floorMod_7cf53 1 = .ok (.iload_n 1, 1) := by decide +kernel
theorem dJ9_floorMod_7cf53_2 : decode cJ9_floorMod_7cf53 2 = .ok (.irem, 1) := by decide +kernel
theorem dJ9_floorMod_7cf53_3 : decode cJ9_floorMod_7cf53 3 = .ok (.istore_n 2, 1) := by decide +kernel
theorem dJ9_floorMod_7cf53_4 : decode cJ9_floorMod_7cf53 4 = .ok (.iload_n 0, 1) := by decide +kernel
theorem dJ9_floorMod_7cf53_5 : decode cJ9_floorMod_7cf53 5 = .ok (.iload_n 1, 1) := by decide +kernel
theorem dJ9_floorMod_7cf53_6 : decode cJ9_floorMod_7cf53 6 = .ok (.ixor, 1) := by decide +kernel
theorem dJ9_floorMod_7cf53_7 : decode cJ9_floorMod_7cf53 7 = .ok (.ifCond .ge 11, 3) := by decide +kernel
theorem dJ9_floorMod_7cf53_10 : decode cJ9_floorMod_7cf53 10 = .ok (.iload_n 2, 1) := by decide +kernel
theorem dJ9_floorMod_7cf53_11 : decode cJ9_floorMod_7cf53 11 = .ok (.ifCond .eq 7, 3) := by decide +kernel
theorem dJ9_floorMod_7cf53_14 : decode cJ9_floorMod_7cf53 14 = .ok (.iload_n 2, 1) := by decide +kernel
theorem dJ9_floorMod_7cf53_15 : decode cJ9_floorMod_7cf53 15 = .ok (.iload_n 1, 1) := by decide +kernel
theorem dJ9_floorMod_7cf53_16 : decode cJ9_floorMod_7cf53 16 = .ok (.iadd, 1) := by decide +kernel
theorem dJ9_floorMod_7cf53_17 : decode cJ9_floorMod_7cf53 17 = .ok (.ireturn, 1) := by decide +kernel
theorem dJ9_floorMod_7cf53_18 : decode cJ9_floorMod_7cf53 18 = .ok (.iload_n 2, 1) := by decide +kernel
theorem dJ9_floorMod_7cf53_19 : decode cJ9_floorMod_7cf53 19 = .ok (.ireturn, 1) := by decide +kernel
theorem dJ9_max_7cf53_0 : decode cJ9_max_7cf53 0 = .ok (.iload_n 0, 1) := by decide +kernel
theorem dJ9_max_7cf53_1 : decode cJ9_max_7cf53 1 = .ok (.iload_n 1, 1) := by decide +kernel
theorem dJ9_max_7cf53_2 : decode cJ9_max_7cf53 2 = .ok (.if_icmp .lt 7, 3) := by decide +kernel
theorem dJ9_max_7cf53_5 : decode cJ9_max_7cf53 5 = .ok (.iload_n 0, 1) := by decide +kernel
theorem dJ9_max_7cf53_6 : decode cJ9_max_7cf53 6 = .ok (.goto 4, 3) := by decide +kernel
theorem dJ9_max_7cf53_9 : decode cJ9_max_7cf53 9 = .ok (.iload_n 1, 1) := by decide +kernel
theorem dJ9_max_7cf53_10 : decode cJ9_max_7cf53 10 = .ok (.ireturn, 1) := by decide +kernel
theorem dJ9_min_7cf53_0 : decode cJ9_min_7cf53 0 = .ok (.iload_n 0, 1) := by decide +kernel
theorem dJ9_min_7cf53_1 : decode cJ9_min_7cf53 1 = .ok (.iload_n 1, 1) := by decide +kernel
theorem dJ9_min_7cf53_2 : decode cJ9_min_7cf53 2 = .ok (.if_icmp .gt 7, 3) := by decide +kernel
theorem dJ9_min_7cf53_5 : decode cJ9_min_7cf53 5 = .ok (.iload_n 0, 1) := by decide +kernel
theorem dJ9_min_7cf53_6 : decode cJ9_min_7cf53 6 = .ok (.goto 4, 3) := by decide +kernel
theorem dJ9_min_7cf53_9 : decode cJ9_min_7cf53 9 = .ok (.iload_n 1, 1) := by decide +kernel
theorem dJ9_min_7cf53_10 : decode cJ9_min_7cf53 10 = .ok (.ireturn, 1) := by decide +kernel
