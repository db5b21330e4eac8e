theorem dX5_init_0 : decode cX5_init 0 = .ok (.aload_n 0, 1) := by decide +kernel
theorem dX5_init_1 : decode cX5_init 1 = .ok (.invokespecial 1, 3) := by decide +kernel
theorem dX5_init_4 : decode cX5_init 4 = .ok (.aload_n 0, 1) := by decide +kernel
theorem dX5_init_5 : decode cX5_init 5 = .ok (.new 7, 3) := by decide +kernel
theorem dX5_init_8 : decode cX5_init 8 = .ok (.dup, 1) := by decide +kernel
theorem dX5_init_9 : decode cX5_init 9 = .ok (.invokespecial 9, 3) := by decide +kernel
theorem dX5_init_12 : decode cX5_init 12 = .ok (.putfield 10, 3) := by decide +kernel
theorem dX5_init_15 : decode cX5_init 15 = .ok (.aload_n 0, 1) := by decide +kernel
theorem dX5_init_16 : decode cX5_init 16 = .ok (.new 16, 3) := by decide +kernel
theorem dX5_init_19 : decode cX5_init 19 = .ok (.dup, 1) := by decide +kernel
theorem dX5_init_20 : decode cX5_init 20 = .ok (.invokespecial 18, 3) := by decide +kernel
theorem dX5_init_23 : decode cX5_init 23 = .ok (.putfield 19, 3) := by decide +kernel
theorem dX5_init_26 : decode cX5_init 26 = .ok (.aload_n 0, 1) := by decide +kernel
theorem dX5_init_27 : decode cX5_init 27 = .ok (.new 16, 3) := by decide +kernel
theorem dX5_init_30 : decode cX5_init 30 = .ok (.dup, 1) := by decide +kernel
theorem dX5_init_31 : decode cX5_init 31 = .ok (.invokespecial 18, 3) := by decide +kernel
theorem dX5_init_34 : decode cX5_init 34 = .ok (.putfield 23, 3) := by decide +kernel
theorem dX5_init_37 : decode cX5_init 37 = .ok (.aload_n 0, 1) := by decide +kernel
theorem dX5_init_38 : decode cX5_init 38 = .ok (.new 26, 3) := by decide +kernel
theorem dX5_init_41 : decode cX5_init 41 = .ok (.dup, 1) := by decide +kernel
theorem dX5_init_42 : decode cX5_init 42 = .ok (.invokespecial 28, 3) := by decide +kernel
theorem dX5_init_45 : decode cX5_init 45 = .ok (.putfield 29, 3) := by decide +kernel
theorem dX5_init_48 : decode cX5_init 48 = .ok (.aload_n 0, 1) := by decide +kernel
theorem dX5_init_49 : decode cX5_init 49 = .ok (.iconst 2, 1) := by decide +kernel
theorem dX5_init_50 : decode cX5_init 50 = .ok (.anewarray 16, 3) := by decide +kernel
theorem dX5_init_53 : decode cX5_init 53 = .ok (.putfield 33, 3) := by decide +kernel
theorem dX5_init_56 : decode cX5_init 56 = .ok (.iconst 0, 1) := by decide +kernel
theorem dX5_init_57 : decode cX5_init 57 = .ok (.istore_n 1, 1) := by decide +kernel
theorem dX5_init_58 : decode cX5_init 58 = .ok (.iload_n 1, 1) := by decide +kernel
theorem dX5_init_59 : decode cX5_init 59 = .ok (.iconst 2, 1) := by decide +kernel
theorem dX5_init_60 : decode cX5_init 60 = .ok (.if_icmp .ge 22, 3) := by decide +kernel
theorem dX5_init_63 : decode cX5_init 63 = .ok (.aload_n 0, 1) := by decide +kernel
theorem dX5_init_64 : decode cX5_init 64 = .ok (.getfield 33, 3) := by decide +kernel
theorem dX5_init_67 : decode cX5_init 67 = .ok (.iload_n 1, 1) := by decide +kernel
theorem dX5_init_68 : decode cX5_init 68 = .ok (.new 16, 3) := by decide +kernel
theorem dX5_init_71 : decode cX5_init 71 = .ok (.dup, 1) := by decide +kernel
theorem dX5_init_72 : decode cX5_init 72 = .ok (.invokespecial 18, 3) := by decide +kernel
theorem dX5_init_75 : decode cX5_init 75 = .ok (.aastore, 1) := by decide +kernel
theorem dX5_init_76 : decode cX5_init 76 = .ok (.iinc 1 1, 3) := by decide +kernel
theorem dX5_init_79 : decode cX5_init 79 = .ok (.goto (-21), 3) := by decide +kernel
theorem dX5_init_82 : decode cX5_init 82 = .ok (.aload_n 0, 1) := by decide +kernel
theorem dX5_init_83 : decode cX5_init 83 = .ok (.iconst 2, 1) := by decide +kernel
theorem dX5_init_84 : decode cX5_init 84 = .ok (.newarray .boolean, 2) := by decide +kernel
theorem dX5_init_86 : decode cX5_init 86 = .ok (.putfield 37, 3) := by decide +kernel
theorem dX5_init_89 : decode cX5_init 89 = .ok (.aload_n 0, 1) := by decide +kernel
theorem dX5_init_90 : decode cX5_init 90 = .ok (.iconst 4, 1) := by decide +kernel
theorem dX5_init_91 : decode cX5_init 91 = .ok (.anewarray 41, 3) := by decide +kernel
theorem dX5_init_94 : decode cX5_init 94 = .ok (.putfield 43, 3) := by decide +kernel
theorem dX5_init_97 : decode cX5_init 97 = .ok (.iconst 0, 1) := by decide +kernel
theorem dX5_init_98 : decode cX5_init 98 = .ok (.istore_n 1, 1) := by decide +kernel
theorem dX5_init_99 : decode cX5_init 99 = .ok (.iload_n 1, 1) := by decide +kernel
theorem dX5_init_100 : decode cX5_init 100 = .ok (.iconst 4, 1) := by decide +kernel
theorem dX5_init_101 : decode cX5_init 101 = .ok (.if_icmp .ge 22, 3) := by decide +kernel
theorem dX5_init_104 : decode cX5_init 104 = .ok (.aload_n 0, 1) := by decide +kernel
theorem dX5_init_105 : decode cX5_init 105 = .ok (.getfield 43, 3) := by decide +kernel
theorem dX5_init_108 : decode cX5_init 108 = .ok (.iload_n 1, 1) := by decide +kernel
theorem dX5_init_109 : decode cX5_init 109 = .ok (.new 41, 3) := by decide +kernel
theorem dX5_init_112 : decode cX5_init 112 = .ok (.dup, 1) := by decide +kernel
theorem dX5_init_113 : decode cX5_init 113 = .ok (.invokespecial 47, 3) := by decide +kernel
theorem dX5_init_116 : decode cX5_init 116 = .ok (.aastore, 1) := by decide +kernel
theorem dX5_init_117 : decode cX5_init 117 = .ok (.iinc 1 1, 3) := by decide +kernel
theorem dX5_init_120 : decode cX5_init 120 = .ok (.goto (-21), 3) := by decide +kernel
theorem dX5_init_123 : decode cX5_init 123 = .ok (.aload_n 0, 1) := by decide +kernel
theorem dX5_init_124 : decode cX5_init 124 = .ok (.bipush 8, 2) := by decide +kernel
theorem dX5_init_126 : decode cX5_init 126 = .ok (.newarray .int, 2) := by decide +kernel
theorem dX5_init_128 : decode cX5_init 128 = .ok (.putfield 48, 3) := by decide +kernel
theorem dX5_init_131 : decode cX5_init 131 = .ok (.return_, 1) := by decide +kernel
theorem dX5_feed_0 : decode cX5_feed 0 = .ok (.iload_n 1, 1) := by decide +kernel
theorem dX5_feed_1 : decode cX5_feed 1 = .ok (.bipush 127, 2) := by decide +kernel
theorem dX5_feed_3 : decode cX5_feed 3 = .ok (.invokestatic 52, 3) := by decide +kernel
theorem dX5_feed_6 : decode cX5_feed 6 = .ok (.ifCond .ne 5, 3) := by decide +kernel
theorem dX5_feed_9 : decode cX5_feed 9 = .ok (.iconst (-1), 1) := by decide +kernel
theorem dX5_feed_10 : decode cX5_feed 10 = .ok (.ireturn, 1) := by decide +kernel
theorem dX5_feed_11 : decode cX5_feed 11 = .ok (.aload_n 0, 1) := by decide +kernel
theorem dX5_feed_12 : decode cX5_feed 12 = .ok (.getfield 10, 3) := by decide +kernel
theorem dX5_feed_15 : decode cX5_feed 15 = .ok (.getfield 56, 3) := by decide +kernel
theorem dX5_feed_18 : decode cX5_feed 18 = .ok (.iload_n 1, 1) := by decide +kernel
theorem dX5_feed_19 : decode cX5_feed 19 = .ok (.invokevirtual 60, 3) := by decide +kernel
theorem dX5_feed_22 : decode cX5_feed 22 = .ok (.ifCond .eq 16, 3) := by decide +kernel
theorem dX5_feed_25 : decode cX5_feed 25 = .ok (.aload_n 0, 1) := by decide +kernel
theorem dX5_feed_26 : decode cX5_feed 26 = .ok (.getfield 10, 3) := by decide +kernel
theorem dX5_feed_29 : decode cX5_feed 29 = .ok (.getfield 56, 3) := by decide +kernel
theorem dX5_feed_32 : decode cX5_feed 32 = .ok (.getfield 66, 3) := by decide +kernel
theorem dX5_feed_35 : decode cX5_feed 35 = .ok (.goto 5, 3) := by decide +kernel
theorem dX5_feed_38 : decode cX5_feed 38 = .ok (.bipush (-3), 2) := by decide +kernel
theorem dX5_feed_40 : decode cX5_feed 40 = .ok (.ireturn, 1) := by decide +kernel
theorem dX5_end_0 : decode cX5_end 0 = .ok (.aload_n 0, 1) := by decide +kernel
theorem dX5_end_1 : decode cX5_end 1 = .ok (.getfield 10, 3) := by decide +kernel
theorem dX5_end_4 : decode cX5_end 4 = .ok (.getfield 56, 3) := by decide +kernel
theorem dX5_end_7 : decode cX5_end 7 = .ok (.getfield 66, 3) := by decide +kernel
theorem dX5_end_10 : decode cX5_end 10 = .ok (.istore_n 2, 1) := by decide +kernel
theorem dX5_end_11 : decode cX5_end 11 = .ok (.iload_n 1, 1) := by decide +kernel
theorem dX5_end_12 : decode cX5_end 12 = .ok (.iload_n 2, 1) := by decide +kernel
theorem dX5_end_13 : decode cX5_end 13 = .ok (.invokestatic 52, 3) := by decide +kernel
theorem dX5_end_16 : decode cX5_end 16 = .ok (.ifCond .ne 5, 3) := by decide +kernel
theorem dX5_end_19 : decode cX5_end 19 = .ok (.iconst (-1), 1) := by decide +kernel
theorem dX5_end_20 : decode cX5_end 20 = .ok (.ireturn, 1) := by decide +kernel
theorem dX5_end_21 : decode cX5_end 21 = .ok (.aload_n 0, 1) := by decide +kernel
theorem dX5_end_22 : decode cX5_end 22 = .ok (.getfield 10, 3) := by decide +kernel
theorem dX5_end_25 : decode cX5_end 25 = .ok (.getfield 56, 3) := by decide +kernel
theorem dX5_end_28 : decode cX5_end 28 = .ok (.iload_n 1, 1) := by decide +kernel
theorem dX5_end_29 : decode cX5_end 29 = .ok (.putfield 66, 3) := by decide +kernel
theorem dX5_end_32 : decode cX5_end 32 = .ok (.iload_n 2, 1) := by decide +kernel
theorem dX5_end_33 : decode cX5_end 33 = .ok (.ireturn, 1) := by decide +kernel
theorem dX5_text_0 : decode cX5_text 0 = .ok (.aload_n 0, 1) := by decide +kernel
theorem dX5_text_1 : decode cX5_text 1 = .ok (.getfield 10, 3) := by decide +kernel
theorem dX5_text_4 : decode cX5_text 4 = .ok (.invokevirtual 70, 3) := by decide +kernel
theorem dX5_text_7 : decode cX5_text 7 = .ok (.aload_n 0, 1) := by decide +kernel
theorem dX5_text_8 : decode cX5_text 8 = .ok (.getfield 10, 3) := by decide +kernel
theorem dX5_text_11 : decode cX5_text 11 = .ok (.getfield 56, 3) := by decide +kernel
theorem dX5_text_14 : decode cX5_text 14 = .ok (.iconst 0, 1) := by decide +kernel
theorem dX5_text_15 : decode cX5_text 15 = .ok (.putfield 66, 3) := by decide +kernel
theorem dX5_text_18 : decode cX5_text 18 = .ok (.aload_n 0, 1) := by decide +kernel
theorem dX5_text_19 : decode cX5_text 19 = .ok (.aload_n 0, 1) := by decide +kernel
theorem dX5_text_20 : decode cX5_text 20 = .ok (.getfield 10, 3) := by decide +kernel
theorem dX5_text_23 : decode cX5_text 23 = .ok (.getfield 73, 3) := by decide +kernel
theorem dX5_text_26 : decode cX5_text 26 = .ok (.putfield 76, 3) := by decide +kernel
theorem dX5_text_29 : decode cX5_text 29 = .ok (.aload_n 0, 1) := by decide +kernel
theorem dX5_text_30 : decode cX5_text 30 = .ok (.getfield 76, 3) := by decide +kernel
theorem dX5_text_33 : decode cX5_text 33 = .ok (.ifCond .eq 14, 3) := by decide +kernel
theorem dX5_text_36 : decode cX5_text 36 = .ok (.bipush (-10), 2) := by decide +kernel
theorem dX5_text_38 : decode cX5_text 38 = .ok (.aload_n 0, 1) := by decide +kernel
theorem dX5_text_39 : decode cX5_text 39 = .ok (.getfield 10, 3) := by decide +kernel
theorem dX5_text_42 : decode cX5_text 42 = .ok (.getfield 79, 3) := by decide +kernel
theorem dX5_text_45 : decode cX5_text 45 = .ok (.isub, 1) := by decide +kernel
theorem dX5_text_46 : decode cX5_text 46 = .ok (.ireturn, 1) := by decide +kernel
theorem dX5_text_47 : decode cX5_text 47 = .ok (.aload_n 0, 1) := by decide +kernel
theorem dX5_text_48 : decode cX5_text 48 = .ok (.getfield 19, 3) := by decide +kernel
theorem dX5_text_51 : decode cX5_text 51 = .ok (.aload_n 0, 1) := by decide +kernel
theorem dX5_text_52 : decode cX5_text 52 = .ok (.getfield 10, 3) := by decide +kernel
theorem dX5_text_55 : decode cX5_text 55 = .ok (.getfield 82, 3) := by decide +kernel
theorem dX5_text_58 : decode cX5_text 58 = .ok (.invokevirtual 85, 3) := by decide +kernel
theorem dX5_text_61 : decode cX5_text 61 = .ok (.aload_n 0, 1) := by decide +kernel
theorem dX5_text_62 : decode cX5_text 62 = .ok (.getfield 29, 3) := by decide +kernel
theorem dX5_text_65 : decode cX5_text 65 = .ok (.iconst 0, 1) := by decide +kernel
theorem dX5_text_66 : decode cX5_text 66 = .ok (.putfield 89, 3) := by decide +kernel
theorem dX5_text_69 : decode cX5_text 69 = .ok (.iconst 0, 1) := by decide +kernel
theorem dX5_text_70 : decode cX5_text 70 = .ok (.istore_n 1, 1) := by decide +kernel
theorem dX5_text_71 : decode cX5_text 71 = .ok (.iload_n 1, 1) := by decide +kernel
theorem dX5_text_72 : decode cX5_text 72 = .ok (.iconst 2, 1) := by decide +kernel
theorem dX5_text_73 : decode cX5_text 73 = .ok (.if_icmp .ge 16, 3) := by decide +kernel
theorem dX5_text_76 : decode cX5_text 76 = .ok (.aload_n 0, 1) := by decide +kernel
theorem dX5_text_77 : decode cX5_text 77 = .ok (.getfield 37, 3) := by decide +kernel
theorem dX5_text_80 : decode cX5_text 80 = .ok (.iload_n 1, 1) := by decide +kernel
theorem dX5_text_81 : decode cX5_text 81 = .ok (.iconst 0, 1) := by decide +kernel
theorem dX5_text_82 : decode cX5_text 82 = .ok (.bastore, 1) := by decide +kernel
theorem dX5_text_83 : decode cX5_text 83 = .ok (.iinc 1 1, 3) := by decide +kernel
theorem dX5_text_86 : decode cX5_text 86 = .ok (.goto (-15), 3) := by decide +kernel
theorem dX5_text_89 : decode cX5_text 89 = .ok (.aload_n 0, 1) := by decide +kernel
theorem dX5_text_90 : decode cX5_text 90 = .ok (.getfield 10, 3) := by decide +kernel
theorem dX5_text_93 : decode cX5_text 93 = .ok (.getfield 92, 3) := by decide +kernel
theorem dX5_text_96 : decode cX5_text 96 = .ok (.ireturn, 1) := by decide +kernel
theorem dX5_fault_0 : decode cX5_fault 0 = .ok (.aload_n 0, 1) := by decide +kernel
theorem dX5_fault_1 : decode cX5_fault 1 = .ok (.getfield 76, 3) := by decide +kernel
theorem dX5_fault_4 : decode cX5_fault 4 = .ok (.ireturn, 1) := by decide +kernel
theorem dX5_rule_0 : decode cX5_rule 0 = .ok (.iload_n 1, 1) := by decide +kernel
theorem dX5_rule_1 : decode cX5_rule 1 = .ok (.tableswitch 91 0 5 #[39, 47, 55, 66, 74, 83], 39) := by decide +kernel
theorem dX5_rule_40 : decode cX5_rule 40 = .ok (.aload_n 0, 1) := by decide +kernel
theorem dX5_rule_41 : decode cX5_rule 41 = .ok (.getfield 19, 3) := by decide +kernel
theorem dX5_rule_44 : decode cX5_rule 44 = .ok (.getfield 95, 3) := by decide +kernel
theorem dX5_rule_47 : decode cX5_rule 47 = .ok (.ireturn, 1) := by decide +kernel
theorem dX5_rule_48 : decode cX5_rule 48 = .ok (.aload_n 0, 1) := by decide +kernel
theorem dX5_rule_49 : decode cX5_rule 49 = .ok (.getfield 19, 3) := by decide +kernel
theorem dX5_rule_52 : decode cX5_rule 52 = .ok (.getfield 98, 3) := by decide +kernel
theorem dX5_rule_55 : decode cX5_rule 55 = .ok (.ireturn, 1) := by decide +kernel
theorem dX5_rule_56 : decode cX5_rule 56 = .ok (.aload_n 0, 1) := by decide +kernel
theorem dX5_rule_57 : decode cX5_rule 57 = .ok (.getfield 19, 3) := by decide +kernel
theorem dX5_rule_60 : decode cX5_rule 60 = .ok (.invokevirtual 101, 3) := by decide +kernel
theorem dX5_rule_63 : decode cX5_rule 63 = .ok (.invokestatic 105, 3) := by decide +kernel
theorem dX5_rule_66 : decode cX5_rule 66 = .ok (.ireturn, 1) := by decide +kernel
theorem dX5_rule_67 : decode cX5_rule 67 = .ok (.aload_n 0, 1) := by decide +kernel
theorem dX5_rule_68 : decode cX5_rule 68 = .ok (.getfield 19, 3) := by decide +kernel
theorem dX5_rule_71 : decode cX5_rule 71 = .ok (.getfield 111, 3) := by decide +kernel
theorem dX5_rule_74 : decode cX5_rule 74 = .ok (.ireturn, 1) := by decide +kernel
theorem dX5_rule_75 : decode cX5_rule 75 = .ok (.aload_n 0, 1) := by decide +kernel
theorem dX5_rule_76 : decode cX5_rule 76 = .ok (.getfield 19, 3) := by decide +kernel
theorem dX5_rule_79 : decode cX5_rule 79 = .ok (.iconst (-1), 1) := by decide +kernel
theorem dX5_rule_80 : decode cX5_rule 80 = .ok (.invokevirtual 114, 3) := by decide +kernel
theorem dX5_rule_83 : decode cX5_rule 83 = .ok (.ireturn, 1) := by decide +kernel
theorem dX5_rule_84 : decode cX5_rule 84 = .ok (.aload_n 0, 1) := by decide +kernel
theorem dX5_rule_85 : decode cX5_rule 85 = .ok (.getfield 19, 3) := by decide +kernel
theorem dX5_rule_88 : decode cX5_rule 88 = .ok (.invokevirtual 117, 3) := by decide +kernel
theorem dX5_rule_91 : decode cX5_rule 91 = .ok (.ireturn, 1) := by decide +kernel
theorem dX5_rule_92 : decode cX5_rule 92 = .ok (.iconst (-1), 1) := by decide +kernel
theorem dX5_rule_93 : decode cX5_rule 93 = .ok (.ireturn, 1) := by decide +kernel
theorem dX5_one_0 : decode cX5_one 0 = .ok (.aload_n 0, 1) := by decide +kernel
theorem dX5_one_1 : decode cX5_one 1 = .ok (.getfield 19, 3) := by decide +kernel
theorem dX5_one_4 : decode cX5_one 4 = .ok (.iload_n 1, 1) := by decide +kernel
theorem dX5_one_5 : decode cX5_one 5 = .ok (.invokevirtual 120, 3) := by decide +kernel
theorem dX5_one_8 : decode cX5_one 8 = .ok (.ifCond .ne 5, 3) := by decide +kernel
theorem dX5_one_11 : decode cX5_one 11 = .ok (.iconst (-1), 1) := by decide +kernel
theorem dX5_one_12 : decode cX5_one 12 = .ok (.ireturn, 1) := by decide +kernel
theorem dX5_one_13 : decode cX5_one 13 = .ok (.iload_n 2, 1) := by decide +kernel
theorem dX5_one_14 : decode cX5_one 14 = .ok (.tableswitch 134 0 6 #[42, 52, 62, 72, 99, 108, 125], 42) := by decide +kernel
theorem dX5_one_56 : decode cX5_one 56 = .ok (.aload_n 0, 1) := by decide +kernel
theorem dX5_one_57 : decode cX5_one 57 = .ok (.getfield 19, 3) := by decide +kernel
theorem dX5_one_60 : decode cX5_one 60 = .ok (.getfield 123, 3) := by decide +kernel
theorem dX5_one_63 : decode cX5_one 63 = .ok (.iload_n 1, 1) := by decide +kernel
theorem dX5_one_64 : decode cX5_one 64 = .ok (.iaload, 1) := by decide +kernel
theorem dX5_one_65 : decode cX5_one 65 = .ok (.ireturn, 1) := by decide +kernel
theorem dX5_one_66 : decode cX5_one 66 = .ok (.aload_n 0, 1) := by decide +kernel
theorem dX5_one_67 : decode cX5_one 67 = .ok (.getfield 19, 3) := by decide +kernel
theorem dX5_one_70 : decode cX5_one 70 = .ok (.getfield 126, 3) := by decide +kernel
theorem dX5_one_73 : decode cX5_one 73 = .ok (.iload_n 1, 1) := by decide +kernel
theorem dX5_one_74 : decode cX5_one 74 = .ok (.iaload, 1) := by decide +kernel
theorem dX5_one_75 : decode cX5_one 75 = .ok (.ireturn, 1) := by decide +kernel
theorem dX5_one_76 : decode cX5_one 76 = .ok (.aload_n 0, 1) := by decide +kernel
theorem dX5_one_77 : decode cX5_one 77 = .ok (.getfield 19, 3) := by decide +kernel
theorem dX5_one_80 : decode cX5_one 80 = .ok (.getfield 129, 3) := by decide +kernel
theorem dX5_one_83 : decode cX5_one 83 = .ok (.iload_n 1, 1) := by decide +kernel
theorem dX5_one_84 : decode cX5_one 84 = .ok (.iaload, 1) := by decide +kernel
theorem dX5_one_85 : decode cX5_one 85 = .ok (.ireturn, 1) := by decide +kernel
theorem dX5_one_86 : decode cX5_one 86 = .ok (.aload_n 0, 1) := by decide +kernel
theorem dX5_one_87 : decode cX5_one 87 = .ok (.getfield 19, 3) := by decide +kernel
theorem dX5_one_90 : decode cX5_one 90 = .ok (.getfield 132, 3) := by decide +kernel
theorem dX5_one_93 : decode cX5_one 93 = .ok (.iload_n 1, 1) := by decide +kernel
theorem dX5_one_94 : decode cX5_one 94 = .ok (.iaload, 1) := by decide +kernel
theorem dX5_one_95 : decode cX5_one 95 = .ok (.ifCond .ge 8, 3) := by decide +kernel
theorem dX5_one_98 : decode cX5_one 98 = .ok (.bipush (-4), 2) := by decide +kernel
theorem dX5_one_100 : decode cX5_one 100 = .ok (.goto 12, 3) := by decide +kernel
theorem dX5_one_103 : decode cX5_one 103 = .ok (.aload_n 0, 1) := by decide +kernel
theorem dX5_one_104 : decode cX5_one 104 = .ok (.getfield 19, 3) := by decide +kernel
theorem dX5_one_107 : decode cX5_one 107 = .ok (.getfield 132, 3) := by decide +kernel
theorem dX5_one_110 : decode cX5_one 110 = .ok (.iload_n 1, 1) := by decide +kernel
theorem dX5_one_111 : decode cX5_one 111 = .ok (.iaload, 1) := by decide +kernel
theorem dX5_one_112 : decode cX5_one 112 = .ok (.ireturn, 1) := by decide +kernel
theorem dX5_one_113 : decode cX5_one 113 = .ok (.aload_n 0, 1) := by decide +kernel
theorem dX5_one_114 : decode cX5_one 114 = .ok (.getfield 19, 3) := by decide +kernel
theorem dX5_one_117 : decode cX5_one 117 = .ok (.iload_n 1, 1) := by decide +kernel
theorem dX5_one_118 : decode cX5_one 118 = .ok (.invokevirtual 135, 3) := by decide +kernel
theorem dX5_one_121 : decode cX5_one 121 = .ok (.ireturn, 1) := by decide +kernel
theorem dX5_one_122 : decode cX5_one 122 = .ok (.aload_n 0, 1) := by decide +kernel
theorem dX5_one_123 : decode cX5_one 123 = .ok (.getfield 19, 3) := by decide +kernel
theorem dX5_one_126 : decode cX5_one 126 = .ok (.iload_n 1, 1) := by decide +kernel
theorem dX5_one_127 : decode cX5_one 127 = .ok (.aload_n 0, 1) := by decide +kernel
theorem dX5_one_128 : decode cX5_one 128 = .ok (.getfield 19, 3) := by decide +kernel
theorem dX5_one_131 : decode cX5_one 131 = .ok (.iload_n 1, 1) := by decide +kernel
theorem dX5_one_132 : decode cX5_one 132 = .ok (.invokevirtual 135, 3) := by decide +kernel
theorem dX5_one_135 : decode cX5_one 135 = .ok (.invokevirtual 138, 3) := by decide +kernel
theorem dX5_one_138 : decode cX5_one 138 = .ok (.ireturn, 1) := by decide +kernel
theorem dX5_one_139 : decode cX5_one 139 = .ok (.aload_n 0, 1) := by decide +kernel
theorem dX5_one_140 : decode cX5_one 140 = .ok (.getfield 19, 3) := by decide +kernel
theorem dX5_one_143 : decode cX5_one 143 = .ok (.iload_n 1, 1) := by decide +kernel
theorem dX5_one_144 : decode cX5_one 144 = .ok (.invokevirtual 142, 3) := by decide +kernel
theorem dX5_one_147 : decode cX5_one 147 = .ok (.ireturn, 1) := by decide +kernel
theorem dX5_one_148 : decode cX5_one 148 = .ok (.iconst (-1), 1) := by decide +kernel
theorem dX5_one_149 : decode cX5_one 149 = .ok (.ireturn, 1) := by decide +kernel
theorem dX5_wall_0 : decode cX5_wall 0 = .ok (.aload_n 0, 1) := by decide +kernel
theorem dX5_wall_1 : decode cX5_wall 1 = .ok (.getfield 19, 3) := by decide +kernel
theorem dX5_wall_4 : decode cX5_wall 4 = .ok (.iload_n 1, 1) := by decide +kernel
theorem dX5_wall_5 : decode cX5_wall 5 = .ok (.invokevirtual 145, 3) := by decide +kernel
theorem dX5_wall_8 : decode cX5_wall 8 = .ok (.ifCond .ne 5, 3) := by decide +kernel
theorem dX5_wall_11 : decode cX5_wall 11 = .ok (.iconst (-1), 1) := by decide +kernel
theorem dX5_wall_12 : decode cX5_wall 12 = .ok (.ireturn, 1) := by decide +kernel
theorem dX5_wall_13 : decode cX5_wall 13 = .ok (.iload_n 2, 1) := by decide +kernel
theorem dX5_wall_14 : decode cX5_wall 14 = .ok (.tableswitch 87 0 3 #[30, 40, 50, 78], 30) := by decide +kernel
theorem dX5_wall_44 : decode cX5_wall 44 = .ok (.aload_n 0, 1) := by decide +kernel
theorem dX5_wall_45 : decode cX5_wall 45 = .ok (.getfield 19, 3) := by decide +kernel
theorem dX5_wall_48 : decode cX5_wall 48 = .ok (.getfield 148, 3) := by decide +kernel
theorem dX5_wall_51 : decode cX5_wall 51 = .ok (.iload_n 1, 1) := by decide +kernel
theorem dX5_wall_52 : decode cX5_wall 52 = .ok (.iaload, 1) := by decide +kernel
theorem dX5_wall_53 : decode cX5_wall 53 = .ok (.ireturn, 1) := by decide +kernel
theorem dX5_wall_54 : decode cX5_wall 54 = .ok (.aload_n 0, 1) := by decide +kernel
theorem dX5_wall_55 : decode cX5_wall 55 = .ok (.getfield 19, 3) := by decide +kernel
theorem dX5_wall_58 : decode cX5_wall 58 = .ok (.getfield 151, 3) := by decide +kernel
theorem dX5_wall_61 : decode cX5_wall 61 = .ok (.iload_n 1, 1) := by decide +kernel
theorem dX5_wall_62 : decode cX5_wall 62 = .ok (.iaload, 1) := by decide +kernel
theorem dX5_wall_63 : decode cX5_wall 63 = .ok (.ireturn, 1) := by decide +kernel
theorem dX5_wall_64 : decode cX5_wall 64 = .ok (.aload_n 0, 1) := by decide +kernel
theorem dX5_wall_65 : decode cX5_wall 65 = .ok (.getfield 19, 3) := by decide +kernel
theorem dX5_wall_68 : decode cX5_wall 68 = .ok (.getfield 154, 3) := by decide +kernel
theorem dX5_wall_71 : decode cX5_wall 71 = .ok (.iload_n 1, 1) := by decide +kernel
theorem dX5_wall_72 : decode cX5_wall 72 = .ok (.iaload, 1) := by decide +kernel
theorem dX5_wall_73 : decode cX5_wall 73 = .ok (.iconst (-1), 1) := by decide +kernel
theorem dX5_wall_74 : decode cX5_wall 74 = .ok (.if_icmp .ne 8, 3) := by decide +kernel
theorem dX5_wall_77 : decode cX5_wall 77 = .ok (.bipush (-4), 2) := by decide +kernel
theorem dX5_wall_79 : decode cX5_wall 79 = .ok (.goto 12, 3) := by decide +kernel
theorem dX5_wall_82 : decode cX5_wall 82 = .ok (.aload_n 0, 1) := by decide +kernel
theorem dX5_wall_83 : decode cX5_wall 83 = .ok (.getfield 19, 3) := by decide +kernel
theorem dX5_wall_86 : decode cX5_wall 86 = .ok (.getfield 154, 3) := by decide +kernel
theorem dX5_wall_89 : decode cX5_wall 89 = .ok (.iload_n 1, 1) := by decide +kernel
theorem dX5_wall_90 : decode cX5_wall 90 = .ok (.iaload, 1) := by decide +kernel
theorem dX5_wall_91 : decode cX5_wall 91 = .ok (.ireturn, 1) := by decide +kernel
theorem dX5_wall_92 : decode cX5_wall 92 = .ok (.aload_n 0, 1) := by decide +kernel
theorem dX5_wall_93 : decode cX5_wall 93 = .ok (.getfield 19, 3) := by decide +kernel
theorem dX5_wall_96 : decode cX5_wall 96 = .ok (.iload_n 1, 1) := by decide +kernel
theorem dX5_wall_97 : decode cX5_wall 97 = .ok (.invokevirtual 157, 3) := by decide +kernel
theorem dX5_wall_100 : decode cX5_wall 100 = .ok (.ireturn, 1) := by decide +kernel
theorem dX5_wall_101 : decode cX5_wall 101 = .ok (.iconst (-1), 1) := by decide +kernel
theorem dX5_wall_102 : decode cX5_wall 102 = .ok (.ireturn, 1) := by decide +kernel
theorem dX5_room_0 : decode cX5_room 0 = .ok (.iload_n 1, 1) := by decide +kernel
theorem dX5_room_1 : decode cX5_room 1 = .ok (.invokestatic 160, 3) := by decide +kernel
theorem dX5_room_4 : decode cX5_room 4 = .ok (.ifCond .ne 5, 3) := by decide +kernel
theorem dX5_room_7 : decode cX5_room 7 = .ok (.iconst (-1), 1) := by decide +kernel
theorem dX5_room_8 : decode cX5_room 8 = .ok (.ireturn, 1) := by decide +kernel
theorem dX5_room_9 : decode cX5_room 9 = .ok (.iload_n 2, 1) := by decide +kernel
theorem dX5_room_10 : decode cX5_room 10 = .ok (.lookupswitch 45 #[(0, 26), (1, 36)], 26) := by decide +kernel
theorem dX5_room_36 : decode cX5_room 36 = .ok (.aload_n 0, 1) := by decide +kernel
theorem dX5_room_37 : decode cX5_room 37 = .ok (.getfield 19, 3) := by decide +kernel
theorem dX5_room_40 : decode cX5_room 40 = .ok (.getfield 163, 3) := by decide +kernel
theorem dX5_room_43 : decode cX5_room 43 = .ok (.iload_n 1, 1) := by decide +kernel
theorem dX5_room_44 : decode cX5_room 44 = .ok (.iaload, 1) := by decide +kernel
theorem dX5_room_45 : decode cX5_room 45 = .ok (.ireturn, 1) := by decide +kernel
theorem dX5_room_46 : decode cX5_room 46 = .ok (.aload_n 0, 1) := by decide +kernel
theorem dX5_room_47 : decode cX5_room 47 = .ok (.getfield 19, 3) := by decide +kernel
theorem dX5_room_50 : decode cX5_room 50 = .ok (.iload_n 1, 1) := by decide +kernel
theorem dX5_room_51 : decode cX5_room 51 = .ok (.invokevirtual 166, 3) := by decide +kernel
theorem dX5_room_54 : decode cX5_room 54 = .ok (.ireturn, 1) := by decide +kernel
theorem dX5_room_55 : decode cX5_room 55 = .ok (.iconst (-1), 1) := by decide +kernel
theorem dX5_room_56 : decode cX5_room 56 = .ok (.ireturn, 1) := by decide +kernel
theorem dX5_act_0 : decode cX5_act 0 = .ok (.iload_n 1, 1) := by decide +kernel
theorem dX5_act_1 : decode cX5_act 1 = .ok (.ifCond .lt 14, 3) := by decide +kernel
theorem dX5_act_4 : decode cX5_act 4 = .ok (.iload_n 1, 1) := by decide +kernel
theorem dX5_act_5 : decode cX5_act 5 = .ok (.aload_n 0, 1) := by decide +kernel
theorem dX5_act_6 : decode cX5_act 6 = .ok (.getfield 19, 3) := by decide +kernel
theorem dX5_act_9 : decode cX5_act 9 = .ok (.getfield 111, 3) := by decide +kernel
theorem dX5_act_12 : decode cX5_act 12 = .ok (.if_icmp .lt 5, 3) := by decide +kernel
theorem dX5_act_15 : decode cX5_act 15 = .ok (.iconst (-1), 1) := by decide +kernel
theorem dX5_act_16 : decode cX5_act 16 = .ok (.ireturn, 1) := by decide +kernel
theorem dX5_act_17 : decode cX5_act 17 = .ok (.iload_n 2, 1) := by decide +kernel
theorem dX5_act_18 : decode cX5_act 18 = .ok (.lookupswitch 46 #[(0, 26), (1, 36)], 26) := by decide +kernel
theorem dX5_act_44 : decode cX5_act 44 = .ok (.aload_n 0, 1) := by decide +kernel
theorem dX5_act_45 : decode cX5_act 45 = .ok (.getfield 19, 3) := by decide +kernel
theorem dX5_act_48 : decode cX5_act 48 = .ok (.getfield 169, 3) := by decide +kernel
theorem dX5_act_51 : decode cX5_act 51 = .ok (.iload_n 1, 1) := by decide +kernel
theorem dX5_act_52 : decode cX5_act 52 = .ok (.iaload, 1) := by decide +kernel
theorem dX5_act_53 : decode cX5_act 53 = .ok (.ireturn, 1) := by decide +kernel
theorem dX5_act_54 : decode cX5_act 54 = .ok (.aload_n 0, 1) := by decide +kernel
theorem dX5_act_55 : decode cX5_act 55 = .ok (.getfield 19, 3) := by decide +kernel
theorem dX5_act_58 : decode cX5_act 58 = .ok (.getfield 172, 3) := by decide +kernel
theorem dX5_act_61 : decode cX5_act 61 = .ok (.iload_n 1, 1) := by decide +kernel
theorem dX5_act_62 : decode cX5_act 62 = .ok (.iaload, 1) := by decide +kernel
theorem dX5_act_63 : decode cX5_act 63 = .ok (.ireturn, 1) := by decide +kernel
theorem dX5_act_64 : decode cX5_act 64 = .ok (.iconst (-1), 1) := by decide +kernel
theorem dX5_act_65 : decode cX5_act 65 = .ok (.ireturn, 1) := by decide +kernel
theorem dX5_alter_0 : decode cX5_alter 0 = .ok (.aload_n 0, 1) := by decide +kernel
theorem dX5_alter_1 : decode cX5_alter 1 = .ok (.getfield 19, 3) := by decide +kernel
theorem dX5_alter_4 : decode cX5_alter 4 = .ok (.iload_n 1, 1) := by decide +kernel
theorem dX5_alter_5 : decode cX5_alter 5 = .ok (.invokevirtual 120, 3) := by decide +kernel
theorem dX5_alter_8 : decode cX5_alter 8 = .ok (.ifCond .ne 5, 3) := by decide +kernel
theorem dX5_alter_11 : decode cX5_alter 11 = .ok (.iconst (-1), 1) := by decide +kernel
theorem dX5_alter_12 : decode cX5_alter 12 = .ok (.ireturn, 1) := by decide +kernel
theorem dX5_alter_13 : decode cX5_alter 13 = .ok (.iload_n 2, 1) := by decide +kernel
theorem dX5_alter_14 : decode cX5_alter 14 = .ok (.tableswitch 69 0 2 #[26, 40, 54], 26) := by decide +kernel
theorem dX5_alter_40 : decode cX5_alter 40 = .ok (.aload_n 0, 1) := by decide +kernel
theorem dX5_alter_41 : decode cX5_alter 41 = .ok (.getfield 19, 3) := by decide +kernel
theorem dX5_alter_44 : decode cX5_alter 44 = .ok (.getfield 123, 3) := by decide +kernel
theorem dX5_alter_47 : decode cX5_alter 47 = .ok (.iload_n 1, 1) := by decide +kernel
theorem dX5_alter_48 : decode cX5_alter 48 = .ok (.iload_n 3, 1) := by decide +kernel
theorem dX5_alter_49 : decode cX5_alter 49 = .ok (.iconst 3, 1) := by decide +kernel
theorem dX5_alter_50 : decode cX5_alter 50 = .ok (.invokestatic 175, 3) := by decide +kernel
theorem dX5_alter_53 : decode cX5_alter 53 = .ok (.ireturn, 1) := by decide +kernel
theorem dX5_alter_54 : decode cX5_alter 54 = .ok (.aload_n 0, 1) := by decide +kernel
theorem dX5_alter_55 : decode cX5_alter 55 = .ok (.getfield 19, 3) := by decide +kernel
theorem dX5_alter_58 : decode cX5_alter 58 = .ok (.getfield 126, 3) := by decide +kernel
theorem dX5_alter_61 : decode cX5_alter 61 = .ok (.iload_n 1, 1) := by decide +kernel
theorem dX5_alter_62 : decode cX5_alter 62 = .ok (.iload_n 3, 1) := by decide +kernel
theorem dX5_alter_63 : decode cX5_alter 63 = .ok (.iconst 3, 1) := by decide +kernel
theorem dX5_alter_64 : decode cX5_alter 64 = .ok (.invokestatic 175, 3) := by decide +kernel
theorem dX5_alter_67 : decode cX5_alter 67 = .ok (.ireturn, 1) := by decide +kernel
theorem dX5_alter_68 : decode cX5_alter 68 = .ok (.aload_n 0, 1) := by decide +kernel
theorem dX5_alter_69 : decode cX5_alter 69 = .ok (.getfield 19, 3) := by decide +kernel
theorem dX5_alter_72 : decode cX5_alter 72 = .ok (.getfield 129, 3) := by decide +kernel
theorem dX5_alter_75 : decode cX5_alter 75 = .ok (.iload_n 1, 1) := by decide +kernel
theorem dX5_alter_76 : decode cX5_alter 76 = .ok (.iload_n 3, 1) := by decide +kernel
theorem dX5_alter_77 : decode cX5_alter 77 = .ok (.bipush 7, 2) := by decide +kernel
theorem dX5_alter_79 : decode cX5_alter 79 = .ok (.invokestatic 175, 3) := by decide +kernel
theorem dX5_alter_82 : decode cX5_alter 82 = .ok (.ireturn, 1) := by decide +kernel
theorem dX5_alter_83 : decode cX5_alter 83 = .ok (.iconst (-1), 1) := by decide +kernel
theorem dX5_alter_84 : decode cX5_alter 84 = .ok (.ireturn, 1) := by decide +kernel
theorem dX5_price_0 : decode cX5_price 0 = .ok (.aload_n 0, 1) := by decide +kernel
theorem dX5_price_1 : decode cX5_price 1 = .ok (.getfield 19, 3) := by decide +kernel
theorem dX5_price_4 : decode cX5_price 4 = .ok (.getfield 163, 3) := by decide +kernel
theorem dX5_price_7 : decode cX5_price 7 = .ok (.iload_n 1, 1) := by decide +kernel
theorem dX5_price_8 : decode cX5_price 8 = .ok (.iload_n 2, 1) := by decide +kernel
theorem dX5_price_9 : decode cX5_price 9 = .ok (.bipush 99, 2) := by decide +kernel
theorem dX5_price_11 : decode cX5_price 11 = .ok (.invokestatic 175, 3) := by decide +kernel
theorem dX5_price_14 : decode cX5_price 14 = .ok (.ireturn, 1) := by decide +kernel
theorem dX5_build_0 : decode cX5_build 0 = .ok (.iload_n 1, 1) := by decide +kernel
theorem dX5_build_1 : decode cX5_build 1 = .ok (.invokestatic 160, 3) := by decide +kernel
theorem dX5_build_4 : decode cX5_build 4 = .ok (.ifCond .eq 15, 3) := by decide +kernel
theorem dX5_build_7 : decode cX5_build 7 = .ok (.iload_n 2, 1) := by decide +kernel
theorem dX5_build_8 : decode cX5_build 8 = .ok (.invokestatic 160, 3) := by decide +kernel
theorem dX5_build_11 : decode cX5_build 11 = .ok (.ifCond .eq 8, 3) := by decide +kernel
theorem dX5_build_14 : decode cX5_build 14 = .ok (.iload_n 1, 1) := by decide +kernel
theorem dX5_build_15 : decode cX5_build 15 = .ok (.iload_n 2, 1) := by decide +kernel
theorem dX5_build_16 : decode cX5_build 16 = .ok (.if_icmp .ne 5, 3) := by decide +kernel
theorem dX5_build_19 : decode cX5_build 19 = .ok (.iconst (-1), 1) := by decide +kernel
theorem dX5_build_20 : decode cX5_build 20 = .ok (.ireturn, 1) := by decide +kernel
theorem dX5_build_21 : decode cX5_build 21 = .ok (.aload_n 0, 1) := by decide +kernel
theorem dX5_build_22 : decode cX5_build 22 = .ok (.getfield 19, 3) := by decide +kernel
theorem dX5_build_25 : decode cX5_build 25 = .ok (.iload_n 1, 1) := by decide +kernel
theorem dX5_build_26 : decode cX5_build 26 = .ok (.iload_n 2, 1) := by decide +kernel
theorem dX5_build_27 : decode cX5_build 27 = .ok (.invokevirtual 179, 3) := by decide +kernel
theorem dX5_build_30 : decode cX5_build 30 = .ok (.ifCond .eq 13, 3) := by decide +kernel
theorem dX5_build_33 : decode cX5_build 33 = .ok (.aload_n 0, 1) := by decide +kernel
theorem dX5_build_34 : decode cX5_build 34 = .ok (.getfield 19, 3) := by decide +kernel
theorem dX5_build_37 : decode cX5_build 37 = .ok (.getfield 98, 3) := by decide +kernel
theorem dX5_build_40 : decode cX5_build 40 = .ok (.goto 5, 3) := by decide +kernel
theorem dX5_build_43 : decode cX5_build 43 = .ok (.bipush (-3), 2) := by decide +kernel
theorem dX5_build_45 : decode cX5_build 45 = .ok (.ireturn, 1) := by decide +kernel
theorem dX5_plan_0 : decode cX5_plan 0 = .ok (.aload_n 0, 1) := by decide +kernel
theorem dX5_plan_1 : decode cX5_plan 1 = .ok (.getfield 19, 3) := by decide +kernel
theorem dX5_plan_4 : decode cX5_plan 4 = .ok (.iload_n 1, 1) := by decide +kernel
theorem dX5_plan_5 : decode cX5_plan 5 = .ok (.invokevirtual 120, 3) := by decide +kernel
theorem dX5_plan_8 : decode cX5_plan 8 = .ok (.ifCond .eq 14, 3) := by decide +kernel
theorem dX5_plan_11 : decode cX5_plan 11 = .ok (.aload_n 0, 1) := by decide +kernel
theorem dX5_plan_12 : decode cX5_plan 12 = .ok (.getfield 19, 3) := by decide +kernel
theorem dX5_plan_15 : decode cX5_plan 15 = .ok (.iload_n 2, 1) := by decide +kernel
theorem dX5_plan_16 : decode cX5_plan 16 = .ok (.invokevirtual 145, 3) := by decide +kernel
theorem dX5_plan_19 : decode cX5_plan 19 = .ok (.ifCond .ne 5, 3) := by decide +kernel
theorem dX5_plan_22 : decode cX5_plan 22 = .ok (.iconst (-1), 1) := by decide +kernel
theorem dX5_plan_23 : decode cX5_plan 23 = .ok (.ireturn, 1) := by decide +kernel
theorem dX5_plan_24 : decode cX5_plan 24 = .ok (.aload_n 0, 1) := by decide +kernel
theorem dX5_plan_25 : decode cX5_plan 25 = .ok (.getfield 19, 3) := by decide +kernel
theorem dX5_plan_28 : decode cX5_plan 28 = .ok (.iload_n 1, 1) := by decide +kernel
theorem dX5_plan_29 : decode cX5_plan 29 = .ok (.iload_n 2, 1) := by decide +kernel
theorem dX5_plan_30 : decode cX5_plan 30 = .ok (.invokevirtual 182, 3) := by decide +kernel
theorem dX5_plan_33 : decode cX5_plan 33 = .ok (.ifCond .eq 13, 3) := by decide +kernel
theorem dX5_plan_36 : decode cX5_plan 36 = .ok (.aload_n 0, 1) := by decide +kernel
theorem dX5_plan_37 : decode cX5_plan 37 = .ok (.getfield 19, 3) := by decide +kernel
theorem dX5_plan_40 : decode cX5_plan 40 = .ok (.getfield 111, 3) := by decide +kernel
theorem dX5_plan_43 : decode cX5_plan 43 = .ok (.goto 5, 3) := by decide +kernel
theorem dX5_plan_46 : decode cX5_plan 46 = .ok (.bipush (-3), 2) := by decide +kernel
theorem dX5_plan_48 : decode cX5_plan 48 = .ok (.ireturn, 1) := by decide +kernel
theorem dX5_cut_0 : decode cX5_cut 0 = .ok (.aload_n 0, 1) := by decide +kernel
theorem dX5_cut_1 : decode cX5_cut 1 = .ok (.getfield 19, 3) := by decide +kernel
theorem dX5_cut_4 : decode cX5_cut 4 = .ok (.getfield 111, 3) := by decide +kernel
theorem dX5_cut_7 : decode cX5_cut 7 = .ok (.istore_n 2, 1) := by decide +kernel
theorem dX5_cut_8 : decode cX5_cut 8 = .ok (.iload_n 1, 1) := by decide +kernel
theorem dX5_cut_9 : decode cX5_cut 9 = .ok (.iload_n 2, 1) := by decide +kernel
theorem dX5_cut_10 : decode cX5_cut 10 = .ok (.invokestatic 52, 3) := by decide +kernel
theorem dX5_cut_13 : decode cX5_cut 13 = .ok (.ifCond .ne 5, 3) := by decide +kernel
theorem dX5_cut_16 : decode cX5_cut 16 = .ok (.iconst (-1), 1) := by decide +kernel
theorem dX5_cut_17 : decode cX5_cut 17 = .ok (.ireturn, 1) := by decide +kernel
theorem dX5_cut_18 : decode cX5_cut 18 = .ok (.aload_n 0, 1) := by decide +kernel
theorem dX5_cut_19 : decode cX5_cut 19 = .ok (.getfield 19, 3) := by decide +kernel
theorem dX5_cut_22 : decode cX5_cut 22 = .ok (.iload_n 1, 1) := by decide +kernel
theorem dX5_cut_23 : decode cX5_cut 23 = .ok (.putfield 111, 3) := by decide +kernel
theorem dX5_cut_26 : decode cX5_cut 26 = .ok (.iload_n 2, 1) := by decide +kernel
theorem dX5_cut_27 : decode cX5_cut 27 = .ok (.ireturn, 1) := by decide +kernel
theorem dX5_hang_0 : decode cX5_hang 0 = .ok (.aload_n 0, 1) := by decide +kernel
theorem dX5_hang_1 : decode cX5_hang 1 = .ok (.getfield 19, 3) := by decide +kernel
theorem dX5_hang_4 : decode cX5_hang 4 = .ok (.iload_n 1, 1) := by decide +kernel
theorem dX5_hang_5 : decode cX5_hang 5 = .ok (.invokevirtual 120, 3) := by decide +kernel
theorem dX5_hang_8 : decode cX5_hang 8 = .ok (.ifCond .eq 14, 3) := by decide +kernel
theorem dX5_hang_11 : decode cX5_hang 11 = .ok (.aload_n 0, 1) := by decide +kernel
theorem dX5_hang_12 : decode cX5_hang 12 = .ok (.getfield 19, 3) := by decide +kernel
theorem dX5_hang_15 : decode cX5_hang 15 = .ok (.iload_n 2, 1) := by decide +kernel
theorem dX5_hang_16 : decode cX5_hang 16 = .ok (.invokevirtual 145, 3) := by decide +kernel
theorem dX5_hang_19 : decode cX5_hang 19 = .ok (.ifCond .ne 5, 3) := by decide +kernel
theorem dX5_hang_22 : decode cX5_hang 22 = .ok (.iconst (-1), 1) := by decide +kernel
theorem dX5_hang_23 : decode cX5_hang 23 = .ok (.ireturn, 1) := by decide +kernel
theorem dX5_hang_24 : decode cX5_hang 24 = .ok (.aload_n 0, 1) := by decide +kernel
theorem dX5_hang_25 : decode cX5_hang 25 = .ok (.getfield 19, 3) := by decide +kernel
theorem dX5_hang_28 : decode cX5_hang 28 = .ok (.iload_n 1, 1) := by decide +kernel
theorem dX5_hang_29 : decode cX5_hang 29 = .ok (.iload_n 2, 1) := by decide +kernel
theorem dX5_hang_30 : decode cX5_hang 30 = .ok (.invokevirtual 185, 3) := by decide +kernel
theorem dX5_hang_33 : decode cX5_hang 33 = .ok (.ifCond .eq 14, 3) := by decide +kernel
theorem dX5_hang_36 : decode cX5_hang 36 = .ok (.aload_n 0, 1) := by decide +kernel
theorem dX5_hang_37 : decode cX5_hang 37 = .ok (.getfield 19, 3) := by decide +kernel
theorem dX5_hang_40 : decode cX5_hang 40 = .ok (.iload_n 1, 1) := by decide +kernel
theorem dX5_hang_41 : decode cX5_hang 41 = .ok (.invokevirtual 135, 3) := by decide +kernel
theorem dX5_hang_44 : decode cX5_hang 44 = .ok (.goto 5, 3) := by decide +kernel
theorem dX5_hang_47 : decode cX5_hang 47 = .ok (.bipush (-2), 2) := by decide +kernel
theorem dX5_hang_49 : decode cX5_hang 49 = .ok (.ireturn, 1) := by decide +kernel
theorem dX5_fill_0 : decode cX5_fill 0 = .ok (.aload_n 0, 1) := by decide +kernel
theorem dX5_fill_1 : decode cX5_fill 1 = .ok (.getfield 19, 3) := by decide +kernel
theorem dX5_fill_4 : decode cX5_fill 4 = .ok (.iload_n 1, 1) := by decide +kernel
theorem dX5_fill_5 : decode cX5_fill 5 = .ok (.invokevirtual 145, 3) := by decide +kernel
theorem dX5_fill_8 : decode cX5_fill 8 = .ok (.ifCond .ne 5, 3) := by decide +kernel
theorem dX5_fill_11 : decode cX5_fill 11 = .ok (.iconst (-1), 1) := by decide +kernel
theorem dX5_fill_12 : decode cX5_fill 12 = .ok (.ireturn, 1) := by decide +kernel
theorem dX5_fill_13 : decode cX5_fill 13 = .ok (.aload_n 0, 1) := by decide +kernel
theorem dX5_fill_14 : decode cX5_fill 14 = .ok (.getfield 19, 3) := by decide +kernel
theorem dX5_fill_17 : decode cX5_fill 17 = .ok (.iload_n 1, 1) := by decide +kernel
theorem dX5_fill_18 : decode cX5_fill 18 = .ok (.bipush (-2), 2) := by decide +kernel
theorem dX5_fill_20 : decode cX5_fill 20 = .ok (.invokevirtual 188, 3) := by decide +kernel
theorem dX5_fill_23 : decode cX5_fill 23 = .ok (.istore_n 2, 1) := by decide +kernel
theorem dX5_fill_24 : decode cX5_fill 24 = .ok (.iload_n 2, 1) := by decide +kernel
theorem dX5_fill_25 : decode cX5_fill 25 = .ok (.iconst (-1), 1) := by decide +kernel
theorem dX5_fill_26 : decode cX5_fill 26 = .ok (.if_icmp .ne 8, 3) := by decide +kernel
theorem dX5_fill_29 : decode cX5_fill 29 = .ok (.bipush (-2), 2) := by decide +kernel
theorem dX5_fill_31 : decode cX5_fill 31 = .ok (.goto 4, 3) := by decide +kernel
theorem dX5_fill_34 : decode cX5_fill 34 = .ok (.iload_n 2, 1) := by decide +kernel
theorem dX5_fill_35 : decode cX5_fill 35 = .ok (.ireturn, 1) := by decide +kernel
theorem dX5_steps_0 : decode cX5_steps 0 = .ok (.aload_n 0, 1) := by decide +kernel
theorem dX5_steps_1 : decode cX5_steps 1 = .ok (.getfield 19, 3) := by decide +kernel
theorem dX5_steps_4 : decode cX5_steps 4 = .ok (.iload_n 1, 1) := by decide +kernel
theorem dX5_steps_5 : decode cX5_steps 5 = .ok (.invokevirtual 120, 3) := by decide +kernel
theorem dX5_steps_8 : decode cX5_steps 8 = .ok (.ifCond .eq 10, 3) := by decide +kernel
theorem dX5_steps_11 : decode cX5_steps 11 = .ok (.iload_n 2, 1) := by decide +kernel
theorem dX5_steps_12 : decode cX5_steps 12 = .ok (.invokestatic 160, 3) := by decide +kernel
theorem dX5_steps_15 : decode cX5_steps 15 = .ok (.ifCond .ne 5, 3) := by decide +kernel
theorem dX5_steps_18 : decode cX5_steps 18 = .ok (.iconst (-1), 1) := by decide +kernel
theorem dX5_steps_19 : decode cX5_steps 19 = .ok (.ireturn, 1) := by decide +kernel
theorem dX5_steps_20 : decode cX5_steps 20 = .ok (.aload_n 0, 1) := by decide +kernel
theorem dX5_steps_21 : decode cX5_steps 21 = .ok (.getfield 19, 3) := by decide +kernel
theorem dX5_steps_24 : decode cX5_steps 24 = .ok (.aload_n 0, 1) := by decide +kernel
theorem dX5_steps_25 : decode cX5_steps 25 = .ok (.getfield 19, 3) := by decide +kernel
theorem dX5_steps_28 : decode cX5_steps 28 = .ok (.getfield 129, 3) := by decide +kernel
theorem dX5_steps_31 : decode cX5_steps 31 = .ok (.iload_n 1, 1) := by decide +kernel
theorem dX5_steps_32 : decode cX5_steps 32 = .ok (.iaload, 1) := by decide +kernel
theorem dX5_steps_33 : decode cX5_steps 33 = .ok (.iload_n 2, 1) := by decide +kernel
theorem dX5_steps_34 : decode cX5_steps 34 = .ok (.aload_n 0, 1) := by decide +kernel
theorem dX5_steps_35 : decode cX5_steps 35 = .ok (.getfield 19, 3) := by decide +kernel
theorem dX5_steps_38 : decode cX5_steps 38 = .ok (.iload_n 1, 1) := by decide +kernel
theorem dX5_steps_39 : decode cX5_steps 39 = .ok (.invokevirtual 191, 3) := by decide +kernel
theorem dX5_steps_42 : decode cX5_steps 42 = .ok (.invokevirtual 194, 3) := by decide +kernel
theorem dX5_steps_45 : decode cX5_steps 45 = .ok (.ireturn, 1) := by decide +kernel
theorem dX5_way_0 : decode cX5_way 0 = .ok (.aload_n 0, 1) := by decide +kernel
theorem dX5_way_1 : decode cX5_way 1 = .ok (.getfield 19, 3) := by decide +kernel
theorem dX5_way_4 : decode cX5_way 4 = .ok (.iload_n 1, 1) := by decide +kernel
theorem dX5_way_5 : decode cX5_way 5 = .ok (.invokevirtual 120, 3) := by decide +kernel
theorem dX5_way_8 : decode cX5_way 8 = .ok (.ifCond .eq 19, 3) := by decide +kernel
theorem dX5_way_11 : decode cX5_way 11 = .ok (.iload_n 2, 1) := by decide +kernel
theorem dX5_way_12 : decode cX5_way 12 = .ok (.invokestatic 160, 3) := by decide +kernel
theorem dX5_way_15 : decode cX5_way 15 = .ok (.ifCond .eq 12, 3) := by decide +kernel
theorem dX5_way_18 : decode cX5_way 18 = .ok (.iload_n 3, 1) := by decide +kernel
theorem dX5_way_19 : decode cX5_way 19 = .ok (.bipush 6, 2) := by decide +kernel
theorem dX5_way_21 : decode cX5_way 21 = .ok (.invokestatic 52, 3) := by decide +kernel
theorem dX5_way_24 : decode cX5_way 24 = .ok (.ifCond .ne 5, 3) := by decide +kernel
theorem dX5_way_27 : decode cX5_way 27 = .ok (.iconst (-1), 1) := by decide +kernel
theorem dX5_way_28 : decode cX5_way 28 = .ok (.ireturn, 1) := by decide +kernel
theorem dX5_way_29 : decode cX5_way 29 = .ok (.aload_n 0, 1) := by decide +kernel
theorem dX5_way_30 : decode cX5_way 30 = .ok (.getfield 19, 3) := by decide +kernel
theorem dX5_way_33 : decode cX5_way 33 = .ok (.iload_n 1, 1) := by decide +kernel
theorem dX5_way_34 : decode cX5_way 34 = .ok (.iload_n 2, 1) := by decide +kernel
theorem dX5_way_35 : decode cX5_way 35 = .ok (.iload_n 3, 1) := by decide +kernel
theorem dX5_way_36 : decode cX5_way 36 = .ok (.invokevirtual 198, 3) := by decide +kernel
theorem dX5_way_39 : decode cX5_way 39 = .ok (.ireturn, 1) := by decide +kernel
theorem dX5_meet_0 : decode cX5_meet 0 = .ok (.aload_n 0, 1) := by decide +kernel
theorem dX5_meet_1 : decode cX5_meet 1 = .ok (.getfield 19, 3) := by decide +kernel
theorem dX5_meet_4 : decode cX5_meet 4 = .ok (.iload_n 1, 1) := by decide +kernel
theorem dX5_meet_5 : decode cX5_meet 5 = .ok (.invokevirtual 120, 3) := by decide +kernel
theorem dX5_meet_8 : decode cX5_meet 8 = .ok (.ifCond .eq 19, 3) := by decide +kernel
theorem dX5_meet_11 : decode cX5_meet 11 = .ok (.aload_n 0, 1) := by decide +kernel
theorem dX5_meet_12 : decode cX5_meet 12 = .ok (.getfield 19, 3) := by decide +kernel
theorem dX5_meet_15 : decode cX5_meet 15 = .ok (.iload_n 2, 1) := by decide +kernel
theorem dX5_meet_16 : decode cX5_meet 16 = .ok (.invokevirtual 120, 3) := by decide +kernel
theorem dX5_meet_19 : decode cX5_meet 19 = .ok (.ifCond .eq 8, 3) := by decide +kernel
theorem dX5_meet_22 : decode cX5_meet 22 = .ok (.iload_n 1, 1) := by decide +kernel
theorem dX5_meet_23 : decode cX5_meet 23 = .ok (.iload_n 2, 1) := by decide +kernel
theorem dX5_meet_24 : decode cX5_meet 24 = .ok (.if_icmp .ne 5, 3) := by decide +kernel
theorem dX5_meet_27 : decode cX5_meet 27 = .ok (.iconst (-1), 1) := by decide +kernel
theorem dX5_meet_28 : decode cX5_meet 28 = .ok (.ireturn, 1) := by decide +kernel
theorem dX5_meet_29 : decode cX5_meet 29 = .ok (.aload_n 0, 1) := by decide +kernel
theorem dX5_meet_30 : decode cX5_meet 30 = .ok (.getfield 19, 3) := by decide +kernel
theorem dX5_meet_33 : decode cX5_meet 33 = .ok (.iload_n 1, 1) := by decide +kernel
theorem dX5_meet_34 : decode cX5_meet 34 = .ok (.invokevirtual 135, 3) := by decide +kernel
theorem dX5_meet_37 : decode cX5_meet 37 = .ok (.aload_n 0, 1) := by decide +kernel
theorem dX5_meet_38 : decode cX5_meet 38 = .ok (.getfield 19, 3) := by decide +kernel
theorem dX5_meet_41 : decode cX5_meet 41 = .ok (.iload_n 2, 1) := by decide +kernel
theorem dX5_meet_42 : decode cX5_meet 42 = .ok (.invokevirtual 135, 3) := by decide +kernel
theorem dX5_meet_45 : decode cX5_meet 45 = .ok (.iand, 1) := by decide +kernel
theorem dX5_meet_46 : decode cX5_meet 46 = .ok (.ireturn, 1) := by decide +kernel
theorem dX5_runs_0 : decode cX5_runs 0 = .ok (.iload_n 1, 1) := by decide +kernel
theorem dX5_runs_1 : decode cX5_runs 1 = .ok (.iconst 3, 1) := by decide +kernel
theorem dX5_runs_2 : decode cX5_runs 2 = .ok (.invokestatic 52, 3) := by decide +kernel
theorem dX5_runs_5 : decode cX5_runs 5 = .ok (.ifCond .ne 5, 3) := by decide +kernel
theorem dX5_runs_8 : decode cX5_runs 8 = .ok (.iconst (-1), 1) := by decide +kernel
theorem dX5_runs_9 : decode cX5_runs 9 = .ok (.ireturn, 1) := by decide +kernel
theorem dX5_runs_10 : decode cX5_runs 10 = .ok (.aload_n 0, 1) := by decide +kernel
theorem dX5_runs_11 : decode cX5_runs 11 = .ok (.getfield 23, 3) := by decide +kernel
theorem dX5_runs_14 : decode cX5_runs 14 = .ok (.aload_n 0, 1) := by decide +kernel
theorem dX5_runs_15 : decode cX5_runs 15 = .ok (.getfield 19, 3) := by decide +kernel
theorem dX5_runs_18 : decode cX5_runs 18 = .ok (.invokevirtual 85, 3) := by decide +kernel
theorem dX5_runs_21 : decode cX5_runs 21 = .ok (.aload_n 0, 1) := by decide +kernel
theorem dX5_runs_22 : decode cX5_runs 22 = .ok (.getfield 23, 3) := by decide +kernel
theorem dX5_runs_25 : decode cX5_runs 25 = .ok (.bipush (-4), 2) := by decide +kernel
theorem dX5_runs_27 : decode cX5_runs 27 = .ok (.invokevirtual 201, 3) := by decide +kernel
theorem dX5_runs_30 : decode cX5_runs 30 = .ok (.istore_n 2, 1) := by decide +kernel
theorem dX5_runs_31 : decode cX5_runs 31 = .ok (.iload_n 1, 1) := by decide +kernel
theorem dX5_runs_32 : decode cX5_runs 32 = .ok (.tableswitch 53 0 2 #[28, 33, 45], 28) := by decide +kernel
theorem dX5_runs_60 : decode cX5_runs 60 = .ok (.iload_n 2, 1) := by decide +kernel
theorem dX5_runs_61 : decode cX5_runs 61 = .ok (.invokestatic 105, 3) := by decide +kernel
theorem dX5_runs_64 : decode cX5_runs 64 = .ok (.ireturn, 1) := by decide +kernel
theorem dX5_runs_65 : decode cX5_runs 65 = .ok (.iload_n 2, 1) := by decide +kernel
theorem dX5_runs_66 : decode cX5_runs 66 = .ok (.aload_n 0, 1) := by decide +kernel
theorem dX5_runs_67 : decode cX5_runs 67 = .ok (.getfield 19, 3) := by decide +kernel
theorem dX5_runs_70 : decode cX5_runs 70 = .ok (.getfield 111, 3) := by decide +kernel
theorem dX5_runs_73 : decode cX5_runs 73 = .ok (.invokestatic 204, 3) := by decide +kernel
theorem dX5_runs_76 : decode cX5_runs 76 = .ok (.ireturn, 1) := by decide +kernel
theorem dX5_runs_77 : decode cX5_runs 77 = .ok (.aload_n 0, 1) := by decide +kernel
theorem dX5_runs_78 : decode cX5_runs 78 = .ok (.getfield 23, 3) := by decide +kernel
theorem dX5_runs_81 : decode cX5_runs 81 = .ok (.invokevirtual 207, 3) := by decide +kernel
theorem dX5_runs_84 : decode cX5_runs 84 = .ok (.ireturn, 1) := by decide +kernel
theorem dX5_runs_85 : decode cX5_runs 85 = .ok (.aload_n 0, 1) := by decide +kernel
theorem dX5_runs_86 : decode cX5_runs 86 = .ok (.getfield 23, 3) := by decide +kernel
theorem dX5_runs_89 : decode cX5_runs 89 = .ok (.invokevirtual 101, 3) := by decide +kernel
theorem dX5_runs_92 : decode cX5_runs 92 = .ok (.invokestatic 105, 3) := by decide +kernel
theorem dX5_runs_95 : decode cX5_runs 95 = .ok (.ireturn, 1) := by decide +kernel
theorem dX5_ahead_0 : decode cX5_ahead 0 = .ok (.aload_n 0, 1) := by decide +kernel
theorem dX5_ahead_1 : decode cX5_ahead 1 = .ok (.getfield 19, 3) := by decide +kernel
theorem dX5_ahead_4 : decode cX5_ahead 4 = .ok (.iload_n 1, 1) := by decide +kernel
theorem dX5_ahead_5 : decode cX5_ahead 5 = .ok (.invokevirtual 120, 3) := by decide +kernel
theorem dX5_ahead_8 : decode cX5_ahead 8 = .ok (.ifCond .ne 5, 3) := by decide +kernel
theorem dX5_ahead_11 : decode cX5_ahead 11 = .ok (.iconst (-1), 1) := by decide +kernel
theorem dX5_ahead_12 : decode cX5_ahead 12 = .ok (.ireturn, 1) := by decide +kernel
theorem dX5_ahead_13 : decode cX5_ahead 13 = .ok (.aload_n 0, 1) := by decide +kernel
theorem dX5_ahead_14 : decode cX5_ahead 14 = .ok (.getfield 23, 3) := by decide +kernel
theorem dX5_ahead_17 : decode cX5_ahead 17 = .ok (.aload_n 0, 1) := by decide +kernel
theorem dX5_ahead_18 : decode cX5_ahead 18 = .ok (.getfield 19, 3) := by decide +kernel
theorem dX5_ahead_21 : decode cX5_ahead 21 = .ok (.invokevirtual 85, 3) := by decide +kernel
theorem dX5_ahead_24 : decode cX5_ahead 24 = .ok (.aload_n 0, 1) := by decide +kernel
theorem dX5_ahead_25 : decode cX5_ahead 25 = .ok (.getfield 23, 3) := by decide +kernel
theorem dX5_ahead_28 : decode cX5_ahead 28 = .ok (.bipush (-4), 2) := by decide +kernel
theorem dX5_ahead_30 : decode cX5_ahead 30 = .ok (.invokevirtual 201, 3) := by decide +kernel
theorem dX5_ahead_33 : decode cX5_ahead 33 = .ok (.pop, 1) := by decide +kernel
theorem dX5_ahead_34 : decode cX5_ahead 34 = .ok (.aload_n 0, 1) := by decide +kernel
theorem dX5_ahead_35 : decode cX5_ahead 35 = .ok (.getfield 23, 3) := by decide +kernel
theorem dX5_ahead_38 : decode cX5_ahead 38 = .ok (.iload_n 1, 1) := by decide +kernel
theorem dX5_ahead_39 : decode cX5_ahead 39 = .ok (.invokevirtual 135, 3) := by decide +kernel
theorem dX5_ahead_42 : decode cX5_ahead 42 = .ok (.ireturn, 1) := by decide +kernel
theorem dX5_best_0 : decode cX5_best 0 = .ok (.aload_n 0, 1) := by decide +kernel
theorem dX5_best_1 : decode cX5_best 1 = .ok (.getfield 19, 3) := by decide +kernel
theorem dX5_best_4 : decode cX5_best 4 = .ok (.iload_n 1, 1) := by decide +kernel
theorem dX5_best_5 : decode cX5_best 5 = .ok (.invokevirtual 120, 3) := by decide +kernel
theorem dX5_best_8 : decode cX5_best 8 = .ok (.ifCond .eq 18, 3) := by decide +kernel
theorem dX5_best_11 : decode cX5_best 11 = .ok (.iload_n 2, 1) := by decide +kernel
theorem dX5_best_12 : decode cX5_best 12 = .ok (.invokestatic 160, 3) := by decide +kernel
theorem dX5_best_15 : decode cX5_best 15 = .ok (.ifCond .eq 11, 3) := by decide +kernel
theorem dX5_best_18 : decode cX5_best 18 = .ok (.iload_n 3, 1) := by decide +kernel
theorem dX5_best_19 : decode cX5_best 19 = .ok (.iconst 1, 1) := by decide +kernel
theorem dX5_best_20 : decode cX5_best 20 = .ok (.invokestatic 52, 3) := by decide +kernel
theorem dX5_best_23 : decode cX5_best 23 = .ok (.ifCond .ne 5, 3) := by decide +kernel
theorem dX5_best_26 : decode cX5_best 26 = .ok (.iconst (-1), 1) := by decide +kernel
theorem dX5_best_27 : decode cX5_best 27 = .ok (.ireturn, 1) := by decide +kernel
theorem dX5_best_28 : decode cX5_best 28 = .ok (.aload_n 0, 1) := by decide +kernel
theorem dX5_best_29 : decode cX5_best 29 = .ok (.getfield 19, 3) := by decide +kernel
theorem dX5_best_32 : decode cX5_best 32 = .ok (.getfield 132, 3) := by decide +kernel
theorem dX5_best_35 : decode cX5_best 35 = .ok (.iload_n 1, 1) := by decide +kernel
theorem dX5_best_36 : decode cX5_best 36 = .ok (.iaload, 1) := by decide +kernel
theorem dX5_best_37 : decode cX5_best 37 = .ok (.iconst (-1), 1) := by decide +kernel
theorem dX5_best_38 : decode cX5_best 38 = .ok (.if_icmp .eq 6, 3) := by decide +kernel
theorem dX5_best_41 : decode cX5_best 41 = .ok (.bipush (-2), 2) := by decide +kernel
theorem dX5_best_43 : decode cX5_best 43 = .ok (.ireturn, 1) := by decide +kernel
theorem dX5_best_44 : decode cX5_best 44 = .ok (.bipush (-4), 2) := by decide +kernel
theorem dX5_best_46 : decode cX5_best 46 = .ok (.istore 4, 2) := by decide +kernel
theorem dX5_best_48 : decode cX5_best 48 = .ok (.bipush 8, 2) := by decide +kernel
theorem dX5_best_50 : decode cX5_best 50 = .ok (.istore 5, 2) := by decide +kernel
theorem dX5_best_52 : decode cX5_best 52 = .ok (.iconst 0, 1) := by decide +kernel
theorem dX5_best_53 : decode cX5_best 53 = .ok (.istore 6, 2) := by decide +kernel
theorem dX5_best_55 : decode cX5_best 55 = .ok (.iload 6, 2) := by decide +kernel
theorem dX5_best_57 : decode cX5_best 57 = .ok (.aload_n 0, 1) := by decide +kernel
theorem dX5_best_58 : decode cX5_best 58 = .ok (.getfield 19, 3) := by decide +kernel
theorem dX5_best_61 : decode cX5_best 61 = .ok (.getfield 98, 3) := by decide +kernel
theorem dX5_best_64 : decode cX5_best 64 = .ok (.if_icmp .ge 43, 3) := by decide +kernel
theorem dX5_best_67 : decode cX5_best 67 = .ok (.aload_n 0, 1) := by decide +kernel
theorem dX5_best_68 : decode cX5_best 68 = .ok (.getfield 19, 3) := by decide +kernel
theorem dX5_best_71 : decode cX5_best 71 = .ok (.iload_n 1, 1) := by decide +kernel
theorem dX5_best_72 : decode cX5_best 72 = .ok (.iload 6, 2) := by decide +kernel
theorem dX5_best_74 : decode cX5_best 74 = .ok (.iload_n 1, 1) := by decide +kernel
theorem dX5_best_75 : decode cX5_best 75 = .ok (.iload_n 2, 1) := by decide +kernel
theorem dX5_best_76 : decode cX5_best 76 = .ok (.invokevirtual 210, 3) := by decide +kernel
theorem dX5_best_79 : decode cX5_best 79 = .ok (.istore 7, 2) := by decide +kernel
theorem dX5_best_81 : decode cX5_best 81 = .ok (.iload 7, 2) := by decide +kernel
theorem dX5_best_83 : decode cX5_best 83 = .ok (.ifCond .lt 18, 3) := by decide +kernel
theorem dX5_best_86 : decode cX5_best 86 = .ok (.iload 7, 2) := by decide +kernel
theorem dX5_best_88 : decode cX5_best 88 = .ok (.iload 5, 2) := by decide +kernel
theorem dX5_best_90 : decode cX5_best 90 = .ok (.if_icmp .ge 11, 3) := by decide +kernel
theorem dX5_best_93 : decode cX5_best 93 = .ok (.iload 6, 2) := by decide +kernel
theorem dX5_best_95 : decode cX5_best 95 = .ok (.istore 4, 2) := by decide +kernel
theorem dX5_best_97 : decode cX5_best 97 = .ok (.iload 7, 2) := by decide +kernel
theorem dX5_best_99 : decode cX5_best 99 = .ok (.istore 5, 2) := by decide +kernel
theorem dX5_best_101 : decode cX5_best 101 = .ok (.iinc 6 1, 3) := by decide +kernel
theorem dX5_best_104 : decode cX5_best 104 = .ok (.goto (-49), 3) := by decide +kernel
theorem dX5_best_107 : decode cX5_best 107 = .ok (.iload 4, 2) := by decide +kernel
theorem dX5_best_109 : decode cX5_best 109 = .ok (.bipush (-4), 2) := by decide +kernel
theorem dX5_best_111 : decode cX5_best 111 = .ok (.if_icmp .eq 7, 3) := by decide +kernel
theorem dX5_best_114 : decode cX5_best 114 = .ok (.iload_n 3, 1) := by decide +kernel
theorem dX5_best_115 : decode cX5_best 115 = .ok (.ifCond .ne 8, 3) := by decide +kernel
theorem dX5_best_118 : decode cX5_best 118 = .ok (.iload 4, 2) := by decide +kernel
theorem dX5_best_120 : decode cX5_best 120 = .ok (.goto 5, 3) := by decide +kernel
theorem dX5_best_123 : decode cX5_best 123 = .ok (.iload 5, 2) := by decide +kernel
theorem dX5_best_125 : decode cX5_best 125 = .ok (.ireturn, 1) := by decide +kernel
theorem dX5_friend_0 : decode cX5_friend 0 = .ok (.aload_n 0, 1) := by decide +kernel
theorem dX5_friend_1 : decode cX5_friend 1 = .ok (.getfield 19, 3) := by decide +kernel
theorem dX5_friend_4 : decode cX5_friend 4 = .ok (.iload_n 1, 1) := by decide +kernel
theorem dX5_friend_5 : decode cX5_friend 5 = .ok (.invokevirtual 120, 3) := by decide +kernel
theorem dX5_friend_8 : decode cX5_friend 8 = .ok (.ifCond .eq 18, 3) := by decide +kernel
theorem dX5_friend_11 : decode cX5_friend 11 = .ok (.iload_n 2, 1) := by decide +kernel
theorem dX5_friend_12 : decode cX5_friend 12 = .ok (.invokestatic 160, 3) := by decide +kernel
theorem dX5_friend_15 : decode cX5_friend 15 = .ok (.ifCond .eq 11, 3) := by decide +kernel
theorem dX5_friend_18 : decode cX5_friend 18 = .ok (.iload_n 3, 1) := by decide +kernel
theorem dX5_friend_19 : decode cX5_friend 19 = .ok (.iconst 1, 1) := by decide +kernel
theorem dX5_friend_20 : decode cX5_friend 20 = .ok (.invokestatic 52, 3) := by decide +kernel
theorem dX5_friend_23 : decode cX5_friend 23 = .ok (.ifCond .ne 5, 3) := by decide +kernel
theorem dX5_friend_26 : decode cX5_friend 26 = .ok (.iconst (-1), 1) := by decide +kernel
theorem dX5_friend_27 : decode cX5_friend 27 = .ok (.ireturn, 1) := by decide +kernel
theorem dX5_friend_28 : decode cX5_friend 28 = .ok (.bipush (-4), 2) := by decide +kernel
theorem dX5_friend_30 : decode cX5_friend 30 = .ok (.istore 4, 2) := by decide +kernel
theorem dX5_friend_32 : decode cX5_friend 32 = .ok (.bipush 8, 2) := by decide +kernel
theorem dX5_friend_34 : decode cX5_friend 34 = .ok (.istore 5, 2) := by decide +kernel
theorem dX5_friend_36 : decode cX5_friend 36 = .ok (.iconst 0, 1) := by decide +kernel
theorem dX5_friend_37 : decode cX5_friend 37 = .ok (.istore 6, 2) := by decide +kernel
theorem dX5_friend_39 : decode cX5_friend 39 = .ok (.iload 6, 2) := by decide +kernel
theorem dX5_friend_41 : decode cX5_friend 41 = .ok (.aload_n 0, 1) := by decide +kernel
theorem dX5_friend_42 : decode cX5_friend 42 = .ok (.getfield 19, 3) := by decide +kernel
theorem dX5_friend_45 : decode cX5_friend 45 = .ok (.getfield 95, 3) := by decide +kernel
theorem dX5_friend_48 : decode cX5_friend 48 = .ok (.if_icmp .ge 82, 3) := by decide +kernel
theorem dX5_friend_51 : decode cX5_friend 51 = .ok (.iconst 0, 1) := by decide +kernel
theorem dX5_friend_52 : decode cX5_friend 52 = .ok (.istore 7, 2) := by decide +kernel
theorem dX5_friend_54 : decode cX5_friend 54 = .ok (.iload 7, 2) := by decide +kernel
theorem dX5_friend_56 : decode cX5_friend 56 = .ok (.aload_n 0, 1) := by decide +kernel
theorem dX5_friend_57 : decode cX5_friend 57 = .ok (.getfield 19, 3) := by decide +kernel
theorem dX5_friend_60 : decode cX5_friend 60 = .ok (.getfield 98, 3) := by decide +kernel
theorem dX5_friend_63 : decode cX5_friend 63 = .ok (.if_icmp .ge 61, 3) := by decide +kernel
theorem dX5_friend_66 : decode cX5_friend 66 = .ok (.iload 6, 2) := by decide +kernel
theorem dX5_friend_68 : decode cX5_friend 68 = .ok (.iload_n 1, 1) := by decide +kernel
theorem dX5_friend_69 : decode cX5_friend 69 = .ok (.if_icmp .ne 8, 3) := by decide +kernel
theorem dX5_friend_72 : decode cX5_friend 72 = .ok (.bipush (-4), 2) := by decide +kernel
theorem dX5_friend_74 : decode cX5_friend 74 = .ok (.goto 16, 3) := by decide +kernel
theorem dX5_friend_77 : decode cX5_friend 77 = .ok (.aload_n 0, 1) := by decide +kernel
theorem dX5_friend_78 : decode cX5_friend 78 = .ok (.getfield 19, 3) := by decide +kernel
theorem dX5_friend_81 : decode cX5_friend 81 = .ok (.iload 6, 2) := by decide +kernel
theorem dX5_friend_83 : decode cX5_friend 83 = .ok (.iload 7, 2) := by decide +kernel
theorem dX5_friend_85 : decode cX5_friend 85 = .ok (.iload_n 1, 1) := by decide +kernel
theorem dX5_friend_86 : decode cX5_friend 86 = .ok (.iload_n 2, 1) := by decide +kernel
theorem dX5_friend_87 : decode cX5_friend 87 = .ok (.invokevirtual 210, 3) := by decide +kernel
theorem dX5_friend_90 : decode cX5_friend 90 = .ok (.istore 8, 2) := by decide +kernel
theorem dX5_friend_92 : decode cX5_friend 92 = .ok (.iload 8, 2) := by decide +kernel
theorem dX5_friend_94 : decode cX5_friend 94 = .ok (.ifCond .lt 24, 3) := by decide +kernel
theorem dX5_friend_97 : decode cX5_friend 97 = .ok (.iload 8, 2) := by decide +kernel
theorem dX5_friend_99 : decode cX5_friend 99 = .ok (.iload 5, 2) := by decide +kernel
theorem dX5_friend_101 : decode cX5_friend 101 = .ok (.if_icmp .ge 17, 3) := by decide +kernel
theorem dX5_friend_104 : decode cX5_friend 104 = .ok (.bipush 10, 2) := by decide +kernel
theorem dX5_friend_106 : decode cX5_friend 106 = .ok (.iload 6, 2) := by decide +kernel
theorem dX5_friend_108 : decode cX5_friend 108 = .ok (.imul, 1) := by decide +kernel
theorem dX5_friend_109 : decode cX5_friend 109 = .ok (.iload 7, 2) := by decide +kernel
theorem dX5_friend_111 : decode cX5_friend 111 = .ok (.iadd, 1) := by decide +kernel
theorem dX5_friend_112 : decode cX5_friend 112 = .ok (.istore 4, 2) := by decide +kernel
theorem dX5_friend_114 : decode cX5_friend 114 = .ok (.iload 8, 2) := by decide +kernel
theorem dX5_friend_116 : decode cX5_friend 116 = .ok (.istore 5, 2) := by decide +kernel
theorem dX5_friend_118 : decode cX5_friend 118 = .ok (.iinc 7 1, 3) := by decide +kernel
theorem dX5_friend_121 : decode cX5_friend 121 = .ok (.goto (-67), 3) := by decide +kernel
theorem dX5_friend_124 : decode cX5_friend 124 = .ok (.iinc 6 1, 3) := by decide +kernel
theorem dX5_friend_127 : decode cX5_friend 127 = .ok (.goto (-88), 3) := by decide +kernel
theorem dX5_friend_130 : decode cX5_friend 130 = .ok (.iload 4, 2) := by decide +kernel
theorem dX5_friend_132 : decode cX5_friend 132 = .ok (.bipush (-4), 2) := by decide +kernel
theorem dX5_friend_134 : decode cX5_friend 134 = .ok (.if_icmp .eq 7, 3) := by decide +kernel
theorem dX5_friend_137 : decode cX5_friend 137 = .ok (.iload_n 3, 1) := by decide +kernel
theorem dX5_friend_138 : decode cX5_friend 138 = .ok (.ifCond .ne 8, 3) := by decide +kernel
theorem dX5_friend_141 : decode cX5_friend 141 = .ok (.iload 4, 2) := by decide +kernel
theorem dX5_friend_143 : decode cX5_friend 143 = .ok (.goto 5, 3) := by decide +kernel
theorem dX5_friend_146 : decode cX5_friend 146 = .ok (.iload 5, 2) := by decide +kernel
theorem dX5_friend_148 : decode cX5_friend 148 = .ok (.ireturn, 1) := by decide +kernel
theorem dX5_gain_0 : decode cX5_gain 0 = .ok (.aload_n 0, 1) := by decide +kernel
theorem dX5_gain_1 : decode cX5_gain 1 = .ok (.getfield 19, 3) := by decide +kernel
theorem dX5_gain_4 : decode cX5_gain 4 = .ok (.iload_n 1, 1) := by decide +kernel
theorem dX5_gain_5 : decode cX5_gain 5 = .ok (.invokevirtual 120, 3) := by decide +kernel
theorem dX5_gain_8 : decode cX5_gain 8 = .ok (.ifCond .eq 11, 3) := by decide +kernel
theorem dX5_gain_11 : decode cX5_gain 11 = .ok (.iload_n 2, 1) := by decide +kernel
theorem dX5_gain_12 : decode cX5_gain 12 = .ok (.iconst 1, 1) := by decide +kernel
theorem dX5_gain_13 : decode cX5_gain 13 = .ok (.invokestatic 52, 3) := by decide +kernel
theorem dX5_gain_16 : decode cX5_gain 16 = .ok (.ifCond .ne 5, 3) := by decide +kernel
theorem dX5_gain_19 : decode cX5_gain 19 = .ok (.iconst (-1), 1) := by decide +kernel
theorem dX5_gain_20 : decode cX5_gain 20 = .ok (.ireturn, 1) := by decide +kernel
theorem dX5_gain_21 : decode cX5_gain 21 = .ok (.aload_n 0, 1) := by decide +kernel
theorem dX5_gain_22 : decode cX5_gain 22 = .ok (.getfield 19, 3) := by decide +kernel
theorem dX5_gain_25 : decode cX5_gain 25 = .ok (.getfield 132, 3) := by decide +kernel
theorem dX5_gain_28 : decode cX5_gain 28 = .ok (.iload_n 1, 1) := by decide +kernel
theorem dX5_gain_29 : decode cX5_gain 29 = .ok (.iaload, 1) := by decide +kernel
theorem dX5_gain_30 : decode cX5_gain 30 = .ok (.iconst (-1), 1) := by decide +kernel
theorem dX5_gain_31 : decode cX5_gain 31 = .ok (.if_icmp .eq 6, 3) := by decide +kernel
theorem dX5_gain_34 : decode cX5_gain 34 = .ok (.bipush (-2), 2) := by decide +kernel
theorem dX5_gain_36 : decode cX5_gain 36 = .ok (.ireturn, 1) := by decide +kernel
theorem dX5_gain_37 : decode cX5_gain 37 = .ok (.bipush (-4), 2) := by decide +kernel
theorem dX5_gain_39 : decode cX5_gain 39 = .ok (.istore_n 3, 1) := by decide +kernel
theorem dX5_gain_40 : decode cX5_gain 40 = .ok (.aload_n 0, 1) := by decide +kernel
theorem dX5_gain_41 : decode cX5_gain 41 = .ok (.getfield 19, 3) := by decide +kernel
theorem dX5_gain_44 : decode cX5_gain 44 = .ok (.iload_n 1, 1) := by decide +kernel
theorem dX5_gain_45 : decode cX5_gain 45 = .ok (.aload_n 0, 1) := by decide +kernel
theorem dX5_gain_46 : decode cX5_gain 46 = .ok (.getfield 19, 3) := by decide +kernel
theorem dX5_gain_49 : decode cX5_gain 49 = .ok (.iload_n 1, 1) := by decide +kernel
theorem dX5_gain_50 : decode cX5_gain 50 = .ok (.invokevirtual 135, 3) := by decide +kernel
theorem dX5_gain_53 : decode cX5_gain 53 = .ok (.invokevirtual 138, 3) := by decide +kernel
theorem dX5_gain_56 : decode cX5_gain 56 = .ok (.istore 4, 2) := by decide +kernel
theorem dX5_gain_58 : decode cX5_gain 58 = .ok (.iconst 0, 1) := by decide +kernel
theorem dX5_gain_59 : decode cX5_gain 59 = .ok (.istore 5, 2) := by decide +kernel
theorem dX5_gain_61 : decode cX5_gain 61 = .ok (.iload 5, 2) := by decide +kernel
theorem dX5_gain_63 : decode cX5_gain 63 = .ok (.aload_n 0, 1) := by decide +kernel
theorem dX5_gain_64 : decode cX5_gain 64 = .ok (.getfield 19, 3) := by decide +kernel
theorem dX5_gain_67 : decode cX5_gain 67 = .ok (.getfield 98, 3) := by decide +kernel
theorem dX5_gain_70 : decode cX5_gain 70 = .ok (.if_icmp .ge 35, 3) := by decide +kernel
theorem dX5_gain_73 : decode cX5_gain 73 = .ok (.aload_n 0, 1) := by decide +kernel
theorem dX5_gain_74 : decode cX5_gain 74 = .ok (.getfield 19, 3) := by decide +kernel
theorem dX5_gain_77 : decode cX5_gain 77 = .ok (.iload_n 1, 1) := by decide +kernel
theorem dX5_gain_78 : decode cX5_gain 78 = .ok (.iload 5, 2) := by decide +kernel
theorem dX5_gain_80 : decode cX5_gain 80 = .ok (.invokevirtual 214, 3) := by decide +kernel
theorem dX5_gain_83 : decode cX5_gain 83 = .ok (.istore 6, 2) := by decide +kernel
theorem dX5_gain_85 : decode cX5_gain 85 = .ok (.iload 6, 2) := by decide +kernel
theorem dX5_gain_87 : decode cX5_gain 87 = .ok (.iload 4, 2) := by decide +kernel
theorem dX5_gain_89 : decode cX5_gain 89 = .ok (.if_icmp .le 10, 3) := by decide +kernel
theorem dX5_gain_92 : decode cX5_gain 92 = .ok (.iload 5, 2) := by decide +kernel
theorem dX5_gain_94 : decode cX5_gain 94 = .ok (.istore_n 3, 1) := by decide +kernel
theorem dX5_gain_95 : decode cX5_gain 95 = .ok (.iload 6, 2) := by decide +kernel
theorem dX5_gain_97 : decode cX5_gain 97 = .ok (.istore 4, 2) := by decide +kernel
theorem dX5_gain_99 : decode cX5_gain 99 = .ok (.iinc 5 1, 3) := by decide +kernel
theorem dX5_gain_102 : decode cX5_gain 102 = .ok (.goto (-41), 3) := by decide +kernel
theorem dX5_gain_105 : decode cX5_gain 105 = .ok (.iload_n 3, 1) := by decide +kernel
theorem dX5_gain_106 : decode cX5_gain 106 = .ok (.bipush (-4), 2) := by decide +kernel
theorem dX5_gain_108 : decode cX5_gain 108 = .ok (.if_icmp .eq 7, 3) := by decide +kernel
theorem dX5_gain_111 : decode cX5_gain 111 = .ok (.iload_n 2, 1) := by decide +kernel
theorem dX5_gain_112 : decode cX5_gain 112 = .ok (.ifCond .ne 7, 3) := by decide +kernel
theorem dX5_gain_115 : decode cX5_gain 115 = .ok (.iload_n 3, 1) := by decide +kernel
theorem dX5_gain_116 : decode cX5_gain 116 = .ok (.goto 5, 3) := by decide +kernel
theorem dX5_gain_119 : decode cX5_gain 119 = .ok (.iload 4, 2) := by decide +kernel
theorem dX5_gain_121 : decode cX5_gain 121 = .ok (.ireturn, 1) := by decide +kernel
theorem dX5_shut_0 : decode cX5_shut 0 = .ok (.aload_n 0, 1) := by decide +kernel
theorem dX5_shut_1 : decode cX5_shut 1 = .ok (.getfield 19, 3) := by decide +kernel
theorem dX5_shut_4 : decode cX5_shut 4 = .ok (.iload_n 1, 1) := by decide +kernel
theorem dX5_shut_5 : decode cX5_shut 5 = .ok (.invokevirtual 120, 3) := by decide +kernel
theorem dX5_shut_8 : decode cX5_shut 8 = .ok (.ifCond .eq 18, 3) := by decide +kernel
theorem dX5_shut_11 : decode cX5_shut 11 = .ok (.iload_n 2, 1) := by decide +kernel
theorem dX5_shut_12 : decode cX5_shut 12 = .ok (.invokestatic 160, 3) := by decide +kernel
theorem dX5_shut_15 : decode cX5_shut 15 = .ok (.ifCond .eq 11, 3) := by decide +kernel
theorem dX5_shut_18 : decode cX5_shut 18 = .ok (.iload_n 3, 1) := by decide +kernel
theorem dX5_shut_19 : decode cX5_shut 19 = .ok (.iconst 1, 1) := by decide +kernel
theorem dX5_shut_20 : decode cX5_shut 20 = .ok (.invokestatic 52, 3) := by decide +kernel
theorem dX5_shut_23 : decode cX5_shut 23 = .ok (.ifCond .ne 5, 3) := by decide +kernel
theorem dX5_shut_26 : decode cX5_shut 26 = .ok (.iconst (-1), 1) := by decide +kernel
theorem dX5_shut_27 : decode cX5_shut 27 = .ok (.ireturn, 1) := by decide +kernel
theorem dX5_shut_28 : decode cX5_shut 28 = .ok (.iload_n 2, 1) := by decide +kernel
theorem dX5_shut_29 : decode cX5_shut 29 = .ok (.aload_n 0, 1) := by decide +kernel
theorem dX5_shut_30 : decode cX5_shut 30 = .ok (.getfield 19, 3) := by decide +kernel
theorem dX5_shut_33 : decode cX5_shut 33 = .ok (.getfield 129, 3) := by decide +kernel
theorem dX5_shut_36 : decode cX5_shut 36 = .ok (.iload_n 1, 1) := by decide +kernel
theorem dX5_shut_37 : decode cX5_shut 37 = .ok (.iaload, 1) := by decide +kernel
theorem dX5_shut_38 : decode cX5_shut 38 = .ok (.if_icmp .ne 6, 3) := by decide +kernel
theorem dX5_shut_41 : decode cX5_shut 41 = .ok (.bipush (-2), 2) := by decide +kernel
theorem dX5_shut_43 : decode cX5_shut 43 = .ok (.ireturn, 1) := by decide +kernel
theorem dX5_shut_44 : decode cX5_shut 44 = .ok (.aload_n 0, 1) := by decide +kernel
theorem dX5_shut_45 : decode cX5_shut 45 = .ok (.getfield 19, 3) := by decide +kernel
theorem dX5_shut_48 : decode cX5_shut 48 = .ok (.iload_n 1, 1) := by decide +kernel
theorem dX5_shut_49 : decode cX5_shut 49 = .ok (.iload_n 2, 1) := by decide +kernel
theorem dX5_shut_50 : decode cX5_shut 50 = .ok (.invokevirtual 217, 3) := by decide +kernel
theorem dX5_shut_53 : decode cX5_shut 53 = .ok (.istore 4, 2) := by decide +kernel
theorem dX5_shut_55 : decode cX5_shut 55 = .ok (.iload_n 3, 1) := by decide +kernel
theorem dX5_shut_56 : decode cX5_shut 56 = .ok (.ifCond .ne 11, 3) := by decide +kernel
theorem dX5_shut_59 : decode cX5_shut 59 = .ok (.iload 4, 2) := by decide +kernel
theorem dX5_shut_61 : decode cX5_shut 61 = .ok (.invokestatic 105, 3) := by decide +kernel
theorem dX5_shut_64 : decode cX5_shut 64 = .ok (.goto 5, 3) := by decide +kernel
theorem dX5_shut_67 : decode cX5_shut 67 = .ok (.iload 4, 2) := by decide +kernel
theorem dX5_shut_69 : decode cX5_shut 69 = .ok (.ireturn, 1) := by decide +kernel
theorem dX5_leave_0 : decode cX5_leave 0 = .ok (.iload_n 1, 1) := by decide +kernel
theorem dX5_leave_1 : decode cX5_leave 1 = .ok (.iconst 1, 1) := by decide +kernel
theorem dX5_leave_2 : decode cX5_leave 2 = .ok (.invokestatic 52, 3) := by decide +kernel
theorem dX5_leave_5 : decode cX5_leave 5 = .ok (.ifCond .ne 5, 3) := by decide +kernel
theorem dX5_leave_8 : decode cX5_leave 8 = .ok (.iconst (-1), 1) := by decide +kernel
theorem dX5_leave_9 : decode cX5_leave 9 = .ok (.ireturn, 1) := by decide +kernel
theorem dX5_leave_10 : decode cX5_leave 10 = .ok (.bipush (-4), 2) := by decide +kernel
theorem dX5_leave_12 : decode cX5_leave 12 = .ok (.istore_n 2, 1) := by decide +kernel
theorem dX5_leave_13 : decode cX5_leave 13 = .ok (.aload_n 0, 1) := by decide +kernel
theorem dX5_leave_14 : decode cX5_leave 14 = .ok (.bipush (-4), 2) := by decide +kernel
theorem dX5_leave_16 : decode cX5_leave 16 = .ok (.invokevirtual 220, 3) := by decide +kernel
theorem dX5_leave_19 : decode cX5_leave 19 = .ok (.istore_n 3, 1) := by decide +kernel
theorem dX5_leave_20 : decode cX5_leave 20 = .ok (.iconst 0, 1) := by decide +kernel
theorem dX5_leave_21 : decode cX5_leave 21 = .ok (.istore 4, 2) := by decide +kernel
theorem dX5_leave_23 : decode cX5_leave 23 = .ok (.iload 4, 2) := by decide +kernel
theorem dX5_leave_25 : decode cX5_leave 25 = .ok (.aload_n 0, 1) := by decide +kernel
theorem dX5_leave_26 : decode cX5_leave 26 = .ok (.getfield 19, 3) := by decide +kernel
theorem dX5_leave_29 : decode cX5_leave 29 = .ok (.getfield 111, 3) := by decide +kernel
theorem dX5_leave_32 : decode cX5_leave 32 = .ok (.if_icmp .ge 29, 3) := by decide +kernel
theorem dX5_leave_35 : decode cX5_leave 35 = .ok (.aload_n 0, 1) := by decide +kernel
theorem dX5_leave_36 : decode cX5_leave 36 = .ok (.iload 4, 2) := by decide +kernel
theorem dX5_leave_38 : decode cX5_leave 38 = .ok (.invokevirtual 220, 3) := by decide +kernel
theorem dX5_leave_41 : decode cX5_leave 41 = .ok (.istore 5, 2) := by decide +kernel
theorem dX5_leave_43 : decode cX5_leave 43 = .ok (.iload 5, 2) := by decide +kernel
theorem dX5_leave_45 : decode cX5_leave 45 = .ok (.iload_n 3, 1) := by decide +kernel
theorem dX5_leave_46 : decode cX5_leave 46 = .ok (.if_icmp .le 9, 3) := by decide +kernel
theorem dX5_leave_49 : decode cX5_leave 49 = .ok (.iload 4, 2) := by decide +kernel
theorem dX5_leave_51 : decode cX5_leave 51 = .ok (.istore_n 2, 1) := by decide +kernel
theorem dX5_leave_52 : decode cX5_leave 52 = .ok (.iload 5, 2) := by decide +kernel
theorem dX5_leave_54 : decode cX5_leave 54 = .ok (.istore_n 3, 1) := by decide +kernel
theorem dX5_leave_55 : decode cX5_leave 55 = .ok (.iinc 4 1, 3) := by decide +kernel
theorem dX5_leave_58 : decode cX5_leave 58 = .ok (.goto (-35), 3) := by decide +kernel
theorem dX5_leave_61 : decode cX5_leave 61 = .ok (.iload_n 2, 1) := by decide +kernel
theorem dX5_leave_62 : decode cX5_leave 62 = .ok (.bipush (-4), 2) := by decide +kernel
theorem dX5_leave_64 : decode cX5_leave 64 = .ok (.if_icmp .eq 7, 3) := by decide +kernel
theorem dX5_leave_67 : decode cX5_leave 67 = .ok (.iload_n 1, 1) := by decide +kernel
theorem dX5_leave_68 : decode cX5_leave 68 = .ok (.ifCond .ne 7, 3) := by decide +kernel
theorem dX5_leave_71 : decode cX5_leave 71 = .ok (.iload_n 2, 1) := by decide +kernel
theorem dX5_leave_72 : decode cX5_leave 72 = .ok (.goto 4, 3) := by decide +kernel
theorem dX5_leave_75 : decode cX5_leave 75 = .ok (.iload_n 3, 1) := by decide +kernel
theorem dX5_leave_76 : decode cX5_leave 76 = .ok (.ireturn, 1) := by decide +kernel
theorem dX5_kindly_0 : decode cX5_kindly 0 = .ok (.aload_n 0, 1) := by decide +kernel
theorem dX5_kindly_1 : decode cX5_kindly 1 = .ok (.getfield 19, 3) := by decide +kernel
theorem dX5_kindly_4 : decode cX5_kindly 4 = .ok (.iload_n 1, 1) := by decide +kernel
theorem dX5_kindly_5 : decode cX5_kindly 5 = .ok (.invokevirtual 120, 3) := by decide +kernel
theorem dX5_kindly_8 : decode cX5_kindly 8 = .ok (.ifCond .eq 11, 3) := by decide +kernel
theorem dX5_kindly_11 : decode cX5_kindly 11 = .ok (.iload_n 2, 1) := by decide +kernel
theorem dX5_kindly_12 : decode cX5_kindly 12 = .ok (.iconst 1, 1) := by decide +kernel
theorem dX5_kindly_13 : decode cX5_kindly 13 = .ok (.invokestatic 52, 3) := by decide +kernel
theorem dX5_kindly_16 : decode cX5_kindly 16 = .ok (.ifCond .ne 5, 3) := by decide +kernel
theorem dX5_kindly_19 : decode cX5_kindly 19 = .ok (.iconst (-1), 1) := by decide +kernel
theorem dX5_kindly_20 : decode cX5_kindly 20 = .ok (.ireturn, 1) := by decide +kernel
theorem dX5_kindly_21 : decode cX5_kindly 21 = .ok (.aload_n 0, 1) := by decide +kernel
theorem dX5_kindly_22 : decode cX5_kindly 22 = .ok (.getfield 23, 3) := by decide +kernel
theorem dX5_kindly_25 : decode cX5_kindly 25 = .ok (.aload_n 0, 1) := by decide +kernel
theorem dX5_kindly_26 : decode cX5_kindly 26 = .ok (.getfield 19, 3) := by decide +kernel
theorem dX5_kindly_29 : decode cX5_kindly 29 = .ok (.invokevirtual 85, 3) := by decide +kernel
theorem dX5_kindly_32 : decode cX5_kindly 32 = .ok (.bipush (-4), 2) := by decide +kernel
theorem dX5_kindly_34 : decode cX5_kindly 34 = .ok (.istore_n 3, 1) := by decide +kernel
theorem dX5_kindly_35 : decode cX5_kindly 35 = .ok (.iconst (-1), 1) := by decide +kernel
theorem dX5_kindly_36 : decode cX5_kindly 36 = .ok (.istore 4, 2) := by decide +kernel
theorem dX5_kindly_38 : decode cX5_kindly 38 = .ok (.iconst 0, 1) := by decide +kernel
theorem dX5_kindly_39 : decode cX5_kindly 39 = .ok (.istore 5, 2) := by decide +kernel
theorem dX5_kindly_41 : decode cX5_kindly 41 = .ok (.iload 5, 2) := by decide +kernel
theorem dX5_kindly_43 : decode cX5_kindly 43 = .ok (.iconst 4, 1) := by decide +kernel
theorem dX5_kindly_44 : decode cX5_kindly 44 = .ok (.if_icmp .ge 43, 3) := by decide +kernel
theorem dX5_kindly_47 : decode cX5_kindly 47 = .ok (.aload_n 0, 1) := by decide +kernel
theorem dX5_kindly_48 : decode cX5_kindly 48 = .ok (.getfield 23, 3) := by decide +kernel
theorem dX5_kindly_51 : decode cX5_kindly 51 = .ok (.getfield 123, 3) := by decide +kernel
theorem dX5_kindly_54 : decode cX5_kindly 54 = .ok (.iload_n 1, 1) := by decide +kernel
theorem dX5_kindly_55 : decode cX5_kindly 55 = .ok (.iload 5, 2) := by decide +kernel
theorem dX5_kindly_57 : decode cX5_kindly 57 = .ok (.iastore, 1) := by decide +kernel
theorem dX5_kindly_58 : decode cX5_kindly 58 = .ok (.aload_n 0, 1) := by decide +kernel
theorem dX5_kindly_59 : decode cX5_kindly 59 = .ok (.getfield 23, 3) := by decide +kernel
theorem dX5_kindly_62 : decode cX5_kindly 62 = .ok (.invokevirtual 207, 3) := by decide +kernel
theorem dX5_kindly_65 : decode cX5_kindly 65 = .ok (.istore 6, 2) := by decide +kernel
theorem dX5_kindly_67 : decode cX5_kindly 67 = .ok (.iload 6, 2) := by decide +kernel
theorem dX5_kindly_69 : decode cX5_kindly 69 = .ok (.iload 4, 2) := by decide +kernel
theorem dX5_kindly_71 : decode cX5_kindly 71 = .ok (.if_icmp .le 10, 3) := by decide +kernel
theorem dX5_kindly_74 : decode cX5_kindly 74 = .ok (.iload 5, 2) := by decide +kernel
theorem dX5_kindly_76 : decode cX5_kindly 76 = .ok (.istore_n 3, 1) := by decide +kernel
theorem dX5_kindly_77 : decode cX5_kindly 77 = .ok (.iload 6, 2) := by decide +kernel
theorem dX5_kindly_79 : decode cX5_kindly 79 = .ok (.istore 4, 2) := by decide +kernel
theorem dX5_kindly_81 : decode cX5_kindly 81 = .ok (.iinc 5 1, 3) := by decide +kernel
theorem dX5_kindly_84 : decode cX5_kindly 84 = .ok (.goto (-43), 3) := by decide +kernel
theorem dX5_kindly_87 : decode cX5_kindly 87 = .ok (.iload_n 2, 1) := by decide +kernel
theorem dX5_kindly_88 : decode cX5_kindly 88 = .ok (.ifCond .ne 7, 3) := by decide +kernel
theorem dX5_kindly_91 : decode cX5_kindly 91 = .ok (.iload_n 3, 1) := by decide +kernel
theorem dX5_kindly_92 : decode cX5_kindly 92 = .ok (.goto 5, 3) := by decide +kernel
theorem dX5_kindly_95 : decode cX5_kindly 95 = .ok (.iload 4, 2) := by decide +kernel
theorem dX5_kindly_97 : decode cX5_kindly 97 = .ok (.ireturn, 1) := by decide +kernel
theorem dX5_dear_0 : decode cX5_dear 0 = .ok (.aload_n 0, 1) := by decide +kernel
theorem dX5_dear_1 : decode cX5_dear 1 = .ok (.getfield 19, 3) := by decide +kernel
theorem dX5_dear_4 : decode cX5_dear 4 = .ok (.iload_n 1, 1) := by decide +kernel
theorem dX5_dear_5 : decode cX5_dear 5 = .ok (.invokevirtual 120, 3) := by decide +kernel
theorem dX5_dear_8 : decode cX5_dear 8 = .ok (.ifCond .eq 11, 3) := by decide +kernel
theorem dX5_dear_11 : decode cX5_dear 11 = .ok (.iload_n 2, 1) := by decide +kernel
theorem dX5_dear_12 : decode cX5_dear 12 = .ok (.iconst 1, 1) := by decide +kernel
theorem dX5_dear_13 : decode cX5_dear 13 = .ok (.invokestatic 52, 3) := by decide +kernel
theorem dX5_dear_16 : decode cX5_dear 16 = .ok (.ifCond .ne 5, 3) := by decide +kernel
theorem dX5_dear_19 : decode cX5_dear 19 = .ok (.iconst (-1), 1) := by decide +kernel
theorem dX5_dear_20 : decode cX5_dear 20 = .ok (.ireturn, 1) := by decide +kernel
theorem dX5_dear_21 : decode cX5_dear 21 = .ok (.aload_n 0, 1) := by decide +kernel
theorem dX5_dear_22 : decode cX5_dear 22 = .ok (.getfield 19, 3) := by decide +kernel
theorem dX5_dear_25 : decode cX5_dear 25 = .ok (.iload_n 1, 1) := by decide +kernel
theorem dX5_dear_26 : decode cX5_dear 26 = .ok (.invokevirtual 191, 3) := by decide +kernel
theorem dX5_dear_29 : decode cX5_dear 29 = .ok (.istore_n 3, 1) := by decide +kernel
theorem dX5_dear_30 : decode cX5_dear 30 = .ok (.aload_n 0, 1) := by decide +kernel
theorem dX5_dear_31 : decode cX5_dear 31 = .ok (.getfield 19, 3) := by decide +kernel
theorem dX5_dear_34 : decode cX5_dear 34 = .ok (.iload_n 1, 1) := by decide +kernel
theorem dX5_dear_35 : decode cX5_dear 35 = .ok (.aload_n 0, 1) := by decide +kernel
theorem dX5_dear_36 : decode cX5_dear 36 = .ok (.getfield 19, 3) := by decide +kernel
theorem dX5_dear_39 : decode cX5_dear 39 = .ok (.iload_n 1, 1) := by decide +kernel
theorem dX5_dear_40 : decode cX5_dear 40 = .ok (.invokevirtual 135, 3) := by decide +kernel
theorem dX5_dear_43 : decode cX5_dear 43 = .ok (.invokevirtual 138, 3) := by decide +kernel
theorem dX5_dear_46 : decode cX5_dear 46 = .ok (.istore 4, 2) := by decide +kernel
theorem dX5_dear_48 : decode cX5_dear 48 = .ok (.bipush (-4), 2) := by decide +kernel
theorem dX5_dear_50 : decode cX5_dear 50 = .ok (.istore 5, 2) := by decide +kernel
theorem dX5_dear_52 : decode cX5_dear 52 = .ok (.iconst 0, 1) := by decide +kernel
theorem dX5_dear_53 : decode cX5_dear 53 = .ok (.istore 6, 2) := by decide +kernel
theorem dX5_dear_55 : decode cX5_dear 55 = .ok (.iconst 0, 1) := by decide +kernel
theorem dX5_dear_56 : decode cX5_dear 56 = .ok (.istore 7, 2) := by decide +kernel
theorem dX5_dear_58 : decode cX5_dear 58 = .ok (.iload 7, 2) := by decide +kernel
theorem dX5_dear_60 : decode cX5_dear 60 = .ok (.aload_n 0, 1) := by decide +kernel
theorem dX5_dear_61 : decode cX5_dear 61 = .ok (.getfield 19, 3) := by decide +kernel
theorem dX5_dear_64 : decode cX5_dear 64 = .ok (.getfield 98, 3) := by decide +kernel
theorem dX5_dear_67 : decode cX5_dear 67 = .ok (.if_icmp .ge 61, 3) := by decide +kernel
theorem dX5_dear_70 : decode cX5_dear 70 = .ok (.iload 4, 2) := by decide +kernel
theorem dX5_dear_72 : decode cX5_dear 72 = .ok (.aload_n 0, 1) := by decide +kernel
theorem dX5_dear_73 : decode cX5_dear 73 = .ok (.getfield 19, 3) := by decide +kernel
theorem dX5_dear_76 : decode cX5_dear 76 = .ok (.iload_n 1, 1) := by decide +kernel
theorem dX5_dear_77 : decode cX5_dear 77 = .ok (.aload_n 0, 1) := by decide +kernel
theorem dX5_dear_78 : decode cX5_dear 78 = .ok (.getfield 19, 3) := by decide +kernel
theorem dX5_dear_81 : decode cX5_dear 81 = .ok (.aload_n 0, 1) := by decide +kernel
theorem dX5_dear_82 : decode cX5_dear 82 = .ok (.getfield 19, 3) := by decide +kernel
theorem dX5_dear_85 : decode cX5_dear 85 = .ok (.getfield 129, 3) := by decide +kernel
theorem dX5_dear_88 : decode cX5_dear 88 = .ok (.iload_n 1, 1) := by decide +kernel
theorem dX5_dear_89 : decode cX5_dear 89 = .ok (.iaload, 1) := by decide +kernel
theorem dX5_dear_90 : decode cX5_dear 90 = .ok (.iload_n 3, 1) := by decide +kernel
theorem dX5_dear_91 : decode cX5_dear 91 = .ok (.iconst 1, 1) := by decide +kernel
theorem dX5_dear_92 : decode cX5_dear 92 = .ok (.iload 7, 2) := by decide +kernel
theorem dX5_dear_94 : decode cX5_dear 94 = .ok (.ishl, 1) := by decide +kernel
theorem dX5_dear_95 : decode cX5_dear 95 = .ok (.iconst (-1), 1) := by decide +kernel
theorem dX5_dear_96 : decode cX5_dear 96 = .ok (.ixor, 1) := by decide +kernel
theorem dX5_dear_97 : decode cX5_dear 97 = .ok (.iand, 1) := by decide +kernel
theorem dX5_dear_98 : decode cX5_dear 98 = .ok (.invokevirtual 223, 3) := by decide +kernel
theorem dX5_dear_101 : decode cX5_dear 101 = .ok (.invokevirtual 138, 3) := by decide +kernel
theorem dX5_dear_104 : decode cX5_dear 104 = .ok (.isub, 1) := by decide +kernel
theorem dX5_dear_105 : decode cX5_dear 105 = .ok (.istore 8, 2) := by decide +kernel
theorem dX5_dear_107 : decode cX5_dear 107 = .ok (.iload 8, 2) := by decide +kernel
theorem dX5_dear_109 : decode cX5_dear 109 = .ok (.iload 6, 2) := by decide +kernel
theorem dX5_dear_111 : decode cX5_dear 111 = .ok (.if_icmp .le 11, 3) := by decide +kernel
theorem dX5_dear_114 : decode cX5_dear 114 = .ok (.iload 7, 2) := by decide +kernel
theorem dX5_dear_116 : decode cX5_dear 116 = .ok (.istore 5, 2) := by decide +kernel
theorem dX5_dear_118 : decode cX5_dear 118 = .ok (.iload 8, 2) := by decide +kernel
theorem dX5_dear_120 : decode cX5_dear 120 = .ok (.istore 6, 2) := by decide +kernel
theorem dX5_dear_122 : decode cX5_dear 122 = .ok (.iinc 7 1, 3) := by decide +kernel
theorem dX5_dear_125 : decode cX5_dear 125 = .ok (.goto (-67), 3) := by decide +kernel
theorem dX5_dear_128 : decode cX5_dear 128 = .ok (.iload 5, 2) := by decide +kernel
theorem dX5_dear_130 : decode cX5_dear 130 = .ok (.bipush (-4), 2) := by decide +kernel
theorem dX5_dear_132 : decode cX5_dear 132 = .ok (.if_icmp .eq 7, 3) := by decide +kernel
theorem dX5_dear_135 : decode cX5_dear 135 = .ok (.iload_n 2, 1) := by decide +kernel
theorem dX5_dear_136 : decode cX5_dear 136 = .ok (.ifCond .ne 8, 3) := by decide +kernel
theorem dX5_dear_139 : decode cX5_dear 139 = .ok (.iload 5, 2) := by decide +kernel
theorem dX5_dear_141 : decode cX5_dear 141 = .ok (.goto 5, 3) := by decide +kernel
theorem dX5_dear_144 : decode cX5_dear 144 = .ok (.iload 6, 2) := by decide +kernel
theorem dX5_dear_146 : decode cX5_dear 146 = .ok (.ireturn, 1) := by decide +kernel
theorem dX5_luck_0 : decode cX5_luck 0 = .ok (.iload_n 1, 1) := by decide +kernel
theorem dX5_luck_1 : decode cX5_luck 1 = .ok (.bipush 10, 2) := by decide +kernel
theorem dX5_luck_3 : decode cX5_luck 3 = .ok (.invokestatic 52, 3) := by decide +kernel
theorem dX5_luck_6 : decode cX5_luck 6 = .ok (.ifCond .eq 30, 3) := by decide +kernel
theorem dX5_luck_9 : decode cX5_luck 9 = .ok (.aload_n 0, 1) := by decide +kernel
theorem dX5_luck_10 : decode cX5_luck 10 = .ok (.getfield 19, 3) := by decide +kernel
theorem dX5_luck_13 : decode cX5_luck 13 = .ok (.iload_n 2, 1) := by decide +kernel
theorem dX5_luck_14 : decode cX5_luck 14 = .ok (.invokevirtual 120, 3) := by decide +kernel
theorem dX5_luck_17 : decode cX5_luck 17 = .ok (.ifCond .eq 19, 3) := by decide +kernel
theorem dX5_luck_20 : decode cX5_luck 20 = .ok (.iload_n 3, 1) := by decide +kernel
theorem dX5_luck_21 : decode cX5_luck 21 = .ok (.invokestatic 160, 3) := by decide +kernel
theorem dX5_luck_24 : decode cX5_luck 24 = .ok (.ifCond .eq 12, 3) := by decide +kernel
theorem dX5_luck_27 : decode cX5_luck 27 = .ok (.iload 4, 2) := by decide +kernel
theorem dX5_luck_29 : decode cX5_luck 29 = .ok (.iconst 1, 1) := by decide +kernel
theorem dX5_luck_30 : decode cX5_luck 30 = .ok (.invokestatic 52, 3) := by decide +kernel
theorem dX5_luck_33 : decode cX5_luck 33 = .ok (.ifCond .ne 7, 3) := by decide +kernel
theorem dX5_luck_36 : decode cX5_luck 36 = .ok (.ldc2_w 226, 3) := by decide +kernel
theorem dX5_luck_39 : decode cX5_luck 39 = .ok (.lreturn, 1) := by decide +kernel
theorem dX5_luck_40 : decode cX5_luck 40 = .ok (.aload_n 0, 1) := by decide +kernel
theorem dX5_luck_41 : decode cX5_luck 41 = .ok (.getfield 19, 3) := by decide +kernel
theorem dX5_luck_44 : decode cX5_luck 44 = .ok (.iload_n 1, 1) := by decide +kernel
theorem dX5_luck_45 : decode cX5_luck 45 = .ok (.iload_n 2, 1) := by decide +kernel
theorem dX5_luck_46 : decode cX5_luck 46 = .ok (.iconst 1, 1) := by decide +kernel
theorem dX5_luck_47 : decode cX5_luck 47 = .ok (.iload_n 3, 1) := by decide +kernel
theorem dX5_luck_48 : decode cX5_luck 48 = .ok (.ishl, 1) := by decide +kernel
theorem dX5_luck_49 : decode cX5_luck 49 = .ok (.invokevirtual 228, 3) := by decide +kernel
theorem dX5_luck_52 : decode cX5_luck 52 = .ok (.aload_n 0, 1) := by decide +kernel
theorem dX5_luck_53 : decode cX5_luck 53 = .ok (.getfield 19, 3) := by decide +kernel
theorem dX5_luck_56 : decode cX5_luck 56 = .ok (.invokevirtual 232, 3) := by decide +kernel
theorem dX5_luck_59 : decode cX5_luck 59 = .ok (.iload 4, 2) := by decide +kernel
theorem dX5_luck_61 : decode cX5_luck 61 = .ok (.invokestatic 236, 3) := by decide +kernel
theorem dX5_luck_64 : decode cX5_luck 64 = .ok (.lreturn, 1) := by decide +kernel
theorem dX5_mean_0 : decode cX5_mean 0 = .ok (.iload_n 1, 1) := by decide +kernel
theorem dX5_mean_1 : decode cX5_mean 1 = .ok (.bipush 10, 2) := by decide +kernel
theorem dX5_mean_3 : decode cX5_mean 3 = .ok (.invokestatic 52, 3) := by decide +kernel
theorem dX5_mean_6 : decode cX5_mean 6 = .ok (.ifCond .eq 22, 3) := by decide +kernel
theorem dX5_mean_9 : decode cX5_mean 9 = .ok (.aload_n 0, 1) := by decide +kernel
theorem dX5_mean_10 : decode cX5_mean 10 = .ok (.getfield 19, 3) := by decide +kernel
theorem dX5_mean_13 : decode cX5_mean 13 = .ok (.iload_n 2, 1) := by decide +kernel
theorem dX5_mean_14 : decode cX5_mean 14 = .ok (.invokevirtual 120, 3) := by decide +kernel
theorem dX5_mean_17 : decode cX5_mean 17 = .ok (.ifCond .eq 11, 3) := by decide +kernel
theorem dX5_mean_20 : decode cX5_mean 20 = .ok (.iload_n 3, 1) := by decide +kernel
theorem dX5_mean_21 : decode cX5_mean 21 = .ok (.iconst 1, 1) := by decide +kernel
theorem dX5_mean_22 : decode cX5_mean 22 = .ok (.invokestatic 52, 3) := by decide +kernel
theorem dX5_mean_25 : decode cX5_mean 25 = .ok (.ifCond .ne 7, 3) := by decide +kernel
theorem dX5_mean_28 : decode cX5_mean 28 = .ok (.ldc2_w 226, 3) := by decide +kernel
theorem dX5_mean_31 : decode cX5_mean 31 = .ok (.lreturn, 1) := by decide +kernel
theorem dX5_mean_32 : decode cX5_mean 32 = .ok (.aload_n 0, 1) := by decide +kernel
theorem dX5_mean_33 : decode cX5_mean 33 = .ok (.getfield 19, 3) := by decide +kernel
theorem dX5_mean_36 : decode cX5_mean 36 = .ok (.iload_n 1, 1) := by decide +kernel
theorem dX5_mean_37 : decode cX5_mean 37 = .ok (.iload_n 2, 1) := by decide +kernel
theorem dX5_mean_38 : decode cX5_mean 38 = .ok (.sipush 255, 3) := by decide +kernel
theorem dX5_mean_41 : decode cX5_mean 41 = .ok (.invokevirtual 228, 3) := by decide +kernel
theorem dX5_mean_44 : decode cX5_mean 44 = .ok (.aload_n 0, 1) := by decide +kernel
theorem dX5_mean_45 : decode cX5_mean 45 = .ok (.getfield 19, 3) := by decide +kernel
theorem dX5_mean_48 : decode cX5_mean 48 = .ok (.invokevirtual 232, 3) := by decide +kernel
theorem dX5_mean_51 : decode cX5_mean 51 = .ok (.iload_n 3, 1) := by decide +kernel
theorem dX5_mean_52 : decode cX5_mean 52 = .ok (.invokestatic 236, 3) := by decide +kernel
theorem dX5_mean_55 : decode cX5_mean 55 = .ok (.lreturn, 1) := by decide +kernel
theorem dX5_see_0 : decode cX5_see 0 = .ok (.aload_n 0, 1) := by decide +kernel
theorem dX5_see_1 : decode cX5_see 1 = .ok (.getfield 19, 3) := by decide +kernel
theorem dX5_see_4 : decode cX5_see 4 = .ok (.iload_n 1, 1) := by decide +kernel
theorem dX5_see_5 : decode cX5_see 5 = .ok (.invokevirtual 120, 3) := by decide +kernel
theorem dX5_see_8 : decode cX5_see 8 = .ok (.ifCond .eq 10, 3) := by decide +kernel
theorem dX5_see_11 : decode cX5_see 11 = .ok (.iload_n 2, 1) := by decide +kernel
theorem dX5_see_12 : decode cX5_see 12 = .ok (.invokestatic 160, 3) := by decide +kernel
theorem dX5_see_15 : decode cX5_see 15 = .ok (.ifCond .ne 5, 3) := by decide +kernel
theorem dX5_see_18 : decode cX5_see 18 = .ok (.iconst (-1), 1) := by decide +kernel
theorem dX5_see_19 : decode cX5_see 19 = .ok (.ireturn, 1) := by decide +kernel
theorem dX5_see_20 : decode cX5_see 20 = .ok (.aload_n 0, 1) := by decide +kernel
theorem dX5_see_21 : decode cX5_see 21 = .ok (.getfield 29, 3) := by decide +kernel
theorem dX5_see_24 : decode cX5_see 24 = .ok (.iload_n 1, 1) := by decide +kernel
theorem dX5_see_25 : decode cX5_see 25 = .ok (.iload_n 2, 1) := by decide +kernel
theorem dX5_see_26 : decode cX5_see 26 = .ok (.iload_n 3, 1) := by decide +kernel
theorem dX5_see_27 : decode cX5_see 27 = .ok (.invokevirtual 240, 3) := by decide +kernel
theorem dX5_see_30 : decode cX5_see 30 = .ok (.ifCond .eq 13, 3) := by decide +kernel
theorem dX5_see_33 : decode cX5_see 33 = .ok (.aload_n 0, 1) := by decide +kernel
theorem dX5_see_34 : decode cX5_see 34 = .ok (.getfield 29, 3) := by decide +kernel
theorem dX5_see_37 : decode cX5_see 37 = .ok (.getfield 89, 3) := by decide +kernel
theorem dX5_see_40 : decode cX5_see 40 = .ok (.goto 5, 3) := by decide +kernel
theorem dX5_see_43 : decode cX5_see 43 = .ok (.bipush (-3), 2) := by decide +kernel
theorem dX5_see_45 : decode cX5_see 45 = .ok (.ireturn, 1) := by decide +kernel
theorem dX5_forget_0 : decode cX5_forget 0 = .ok (.aload_n 0, 1) := by decide +kernel
theorem dX5_forget_1 : decode cX5_forget 1 = .ok (.getfield 29, 3) := by decide +kernel
theorem dX5_forget_4 : decode cX5_forget 4 = .ok (.getfield 89, 3) := by decide +kernel
theorem dX5_forget_7 : decode cX5_forget 7 = .ok (.istore_n 2, 1) := by decide +kernel
theorem dX5_forget_8 : decode cX5_forget 8 = .ok (.iload_n 1, 1) := by decide +kernel
theorem dX5_forget_9 : decode cX5_forget 9 = .ok (.iload_n 2, 1) := by decide +kernel
theorem dX5_forget_10 : decode cX5_forget 10 = .ok (.invokestatic 52, 3) := by decide +kernel
theorem dX5_forget_13 : decode cX5_forget 13 = .ok (.ifCond .ne 5, 3) := by decide +kernel
theorem dX5_forget_16 : decode cX5_forget 16 = .ok (.iconst (-1), 1) := by decide +kernel
theorem dX5_forget_17 : decode cX5_forget 17 = .ok (.ireturn, 1) := by decide +kernel
theorem dX5_forget_18 : decode cX5_forget 18 = .ok (.aload_n 0, 1) := by decide +kernel
theorem dX5_forget_19 : decode cX5_forget 19 = .ok (.getfield 29, 3) := by decide +kernel
theorem dX5_forget_22 : decode cX5_forget 22 = .ok (.iload_n 1, 1) := by decide +kernel
theorem dX5_forget_23 : decode cX5_forget 23 = .ok (.putfield 89, 3) := by decide +kernel
theorem dX5_forget_26 : decode cX5_forget 26 = .ok (.iload_n 2, 1) := by decide +kernel
theorem dX5_forget_27 : decode cX5_forget 27 = .ok (.ireturn, 1) := by decide +kernel
theorem dX5_kinds_0 : decode cX5_kinds 0 = .ok (.aload_n 0, 1) := by decide +kernel
theorem dX5_kinds_1 : decode cX5_kinds 1 = .ok (.getfield 19, 3) := by decide +kernel
theorem dX5_kinds_4 : decode cX5_kinds 4 = .ok (.iload_n 1, 1) := by decide +kernel
theorem dX5_kinds_5 : decode cX5_kinds 5 = .ok (.invokevirtual 120, 3) := by decide +kernel
theorem dX5_kinds_8 : decode cX5_kinds 8 = .ok (.ifCond .ne 5, 3) := by decide +kernel
theorem dX5_kinds_11 : decode cX5_kinds 11 = .ok (.iconst (-1), 1) := by decide +kernel
theorem dX5_kinds_12 : decode cX5_kinds 12 = .ok (.ireturn, 1) := by decide +kernel
theorem dX5_kinds_13 : decode cX5_kinds 13 = .ok (.aload_n 0, 1) := by decide +kernel
theorem dX5_kinds_14 : decode cX5_kinds 14 = .ok (.getfield 23, 3) := by decide +kernel
theorem dX5_kinds_17 : decode cX5_kinds 17 = .ok (.aload_n 0, 1) := by decide +kernel
theorem dX5_kinds_18 : decode cX5_kinds 18 = .ok (.getfield 19, 3) := by decide +kernel
theorem dX5_kinds_21 : decode cX5_kinds 21 = .ok (.invokevirtual 85, 3) := by decide +kernel
theorem dX5_kinds_24 : decode cX5_kinds 24 = .ok (.iconst 0, 1) := by decide +kernel
theorem dX5_kinds_25 : decode cX5_kinds 25 = .ok (.istore_n 2, 1) := by decide +kernel
theorem dX5_kinds_26 : decode cX5_kinds 26 = .ok (.iconst 0, 1) := by decide +kernel
theorem dX5_kinds_27 : decode cX5_kinds 27 = .ok (.istore_n 3, 1) := by decide +kernel
theorem dX5_kinds_28 : decode cX5_kinds 28 = .ok (.iload_n 3, 1) := by decide +kernel
theorem dX5_kinds_29 : decode cX5_kinds 29 = .ok (.iconst 4, 1) := by decide +kernel
theorem dX5_kinds_30 : decode cX5_kinds 30 = .ok (.if_icmp .ge 39, 3) := by decide +kernel
theorem dX5_kinds_33 : decode cX5_kinds 33 = .ok (.aload_n 0, 1) := by decide +kernel
theorem dX5_kinds_34 : decode cX5_kinds 34 = .ok (.getfield 23, 3) := by decide +kernel
theorem dX5_kinds_37 : decode cX5_kinds 37 = .ok (.getfield 123, 3) := by decide +kernel
theorem dX5_kinds_40 : decode cX5_kinds 40 = .ok (.iload_n 1, 1) := by decide +kernel
theorem dX5_kinds_41 : decode cX5_kinds 41 = .ok (.iload_n 3, 1) := by decide +kernel
theorem dX5_kinds_42 : decode cX5_kinds 42 = .ok (.iastore, 1) := by decide +kernel
theorem dX5_kinds_43 : decode cX5_kinds 43 = .ok (.aload_n 0, 1) := by decide +kernel
theorem dX5_kinds_44 : decode cX5_kinds 44 = .ok (.getfield 29, 3) := by decide +kernel
theorem dX5_kinds_47 : decode cX5_kinds 47 = .ok (.aload_n 0, 1) := by decide +kernel
theorem dX5_kinds_48 : decode cX5_kinds 48 = .ok (.getfield 23, 3) := by decide +kernel
theorem dX5_kinds_51 : decode cX5_kinds 51 = .ok (.invokevirtual 244, 3) := by decide +kernel
theorem dX5_kinds_54 : decode cX5_kinds 54 = .ok (.ifCond .eq 9, 3) := by decide +kernel
theorem dX5_kinds_57 : decode cX5_kinds 57 = .ok (.iload_n 2, 1) := by decide +kernel
theorem dX5_kinds_58 : decode cX5_kinds 58 = .ok (.iconst 1, 1) := by decide +kernel
theorem dX5_kinds_59 : decode cX5_kinds 59 = .ok (.iload_n 3, 1) := by decide +kernel
theorem dX5_kinds_60 : decode cX5_kinds 60 = .ok (.ishl, 1) := by decide +kernel
theorem dX5_kinds_61 : decode cX5_kinds 61 = .ok (.ior, 1) := by decide +kernel
theorem dX5_kinds_62 : decode cX5_kinds 62 = .ok (.istore_n 2, 1) := by decide +kernel
theorem dX5_kinds_63 : decode cX5_kinds 63 = .ok (.iinc 3 1, 3) := by decide +kernel
theorem dX5_kinds_66 : decode cX5_kinds 66 = .ok (.goto (-38), 3) := by decide +kernel
theorem dX5_kinds_69 : decode cX5_kinds 69 = .ok (.iload_n 2, 1) := by decide +kernel
theorem dX5_kinds_70 : decode cX5_kinds 70 = .ok (.ireturn, 1) := by decide +kernel
theorem dX5_walls_0 : decode cX5_walls 0 = .ok (.aload_n 0, 1) := by decide +kernel
theorem dX5_walls_1 : decode cX5_walls 1 = .ok (.getfield 19, 3) := by decide +kernel
theorem dX5_walls_4 : decode cX5_walls 4 = .ok (.iload_n 1, 1) := by decide +kernel
theorem dX5_walls_5 : decode cX5_walls 5 = .ok (.invokevirtual 120, 3) := by decide +kernel
theorem dX5_walls_8 : decode cX5_walls 8 = .ok (.ifCond .eq 11, 3) := by decide +kernel
theorem dX5_walls_11 : decode cX5_walls 11 = .ok (.aload_n 0, 1) := by decide +kernel
theorem dX5_walls_12 : decode cX5_walls 12 = .ok (.iload_n 1, 1) := by decide +kernel
theorem dX5_walls_13 : decode cX5_walls 13 = .ok (.invokevirtual 248, 3) := by decide +kernel
theorem dX5_walls_16 : decode cX5_walls 16 = .ok (.goto 4, 3) := by decide +kernel
theorem dX5_walls_19 : decode cX5_walls 19 = .ok (.iconst (-1), 1) := by decide +kernel
theorem dX5_walls_20 : decode cX5_walls 20 = .ok (.ireturn, 1) := by decide +kernel
theorem dX5_ask_0 : decode cX5_ask 0 = .ok (.aload_n 0, 1) := by decide +kernel
theorem dX5_ask_1 : decode cX5_ask 1 = .ok (.getfield 19, 3) := by decide +kernel
theorem dX5_ask_4 : decode cX5_ask 4 = .ok (.iload_n 1, 1) := by decide +kernel
theorem dX5_ask_5 : decode cX5_ask 5 = .ok (.invokevirtual 120, 3) := by decide +kernel
theorem dX5_ask_8 : decode cX5_ask 8 = .ok (.ifCond .eq 11, 3) := by decide +kernel
theorem dX5_ask_11 : decode cX5_ask 11 = .ok (.iload_n 2, 1) := by decide +kernel
theorem dX5_ask_12 : decode cX5_ask 12 = .ok (.iconst 1, 1) := by decide +kernel
theorem dX5_ask_13 : decode cX5_ask 13 = .ok (.invokestatic 52, 3) := by decide +kernel
theorem dX5_ask_16 : decode cX5_ask 16 = .ok (.ifCond .ne 5, 3) := by decide +kernel
theorem dX5_ask_19 : decode cX5_ask 19 = .ok (.iconst (-1), 1) := by decide +kernel
theorem dX5_ask_20 : decode cX5_ask 20 = .ok (.ireturn, 1) := by decide +kernel
theorem dX5_ask_21 : decode cX5_ask 21 = .ok (.aload_n 0, 1) := by decide +kernel
theorem dX5_ask_22 : decode cX5_ask 22 = .ok (.iload_n 1, 1) := by decide +kernel
theorem dX5_ask_23 : decode cX5_ask 23 = .ok (.invokevirtual 248, 3) := by decide +kernel
theorem dX5_ask_26 : decode cX5_ask 26 = .ok (.istore_n 3, 1) := by decide +kernel
theorem dX5_ask_27 : decode cX5_ask 27 = .ok (.iload_n 3, 1) := by decide +kernel
theorem dX5_ask_28 : decode cX5_ask 28 = .ok (.invokestatic 105, 3) := by decide +kernel
theorem dX5_ask_31 : decode cX5_ask 31 = .ok (.istore 4, 2) := by decide +kernel
theorem dX5_ask_33 : decode cX5_ask 33 = .ok (.bipush (-4), 2) := by decide +kernel
theorem dX5_ask_35 : decode cX5_ask 35 = .ok (.istore 5, 2) := by decide +kernel
theorem dX5_ask_37 : decode cX5_ask 37 = .ok (.iload 4, 2) := by decide +kernel
theorem dX5_ask_39 : decode cX5_ask 39 = .ok (.istore 6, 2) := by decide +kernel
theorem dX5_ask_41 : decode cX5_ask 41 = .ok (.iconst 0, 1) := by decide +kernel
theorem dX5_ask_42 : decode cX5_ask 42 = .ok (.istore 7, 2) := by decide +kernel
theorem dX5_ask_44 : decode cX5_ask 44 = .ok (.iload 7, 2) := by decide +kernel
theorem dX5_ask_46 : decode cX5_ask 46 = .ok (.aload_n 0, 1) := by decide +kernel
theorem dX5_ask_47 : decode cX5_ask 47 = .ok (.getfield 19, 3) := by decide +kernel
theorem dX5_ask_50 : decode cX5_ask 50 = .ok (.getfield 95, 3) := by decide +kernel
theorem dX5_ask_53 : decode cX5_ask 53 = .ok (.if_icmp .ge 76, 3) := by decide +kernel
theorem dX5_ask_56 : decode cX5_ask 56 = .ok (.aload_n 0, 1) := by decide +kernel
theorem dX5_ask_57 : decode cX5_ask 57 = .ok (.iload_n 1, 1) := by decide +kernel
theorem dX5_ask_58 : decode cX5_ask 58 = .ok (.iload_n 3, 1) := by decide +kernel
theorem dX5_ask_59 : decode cX5_ask 59 = .ok (.iload 7, 2) := by decide +kernel
theorem dX5_ask_61 : decode cX5_ask 61 = .ok (.invokevirtual 251, 3) := by decide +kernel
theorem dX5_ask_64 : decode cX5_ask 64 = .ok (.iconst 0, 1) := by decide +kernel
theorem dX5_ask_65 : decode cX5_ask 65 = .ok (.istore 8, 2) := by decide +kernel
theorem dX5_ask_67 : decode cX5_ask 67 = .ok (.iload 8, 2) := by decide +kernel
theorem dX5_ask_69 : decode cX5_ask 69 = .ok (.bipush 8, 2) := by decide +kernel
theorem dX5_ask_71 : decode cX5_ask 71 = .ok (.if_icmp .ge 52, 3) := by decide +kernel
theorem dX5_ask_74 : decode cX5_ask 74 = .ok (.aload_n 0, 1) := by decide +kernel
theorem dX5_ask_75 : decode cX5_ask 75 = .ok (.getfield 48, 3) := by decide +kernel
theorem dX5_ask_78 : decode cX5_ask 78 = .ok (.iload 8, 2) := by decide +kernel
theorem dX5_ask_80 : decode cX5_ask 80 = .ok (.iaload, 1) := by decide +kernel
theorem dX5_ask_81 : decode cX5_ask 81 = .ok (.iload 4, 2) := by decide +kernel
theorem dX5_ask_83 : decode cX5_ask 83 = .ok (.aload_n 0, 1) := by decide +kernel
theorem dX5_ask_84 : decode cX5_ask 84 = .ok (.getfield 48, 3) := by decide +kernel
theorem dX5_ask_87 : decode cX5_ask 87 = .ok (.iload 8, 2) := by decide +kernel
theorem dX5_ask_89 : decode cX5_ask 89 = .ok (.iaload, 1) := by decide +kernel
theorem dX5_ask_90 : decode cX5_ask 90 = .ok (.isub, 1) := by decide +kernel
theorem dX5_ask_91 : decode cX5_ask 91 = .ok (.invokestatic 255, 3) := by decide +kernel
theorem dX5_ask_94 : decode cX5_ask 94 = .ok (.istore 9, 2) := by decide +kernel
theorem dX5_ask_96 : decode cX5_ask 96 = .ok (.iload 9, 2) := by decide +kernel
theorem dX5_ask_98 : decode cX5_ask 98 = .ok (.iload 6, 2) := by decide +kernel
theorem dX5_ask_100 : decode cX5_ask 100 = .ok (.if_icmp .ge 17, 3) := by decide +kernel
theorem dX5_ask_103 : decode cX5_ask 103 = .ok (.bipush 10, 2) := by decide +kernel
theorem dX5_ask_105 : decode cX5_ask 105 = .ok (.iload 7, 2) := by decide +kernel
theorem dX5_ask_107 : decode cX5_ask 107 = .ok (.imul, 1) := by decide +kernel
theorem dX5_ask_108 : decode cX5_ask 108 = .ok (.iload 8, 2) := by decide +kernel
theorem dX5_ask_110 : decode cX5_ask 110 = .ok (.iadd, 1) := by decide +kernel
theorem dX5_ask_111 : decode cX5_ask 111 = .ok (.istore 5, 2) := by decide +kernel
theorem dX5_ask_113 : decode cX5_ask 113 = .ok (.iload 9, 2) := by decide +kernel
theorem dX5_ask_115 : decode cX5_ask 115 = .ok (.istore 6, 2) := by decide +kernel
theorem dX5_ask_117 : decode cX5_ask 117 = .ok (.iinc 8 1, 3) := by decide +kernel
theorem dX5_ask_120 : decode cX5_ask 120 = .ok (.goto (-53), 3) := by decide +kernel
theorem dX5_ask_123 : decode cX5_ask 123 = .ok (.iinc 7 1, 3) := by decide +kernel
theorem dX5_ask_126 : decode cX5_ask 126 = .ok (.goto (-82), 3) := by decide +kernel
theorem dX5_ask_129 : decode cX5_ask 129 = .ok (.iload 5, 2) := by decide +kernel
theorem dX5_ask_131 : decode cX5_ask 131 = .ok (.bipush (-4), 2) := by decide +kernel
theorem dX5_ask_133 : decode cX5_ask 133 = .ok (.if_icmp .eq 7, 3) := by decide +kernel
theorem dX5_ask_136 : decode cX5_ask 136 = .ok (.iload_n 2, 1) := by decide +kernel
theorem dX5_ask_137 : decode cX5_ask 137 = .ok (.ifCond .ne 8, 3) := by decide +kernel
theorem dX5_ask_140 : decode cX5_ask 140 = .ok (.iload 5, 2) := by decide +kernel
theorem dX5_ask_142 : decode cX5_ask 142 = .ok (.goto 5, 3) := by decide +kernel
theorem dX5_ask_145 : decode cX5_ask 145 = .ok (.iload 6, 2) := by decide +kernel
theorem dX5_ask_147 : decode cX5_ask 147 = .ok (.ireturn, 1) := by decide +kernel
theorem dX5_drift_0 : decode cX5_drift 0 = .ok (.iload_n 2, 1) := by decide +kernel
theorem dX5_drift_1 : decode cX5_drift 1 = .ok (.iconst 1, 1) := by decide +kernel
theorem dX5_drift_2 : decode cX5_drift 2 = .ok (.if_icmp .lt 17, 3) := by decide +kernel
theorem dX5_drift_5 : decode cX5_drift 5 = .ok (.iload_n 2, 1) := by decide +kernel
theorem dX5_drift_6 : decode cX5_drift 6 = .ok (.bipush 60, 2) := by decide +kernel
theorem dX5_drift_8 : decode cX5_drift 8 = .ok (.if_icmp .gt 11, 3) := by decide +kernel
theorem dX5_drift_11 : decode cX5_drift 11 = .ok (.iload_n 3, 1) := by decide +kernel
theorem dX5_drift_12 : decode cX5_drift 12 = .ok (.iconst 1, 1) := by decide +kernel
theorem dX5_drift_13 : decode cX5_drift 13 = .ok (.invokestatic 52, 3) := by decide +kernel
theorem dX5_drift_16 : decode cX5_drift 16 = .ok (.ifCond .ne 5, 3) := by decide +kernel
theorem dX5_drift_19 : decode cX5_drift 19 = .ok (.iconst (-1), 1) := by decide +kernel
theorem dX5_drift_20 : decode cX5_drift 20 = .ok (.ireturn, 1) := by decide +kernel
theorem dX5_drift_21 : decode cX5_drift 21 = .ok (.aload_n 0, 1) := by decide +kernel
theorem dX5_drift_22 : decode cX5_drift 22 = .ok (.getfield 19, 3) := by decide +kernel
theorem dX5_drift_25 : decode cX5_drift 25 = .ok (.getfield 95, 3) := by decide +kernel
theorem dX5_drift_28 : decode cX5_drift 28 = .ok (.ifCond .eq 13, 3) := by decide +kernel
theorem dX5_drift_31 : decode cX5_drift 31 = .ok (.aload_n 0, 1) := by decide +kernel
theorem dX5_drift_32 : decode cX5_drift 32 = .ok (.getfield 19, 3) := by decide +kernel
theorem dX5_drift_35 : decode cX5_drift 35 = .ok (.getfield 98, 3) := by decide +kernel
theorem dX5_drift_38 : decode cX5_drift 38 = .ok (.ifCond .ne 6, 3) := by decide +kernel
theorem dX5_drift_41 : decode cX5_drift 41 = .ok (.bipush (-2), 2) := by decide +kernel
theorem dX5_drift_43 : decode cX5_drift 43 = .ok (.ireturn, 1) := by decide +kernel
theorem dX5_drift_44 : decode cX5_drift 44 = .ok (.aload_n 0, 1) := by decide +kernel
theorem dX5_drift_45 : decode cX5_drift 45 = .ok (.getfield 23, 3) := by decide +kernel
theorem dX5_drift_48 : decode cX5_drift 48 = .ok (.aload_n 0, 1) := by decide +kernel
theorem dX5_drift_49 : decode cX5_drift 49 = .ok (.getfield 19, 3) := by decide +kernel
theorem dX5_drift_52 : decode cX5_drift 52 = .ok (.invokevirtual 85, 3) := by decide +kernel
theorem dX5_drift_55 : decode cX5_drift 55 = .ok (.iload_n 1, 1) := by decide +kernel
theorem dX5_drift_56 : decode cX5_drift 56 = .ok (.istore 4, 2) := by decide +kernel
theorem dX5_drift_58 : decode cX5_drift 58 = .ok (.iconst 0, 1) := by decide +kernel
theorem dX5_drift_59 : decode cX5_drift 59 = .ok (.istore 5, 2) := by decide +kernel
theorem dX5_drift_61 : decode cX5_drift 61 = .ok (.iload 5, 2) := by decide +kernel
theorem dX5_drift_63 : decode cX5_drift 63 = .ok (.iload_n 2, 1) := by decide +kernel
theorem dX5_drift_64 : decode cX5_drift 64 = .ok (.if_icmp .ge 37, 3) := by decide +kernel
theorem dX5_drift_67 : decode cX5_drift 67 = .ok (.iload 4, 2) := by decide +kernel
theorem dX5_drift_69 : decode cX5_drift 69 = .ok (.ldc_w 260, 3) := by decide +kernel
theorem dX5_drift_72 : decode cX5_drift 72 = .ok (.imul, 1) := by decide +kernel
theorem dX5_drift_73 : decode cX5_drift 73 = .ok (.sipush 12345, 3) := by decide +kernel
theorem dX5_drift_76 : decode cX5_drift 76 = .ok (.iadd, 1) := by decide +kernel
theorem dX5_drift_77 : decode cX5_drift 77 = .ok (.istore 4, 2) := by decide +kernel
theorem dX5_drift_79 : decode cX5_drift 79 = .ok (.aload_n 0, 1) := by decide +kernel
theorem dX5_drift_80 : decode cX5_drift 80 = .ok (.getfield 23, 3) := by decide +kernel
theorem dX5_drift_83 : decode cX5_drift 83 = .ok (.iload 4, 2) := by decide +kernel
theorem dX5_drift_85 : decode cX5_drift 85 = .ok (.bipush 16, 2) := by decide +kernel
theorem dX5_drift_87 : decode cX5_drift 87 = .ok (.iushr, 1) := by decide +kernel
theorem dX5_drift_88 : decode cX5_drift 88 = .ok (.sipush 32767, 3) := by decide +kernel
theorem dX5_drift_91 : decode cX5_drift 91 = .ok (.iand, 1) := by decide +kernel
theorem dX5_drift_92 : decode cX5_drift 92 = .ok (.invokevirtual 261, 3) := by decide +kernel
theorem dX5_drift_95 : decode cX5_drift 95 = .ok (.iinc 5 1, 3) := by decide +kernel
theorem dX5_drift_98 : decode cX5_drift 98 = .ok (.goto (-37), 3) := by decide +kernel
theorem dX5_drift_101 : decode cX5_drift 101 = .ok (.iload_n 3, 1) := by decide +kernel
theorem dX5_drift_102 : decode cX5_drift 102 = .ok (.ifCond .ne 13, 3) := by decide +kernel
theorem dX5_drift_105 : decode cX5_drift 105 = .ok (.aload_n 0, 1) := by decide +kernel
theorem dX5_drift_106 : decode cX5_drift 106 = .ok (.getfield 23, 3) := by decide +kernel
theorem dX5_drift_109 : decode cX5_drift 109 = .ok (.invokevirtual 207, 3) := by decide +kernel
theorem dX5_drift_112 : decode cX5_drift 112 = .ok (.goto 13, 3) := by decide +kernel
theorem dX5_drift_115 : decode cX5_drift 115 = .ok (.aload_n 0, 1) := by decide +kernel
theorem dX5_drift_116 : decode cX5_drift 116 = .ok (.getfield 23, 3) := by decide +kernel
theorem dX5_drift_119 : decode cX5_drift 119 = .ok (.invokevirtual 101, 3) := by decide +kernel
theorem dX5_drift_122 : decode cX5_drift 122 = .ok (.invokestatic 105, 3) := by decide +kernel
theorem dX5_drift_125 : decode cX5_drift 125 = .ok (.ireturn, 1) := by decide +kernel
theorem dX5_keep_0 : decode cX5_keep 0 = .ok (.iload_n 1, 1) := by decide +kernel
theorem dX5_keep_1 : decode cX5_keep 1 = .ok (.iconst 1, 1) := by decide +kernel
theorem dX5_keep_2 : decode cX5_keep 2 = .ok (.invokestatic 52, 3) := by decide +kernel
theorem dX5_keep_5 : decode cX5_keep 5 = .ok (.ifCond .ne 5, 3) := by decide +kernel
theorem dX5_keep_8 : decode cX5_keep 8 = .ok (.iconst (-1), 1) := by decide +kernel
theorem dX5_keep_9 : decode cX5_keep 9 = .ok (.ireturn, 1) := by decide +kernel
theorem dX5_keep_10 : decode cX5_keep 10 = .ok (.aload_n 0, 1) := by decide +kernel
theorem dX5_keep_11 : decode cX5_keep 11 = .ok (.getfield 37, 3) := by decide +kernel
theorem dX5_keep_14 : decode cX5_keep 14 = .ok (.iload_n 1, 1) := by decide +kernel
theorem dX5_keep_15 : decode cX5_keep 15 = .ok (.baload, 1) := by decide +kernel
theorem dX5_keep_16 : decode cX5_keep 16 = .ok (.ifCond .eq 7, 3) := by decide +kernel
theorem dX5_keep_19 : decode cX5_keep 19 = .ok (.iconst 1, 1) := by decide +kernel
theorem dX5_keep_20 : decode cX5_keep 20 = .ok (.goto 4, 3) := by decide +kernel
theorem dX5_keep_23 : decode cX5_keep 23 = .ok (.iconst 0, 1) := by decide +kernel
theorem dX5_keep_24 : decode cX5_keep 24 = .ok (.istore_n 2, 1) := by decide +kernel
theorem dX5_keep_25 : decode cX5_keep 25 = .ok (.aload_n 0, 1) := by decide +kernel
theorem dX5_keep_26 : decode cX5_keep 26 = .ok (.getfield 33, 3) := by decide +kernel
theorem dX5_keep_29 : decode cX5_keep 29 = .ok (.iload_n 1, 1) := by decide +kernel
theorem dX5_keep_30 : decode cX5_keep 30 = .ok (.aaload, 1) := by decide +kernel
theorem dX5_keep_31 : decode cX5_keep 31 = .ok (.aload_n 0, 1) := by decide +kernel
theorem dX5_keep_32 : decode cX5_keep 32 = .ok (.getfield 19, 3) := by decide +kernel
theorem dX5_keep_35 : decode cX5_keep 35 = .ok (.invokevirtual 85, 3) := by decide +kernel
theorem dX5_keep_38 : decode cX5_keep 38 = .ok (.aload_n 0, 1) := by decide +kernel
theorem dX5_keep_39 : decode cX5_keep 39 = .ok (.getfield 37, 3) := by decide +kernel
theorem dX5_keep_42 : decode cX5_keep 42 = .ok (.iload_n 1, 1) := by decide +kernel
theorem dX5_keep_43 : decode cX5_keep 43 = .ok (.iconst 1, 1) := by decide +kernel
theorem dX5_keep_44 : decode cX5_keep 44 = .ok (.bastore, 1) := by decide +kernel
theorem dX5_keep_45 : decode cX5_keep 45 = .ok (.iload_n 2, 1) := by decide +kernel
theorem dX5_keep_46 : decode cX5_keep 46 = .ok (.ireturn, 1) := by decide +kernel
theorem dX5_back_0 : decode cX5_back 0 = .ok (.iload_n 1, 1) := by decide +kernel
theorem dX5_back_1 : decode cX5_back 1 = .ok (.iconst 1, 1) := by decide +kernel
theorem dX5_back_2 : decode cX5_back 2 = .ok (.invokestatic 52, 3) := by decide +kernel
theorem dX5_back_5 : decode cX5_back 5 = .ok (.ifCond .ne 5, 3) := by decide +kernel
theorem dX5_back_8 : decode cX5_back 8 = .ok (.iconst (-1), 1) := by decide +kernel
theorem dX5_back_9 : decode cX5_back 9 = .ok (.ireturn, 1) := by decide +kernel
theorem dX5_back_10 : decode cX5_back 10 = .ok (.aload_n 0, 1) := by decide +kernel
theorem dX5_back_11 : decode cX5_back 11 = .ok (.getfield 37, 3) := by decide +kernel
theorem dX5_back_14 : decode cX5_back 14 = .ok (.iload_n 1, 1) := by decide +kernel
theorem dX5_back_15 : decode cX5_back 15 = .ok (.baload, 1) := by decide +kernel
theorem dX5_back_16 : decode cX5_back 16 = .ok (.ifCond .ne 6, 3) := by decide +kernel
theorem dX5_back_19 : decode cX5_back 19 = .ok (.bipush (-2), 2) := by decide +kernel
theorem dX5_back_21 : decode cX5_back 21 = .ok (.ireturn, 1) := by decide +kernel
theorem dX5_back_22 : decode cX5_back 22 = .ok (.aload_n 0, 1) := by decide +kernel
theorem dX5_back_23 : decode cX5_back 23 = .ok (.getfield 19, 3) := by decide +kernel
theorem dX5_back_26 : decode cX5_back 26 = .ok (.aload_n 0, 1) := by decide +kernel
theorem dX5_back_27 : decode cX5_back 27 = .ok (.getfield 33, 3) := by decide +kernel
theorem dX5_back_30 : decode cX5_back 30 = .ok (.iload_n 1, 1) := by decide +kernel
theorem dX5_back_31 : decode cX5_back 31 = .ok (.aaload, 1) := by decide +kernel
theorem dX5_back_32 : decode cX5_back 32 = .ok (.invokevirtual 85, 3) := by decide +kernel
theorem dX5_back_35 : decode cX5_back 35 = .ok (.aload_n 0, 1) := by decide +kernel
theorem dX5_back_36 : decode cX5_back 36 = .ok (.getfield 19, 3) := by decide +kernel
theorem dX5_back_39 : decode cX5_back 39 = .ok (.invokevirtual 101, 3) := by decide +kernel
theorem dX5_back_42 : decode cX5_back 42 = .ok (.invokestatic 105, 3) := by decide +kernel
theorem dX5_back_45 : decode cX5_back 45 = .ok (.ireturn, 1) := by decide +kernel
theorem dX5_sheet_0 : decode cX5_sheet 0 = .ok (.iload_n 1, 1) := by decide +kernel
theorem dX5_sheet_1 : decode cX5_sheet 1 = .ok (.iconst 3, 1) := by decide +kernel
theorem dX5_sheet_2 : decode cX5_sheet 2 = .ok (.invokestatic 52, 3) := by decide +kernel
theorem dX5_sheet_5 : decode cX5_sheet 5 = .ok (.ifCond .eq 17, 3) := by decide +kernel
theorem dX5_sheet_8 : decode cX5_sheet 8 = .ok (.iload_n 2, 1) := by decide +kernel
theorem dX5_sheet_9 : decode cX5_sheet 9 = .ok (.iconst 2, 1) := by decide +kernel
theorem dX5_sheet_10 : decode cX5_sheet 10 = .ok (.invokestatic 52, 3) := by decide +kernel
theorem dX5_sheet_13 : decode cX5_sheet 13 = .ok (.ifCond .eq 9, 3) := by decide +kernel
theorem dX5_sheet_16 : decode cX5_sheet 16 = .ok (.iload_n 3, 1) := by decide +kernel
theorem dX5_sheet_17 : decode cX5_sheet 17 = .ok (.bipush 40, 2) := by decide +kernel
theorem dX5_sheet_19 : decode cX5_sheet 19 = .ok (.if_icmp .le 5, 3) := by decide +kernel
theorem dX5_sheet_22 : decode cX5_sheet 22 = .ok (.iconst (-1), 1) := by decide +kernel
theorem dX5_sheet_23 : decode cX5_sheet 23 = .ok (.ireturn, 1) := by decide +kernel
theorem dX5_sheet_24 : decode cX5_sheet 24 = .ok (.iload_n 3, 1) := by decide +kernel
theorem dX5_sheet_25 : decode cX5_sheet 25 = .ok (.ifCond .ge 6, 3) := by decide +kernel
theorem dX5_sheet_28 : decode cX5_sheet 28 = .ok (.bipush (-14), 2) := by decide +kernel
theorem dX5_sheet_30 : decode cX5_sheet 30 = .ok (.ireturn, 1) := by decide +kernel
theorem dX5_sheet_31 : decode cX5_sheet 31 = .ok (.aload_n 0, 1) := by decide +kernel
theorem dX5_sheet_32 : decode cX5_sheet 32 = .ok (.getfield 43, 3) := by decide +kernel
theorem dX5_sheet_35 : decode cX5_sheet 35 = .ok (.iload_n 1, 1) := by decide +kernel
theorem dX5_sheet_36 : decode cX5_sheet 36 = .ok (.aaload, 1) := by decide +kernel
theorem dX5_sheet_37 : decode cX5_sheet 37 = .ok (.iload_n 2, 1) := by decide +kernel
theorem dX5_sheet_38 : decode cX5_sheet 38 = .ok (.iload_n 3, 1) := by decide +kernel
theorem dX5_sheet_39 : decode cX5_sheet 39 = .ok (.invokevirtual 265, 3) := by decide +kernel
theorem dX5_sheet_42 : decode cX5_sheet 42 = .ok (.iconst 1, 1) := by decide +kernel
theorem dX5_sheet_43 : decode cX5_sheet 43 = .ok (.ireturn, 1) := by decide +kernel
theorem dX5_lay_0 : decode cX5_lay 0 = .ok (.iload_n 1, 1) := by decide +kernel
theorem dX5_lay_1 : decode cX5_lay 1 = .ok (.iconst 3, 1) := by decide +kernel
theorem dX5_lay_2 : decode cX5_lay 2 = .ok (.invokestatic 52, 3) := by decide +kernel
theorem dX5_lay_5 : decode cX5_lay 5 = .ok (.ifCond .ne 5, 3) := by decide +kernel
theorem dX5_lay_8 : decode cX5_lay 8 = .ok (.iconst (-1), 1) := by decide +kernel
theorem dX5_lay_9 : decode cX5_lay 9 = .ok (.ireturn, 1) := by decide +kernel
theorem dX5_lay_10 : decode cX5_lay 10 = .ok (.aload_n 0, 1) := by decide +kernel
theorem dX5_lay_11 : decode cX5_lay 11 = .ok (.getfield 43, 3) := by decide +kernel
theorem dX5_lay_14 : decode cX5_lay 14 = .ok (.iload_n 1, 1) := by decide +kernel
theorem dX5_lay_15 : decode cX5_lay 15 = .ok (.aaload, 1) := by decide +kernel
theorem dX5_lay_16 : decode cX5_lay 16 = .ok (.astore 4, 2) := by decide +kernel
theorem dX5_lay_18 : decode cX5_lay 18 = .ok (.aload 4, 2) := by decide +kernel
theorem dX5_lay_20 : decode cX5_lay 20 = .ok (.aload 4, 2) := by decide +kernel
theorem dX5_lay_22 : decode cX5_lay 22 = .ok (.getfield 269, 3) := by decide +kernel
theorem dX5_lay_25 : decode cX5_lay 25 = .ok (.iload_n 2, 1) := by decide +kernel
theorem dX5_lay_26 : decode cX5_lay 26 = .ok (.i2l, 1) := by decide +kernel
theorem dX5_lay_27 : decode cX5_lay 27 = .ok (.invokevirtual 272, 3) := by decide +kernel
theorem dX5_lay_30 : decode cX5_lay 30 = .ok (.istore 5, 2) := by decide +kernel
theorem dX5_lay_32 : decode cX5_lay 32 = .ok (.iload 5, 2) := by decide +kernel
theorem dX5_lay_34 : decode cX5_lay 34 = .ok (.ifCond .eq 9, 3) := by decide +kernel
theorem dX5_lay_37 : decode cX5_lay 37 = .ok (.bipush (-10), 2) := by decide +kernel
theorem dX5_lay_39 : decode cX5_lay 39 = .ok (.iload 5, 2) := by decide +kernel
theorem dX5_lay_41 : decode cX5_lay 41 = .ok (.isub, 1) := by decide +kernel
theorem dX5_lay_42 : decode cX5_lay 42 = .ok (.ireturn, 1) := by decide +kernel
theorem dX5_lay_43 : decode cX5_lay 43 = .ok (.aload 4, 2) := by decide +kernel
theorem dX5_lay_45 : decode cX5_lay 45 = .ok (.getfield 276, 3) := by decide +kernel
theorem dX5_lay_48 : decode cX5_lay 48 = .ok (.iload_n 2, 1) := by decide +kernel
theorem dX5_lay_49 : decode cX5_lay 49 = .ok (.iload_n 3, 1) := by decide +kernel
theorem dX5_lay_50 : decode cX5_lay 50 = .ok (.aload 4, 2) := by decide +kernel
theorem dX5_lay_52 : decode cX5_lay 52 = .ok (.getfield 269, 3) := by decide +kernel
theorem dX5_lay_55 : decode cX5_lay 55 = .ok (.invokestatic 279, 3) := by decide +kernel
theorem dX5_lay_58 : decode cX5_lay 58 = .ok (.iastore, 1) := by decide +kernel
theorem dX5_lay_59 : decode cX5_lay 59 = .ok (.iconst 1, 1) := by decide +kernel
theorem dX5_lay_60 : decode cX5_lay 60 = .ok (.ireturn, 1) := by decide +kernel
theorem dX5_read_0 : decode cX5_read 0 = .ok (.iload_n 1, 1) := by decide +kernel
theorem dX5_read_1 : decode cX5_read 1 = .ok (.iconst 3, 1) := by decide +kernel
theorem dX5_read_2 : decode cX5_read 2 = .ok (.invokestatic 52, 3) := by decide +kernel
theorem dX5_read_5 : decode cX5_read 5 = .ok (.ifCond .eq 21, 3) := by decide +kernel
theorem dX5_read_8 : decode cX5_read 8 = .ok (.iload_n 2, 1) := by decide +kernel
theorem dX5_read_9 : decode cX5_read 9 = .ok (.iconst 2, 1) := by decide +kernel
theorem dX5_read_10 : decode cX5_read 10 = .ok (.invokestatic 52, 3) := by decide +kernel
theorem dX5_read_13 : decode cX5_read 13 = .ok (.ifCond .eq 13, 3) := by decide +kernel
theorem dX5_read_16 : decode cX5_read 16 = .ok (.iload 4, 2) := by decide +kernel
theorem dX5_read_18 : decode cX5_read 18 = .ok (.bipush 20, 2) := by decide +kernel
theorem dX5_read_20 : decode cX5_read 20 = .ok (.invokestatic 52, 3) := by decide +kernel
theorem dX5_read_23 : decode cX5_read 23 = .ok (.ifCond .ne 5, 3) := by decide +kernel
theorem dX5_read_26 : decode cX5_read 26 = .ok (.iconst (-1), 1) := by decide +kernel
theorem dX5_read_27 : decode cX5_read 27 = .ok (.ireturn, 1) := by decide +kernel
theorem dX5_read_28 : decode cX5_read 28 = .ok (.aload_n 0, 1) := by decide +kernel
theorem dX5_read_29 : decode cX5_read 29 = .ok (.getfield 43, 3) := by decide +kernel
theorem dX5_read_32 : decode cX5_read 32 = .ok (.iload_n 1, 1) := by decide +kernel
theorem dX5_read_33 : decode cX5_read 33 = .ok (.aaload, 1) := by decide +kernel
theorem dX5_read_34 : decode cX5_read 34 = .ok (.astore 5, 2) := by decide +kernel
theorem dX5_read_36 : decode cX5_read 36 = .ok (.aload_n 0, 1) := by decide +kernel
theorem dX5_read_37 : decode cX5_read 37 = .ok (.getfield 23, 3) := by decide +kernel
theorem dX5_read_40 : decode cX5_read 40 = .ok (.aload_n 0, 1) := by decide +kernel
theorem dX5_read_41 : decode cX5_read 41 = .ok (.getfield 19, 3) := by decide +kernel
theorem dX5_read_44 : decode cX5_read 44 = .ok (.invokevirtual 85, 3) := by decide +kernel
theorem dX5_read_47 : decode cX5_read 47 = .ok (.iconst 0, 1) := by decide +kernel
theorem dX5_read_48 : decode cX5_read 48 = .ok (.istore 6, 2) := by decide +kernel
theorem dX5_read_50 : decode cX5_read 50 = .ok (.iconst 0, 1) := by decide +kernel
theorem dX5_read_51 : decode cX5_read 51 = .ok (.istore 7, 2) := by decide +kernel
theorem dX5_read_53 : decode cX5_read 53 = .ok (.iconst 0, 1) := by decide +kernel
theorem dX5_read_54 : decode cX5_read 54 = .ok (.istore 8, 2) := by decide +kernel
theorem dX5_read_56 : decode cX5_read 56 = .ok (.iload 8, 2) := by decide +kernel
theorem dX5_read_58 : decode cX5_read 58 = .ok (.iload 4, 2) := by decide +kernel
theorem dX5_read_60 : decode cX5_read 60 = .ok (.if_icmp .ge 75, 3) := by decide +kernel
theorem dX5_read_63 : decode cX5_read 63 = .ok (.iload 6, 2) := by decide +kernel
theorem dX5_read_65 : decode cX5_read 65 = .ok (.ifCond .ne 70, 3) := by decide +kernel
theorem dX5_read_68 : decode cX5_read 68 = .ok (.aload 5, 2) := by decide +kernel
theorem dX5_read_70 : decode cX5_read 70 = .ok (.iload_n 2, 1) := by decide +kernel
theorem dX5_read_71 : decode cX5_read 71 = .ok (.iload_n 3, 1) := by decide +kernel
theorem dX5_read_72 : decode cX5_read 72 = .ok (.iload 8, 2) := by decide +kernel
theorem dX5_read_74 : decode cX5_read 74 = .ok (.invokevirtual 282, 3) := by decide +kernel
theorem dX5_read_77 : decode cX5_read 77 = .ok (.istore 6, 2) := by decide +kernel
theorem dX5_read_79 : decode cX5_read 79 = .ok (.iload 6, 2) := by decide +kernel
theorem dX5_read_81 : decode cX5_read 81 = .ok (.ifCond .ne 48, 3) := by decide +kernel
theorem dX5_read_84 : decode cX5_read 84 = .ok (.iload_n 3, 1) := by decide +kernel
theorem dX5_read_85 : decode cX5_read 85 = .ok (.iconst 2, 1) := by decide +kernel
theorem dX5_read_86 : decode cX5_read 86 = .ok (.iload 8, 2) := by decide +kernel
theorem dX5_read_88 : decode cX5_read 88 = .ok (.imul, 1) := by decide +kernel
theorem dX5_read_89 : decode cX5_read 89 = .ok (.iadd, 1) := by decide +kernel
theorem dX5_read_90 : decode cX5_read 90 = .ok (.istore 9, 2) := by decide +kernel
theorem dX5_read_92 : decode cX5_read 92 = .ok (.aload_n 0, 1) := by decide +kernel
theorem dX5_read_93 : decode cX5_read 93 = .ok (.getfield 23, 3) := by decide +kernel
theorem dX5_read_96 : decode cX5_read 96 = .ok (.aload 5, 2) := by decide +kernel
theorem dX5_read_98 : decode cX5_read 98 = .ok (.getfield 276, 3) := by decide +kernel
theorem dX5_read_101 : decode cX5_read 101 = .ok (.iload 9, 2) := by decide +kernel
theorem dX5_read_103 : decode cX5_read 103 = .ok (.iaload, 1) := by decide +kernel
theorem dX5_read_104 : decode cX5_read 104 = .ok (.aload 5, 2) := by decide +kernel
theorem dX5_read_106 : decode cX5_read 106 = .ok (.getfield 276, 3) := by decide +kernel
theorem dX5_read_109 : decode cX5_read 109 = .ok (.iload 9, 2) := by decide +kernel
theorem dX5_read_111 : decode cX5_read 111 = .ok (.iconst 1, 1) := by decide +kernel
theorem dX5_read_112 : decode cX5_read 112 = .ok (.iadd, 1) := by decide +kernel
theorem dX5_read_113 : decode cX5_read 113 = .ok (.iaload, 1) := by decide +kernel
theorem dX5_read_114 : decode cX5_read 114 = .ok (.invokevirtual 185, 3) := by decide +kernel
theorem dX5_read_117 : decode cX5_read 117 = .ok (.ifCond .ne 9, 3) := by decide +kernel
theorem dX5_read_120 : decode cX5_read 120 = .ok (.bipush (-20), 2) := by decide +kernel
theorem dX5_read_122 : decode cX5_read 122 = .ok (.iload 8, 2) := by decide +kernel
theorem dX5_read_124 : decode cX5_read 124 = .ok (.isub, 1) := by decide +kernel
theorem dX5_read_125 : decode cX5_read 125 = .ok (.ireturn, 1) := by decide +kernel
theorem dX5_read_126 : decode cX5_read 126 = .ok (.iinc 7 1, 3) := by decide +kernel
theorem dX5_read_129 : decode cX5_read 129 = .ok (.iinc 8 1, 3) := by decide +kernel
theorem dX5_read_132 : decode cX5_read 132 = .ok (.goto (-76), 3) := by decide +kernel
theorem dX5_read_135 : decode cX5_read 135 = .ok (.aload_n 0, 1) := by decide +kernel
theorem dX5_read_136 : decode cX5_read 136 = .ok (.getfield 19, 3) := by decide +kernel
theorem dX5_read_139 : decode cX5_read 139 = .ok (.aload_n 0, 1) := by decide +kernel
theorem dX5_read_140 : decode cX5_read 140 = .ok (.getfield 23, 3) := by decide +kernel
theorem dX5_read_143 : decode cX5_read 143 = .ok (.invokevirtual 85, 3) := by decide +kernel
theorem dX5_read_146 : decode cX5_read 146 = .ok (.aload_n 0, 1) := by decide +kernel
theorem dX5_read_147 : decode cX5_read 147 = .ok (.iload 6, 2) := by decide +kernel
theorem dX5_read_149 : decode cX5_read 149 = .ok (.putfield 285, 3) := by decide +kernel
theorem dX5_read_152 : decode cX5_read 152 = .ok (.iload 7, 2) := by decide +kernel
theorem dX5_read_154 : decode cX5_read 154 = .ok (.ireturn, 1) := by decide +kernel
theorem dX5_torn_0 : decode cX5_torn 0 = .ok (.aload_n 0, 1) := by decide +kernel
theorem dX5_torn_1 : decode cX5_torn 1 = .ok (.getfield 285, 3) := by decide +kernel
theorem dX5_torn_4 : decode cX5_torn 4 = .ok (.ireturn, 1) := by decide +kernel
theorem dX5_count_0 : decode cX5_count 0 = .ok (.iload_n 1, 1) := by decide +kernel
theorem dX5_count_1 : decode cX5_count 1 = .ok (.tableswitch 139 0 5 #[39, 47, 77, 88, 115, 126], 39) := by decide +kernel
theorem dX5_count_40 : decode cX5_count 40 = .ok (.aload_n 0, 1) := by decide +kernel
theorem dX5_count_41 : decode cX5_count 41 = .ok (.getfield 29, 3) := by decide +kernel
theorem dX5_count_44 : decode cX5_count 44 = .ok (.getfield 89, 3) := by decide +kernel
theorem dX5_count_47 : decode cX5_count 47 = .ok (.ireturn, 1) := by decide +kernel
theorem dX5_count_48 : decode cX5_count 48 = .ok (.aload_n 0, 1) := by decide +kernel
theorem dX5_count_49 : decode cX5_count 49 = .ok (.getfield 37, 3) := by decide +kernel
theorem dX5_count_52 : decode cX5_count 52 = .ok (.iconst 0, 1) := by decide +kernel
theorem dX5_count_53 : decode cX5_count 53 = .ok (.baload, 1) := by decide +kernel
theorem dX5_count_54 : decode cX5_count 54 = .ok (.ifCond .eq 7, 3) := by decide +kernel
theorem dX5_count_57 : decode cX5_count 57 = .ok (.iconst 1, 1) := by decide +kernel
theorem dX5_count_58 : decode cX5_count 58 = .ok (.goto 4, 3) := by decide +kernel
theorem dX5_count_61 : decode cX5_count 61 = .ok (.iconst 0, 1) := by decide +kernel
theorem dX5_count_62 : decode cX5_count 62 = .ok (.aload_n 0, 1) := by decide +kernel
theorem dX5_count_63 : decode cX5_count 63 = .ok (.getfield 37, 3) := by decide +kernel
theorem dX5_count_66 : decode cX5_count 66 = .ok (.iconst 1, 1) := by decide +kernel
theorem dX5_count_67 : decode cX5_count 67 = .ok (.baload, 1) := by decide +kernel
theorem dX5_count_68 : decode cX5_count 68 = .ok (.ifCond .eq 7, 3) := by decide +kernel
theorem dX5_count_71 : decode cX5_count 71 = .ok (.iconst 1, 1) := by decide +kernel
theorem dX5_count_72 : decode cX5_count 72 = .ok (.goto 4, 3) := by decide +kernel
theorem dX5_count_75 : decode cX5_count 75 = .ok (.iconst 0, 1) := by decide +kernel
theorem dX5_count_76 : decode cX5_count 76 = .ok (.iadd, 1) := by decide +kernel
theorem dX5_count_77 : decode cX5_count 77 = .ok (.ireturn, 1) := by decide +kernel
theorem dX5_count_78 : decode cX5_count 78 = .ok (.aload_n 0, 1) := by decide +kernel
theorem dX5_count_79 : decode cX5_count 79 = .ok (.getfield 10, 3) := by decide +kernel
theorem dX5_count_82 : decode cX5_count 82 = .ok (.getfield 56, 3) := by decide +kernel
theorem dX5_count_85 : decode cX5_count 85 = .ok (.getfield 66, 3) := by decide +kernel
theorem dX5_count_88 : decode cX5_count 88 = .ok (.ireturn, 1) := by decide +kernel
theorem dX5_count_89 : decode cX5_count 89 = .ok (.aload_n 0, 1) := by decide +kernel
theorem dX5_count_90 : decode cX5_count 90 = .ok (.getfield 43, 3) := by decide +kernel
theorem dX5_count_93 : decode cX5_count 93 = .ok (.iconst 0, 1) := by decide +kernel
theorem dX5_count_94 : decode cX5_count 94 = .ok (.aaload, 1) := by decide +kernel
theorem dX5_count_95 : decode cX5_count 95 = .ok (.getfield 288, 3) := by decide +kernel
theorem dX5_count_98 : decode cX5_count 98 = .ok (.ifCond .ge 8, 3) := by decide +kernel
theorem dX5_count_101 : decode cX5_count 101 = .ok (.bipush (-4), 2) := by decide +kernel
theorem dX5_count_103 : decode cX5_count 103 = .ok (.goto 12, 3) := by decide +kernel
theorem dX5_count_106 : decode cX5_count 106 = .ok (.aload_n 0, 1) := by decide +kernel
theorem dX5_count_107 : decode cX5_count 107 = .ok (.getfield 43, 3) := by decide +kernel
theorem dX5_count_110 : decode cX5_count 110 = .ok (.iconst 0, 1) := by decide +kernel
theorem dX5_count_111 : decode cX5_count 111 = .ok (.aaload, 1) := by decide +kernel
theorem dX5_count_112 : decode cX5_count 112 = .ok (.getfield 288, 3) := by decide +kernel
theorem dX5_count_115 : decode cX5_count 115 = .ok (.ireturn, 1) := by decide +kernel
theorem dX5_count_116 : decode cX5_count 116 = .ok (.aload_n 0, 1) := by decide +kernel
theorem dX5_count_117 : decode cX5_count 117 = .ok (.getfield 19, 3) := by decide +kernel
theorem dX5_count_120 : decode cX5_count 120 = .ok (.sipush 255, 3) := by decide +kernel
theorem dX5_count_123 : decode cX5_count 123 = .ok (.invokevirtual 289, 3) := by decide +kernel
theorem dX5_count_126 : decode cX5_count 126 = .ok (.ireturn, 1) := by decide +kernel
theorem dX5_count_127 : decode cX5_count 127 = .ok (.aload_n 0, 1) := by decide +kernel
theorem dX5_count_128 : decode cX5_count 128 = .ok (.getfield 19, 3) := by decide +kernel
theorem dX5_count_131 : decode cX5_count 131 = .ok (.bipush (-2), 2) := by decide +kernel
theorem dX5_count_133 : decode cX5_count 133 = .ok (.invokevirtual 114, 3) := by decide +kernel
theorem dX5_count_136 : decode cX5_count 136 = .ok (.invokestatic 105, 3) := by decide +kernel
theorem dX5_count_139 : decode cX5_count 139 = .ok (.ireturn, 1) := by decide +kernel
theorem dX5_count_140 : decode cX5_count 140 = .ok (.iconst (-1), 1) := by decide +kernel
theorem dX5_count_141 : decode cX5_count 141 = .ok (.ireturn, 1) := by decide +kernel
theorem dX5_isUpTo_0 : decode cX5_isUpTo 0 = .ok (.iload_n 0, 1) := by decide +kernel
theorem dX5_isUpTo_1 : decode cX5_isUpTo 1 = .ok (.ifCond .lt 12, 3) := by decide +kernel
theorem dX5_isUpTo_4 : decode cX5_isUpTo 4 = .ok (.iload_n 0, 1) := by decide +kernel
theorem dX5_isUpTo_5 : decode cX5_isUpTo 5 = .ok (.iload_n 1, 1) := by decide +kernel
theorem dX5_isUpTo_6 : decode cX5_isUpTo 6 = .ok (.if_icmp .gt 7, 3) := by decide +kernel
theorem dX5_isUpTo_9 : decode cX5_isUpTo 9 = .ok (.iconst 1, 1) := by decide +kernel
theorem dX5_isUpTo_10 : decode cX5_isUpTo 10 = .ok (.goto 4, 3) := by decide +kernel
theorem dX5_isUpTo_13 : decode cX5_isUpTo 13 = .ok (.iconst 0, 1) := by decide +kernel
theorem dX5_isUpTo_14 : decode cX5_isUpTo 14 = .ok (.ireturn, 1) := by decide +kernel
theorem dX5_isRoom_0 : decode cX5_isRoom 0 = .ok (.iload_n 0, 1) := by decide +kernel
theorem dX5_isRoom_1 : decode cX5_isRoom 1 = .ok (.ifCond .lt 13, 3) := by decide +kernel
theorem dX5_isRoom_4 : decode cX5_isRoom 4 = .ok (.iload_n 0, 1) := by decide +kernel
theorem dX5_isRoom_5 : decode cX5_isRoom 5 = .ok (.bipush 8, 2) := by decide +kernel
theorem dX5_isRoom_7 : decode cX5_isRoom 7 = .ok (.if_icmp .ge 7, 3) := by decide +kernel
theorem dX5_isRoom_10 : decode cX5_isRoom 10 = .ok (.iconst 1, 1) := by decide +kernel
theorem dX5_isRoom_11 : decode cX5_isRoom 11 = .ok (.goto 4, 3) := by decide +kernel
theorem dX5_isRoom_14 : decode cX5_isRoom 14 = .ok (.iconst 0, 1) := by decide +kernel
theorem dX5_isRoom_15 : decode cX5_isRoom 15 = .ok (.ireturn, 1) := by decide +kernel
theorem dX5_hasBit_0 : decode cX5_hasBit 0 = .ok (.iload_n 1, 1) := by decide +kernel
theorem dX5_hasBit_1 : decode cX5_hasBit 1 = .ok (.ifCond .lt 22, 3) := by decide +kernel
theorem dX5_hasBit_4 : decode cX5_hasBit 4 = .ok (.iload_n 1, 1) := by decide +kernel
theorem dX5_hasBit_5 : decode cX5_hasBit 5 = .ok (.bipush 32, 2) := by decide +kernel
theorem dX5_hasBit_7 : decode cX5_hasBit 7 = .ok (.if_icmp .ge 16, 3) := by decide +kernel
theorem dX5_hasBit_10 : decode cX5_hasBit 10 = .ok (.iload_n 0, 1) := by decide +kernel
theorem dX5_hasBit_11 : decode cX5_hasBit 11 = .ok (.iload_n 1, 1) := by decide +kernel
theorem dX5_hasBit_12 : decode cX5_hasBit 12 = .ok (.iushr, 1) := by decide +kernel
theorem dX5_hasBit_13 : decode cX5_hasBit 13 = .ok (.iconst 1, 1) := by decide +kernel
theorem dX5_hasBit_14 : decode cX5_hasBit 14 = .ok (.iand, 1) := by decide +kernel
theorem dX5_hasBit_15 : decode cX5_hasBit 15 = .ok (.iconst 1, 1) := by decide +kernel
theorem dX5_hasBit_16 : decode cX5_hasBit 16 = .ok (.if_icmp .ne 7, 3) := by decide +kernel
theorem dX5_hasBit_19 : decode cX5_hasBit 19 = .ok (.iconst 1, 1) := by decide +kernel
theorem dX5_hasBit_20 : decode cX5_hasBit 20 = .ok (.goto 4, 3) := by decide +kernel
theorem dX5_hasBit_23 : decode cX5_hasBit 23 = .ok (.iconst 0, 1) := by decide +kernel
theorem dX5_hasBit_24 : decode cX5_hasBit 24 = .ok (.ireturn, 1) := by decide +kernel
theorem dX5_replaced_0 : decode cX5_replaced 0 = .ok (.iload_n 1, 1) := by decide +kernel
theorem dX5_replaced_1 : decode cX5_replaced 1 = .ok (.ifCond .lt 17, 3) := by decide +kernel
theorem dX5_replaced_4 : decode cX5_replaced 4 = .ok (.iload_n 1, 1) := by decide +kernel
theorem dX5_replaced_5 : decode cX5_replaced 5 = .ok (.aload_n 0, 1) := by decide +kernel
theorem dX5_replaced_6 : decode cX5_replaced 6 = .ok (.arraylength, 1) := by decide +kernel
theorem dX5_replaced_7 : decode cX5_replaced 7 = .ok (.if_icmp .ge 11, 3) := by decide +kernel
theorem dX5_replaced_10 : decode cX5_replaced 10 = .ok (.iload_n 2, 1) := by decide +kernel
theorem dX5_replaced_11 : decode cX5_replaced 11 = .ok (.iload_n 3, 1) := by decide +kernel
theorem dX5_replaced_12 : decode cX5_replaced 12 = .ok (.invokestatic 52, 3) := by decide +kernel
theorem dX5_replaced_15 : decode cX5_replaced 15 = .ok (.ifCond .ne 5, 3) := by decide +kernel
theorem dX5_replaced_18 : decode cX5_replaced 18 = .ok (.iconst (-1), 1) := by decide +kernel
theorem dX5_replaced_19 : decode cX5_replaced 19 = .ok (.ireturn, 1) := by decide +kernel
theorem dX5_replaced_20 : decode cX5_replaced 20 = .ok (.aload_n 0, 1) := by decide +kernel
theorem dX5_replaced_21 : decode cX5_replaced 21 = .ok (.iload_n 1, 1) := by decide +kernel
theorem dX5_replaced_22 : decode cX5_replaced 22 = .ok (.iaload, 1) := by decide +kernel
theorem dX5_replaced_23 : decode cX5_replaced 23 = .ok (.istore 4, 2) := by decide +kernel
theorem dX5_replaced_25 : decode cX5_replaced 25 = .ok (.aload_n 0, 1) := by decide +kernel
theorem dX5_replaced_26 : decode cX5_replaced 26 = .ok (.iload_n 1, 1) := by decide +kernel
theorem dX5_replaced_27 : decode cX5_replaced 27 = .ok (.iload_n 2, 1) := by decide +kernel
theorem dX5_replaced_28 : decode cX5_replaced 28 = .ok (.iastore, 1) := by decide +kernel
theorem dX5_replaced_29 : decode cX5_replaced 29 = .ok (.iload 4, 2) := by decide +kernel
theorem dX5_replaced_31 : decode cX5_replaced 31 = .ok (.ireturn, 1) := by decide +kernel
theorem dX5_firstMissing_0 : decode cX5_firstMissing 0 = .ok (.iconst 0, 1) := by decide +kernel
theorem dX5_firstMissing_1 : decode cX5_firstMissing 1 = .ok (.istore_n 2, 1) := by decide +kernel
theorem dX5_firstMissing_2 : decode cX5_firstMissing 2 = .ok (.iload_n 2, 1) := by decide +kernel
theorem dX5_firstMissing_3 : decode cX5_firstMissing 3 = .ok (.iload_n 1, 1) := by decide +kernel
theorem dX5_firstMissing_4 : decode cX5_firstMissing 4 = .ok (.if_icmp .ge 19, 3) := by decide +kernel
theorem dX5_firstMissing_7 : decode cX5_firstMissing 7 = .ok (.iload_n 0, 1) := by decide +kernel
theorem dX5_firstMissing_8 : decode cX5_firstMissing 8 = .ok (.iload_n 2, 1) := by decide +kernel
theorem dX5_firstMissing_9 : decode cX5_firstMissing 9 = .ok (.invokestatic 292, 3) := by decide +kernel
theorem dX5_firstMissing_12 : decode cX5_firstMissing 12 = .ok (.ifCond .ne 5, 3) := by decide +kernel
theorem dX5_firstMissing_15 : decode cX5_firstMissing 15 = .ok (.iload_n 2, 1) := by decide +kernel
theorem dX5_firstMissing_16 : decode cX5_firstMissing 16 = .ok (.ireturn, 1) := by decide +kernel
theorem dX5_firstMissing_17 : decode cX5_firstMissing 17 = .ok (.iinc 2 1, 3) := by decide +kernel
theorem dX5_firstMissing_20 : decode cX5_firstMissing 20 = .ok (.goto (-18), 3) := by decide +kernel
theorem dX5_firstMissing_23 : decode cX5_firstMissing 23 = .ok (.bipush (-4), 2) := by decide +kernel
theorem dX5_firstMissing_25 : decode cX5_firstMissing 25 = .ok (.ireturn, 1) := by decide +kernel
theorem dX5_inLowestTerms_0 : decode cX5_inLowestTerms 0 = .ok (.lload_n 2, 1) := by decide +kernel
theorem dX5_inLowestTerms_1 : decode cX5_inLowestTerms 1 = .ok (.lstore 5, 2) := by decide +kernel
theorem dX5_inLowestTerms_3 : decode cX5_inLowestTerms 3 = .ok (.lload_n 0, 1) := by decide +kernel
theorem dX5_inLowestTerms_4 : decode cX5_inLowestTerms 4 = .ok (.lstore 7, 2) := by decide +kernel
theorem dX5_inLowestTerms_6 : decode cX5_inLowestTerms 6 = .ok (.iconst 0, 1) := by decide +kernel
theorem dX5_inLowestTerms_7 : decode cX5_inLowestTerms 7 = .ok (.istore 9, 2) := by decide +kernel
theorem dX5_inLowestTerms_9 : decode cX5_inLowestTerms 9 = .ok (.iload 9, 2) := by decide +kernel
theorem dX5_inLowestTerms_11 : decode cX5_inLowestTerms 11 = .ok (.sipush 200, 3) := by decide +kernel
theorem dX5_inLowestTerms_14 : decode cX5_inLowestTerms 14 = .ok (.if_icmp .ge 31, 3) := by decide +kernel
theorem dX5_inLowestTerms_17 : decode cX5_inLowestTerms 17 = .ok (.lload 7, 2) := by decide +kernel
theorem dX5_inLowestTerms_19 : decode cX5_inLowestTerms 19 = .ok (.lconst 0, 1) := by decide +kernel
theorem dX5_inLowestTerms_20 : decode cX5_inLowestTerms 20 = .ok (.lcmp, 1) := by decide +kernel
theorem dX5_inLowestTerms_21 : decode cX5_inLowestTerms 21 = .ok (.ifCond .eq 24, 3) := by decide +kernel
theorem dX5_inLowestTerms_24 : decode cX5_inLowestTerms 24 = .ok (.lload 5, 2) := by decide +kernel
theorem dX5_inLowestTerms_26 : decode cX5_inLowestTerms 26 = .ok (.lload 7, 2) := by decide +kernel
theorem dX5_inLowestTerms_28 : decode cX5_inLowestTerms 28 = .ok (.lrem, 1) := by decide +kernel
theorem dX5_inLowestTerms_29 : decode cX5_inLowestTerms 29 = .ok (.lstore 10, 2) := by decide +kernel
theorem dX5_inLowestTerms_31 : decode cX5_inLowestTerms 31 = .ok (.lload 7, 2) := by decide +kernel
theorem dX5_inLowestTerms_33 : decode cX5_inLowestTerms 33 = .ok (.lstore 5, 2) := by decide +kernel
theorem dX5_inLowestTerms_35 : decode cX5_inLowestTerms 35 = .ok (.lload 10, 2) := by decide +kernel
theorem dX5_inLowestTerms_37 : decode cX5_inLowestTerms 37 = .ok (.lstore 7, 2) := by decide +kernel
theorem dX5_inLowestTerms_39 : decode cX5_inLowestTerms 39 = .ok (.iinc 9 1, 3) := by decide +kernel
theorem dX5_inLowestTerms_42 : decode cX5_inLowestTerms 42 = .ok (.goto (-33), 3) := by decide +kernel
theorem dX5_inLowestTerms_45 : decode cX5_inLowestTerms 45 = .ok (.lload 5, 2) := by decide +kernel
theorem dX5_inLowestTerms_47 : decode cX5_inLowestTerms 47 = .ok (.lconst 0, 1) := by decide +kernel
theorem dX5_inLowestTerms_48 : decode cX5_inLowestTerms 48 = .ok (.lcmp, 1) := by decide +kernel
theorem dX5_inLowestTerms_49 : decode cX5_inLowestTerms 49 = .ok (.ifCond .ne 7, 3) := by decide +kernel
theorem dX5_inLowestTerms_52 : decode cX5_inLowestTerms 52 = .ok (.ldc2_w 226, 3) := by decide +kernel
theorem dX5_inLowestTerms_55 : decode cX5_inLowestTerms 55 = .ok (.lreturn, 1) := by decide +kernel
theorem dX5_inLowestTerms_56 : decode cX5_inLowestTerms 56 = .ok (.iload 4, 2) := by decide +kernel
theorem dX5_inLowestTerms_58 : decode cX5_inLowestTerms 58 = .ok (.ifCond .ne 10, 3) := by decide +kernel
theorem dX5_inLowestTerms_61 : decode cX5_inLowestTerms 61 = .ok (.lload_n 0, 1) := by decide +kernel
theorem dX5_inLowestTerms_62 : decode cX5_inLowestTerms 62 = .ok (.lload 5, 2) := by decide +kernel
theorem dX5_inLowestTerms_64 : decode cX5_inLowestTerms 64 = .ok (.ldiv, 1) := by decide +kernel
theorem dX5_inLowestTerms_65 : decode cX5_inLowestTerms 65 = .ok (.goto 7, 3) := by decide +kernel
theorem dX5_inLowestTerms_68 : decode cX5_inLowestTerms 68 = .ok (.lload_n 2, 1) := by decide +kernel
theorem dX5_inLowestTerms_69 : decode cX5_inLowestTerms 69 = .ok (.lload 5, 2) := by decide +kernel
theorem dX5_inLowestTerms_71 : decode cX5_inLowestTerms 71 = .ok (.ldiv, 1) := by decide +kernel
theorem dX5_inLowestTerms_72 : decode cX5_inLowestTerms 72 = .ok (.lreturn, 1) := by decide +kernel
theorem dX5_narrowed_0 : decode cX5_narrowed 0 = .ok (.iload_n 1, 1) := by decide +kernel
theorem dX5_narrowed_1 : decode cX5_narrowed 1 = .ok (.lookupswitch 33 #[(0, 27), (1, 30)], 27) := by decide +kernel
theorem dX5_narrowed_28 : decode cX5_narrowed 28 = .ok (.iload_n 0, 1) := by decide +kernel
theorem dX5_narrowed_29 : decode cX5_narrowed 29 = .ok (.i2b, 1) := by decide +kernel
theorem dX5_narrowed_30 : decode cX5_narrowed 30 = .ok (.ireturn, 1) := by decide +kernel
theorem dX5_narrowed_31 : decode cX5_narrowed 31 = .ok (.iload_n 0, 1) := by decide +kernel
theorem dX5_narrowed_32 : decode cX5_narrowed 32 = .ok (.i2s, 1) := by decide +kernel
theorem dX5_narrowed_33 : decode cX5_narrowed 33 = .ok (.ireturn, 1) := by decide +kernel
theorem dX5_narrowed_34 : decode cX5_narrowed 34 = .ok (.iload_n 0, 1) := by decide +kernel
theorem dX5_narrowed_35 : decode cX5_narrowed 35 = .ok (.ireturn, 1) := by decide +kernel
theorem dX5_reachedByPlan_0 : decode cX5_reachedByPlan 0 = .ok (.aload_n 0, 1) := by decide +kernel
theorem dX5_reachedByPlan_1 : decode cX5_reachedByPlan 1 = .ok (.getfield 23, 3) := by decide +kernel
theorem dX5_reachedByPlan_4 : decode cX5_reachedByPlan 4 = .ok (.aload_n 0, 1) := by decide +kernel
theorem dX5_reachedByPlan_5 : decode cX5_reachedByPlan 5 = .ok (.getfield 19, 3) := by decide +kernel
theorem dX5_reachedByPlan_8 : decode cX5_reachedByPlan 8 = .ok (.invokevirtual 85, 3) := by decide +kernel
theorem dX5_reachedByPlan_11 : decode cX5_reachedByPlan 11 = .ok (.aload_n 0, 1) := by decide +kernel
theorem dX5_reachedByPlan_12 : decode cX5_reachedByPlan 12 = .ok (.getfield 23, 3) := by decide +kernel
theorem dX5_reachedByPlan_15 : decode cX5_reachedByPlan 15 = .ok (.iload_n 1, 1) := by decide +kernel
theorem dX5_reachedByPlan_16 : decode cX5_reachedByPlan 16 = .ok (.invokevirtual 201, 3) := by decide +kernel
theorem dX5_reachedByPlan_19 : decode cX5_reachedByPlan 19 = .ok (.pop, 1) := by decide +kernel
theorem dX5_reachedByPlan_20 : decode cX5_reachedByPlan 20 = .ok (.aload_n 0, 1) := by decide +kernel
theorem dX5_reachedByPlan_21 : decode cX5_reachedByPlan 21 = .ok (.getfield 23, 3) := by decide +kernel
theorem dX5_reachedByPlan_24 : decode cX5_reachedByPlan 24 = .ok (.invokevirtual 207, 3) := by decide +kernel
theorem dX5_reachedByPlan_27 : decode cX5_reachedByPlan 27 = .ok (.ireturn, 1) := by decide +kernel
theorem dX5_wallsAsSeen_0 : decode cX5_wallsAsSeen 0 = .ok (.aload_n 0, 1) := by decide +kernel
theorem dX5_wallsAsSeen_1 : decode cX5_wallsAsSeen 1 = .ok (.getfield 23, 3) := by decide +kernel
theorem dX5_wallsAsSeen_4 : decode cX5_wallsAsSeen 4 = .ok (.aload_n 0, 1) := by decide +kernel
theorem dX5_wallsAsSeen_5 : decode cX5_wallsAsSeen 5 = .ok (.getfield 19, 3) := by decide +kernel
theorem dX5_wallsAsSeen_8 : decode cX5_wallsAsSeen 8 = .ok (.invokevirtual 85, 3) := by decide +kernel
theorem dX5_wallsAsSeen_11 : decode cX5_wallsAsSeen 11 = .ok (.iconst 0, 1) := by decide +kernel
theorem dX5_wallsAsSeen_12 : decode cX5_wallsAsSeen 12 = .ok (.istore_n 2, 1) := by decide +kernel
theorem dX5_wallsAsSeen_13 : decode cX5_wallsAsSeen 13 = .ok (.iconst 0, 1) := by decide +kernel
theorem dX5_wallsAsSeen_14 : decode cX5_wallsAsSeen 14 = .ok (.istore_n 3, 1) := by decide +kernel
theorem dX5_wallsAsSeen_15 : decode cX5_wallsAsSeen 15 = .ok (.iload_n 3, 1) := by decide +kernel
theorem dX5_wallsAsSeen_16 : decode cX5_wallsAsSeen 16 = .ok (.aload_n 0, 1) := by decide +kernel
theorem dX5_wallsAsSeen_17 : decode cX5_wallsAsSeen 17 = .ok (.getfield 19, 3) := by decide +kernel
theorem dX5_wallsAsSeen_20 : decode cX5_wallsAsSeen 20 = .ok (.getfield 98, 3) := by decide +kernel
theorem dX5_wallsAsSeen_23 : decode cX5_wallsAsSeen 23 = .ok (.if_icmp .ge 41, 3) := by decide +kernel
theorem dX5_wallsAsSeen_26 : decode cX5_wallsAsSeen 26 = .ok (.aload_n 0, 1) := by decide +kernel
theorem dX5_wallsAsSeen_27 : decode cX5_wallsAsSeen 27 = .ok (.getfield 23, 3) := by decide +kernel
theorem dX5_wallsAsSeen_30 : decode cX5_wallsAsSeen 30 = .ok (.iload_n 1, 1) := by decide +kernel
theorem dX5_wallsAsSeen_31 : decode cX5_wallsAsSeen 31 = .ok (.iload_n 3, 1) := by decide +kernel
theorem dX5_wallsAsSeen_32 : decode cX5_wallsAsSeen 32 = .ok (.invokevirtual 295, 3) := by decide +kernel
theorem dX5_wallsAsSeen_35 : decode cX5_wallsAsSeen 35 = .ok (.ifCond .eq 23, 3) := by decide +kernel
theorem dX5_wallsAsSeen_38 : decode cX5_wallsAsSeen 38 = .ok (.aload_n 0, 1) := by decide +kernel
theorem dX5_wallsAsSeen_39 : decode cX5_wallsAsSeen 39 = .ok (.getfield 29, 3) := by decide +kernel
theorem dX5_wallsAsSeen_42 : decode cX5_wallsAsSeen 42 = .ok (.aload_n 0, 1) := by decide +kernel
theorem dX5_wallsAsSeen_43 : decode cX5_wallsAsSeen 43 = .ok (.getfield 23, 3) := by decide +kernel
theorem dX5_wallsAsSeen_46 : decode cX5_wallsAsSeen 46 = .ok (.invokevirtual 244, 3) := by decide +kernel
theorem dX5_wallsAsSeen_49 : decode cX5_wallsAsSeen 49 = .ok (.ifCond .eq 9, 3) := by decide +kernel
theorem dX5_wallsAsSeen_52 : decode cX5_wallsAsSeen 52 = .ok (.iload_n 2, 1) := by decide +kernel
theorem dX5_wallsAsSeen_53 : decode cX5_wallsAsSeen 53 = .ok (.iconst 1, 1) := by decide +kernel
theorem dX5_wallsAsSeen_54 : decode cX5_wallsAsSeen 54 = .ok (.iload_n 3, 1) := by decide +kernel
theorem dX5_wallsAsSeen_55 : decode cX5_wallsAsSeen 55 = .ok (.ishl, 1) := by decide +kernel
theorem dX5_wallsAsSeen_56 : decode cX5_wallsAsSeen 56 = .ok (.ior, 1) := by decide +kernel
theorem dX5_wallsAsSeen_57 : decode cX5_wallsAsSeen 57 = .ok (.istore_n 2, 1) := by decide +kernel
theorem dX5_wallsAsSeen_58 : decode cX5_wallsAsSeen 58 = .ok (.iinc 3 1, 3) := by decide +kernel
theorem dX5_wallsAsSeen_61 : decode cX5_wallsAsSeen 61 = .ok (.goto (-46), 3) := by decide +kernel
theorem dX5_wallsAsSeen_64 : decode cX5_wallsAsSeen 64 = .ok (.iload_n 2, 1) := by decide +kernel
theorem dX5_wallsAsSeen_65 : decode cX5_wallsAsSeen 65 = .ok (.ireturn, 1) := by decide +kernel
theorem dX5_countReaching_0 : decode cX5_countReaching 0 = .ok (.aload_n 0, 1) := by decide +kernel
theorem dX5_countReaching_1 : decode cX5_countReaching 1 = .ok (.getfield 23, 3) := by decide +kernel
theorem dX5_countReaching_4 : decode cX5_countReaching 4 = .ok (.aload_n 0, 1) := by decide +kernel
theorem dX5_countReaching_5 : decode cX5_countReaching 5 = .ok (.getfield 19, 3) := by decide +kernel
theorem dX5_countReaching_8 : decode cX5_countReaching 8 = .ok (.invokevirtual 85, 3) := by decide +kernel
theorem dX5_countReaching_11 : decode cX5_countReaching 11 = .ok (.aload_n 0, 1) := by decide +kernel
theorem dX5_countReaching_12 : decode cX5_countReaching 12 = .ok (.getfield 48, 3) := by decide +kernel
theorem dX5_countReaching_15 : decode cX5_countReaching 15 = .ok (.iconst 0, 1) := by decide +kernel
theorem dX5_countReaching_16 : decode cX5_countReaching 16 = .ok (.invokestatic 298, 3) := by decide +kernel
theorem dX5_countReaching_19 : decode cX5_countReaching 19 = .ok (.iconst 0, 1) := by decide +kernel
theorem dX5_countReaching_20 : decode cX5_countReaching 20 = .ok (.istore 4, 2) := by decide +kernel
theorem dX5_countReaching_22 : decode cX5_countReaching 22 = .ok (.iload 4, 2) := by decide +kernel
theorem dX5_countReaching_24 : decode cX5_countReaching 24 = .ok (.aload_n 0, 1) := by decide +kernel
theorem dX5_countReaching_25 : decode cX5_countReaching 25 = .ok (.getfield 19, 3) := by decide +kernel
theorem dX5_countReaching_28 : decode cX5_countReaching 28 = .ok (.getfield 98, 3) := by decide +kernel
theorem dX5_countReaching_31 : decode cX5_countReaching 31 = .ok (.if_icmp .ge 78, 3) := by decide +kernel
theorem dX5_countReaching_34 : decode cX5_countReaching 34 = .ok (.iload_n 2, 1) := by decide +kernel
theorem dX5_countReaching_35 : decode cX5_countReaching 35 = .ok (.iload 4, 2) := by decide +kernel
theorem dX5_countReaching_37 : decode cX5_countReaching 37 = .ok (.invokestatic 292, 3) := by decide +kernel
theorem dX5_countReaching_40 : decode cX5_countReaching 40 = .ok (.ifCond .eq 27, 3) := by decide +kernel
theorem dX5_countReaching_43 : decode cX5_countReaching 43 = .ok (.aload_n 0, 1) := by decide +kernel
theorem dX5_countReaching_44 : decode cX5_countReaching 44 = .ok (.getfield 23, 3) := by decide +kernel
theorem dX5_countReaching_47 : decode cX5_countReaching 47 = .ok (.iload_n 1, 1) := by decide +kernel
theorem dX5_countReaching_48 : decode cX5_countReaching 48 = .ok (.iload 4, 2) := by decide +kernel
theorem dX5_countReaching_50 : decode cX5_countReaching 50 = .ok (.invokevirtual 295, 3) := by decide +kernel
theorem dX5_countReaching_53 : decode cX5_countReaching 53 = .ok (.ifCond .eq 14, 3) := by decide +kernel
theorem dX5_countReaching_56 : decode cX5_countReaching 56 = .ok (.aload_n 0, 1) := by decide +kernel
theorem dX5_countReaching_57 : decode cX5_countReaching 57 = .ok (.getfield 23, 3) := by decide +kernel
theorem dX5_countReaching_60 : decode cX5_countReaching 60 = .ok (.iload_n 3, 1) := by decide +kernel
theorem dX5_countReaching_61 : decode cX5_countReaching 61 = .ok (.invokevirtual 135, 3) := by decide +kernel
theorem dX5_countReaching_64 : decode cX5_countReaching 64 = .ok (.goto 4, 3) := by decide +kernel
theorem dX5_countReaching_67 : decode cX5_countReaching 67 = .ok (.iconst 0, 1) := by decide +kernel
theorem dX5_countReaching_68 : decode cX5_countReaching 68 = .ok (.istore 5, 2) := by decide +kernel
theorem dX5_countReaching_70 : decode cX5_countReaching 70 = .ok (.iconst 0, 1) := by decide +kernel
theorem dX5_countReaching_71 : decode cX5_countReaching 71 = .ok (.istore 6, 2) := by decide +kernel
theorem dX5_countReaching_73 : decode cX5_countReaching 73 = .ok (.iload 6, 2) := by decide +kernel
theorem dX5_countReaching_75 : decode cX5_countReaching 75 = .ok (.bipush 8, 2) := by decide +kernel
theorem dX5_countReaching_77 : decode cX5_countReaching 77 = .ok (.if_icmp .ge 26, 3) := by decide +kernel
theorem dX5_countReaching_80 : decode cX5_countReaching 80 = .ok (.aload_n 0, 1) := by decide +kernel
theorem dX5_countReaching_81 : decode cX5_countReaching 81 = .ok (.getfield 48, 3) := by decide +kernel
theorem dX5_countReaching_84 : decode cX5_countReaching 84 = .ok (.iload 6, 2) := by decide +kernel
theorem dX5_countReaching_86 : decode cX5_countReaching 86 = .ok (.dup2, 1) := by decide +kernel
theorem dX5_countReaching_87 : decode cX5_countReaching 87 = .ok (.iaload, 1) := by decide +kernel
theorem dX5_countReaching_88 : decode cX5_countReaching 88 = .ok (.iload 5, 2) := by decide +kernel
theorem dX5_countReaching_90 : decode cX5_countReaching 90 = .ok (.iload 6, 2) := by decide +kernel
theorem dX5_countReaching_92 : decode cX5_countReaching 92 = .ok (.iushr, 1) := by decide +kernel
theorem dX5_countReaching_93 : decode cX5_countReaching 93 = .ok (.iconst 1, 1) := by decide +kernel
theorem dX5_countReaching_94 : decode cX5_countReaching 94 = .ok (.iand, 1) := by decide +kernel
theorem dX5_countReaching_95 : decode cX5_countReaching 95 = .ok (.iadd, 1) := by decide +kernel
theorem dX5_countReaching_96 : decode cX5_countReaching 96 = .ok (.iastore, 1) := by decide +kernel
theorem dX5_countReaching_97 : decode cX5_countReaching 97 = .ok (.iinc 6 1, 3) := by decide +kernel
theorem dX5_countReaching_100 : decode cX5_countReaching 100 = .ok (.goto (-27), 3) := by decide +kernel
theorem dX5_countReaching_103 : decode cX5_countReaching 103 = .ok (.iinc 4 1, 3) := by decide +kernel
theorem dX5_countReaching_106 : decode cX5_countReaching 106 = .ok (.goto (-84), 3) := by decide +kernel
theorem dX5_countReaching_109 : decode cX5_countReaching 109 = .ok (.return_, 1) := by decide +kernel
