theorem dX5_init_0 : decode cX5_init 0 = .ok (.aload_n 0, 1) := by decide +kernel
theorem dX5_init_1 : decode cX5_init 1 = .ok (.invokespecial 1, 3) := by decide +kernel
theorem dX5_init_4 : decode cX5_init 4 = .ok (.aload_n 0, 1) := by decide +kernel
theorem dX5_init_5 : decode cX5_init 5 = .ok (.new 7, 3) := by decide +kernel
theorem dX5_init_8 : decode cX5_init 8 = .ok (.dup, 1) := by decide +kernel
theorem dX5_init_9 : decode cX5_init 9 = .ok (.invokespecial 9, 3) := by decide +kernel
theorem dX5_init_12 : decode cX5_init 12 = .ok (.putfield 10, 3) := by decide +kernel
theorem dX5_init_15 : decode cX5_init 15 = .ok (.aload_n 0, 1) := by decide +kernel
theorem dX5_init_16 : decode cX5_init 16 = .ok (.new 7, 3) := by decide +kernel
theorem dX5_init_19 : decode cX5_init 19 = .ok (.dup, 1) := by decide +kernel
theorem dX5_init_20 : decode cX5_init 20 = .ok (.invokespecial 9, 3) := by decide +kernel
theorem dX5_init_23 : decode cX5_init 23 = .ok (.putfield 16, 3) := by decide +kernel
theorem dX5_init_26 : decode cX5_init 26 = .ok (.aload_n 0, 1) := by decide +kernel
theorem dX5_init_27 : decode cX5_init 27 = .ok (.iconst 2, 1) := by decide +kernel
theorem dX5_init_28 : decode cX5_init 28 = .ok (.anewarray 7, 3) := by decide +kernel
theorem dX5_init_31 : decode cX5_init 31 = .ok (.putfield 19, 3) := by decide +kernel
theorem dX5_init_34 : decode cX5_init 34 = .ok (.aload_n 0, 1) := by decide +kernel
theorem dX5_init_35 : decode cX5_init 35 = .ok (.iconst 2, 1) := by decide +kernel
theorem dX5_init_36 : decode cX5_init 36 = .ok (.newarray .boolean, 2) := by decide +kernel
theorem dX5_init_38 : decode cX5_init 38 = .ok (.putfield 23, 3) := by decide +kernel
theorem dX5_init_41 : decode cX5_init 41 = .ok (.aload_n 0, 1) := by decide +kernel
theorem dX5_init_42 : decode cX5_init 42 = .ok (.new 27, 3) := by decide +kernel
theorem dX5_init_45 : decode cX5_init 45 = .ok (.dup, 1) := by decide +kernel
theorem dX5_init_46 : decode cX5_init 46 = .ok (.invokespecial 29, 3) := by decide +kernel
theorem dX5_init_49 : decode cX5_init 49 = .ok (.putfield 30, 3) := by decide +kernel
theorem dX5_init_52 : decode cX5_init 52 = .ok (.aload_n 0, 1) := by decide +kernel
theorem dX5_init_53 : decode cX5_init 53 = .ok (.iconst 4, 1) := by decide +kernel
theorem dX5_init_54 : decode cX5_init 54 = .ok (.anewarray 34, 3) := by decide +kernel
theorem dX5_init_57 : decode cX5_init 57 = .ok (.putfield 36, 3) := by decide +kernel
theorem dX5_init_60 : decode cX5_init 60 = .ok (.aload_n 0, 1) := by decide +kernel
theorem dX5_init_61 : decode cX5_init 61 = .ok (.new 40, 3) := by decide +kernel
theorem dX5_init_64 : decode cX5_init 64 = .ok (.dup, 1) := by decide +kernel
theorem dX5_init_65 : decode cX5_init 65 = .ok (.invokespecial 42, 3) := by decide +kernel
theorem dX5_init_68 : decode cX5_init 68 = .ok (.putfield 43, 3) := by decide +kernel
theorem dX5_init_71 : decode cX5_init 71 = .ok (.aload_n 0, 1) := by decide +kernel
theorem dX5_init_72 : decode cX5_init 72 = .ok (.bipush 10, 2) := by decide +kernel
theorem dX5_init_74 : decode cX5_init 74 = .ok (.bipush 31, 2) := by decide +kernel
theorem dX5_init_76 : decode cX5_init 76 = .ok (.multianewarray 47 2, 4) := by decide +kernel
theorem dX5_init_80 : decode cX5_init 80 = .ok (.putfield 49, 3) := by decide +kernel
theorem dX5_init_83 : decode cX5_init 83 = .ok (.iconst 0, 1) := by decide +kernel
theorem dX5_init_84 : decode cX5_init 84 = .ok (.istore_n 1, 1) := by decide +kernel
theorem dX5_init_85 : decode cX5_init 85 = .ok (.iload_n 1, 1) := by decide +kernel
theorem dX5_init_86 : decode cX5_init 86 = .ok (.iconst 2, 1) := by decide +kernel
theorem dX5_init_87 : decode cX5_init 87 = .ok (.if_icmp .ge 22, 3) := by decide +kernel
theorem dX5_init_90 : decode cX5_init 90 = .ok (.aload_n 0, 1) := by decide +kernel
theorem dX5_init_91 : decode cX5_init 91 = .ok (.getfield 19, 3) := by decide +kernel
theorem dX5_init_94 : decode cX5_init 94 = .ok (.iload_n 1, 1) := by decide +kernel
theorem dX5_init_95 : decode cX5_init 95 = .ok (.new 7, 3) := by decide +kernel
theorem dX5_init_98 : decode cX5_init 98 = .ok (.dup, 1) := by decide +kernel
theorem dX5_init_99 : decode cX5_init 99 = .ok (.invokespecial 9, 3) := by decide +kernel
theorem dX5_init_102 : decode cX5_init 102 = .ok (.aastore, 1) := by decide +kernel
theorem dX5_init_103 : decode cX5_init 103 = .ok (.iinc 1 1, 3) := by decide +kernel
theorem dX5_init_106 : decode cX5_init 106 = .ok (.goto (-21), 3) := by decide +kernel
theorem dX5_init_109 : decode cX5_init 109 = .ok (.iconst 0, 1) := by decide +kernel
theorem dX5_init_110 : decode cX5_init 110 = .ok (.istore_n 1, 1) := by decide +kernel
theorem dX5_init_111 : decode cX5_init 111 = .ok (.iload_n 1, 1) := by decide +kernel
theorem dX5_init_112 : decode cX5_init 112 = .ok (.iconst 4, 1) := by decide +kernel
theorem dX5_init_113 : decode cX5_init 113 = .ok (.if_icmp .ge 22, 3) := by decide +kernel
theorem dX5_init_116 : decode cX5_init 116 = .ok (.aload_n 0, 1) := by decide +kernel
theorem dX5_init_117 : decode cX5_init 117 = .ok (.getfield 36, 3) := by decide +kernel
theorem dX5_init_120 : decode cX5_init 120 = .ok (.iload_n 1, 1) := by decide +kernel
theorem dX5_init_121 : decode cX5_init 121 = .ok (.new 34, 3) := by decide +kernel
theorem dX5_init_124 : decode cX5_init 124 = .ok (.dup, 1) := by decide +kernel
theorem dX5_init_125 : decode cX5_init 125 = .ok (.invokespecial 52, 3) := by decide +kernel
theorem dX5_init_128 : decode cX5_init 128 = .ok (.aastore, 1) := by decide +kernel
theorem dX5_init_129 : decode cX5_init 129 = .ok (.iinc 1 1, 3) := by decide +kernel
theorem dX5_init_132 : decode cX5_init 132 = .ok (.goto (-21), 3) := by decide +kernel
theorem dX5_init_135 : decode cX5_init 135 = .ok (.return_, 1) := by decide +kernel
theorem dX5_feed_0 : decode cX5_feed 0 = .ok (.iload_n 1, 1) := by decide +kernel
theorem dX5_feed_1 : decode cX5_feed 1 = .ok (.iconst 0, 1) := by decide +kernel
theorem dX5_feed_2 : decode cX5_feed 2 = .ok (.bipush 127, 2) := by decide +kernel
theorem dX5_feed_4 : decode cX5_feed 4 = .ok (.invokestatic 53, 3) := by decide +kernel
theorem dX5_feed_7 : decode cX5_feed 7 = .ok (.ifCond .ne 5, 3) := by decide +kernel
theorem dX5_feed_10 : decode cX5_feed 10 = .ok (.iconst (-1), 1) := by decide +kernel
theorem dX5_feed_11 : decode cX5_feed 11 = .ok (.ireturn, 1) := by decide +kernel
theorem dX5_feed_12 : decode cX5_feed 12 = .ok (.aload_n 0, 1) := by decide +kernel
theorem dX5_feed_13 : decode cX5_feed 13 = .ok (.getfield 30, 3) := by decide +kernel
theorem dX5_feed_16 : decode cX5_feed 16 = .ok (.iload_n 1, 1) := by decide +kernel
theorem dX5_feed_17 : decode cX5_feed 17 = .ok (.invokevirtual 57, 3) := by decide +kernel
theorem dX5_feed_20 : decode cX5_feed 20 = .ok (.ireturn, 1) := by decide +kernel
theorem dX5_end_0 : decode cX5_end 0 = .ok (.aload_n 0, 1) := by decide +kernel
theorem dX5_end_1 : decode cX5_end 1 = .ok (.getfield 30, 3) := by decide +kernel
theorem dX5_end_4 : decode cX5_end 4 = .ok (.iload_n 1, 1) := by decide +kernel
theorem dX5_end_5 : decode cX5_end 5 = .ok (.invokevirtual 61, 3) := by decide +kernel
theorem dX5_end_8 : decode cX5_end 8 = .ok (.ireturn, 1) := by decide +kernel
theorem dX5_text_0 : decode cX5_text 0 = .ok (.aload_n 0, 1) := by decide +kernel
theorem dX5_text_1 : decode cX5_text 1 = .ok (.getfield 30, 3) := by decide +kernel
theorem dX5_text_4 : decode cX5_text 4 = .ok (.aload_n 0, 1) := by decide +kernel
theorem dX5_text_5 : decode cX5_text 5 = .ok (.getfield 16, 3) := by decide +kernel
theorem dX5_text_8 : decode cX5_text 8 = .ok (.invokevirtual 64, 3) := by decide +kernel
theorem dX5_text_11 : decode cX5_text 11 = .ok (.istore_n 1, 1) := by decide +kernel
theorem dX5_text_12 : decode cX5_text 12 = .ok (.iload_n 1, 1) := by decide +kernel
theorem dX5_text_13 : decode cX5_text 13 = .ok (.ifCond .lt 18, 3) := by decide +kernel
theorem dX5_text_16 : decode cX5_text 16 = .ok (.aload_n 0, 1) := by decide +kernel
theorem dX5_text_17 : decode cX5_text 17 = .ok (.getfield 10, 3) := by decide +kernel
theorem dX5_text_20 : decode cX5_text 20 = .ok (.aload_n 0, 1) := by decide +kernel
theorem dX5_text_21 : decode cX5_text 21 = .ok (.getfield 16, 3) := by decide +kernel
theorem dX5_text_24 : decode cX5_text 24 = .ok (.invokevirtual 68, 3) := by decide +kernel
theorem dX5_text_27 : decode cX5_text 27 = .ok (.aload_n 0, 1) := by decide +kernel
theorem dX5_text_28 : decode cX5_text 28 = .ok (.invokevirtual 72, 3) := by decide +kernel
theorem dX5_text_31 : decode cX5_text 31 = .ok (.iload_n 1, 1) := by decide +kernel
theorem dX5_text_32 : decode cX5_text 32 = .ok (.ireturn, 1) := by decide +kernel
theorem dX5_fault_0 : decode cX5_fault 0 = .ok (.aload_n 0, 1) := by decide +kernel
theorem dX5_fault_1 : decode cX5_fault 1 = .ok (.getfield 30, 3) := by decide +kernel
theorem dX5_fault_4 : decode cX5_fault 4 = .ok (.getfield 75, 3) := by decide +kernel
theorem dX5_fault_7 : decode cX5_fault 7 = .ok (.ireturn, 1) := by decide +kernel
theorem dX5_rule_0 : decode cX5_rule 0 = .ok (.iload_n 1, 1) := by decide +kernel
theorem dX5_rule_1 : decode cX5_rule 1 = .ok (.tableswitch 114 0 7 #[47, 55, 63, 71, 79, 87, 95, 103], 47) := by decide +kernel
theorem dX5_rule_48 : decode cX5_rule 48 = .ok (.aload_n 0, 1) := by decide +kernel
theorem dX5_rule_49 : decode cX5_rule 49 = .ok (.getfield 10, 3) := by decide +kernel
theorem dX5_rule_52 : decode cX5_rule 52 = .ok (.getfield 79, 3) := by decide +kernel
theorem dX5_rule_55 : decode cX5_rule 55 = .ok (.ireturn, 1) := by decide +kernel
theorem dX5_rule_56 : decode cX5_rule 56 = .ok (.aload_n 0, 1) := by decide +kernel
theorem dX5_rule_57 : decode cX5_rule 57 = .ok (.getfield 10, 3) := by decide +kernel
theorem dX5_rule_60 : decode cX5_rule 60 = .ok (.getfield 82, 3) := by decide +kernel
theorem dX5_rule_63 : decode cX5_rule 63 = .ok (.ireturn, 1) := by decide +kernel
theorem dX5_rule_64 : decode cX5_rule 64 = .ok (.aload_n 0, 1) := by decide +kernel
theorem dX5_rule_65 : decode cX5_rule 65 = .ok (.getfield 10, 3) := by decide +kernel
theorem dX5_rule_68 : decode cX5_rule 68 = .ok (.getfield 85, 3) := by decide +kernel
theorem dX5_rule_71 : decode cX5_rule 71 = .ok (.ireturn, 1) := by decide +kernel
theorem dX5_rule_72 : decode cX5_rule 72 = .ok (.aload_n 0, 1) := by decide +kernel
theorem dX5_rule_73 : decode cX5_rule 73 = .ok (.getfield 10, 3) := by decide +kernel
theorem dX5_rule_76 : decode cX5_rule 76 = .ok (.getfield 88, 3) := by decide +kernel
theorem dX5_rule_79 : decode cX5_rule 79 = .ok (.ireturn, 1) := by decide +kernel
theorem dX5_rule_80 : decode cX5_rule 80 = .ok (.aload_n 0, 1) := by decide +kernel
theorem dX5_rule_81 : decode cX5_rule 81 = .ok (.getfield 10, 3) := by decide +kernel
theorem dX5_rule_84 : decode cX5_rule 84 = .ok (.invokevirtual 91, 3) := by decide +kernel
theorem dX5_rule_87 : decode cX5_rule 87 = .ok (.ireturn, 1) := by decide +kernel
theorem dX5_rule_88 : decode cX5_rule 88 = .ok (.aload_n 0, 1) := by decide +kernel
theorem dX5_rule_89 : decode cX5_rule 89 = .ok (.getfield 10, 3) := by decide +kernel
theorem dX5_rule_92 : decode cX5_rule 92 = .ok (.getfield 95, 3) := by decide +kernel
theorem dX5_rule_95 : decode cX5_rule 95 = .ok (.ireturn, 1) := by decide +kernel
theorem dX5_rule_96 : decode cX5_rule 96 = .ok (.aload_n 0, 1) := by decide +kernel
theorem dX5_rule_97 : decode cX5_rule 97 = .ok (.getfield 10, 3) := by decide +kernel
theorem dX5_rule_100 : decode cX5_rule 100 = .ok (.getfield 98, 3) := by decide +kernel
theorem dX5_rule_103 : decode cX5_rule 103 = .ok (.ireturn, 1) := by decide +kernel
theorem dX5_rule_104 : decode cX5_rule 104 = .ok (.aload_n 0, 1) := by decide +kernel
theorem dX5_rule_105 : decode cX5_rule 105 = .ok (.getfield 10, 3) := by decide +kernel
theorem dX5_rule_108 : decode cX5_rule 108 = .ok (.getfield 101, 3) := by decide +kernel
theorem dX5_rule_111 : decode cX5_rule 111 = .ok (.getfield 105, 3) := by decide +kernel
theorem dX5_rule_114 : decode cX5_rule 114 = .ok (.ireturn, 1) := by decide +kernel
theorem dX5_rule_115 : decode cX5_rule 115 = .ok (.iconst (-1), 1) := by decide +kernel
theorem dX5_rule_116 : decode cX5_rule 116 = .ok (.ireturn, 1) := by decide +kernel
theorem dX5_thing_0 : decode cX5_thing 0 = .ok (.aload_n 0, 1) := by decide +kernel
theorem dX5_thing_1 : decode cX5_thing 1 = .ok (.getfield 10, 3) := by decide +kernel
theorem dX5_thing_4 : decode cX5_thing 4 = .ok (.iload_n 1, 1) := by decide +kernel
theorem dX5_thing_5 : decode cX5_thing 5 = .ok (.invokevirtual 110, 3) := by decide +kernel
theorem dX5_thing_8 : decode cX5_thing 8 = .ok (.ifCond .ne 5, 3) := by decide +kernel
theorem dX5_thing_11 : decode cX5_thing 11 = .ok (.iconst (-1), 1) := by decide +kernel
theorem dX5_thing_12 : decode cX5_thing 12 = .ok (.ireturn, 1) := by decide +kernel
theorem dX5_thing_13 : decode cX5_thing 13 = .ok (.iload_n 2, 1) := by decide +kernel
theorem dX5_thing_14 : decode cX5_thing 14 = .ok (.tableswitch 93 0 4 #[34, 44, 54, 64, 81], 34) := by decide +kernel
theorem dX5_thing_48 : decode cX5_thing 48 = .ok (.aload_n 0, 1) := by decide +kernel
theorem dX5_thing_49 : decode cX5_thing 49 = .ok (.getfield 10, 3) := by decide +kernel
theorem dX5_thing_52 : decode cX5_thing 52 = .ok (.getfield 114, 3) := by decide +kernel
theorem dX5_thing_55 : decode cX5_thing 55 = .ok (.iload_n 1, 1) := by decide +kernel
theorem dX5_thing_56 : decode cX5_thing 56 = .ok (.iaload, 1) := by decide +kernel
theorem dX5_thing_57 : decode cX5_thing 57 = .ok (.ireturn, 1) := by decide +kernel
theorem dX5_thing_58 : decode cX5_thing 58 = .ok (.aload_n 0, 1) := by decide +kernel
theorem dX5_thing_59 : decode cX5_thing 59 = .ok (.getfield 10, 3) := by decide +kernel
theorem dX5_thing_62 : decode cX5_thing 62 = .ok (.getfield 118, 3) := by decide +kernel
theorem dX5_thing_65 : decode cX5_thing 65 = .ok (.iload_n 1, 1) := by decide +kernel
theorem dX5_thing_66 : decode cX5_thing 66 = .ok (.iaload, 1) := by decide +kernel
theorem dX5_thing_67 : decode cX5_thing 67 = .ok (.ireturn, 1) := by decide +kernel
theorem dX5_thing_68 : decode cX5_thing 68 = .ok (.aload_n 0, 1) := by decide +kernel
theorem dX5_thing_69 : decode cX5_thing 69 = .ok (.getfield 10, 3) := by decide +kernel
theorem dX5_thing_72 : decode cX5_thing 72 = .ok (.getfield 121, 3) := by decide +kernel
theorem dX5_thing_75 : decode cX5_thing 75 = .ok (.iload_n 1, 1) := by decide +kernel
theorem dX5_thing_76 : decode cX5_thing 76 = .ok (.iaload, 1) := by decide +kernel
theorem dX5_thing_77 : decode cX5_thing 77 = .ok (.ireturn, 1) := by decide +kernel
theorem dX5_thing_78 : decode cX5_thing 78 = .ok (.aload_n 0, 1) := by decide +kernel
theorem dX5_thing_79 : decode cX5_thing 79 = .ok (.getfield 10, 3) := by decide +kernel
theorem dX5_thing_82 : decode cX5_thing 82 = .ok (.iload_n 1, 1) := by decide +kernel
theorem dX5_thing_83 : decode cX5_thing 83 = .ok (.invokevirtual 124, 3) := by decide +kernel
theorem dX5_thing_86 : decode cX5_thing 86 = .ok (.ifCond .eq 7, 3) := by decide +kernel
theorem dX5_thing_89 : decode cX5_thing 89 = .ok (.iconst 1, 1) := by decide +kernel
theorem dX5_thing_90 : decode cX5_thing 90 = .ok (.goto 4, 3) := by decide +kernel
theorem dX5_thing_93 : decode cX5_thing 93 = .ok (.iconst 0, 1) := by decide +kernel
theorem dX5_thing_94 : decode cX5_thing 94 = .ok (.ireturn, 1) := by decide +kernel
theorem dX5_thing_95 : decode cX5_thing 95 = .ok (.bipush 20, 2) := by decide +kernel
theorem dX5_thing_97 : decode cX5_thing 97 = .ok (.aload_n 0, 1) := by decide +kernel
theorem dX5_thing_98 : decode cX5_thing 98 = .ok (.getfield 10, 3) := by decide +kernel
theorem dX5_thing_101 : decode cX5_thing 101 = .ok (.iload_n 1, 1) := by decide +kernel
theorem dX5_thing_102 : decode cX5_thing 102 = .ok (.invokevirtual 127, 3) := by decide +kernel
theorem dX5_thing_105 : decode cX5_thing 105 = .ok (.iadd, 1) := by decide +kernel
theorem dX5_thing_106 : decode cX5_thing 106 = .ok (.ireturn, 1) := by decide +kernel
theorem dX5_thing_107 : decode cX5_thing 107 = .ok (.iconst (-1), 1) := by decide +kernel
theorem dX5_thing_108 : decode cX5_thing 108 = .ok (.ireturn, 1) := by decide +kernel
theorem dX5_wind_0 : decode cX5_wind 0 = .ok (.iload_n 1, 1) := by decide +kernel
theorem dX5_wind_1 : decode cX5_wind 1 = .ok (.invokestatic 130, 3) := by decide +kernel
theorem dX5_wind_4 : decode cX5_wind 4 = .ok (.ifCond .eq 15, 3) := by decide +kernel
theorem dX5_wind_7 : decode cX5_wind 7 = .ok (.aload_n 0, 1) := by decide +kernel
theorem dX5_wind_8 : decode cX5_wind 8 = .ok (.getfield 10, 3) := by decide +kernel
theorem dX5_wind_11 : decode cX5_wind 11 = .ok (.getfield 133, 3) := by decide +kernel
theorem dX5_wind_14 : decode cX5_wind 14 = .ok (.iload_n 1, 1) := by decide +kernel
theorem dX5_wind_15 : decode cX5_wind 15 = .ok (.iaload, 1) := by decide +kernel
theorem dX5_wind_16 : decode cX5_wind 16 = .ok (.goto 4, 3) := by decide +kernel
theorem dX5_wind_19 : decode cX5_wind 19 = .ok (.iconst (-1), 1) := by decide +kernel
theorem dX5_wind_20 : decode cX5_wind 20 = .ok (.ireturn, 1) := by decide +kernel
theorem dX5_saying_0 : decode cX5_saying 0 = .ok (.iload_n 1, 1) := by decide +kernel
theorem dX5_saying_1 : decode cX5_saying 1 = .ok (.iconst 0, 1) := by decide +kernel
theorem dX5_saying_2 : decode cX5_saying 2 = .ok (.aload_n 0, 1) := by decide +kernel
theorem dX5_saying_3 : decode cX5_saying 3 = .ok (.getfield 10, 3) := by decide +kernel
theorem dX5_saying_6 : decode cX5_saying 6 = .ok (.getfield 101, 3) := by decide +kernel
theorem dX5_saying_9 : decode cX5_saying 9 = .ok (.getfield 105, 3) := by decide +kernel
theorem dX5_saying_12 : decode cX5_saying 12 = .ok (.iconst 1, 1) := by decide +kernel
theorem dX5_saying_13 : decode cX5_saying 13 = .ok (.isub, 1) := by decide +kernel
theorem dX5_saying_14 : decode cX5_saying 14 = .ok (.invokestatic 53, 3) := by decide +kernel
theorem dX5_saying_17 : decode cX5_saying 17 = .ok (.ifCond .eq 12, 3) := by decide +kernel
theorem dX5_saying_20 : decode cX5_saying 20 = .ok (.iload_n 2, 1) := by decide +kernel
theorem dX5_saying_21 : decode cX5_saying 21 = .ok (.iconst 0, 1) := by decide +kernel
theorem dX5_saying_22 : decode cX5_saying 22 = .ok (.iconst 1, 1) := by decide +kernel
theorem dX5_saying_23 : decode cX5_saying 23 = .ok (.invokestatic 53, 3) := by decide +kernel
theorem dX5_saying_26 : decode cX5_saying 26 = .ok (.ifCond .ne 5, 3) := by decide +kernel
theorem dX5_saying_29 : decode cX5_saying 29 = .ok (.iconst (-1), 1) := by decide +kernel
theorem dX5_saying_30 : decode cX5_saying 30 = .ok (.ireturn, 1) := by decide +kernel
theorem dX5_saying_31 : decode cX5_saying 31 = .ok (.iload_n 2, 1) := by decide +kernel
theorem dX5_saying_32 : decode cX5_saying 32 = .ok (.ifCond .ne 18, 3) := by decide +kernel
theorem dX5_saying_35 : decode cX5_saying 35 = .ok (.aload_n 0, 1) := by decide +kernel
theorem dX5_saying_36 : decode cX5_saying 36 = .ok (.getfield 10, 3) := by decide +kernel
theorem dX5_saying_39 : decode cX5_saying 39 = .ok (.getfield 101, 3) := by decide +kernel
theorem dX5_saying_42 : decode cX5_saying 42 = .ok (.getfield 136, 3) := by decide +kernel
theorem dX5_saying_45 : decode cX5_saying 45 = .ok (.iload_n 1, 1) := by decide +kernel
theorem dX5_saying_46 : decode cX5_saying 46 = .ok (.iaload, 1) := by decide +kernel
theorem dX5_saying_47 : decode cX5_saying 47 = .ok (.goto 15, 3) := by decide +kernel
theorem dX5_saying_50 : decode cX5_saying 50 = .ok (.aload_n 0, 1) := by decide +kernel
theorem dX5_saying_51 : decode cX5_saying 51 = .ok (.getfield 10, 3) := by decide +kernel
theorem dX5_saying_54 : decode cX5_saying 54 = .ok (.getfield 101, 3) := by decide +kernel
theorem dX5_saying_57 : decode cX5_saying 57 = .ok (.getfield 139, 3) := by decide +kernel
theorem dX5_saying_60 : decode cX5_saying 60 = .ok (.iload_n 1, 1) := by decide +kernel
theorem dX5_saying_61 : decode cX5_saying 61 = .ok (.iaload, 1) := by decide +kernel
theorem dX5_saying_62 : decode cX5_saying 62 = .ok (.ireturn, 1) := by decide +kernel
theorem dX5_alter_0 : decode cX5_alter 0 = .ok (.aload_n 0, 1) := by decide +kernel
theorem dX5_alter_1 : decode cX5_alter 1 = .ok (.getfield 10, 3) := by decide +kernel
theorem dX5_alter_4 : decode cX5_alter 4 = .ok (.iload_n 1, 1) := by decide +kernel
theorem dX5_alter_5 : decode cX5_alter 5 = .ok (.invokevirtual 110, 3) := by decide +kernel
theorem dX5_alter_8 : decode cX5_alter 8 = .ok (.ifCond .eq 27, 3) := by decide +kernel
theorem dX5_alter_11 : decode cX5_alter 11 = .ok (.iload_n 2, 1) := by decide +kernel
theorem dX5_alter_12 : decode cX5_alter 12 = .ok (.iconst 0, 1) := by decide +kernel
theorem dX5_alter_13 : decode cX5_alter 13 = .ok (.iconst 2, 1) := by decide +kernel
theorem dX5_alter_14 : decode cX5_alter 14 = .ok (.invokestatic 53, 3) := by decide +kernel
theorem dX5_alter_17 : decode cX5_alter 17 = .ok (.ifCond .eq 18, 3) := by decide +kernel
theorem dX5_alter_20 : decode cX5_alter 20 = .ok (.iload_n 3, 1) := by decide +kernel
theorem dX5_alter_21 : decode cX5_alter 21 = .ok (.iload_n 2, 1) := by decide +kernel
theorem dX5_alter_22 : decode cX5_alter 22 = .ok (.invokestatic 142, 3) := by decide +kernel
theorem dX5_alter_25 : decode cX5_alter 25 = .ok (.iload_n 2, 1) := by decide +kernel
theorem dX5_alter_26 : decode cX5_alter 26 = .ok (.invokestatic 145, 3) := by decide +kernel
theorem dX5_alter_29 : decode cX5_alter 29 = .ok (.invokestatic 53, 3) := by decide +kernel
theorem dX5_alter_32 : decode cX5_alter 32 = .ok (.ifCond .ne 5, 3) := by decide +kernel
theorem dX5_alter_35 : decode cX5_alter 35 = .ok (.iconst (-1), 1) := by decide +kernel
theorem dX5_alter_36 : decode cX5_alter 36 = .ok (.ireturn, 1) := by decide +kernel
theorem dX5_alter_37 : decode cX5_alter 37 = .ok (.aload_n 0, 1) := by decide +kernel
theorem dX5_alter_38 : decode cX5_alter 38 = .ok (.getfield 10, 3) := by decide +kernel
theorem dX5_alter_41 : decode cX5_alter 41 = .ok (.iload_n 2, 1) := by decide +kernel
theorem dX5_alter_42 : decode cX5_alter 42 = .ok (.invokevirtual 148, 3) := by decide +kernel
theorem dX5_alter_45 : decode cX5_alter 45 = .ok (.astore 4, 2) := by decide +kernel
theorem dX5_alter_47 : decode cX5_alter 47 = .ok (.aload 4, 2) := by decide +kernel
theorem dX5_alter_49 : decode cX5_alter 49 = .ok (.iload_n 1, 1) := by decide +kernel
theorem dX5_alter_50 : decode cX5_alter 50 = .ok (.iaload, 1) := by decide +kernel
theorem dX5_alter_51 : decode cX5_alter 51 = .ok (.istore 5, 2) := by decide +kernel
theorem dX5_alter_53 : decode cX5_alter 53 = .ok (.aload 4, 2) := by decide +kernel
theorem dX5_alter_55 : decode cX5_alter 55 = .ok (.iload_n 1, 1) := by decide +kernel
theorem dX5_alter_56 : decode cX5_alter 56 = .ok (.iload_n 3, 1) := by decide +kernel
theorem dX5_alter_57 : decode cX5_alter 57 = .ok (.iastore, 1) := by decide +kernel
theorem dX5_alter_58 : decode cX5_alter 58 = .ok (.iload 5, 2) := by decide +kernel
theorem dX5_alter_60 : decode cX5_alter 60 = .ok (.ireturn, 1) := by decide +kernel
theorem dX5_blow_0 : decode cX5_blow 0 = .ok (.iload_n 1, 1) := by decide +kernel
theorem dX5_blow_1 : decode cX5_blow 1 = .ok (.invokestatic 130, 3) := by decide +kernel
theorem dX5_blow_4 : decode cX5_blow 4 = .ok (.ifCond .eq 13, 3) := by decide +kernel
theorem dX5_blow_7 : decode cX5_blow 7 = .ok (.iload_n 2, 1) := by decide +kernel
theorem dX5_blow_8 : decode cX5_blow 8 = .ok (.iconst 0, 1) := by decide +kernel
theorem dX5_blow_9 : decode cX5_blow 9 = .ok (.bipush 8, 2) := by decide +kernel
theorem dX5_blow_11 : decode cX5_blow 11 = .ok (.invokestatic 53, 3) := by decide +kernel
theorem dX5_blow_14 : decode cX5_blow 14 = .ok (.ifCond .ne 5, 3) := by decide +kernel
theorem dX5_blow_17 : decode cX5_blow 17 = .ok (.iconst (-1), 1) := by decide +kernel
theorem dX5_blow_18 : decode cX5_blow 18 = .ok (.ireturn, 1) := by decide +kernel
theorem dX5_blow_19 : decode cX5_blow 19 = .ok (.aload_n 0, 1) := by decide +kernel
theorem dX5_blow_20 : decode cX5_blow 20 = .ok (.getfield 10, 3) := by decide +kernel
theorem dX5_blow_23 : decode cX5_blow 23 = .ok (.getfield 133, 3) := by decide +kernel
theorem dX5_blow_26 : decode cX5_blow 26 = .ok (.iload_n 1, 1) := by decide +kernel
theorem dX5_blow_27 : decode cX5_blow 27 = .ok (.iaload, 1) := by decide +kernel
theorem dX5_blow_28 : decode cX5_blow 28 = .ok (.istore_n 3, 1) := by decide +kernel
theorem dX5_blow_29 : decode cX5_blow 29 = .ok (.aload_n 0, 1) := by decide +kernel
theorem dX5_blow_30 : decode cX5_blow 30 = .ok (.getfield 10, 3) := by decide +kernel
theorem dX5_blow_33 : decode cX5_blow 33 = .ok (.getfield 133, 3) := by decide +kernel
theorem dX5_blow_36 : decode cX5_blow 36 = .ok (.iload_n 1, 1) := by decide +kernel
theorem dX5_blow_37 : decode cX5_blow 37 = .ok (.iload_n 2, 1) := by decide +kernel
theorem dX5_blow_38 : decode cX5_blow 38 = .ok (.iastore, 1) := by decide +kernel
theorem dX5_blow_39 : decode cX5_blow 39 = .ok (.iload_n 3, 1) := by decide +kernel
theorem dX5_blow_40 : decode cX5_blow 40 = .ok (.ireturn, 1) := by decide +kernel
theorem dX5_rate_0 : decode cX5_rate 0 = .ok (.iload_n 1, 1) := by decide +kernel
theorem dX5_rate_1 : decode cX5_rate 1 = .ok (.iconst 1, 1) := by decide +kernel
theorem dX5_rate_2 : decode cX5_rate 2 = .ok (.bipush 9, 2) := by decide +kernel
theorem dX5_rate_4 : decode cX5_rate 4 = .ok (.invokestatic 53, 3) := by decide +kernel
theorem dX5_rate_7 : decode cX5_rate 7 = .ok (.ifCond .ne 5, 3) := by decide +kernel
theorem dX5_rate_10 : decode cX5_rate 10 = .ok (.iconst (-1), 1) := by decide +kernel
theorem dX5_rate_11 : decode cX5_rate 11 = .ok (.ireturn, 1) := by decide +kernel
theorem dX5_rate_12 : decode cX5_rate 12 = .ok (.aload_n 0, 1) := by decide +kernel
theorem dX5_rate_13 : decode cX5_rate 13 = .ok (.getfield 10, 3) := by decide +kernel
theorem dX5_rate_16 : decode cX5_rate 16 = .ok (.getfield 98, 3) := by decide +kernel
theorem dX5_rate_19 : decode cX5_rate 19 = .ok (.istore_n 2, 1) := by decide +kernel
theorem dX5_rate_20 : decode cX5_rate 20 = .ok (.aload_n 0, 1) := by decide +kernel
theorem dX5_rate_21 : decode cX5_rate 21 = .ok (.getfield 10, 3) := by decide +kernel
theorem dX5_rate_24 : decode cX5_rate 24 = .ok (.iload_n 1, 1) := by decide +kernel
theorem dX5_rate_25 : decode cX5_rate 25 = .ok (.putfield 98, 3) := by decide +kernel
theorem dX5_rate_28 : decode cX5_rate 28 = .ok (.iload_n 2, 1) := by decide +kernel
theorem dX5_rate_29 : decode cX5_rate 29 = .ok (.ireturn, 1) := by decide +kernel
theorem dX5_say_0 : decode cX5_say 0 = .ok (.aload_n 0, 1) := by decide +kernel
theorem dX5_say_1 : decode cX5_say 1 = .ok (.getfield 10, 3) := by decide +kernel
theorem dX5_say_4 : decode cX5_say 4 = .ok (.iload_n 1, 1) := by decide +kernel
theorem dX5_say_5 : decode cX5_say 5 = .ok (.invokevirtual 110, 3) := by decide +kernel
theorem dX5_say_8 : decode cX5_say 8 = .ok (.ifCond .ne 5, 3) := by decide +kernel
theorem dX5_say_11 : decode cX5_say 11 = .ok (.iconst (-1), 1) := by decide +kernel
theorem dX5_say_12 : decode cX5_say 12 = .ok (.ireturn, 1) := by decide +kernel
theorem dX5_say_13 : decode cX5_say 13 = .ok (.aload_n 0, 1) := by decide +kernel
theorem dX5_say_14 : decode cX5_say 14 = .ok (.getfield 10, 3) := by decide +kernel
theorem dX5_say_17 : decode cX5_say 17 = .ok (.iload_n 1, 1) := by decide +kernel
theorem dX5_say_18 : decode cX5_say 18 = .ok (.invokevirtual 124, 3) := by decide +kernel
theorem dX5_say_21 : decode cX5_say 21 = .ok (.ifCond .eq 6, 3) := by decide +kernel
theorem dX5_say_24 : decode cX5_say 24 = .ok (.bipush (-2), 2) := by decide +kernel
theorem dX5_say_26 : decode cX5_say 26 = .ok (.ireturn, 1) := by decide +kernel
theorem dX5_say_27 : decode cX5_say 27 = .ok (.aload_n 0, 1) := by decide +kernel
theorem dX5_say_28 : decode cX5_say 28 = .ok (.getfield 10, 3) := by decide +kernel
theorem dX5_say_31 : decode cX5_say 31 = .ok (.iload_n 1, 1) := by decide +kernel
theorem dX5_say_32 : decode cX5_say 32 = .ok (.iconst 1, 1) := by decide +kernel
theorem dX5_say_33 : decode cX5_say 33 = .ok (.invokevirtual 152, 3) := by decide +kernel
theorem dX5_say_36 : decode cX5_say 36 = .ok (.aload_n 0, 1) := by decide +kernel
theorem dX5_say_37 : decode cX5_say 37 = .ok (.getfield 10, 3) := by decide +kernel
theorem dX5_say_40 : decode cX5_say 40 = .ok (.invokevirtual 91, 3) := by decide +kernel
theorem dX5_say_43 : decode cX5_say 43 = .ok (.ireturn, 1) := by decide +kernel
theorem dX5_take_0 : decode cX5_take 0 = .ok (.aload_n 0, 1) := by decide +kernel
theorem dX5_take_1 : decode cX5_take 1 = .ok (.getfield 10, 3) := by decide +kernel
theorem dX5_take_4 : decode cX5_take 4 = .ok (.iload_n 1, 1) := by decide +kernel
theorem dX5_take_5 : decode cX5_take 5 = .ok (.invokevirtual 110, 3) := by decide +kernel
theorem dX5_take_8 : decode cX5_take 8 = .ok (.ifCond .ne 5, 3) := by decide +kernel
theorem dX5_take_11 : decode cX5_take 11 = .ok (.iconst (-1), 1) := by decide +kernel
theorem dX5_take_12 : decode cX5_take 12 = .ok (.ireturn, 1) := by decide +kernel
theorem dX5_take_13 : decode cX5_take 13 = .ok (.aload_n 0, 1) := by decide +kernel
theorem dX5_take_14 : decode cX5_take 14 = .ok (.getfield 10, 3) := by decide +kernel
theorem dX5_take_17 : decode cX5_take 17 = .ok (.iload_n 1, 1) := by decide +kernel
theorem dX5_take_18 : decode cX5_take 18 = .ok (.invokevirtual 124, 3) := by decide +kernel
theorem dX5_take_21 : decode cX5_take 21 = .ok (.ifCond .ne 6, 3) := by decide +kernel
theorem dX5_take_24 : decode cX5_take 24 = .ok (.bipush (-2), 2) := by decide +kernel
theorem dX5_take_26 : decode cX5_take 26 = .ok (.ireturn, 1) := by decide +kernel
theorem dX5_take_27 : decode cX5_take 27 = .ok (.aload_n 0, 1) := by decide +kernel
theorem dX5_take_28 : decode cX5_take 28 = .ok (.getfield 10, 3) := by decide +kernel
theorem dX5_take_31 : decode cX5_take 31 = .ok (.iload_n 1, 1) := by decide +kernel
theorem dX5_take_32 : decode cX5_take 32 = .ok (.iconst 0, 1) := by decide +kernel
theorem dX5_take_33 : decode cX5_take 33 = .ok (.invokevirtual 152, 3) := by decide +kernel
theorem dX5_take_36 : decode cX5_take 36 = .ok (.aload_n 0, 1) := by decide +kernel
theorem dX5_take_37 : decode cX5_take 37 = .ok (.getfield 10, 3) := by decide +kernel
theorem dX5_take_40 : decode cX5_take 40 = .ok (.invokevirtual 91, 3) := by decide +kernel
theorem dX5_take_43 : decode cX5_take 43 = .ok (.ireturn, 1) := by decide +kernel
theorem dX5_plan_0 : decode cX5_plan 0 = .ok (.aload_n 0, 1) := by decide +kernel
theorem dX5_plan_1 : decode cX5_plan 1 = .ok (.getfield 10, 3) := by decide +kernel
theorem dX5_plan_4 : decode cX5_plan 4 = .ok (.iload_n 1, 1) := by decide +kernel
theorem dX5_plan_5 : decode cX5_plan 5 = .ok (.iload_n 2, 1) := by decide +kernel
theorem dX5_plan_6 : decode cX5_plan 6 = .ok (.invokevirtual 156, 3) := by decide +kernel
theorem dX5_plan_9 : decode cX5_plan 9 = .ok (.ireturn, 1) := by decide +kernel
theorem dX5_cut_0 : decode cX5_cut 0 = .ok (.aload_n 0, 1) := by decide +kernel
theorem dX5_cut_1 : decode cX5_cut 1 = .ok (.getfield 10, 3) := by decide +kernel
theorem dX5_cut_4 : decode cX5_cut 4 = .ok (.getfield 101, 3) := by decide +kernel
theorem dX5_cut_7 : decode cX5_cut 7 = .ok (.iload_n 1, 1) := by decide +kernel
theorem dX5_cut_8 : decode cX5_cut 8 = .ok (.invokevirtual 160, 3) := by decide +kernel
theorem dX5_cut_11 : decode cX5_cut 11 = .ok (.ireturn, 1) := by decide +kernel
theorem dX5_minutes_0 : decode cX5_minutes 0 = .ok (.iload_n 1, 1) := by decide +kernel
theorem dX5_minutes_1 : decode cX5_minutes 1 = .ok (.iconst 0, 1) := by decide +kernel
theorem dX5_minutes_2 : decode cX5_minutes 2 = .ok (.bipush 30, 2) := by decide +kernel
theorem dX5_minutes_4 : decode cX5_minutes 4 = .ok (.invokestatic 53, 3) := by decide +kernel
theorem dX5_minutes_7 : decode cX5_minutes 7 = .ok (.ifCond .ne 5, 3) := by decide +kernel
theorem dX5_minutes_10 : decode cX5_minutes 10 = .ok (.iconst (-1), 1) := by decide +kernel
theorem dX5_minutes_11 : decode cX5_minutes 11 = .ok (.ireturn, 1) := by decide +kernel
theorem dX5_minutes_12 : decode cX5_minutes 12 = .ok (.aload_n 0, 1) := by decide +kernel
theorem dX5_minutes_13 : decode cX5_minutes 13 = .ok (.getfield 10, 3) := by decide +kernel
theorem dX5_minutes_16 : decode cX5_minutes 16 = .ok (.getfield 82, 3) := by decide +kernel
theorem dX5_minutes_19 : decode cX5_minutes 19 = .ok (.iload_n 1, 1) := by decide +kernel
theorem dX5_minutes_20 : decode cX5_minutes 20 = .ok (.iadd, 1) := by decide +kernel
theorem dX5_minutes_21 : decode cX5_minutes 21 = .ok (.sipush 1000, 3) := by decide +kernel
theorem dX5_minutes_24 : decode cX5_minutes 24 = .ok (.if_icmp .lt 6, 3) := by decide +kernel
theorem dX5_minutes_27 : decode cX5_minutes 27 = .ok (.bipush (-3), 2) := by decide +kernel
theorem dX5_minutes_29 : decode cX5_minutes 29 = .ok (.ireturn, 1) := by decide +kernel
theorem dX5_minutes_30 : decode cX5_minutes 30 = .ok (.aload_n 0, 1) := by decide +kernel
theorem dX5_minutes_31 : decode cX5_minutes 31 = .ok (.getfield 10, 3) := by decide +kernel
theorem dX5_minutes_34 : decode cX5_minutes 34 = .ok (.iload_n 1, 1) := by decide +kernel
theorem dX5_minutes_35 : decode cX5_minutes 35 = .ok (.invokevirtual 161, 3) := by decide +kernel
theorem dX5_minutes_38 : decode cX5_minutes 38 = .ok (.aload_n 0, 1) := by decide +kernel
theorem dX5_minutes_39 : decode cX5_minutes 39 = .ok (.getfield 10, 3) := by decide +kernel
theorem dX5_minutes_42 : decode cX5_minutes 42 = .ok (.getfield 85, 3) := by decide +kernel
theorem dX5_minutes_45 : decode cX5_minutes 45 = .ok (.ireturn, 1) := by decide +kernel
theorem dX5_runs_0 : decode cX5_runs 0 = .ok (.iload_n 1, 1) := by decide +kernel
theorem dX5_runs_1 : decode cX5_runs 1 = .ok (.invokestatic 165, 3) := by decide +kernel
theorem dX5_runs_4 : decode cX5_runs 4 = .ok (.ifCond .ne 5, 3) := by decide +kernel
theorem dX5_runs_7 : decode cX5_runs 7 = .ok (.iconst (-1), 1) := by decide +kernel
theorem dX5_runs_8 : decode cX5_runs 8 = .ok (.ireturn, 1) := by decide +kernel
theorem dX5_runs_9 : decode cX5_runs 9 = .ok (.aload_n 0, 1) := by decide +kernel
theorem dX5_runs_10 : decode cX5_runs 10 = .ok (.invokevirtual 168, 3) := by decide +kernel
theorem dX5_runs_13 : decode cX5_runs 13 = .ok (.iload_n 2, 1) := by decide +kernel
theorem dX5_runs_14 : decode cX5_runs 14 = .ok (.tableswitch 100 0 4 #[34, 50, 66, 75, 84], 34) := by decide +kernel
theorem dX5_runs_48 : decode cX5_runs 48 = .ok (.aload_n 0, 1) := by decide +kernel
theorem dX5_runs_49 : decode cX5_runs 49 = .ok (.getfield 16, 3) := by decide +kernel
theorem dX5_runs_52 : decode cX5_runs 52 = .ok (.iload_n 1, 1) := by decide +kernel
theorem dX5_runs_53 : decode cX5_runs 53 = .ok (.invokevirtual 161, 3) := by decide +kernel
theorem dX5_runs_56 : decode cX5_runs 56 = .ok (.aload_n 0, 1) := by decide +kernel
theorem dX5_runs_57 : decode cX5_runs 57 = .ok (.getfield 16, 3) := by decide +kernel
theorem dX5_runs_60 : decode cX5_runs 60 = .ok (.getfield 85, 3) := by decide +kernel
theorem dX5_runs_63 : decode cX5_runs 63 = .ok (.ireturn, 1) := by decide +kernel
theorem dX5_runs_64 : decode cX5_runs 64 = .ok (.aload_n 0, 1) := by decide +kernel
theorem dX5_runs_65 : decode cX5_runs 65 = .ok (.getfield 16, 3) := by decide +kernel
theorem dX5_runs_68 : decode cX5_runs 68 = .ok (.iload_n 1, 1) := by decide +kernel
theorem dX5_runs_69 : decode cX5_runs 69 = .ok (.invokevirtual 161, 3) := by decide +kernel
theorem dX5_runs_72 : decode cX5_runs 72 = .ok (.aload_n 0, 1) := by decide +kernel
theorem dX5_runs_73 : decode cX5_runs 73 = .ok (.getfield 16, 3) := by decide +kernel
theorem dX5_runs_76 : decode cX5_runs 76 = .ok (.getfield 88, 3) := by decide +kernel
theorem dX5_runs_79 : decode cX5_runs 79 = .ok (.ireturn, 1) := by decide +kernel
theorem dX5_runs_80 : decode cX5_runs 80 = .ok (.aload_n 0, 1) := by decide +kernel
theorem dX5_runs_81 : decode cX5_runs 81 = .ok (.getfield 16, 3) := by decide +kernel
theorem dX5_runs_84 : decode cX5_runs 84 = .ok (.iload_n 1, 1) := by decide +kernel
theorem dX5_runs_85 : decode cX5_runs 85 = .ok (.invokevirtual 171, 3) := by decide +kernel
theorem dX5_runs_88 : decode cX5_runs 88 = .ok (.ireturn, 1) := by decide +kernel
theorem dX5_runs_89 : decode cX5_runs 89 = .ok (.aload_n 0, 1) := by decide +kernel
theorem dX5_runs_90 : decode cX5_runs 90 = .ok (.getfield 16, 3) := by decide +kernel
theorem dX5_runs_93 : decode cX5_runs 93 = .ok (.iload_n 1, 1) := by decide +kernel
theorem dX5_runs_94 : decode cX5_runs 94 = .ok (.invokevirtual 174, 3) := by decide +kernel
theorem dX5_runs_97 : decode cX5_runs 97 = .ok (.ireturn, 1) := by decide +kernel
theorem dX5_runs_98 : decode cX5_runs 98 = .ok (.aload_n 0, 1) := by decide +kernel
theorem dX5_runs_99 : decode cX5_runs 99 = .ok (.getfield 16, 3) := by decide +kernel
theorem dX5_runs_102 : decode cX5_runs 102 = .ok (.iload_n 1, 1) := by decide +kernel
theorem dX5_runs_103 : decode cX5_runs 103 = .ok (.invokevirtual 161, 3) := by decide +kernel
theorem dX5_runs_106 : decode cX5_runs 106 = .ok (.aload_n 0, 1) := by decide +kernel
theorem dX5_runs_107 : decode cX5_runs 107 = .ok (.getfield 16, 3) := by decide +kernel
theorem dX5_runs_110 : decode cX5_runs 110 = .ok (.getfield 95, 3) := by decide +kernel
theorem dX5_runs_113 : decode cX5_runs 113 = .ok (.ireturn, 1) := by decide +kernel
theorem dX5_runs_114 : decode cX5_runs 114 = .ok (.iconst (-1), 1) := by decide +kernel
theorem dX5_runs_115 : decode cX5_runs 115 = .ok (.ireturn, 1) := by decide +kernel
theorem dX5_falls_0 : decode cX5_falls 0 = .ok (.aload_n 0, 1) := by decide +kernel
theorem dX5_falls_1 : decode cX5_falls 1 = .ok (.invokevirtual 168, 3) := by decide +kernel
theorem dX5_falls_4 : decode cX5_falls 4 = .ok (.aload_n 0, 1) := by decide +kernel
theorem dX5_falls_5 : decode cX5_falls 5 = .ok (.getfield 16, 3) := by decide +kernel
theorem dX5_falls_8 : decode cX5_falls 8 = .ok (.invokevirtual 177, 3) := by decide +kernel
theorem dX5_falls_11 : decode cX5_falls 11 = .ok (.invokestatic 180, 3) := by decide +kernel
theorem dX5_falls_14 : decode cX5_falls 14 = .ok (.ireturn, 1) := by decide +kernel
theorem dX5_church_0 : decode cX5_church 0 = .ok (.iload_n 1, 1) := by decide +kernel
theorem dX5_church_1 : decode cX5_church 1 = .ok (.invokestatic 183, 3) := by decide +kernel
theorem dX5_church_4 : decode cX5_church 4 = .ok (.ifCond .ne 5, 3) := by decide +kernel
theorem dX5_church_7 : decode cX5_church 7 = .ok (.iconst (-1), 1) := by decide +kernel
theorem dX5_church_8 : decode cX5_church 8 = .ok (.ireturn, 1) := by decide +kernel
theorem dX5_church_9 : decode cX5_church 9 = .ok (.aload_n 0, 1) := by decide +kernel
theorem dX5_church_10 : decode cX5_church 10 = .ok (.invokevirtual 168, 3) := by decide +kernel
theorem dX5_church_13 : decode cX5_church 13 = .ok (.aload_n 0, 1) := by decide +kernel
theorem dX5_church_14 : decode cX5_church 14 = .ok (.getfield 16, 3) := by decide +kernel
theorem dX5_church_17 : decode cX5_church 17 = .ok (.iload_n 1, 1) := by decide +kernel
theorem dX5_church_18 : decode cX5_church 18 = .ok (.invokevirtual 186, 3) := by decide +kernel
theorem dX5_church_21 : decode cX5_church 21 = .ok (.invokestatic 180, 3) := by decide +kernel
theorem dX5_church_24 : decode cX5_church 24 = .ok (.ireturn, 1) := by decide +kernel
theorem dX5_best_0 : decode cX5_best 0 = .ok (.iload_n 1, 1) := by decide +kernel
theorem dX5_best_1 : decode cX5_best 1 = .ok (.iconst 0, 1) := by decide +kernel
theorem dX5_best_2 : decode cX5_best 2 = .ok (.iconst 1, 1) := by decide +kernel
theorem dX5_best_3 : decode cX5_best 3 = .ok (.invokestatic 53, 3) := by decide +kernel
theorem dX5_best_6 : decode cX5_best 6 = .ok (.ifCond .ne 5, 3) := by decide +kernel
theorem dX5_best_9 : decode cX5_best 9 = .ok (.iconst (-1), 1) := by decide +kernel
theorem dX5_best_10 : decode cX5_best 10 = .ok (.ireturn, 1) := by decide +kernel
theorem dX5_best_11 : decode cX5_best 11 = .ok (.aload_n 0, 1) := by decide +kernel
theorem dX5_best_12 : decode cX5_best 12 = .ok (.getfield 43, 3) := by decide +kernel
theorem dX5_best_15 : decode cX5_best 15 = .ok (.ldc 189, 2) := by decide +kernel
theorem dX5_best_17 : decode cX5_best 17 = .ok (.invokevirtual 190, 3) := by decide +kernel
theorem dX5_best_20 : decode cX5_best 20 = .ok (.iconst 0, 1) := by decide +kernel
theorem dX5_best_21 : decode cX5_best 21 = .ok (.istore_n 2, 1) := by decide +kernel
theorem dX5_best_22 : decode cX5_best 22 = .ok (.iload_n 2, 1) := by decide +kernel
theorem dX5_best_23 : decode cX5_best 23 = .ok (.aload_n 0, 1) := by decide +kernel
theorem dX5_best_24 : decode cX5_best 24 = .ok (.getfield 10, 3) := by decide +kernel
theorem dX5_best_27 : decode cX5_best 27 = .ok (.getfield 79, 3) := by decide +kernel
theorem dX5_best_30 : decode cX5_best 30 = .ok (.if_icmp .ge 48, 3) := by decide +kernel
theorem dX5_best_33 : decode cX5_best 33 = .ok (.aload_n 0, 1) := by decide +kernel
theorem dX5_best_34 : decode cX5_best 34 = .ok (.getfield 10, 3) := by decide +kernel
theorem dX5_best_37 : decode cX5_best 37 = .ok (.iload_n 2, 1) := by decide +kernel
theorem dX5_best_38 : decode cX5_best 38 = .ok (.invokevirtual 124, 3) := by decide +kernel
theorem dX5_best_41 : decode cX5_best 41 = .ok (.ifCond .ne 31, 3) := by decide +kernel
theorem dX5_best_44 : decode cX5_best 44 = .ok (.aload_n 0, 1) := by decide +kernel
theorem dX5_best_45 : decode cX5_best 45 = .ok (.invokevirtual 168, 3) := by decide +kernel
theorem dX5_best_48 : decode cX5_best 48 = .ok (.aload_n 0, 1) := by decide +kernel
theorem dX5_best_49 : decode cX5_best 49 = .ok (.getfield 16, 3) := by decide +kernel
theorem dX5_best_52 : decode cX5_best 52 = .ok (.iload_n 2, 1) := by decide +kernel
theorem dX5_best_53 : decode cX5_best 53 = .ok (.iconst 1, 1) := by decide +kernel
theorem dX5_best_54 : decode cX5_best 54 = .ok (.invokevirtual 152, 3) := by decide +kernel
theorem dX5_best_57 : decode cX5_best 57 = .ok (.aload_n 0, 1) := by decide +kernel
theorem dX5_best_58 : decode cX5_best 58 = .ok (.getfield 43, 3) := by decide +kernel
theorem dX5_best_61 : decode cX5_best 61 = .ok (.iload_n 2, 1) := by decide +kernel
theorem dX5_best_62 : decode cX5_best 62 = .ok (.aload_n 0, 1) := by decide +kernel
theorem dX5_best_63 : decode cX5_best 63 = .ok (.getfield 16, 3) := by decide +kernel
theorem dX5_best_66 : decode cX5_best 66 = .ok (.invokevirtual 177, 3) := by decide +kernel
theorem dX5_best_69 : decode cX5_best 69 = .ok (.invokevirtual 193, 3) := by decide +kernel
theorem dX5_best_72 : decode cX5_best 72 = .ok (.iinc 2 1, 3) := by decide +kernel
theorem dX5_best_75 : decode cX5_best 75 = .ok (.goto (-53), 3) := by decide +kernel
theorem dX5_best_78 : decode cX5_best 78 = .ok (.aload_n 0, 1) := by decide +kernel
theorem dX5_best_79 : decode cX5_best 79 = .ok (.getfield 43, 3) := by decide +kernel
theorem dX5_best_82 : decode cX5_best 82 = .ok (.iload_n 1, 1) := by decide +kernel
theorem dX5_best_83 : decode cX5_best 83 = .ok (.invokevirtual 197, 3) := by decide +kernel
theorem dX5_best_86 : decode cX5_best 86 = .ok (.ireturn, 1) := by decide +kernel
theorem dX5_both_0 : decode cX5_both 0 = .ok (.iload_n 1, 1) := by decide +kernel
theorem dX5_both_1 : decode cX5_both 1 = .ok (.invokestatic 183, 3) := by decide +kernel
theorem dX5_both_4 : decode cX5_both 4 = .ok (.ifCond .eq 12, 3) := by decide +kernel
theorem dX5_both_7 : decode cX5_both 7 = .ok (.iload_n 2, 1) := by decide +kernel
theorem dX5_both_8 : decode cX5_both 8 = .ok (.iconst 0, 1) := by decide +kernel
theorem dX5_both_9 : decode cX5_both 9 = .ok (.iconst 1, 1) := by decide +kernel
theorem dX5_both_10 : decode cX5_both 10 = .ok (.invokestatic 53, 3) := by decide +kernel
theorem dX5_both_13 : decode cX5_both 13 = .ok (.ifCond .ne 5, 3) := by decide +kernel
theorem dX5_both_16 : decode cX5_both 16 = .ok (.iconst (-1), 1) := by decide +kernel
theorem dX5_both_17 : decode cX5_both 17 = .ok (.ireturn, 1) := by decide +kernel
theorem dX5_both_18 : decode cX5_both 18 = .ok (.aload_n 0, 1) := by decide +kernel
theorem dX5_both_19 : decode cX5_both 19 = .ok (.getfield 43, 3) := by decide +kernel
theorem dX5_both_22 : decode cX5_both 22 = .ok (.ldc 189, 2) := by decide +kernel
theorem dX5_both_24 : decode cX5_both 24 = .ok (.invokevirtual 190, 3) := by decide +kernel
theorem dX5_both_27 : decode cX5_both 27 = .ok (.iconst 0, 1) := by decide +kernel
theorem dX5_both_28 : decode cX5_both 28 = .ok (.istore_n 3, 1) := by decide +kernel
theorem dX5_both_29 : decode cX5_both 29 = .ok (.iload_n 3, 1) := by decide +kernel
theorem dX5_both_30 : decode cX5_both 30 = .ok (.aload_n 0, 1) := by decide +kernel
theorem dX5_both_31 : decode cX5_both 31 = .ok (.getfield 10, 3) := by decide +kernel
theorem dX5_both_34 : decode cX5_both 34 = .ok (.getfield 79, 3) := by decide +kernel
theorem dX5_both_37 : decode cX5_both 37 = .ok (.if_icmp .ge 100, 3) := by decide +kernel
theorem dX5_both_40 : decode cX5_both 40 = .ok (.iload_n 3, 1) := by decide +kernel
theorem dX5_both_41 : decode cX5_both 41 = .ok (.iconst 1, 1) := by decide +kernel
theorem dX5_both_42 : decode cX5_both 42 = .ok (.iadd, 1) := by decide +kernel
theorem dX5_both_43 : decode cX5_both 43 = .ok (.istore 4, 2) := by decide +kernel
theorem dX5_both_45 : decode cX5_both 45 = .ok (.iload 4, 2) := by decide +kernel
theorem dX5_both_47 : decode cX5_both 47 = .ok (.aload_n 0, 1) := by decide +kernel
theorem dX5_both_48 : decode cX5_both 48 = .ok (.getfield 10, 3) := by decide +kernel
theorem dX5_both_51 : decode cX5_both 51 = .ok (.getfield 79, 3) := by decide +kernel
theorem dX5_both_54 : decode cX5_both 54 = .ok (.if_icmp .ge 77, 3) := by decide +kernel
theorem dX5_both_57 : decode cX5_both 57 = .ok (.aload_n 0, 1) := by decide +kernel
theorem dX5_both_58 : decode cX5_both 58 = .ok (.getfield 10, 3) := by decide +kernel
theorem dX5_both_61 : decode cX5_both 61 = .ok (.iload_n 3, 1) := by decide +kernel
theorem dX5_both_62 : decode cX5_both 62 = .ok (.invokevirtual 124, 3) := by decide +kernel
theorem dX5_both_65 : decode cX5_both 65 = .ok (.ifCond .ne 60, 3) := by decide +kernel
theorem dX5_both_68 : decode cX5_both 68 = .ok (.aload_n 0, 1) := by decide +kernel
theorem dX5_both_69 : decode cX5_both 69 = .ok (.getfield 10, 3) := by decide +kernel
theorem dX5_both_72 : decode cX5_both 72 = .ok (.iload 4, 2) := by decide +kernel
theorem dX5_both_74 : decode cX5_both 74 = .ok (.invokevirtual 124, 3) := by decide +kernel
theorem dX5_both_77 : decode cX5_both 77 = .ok (.ifCond .ne 48, 3) := by decide +kernel
theorem dX5_both_80 : decode cX5_both 80 = .ok (.aload_n 0, 1) := by decide +kernel
theorem dX5_both_81 : decode cX5_both 81 = .ok (.invokevirtual 168, 3) := by decide +kernel
theorem dX5_both_84 : decode cX5_both 84 = .ok (.aload_n 0, 1) := by decide +kernel
theorem dX5_both_85 : decode cX5_both 85 = .ok (.getfield 16, 3) := by decide +kernel
theorem dX5_both_88 : decode cX5_both 88 = .ok (.iload_n 3, 1) := by decide +kernel
theorem dX5_both_89 : decode cX5_both 89 = .ok (.iconst 1, 1) := by decide +kernel
theorem dX5_both_90 : decode cX5_both 90 = .ok (.invokevirtual 152, 3) := by decide +kernel
theorem dX5_both_93 : decode cX5_both 93 = .ok (.aload_n 0, 1) := by decide +kernel
theorem dX5_both_94 : decode cX5_both 94 = .ok (.getfield 16, 3) := by decide +kernel
theorem dX5_both_97 : decode cX5_both 97 = .ok (.iload 4, 2) := by decide +kernel
theorem dX5_both_99 : decode cX5_both 99 = .ok (.iconst 1, 1) := by decide +kernel
theorem dX5_both_100 : decode cX5_both 100 = .ok (.invokevirtual 152, 3) := by decide +kernel
theorem dX5_both_103 : decode cX5_both 103 = .ok (.aload_n 0, 1) := by decide +kernel
theorem dX5_both_104 : decode cX5_both 104 = .ok (.getfield 43, 3) := by decide +kernel
theorem dX5_both_107 : decode cX5_both 107 = .ok (.bipush 10, 2) := by decide +kernel
theorem dX5_both_109 : decode cX5_both 109 = .ok (.iload_n 3, 1) := by decide +kernel
theorem dX5_both_110 : decode cX5_both 110 = .ok (.imul, 1) := by decide +kernel
theorem dX5_both_111 : decode cX5_both 111 = .ok (.iload 4, 2) := by decide +kernel
theorem dX5_both_113 : decode cX5_both 113 = .ok (.iadd, 1) := by decide +kernel
theorem dX5_both_114 : decode cX5_both 114 = .ok (.aload_n 0, 1) := by decide +kernel
theorem dX5_both_115 : decode cX5_both 115 = .ok (.getfield 16, 3) := by decide +kernel
theorem dX5_both_118 : decode cX5_both 118 = .ok (.iload_n 1, 1) := by decide +kernel
theorem dX5_both_119 : decode cX5_both 119 = .ok (.invokevirtual 186, 3) := by decide +kernel
theorem dX5_both_122 : decode cX5_both 122 = .ok (.invokevirtual 193, 3) := by decide +kernel
theorem dX5_both_125 : decode cX5_both 125 = .ok (.iinc 4 1, 3) := by decide +kernel
theorem dX5_both_128 : decode cX5_both 128 = .ok (.goto (-83), 3) := by decide +kernel
theorem dX5_both_131 : decode cX5_both 131 = .ok (.iinc 3 1, 3) := by decide +kernel
theorem dX5_both_134 : decode cX5_both 134 = .ok (.goto (-105), 3) := by decide +kernel
theorem dX5_both_137 : decode cX5_both 137 = .ok (.aload_n 0, 1) := by decide +kernel
theorem dX5_both_138 : decode cX5_both 138 = .ok (.getfield 43, 3) := by decide +kernel
theorem dX5_both_141 : decode cX5_both 141 = .ok (.iload_n 2, 1) := by decide +kernel
theorem dX5_both_142 : decode cX5_both 142 = .ok (.invokevirtual 197, 3) := by decide +kernel
theorem dX5_both_145 : decode cX5_both 145 = .ok (.ireturn, 1) := by decide +kernel
theorem dX5_when_0 : decode cX5_when 0 = .ok (.aload_n 0, 1) := by decide +kernel
theorem dX5_when_1 : decode cX5_when 1 = .ok (.getfield 10, 3) := by decide +kernel
theorem dX5_when_4 : decode cX5_when 4 = .ok (.iload_n 1, 1) := by decide +kernel
theorem dX5_when_5 : decode cX5_when 5 = .ok (.invokevirtual 110, 3) := by decide +kernel
theorem dX5_when_8 : decode cX5_when 8 = .ok (.ifCond .eq 27, 3) := by decide +kernel
theorem dX5_when_11 : decode cX5_when 11 = .ok (.iload_n 2, 1) := by decide +kernel
theorem dX5_when_12 : decode cX5_when 12 = .ok (.invokestatic 183, 3) := by decide +kernel
theorem dX5_when_15 : decode cX5_when 15 = .ok (.ifCond .eq 20, 3) := by decide +kernel
theorem dX5_when_18 : decode cX5_when 18 = .ok (.iload_n 3, 1) := by decide +kernel
theorem dX5_when_19 : decode cX5_when 19 = .ok (.invokestatic 165, 3) := by decide +kernel
theorem dX5_when_22 : decode cX5_when 22 = .ok (.ifCond .eq 13, 3) := by decide +kernel
theorem dX5_when_25 : decode cX5_when 25 = .ok (.iload 4, 2) := by decide +kernel
theorem dX5_when_27 : decode cX5_when 27 = .ok (.iconst 0, 1) := by decide +kernel
theorem dX5_when_28 : decode cX5_when 28 = .ok (.iconst 1, 1) := by decide +kernel
theorem dX5_when_29 : decode cX5_when 29 = .ok (.invokestatic 53, 3) := by decide +kernel
theorem dX5_when_32 : decode cX5_when 32 = .ok (.ifCond .ne 5, 3) := by decide +kernel
theorem dX5_when_35 : decode cX5_when 35 = .ok (.iconst (-1), 1) := by decide +kernel
theorem dX5_when_36 : decode cX5_when 36 = .ok (.ireturn, 1) := by decide +kernel
theorem dX5_when_37 : decode cX5_when 37 = .ok (.aload_n 0, 1) := by decide +kernel
theorem dX5_when_38 : decode cX5_when 38 = .ok (.getfield 43, 3) := by decide +kernel
theorem dX5_when_41 : decode cX5_when 41 = .ok (.ldc 189, 2) := by decide +kernel
theorem dX5_when_43 : decode cX5_when 43 = .ok (.invokevirtual 190, 3) := by decide +kernel
theorem dX5_when_46 : decode cX5_when 46 = .ok (.iconst 0, 1) := by decide +kernel
theorem dX5_when_47 : decode cX5_when 47 = .ok (.istore 5, 2) := by decide +kernel
theorem dX5_when_49 : decode cX5_when 49 = .ok (.iload 5, 2) := by decide +kernel
theorem dX5_when_51 : decode cX5_when 51 = .ok (.bipush 30, 2) := by decide +kernel
theorem dX5_when_53 : decode cX5_when 53 = .ok (.if_icmp .gt 69, 3) := by decide +kernel
theorem dX5_when_56 : decode cX5_when 56 = .ok (.aload_n 0, 1) := by decide +kernel
theorem dX5_when_57 : decode cX5_when 57 = .ok (.invokevirtual 168, 3) := by decide +kernel
theorem dX5_when_60 : decode cX5_when 60 = .ok (.aload_n 0, 1) := by decide +kernel
theorem dX5_when_61 : decode cX5_when 61 = .ok (.getfield 16, 3) := by decide +kernel
theorem dX5_when_64 : decode cX5_when 64 = .ok (.iload 5, 2) := by decide +kernel
theorem dX5_when_66 : decode cX5_when 66 = .ok (.iload_n 3, 1) := by decide +kernel
theorem dX5_when_67 : decode cX5_when 67 = .ok (.invokestatic 200, 3) := by decide +kernel
theorem dX5_when_70 : decode cX5_when 70 = .ok (.invokevirtual 161, 3) := by decide +kernel
theorem dX5_when_73 : decode cX5_when 73 = .ok (.iload 5, 2) := by decide +kernel
theorem dX5_when_75 : decode cX5_when 75 = .ok (.iload_n 3, 1) := by decide +kernel
theorem dX5_when_76 : decode cX5_when 76 = .ok (.if_icmp .ge 23, 3) := by decide +kernel
theorem dX5_when_79 : decode cX5_when 79 = .ok (.aload_n 0, 1) := by decide +kernel
theorem dX5_when_80 : decode cX5_when 80 = .ok (.getfield 16, 3) := by decide +kernel
theorem dX5_when_83 : decode cX5_when 83 = .ok (.iload_n 1, 1) := by decide +kernel
theorem dX5_when_84 : decode cX5_when 84 = .ok (.iconst 1, 1) := by decide +kernel
theorem dX5_when_85 : decode cX5_when 85 = .ok (.invokevirtual 152, 3) := by decide +kernel
theorem dX5_when_88 : decode cX5_when 88 = .ok (.aload_n 0, 1) := by decide +kernel
theorem dX5_when_89 : decode cX5_when 89 = .ok (.getfield 16, 3) := by decide +kernel
theorem dX5_when_92 : decode cX5_when 92 = .ok (.iload_n 3, 1) := by decide +kernel
theorem dX5_when_93 : decode cX5_when 93 = .ok (.iload 5, 2) := by decide +kernel
theorem dX5_when_95 : decode cX5_when 95 = .ok (.isub, 1) := by decide +kernel
theorem dX5_when_96 : decode cX5_when 96 = .ok (.invokevirtual 161, 3) := by decide +kernel
theorem dX5_when_99 : decode cX5_when 99 = .ok (.aload_n 0, 1) := by decide +kernel
theorem dX5_when_100 : decode cX5_when 100 = .ok (.getfield 43, 3) := by decide +kernel
theorem dX5_when_103 : decode cX5_when 103 = .ok (.iload 5, 2) := by decide +kernel
theorem dX5_when_105 : decode cX5_when 105 = .ok (.aload_n 0, 1) := by decide +kernel
theorem dX5_when_106 : decode cX5_when 106 = .ok (.getfield 16, 3) := by decide +kernel
theorem dX5_when_109 : decode cX5_when 109 = .ok (.iload_n 2, 1) := by decide +kernel
theorem dX5_when_110 : decode cX5_when 110 = .ok (.invokevirtual 205, 3) := by decide +kernel
theorem dX5_when_113 : decode cX5_when 113 = .ok (.invokevirtual 193, 3) := by decide +kernel
theorem dX5_when_116 : decode cX5_when 116 = .ok (.iinc 5 1, 3) := by decide +kernel
theorem dX5_when_119 : decode cX5_when 119 = .ok (.goto (-70), 3) := by decide +kernel
theorem dX5_when_122 : decode cX5_when 122 = .ok (.aload_n 0, 1) := by decide +kernel
theorem dX5_when_123 : decode cX5_when 123 = .ok (.getfield 43, 3) := by decide +kernel
theorem dX5_when_126 : decode cX5_when 126 = .ok (.iload 4, 2) := by decide +kernel
theorem dX5_when_128 : decode cX5_when 128 = .ok (.invokevirtual 197, 3) := by decide +kernel
theorem dX5_when_131 : decode cX5_when 131 = .ok (.ireturn, 1) := by decide +kernel
theorem dX5_steer_0 : decode cX5_steer 0 = .ok (.iload_n 1, 1) := by decide +kernel
theorem dX5_steer_1 : decode cX5_steer 1 = .ok (.invokestatic 130, 3) := by decide +kernel
theorem dX5_steer_4 : decode cX5_steer 4 = .ok (.ifCond .eq 27, 3) := by decide +kernel
theorem dX5_steer_7 : decode cX5_steer 7 = .ok (.iload_n 2, 1) := by decide +kernel
theorem dX5_steer_8 : decode cX5_steer 8 = .ok (.invokestatic 183, 3) := by decide +kernel
theorem dX5_steer_11 : decode cX5_steer 11 = .ok (.ifCond .eq 20, 3) := by decide +kernel
theorem dX5_steer_14 : decode cX5_steer 14 = .ok (.iload_n 3, 1) := by decide +kernel
theorem dX5_steer_15 : decode cX5_steer 15 = .ok (.invokestatic 165, 3) := by decide +kernel
theorem dX5_steer_18 : decode cX5_steer 18 = .ok (.ifCond .eq 13, 3) := by decide +kernel
theorem dX5_steer_21 : decode cX5_steer 21 = .ok (.iload 4, 2) := by decide +kernel
theorem dX5_steer_23 : decode cX5_steer 23 = .ok (.iconst 0, 1) := by decide +kernel
theorem dX5_steer_24 : decode cX5_steer 24 = .ok (.iconst 1, 1) := by decide +kernel
theorem dX5_steer_25 : decode cX5_steer 25 = .ok (.invokestatic 53, 3) := by decide +kernel
theorem dX5_steer_28 : decode cX5_steer 28 = .ok (.ifCond .ne 5, 3) := by decide +kernel
theorem dX5_steer_31 : decode cX5_steer 31 = .ok (.iconst (-1), 1) := by decide +kernel
theorem dX5_steer_32 : decode cX5_steer 32 = .ok (.ireturn, 1) := by decide +kernel
theorem dX5_steer_33 : decode cX5_steer 33 = .ok (.aload_n 0, 1) := by decide +kernel
theorem dX5_steer_34 : decode cX5_steer 34 = .ok (.getfield 43, 3) := by decide +kernel
theorem dX5_steer_37 : decode cX5_steer 37 = .ok (.ldc 189, 2) := by decide +kernel
theorem dX5_steer_39 : decode cX5_steer 39 = .ok (.invokevirtual 190, 3) := by decide +kernel
theorem dX5_steer_42 : decode cX5_steer 42 = .ok (.iconst 0, 1) := by decide +kernel
theorem dX5_steer_43 : decode cX5_steer 43 = .ok (.istore 5, 2) := by decide +kernel
theorem dX5_steer_45 : decode cX5_steer 45 = .ok (.iload 5, 2) := by decide +kernel
theorem dX5_steer_47 : decode cX5_steer 47 = .ok (.bipush 8, 2) := by decide +kernel
theorem dX5_steer_49 : decode cX5_steer 49 = .ok (.if_icmp .gt 49, 3) := by decide +kernel
theorem dX5_steer_52 : decode cX5_steer 52 = .ok (.aload_n 0, 1) := by decide +kernel
theorem dX5_steer_53 : decode cX5_steer 53 = .ok (.invokevirtual 168, 3) := by decide +kernel
theorem dX5_steer_56 : decode cX5_steer 56 = .ok (.aload_n 0, 1) := by decide +kernel
theorem dX5_steer_57 : decode cX5_steer 57 = .ok (.getfield 16, 3) := by decide +kernel
theorem dX5_steer_60 : decode cX5_steer 60 = .ok (.getfield 133, 3) := by decide +kernel
theorem dX5_steer_63 : decode cX5_steer 63 = .ok (.iload_n 1, 1) := by decide +kernel
theorem dX5_steer_64 : decode cX5_steer 64 = .ok (.iload 5, 2) := by decide +kernel
theorem dX5_steer_66 : decode cX5_steer 66 = .ok (.iastore, 1) := by decide +kernel
theorem dX5_steer_67 : decode cX5_steer 67 = .ok (.aload_n 0, 1) := by decide +kernel
theorem dX5_steer_68 : decode cX5_steer 68 = .ok (.getfield 16, 3) := by decide +kernel
theorem dX5_steer_71 : decode cX5_steer 71 = .ok (.iload_n 3, 1) := by decide +kernel
theorem dX5_steer_72 : decode cX5_steer 72 = .ok (.invokevirtual 161, 3) := by decide +kernel
theorem dX5_steer_75 : decode cX5_steer 75 = .ok (.aload_n 0, 1) := by decide +kernel
theorem dX5_steer_76 : decode cX5_steer 76 = .ok (.getfield 43, 3) := by decide +kernel
theorem dX5_steer_79 : decode cX5_steer 79 = .ok (.iload 5, 2) := by decide +kernel
theorem dX5_steer_81 : decode cX5_steer 81 = .ok (.aload_n 0, 1) := by decide +kernel
theorem dX5_steer_82 : decode cX5_steer 82 = .ok (.getfield 16, 3) := by decide +kernel
theorem dX5_steer_85 : decode cX5_steer 85 = .ok (.iload_n 2, 1) := by decide +kernel
theorem dX5_steer_86 : decode cX5_steer 86 = .ok (.invokevirtual 205, 3) := by decide +kernel
theorem dX5_steer_89 : decode cX5_steer 89 = .ok (.invokevirtual 193, 3) := by decide +kernel
theorem dX5_steer_92 : decode cX5_steer 92 = .ok (.iinc 5 1, 3) := by decide +kernel
theorem dX5_steer_95 : decode cX5_steer 95 = .ok (.goto (-50), 3) := by decide +kernel
theorem dX5_steer_98 : decode cX5_steer 98 = .ok (.aload_n 0, 1) := by decide +kernel
theorem dX5_steer_99 : decode cX5_steer 99 = .ok (.getfield 43, 3) := by decide +kernel
theorem dX5_steer_102 : decode cX5_steer 102 = .ok (.iload 4, 2) := by decide +kernel
theorem dX5_steer_104 : decode cX5_steer 104 = .ok (.invokevirtual 197, 3) := by decide +kernel
theorem dX5_steer_107 : decode cX5_steer 107 = .ok (.ireturn, 1) := by decide +kernel
theorem dX5_hush_0 : decode cX5_hush 0 = .ok (.iload_n 1, 1) := by decide +kernel
theorem dX5_hush_1 : decode cX5_hush 1 = .ok (.invokestatic 165, 3) := by decide +kernel
theorem dX5_hush_4 : decode cX5_hush 4 = .ok (.ifCond .eq 12, 3) := by decide +kernel
theorem dX5_hush_7 : decode cX5_hush 7 = .ok (.iload_n 2, 1) := by decide +kernel
theorem dX5_hush_8 : decode cX5_hush 8 = .ok (.iconst 0, 1) := by decide +kernel
theorem dX5_hush_9 : decode cX5_hush 9 = .ok (.iconst 1, 1) := by decide +kernel
theorem dX5_hush_10 : decode cX5_hush 10 = .ok (.invokestatic 53, 3) := by decide +kernel
theorem dX5_hush_13 : decode cX5_hush 13 = .ok (.ifCond .ne 5, 3) := by decide +kernel
theorem dX5_hush_16 : decode cX5_hush 16 = .ok (.iconst (-1), 1) := by decide +kernel
theorem dX5_hush_17 : decode cX5_hush 17 = .ok (.ireturn, 1) := by decide +kernel
theorem dX5_hush_18 : decode cX5_hush 18 = .ok (.aload_n 0, 1) := by decide +kernel
theorem dX5_hush_19 : decode cX5_hush 19 = .ok (.invokevirtual 168, 3) := by decide +kernel
theorem dX5_hush_22 : decode cX5_hush 22 = .ok (.aload_n 0, 1) := by decide +kernel
theorem dX5_hush_23 : decode cX5_hush 23 = .ok (.getfield 43, 3) := by decide +kernel
theorem dX5_hush_26 : decode cX5_hush 26 = .ok (.aload_n 0, 1) := by decide +kernel
theorem dX5_hush_27 : decode cX5_hush 27 = .ok (.getfield 16, 3) := by decide +kernel
theorem dX5_hush_30 : decode cX5_hush 30 = .ok (.iload_n 1, 1) := by decide +kernel
theorem dX5_hush_31 : decode cX5_hush 31 = .ok (.invokevirtual 171, 3) := by decide +kernel
theorem dX5_hush_34 : decode cX5_hush 34 = .ok (.invokevirtual 190, 3) := by decide +kernel
theorem dX5_hush_37 : decode cX5_hush 37 = .ok (.iconst 0, 1) := by decide +kernel
theorem dX5_hush_38 : decode cX5_hush 38 = .ok (.istore_n 3, 1) := by decide +kernel
theorem dX5_hush_39 : decode cX5_hush 39 = .ok (.iload_n 3, 1) := by decide +kernel
theorem dX5_hush_40 : decode cX5_hush 40 = .ok (.aload_n 0, 1) := by decide +kernel
theorem dX5_hush_41 : decode cX5_hush 41 = .ok (.getfield 10, 3) := by decide +kernel
theorem dX5_hush_44 : decode cX5_hush 44 = .ok (.getfield 101, 3) := by decide +kernel
theorem dX5_hush_47 : decode cX5_hush 47 = .ok (.getfield 105, 3) := by decide +kernel
theorem dX5_hush_50 : decode cX5_hush 50 = .ok (.if_icmp .ge 42, 3) := by decide +kernel
theorem dX5_hush_53 : decode cX5_hush 53 = .ok (.aload_n 0, 1) := by decide +kernel
theorem dX5_hush_54 : decode cX5_hush 54 = .ok (.invokevirtual 168, 3) := by decide +kernel
theorem dX5_hush_57 : decode cX5_hush 57 = .ok (.aload_n 0, 1) := by decide +kernel
theorem dX5_hush_58 : decode cX5_hush 58 = .ok (.getfield 16, 3) := by decide +kernel
theorem dX5_hush_61 : decode cX5_hush 61 = .ok (.getfield 101, 3) := by decide +kernel
theorem dX5_hush_64 : decode cX5_hush 64 = .ok (.getfield 136, 3) := by decide +kernel
theorem dX5_hush_67 : decode cX5_hush 67 = .ok (.iload_n 3, 1) := by decide +kernel
theorem dX5_hush_68 : decode cX5_hush 68 = .ok (.iconst (-1), 1) := by decide +kernel
theorem dX5_hush_69 : decode cX5_hush 69 = .ok (.iastore, 1) := by decide +kernel
theorem dX5_hush_70 : decode cX5_hush 70 = .ok (.aload_n 0, 1) := by decide +kernel
theorem dX5_hush_71 : decode cX5_hush 71 = .ok (.getfield 43, 3) := by decide +kernel
theorem dX5_hush_74 : decode cX5_hush 74 = .ok (.iload_n 3, 1) := by decide +kernel
theorem dX5_hush_75 : decode cX5_hush 75 = .ok (.aload_n 0, 1) := by decide +kernel
theorem dX5_hush_76 : decode cX5_hush 76 = .ok (.getfield 16, 3) := by decide +kernel
theorem dX5_hush_79 : decode cX5_hush 79 = .ok (.iload_n 1, 1) := by decide +kernel
theorem dX5_hush_80 : decode cX5_hush 80 = .ok (.invokevirtual 171, 3) := by decide +kernel
theorem dX5_hush_83 : decode cX5_hush 83 = .ok (.invokevirtual 193, 3) := by decide +kernel
theorem dX5_hush_86 : decode cX5_hush 86 = .ok (.iinc 3 1, 3) := by decide +kernel
theorem dX5_hush_89 : decode cX5_hush 89 = .ok (.goto (-50), 3) := by decide +kernel
theorem dX5_hush_92 : decode cX5_hush 92 = .ok (.aload_n 0, 1) := by decide +kernel
theorem dX5_hush_93 : decode cX5_hush 93 = .ok (.getfield 43, 3) := by decide +kernel
theorem dX5_hush_96 : decode cX5_hush 96 = .ok (.iload_n 2, 1) := by decide +kernel
theorem dX5_hush_97 : decode cX5_hush 97 = .ok (.invokevirtual 197, 3) := by decide +kernel
theorem dX5_hush_100 : decode cX5_hush 100 = .ok (.ireturn, 1) := by decide +kernel
theorem dX5_swap_0 : decode cX5_swap 0 = .ok (.iload_n 1, 1) := by decide +kernel
theorem dX5_swap_1 : decode cX5_swap 1 = .ok (.iconst 0, 1) := by decide +kernel
theorem dX5_swap_2 : decode cX5_swap 2 = .ok (.iconst 1, 1) := by decide +kernel
theorem dX5_swap_3 : decode cX5_swap 3 = .ok (.invokestatic 53, 3) := by decide +kernel
theorem dX5_swap_6 : decode cX5_swap 6 = .ok (.ifCond .ne 5, 3) := by decide +kernel
theorem dX5_swap_9 : decode cX5_swap 9 = .ok (.iconst (-1), 1) := by decide +kernel
theorem dX5_swap_10 : decode cX5_swap 10 = .ok (.ireturn, 1) := by decide +kernel
theorem dX5_swap_11 : decode cX5_swap 11 = .ok (.aload_n 0, 1) := by decide +kernel
theorem dX5_swap_12 : decode cX5_swap 12 = .ok (.invokevirtual 168, 3) := by decide +kernel
theorem dX5_swap_15 : decode cX5_swap 15 = .ok (.aload_n 0, 1) := by decide +kernel
theorem dX5_swap_16 : decode cX5_swap 16 = .ok (.getfield 43, 3) := by decide +kernel
theorem dX5_swap_19 : decode cX5_swap 19 = .ok (.aload_n 0, 1) := by decide +kernel
theorem dX5_swap_20 : decode cX5_swap 20 = .ok (.getfield 16, 3) := by decide +kernel
theorem dX5_swap_23 : decode cX5_swap 23 = .ok (.invokevirtual 177, 3) := by decide +kernel
theorem dX5_swap_26 : decode cX5_swap 26 = .ok (.invokevirtual 190, 3) := by decide +kernel
theorem dX5_swap_29 : decode cX5_swap 29 = .ok (.iconst 0, 1) := by decide +kernel
theorem dX5_swap_30 : decode cX5_swap 30 = .ok (.istore_n 2, 1) := by decide +kernel
theorem dX5_swap_31 : decode cX5_swap 31 = .ok (.iload_n 2, 1) := by decide +kernel
theorem dX5_swap_32 : decode cX5_swap 32 = .ok (.aload_n 0, 1) := by decide +kernel
theorem dX5_swap_33 : decode cX5_swap 33 = .ok (.getfield 10, 3) := by decide +kernel
theorem dX5_swap_36 : decode cX5_swap 36 = .ok (.getfield 101, 3) := by decide +kernel
theorem dX5_swap_39 : decode cX5_swap 39 = .ok (.getfield 105, 3) := by decide +kernel
theorem dX5_swap_42 : decode cX5_swap 42 = .ok (.if_icmp .ge 105, 3) := by decide +kernel
theorem dX5_swap_45 : decode cX5_swap 45 = .ok (.iload_n 2, 1) := by decide +kernel
theorem dX5_swap_46 : decode cX5_swap 46 = .ok (.iconst 1, 1) := by decide +kernel
theorem dX5_swap_47 : decode cX5_swap 47 = .ok (.iadd, 1) := by decide +kernel
theorem dX5_swap_48 : decode cX5_swap 48 = .ok (.istore_n 3, 1) := by decide +kernel
theorem dX5_swap_49 : decode cX5_swap 49 = .ok (.iload_n 3, 1) := by decide +kernel
theorem dX5_swap_50 : decode cX5_swap 50 = .ok (.aload_n 0, 1) := by decide +kernel
theorem dX5_swap_51 : decode cX5_swap 51 = .ok (.getfield 10, 3) := by decide +kernel
theorem dX5_swap_54 : decode cX5_swap 54 = .ok (.getfield 101, 3) := by decide +kernel
theorem dX5_swap_57 : decode cX5_swap 57 = .ok (.getfield 105, 3) := by decide +kernel
theorem dX5_swap_60 : decode cX5_swap 60 = .ok (.if_icmp .ge 81, 3) := by decide +kernel
theorem dX5_swap_63 : decode cX5_swap 63 = .ok (.aload_n 0, 1) := by decide +kernel
theorem dX5_swap_64 : decode cX5_swap 64 = .ok (.invokevirtual 168, 3) := by decide +kernel
theorem dX5_swap_67 : decode cX5_swap 67 = .ok (.aload_n 0, 1) := by decide +kernel
theorem dX5_swap_68 : decode cX5_swap 68 = .ok (.getfield 16, 3) := by decide +kernel
theorem dX5_swap_71 : decode cX5_swap 71 = .ok (.getfield 101, 3) := by decide +kernel
theorem dX5_swap_74 : decode cX5_swap 74 = .ok (.getfield 139, 3) := by decide +kernel
theorem dX5_swap_77 : decode cX5_swap 77 = .ok (.iload_n 2, 1) := by decide +kernel
theorem dX5_swap_78 : decode cX5_swap 78 = .ok (.aload_n 0, 1) := by decide +kernel
theorem dX5_swap_79 : decode cX5_swap 79 = .ok (.getfield 10, 3) := by decide +kernel
theorem dX5_swap_82 : decode cX5_swap 82 = .ok (.getfield 101, 3) := by decide +kernel
theorem dX5_swap_85 : decode cX5_swap 85 = .ok (.getfield 139, 3) := by decide +kernel
theorem dX5_swap_88 : decode cX5_swap 88 = .ok (.iload_n 3, 1) := by decide +kernel
theorem dX5_swap_89 : decode cX5_swap 89 = .ok (.iaload, 1) := by decide +kernel
theorem dX5_swap_90 : decode cX5_swap 90 = .ok (.iastore, 1) := by decide +kernel
theorem dX5_swap_91 : decode cX5_swap 91 = .ok (.aload_n 0, 1) := by decide +kernel
theorem dX5_swap_92 : decode cX5_swap 92 = .ok (.getfield 16, 3) := by decide +kernel
theorem dX5_swap_95 : decode cX5_swap 95 = .ok (.getfield 101, 3) := by decide +kernel
theorem dX5_swap_98 : decode cX5_swap 98 = .ok (.getfield 139, 3) := by decide +kernel
theorem dX5_swap_101 : decode cX5_swap 101 = .ok (.iload_n 3, 1) := by decide +kernel
theorem dX5_swap_102 : decode cX5_swap 102 = .ok (.aload_n 0, 1) := by decide +kernel
theorem dX5_swap_103 : decode cX5_swap 103 = .ok (.getfield 10, 3) := by decide +kernel
theorem dX5_swap_106 : decode cX5_swap 106 = .ok (.getfield 101, 3) := by decide +kernel
theorem dX5_swap_109 : decode cX5_swap 109 = .ok (.getfield 139, 3) := by decide +kernel
theorem dX5_swap_112 : decode cX5_swap 112 = .ok (.iload_n 2, 1) := by decide +kernel
theorem dX5_swap_113 : decode cX5_swap 113 = .ok (.iaload, 1) := by decide +kernel
theorem dX5_swap_114 : decode cX5_swap 114 = .ok (.iastore, 1) := by decide +kernel
theorem dX5_swap_115 : decode cX5_swap 115 = .ok (.aload_n 0, 1) := by decide +kernel
theorem dX5_swap_116 : decode cX5_swap 116 = .ok (.getfield 43, 3) := by decide +kernel
theorem dX5_swap_119 : decode cX5_swap 119 = .ok (.bipush 10, 2) := by decide +kernel
theorem dX5_swap_121 : decode cX5_swap 121 = .ok (.iload_n 2, 1) := by decide +kernel
theorem dX5_swap_122 : decode cX5_swap 122 = .ok (.imul, 1) := by decide +kernel
theorem dX5_swap_123 : decode cX5_swap 123 = .ok (.iload_n 3, 1) := by decide +kernel
theorem dX5_swap_124 : decode cX5_swap 124 = .ok (.iadd, 1) := by decide +kernel
theorem dX5_swap_125 : decode cX5_swap 125 = .ok (.aload_n 0, 1) := by decide +kernel
theorem dX5_swap_126 : decode cX5_swap 126 = .ok (.getfield 16, 3) := by decide +kernel
theorem dX5_swap_129 : decode cX5_swap 129 = .ok (.invokevirtual 177, 3) := by decide +kernel
theorem dX5_swap_132 : decode cX5_swap 132 = .ok (.invokevirtual 193, 3) := by decide +kernel
theorem dX5_swap_135 : decode cX5_swap 135 = .ok (.iinc 3 1, 3) := by decide +kernel
theorem dX5_swap_138 : decode cX5_swap 138 = .ok (.goto (-89), 3) := by decide +kernel
theorem dX5_swap_141 : decode cX5_swap 141 = .ok (.iinc 2 1, 3) := by decide +kernel
theorem dX5_swap_144 : decode cX5_swap 144 = .ok (.goto (-113), 3) := by decide +kernel
theorem dX5_swap_147 : decode cX5_swap 147 = .ok (.aload_n 0, 1) := by decide +kernel
theorem dX5_swap_148 : decode cX5_swap 148 = .ok (.getfield 43, 3) := by decide +kernel
theorem dX5_swap_151 : decode cX5_swap 151 = .ok (.iload_n 1, 1) := by decide +kernel
theorem dX5_swap_152 : decode cX5_swap 152 = .ok (.invokevirtual 197, 3) := by decide +kernel
theorem dX5_swap_155 : decode cX5_swap 155 = .ok (.ireturn, 1) := by decide +kernel
theorem dX5_need_0 : decode cX5_need 0 = .ok (.aload_n 0, 1) := by decide +kernel
theorem dX5_need_1 : decode cX5_need 1 = .ok (.getfield 10, 3) := by decide +kernel
theorem dX5_need_4 : decode cX5_need 4 = .ok (.iload_n 1, 1) := by decide +kernel
theorem dX5_need_5 : decode cX5_need 5 = .ok (.invokevirtual 110, 3) := by decide +kernel
theorem dX5_need_8 : decode cX5_need 8 = .ok (.ifCond .eq 17, 3) := by decide +kernel
theorem dX5_need_11 : decode cX5_need 11 = .ok (.iload_n 2, 1) := by decide +kernel
theorem dX5_need_12 : decode cX5_need 12 = .ok (.invokestatic 165, 3) := by decide +kernel
theorem dX5_need_15 : decode cX5_need 15 = .ok (.ifCond .eq 10, 3) := by decide +kernel
theorem dX5_need_18 : decode cX5_need 18 = .ok (.iload_n 3, 1) := by decide +kernel
theorem dX5_need_19 : decode cX5_need 19 = .ok (.invokestatic 208, 3) := by decide +kernel
theorem dX5_need_22 : decode cX5_need 22 = .ok (.ifCond .ne 5, 3) := by decide +kernel
theorem dX5_need_25 : decode cX5_need 25 = .ok (.iconst (-1), 1) := by decide +kernel
theorem dX5_need_26 : decode cX5_need 26 = .ok (.ireturn, 1) := by decide +kernel
theorem dX5_need_27 : decode cX5_need 27 = .ok (.iconst 1, 1) := by decide +kernel
theorem dX5_need_28 : decode cX5_need 28 = .ok (.istore 4, 2) := by decide +kernel
theorem dX5_need_30 : decode cX5_need 30 = .ok (.iload 4, 2) := by decide +kernel
theorem dX5_need_32 : decode cX5_need 32 = .ok (.bipush 9, 2) := by decide +kernel
theorem dX5_need_34 : decode cX5_need 34 = .ok (.if_icmp .gt 46, 3) := by decide +kernel
theorem dX5_need_37 : decode cX5_need 37 = .ok (.aload_n 0, 1) := by decide +kernel
theorem dX5_need_38 : decode cX5_need 38 = .ok (.invokevirtual 168, 3) := by decide +kernel
theorem dX5_need_41 : decode cX5_need 41 = .ok (.aload_n 0, 1) := by decide +kernel
theorem dX5_need_42 : decode cX5_need 42 = .ok (.getfield 16, 3) := by decide +kernel
theorem dX5_need_45 : decode cX5_need 45 = .ok (.getfield 118, 3) := by decide +kernel
theorem dX5_need_48 : decode cX5_need 48 = .ok (.iload_n 1, 1) := by decide +kernel
theorem dX5_need_49 : decode cX5_need 49 = .ok (.iload 4, 2) := by decide +kernel
theorem dX5_need_51 : decode cX5_need 51 = .ok (.iastore, 1) := by decide +kernel
theorem dX5_need_52 : decode cX5_need 52 = .ok (.aload_n 0, 1) := by decide +kernel
theorem dX5_need_53 : decode cX5_need 53 = .ok (.getfield 16, 3) := by decide +kernel
theorem dX5_need_56 : decode cX5_need 56 = .ok (.iload_n 2, 1) := by decide +kernel
theorem dX5_need_57 : decode cX5_need 57 = .ok (.invokevirtual 161, 3) := by decide +kernel
theorem dX5_need_60 : decode cX5_need 60 = .ok (.aload_n 0, 1) := by decide +kernel
theorem dX5_need_61 : decode cX5_need 61 = .ok (.getfield 16, 3) := by decide +kernel
theorem dX5_need_64 : decode cX5_need 64 = .ok (.getfield 85, 3) := by decide +kernel
theorem dX5_need_67 : decode cX5_need 67 = .ok (.iload_n 3, 1) := by decide +kernel
theorem dX5_need_68 : decode cX5_need 68 = .ok (.if_icmp .lt 6, 3) := by decide +kernel
theorem dX5_need_71 : decode cX5_need 71 = .ok (.iload 4, 2) := by decide +kernel
theorem dX5_need_73 : decode cX5_need 73 = .ok (.ireturn, 1) := by decide +kernel
theorem dX5_need_74 : decode cX5_need 74 = .ok (.iinc 4 1, 3) := by decide +kernel
theorem dX5_need_77 : decode cX5_need 77 = .ok (.goto (-47), 3) := by decide +kernel
theorem dX5_need_80 : decode cX5_need 80 = .ok (.bipush (-4), 2) := by decide +kernel
theorem dX5_need_82 : decode cX5_need 82 = .ok (.ireturn, 1) := by decide +kernel
theorem dX5_luck_0 : decode cX5_luck 0 = .ok (.iload_n 1, 1) := by decide +kernel
theorem dX5_luck_1 : decode cX5_luck 1 = .ok (.iconst 0, 1) := by decide +kernel
theorem dX5_luck_2 : decode cX5_luck 2 = .ok (.bipush 10, 2) := by decide +kernel
theorem dX5_luck_4 : decode cX5_luck 4 = .ok (.invokestatic 53, 3) := by decide +kernel
theorem dX5_luck_7 : decode cX5_luck 7 = .ok (.ifCond .eq 27, 3) := by decide +kernel
theorem dX5_luck_10 : decode cX5_luck 10 = .ok (.iload_n 2, 1) := by decide +kernel
theorem dX5_luck_11 : decode cX5_luck 11 = .ok (.invokestatic 165, 3) := by decide +kernel
theorem dX5_luck_14 : decode cX5_luck 14 = .ok (.ifCond .eq 20, 3) := by decide +kernel
theorem dX5_luck_17 : decode cX5_luck 17 = .ok (.iload_n 3, 1) := by decide +kernel
theorem dX5_luck_18 : decode cX5_luck 18 = .ok (.invokestatic 208, 3) := by decide +kernel
theorem dX5_luck_21 : decode cX5_luck 21 = .ok (.ifCond .eq 13, 3) := by decide +kernel
theorem dX5_luck_24 : decode cX5_luck 24 = .ok (.iload 4, 2) := by decide +kernel
theorem dX5_luck_26 : decode cX5_luck 26 = .ok (.iconst 0, 1) := by decide +kernel
theorem dX5_luck_27 : decode cX5_luck 27 = .ok (.iconst 1, 1) := by decide +kernel
theorem dX5_luck_28 : decode cX5_luck 28 = .ok (.invokestatic 53, 3) := by decide +kernel
theorem dX5_luck_31 : decode cX5_luck 31 = .ok (.ifCond .ne 7, 3) := by decide +kernel
theorem dX5_luck_34 : decode cX5_luck 34 = .ok (.ldc2_w 211, 3) := by decide +kernel
theorem dX5_luck_37 : decode cX5_luck 37 = .ok (.lreturn, 1) := by decide +kernel
theorem dX5_luck_38 : decode cX5_luck 38 = .ok (.lconst 0, 1) := by decide +kernel
theorem dX5_luck_39 : decode cX5_luck 39 = .ok (.lstore 5, 2) := by decide +kernel
theorem dX5_luck_41 : decode cX5_luck 41 = .ok (.iconst 0, 1) := by decide +kernel
theorem dX5_luck_42 : decode cX5_luck 42 = .ok (.istore 7, 2) := by decide +kernel
theorem dX5_luck_44 : decode cX5_luck 44 = .ok (.iload 7, 2) := by decide +kernel
theorem dX5_luck_46 : decode cX5_luck 46 = .ok (.iconst 1, 1) := by decide +kernel
theorem dX5_luck_47 : decode cX5_luck 47 = .ok (.aload_n 0, 1) := by decide +kernel
theorem dX5_luck_48 : decode cX5_luck 48 = .ok (.getfield 10, 3) := by decide +kernel
theorem dX5_luck_51 : decode cX5_luck 51 = .ok (.getfield 101, 3) := by decide +kernel
theorem dX5_luck_54 : decode cX5_luck 54 = .ok (.getfield 105, 3) := by decide +kernel
theorem dX5_luck_57 : decode cX5_luck 57 = .ok (.ishl, 1) := by decide +kernel
theorem dX5_luck_58 : decode cX5_luck 58 = .ok (.if_icmp .ge 54, 3) := by decide +kernel
theorem dX5_luck_61 : decode cX5_luck 61 = .ok (.aload_n 0, 1) := by decide +kernel
theorem dX5_luck_62 : decode cX5_luck 62 = .ok (.iload 7, 2) := by decide +kernel
theorem dX5_luck_64 : decode cX5_luck 64 = .ok (.iload_n 1, 1) := by decide +kernel
theorem dX5_luck_65 : decode cX5_luck 65 = .ok (.invokevirtual 213, 3) := by decide +kernel
theorem dX5_luck_68 : decode cX5_luck 68 = .ok (.lstore 8, 2) := by decide +kernel
theorem dX5_luck_70 : decode cX5_luck 70 = .ok (.lload 8, 2) := by decide +kernel
theorem dX5_luck_72 : decode cX5_luck 72 = .ok (.lconst 0, 1) := by decide +kernel
theorem dX5_luck_73 : decode cX5_luck 73 = .ok (.lcmp, 1) := by decide +kernel
theorem dX5_luck_74 : decode cX5_luck 74 = .ok (.ifCond .le 32, 3) := by decide +kernel
theorem dX5_luck_77 : decode cX5_luck 77 = .ok (.aload_n 0, 1) := by decide +kernel
theorem dX5_luck_78 : decode cX5_luck 78 = .ok (.iload 7, 2) := by decide +kernel
theorem dX5_luck_80 : decode cX5_luck 80 = .ok (.iload_n 2, 1) := by decide +kernel
theorem dX5_luck_81 : decode cX5_luck 81 = .ok (.invokevirtual 217, 3) := by decide +kernel
theorem dX5_luck_84 : decode cX5_luck 84 = .ok (.lload 5, 2) := by decide +kernel
theorem dX5_luck_86 : decode cX5_luck 86 = .ok (.aload_n 0, 1) := by decide +kernel
theorem dX5_luck_87 : decode cX5_luck 87 = .ok (.getfield 16, 3) := by decide +kernel
theorem dX5_luck_90 : decode cX5_luck 90 = .ok (.getfield 85, 3) := by decide +kernel
theorem dX5_luck_93 : decode cX5_luck 93 = .ok (.iload_n 3, 1) := by decide +kernel
theorem dX5_luck_94 : decode cX5_luck 94 = .ok (.if_icmp .gt 8, 3) := by decide +kernel
theorem dX5_luck_97 : decode cX5_luck 97 = .ok (.lload 8, 2) := by decide +kernel
theorem dX5_luck_99 : decode cX5_luck 99 = .ok (.goto 4, 3) := by decide +kernel
theorem dX5_luck_102 : decode cX5_luck 102 = .ok (.lconst 0, 1) := by decide +kernel
theorem dX5_luck_103 : decode cX5_luck 103 = .ok (.ladd, 1) := by decide +kernel
theorem dX5_luck_104 : decode cX5_luck 104 = .ok (.lstore 5, 2) := by decide +kernel
theorem dX5_luck_106 : decode cX5_luck 106 = .ok (.iinc 7 1, 3) := by decide +kernel
theorem dX5_luck_109 : decode cX5_luck 109 = .ok (.goto (-65), 3) := by decide +kernel
theorem dX5_luck_112 : decode cX5_luck 112 = .ok (.lload 5, 2) := by decide +kernel
theorem dX5_luck_114 : decode cX5_luck 114 = .ok (.aload_n 0, 1) := by decide +kernel
theorem dX5_luck_115 : decode cX5_luck 115 = .ok (.invokevirtual 220, 3) := by decide +kernel
theorem dX5_luck_118 : decode cX5_luck 118 = .ok (.iload 4, 2) := by decide +kernel
theorem dX5_luck_120 : decode cX5_luck 120 = .ok (.invokestatic 224, 3) := by decide +kernel
theorem dX5_luck_123 : decode cX5_luck 123 = .ok (.lreturn, 1) := by decide +kernel
theorem dX5_mean_0 : decode cX5_mean 0 = .ok (.iload_n 1, 1) := by decide +kernel
theorem dX5_mean_1 : decode cX5_mean 1 = .ok (.iconst 0, 1) := by decide +kernel
theorem dX5_mean_2 : decode cX5_mean 2 = .ok (.bipush 10, 2) := by decide +kernel
theorem dX5_mean_4 : decode cX5_mean 4 = .ok (.invokestatic 53, 3) := by decide +kernel
theorem dX5_mean_7 : decode cX5_mean 7 = .ok (.ifCond .eq 19, 3) := by decide +kernel
theorem dX5_mean_10 : decode cX5_mean 10 = .ok (.iload_n 2, 1) := by decide +kernel
theorem dX5_mean_11 : decode cX5_mean 11 = .ok (.invokestatic 165, 3) := by decide +kernel
theorem dX5_mean_14 : decode cX5_mean 14 = .ok (.ifCond .eq 12, 3) := by decide +kernel
theorem dX5_mean_17 : decode cX5_mean 17 = .ok (.iload_n 3, 1) := by decide +kernel
theorem dX5_mean_18 : decode cX5_mean 18 = .ok (.iconst 0, 1) := by decide +kernel
theorem dX5_mean_19 : decode cX5_mean 19 = .ok (.iconst 1, 1) := by decide +kernel
theorem dX5_mean_20 : decode cX5_mean 20 = .ok (.invokestatic 53, 3) := by decide +kernel
theorem dX5_mean_23 : decode cX5_mean 23 = .ok (.ifCond .ne 7, 3) := by decide +kernel
theorem dX5_mean_26 : decode cX5_mean 26 = .ok (.ldc2_w 211, 3) := by decide +kernel
theorem dX5_mean_29 : decode cX5_mean 29 = .ok (.lreturn, 1) := by decide +kernel
theorem dX5_mean_30 : decode cX5_mean 30 = .ok (.lconst 0, 1) := by decide +kernel
theorem dX5_mean_31 : decode cX5_mean 31 = .ok (.lstore 4, 2) := by decide +kernel
theorem dX5_mean_33 : decode cX5_mean 33 = .ok (.iconst 0, 1) := by decide +kernel
theorem dX5_mean_34 : decode cX5_mean 34 = .ok (.istore 6, 2) := by decide +kernel
theorem dX5_mean_36 : decode cX5_mean 36 = .ok (.iload 6, 2) := by decide +kernel
theorem dX5_mean_38 : decode cX5_mean 38 = .ok (.iconst 1, 1) := by decide +kernel
theorem dX5_mean_39 : decode cX5_mean 39 = .ok (.aload_n 0, 1) := by decide +kernel
theorem dX5_mean_40 : decode cX5_mean 40 = .ok (.getfield 10, 3) := by decide +kernel
theorem dX5_mean_43 : decode cX5_mean 43 = .ok (.getfield 101, 3) := by decide +kernel
theorem dX5_mean_46 : decode cX5_mean 46 = .ok (.getfield 105, 3) := by decide +kernel
theorem dX5_mean_49 : decode cX5_mean 49 = .ok (.ishl, 1) := by decide +kernel
theorem dX5_mean_50 : decode cX5_mean 50 = .ok (.if_icmp .ge 48, 3) := by decide +kernel
theorem dX5_mean_53 : decode cX5_mean 53 = .ok (.aload_n 0, 1) := by decide +kernel
theorem dX5_mean_54 : decode cX5_mean 54 = .ok (.iload 6, 2) := by decide +kernel
theorem dX5_mean_56 : decode cX5_mean 56 = .ok (.iload_n 1, 1) := by decide +kernel
theorem dX5_mean_57 : decode cX5_mean 57 = .ok (.invokevirtual 213, 3) := by decide +kernel
theorem dX5_mean_60 : decode cX5_mean 60 = .ok (.lstore 7, 2) := by decide +kernel
theorem dX5_mean_62 : decode cX5_mean 62 = .ok (.lload 7, 2) := by decide +kernel
theorem dX5_mean_64 : decode cX5_mean 64 = .ok (.lconst 0, 1) := by decide +kernel
theorem dX5_mean_65 : decode cX5_mean 65 = .ok (.lcmp, 1) := by decide +kernel
theorem dX5_mean_66 : decode cX5_mean 66 = .ok (.ifCond .le 26, 3) := by decide +kernel
theorem dX5_mean_69 : decode cX5_mean 69 = .ok (.aload_n 0, 1) := by decide +kernel
theorem dX5_mean_70 : decode cX5_mean 70 = .ok (.iload 6, 2) := by decide +kernel
theorem dX5_mean_72 : decode cX5_mean 72 = .ok (.iload_n 2, 1) := by decide +kernel
theorem dX5_mean_73 : decode cX5_mean 73 = .ok (.invokevirtual 217, 3) := by decide +kernel
theorem dX5_mean_76 : decode cX5_mean 76 = .ok (.lload 4, 2) := by decide +kernel
theorem dX5_mean_78 : decode cX5_mean 78 = .ok (.lload 7, 2) := by decide +kernel
theorem dX5_mean_80 : decode cX5_mean 80 = .ok (.aload_n 0, 1) := by decide +kernel
theorem dX5_mean_81 : decode cX5_mean 81 = .ok (.getfield 16, 3) := by decide +kernel
theorem dX5_mean_84 : decode cX5_mean 84 = .ok (.getfield 85, 3) := by decide +kernel
theorem dX5_mean_87 : decode cX5_mean 87 = .ok (.i2l, 1) := by decide +kernel
theorem dX5_mean_88 : decode cX5_mean 88 = .ok (.lmul, 1) := by decide +kernel
theorem dX5_mean_89 : decode cX5_mean 89 = .ok (.ladd, 1) := by decide +kernel
theorem dX5_mean_90 : decode cX5_mean 90 = .ok (.lstore 4, 2) := by decide +kernel
theorem dX5_mean_92 : decode cX5_mean 92 = .ok (.iinc 6 1, 3) := by decide +kernel
theorem dX5_mean_95 : decode cX5_mean 95 = .ok (.goto (-59), 3) := by decide +kernel
theorem dX5_mean_98 : decode cX5_mean 98 = .ok (.lload 4, 2) := by decide +kernel
theorem dX5_mean_100 : decode cX5_mean 100 = .ok (.aload_n 0, 1) := by decide +kernel
theorem dX5_mean_101 : decode cX5_mean 101 = .ok (.invokevirtual 220, 3) := by decide +kernel
theorem dX5_mean_104 : decode cX5_mean 104 = .ok (.iload_n 3, 1) := by decide +kernel
theorem dX5_mean_105 : decode cX5_mean 105 = .ok (.invokestatic 224, 3) := by decide +kernel
theorem dX5_mean_108 : decode cX5_mean 108 = .ok (.lreturn, 1) := by decide +kernel
theorem dX5_oddsThatFail_0 : decode cX5_oddsThatFail 0 = .ok (.lconst 1, 1) := by decide +kernel
theorem dX5_oddsThatFail_1 : decode cX5_oddsThatFail 1 = .ok (.lstore_n 3, 1) := by decide +kernel
theorem dX5_oddsThatFail_2 : decode cX5_oddsThatFail 2 = .ok (.iconst 0, 1) := by decide +kernel
theorem dX5_oddsThatFail_3 : decode cX5_oddsThatFail 3 = .ok (.istore 5, 2) := by decide +kernel
theorem dX5_oddsThatFail_5 : decode cX5_oddsThatFail 5 = .ok (.iload 5, 2) := by decide +kernel
theorem dX5_oddsThatFail_7 : decode cX5_oddsThatFail 7 = .ok (.aload_n 0, 1) := by decide +kernel
theorem dX5_oddsThatFail_8 : decode cX5_oddsThatFail 8 = .ok (.getfield 10, 3) := by decide +kernel
theorem dX5_oddsThatFail_11 : decode cX5_oddsThatFail 11 = .ok (.getfield 101, 3) := by decide +kernel
theorem dX5_oddsThatFail_14 : decode cX5_oddsThatFail 14 = .ok (.getfield 105, 3) := by decide +kernel
theorem dX5_oddsThatFail_17 : decode cX5_oddsThatFail 17 = .ok (.if_icmp .ge 32, 3) := by decide +kernel
theorem dX5_oddsThatFail_20 : decode cX5_oddsThatFail 20 = .ok (.lload_n 3, 1) := by decide +kernel
theorem dX5_oddsThatFail_21 : decode cX5_oddsThatFail 21 = .ok (.iload_n 1, 1) := by decide +kernel
theorem dX5_oddsThatFail_22 : decode cX5_oddsThatFail 22 = .ok (.iload 5, 2) := by decide +kernel
theorem dX5_oddsThatFail_24 : decode cX5_oddsThatFail 24 = .ok (.ishr, 1) := by decide +kernel
theorem dX5_oddsThatFail_25 : decode cX5_oddsThatFail 25 = .ok (.iconst 1, 1) := by decide +kernel
theorem dX5_oddsThatFail_26 : decode cX5_oddsThatFail 26 = .ok (.iand, 1) := by decide +kernel
theorem dX5_oddsThatFail_27 : decode cX5_oddsThatFail 27 = .ok (.iconst 1, 1) := by decide +kernel
theorem dX5_oddsThatFail_28 : decode cX5_oddsThatFail 28 = .ok (.if_icmp .ne 8, 3) := by decide +kernel
theorem dX5_oddsThatFail_31 : decode cX5_oddsThatFail 31 = .ok (.iload_n 2, 1) := by decide +kernel
theorem dX5_oddsThatFail_32 : decode cX5_oddsThatFail 32 = .ok (.i2l, 1) := by decide +kernel
theorem dX5_oddsThatFail_33 : decode cX5_oddsThatFail 33 = .ok (.goto 8, 3) := by decide +kernel
theorem dX5_oddsThatFail_36 : decode cX5_oddsThatFail 36 = .ok (.bipush 10, 2) := by decide +kernel
theorem dX5_oddsThatFail_38 : decode cX5_oddsThatFail 38 = .ok (.iload_n 2, 1) := by decide +kernel
theorem dX5_oddsThatFail_39 : decode cX5_oddsThatFail 39 = .ok (.isub, 1) := by decide +kernel
theorem dX5_oddsThatFail_40 : decode cX5_oddsThatFail 40 = .ok (.i2l, 1) := by decide +kernel
theorem dX5_oddsThatFail_41 : decode cX5_oddsThatFail 41 = .ok (.lmul, 1) := by decide +kernel
theorem dX5_oddsThatFail_42 : decode cX5_oddsThatFail 42 = .ok (.lstore_n 3, 1) := by decide +kernel
theorem dX5_oddsThatFail_43 : decode cX5_oddsThatFail 43 = .ok (.iinc 5 1, 3) := by decide +kernel
theorem dX5_oddsThatFail_46 : decode cX5_oddsThatFail 46 = .ok (.goto (-41), 3) := by decide +kernel
theorem dX5_oddsThatFail_49 : decode cX5_oddsThatFail 49 = .ok (.lload_n 3, 1) := by decide +kernel
theorem dX5_oddsThatFail_50 : decode cX5_oddsThatFail 50 = .ok (.lreturn, 1) := by decide +kernel
theorem dX5_allOdds_0 : decode cX5_allOdds 0 = .ok (.lconst 1, 1) := by decide +kernel
theorem dX5_allOdds_1 : decode cX5_allOdds 1 = .ok (.lstore_n 1, 1) := by decide +kernel
theorem dX5_allOdds_2 : decode cX5_allOdds 2 = .ok (.iconst 0, 1) := by decide +kernel
theorem dX5_allOdds_3 : decode cX5_allOdds 3 = .ok (.istore_n 3, 1) := by decide +kernel
theorem dX5_allOdds_4 : decode cX5_allOdds 4 = .ok (.iload_n 3, 1) := by decide +kernel
theorem dX5_allOdds_5 : decode cX5_allOdds 5 = .ok (.aload_n 0, 1) := by decide +kernel
theorem dX5_allOdds_6 : decode cX5_allOdds 6 = .ok (.getfield 10, 3) := by decide +kernel
theorem dX5_allOdds_9 : decode cX5_allOdds 9 = .ok (.getfield 101, 3) := by decide +kernel
theorem dX5_allOdds_12 : decode cX5_allOdds 12 = .ok (.getfield 105, 3) := by decide +kernel
theorem dX5_allOdds_15 : decode cX5_allOdds 15 = .ok (.if_icmp .ge 15, 3) := by decide +kernel
theorem dX5_allOdds_18 : decode cX5_allOdds 18 = .ok (.lload_n 1, 1) := by decide +kernel
theorem dX5_allOdds_19 : decode cX5_allOdds 19 = .ok (.ldc2_w 228, 3) := by decide +kernel
theorem dX5_allOdds_22 : decode cX5_allOdds 22 = .ok (.lmul, 1) := by decide +kernel
theorem dX5_allOdds_23 : decode cX5_allOdds 23 = .ok (.lstore_n 1, 1) := by decide +kernel
theorem dX5_allOdds_24 : decode cX5_allOdds 24 = .ok (.iinc 3 1, 3) := by decide +kernel
theorem dX5_allOdds_27 : decode cX5_allOdds 27 = .ok (.goto (-23), 3) := by decide +kernel
theorem dX5_allOdds_30 : decode cX5_allOdds 30 = .ok (.lload_n 1, 1) := by decide +kernel
theorem dX5_allOdds_31 : decode cX5_allOdds 31 = .ok (.lreturn, 1) := by decide +kernel
theorem dX5_tryWithout_0 : decode cX5_tryWithout 0 = .ok (.aload_n 0, 1) := by decide +kernel
theorem dX5_tryWithout_1 : decode cX5_tryWithout 1 = .ok (.invokevirtual 168, 3) := by decide +kernel
theorem dX5_tryWithout_4 : decode cX5_tryWithout 4 = .ok (.iconst 0, 1) := by decide +kernel
theorem dX5_tryWithout_5 : decode cX5_tryWithout 5 = .ok (.istore_n 3, 1) := by decide +kernel
theorem dX5_tryWithout_6 : decode cX5_tryWithout 6 = .ok (.iload_n 3, 1) := by decide +kernel
theorem dX5_tryWithout_7 : decode cX5_tryWithout 7 = .ok (.aload_n 0, 1) := by decide +kernel
theorem dX5_tryWithout_8 : decode cX5_tryWithout 8 = .ok (.getfield 10, 3) := by decide +kernel
theorem dX5_tryWithout_11 : decode cX5_tryWithout 11 = .ok (.getfield 101, 3) := by decide +kernel
theorem dX5_tryWithout_14 : decode cX5_tryWithout 14 = .ok (.getfield 105, 3) := by decide +kernel
theorem dX5_tryWithout_17 : decode cX5_tryWithout 17 = .ok (.if_icmp .ge 31, 3) := by decide +kernel
theorem dX5_tryWithout_20 : decode cX5_tryWithout 20 = .ok (.iload_n 1, 1) := by decide +kernel
theorem dX5_tryWithout_21 : decode cX5_tryWithout 21 = .ok (.iload_n 3, 1) := by decide +kernel
theorem dX5_tryWithout_22 : decode cX5_tryWithout 22 = .ok (.ishr, 1) := by decide +kernel
theorem dX5_tryWithout_23 : decode cX5_tryWithout 23 = .ok (.iconst 1, 1) := by decide +kernel
theorem dX5_tryWithout_24 : decode cX5_tryWithout 24 = .ok (.iand, 1) := by decide +kernel
theorem dX5_tryWithout_25 : decode cX5_tryWithout 25 = .ok (.iconst 1, 1) := by decide +kernel
theorem dX5_tryWithout_26 : decode cX5_tryWithout 26 = .ok (.if_icmp .ne 16, 3) := by decide +kernel
theorem dX5_tryWithout_29 : decode cX5_tryWithout 29 = .ok (.aload_n 0, 1) := by decide +kernel
theorem dX5_tryWithout_30 : decode cX5_tryWithout 30 = .ok (.getfield 16, 3) := by decide +kernel
theorem dX5_tryWithout_33 : decode cX5_tryWithout 33 = .ok (.getfield 101, 3) := by decide +kernel
theorem dX5_tryWithout_36 : decode cX5_tryWithout 36 = .ok (.getfield 136, 3) := by decide +kernel
theorem dX5_tryWithout_39 : decode cX5_tryWithout 39 = .ok (.iload_n 3, 1) := by decide +kernel
theorem dX5_tryWithout_40 : decode cX5_tryWithout 40 = .ok (.iconst (-1), 1) := by decide +kernel
theorem dX5_tryWithout_41 : decode cX5_tryWithout 41 = .ok (.iastore, 1) := by decide +kernel
theorem dX5_tryWithout_42 : decode cX5_tryWithout 42 = .ok (.iinc 3 1, 3) := by decide +kernel
theorem dX5_tryWithout_45 : decode cX5_tryWithout 45 = .ok (.goto (-39), 3) := by decide +kernel
theorem dX5_tryWithout_48 : decode cX5_tryWithout 48 = .ok (.aload_n 0, 1) := by decide +kernel
theorem dX5_tryWithout_49 : decode cX5_tryWithout 49 = .ok (.getfield 16, 3) := by decide +kernel
theorem dX5_tryWithout_52 : decode cX5_tryWithout 52 = .ok (.iload_n 2, 1) := by decide +kernel
theorem dX5_tryWithout_53 : decode cX5_tryWithout 53 = .ok (.invokevirtual 161, 3) := by decide +kernel
theorem dX5_tryWithout_56 : decode cX5_tryWithout 56 = .ok (.return_, 1) := by decide +kernel
theorem dX5_see_0 : decode cX5_see 0 = .ok (.iload_n 1, 1) := by decide +kernel
theorem dX5_see_1 : decode cX5_see 1 = .ok (.iconst 0, 1) := by decide +kernel
theorem dX5_see_2 : decode cX5_see 2 = .ok (.bipush 30, 2) := by decide +kernel
theorem dX5_see_4 : decode cX5_see 4 = .ok (.invokestatic 53, 3) := by decide +kernel
theorem dX5_see_7 : decode cX5_see 7 = .ok (.ifCond .eq 10, 3) := by decide +kernel
theorem dX5_see_10 : decode cX5_see 10 = .ok (.iload_n 2, 1) := by decide +kernel
theorem dX5_see_11 : decode cX5_see 11 = .ok (.invokestatic 208, 3) := by decide +kernel
theorem dX5_see_14 : decode cX5_see 14 = .ok (.ifCond .ne 5, 3) := by decide +kernel
theorem dX5_see_17 : decode cX5_see 17 = .ok (.iconst (-1), 1) := by decide +kernel
theorem dX5_see_18 : decode cX5_see 18 = .ok (.ireturn, 1) := by decide +kernel
theorem dX5_see_19 : decode cX5_see 19 = .ok (.aload_n 0, 1) := by decide +kernel
theorem dX5_see_20 : decode cX5_see 20 = .ok (.getfield 10, 3) := by decide +kernel
theorem dX5_see_23 : decode cX5_see 23 = .ok (.getfield 230, 3) := by decide +kernel
theorem dX5_see_26 : decode cX5_see 26 = .ok (.iload_n 1, 1) := by decide +kernel
theorem dX5_see_27 : decode cX5_see 27 = .ok (.iload_n 2, 1) := by decide +kernel
theorem dX5_see_28 : decode cX5_see 28 = .ok (.invokevirtual 233, 3) := by decide +kernel
theorem dX5_see_31 : decode cX5_see 31 = .ok (.ireturn, 1) := by decide +kernel
theorem dX5_forget_0 : decode cX5_forget 0 = .ok (.aload_n 0, 1) := by decide +kernel
theorem dX5_forget_1 : decode cX5_forget 1 = .ok (.getfield 10, 3) := by decide +kernel
theorem dX5_forget_4 : decode cX5_forget 4 = .ok (.getfield 230, 3) := by decide +kernel
theorem dX5_forget_7 : decode cX5_forget 7 = .ok (.iload_n 1, 1) := by decide +kernel
theorem dX5_forget_8 : decode cX5_forget 8 = .ok (.invokevirtual 160, 3) := by decide +kernel
theorem dX5_forget_11 : decode cX5_forget 11 = .ok (.ireturn, 1) := by decide +kernel
theorem dX5_kinds_0 : decode cX5_kinds 0 = .ok (.aload_n 0, 1) := by decide +kernel
theorem dX5_kinds_1 : decode cX5_kinds 1 = .ok (.getfield 10, 3) := by decide +kernel
theorem dX5_kinds_4 : decode cX5_kinds 4 = .ok (.iload_n 1, 1) := by decide +kernel
theorem dX5_kinds_5 : decode cX5_kinds 5 = .ok (.invokevirtual 110, 3) := by decide +kernel
theorem dX5_kinds_8 : decode cX5_kinds 8 = .ok (.ifCond .eq 12, 3) := by decide +kernel
theorem dX5_kinds_11 : decode cX5_kinds 11 = .ok (.aload_n 0, 1) := by decide +kernel
theorem dX5_kinds_12 : decode cX5_kinds 12 = .ok (.iload_n 1, 1) := by decide +kernel
theorem dX5_kinds_13 : decode cX5_kinds 13 = .ok (.iconst 0, 1) := by decide +kernel
theorem dX5_kinds_14 : decode cX5_kinds 14 = .ok (.invokevirtual 236, 3) := by decide +kernel
theorem dX5_kinds_17 : decode cX5_kinds 17 = .ok (.goto 4, 3) := by decide +kernel
theorem dX5_kinds_20 : decode cX5_kinds 20 = .ok (.iconst (-1), 1) := by decide +kernel
theorem dX5_kinds_21 : decode cX5_kinds 21 = .ok (.ireturn, 1) := by decide +kernel
theorem dX5_weights_0 : decode cX5_weights 0 = .ok (.aload_n 0, 1) := by decide +kernel
theorem dX5_weights_1 : decode cX5_weights 1 = .ok (.getfield 10, 3) := by decide +kernel
theorem dX5_weights_4 : decode cX5_weights 4 = .ok (.iload_n 1, 1) := by decide +kernel
theorem dX5_weights_5 : decode cX5_weights 5 = .ok (.invokevirtual 110, 3) := by decide +kernel
theorem dX5_weights_8 : decode cX5_weights 8 = .ok (.ifCond .eq 12, 3) := by decide +kernel
theorem dX5_weights_11 : decode cX5_weights 11 = .ok (.aload_n 0, 1) := by decide +kernel
theorem dX5_weights_12 : decode cX5_weights 12 = .ok (.iload_n 1, 1) := by decide +kernel
theorem dX5_weights_13 : decode cX5_weights 13 = .ok (.iconst 1, 1) := by decide +kernel
theorem dX5_weights_14 : decode cX5_weights 14 = .ok (.invokevirtual 236, 3) := by decide +kernel
theorem dX5_weights_17 : decode cX5_weights 17 = .ok (.goto 4, 3) := by decide +kernel
theorem dX5_weights_20 : decode cX5_weights 20 = .ok (.iconst (-1), 1) := by decide +kernel
theorem dX5_weights_21 : decode cX5_weights 21 = .ok (.ireturn, 1) := by decide +kernel
theorem dX5_saids_0 : decode cX5_saids 0 = .ok (.iload_n 1, 1) := by decide +kernel
theorem dX5_saids_1 : decode cX5_saids 1 = .ok (.iconst 0, 1) := by decide +kernel
theorem dX5_saids_2 : decode cX5_saids 2 = .ok (.iconst 1, 1) := by decide +kernel
theorem dX5_saids_3 : decode cX5_saids 3 = .ok (.invokestatic 53, 3) := by decide +kernel
theorem dX5_saids_6 : decode cX5_saids 6 = .ok (.ifCond .ne 5, 3) := by decide +kernel
theorem dX5_saids_9 : decode cX5_saids 9 = .ok (.iconst (-1), 1) := by decide +kernel
theorem dX5_saids_10 : decode cX5_saids 10 = .ok (.ireturn, 1) := by decide +kernel
theorem dX5_saids_11 : decode cX5_saids 11 = .ok (.iconst 0, 1) := by decide +kernel
theorem dX5_saids_12 : decode cX5_saids 12 = .ok (.istore_n 2, 1) := by decide +kernel
theorem dX5_saids_13 : decode cX5_saids 13 = .ok (.bipush (-4), 2) := by decide +kernel
theorem dX5_saids_15 : decode cX5_saids 15 = .ok (.istore_n 3, 1) := by decide +kernel
theorem dX5_saids_16 : decode cX5_saids 16 = .ok (.iconst 0, 1) := by decide +kernel
theorem dX5_saids_17 : decode cX5_saids 17 = .ok (.istore 4, 2) := by decide +kernel
theorem dX5_saids_19 : decode cX5_saids 19 = .ok (.iload 4, 2) := by decide +kernel
theorem dX5_saids_21 : decode cX5_saids 21 = .ok (.iconst 1, 1) := by decide +kernel
theorem dX5_saids_22 : decode cX5_saids 22 = .ok (.aload_n 0, 1) := by decide +kernel
theorem dX5_saids_23 : decode cX5_saids 23 = .ok (.getfield 10, 3) := by decide +kernel
theorem dX5_saids_26 : decode cX5_saids 26 = .ok (.getfield 79, 3) := by decide +kernel
theorem dX5_saids_29 : decode cX5_saids 29 = .ok (.ishl, 1) := by decide +kernel
theorem dX5_saids_30 : decode cX5_saids 30 = .ok (.if_icmp .ge 46, 3) := by decide +kernel
theorem dX5_saids_33 : decode cX5_saids 33 = .ok (.aload_n 0, 1) := by decide +kernel
theorem dX5_saids_34 : decode cX5_saids 34 = .ok (.invokevirtual 168, 3) := by decide +kernel
theorem dX5_saids_37 : decode cX5_saids 37 = .ok (.aload_n 0, 1) := by decide +kernel
theorem dX5_saids_38 : decode cX5_saids 38 = .ok (.getfield 16, 3) := by decide +kernel
theorem dX5_saids_41 : decode cX5_saids 41 = .ok (.iload 4, 2) := by decide +kernel
theorem dX5_saids_43 : decode cX5_saids 43 = .ok (.putfield 95, 3) := by decide +kernel
theorem dX5_saids_46 : decode cX5_saids 46 = .ok (.aload_n 0, 1) := by decide +kernel
theorem dX5_saids_47 : decode cX5_saids 47 = .ok (.getfield 16, 3) := by decide +kernel
theorem dX5_saids_50 : decode cX5_saids 50 = .ok (.invokevirtual 239, 3) := by decide +kernel
theorem dX5_saids_53 : decode cX5_saids 53 = .ok (.ifCond .eq 17, 3) := by decide +kernel
theorem dX5_saids_56 : decode cX5_saids 56 = .ok (.iload_n 2, 1) := by decide +kernel
theorem dX5_saids_57 : decode cX5_saids 57 = .ok (.ifCond .ne 8, 3) := by decide +kernel
theorem dX5_saids_60 : decode cX5_saids 60 = .ok (.iload 4, 2) := by decide +kernel
theorem dX5_saids_62 : decode cX5_saids 62 = .ok (.goto 4, 3) := by decide +kernel
theorem dX5_saids_65 : decode cX5_saids 65 = .ok (.iload_n 3, 1) := by decide +kernel
theorem dX5_saids_66 : decode cX5_saids 66 = .ok (.istore_n 3, 1) := by decide +kernel
theorem dX5_saids_67 : decode cX5_saids 67 = .ok (.iinc 2 1, 3) := by decide +kernel
theorem dX5_saids_70 : decode cX5_saids 70 = .ok (.iinc 4 1, 3) := by decide +kernel
theorem dX5_saids_73 : decode cX5_saids 73 = .ok (.goto (-54), 3) := by decide +kernel
theorem dX5_saids_76 : decode cX5_saids 76 = .ok (.iload_n 1, 1) := by decide +kernel
theorem dX5_saids_77 : decode cX5_saids 77 = .ok (.ifCond .ne 7, 3) := by decide +kernel
theorem dX5_saids_80 : decode cX5_saids 80 = .ok (.iload_n 2, 1) := by decide +kernel
theorem dX5_saids_81 : decode cX5_saids 81 = .ok (.goto 4, 3) := by decide +kernel
theorem dX5_saids_84 : decode cX5_saids 84 = .ok (.iload_n 3, 1) := by decide +kernel
theorem dX5_saids_85 : decode cX5_saids 85 = .ok (.ireturn, 1) := by decide +kernel
theorem dX5_ask_0 : decode cX5_ask 0 = .ok (.aload_n 0, 1) := by decide +kernel
theorem dX5_ask_1 : decode cX5_ask 1 = .ok (.getfield 10, 3) := by decide +kernel
theorem dX5_ask_4 : decode cX5_ask 4 = .ok (.iload_n 1, 1) := by decide +kernel
theorem dX5_ask_5 : decode cX5_ask 5 = .ok (.invokevirtual 110, 3) := by decide +kernel
theorem dX5_ask_8 : decode cX5_ask 8 = .ok (.ifCond .eq 12, 3) := by decide +kernel
theorem dX5_ask_11 : decode cX5_ask 11 = .ok (.iload_n 2, 1) := by decide +kernel
theorem dX5_ask_12 : decode cX5_ask 12 = .ok (.iconst 0, 1) := by decide +kernel
theorem dX5_ask_13 : decode cX5_ask 13 = .ok (.iconst 1, 1) := by decide +kernel
theorem dX5_ask_14 : decode cX5_ask 14 = .ok (.invokestatic 53, 3) := by decide +kernel
theorem dX5_ask_17 : decode cX5_ask 17 = .ok (.ifCond .ne 5, 3) := by decide +kernel
theorem dX5_ask_20 : decode cX5_ask 20 = .ok (.iconst (-1), 1) := by decide +kernel
theorem dX5_ask_21 : decode cX5_ask 21 = .ok (.ireturn, 1) := by decide +kernel
theorem dX5_ask_22 : decode cX5_ask 22 = .ok (.aload_n 0, 1) := by decide +kernel
theorem dX5_ask_23 : decode cX5_ask 23 = .ok (.iload_n 1, 1) := by decide +kernel
theorem dX5_ask_24 : decode cX5_ask 24 = .ok (.iconst 1, 1) := by decide +kernel
theorem dX5_ask_25 : decode cX5_ask 25 = .ok (.invokevirtual 236, 3) := by decide +kernel
theorem dX5_ask_28 : decode cX5_ask 28 = .ok (.istore_n 3, 1) := by decide +kernel
theorem dX5_ask_29 : decode cX5_ask 29 = .ok (.aload_n 0, 1) := by decide +kernel
theorem dX5_ask_30 : decode cX5_ask 30 = .ok (.iload_n 1, 1) := by decide +kernel
theorem dX5_ask_31 : decode cX5_ask 31 = .ok (.invokevirtual 243, 3) := by decide +kernel
theorem dX5_ask_34 : decode cX5_ask 34 = .ok (.aload_n 0, 1) := by decide +kernel
theorem dX5_ask_35 : decode cX5_ask 35 = .ok (.getfield 43, 3) := by decide +kernel
theorem dX5_ask_38 : decode cX5_ask 38 = .ok (.iload_n 3, 1) := by decide +kernel
theorem dX5_ask_39 : decode cX5_ask 39 = .ok (.invokestatic 246, 3) := by decide +kernel
theorem dX5_ask_42 : decode cX5_ask 42 = .ok (.invokevirtual 190, 3) := by decide +kernel
theorem dX5_ask_45 : decode cX5_ask 45 = .ok (.iconst 0, 1) := by decide +kernel
theorem dX5_ask_46 : decode cX5_ask 46 = .ok (.istore 4, 2) := by decide +kernel
theorem dX5_ask_48 : decode cX5_ask 48 = .ok (.iload 4, 2) := by decide +kernel
theorem dX5_ask_50 : decode cX5_ask 50 = .ok (.bipush 30, 2) := by decide +kernel
theorem dX5_ask_52 : decode cX5_ask 52 = .ok (.if_icmp .gt 25, 3) := by decide +kernel
theorem dX5_ask_55 : decode cX5_ask 55 = .ok (.aload_n 0, 1) := by decide +kernel
theorem dX5_ask_56 : decode cX5_ask 56 = .ok (.getfield 43, 3) := by decide +kernel
theorem dX5_ask_59 : decode cX5_ask 59 = .ok (.iload 4, 2) := by decide +kernel
theorem dX5_ask_61 : decode cX5_ask 61 = .ok (.aload_n 0, 1) := by decide +kernel
theorem dX5_ask_62 : decode cX5_ask 62 = .ok (.iload_n 3, 1) := by decide +kernel
theorem dX5_ask_63 : decode cX5_ask 63 = .ok (.iload 4, 2) := by decide +kernel
theorem dX5_ask_65 : decode cX5_ask 65 = .ok (.invokevirtual 251, 3) := by decide +kernel
theorem dX5_ask_68 : decode cX5_ask 68 = .ok (.invokevirtual 193, 3) := by decide +kernel
theorem dX5_ask_71 : decode cX5_ask 71 = .ok (.iinc 4 1, 3) := by decide +kernel
theorem dX5_ask_74 : decode cX5_ask 74 = .ok (.goto (-26), 3) := by decide +kernel
theorem dX5_ask_77 : decode cX5_ask 77 = .ok (.aload_n 0, 1) := by decide +kernel
theorem dX5_ask_78 : decode cX5_ask 78 = .ok (.getfield 43, 3) := by decide +kernel
theorem dX5_ask_81 : decode cX5_ask 81 = .ok (.iload_n 2, 1) := by decide +kernel
theorem dX5_ask_82 : decode cX5_ask 82 = .ok (.invokevirtual 197, 3) := by decide +kernel
theorem dX5_ask_85 : decode cX5_ask 85 = .ok (.ireturn, 1) := by decide +kernel
theorem dX5_valuesAsSeen_0 : decode cX5_valuesAsSeen 0 = .ok (.iconst 0, 1) := by decide +kernel
theorem dX5_valuesAsSeen_1 : decode cX5_valuesAsSeen 1 = .ok (.istore_n 3, 1) := by decide +kernel
theorem dX5_valuesAsSeen_2 : decode cX5_valuesAsSeen 2 = .ok (.iload_n 2, 1) := by decide +kernel
theorem dX5_valuesAsSeen_3 : decode cX5_valuesAsSeen 3 = .ok (.invokestatic 142, 3) := by decide +kernel
theorem dX5_valuesAsSeen_6 : decode cX5_valuesAsSeen 6 = .ok (.istore 4, 2) := by decide +kernel
theorem dX5_valuesAsSeen_8 : decode cX5_valuesAsSeen 8 = .ok (.iload 4, 2) := by decide +kernel
theorem dX5_valuesAsSeen_10 : decode cX5_valuesAsSeen 10 = .ok (.iload_n 2, 1) := by decide +kernel
theorem dX5_valuesAsSeen_11 : decode cX5_valuesAsSeen 11 = .ok (.invokestatic 145, 3) := by decide +kernel
theorem dX5_valuesAsSeen_14 : decode cX5_valuesAsSeen 14 = .ok (.if_icmp .gt 42, 3) := by decide +kernel
theorem dX5_valuesAsSeen_17 : decode cX5_valuesAsSeen 17 = .ok (.aload_n 0, 1) := by decide +kernel
theorem dX5_valuesAsSeen_18 : decode cX5_valuesAsSeen 18 = .ok (.invokevirtual 168, 3) := by decide +kernel
theorem dX5_valuesAsSeen_21 : decode cX5_valuesAsSeen 21 = .ok (.aload_n 0, 1) := by decide +kernel
theorem dX5_valuesAsSeen_22 : decode cX5_valuesAsSeen 22 = .ok (.getfield 16, 3) := by decide +kernel
theorem dX5_valuesAsSeen_25 : decode cX5_valuesAsSeen 25 = .ok (.iload_n 2, 1) := by decide +kernel
theorem dX5_valuesAsSeen_26 : decode cX5_valuesAsSeen 26 = .ok (.invokevirtual 148, 3) := by decide +kernel
theorem dX5_valuesAsSeen_29 : decode cX5_valuesAsSeen 29 = .ok (.iload_n 1, 1) := by decide +kernel
theorem dX5_valuesAsSeen_30 : decode cX5_valuesAsSeen 30 = .ok (.iload 4, 2) := by decide +kernel
theorem dX5_valuesAsSeen_32 : decode cX5_valuesAsSeen 32 = .ok (.iastore, 1) := by decide +kernel
theorem dX5_valuesAsSeen_33 : decode cX5_valuesAsSeen 33 = .ok (.aload_n 0, 1) := by decide +kernel
theorem dX5_valuesAsSeen_34 : decode cX5_valuesAsSeen 34 = .ok (.getfield 16, 3) := by decide +kernel
theorem dX5_valuesAsSeen_37 : decode cX5_valuesAsSeen 37 = .ok (.invokevirtual 239, 3) := by decide +kernel
theorem dX5_valuesAsSeen_40 : decode cX5_valuesAsSeen 40 = .ok (.ifCond .eq 10, 3) := by decide +kernel
theorem dX5_valuesAsSeen_43 : decode cX5_valuesAsSeen 43 = .ok (.iload_n 3, 1) := by decide +kernel
theorem dX5_valuesAsSeen_44 : decode cX5_valuesAsSeen 44 = .ok (.iconst 1, 1) := by decide +kernel
theorem dX5_valuesAsSeen_45 : decode cX5_valuesAsSeen 45 = .ok (.iload 4, 2) := by decide +kernel
theorem dX5_valuesAsSeen_47 : decode cX5_valuesAsSeen 47 = .ok (.ishl, 1) := by decide +kernel
theorem dX5_valuesAsSeen_48 : decode cX5_valuesAsSeen 48 = .ok (.ior, 1) := by decide +kernel
theorem dX5_valuesAsSeen_49 : decode cX5_valuesAsSeen 49 = .ok (.istore_n 3, 1) := by decide +kernel
theorem dX5_valuesAsSeen_50 : decode cX5_valuesAsSeen 50 = .ok (.iinc 4 1, 3) := by decide +kernel
theorem dX5_valuesAsSeen_53 : decode cX5_valuesAsSeen 53 = .ok (.goto (-45), 3) := by decide +kernel
theorem dX5_valuesAsSeen_56 : decode cX5_valuesAsSeen 56 = .ok (.iload_n 3, 1) := by decide +kernel
theorem dX5_valuesAsSeen_57 : decode cX5_valuesAsSeen 57 = .ok (.ireturn, 1) := by decide +kernel
theorem dX5_foreseeHeightsByWeight_0 : decode cX5_foreseeHeightsByWeight 0 = .ok (.iconst 1, 1) := by decide +kernel
theorem dX5_foreseeHeightsByWeight_1 : decode cX5_foreseeHeightsByWeight 1 = .ok (.istore_n 2, 1) := by decide +kernel
theorem dX5_foreseeHeightsByWeight_2 : decode cX5_foreseeHeightsByWeight 2 = .ok (.iload_n 2, 1) := by decide +kernel
theorem dX5_foreseeHeightsByWeight_3 : decode cX5_foreseeHeightsByWeight 3 = .ok (.bipush 9, 2) := by decide +kernel
theorem dX5_foreseeHeightsByWeight_5 : decode cX5_foreseeHeightsByWeight 5 = .ok (.if_icmp .gt 59, 3) := by decide +kernel
theorem dX5_foreseeHeightsByWeight_8 : decode cX5_foreseeHeightsByWeight 8 = .ok (.aload_n 0, 1) := by decide +kernel
theorem dX5_foreseeHeightsByWeight_9 : decode cX5_foreseeHeightsByWeight 9 = .ok (.invokevirtual 168, 3) := by decide +kernel
theorem dX5_foreseeHeightsByWeight_12 : decode cX5_foreseeHeightsByWeight 12 = .ok (.aload_n 0, 1) := by decide +kernel
theorem dX5_foreseeHeightsByWeight_13 : decode cX5_foreseeHeightsByWeight 13 = .ok (.getfield 16, 3) := by decide +kernel
theorem dX5_foreseeHeightsByWeight_16 : decode cX5_foreseeHeightsByWeight 16 = .ok (.getfield 118, 3) := by decide +kernel
theorem dX5_foreseeHeightsByWeight_19 : decode cX5_foreseeHeightsByWeight 19 = .ok (.iload_n 1, 1) := by decide +kernel
theorem dX5_foreseeHeightsByWeight_20 : decode cX5_foreseeHeightsByWeight 20 = .ok (.iload_n 2, 1) := by decide +kernel
theorem dX5_foreseeHeightsByWeight_21 : decode cX5_foreseeHeightsByWeight 21 = .ok (.iastore, 1) := by decide +kernel
theorem dX5_foreseeHeightsByWeight_22 : decode cX5_foreseeHeightsByWeight 22 = .ok (.iconst 0, 1) := by decide +kernel
theorem dX5_foreseeHeightsByWeight_23 : decode cX5_foreseeHeightsByWeight 23 = .ok (.istore_n 3, 1) := by decide +kernel
theorem dX5_foreseeHeightsByWeight_24 : decode cX5_foreseeHeightsByWeight 24 = .ok (.iload_n 3, 1) := by decide +kernel
theorem dX5_foreseeHeightsByWeight_25 : decode cX5_foreseeHeightsByWeight 25 = .ok (.bipush 30, 2) := by decide +kernel
theorem dX5_foreseeHeightsByWeight_27 : decode cX5_foreseeHeightsByWeight 27 = .ok (.if_icmp .gt 31, 3) := by decide +kernel
theorem dX5_foreseeHeightsByWeight_30 : decode cX5_foreseeHeightsByWeight 30 = .ok (.aload_n 0, 1) := by decide +kernel
theorem dX5_foreseeHeightsByWeight_31 : decode cX5_foreseeHeightsByWeight 31 = .ok (.getfield 49, 3) := by decide +kernel
theorem dX5_foreseeHeightsByWeight_34 : decode cX5_foreseeHeightsByWeight 34 = .ok (.iload_n 2, 1) := by decide +kernel
theorem dX5_foreseeHeightsByWeight_35 : decode cX5_foreseeHeightsByWeight 35 = .ok (.aaload, 1) := by decide +kernel
theorem dX5_foreseeHeightsByWeight_36 : decode cX5_foreseeHeightsByWeight 36 = .ok (.iload_n 3, 1) := by decide +kernel
theorem dX5_foreseeHeightsByWeight_37 : decode cX5_foreseeHeightsByWeight 37 = .ok (.aload_n 0, 1) := by decide +kernel
theorem dX5_foreseeHeightsByWeight_38 : decode cX5_foreseeHeightsByWeight 38 = .ok (.getfield 16, 3) := by decide +kernel
theorem dX5_foreseeHeightsByWeight_41 : decode cX5_foreseeHeightsByWeight 41 = .ok (.getfield 85, 3) := by decide +kernel
theorem dX5_foreseeHeightsByWeight_44 : decode cX5_foreseeHeightsByWeight 44 = .ok (.iastore, 1) := by decide +kernel
theorem dX5_foreseeHeightsByWeight_45 : decode cX5_foreseeHeightsByWeight 45 = .ok (.aload_n 0, 1) := by decide +kernel
theorem dX5_foreseeHeightsByWeight_46 : decode cX5_foreseeHeightsByWeight 46 = .ok (.getfield 16, 3) := by decide +kernel
theorem dX5_foreseeHeightsByWeight_49 : decode cX5_foreseeHeightsByWeight 49 = .ok (.invokevirtual 254, 3) := by decide +kernel
theorem dX5_foreseeHeightsByWeight_52 : decode cX5_foreseeHeightsByWeight 52 = .ok (.iinc 3 1, 3) := by decide +kernel
theorem dX5_foreseeHeightsByWeight_55 : decode cX5_foreseeHeightsByWeight 55 = .ok (.goto (-31), 3) := by decide +kernel
theorem dX5_foreseeHeightsByWeight_58 : decode cX5_foreseeHeightsByWeight 58 = .ok (.iinc 2 1, 3) := by decide +kernel
theorem dX5_foreseeHeightsByWeight_61 : decode cX5_foreseeHeightsByWeight 61 = .ok (.goto (-59), 3) := by decide +kernel
theorem dX5_foreseeHeightsByWeight_64 : decode cX5_foreseeHeightsByWeight 64 = .ok (.return_, 1) := by decide +kernel
theorem dX5_mostLeftByLooking_0 : decode cX5_mostLeftByLooking 0 = .ok (.iconst 0, 1) := by decide +kernel
theorem dX5_mostLeftByLooking_1 : decode cX5_mostLeftByLooking 1 = .ok (.istore_n 3, 1) := by decide +kernel
theorem dX5_mostLeftByLooking_2 : decode cX5_mostLeftByLooking 2 = .ok (.iconst 1, 1) := by decide +kernel
theorem dX5_mostLeftByLooking_3 : decode cX5_mostLeftByLooking 3 = .ok (.istore 4, 2) := by decide +kernel
theorem dX5_mostLeftByLooking_5 : decode cX5_mostLeftByLooking 5 = .ok (.iload 4, 2) := by decide +kernel
theorem dX5_mostLeftByLooking_7 : decode cX5_mostLeftByLooking 7 = .ok (.bipush 9, 2) := by decide +kernel
theorem dX5_mostLeftByLooking_9 : decode cX5_mostLeftByLooking 9 = .ok (.if_icmp .gt 32, 3) := by decide +kernel
theorem dX5_mostLeftByLooking_12 : decode cX5_mostLeftByLooking 12 = .ok (.iload_n 1, 1) := by decide +kernel
theorem dX5_mostLeftByLooking_13 : decode cX5_mostLeftByLooking 13 = .ok (.iload 4, 2) := by decide +kernel
theorem dX5_mostLeftByLooking_15 : decode cX5_mostLeftByLooking 15 = .ok (.ishr, 1) := by decide +kernel
theorem dX5_mostLeftByLooking_16 : decode cX5_mostLeftByLooking 16 = .ok (.iconst 1, 1) := by decide +kernel
theorem dX5_mostLeftByLooking_17 : decode cX5_mostLeftByLooking 17 = .ok (.iand, 1) := by decide +kernel
theorem dX5_mostLeftByLooking_18 : decode cX5_mostLeftByLooking 18 = .ok (.iconst 1, 1) := by decide +kernel
theorem dX5_mostLeftByLooking_19 : decode cX5_mostLeftByLooking 19 = .ok (.if_icmp .ne 16, 3) := by decide +kernel
theorem dX5_mostLeftByLooking_22 : decode cX5_mostLeftByLooking 22 = .ok (.iload_n 3, 1) := by decide +kernel
theorem dX5_mostLeftByLooking_23 : decode cX5_mostLeftByLooking 23 = .ok (.aload_n 0, 1) := by decide +kernel
theorem dX5_mostLeftByLooking_24 : decode cX5_mostLeftByLooking 24 = .ok (.iload 4, 2) := by decide +kernel
theorem dX5_mostLeftByLooking_26 : decode cX5_mostLeftByLooking 26 = .ok (.iload_n 1, 1) := by decide +kernel
theorem dX5_mostLeftByLooking_27 : decode cX5_mostLeftByLooking 27 = .ok (.iload_n 2, 1) := by decide +kernel
theorem dX5_mostLeftByLooking_28 : decode cX5_mostLeftByLooking 28 = .ok (.invokevirtual 257, 3) := by decide +kernel
theorem dX5_mostLeftByLooking_31 : decode cX5_mostLeftByLooking 31 = .ok (.invokestatic 261, 3) := by decide +kernel
theorem dX5_mostLeftByLooking_34 : decode cX5_mostLeftByLooking 34 = .ok (.istore_n 3, 1) := by decide +kernel
theorem dX5_mostLeftByLooking_35 : decode cX5_mostLeftByLooking 35 = .ok (.iinc 4 1, 3) := by decide +kernel
theorem dX5_mostLeftByLooking_38 : decode cX5_mostLeftByLooking 38 = .ok (.goto (-33), 3) := by decide +kernel
theorem dX5_mostLeftByLooking_41 : decode cX5_mostLeftByLooking 41 = .ok (.iload_n 3, 1) := by decide +kernel
theorem dX5_mostLeftByLooking_42 : decode cX5_mostLeftByLooking 42 = .ok (.ireturn, 1) := by decide +kernel
theorem dX5_alikeBehind_0 : decode cX5_alikeBehind 0 = .ok (.iconst 0, 1) := by decide +kernel
theorem dX5_alikeBehind_1 : decode cX5_alikeBehind 1 = .ok (.istore 4, 2) := by decide +kernel
theorem dX5_alikeBehind_3 : decode cX5_alikeBehind 3 = .ok (.iconst 1, 1) := by decide +kernel
theorem dX5_alikeBehind_4 : decode cX5_alikeBehind 4 = .ok (.istore 5, 2) := by decide +kernel
theorem dX5_alikeBehind_6 : decode cX5_alikeBehind 6 = .ok (.iload 5, 2) := by decide +kernel
theorem dX5_alikeBehind_8 : decode cX5_alikeBehind 8 = .ok (.bipush 9, 2) := by decide +kernel
theorem dX5_alikeBehind_10 : decode cX5_alikeBehind 10 = .ok (.if_icmp .gt 42, 3) := by decide +kernel
theorem dX5_alikeBehind_13 : decode cX5_alikeBehind 13 = .ok (.iload_n 2, 1) := by decide +kernel
theorem dX5_alikeBehind_14 : decode cX5_alikeBehind 14 = .ok (.iload 5, 2) := by decide +kernel
theorem dX5_alikeBehind_16 : decode cX5_alikeBehind 16 = .ok (.ishr, 1) := by decide +kernel
theorem dX5_alikeBehind_17 : decode cX5_alikeBehind 17 = .ok (.iconst 1, 1) := by decide +kernel
theorem dX5_alikeBehind_18 : decode cX5_alikeBehind 18 = .ok (.iand, 1) := by decide +kernel
theorem dX5_alikeBehind_19 : decode cX5_alikeBehind 19 = .ok (.iconst 1, 1) := by decide +kernel
theorem dX5_alikeBehind_20 : decode cX5_alikeBehind 20 = .ok (.if_icmp .ne 26, 3) := by decide +kernel
theorem dX5_alikeBehind_23 : decode cX5_alikeBehind 23 = .ok (.aload_n 0, 1) := by decide +kernel
theorem dX5_alikeBehind_24 : decode cX5_alikeBehind 24 = .ok (.getfield 49, 3) := by decide +kernel
theorem dX5_alikeBehind_27 : decode cX5_alikeBehind 27 = .ok (.iload 5, 2) := by decide +kernel
theorem dX5_alikeBehind_29 : decode cX5_alikeBehind 29 = .ok (.aaload, 1) := by decide +kernel
theorem dX5_alikeBehind_30 : decode cX5_alikeBehind 30 = .ok (.iload_n 3, 1) := by decide +kernel
theorem dX5_alikeBehind_31 : decode cX5_alikeBehind 31 = .ok (.iaload, 1) := by decide +kernel
theorem dX5_alikeBehind_32 : decode cX5_alikeBehind 32 = .ok (.aload_n 0, 1) := by decide +kernel
theorem dX5_alikeBehind_33 : decode cX5_alikeBehind 33 = .ok (.getfield 49, 3) := by decide +kernel
theorem dX5_alikeBehind_36 : decode cX5_alikeBehind 36 = .ok (.iload_n 1, 1) := by decide +kernel
theorem dX5_alikeBehind_37 : decode cX5_alikeBehind 37 = .ok (.aaload, 1) := by decide +kernel
theorem dX5_alikeBehind_38 : decode cX5_alikeBehind 38 = .ok (.iload_n 3, 1) := by decide +kernel
theorem dX5_alikeBehind_39 : decode cX5_alikeBehind 39 = .ok (.iaload, 1) := by decide +kernel
theorem dX5_alikeBehind_40 : decode cX5_alikeBehind 40 = .ok (.if_icmp .ne 6, 3) := by decide +kernel
theorem dX5_alikeBehind_43 : decode cX5_alikeBehind 43 = .ok (.iinc 4 1, 3) := by decide +kernel
theorem dX5_alikeBehind_46 : decode cX5_alikeBehind 46 = .ok (.iinc 5 1, 3) := by decide +kernel
theorem dX5_alikeBehind_49 : decode cX5_alikeBehind 49 = .ok (.goto (-43), 3) := by decide +kernel
theorem dX5_alikeBehind_52 : decode cX5_alikeBehind 52 = .ok (.iload 4, 2) := by decide +kernel
theorem dX5_alikeBehind_54 : decode cX5_alikeBehind 54 = .ok (.ireturn, 1) := by decide +kernel
theorem dX5_drift_0 : decode cX5_drift 0 = .ok (.iload_n 2, 1) := by decide +kernel
theorem dX5_drift_1 : decode cX5_drift 1 = .ok (.iconst 1, 1) := by decide +kernel
theorem dX5_drift_2 : decode cX5_drift 2 = .ok (.bipush 60, 2) := by decide +kernel
theorem dX5_drift_4 : decode cX5_drift 4 = .ok (.invokestatic 53, 3) := by decide +kernel
theorem dX5_drift_7 : decode cX5_drift 7 = .ok (.ifCond .eq 12, 3) := by decide +kernel
theorem dX5_drift_10 : decode cX5_drift 10 = .ok (.iload_n 3, 1) := by decide +kernel
theorem dX5_drift_11 : decode cX5_drift 11 = .ok (.iconst 0, 1) := by decide +kernel
theorem dX5_drift_12 : decode cX5_drift 12 = .ok (.iconst 1, 1) := by decide +kernel
theorem dX5_drift_13 : decode cX5_drift 13 = .ok (.invokestatic 53, 3) := by decide +kernel
theorem dX5_drift_16 : decode cX5_drift 16 = .ok (.ifCond .ne 5, 3) := by decide +kernel
theorem dX5_drift_19 : decode cX5_drift 19 = .ok (.iconst (-1), 1) := by decide +kernel
theorem dX5_drift_20 : decode cX5_drift 20 = .ok (.ireturn, 1) := by decide +kernel
theorem dX5_drift_21 : decode cX5_drift 21 = .ok (.aload_n 0, 1) := by decide +kernel
theorem dX5_drift_22 : decode cX5_drift 22 = .ok (.getfield 10, 3) := by decide +kernel
theorem dX5_drift_25 : decode cX5_drift 25 = .ok (.getfield 79, 3) := by decide +kernel
theorem dX5_drift_28 : decode cX5_drift 28 = .ok (.ifCond .gt 6, 3) := by decide +kernel
theorem dX5_drift_31 : decode cX5_drift 31 = .ok (.bipush (-2), 2) := by decide +kernel
theorem dX5_drift_33 : decode cX5_drift 33 = .ok (.ireturn, 1) := by decide +kernel
theorem dX5_drift_34 : decode cX5_drift 34 = .ok (.aload_n 0, 1) := by decide +kernel
theorem dX5_drift_35 : decode cX5_drift 35 = .ok (.invokevirtual 168, 3) := by decide +kernel
theorem dX5_drift_38 : decode cX5_drift 38 = .ok (.iload_n 1, 1) := by decide +kernel
theorem dX5_drift_39 : decode cX5_drift 39 = .ok (.istore 4, 2) := by decide +kernel
theorem dX5_drift_41 : decode cX5_drift 41 = .ok (.iconst 0, 1) := by decide +kernel
theorem dX5_drift_42 : decode cX5_drift 42 = .ok (.istore 5, 2) := by decide +kernel
theorem dX5_drift_44 : decode cX5_drift 44 = .ok (.iload 5, 2) := by decide +kernel
theorem dX5_drift_46 : decode cX5_drift 46 = .ok (.iload_n 2, 1) := by decide +kernel
theorem dX5_drift_47 : decode cX5_drift 47 = .ok (.if_icmp .ge 72, 3) := by decide +kernel
theorem dX5_drift_50 : decode cX5_drift 50 = .ok (.iload 4, 2) := by decide +kernel
theorem dX5_drift_52 : decode cX5_drift 52 = .ok (.ldc_w 264, 3) := by decide +kernel
theorem dX5_drift_55 : decode cX5_drift 55 = .ok (.imul, 1) := by decide +kernel
theorem dX5_drift_56 : decode cX5_drift 56 = .ok (.sipush 12345, 3) := by decide +kernel
theorem dX5_drift_59 : decode cX5_drift 59 = .ok (.iadd, 1) := by decide +kernel
theorem dX5_drift_60 : decode cX5_drift 60 = .ok (.istore 4, 2) := by decide +kernel
theorem dX5_drift_62 : decode cX5_drift 62 = .ok (.iload 4, 2) := by decide +kernel
theorem dX5_drift_64 : decode cX5_drift 64 = .ok (.bipush 16, 2) := by decide +kernel
theorem dX5_drift_66 : decode cX5_drift 66 = .ok (.ishr, 1) := by decide +kernel
theorem dX5_drift_67 : decode cX5_drift 67 = .ok (.sipush 32767, 3) := by decide +kernel
theorem dX5_drift_70 : decode cX5_drift 70 = .ok (.iand, 1) := by decide +kernel
theorem dX5_drift_71 : decode cX5_drift 71 = .ok (.istore 6, 2) := by decide +kernel
theorem dX5_drift_73 : decode cX5_drift 73 = .ok (.aload_n 0, 1) := by decide +kernel
theorem dX5_drift_74 : decode cX5_drift 74 = .ok (.getfield 16, 3) := by decide +kernel
theorem dX5_drift_77 : decode cX5_drift 77 = .ok (.iload 6, 2) := by decide +kernel
theorem dX5_drift_79 : decode cX5_drift 79 = .ok (.aload_n 0, 1) := by decide +kernel
theorem dX5_drift_80 : decode cX5_drift 80 = .ok (.getfield 10, 3) := by decide +kernel
theorem dX5_drift_83 : decode cX5_drift 83 = .ok (.getfield 79, 3) := by decide +kernel
theorem dX5_drift_86 : decode cX5_drift 86 = .ok (.irem, 1) := by decide +kernel
theorem dX5_drift_87 : decode cX5_drift 87 = .ok (.iload 6, 2) := by decide +kernel
theorem dX5_drift_89 : decode cX5_drift 89 = .ok (.bipush 8, 2) := by decide +kernel
theorem dX5_drift_91 : decode cX5_drift 91 = .ok (.idiv, 1) := by decide +kernel
theorem dX5_drift_92 : decode cX5_drift 92 = .ok (.iconst 2, 1) := by decide +kernel
theorem dX5_drift_93 : decode cX5_drift 93 = .ok (.irem, 1) := by decide +kernel
theorem dX5_drift_94 : decode cX5_drift 94 = .ok (.iconst 1, 1) := by decide +kernel
theorem dX5_drift_95 : decode cX5_drift 95 = .ok (.if_icmp .ne 7, 3) := by decide +kernel
theorem dX5_drift_98 : decode cX5_drift 98 = .ok (.iconst 1, 1) := by decide +kernel
theorem dX5_drift_99 : decode cX5_drift 99 = .ok (.goto 4, 3) := by decide +kernel
theorem dX5_drift_102 : decode cX5_drift 102 = .ok (.iconst 0, 1) := by decide +kernel
theorem dX5_drift_103 : decode cX5_drift 103 = .ok (.invokevirtual 152, 3) := by decide +kernel
theorem dX5_drift_106 : decode cX5_drift 106 = .ok (.aload_n 0, 1) := by decide +kernel
theorem dX5_drift_107 : decode cX5_drift 107 = .ok (.getfield 16, 3) := by decide +kernel
theorem dX5_drift_110 : decode cX5_drift 110 = .ok (.invokevirtual 254, 3) := by decide +kernel
theorem dX5_drift_113 : decode cX5_drift 113 = .ok (.iinc 5 1, 3) := by decide +kernel
theorem dX5_drift_116 : decode cX5_drift 116 = .ok (.goto (-72), 3) := by decide +kernel
theorem dX5_drift_119 : decode cX5_drift 119 = .ok (.iload_n 3, 1) := by decide +kernel
theorem dX5_drift_120 : decode cX5_drift 120 = .ok (.ifCond .ne 13, 3) := by decide +kernel
theorem dX5_drift_123 : decode cX5_drift 123 = .ok (.aload_n 0, 1) := by decide +kernel
theorem dX5_drift_124 : decode cX5_drift 124 = .ok (.getfield 16, 3) := by decide +kernel
theorem dX5_drift_127 : decode cX5_drift 127 = .ok (.getfield 85, 3) := by decide +kernel
theorem dX5_drift_130 : decode cX5_drift 130 = .ok (.goto 10, 3) := by decide +kernel
theorem dX5_drift_133 : decode cX5_drift 133 = .ok (.aload_n 0, 1) := by decide +kernel
theorem dX5_drift_134 : decode cX5_drift 134 = .ok (.getfield 16, 3) := by decide +kernel
theorem dX5_drift_137 : decode cX5_drift 137 = .ok (.getfield 88, 3) := by decide +kernel
theorem dX5_drift_140 : decode cX5_drift 140 = .ok (.ireturn, 1) := by decide +kernel
theorem dX5_keep_0 : decode cX5_keep 0 = .ok (.iload_n 1, 1) := by decide +kernel
theorem dX5_keep_1 : decode cX5_keep 1 = .ok (.iconst 0, 1) := by decide +kernel
theorem dX5_keep_2 : decode cX5_keep 2 = .ok (.iconst 1, 1) := by decide +kernel
theorem dX5_keep_3 : decode cX5_keep 3 = .ok (.invokestatic 53, 3) := by decide +kernel
theorem dX5_keep_6 : decode cX5_keep 6 = .ok (.ifCond .ne 5, 3) := by decide +kernel
theorem dX5_keep_9 : decode cX5_keep 9 = .ok (.iconst (-1), 1) := by decide +kernel
theorem dX5_keep_10 : decode cX5_keep 10 = .ok (.ireturn, 1) := by decide +kernel
theorem dX5_keep_11 : decode cX5_keep 11 = .ok (.aload_n 0, 1) := by decide +kernel
theorem dX5_keep_12 : decode cX5_keep 12 = .ok (.getfield 23, 3) := by decide +kernel
theorem dX5_keep_15 : decode cX5_keep 15 = .ok (.iload_n 1, 1) := by decide +kernel
theorem dX5_keep_16 : decode cX5_keep 16 = .ok (.baload, 1) := by decide +kernel
theorem dX5_keep_17 : decode cX5_keep 17 = .ok (.ifCond .eq 7, 3) := by decide +kernel
theorem dX5_keep_20 : decode cX5_keep 20 = .ok (.iconst 1, 1) := by decide +kernel
theorem dX5_keep_21 : decode cX5_keep 21 = .ok (.goto 4, 3) := by decide +kernel
theorem dX5_keep_24 : decode cX5_keep 24 = .ok (.iconst 0, 1) := by decide +kernel
theorem dX5_keep_25 : decode cX5_keep 25 = .ok (.istore_n 2, 1) := by decide +kernel
theorem dX5_keep_26 : decode cX5_keep 26 = .ok (.aload_n 0, 1) := by decide +kernel
theorem dX5_keep_27 : decode cX5_keep 27 = .ok (.getfield 19, 3) := by decide +kernel
theorem dX5_keep_30 : decode cX5_keep 30 = .ok (.iload_n 1, 1) := by decide +kernel
theorem dX5_keep_31 : decode cX5_keep 31 = .ok (.aaload, 1) := by decide +kernel
theorem dX5_keep_32 : decode cX5_keep 32 = .ok (.aload_n 0, 1) := by decide +kernel
theorem dX5_keep_33 : decode cX5_keep 33 = .ok (.getfield 10, 3) := by decide +kernel
theorem dX5_keep_36 : decode cX5_keep 36 = .ok (.invokevirtual 68, 3) := by decide +kernel
theorem dX5_keep_39 : decode cX5_keep 39 = .ok (.aload_n 0, 1) := by decide +kernel
theorem dX5_keep_40 : decode cX5_keep 40 = .ok (.getfield 23, 3) := by decide +kernel
theorem dX5_keep_43 : decode cX5_keep 43 = .ok (.iload_n 1, 1) := by decide +kernel
theorem dX5_keep_44 : decode cX5_keep 44 = .ok (.iconst 1, 1) := by decide +kernel
theorem dX5_keep_45 : decode cX5_keep 45 = .ok (.bastore, 1) := by decide +kernel
theorem dX5_keep_46 : decode cX5_keep 46 = .ok (.iload_n 2, 1) := by decide +kernel
theorem dX5_keep_47 : decode cX5_keep 47 = .ok (.ireturn, 1) := by decide +kernel
theorem dX5_back_0 : decode cX5_back 0 = .ok (.iload_n 1, 1) := by decide +kernel
theorem dX5_back_1 : decode cX5_back 1 = .ok (.iconst 0, 1) := by decide +kernel
theorem dX5_back_2 : decode cX5_back 2 = .ok (.iconst 1, 1) := by decide +kernel
theorem dX5_back_3 : decode cX5_back 3 = .ok (.invokestatic 53, 3) := by decide +kernel
theorem dX5_back_6 : decode cX5_back 6 = .ok (.ifCond .ne 5, 3) := by decide +kernel
theorem dX5_back_9 : decode cX5_back 9 = .ok (.iconst (-1), 1) := by decide +kernel
theorem dX5_back_10 : decode cX5_back 10 = .ok (.ireturn, 1) := by decide +kernel
theorem dX5_back_11 : decode cX5_back 11 = .ok (.aload_n 0, 1) := by decide +kernel
theorem dX5_back_12 : decode cX5_back 12 = .ok (.getfield 23, 3) := by decide +kernel
theorem dX5_back_15 : decode cX5_back 15 = .ok (.iload_n 1, 1) := by decide +kernel
theorem dX5_back_16 : decode cX5_back 16 = .ok (.baload, 1) := by decide +kernel
theorem dX5_back_17 : decode cX5_back 17 = .ok (.ifCond .ne 6, 3) := by decide +kernel
theorem dX5_back_20 : decode cX5_back 20 = .ok (.bipush (-2), 2) := by decide +kernel
theorem dX5_back_22 : decode cX5_back 22 = .ok (.ireturn, 1) := by decide +kernel
theorem dX5_back_23 : decode cX5_back 23 = .ok (.aload_n 0, 1) := by decide +kernel
theorem dX5_back_24 : decode cX5_back 24 = .ok (.getfield 10, 3) := by decide +kernel
theorem dX5_back_27 : decode cX5_back 27 = .ok (.aload_n 0, 1) := by decide +kernel
theorem dX5_back_28 : decode cX5_back 28 = .ok (.getfield 19, 3) := by decide +kernel
theorem dX5_back_31 : decode cX5_back 31 = .ok (.iload_n 1, 1) := by decide +kernel
theorem dX5_back_32 : decode cX5_back 32 = .ok (.aaload, 1) := by decide +kernel
theorem dX5_back_33 : decode cX5_back 33 = .ok (.invokevirtual 68, 3) := by decide +kernel
theorem dX5_back_36 : decode cX5_back 36 = .ok (.aload_n 0, 1) := by decide +kernel
theorem dX5_back_37 : decode cX5_back 37 = .ok (.getfield 10, 3) := by decide +kernel
theorem dX5_back_40 : decode cX5_back 40 = .ok (.getfield 82, 3) := by decide +kernel
theorem dX5_back_43 : decode cX5_back 43 = .ok (.ireturn, 1) := by decide +kernel
theorem dX5_sheet_0 : decode cX5_sheet 0 = .ok (.iload_n 1, 1) := by decide +kernel
theorem dX5_sheet_1 : decode cX5_sheet 1 = .ok (.invokestatic 265, 3) := by decide +kernel
theorem dX5_sheet_4 : decode cX5_sheet 4 = .ok (.ifCond .eq 16, 3) := by decide +kernel
theorem dX5_sheet_7 : decode cX5_sheet 7 = .ok (.iload_n 2, 1) := by decide +kernel
theorem dX5_sheet_8 : decode cX5_sheet 8 = .ok (.invokestatic 268, 3) := by decide +kernel
theorem dX5_sheet_11 : decode cX5_sheet 11 = .ok (.ifCond .eq 9, 3) := by decide +kernel
theorem dX5_sheet_14 : decode cX5_sheet 14 = .ok (.iload_n 3, 1) := by decide +kernel
theorem dX5_sheet_15 : decode cX5_sheet 15 = .ok (.bipush 40, 2) := by decide +kernel
theorem dX5_sheet_17 : decode cX5_sheet 17 = .ok (.if_icmp .le 5, 3) := by decide +kernel
theorem dX5_sheet_20 : decode cX5_sheet 20 = .ok (.iconst (-1), 1) := by decide +kernel
theorem dX5_sheet_21 : decode cX5_sheet 21 = .ok (.ireturn, 1) := by decide +kernel
theorem dX5_sheet_22 : decode cX5_sheet 22 = .ok (.iload_n 3, 1) := by decide +kernel
theorem dX5_sheet_23 : decode cX5_sheet 23 = .ok (.ifCond .ge 6, 3) := by decide +kernel
theorem dX5_sheet_26 : decode cX5_sheet 26 = .ok (.bipush (-14), 2) := by decide +kernel
theorem dX5_sheet_28 : decode cX5_sheet 28 = .ok (.ireturn, 1) := by decide +kernel
theorem dX5_sheet_29 : decode cX5_sheet 29 = .ok (.aload_n 0, 1) := by decide +kernel
theorem dX5_sheet_30 : decode cX5_sheet 30 = .ok (.getfield 36, 3) := by decide +kernel
theorem dX5_sheet_33 : decode cX5_sheet 33 = .ok (.iload_n 1, 1) := by decide +kernel
theorem dX5_sheet_34 : decode cX5_sheet 34 = .ok (.aaload, 1) := by decide +kernel
theorem dX5_sheet_35 : decode cX5_sheet 35 = .ok (.iload_n 2, 1) := by decide +kernel
theorem dX5_sheet_36 : decode cX5_sheet 36 = .ok (.iload_n 3, 1) := by decide +kernel
theorem dX5_sheet_37 : decode cX5_sheet 37 = .ok (.invokevirtual 271, 3) := by decide +kernel
theorem dX5_sheet_40 : decode cX5_sheet 40 = .ok (.iconst 1, 1) := by decide +kernel
theorem dX5_sheet_41 : decode cX5_sheet 41 = .ok (.ireturn, 1) := by decide +kernel
theorem dX5_lay_0 : decode cX5_lay 0 = .ok (.iload_n 1, 1) := by decide +kernel
theorem dX5_lay_1 : decode cX5_lay 1 = .ok (.invokestatic 265, 3) := by decide +kernel
theorem dX5_lay_4 : decode cX5_lay 4 = .ok (.ifCond .ne 5, 3) := by decide +kernel
theorem dX5_lay_7 : decode cX5_lay 7 = .ok (.iconst (-1), 1) := by decide +kernel
theorem dX5_lay_8 : decode cX5_lay 8 = .ok (.ireturn, 1) := by decide +kernel
theorem dX5_lay_9 : decode cX5_lay 9 = .ok (.aload_n 0, 1) := by decide +kernel
theorem dX5_lay_10 : decode cX5_lay 10 = .ok (.getfield 36, 3) := by decide +kernel
theorem dX5_lay_13 : decode cX5_lay 13 = .ok (.iload_n 1, 1) := by decide +kernel
theorem dX5_lay_14 : decode cX5_lay 14 = .ok (.aaload, 1) := by decide +kernel
theorem dX5_lay_15 : decode cX5_lay 15 = .ok (.astore 4, 2) := by decide +kernel
theorem dX5_lay_17 : decode cX5_lay 17 = .ok (.aload 4, 2) := by decide +kernel
theorem dX5_lay_19 : decode cX5_lay 19 = .ok (.aload 4, 2) := by decide +kernel
theorem dX5_lay_21 : decode cX5_lay 21 = .ok (.getfield 274, 3) := by decide +kernel
theorem dX5_lay_24 : decode cX5_lay 24 = .ok (.iload_n 2, 1) := by decide +kernel
theorem dX5_lay_25 : decode cX5_lay 25 = .ok (.invokevirtual 277, 3) := by decide +kernel
theorem dX5_lay_28 : decode cX5_lay 28 = .ok (.istore 5, 2) := by decide +kernel
theorem dX5_lay_30 : decode cX5_lay 30 = .ok (.iload 5, 2) := by decide +kernel
theorem dX5_lay_32 : decode cX5_lay 32 = .ok (.ifCond .eq 9, 3) := by decide +kernel
theorem dX5_lay_35 : decode cX5_lay 35 = .ok (.bipush (-10), 2) := by decide +kernel
theorem dX5_lay_37 : decode cX5_lay 37 = .ok (.iload 5, 2) := by decide +kernel
theorem dX5_lay_39 : decode cX5_lay 39 = .ok (.isub, 1) := by decide +kernel
theorem dX5_lay_40 : decode cX5_lay 40 = .ok (.ireturn, 1) := by decide +kernel
theorem dX5_lay_41 : decode cX5_lay 41 = .ok (.aload 4, 2) := by decide +kernel
theorem dX5_lay_43 : decode cX5_lay 43 = .ok (.iload_n 2, 1) := by decide +kernel
theorem dX5_lay_44 : decode cX5_lay 44 = .ok (.iload_n 3, 1) := by decide +kernel
theorem dX5_lay_45 : decode cX5_lay 45 = .ok (.invokevirtual 280, 3) := by decide +kernel
theorem dX5_lay_48 : decode cX5_lay 48 = .ok (.iconst 1, 1) := by decide +kernel
theorem dX5_lay_49 : decode cX5_lay 49 = .ok (.ireturn, 1) := by decide +kernel
theorem dX5_read_0 : decode cX5_read 0 = .ok (.iload_n 1, 1) := by decide +kernel
theorem dX5_read_1 : decode cX5_read 1 = .ok (.invokestatic 265, 3) := by decide +kernel
theorem dX5_read_4 : decode cX5_read 4 = .ok (.ifCond .eq 21, 3) := by decide +kernel
theorem dX5_read_7 : decode cX5_read 7 = .ok (.iload_n 2, 1) := by decide +kernel
theorem dX5_read_8 : decode cX5_read 8 = .ok (.invokestatic 268, 3) := by decide +kernel
theorem dX5_read_11 : decode cX5_read 11 = .ok (.ifCond .eq 14, 3) := by decide +kernel
theorem dX5_read_14 : decode cX5_read 14 = .ok (.iload 4, 2) := by decide +kernel
theorem dX5_read_16 : decode cX5_read 16 = .ok (.iconst 0, 1) := by decide +kernel
theorem dX5_read_17 : decode cX5_read 17 = .ok (.bipush 20, 2) := by decide +kernel
theorem dX5_read_19 : decode cX5_read 19 = .ok (.invokestatic 53, 3) := by decide +kernel
theorem dX5_read_22 : decode cX5_read 22 = .ok (.ifCond .ne 5, 3) := by decide +kernel
theorem dX5_read_25 : decode cX5_read 25 = .ok (.iconst (-1), 1) := by decide +kernel
theorem dX5_read_26 : decode cX5_read 26 = .ok (.ireturn, 1) := by decide +kernel
theorem dX5_read_27 : decode cX5_read 27 = .ok (.aload_n 0, 1) := by decide +kernel
theorem dX5_read_28 : decode cX5_read 28 = .ok (.getfield 36, 3) := by decide +kernel
theorem dX5_read_31 : decode cX5_read 31 = .ok (.iload_n 1, 1) := by decide +kernel
theorem dX5_read_32 : decode cX5_read 32 = .ok (.aaload, 1) := by decide +kernel
theorem dX5_read_33 : decode cX5_read 33 = .ok (.astore 5, 2) := by decide +kernel
theorem dX5_read_35 : decode cX5_read 35 = .ok (.aload_n 0, 1) := by decide +kernel
theorem dX5_read_36 : decode cX5_read 36 = .ok (.getfield 10, 3) := by decide +kernel
theorem dX5_read_39 : decode cX5_read 39 = .ok (.getfield 101, 3) := by decide +kernel
theorem dX5_read_42 : decode cX5_read 42 = .ok (.getfield 105, 3) := by decide +kernel
theorem dX5_read_45 : decode cX5_read 45 = .ok (.istore 6, 2) := by decide +kernel
theorem dX5_read_47 : decode cX5_read 47 = .ok (.iconst 0, 1) := by decide +kernel
theorem dX5_read_48 : decode cX5_read 48 = .ok (.istore 7, 2) := by decide +kernel
theorem dX5_read_50 : decode cX5_read 50 = .ok (.iconst 0, 1) := by decide +kernel
theorem dX5_read_51 : decode cX5_read 51 = .ok (.istore 8, 2) := by decide +kernel
theorem dX5_read_53 : decode cX5_read 53 = .ok (.iconst 0, 1) := by decide +kernel
theorem dX5_read_54 : decode cX5_read 54 = .ok (.istore 9, 2) := by decide +kernel
theorem dX5_read_56 : decode cX5_read 56 = .ok (.iload 9, 2) := by decide +kernel
theorem dX5_read_58 : decode cX5_read 58 = .ok (.iload 4, 2) := by decide +kernel
theorem dX5_read_60 : decode cX5_read 60 = .ok (.if_icmp .ge 87, 3) := by decide +kernel
theorem dX5_read_63 : decode cX5_read 63 = .ok (.iload 8, 2) := by decide +kernel
theorem dX5_read_65 : decode cX5_read 65 = .ok (.ifCond .ne 82, 3) := by decide +kernel
theorem dX5_read_68 : decode cX5_read 68 = .ok (.iload_n 3, 1) := by decide +kernel
theorem dX5_read_69 : decode cX5_read 69 = .ok (.iconst 2, 1) := by decide +kernel
theorem dX5_read_70 : decode cX5_read 70 = .ok (.iload 9, 2) := by decide +kernel
theorem dX5_read_72 : decode cX5_read 72 = .ok (.imul, 1) := by decide +kernel
theorem dX5_read_73 : decode cX5_read 73 = .ok (.iadd, 1) := by decide +kernel
theorem dX5_read_74 : decode cX5_read 74 = .ok (.istore 10, 2) := by decide +kernel
theorem dX5_read_76 : decode cX5_read 76 = .ok (.aload 5, 2) := by decide +kernel
theorem dX5_read_78 : decode cX5_read 78 = .ok (.iload_n 2, 1) := by decide +kernel
theorem dX5_read_79 : decode cX5_read 79 = .ok (.iload 10, 2) := by decide +kernel
theorem dX5_read_81 : decode cX5_read 81 = .ok (.invokevirtual 283, 3) := by decide +kernel
theorem dX5_read_84 : decode cX5_read 84 = .ok (.istore 8, 2) := by decide +kernel
theorem dX5_read_86 : decode cX5_read 86 = .ok (.iload 8, 2) := by decide +kernel
theorem dX5_read_88 : decode cX5_read 88 = .ok (.ifCond .ne 53, 3) := by decide +kernel
theorem dX5_read_91 : decode cX5_read 91 = .ok (.aload_n 0, 1) := by decide +kernel
theorem dX5_read_92 : decode cX5_read 92 = .ok (.getfield 10, 3) := by decide +kernel
theorem dX5_read_95 : decode cX5_read 95 = .ok (.aload 5, 2) := by decide +kernel
theorem dX5_read_97 : decode cX5_read 97 = .ok (.getfield 286, 3) := by decide +kernel
theorem dX5_read_100 : decode cX5_read 100 = .ok (.iload 10, 2) := by decide +kernel
theorem dX5_read_102 : decode cX5_read 102 = .ok (.iaload, 1) := by decide +kernel
theorem dX5_read_103 : decode cX5_read 103 = .ok (.aload 5, 2) := by decide +kernel
theorem dX5_read_105 : decode cX5_read 105 = .ok (.getfield 286, 3) := by decide +kernel
theorem dX5_read_108 : decode cX5_read 108 = .ok (.iload 10, 2) := by decide +kernel
theorem dX5_read_110 : decode cX5_read 110 = .ok (.iconst 1, 1) := by decide +kernel
theorem dX5_read_111 : decode cX5_read 111 = .ok (.iadd, 1) := by decide +kernel
theorem dX5_read_112 : decode cX5_read 112 = .ok (.iaload, 1) := by decide +kernel
theorem dX5_read_113 : decode cX5_read 113 = .ok (.invokevirtual 156, 3) := by decide +kernel
theorem dX5_read_116 : decode cX5_read 116 = .ok (.ifCond .ge 22, 3) := by decide +kernel
theorem dX5_read_119 : decode cX5_read 119 = .ok (.aload_n 0, 1) := by decide +kernel
theorem dX5_read_120 : decode cX5_read 120 = .ok (.getfield 10, 3) := by decide +kernel
theorem dX5_read_123 : decode cX5_read 123 = .ok (.getfield 101, 3) := by decide +kernel
theorem dX5_read_126 : decode cX5_read 126 = .ok (.iload 6, 2) := by decide +kernel
theorem dX5_read_128 : decode cX5_read 128 = .ok (.invokevirtual 160, 3) := by decide +kernel
theorem dX5_read_131 : decode cX5_read 131 = .ok (.pop, 1) := by decide +kernel
theorem dX5_read_132 : decode cX5_read 132 = .ok (.bipush (-20), 2) := by decide +kernel
theorem dX5_read_134 : decode cX5_read 134 = .ok (.iload 9, 2) := by decide +kernel
theorem dX5_read_136 : decode cX5_read 136 = .ok (.isub, 1) := by decide +kernel
theorem dX5_read_137 : decode cX5_read 137 = .ok (.ireturn, 1) := by decide +kernel
theorem dX5_read_138 : decode cX5_read 138 = .ok (.iinc 7 1, 3) := by decide +kernel
theorem dX5_read_141 : decode cX5_read 141 = .ok (.iinc 9 1, 3) := by decide +kernel
theorem dX5_read_144 : decode cX5_read 144 = .ok (.goto (-88), 3) := by decide +kernel
theorem dX5_read_147 : decode cX5_read 147 = .ok (.aload_n 0, 1) := by decide +kernel
theorem dX5_read_148 : decode cX5_read 148 = .ok (.iload 8, 2) := by decide +kernel
theorem dX5_read_150 : decode cX5_read 150 = .ok (.putfield 289, 3) := by decide +kernel
theorem dX5_read_153 : decode cX5_read 153 = .ok (.iload 7, 2) := by decide +kernel
theorem dX5_read_155 : decode cX5_read 155 = .ok (.ireturn, 1) := by decide +kernel
theorem dX5_torn_0 : decode cX5_torn 0 = .ok (.aload_n 0, 1) := by decide +kernel
theorem dX5_torn_1 : decode cX5_torn 1 = .ok (.getfield 289, 3) := by decide +kernel
theorem dX5_torn_4 : decode cX5_torn 4 = .ok (.ireturn, 1) := by decide +kernel
theorem dX5_count_0 : decode cX5_count 0 = .ok (.iload_n 1, 1) := by decide +kernel
theorem dX5_count_1 : decode cX5_count 1 = .ok (.tableswitch 108 0 5 #[39, 50, 55, 63, 90, 99], 39) := by decide +kernel
theorem dX5_count_40 : decode cX5_count 40 = .ok (.aload_n 0, 1) := by decide +kernel
theorem dX5_count_41 : decode cX5_count 41 = .ok (.getfield 10, 3) := by decide +kernel
theorem dX5_count_44 : decode cX5_count 44 = .ok (.getfield 230, 3) := by decide +kernel
theorem dX5_count_47 : decode cX5_count 47 = .ok (.getfield 105, 3) := by decide +kernel
theorem dX5_count_50 : decode cX5_count 50 = .ok (.ireturn, 1) := by decide +kernel
theorem dX5_count_51 : decode cX5_count 51 = .ok (.aload_n 0, 1) := by decide +kernel
theorem dX5_count_52 : decode cX5_count 52 = .ok (.invokevirtual 292, 3) := by decide +kernel
theorem dX5_count_55 : decode cX5_count 55 = .ok (.ireturn, 1) := by decide +kernel
theorem dX5_count_56 : decode cX5_count 56 = .ok (.aload_n 0, 1) := by decide +kernel
theorem dX5_count_57 : decode cX5_count 57 = .ok (.getfield 30, 3) := by decide +kernel
theorem dX5_count_60 : decode cX5_count 60 = .ok (.getfield 295, 3) := by decide +kernel
theorem dX5_count_63 : decode cX5_count 63 = .ok (.ireturn, 1) := by decide +kernel
theorem dX5_count_64 : decode cX5_count 64 = .ok (.aload_n 0, 1) := by decide +kernel
theorem dX5_count_65 : decode cX5_count 65 = .ok (.getfield 36, 3) := by decide +kernel
theorem dX5_count_68 : decode cX5_count 68 = .ok (.iconst 0, 1) := by decide +kernel
theorem dX5_count_69 : decode cX5_count 69 = .ok (.aaload, 1) := by decide +kernel
theorem dX5_count_70 : decode cX5_count 70 = .ok (.invokevirtual 298, 3) := by decide +kernel
theorem dX5_count_73 : decode cX5_count 73 = .ok (.ifCond .eq 8, 3) := by decide +kernel
theorem dX5_count_76 : decode cX5_count 76 = .ok (.bipush (-4), 2) := by decide +kernel
theorem dX5_count_78 : decode cX5_count 78 = .ok (.goto 12, 3) := by decide +kernel
theorem dX5_count_81 : decode cX5_count 81 = .ok (.aload_n 0, 1) := by decide +kernel
theorem dX5_count_82 : decode cX5_count 82 = .ok (.getfield 36, 3) := by decide +kernel
theorem dX5_count_85 : decode cX5_count 85 = .ok (.iconst 0, 1) := by decide +kernel
theorem dX5_count_86 : decode cX5_count 86 = .ok (.aaload, 1) := by decide +kernel
theorem dX5_count_87 : decode cX5_count 87 = .ok (.getfield 301, 3) := by decide +kernel
theorem dX5_count_90 : decode cX5_count 90 = .ok (.ireturn, 1) := by decide +kernel
theorem dX5_count_91 : decode cX5_count 91 = .ok (.aload_n 0, 1) := by decide +kernel
theorem dX5_count_92 : decode cX5_count 92 = .ok (.getfield 10, 3) := by decide +kernel
theorem dX5_count_95 : decode cX5_count 95 = .ok (.iconst 0, 1) := by decide +kernel
theorem dX5_count_96 : decode cX5_count 96 = .ok (.invokevirtual 302, 3) := by decide +kernel
theorem dX5_count_99 : decode cX5_count 99 = .ok (.ireturn, 1) := by decide +kernel
theorem dX5_count_100 : decode cX5_count 100 = .ok (.aload_n 0, 1) := by decide +kernel
theorem dX5_count_101 : decode cX5_count 101 = .ok (.getfield 10, 3) := by decide +kernel
theorem dX5_count_104 : decode cX5_count 104 = .ok (.iconst 1, 1) := by decide +kernel
theorem dX5_count_105 : decode cX5_count 105 = .ok (.invokevirtual 302, 3) := by decide +kernel
theorem dX5_count_108 : decode cX5_count 108 = .ok (.ireturn, 1) := by decide +kernel
theorem dX5_count_109 : decode cX5_count 109 = .ok (.iconst (-1), 1) := by decide +kernel
theorem dX5_count_110 : decode cX5_count 110 = .ok (.ireturn, 1) := by decide +kernel
theorem dX5_forgetImages_0 : decode cX5_forgetImages 0 = .ok (.iconst 0, 1) := by decide +kernel
theorem dX5_forgetImages_1 : decode cX5_forgetImages 1 = .ok (.istore_n 1, 1) := by decide +kernel
theorem dX5_forgetImages_2 : decode cX5_forgetImages 2 = .ok (.iload_n 1, 1) := by decide +kernel
theorem dX5_forgetImages_3 : decode cX5_forgetImages 3 = .ok (.iconst 2, 1) := by decide +kernel
theorem dX5_forgetImages_4 : decode cX5_forgetImages 4 = .ok (.if_icmp .ge 16, 3) := by decide +kernel
theorem dX5_forgetImages_7 : decode cX5_forgetImages 7 = .ok (.aload_n 0, 1) := by decide +kernel
theorem dX5_forgetImages_8 : decode cX5_forgetImages 8 = .ok (.getfield 23, 3) := by decide +kernel
theorem dX5_forgetImages_11 : decode cX5_forgetImages 11 = .ok (.iload_n 1, 1) := by decide +kernel
theorem dX5_forgetImages_12 : decode cX5_forgetImages 12 = .ok (.iconst 0, 1) := by decide +kernel
theorem dX5_forgetImages_13 : decode cX5_forgetImages 13 = .ok (.bastore, 1) := by decide +kernel
theorem dX5_forgetImages_14 : decode cX5_forgetImages 14 = .ok (.iinc 1 1, 3) := by decide +kernel
theorem dX5_forgetImages_17 : decode cX5_forgetImages 17 = .ok (.goto (-15), 3) := by decide +kernel
theorem dX5_forgetImages_20 : decode cX5_forgetImages 20 = .ok (.return_, 1) := by decide +kernel
theorem dX5_keptImages_0 : decode cX5_keptImages 0 = .ok (.iconst 0, 1) := by decide +kernel
theorem dX5_keptImages_1 : decode cX5_keptImages 1 = .ok (.istore_n 1, 1) := by decide +kernel
theorem dX5_keptImages_2 : decode cX5_keptImages 2 = .ok (.iconst 0, 1) := by decide +kernel
theorem dX5_keptImages_3 : decode cX5_keptImages 3 = .ok (.istore_n 2, 1) := by decide +kernel
theorem dX5_keptImages_4 : decode cX5_keptImages 4 = .ok (.iload_n 2, 1) := by decide +kernel
theorem dX5_keptImages_5 : decode cX5_keptImages 5 = .ok (.iconst 2, 1) := by decide +kernel
theorem dX5_keptImages_6 : decode cX5_keptImages 6 = .ok (.if_icmp .ge 26, 3) := by decide +kernel
theorem dX5_keptImages_9 : decode cX5_keptImages 9 = .ok (.iload_n 1, 1) := by decide +kernel
theorem dX5_keptImages_10 : decode cX5_keptImages 10 = .ok (.aload_n 0, 1) := by decide +kernel
theorem dX5_keptImages_11 : decode cX5_keptImages 11 = .ok (.getfield 23, 3) := by decide +kernel
theorem dX5_keptImages_14 : decode cX5_keptImages 14 = .ok (.iload_n 2, 1) := by decide +kernel
theorem dX5_keptImages_15 : decode cX5_keptImages 15 = .ok (.baload, 1) := by decide +kernel
theorem dX5_keptImages_16 : decode cX5_keptImages 16 = .ok (.ifCond .eq 7, 3) := by decide +kernel
theorem dX5_keptImages_19 : decode cX5_keptImages 19 = .ok (.iconst 1, 1) := by decide +kernel
theorem dX5_keptImages_20 : decode cX5_keptImages 20 = .ok (.goto 4, 3) := by decide +kernel
theorem dX5_keptImages_23 : decode cX5_keptImages 23 = .ok (.iconst 0, 1) := by decide +kernel
theorem dX5_keptImages_24 : decode cX5_keptImages 24 = .ok (.iadd, 1) := by decide +kernel
theorem dX5_keptImages_25 : decode cX5_keptImages 25 = .ok (.istore_n 1, 1) := by decide +kernel
theorem dX5_keptImages_26 : decode cX5_keptImages 26 = .ok (.iinc 2 1, 3) := by decide +kernel
theorem dX5_keptImages_29 : decode cX5_keptImages 29 = .ok (.goto (-25), 3) := by decide +kernel
theorem dX5_keptImages_32 : decode cX5_keptImages 32 = .ok (.iload_n 1, 1) := by decide +kernel
theorem dX5_keptImages_33 : decode cX5_keptImages 33 = .ok (.ireturn, 1) := by decide +kernel
theorem dX5_restartTrial_0 : decode cX5_restartTrial 0 = .ok (.aload_n 0, 1) := by decide +kernel
theorem dX5_restartTrial_1 : decode cX5_restartTrial 1 = .ok (.getfield 16, 3) := by decide +kernel
theorem dX5_restartTrial_4 : decode cX5_restartTrial 4 = .ok (.aload_n 0, 1) := by decide +kernel
theorem dX5_restartTrial_5 : decode cX5_restartTrial 5 = .ok (.getfield 10, 3) := by decide +kernel
theorem dX5_restartTrial_8 : decode cX5_restartTrial 8 = .ok (.invokevirtual 68, 3) := by decide +kernel
theorem dX5_restartTrial_11 : decode cX5_restartTrial 11 = .ok (.return_, 1) := by decide +kernel
theorem dX5_isIn_0 : decode cX5_isIn 0 = .ok (.iload_n 0, 1) := by decide +kernel
theorem dX5_isIn_1 : decode cX5_isIn 1 = .ok (.iload_n 1, 1) := by decide +kernel
theorem dX5_isIn_2 : decode cX5_isIn 2 = .ok (.if_icmp .lt 12, 3) := by decide +kernel
theorem dX5_isIn_5 : decode cX5_isIn 5 = .ok (.iload_n 0, 1) := by decide +kernel
theorem dX5_isIn_6 : decode cX5_isIn 6 = .ok (.iload_n 2, 1) := by decide +kernel
theorem dX5_isIn_7 : decode cX5_isIn 7 = .ok (.if_icmp .gt 7, 3) := by decide +kernel
theorem dX5_isIn_10 : decode cX5_isIn 10 = .ok (.iconst 1, 1) := by decide +kernel
theorem dX5_isIn_11 : decode cX5_isIn 11 = .ok (.goto 4, 3) := by decide +kernel
theorem dX5_isIn_14 : decode cX5_isIn 14 = .ok (.iconst 0, 1) := by decide +kernel
theorem dX5_isIn_15 : decode cX5_isIn 15 = .ok (.ireturn, 1) := by decide +kernel
theorem dX5_isPlace_0 : decode cX5_isPlace 0 = .ok (.iload_n 0, 1) := by decide +kernel
theorem dX5_isPlace_1 : decode cX5_isPlace 1 = .ok (.iconst 0, 1) := by decide +kernel
theorem dX5_isPlace_2 : decode cX5_isPlace 2 = .ok (.bipush 99, 2) := by decide +kernel
theorem dX5_isPlace_4 : decode cX5_isPlace 4 = .ok (.invokestatic 53, 3) := by decide +kernel
theorem dX5_isPlace_7 : decode cX5_isPlace 7 = .ok (.ireturn, 1) := by decide +kernel
theorem dX5_isHeight_0 : decode cX5_isHeight 0 = .ok (.iload_n 0, 1) := by decide +kernel
theorem dX5_isHeight_1 : decode cX5_isHeight 1 = .ok (.iconst 0, 1) := by decide +kernel
theorem dX5_isHeight_2 : decode cX5_isHeight 2 = .ok (.bipush 60, 2) := by decide +kernel
theorem dX5_isHeight_4 : decode cX5_isHeight 4 = .ok (.invokestatic 53, 3) := by decide +kernel
theorem dX5_isHeight_7 : decode cX5_isHeight 7 = .ok (.ireturn, 1) := by decide +kernel
theorem dX5_isForecast_0 : decode cX5_isForecast 0 = .ok (.iload_n 0, 1) := by decide +kernel
theorem dX5_isForecast_1 : decode cX5_isForecast 1 = .ok (.iconst 0, 1) := by decide +kernel
theorem dX5_isForecast_2 : decode cX5_isForecast 2 = .ok (.bipush 60, 2) := by decide +kernel
theorem dX5_isForecast_4 : decode cX5_isForecast 4 = .ok (.invokestatic 53, 3) := by decide +kernel
theorem dX5_isForecast_7 : decode cX5_isForecast 7 = .ok (.ireturn, 1) := by decide +kernel
theorem dX5_isWind_0 : decode cX5_isWind 0 = .ok (.iload_n 0, 1) := by decide +kernel
theorem dX5_isWind_1 : decode cX5_isWind 1 = .ok (.iconst 0, 1) := by decide +kernel
theorem dX5_isWind_2 : decode cX5_isWind 2 = .ok (.iconst 4, 1) := by decide +kernel
theorem dX5_isWind_3 : decode cX5_isWind 3 = .ok (.invokestatic 53, 3) := by decide +kernel
theorem dX5_isWind_6 : decode cX5_isWind 6 = .ok (.ireturn, 1) := by decide +kernel
theorem dX5_isSheet_0 : decode cX5_isSheet 0 = .ok (.iload_n 0, 1) := by decide +kernel
theorem dX5_isSheet_1 : decode cX5_isSheet 1 = .ok (.iconst 0, 1) := by decide +kernel
theorem dX5_isSheet_2 : decode cX5_isSheet 2 = .ok (.iconst 3, 1) := by decide +kernel
theorem dX5_isSheet_3 : decode cX5_isSheet 3 = .ok (.invokestatic 53, 3) := by decide +kernel
theorem dX5_isSheet_6 : decode cX5_isSheet 6 = .ok (.ireturn, 1) := by decide +kernel
theorem dX5_isLane_0 : decode cX5_isLane 0 = .ok (.iload_n 0, 1) := by decide +kernel
theorem dX5_isLane_1 : decode cX5_isLane 1 = .ok (.iconst 0, 1) := by decide +kernel
theorem dX5_isLane_2 : decode cX5_isLane 2 = .ok (.iconst 2, 1) := by decide +kernel
theorem dX5_isLane_3 : decode cX5_isLane 3 = .ok (.invokestatic 53, 3) := by decide +kernel
theorem dX5_isLane_6 : decode cX5_isLane 6 = .ok (.ireturn, 1) := by decide +kernel
theorem dX5_leastOf_0 : decode cX5_leastOf 0 = .ok (.iload_n 0, 1) := by decide +kernel
theorem dX5_leastOf_1 : decode cX5_leastOf 1 = .ok (.iconst 1, 1) := by decide +kernel
theorem dX5_leastOf_2 : decode cX5_leastOf 2 = .ok (.if_icmp .ne 7, 3) := by decide +kernel
theorem dX5_leastOf_5 : decode cX5_leastOf 5 = .ok (.iconst 1, 1) := by decide +kernel
theorem dX5_leastOf_6 : decode cX5_leastOf 6 = .ok (.goto 4, 3) := by decide +kernel
theorem dX5_leastOf_9 : decode cX5_leastOf 9 = .ok (.iconst 0, 1) := by decide +kernel
theorem dX5_leastOf_10 : decode cX5_leastOf 10 = .ok (.ireturn, 1) := by decide +kernel
theorem dX5_greatestOf_0 : decode cX5_greatestOf 0 = .ok (.iload_n 0, 1) := by decide +kernel
theorem dX5_greatestOf_1 : decode cX5_greatestOf 1 = .ok (.ifCond .ne 7, 3) := by decide +kernel
theorem dX5_greatestOf_4 : decode cX5_greatestOf 4 = .ok (.iconst 3, 1) := by decide +kernel
theorem dX5_greatestOf_5 : decode cX5_greatestOf 5 = .ok (.goto 14, 3) := by decide +kernel
theorem dX5_greatestOf_8 : decode cX5_greatestOf 8 = .ok (.iload_n 0, 1) := by decide +kernel
theorem dX5_greatestOf_9 : decode cX5_greatestOf 9 = .ok (.iconst 1, 1) := by decide +kernel
theorem dX5_greatestOf_10 : decode cX5_greatestOf 10 = .ok (.if_icmp .ne 8, 3) := by decide +kernel
theorem dX5_greatestOf_13 : decode cX5_greatestOf 13 = .ok (.bipush 9, 2) := by decide +kernel
theorem dX5_greatestOf_15 : decode cX5_greatestOf 15 = .ok (.goto 4, 3) := by decide +kernel
theorem dX5_greatestOf_18 : decode cX5_greatestOf 18 = .ok (.iconst 1, 1) := by decide +kernel
theorem dX5_greatestOf_19 : decode cX5_greatestOf 19 = .ok (.ireturn, 1) := by decide +kernel
theorem dX5_orNone_0 : decode cX5_orNone 0 = .ok (.iload_n 0, 1) := by decide +kernel
theorem dX5_orNone_1 : decode cX5_orNone 1 = .ok (.ldc 189, 2) := by decide +kernel
theorem dX5_orNone_3 : decode cX5_orNone 3 = .ok (.if_icmp .ne 8, 3) := by decide +kernel
theorem dX5_orNone_6 : decode cX5_orNone 6 = .ok (.bipush (-4), 2) := by decide +kernel
theorem dX5_orNone_8 : decode cX5_orNone 8 = .ok (.goto 4, 3) := by decide +kernel
theorem dX5_orNone_11 : decode cX5_orNone 11 = .ok (.iload_n 0, 1) := by decide +kernel
theorem dX5_orNone_12 : decode cX5_orNone 12 = .ok (.ireturn, 1) := by decide +kernel
theorem dX5_bounded_0 : decode cX5_bounded 0 = .ok (.iload_n 1, 1) := by decide +kernel
theorem dX5_bounded_1 : decode cX5_bounded 1 = .ok (.iload_n 2, 1) := by decide +kernel
theorem dX5_bounded_2 : decode cX5_bounded 2 = .ok (.iload_n 0, 1) := by decide +kernel
theorem dX5_bounded_3 : decode cX5_bounded 3 = .ok (.invokestatic 200, 3) := by decide +kernel
theorem dX5_bounded_6 : decode cX5_bounded 6 = .ok (.invokestatic 261, 3) := by decide +kernel
theorem dX5_bounded_9 : decode cX5_bounded 9 = .ok (.ireturn, 1) := by decide +kernel
theorem dX5_inLowestTerms_0 : decode cX5_inLowestTerms 0 = .ok (.iload 4, 2) := by decide +kernel
theorem dX5_inLowestTerms_2 : decode cX5_inLowestTerms 2 = .ok (.ifCond .ne 7, 3) := by decide +kernel
theorem dX5_inLowestTerms_5 : decode cX5_inLowestTerms 5 = .ok (.lload_n 0, 1) := by decide +kernel
theorem dX5_inLowestTerms_6 : decode cX5_inLowestTerms 6 = .ok (.goto 4, 3) := by decide +kernel
theorem dX5_inLowestTerms_9 : decode cX5_inLowestTerms 9 = .ok (.lload_n 2, 1) := by decide +kernel
theorem dX5_inLowestTerms_10 : decode cX5_inLowestTerms 10 = .ok (.lstore 5, 2) := by decide +kernel
theorem dX5_inLowestTerms_12 : decode cX5_inLowestTerms 12 = .ok (.lload_n 0, 1) := by decide +kernel
theorem dX5_inLowestTerms_13 : decode cX5_inLowestTerms 13 = .ok (.lload_n 2, 1) := by decide +kernel
theorem dX5_inLowestTerms_14 : decode cX5_inLowestTerms 14 = .ok (.invokestatic 305, 3) := by decide +kernel
theorem dX5_inLowestTerms_17 : decode cX5_inLowestTerms 17 = .ok (.lstore 7, 2) := by decide +kernel
theorem dX5_inLowestTerms_19 : decode cX5_inLowestTerms 19 = .ok (.lload 7, 2) := by decide +kernel
theorem dX5_inLowestTerms_21 : decode cX5_inLowestTerms 21 = .ok (.lconst 0, 1) := by decide +kernel
theorem dX5_inLowestTerms_22 : decode cX5_inLowestTerms 22 = .ok (.lcmp, 1) := by decide +kernel
theorem dX5_inLowestTerms_23 : decode cX5_inLowestTerms 23 = .ok (.ifCond .le 11, 3) := by decide +kernel
theorem dX5_inLowestTerms_26 : decode cX5_inLowestTerms 26 = .ok (.lload 5, 2) := by decide +kernel
theorem dX5_inLowestTerms_28 : decode cX5_inLowestTerms 28 = .ok (.lload 7, 2) := by decide +kernel
theorem dX5_inLowestTerms_30 : decode cX5_inLowestTerms 30 = .ok (.ldiv, 1) := by decide +kernel
theorem dX5_inLowestTerms_31 : decode cX5_inLowestTerms 31 = .ok (.goto 5, 3) := by decide +kernel
theorem dX5_inLowestTerms_34 : decode cX5_inLowestTerms 34 = .ok (.lload 5, 2) := by decide +kernel
theorem dX5_inLowestTerms_36 : decode cX5_inLowestTerms 36 = .ok (.lreturn, 1) := by decide +kernel
theorem dX5_commonDivisor_0 : decode cX5_commonDivisor 0 = .ok (.iconst 0, 1) := by decide +kernel
theorem dX5_commonDivisor_1 : decode cX5_commonDivisor 1 = .ok (.istore 4, 2) := by decide +kernel
theorem dX5_commonDivisor_3 : decode cX5_commonDivisor 3 = .ok (.iload 4, 2) := by decide +kernel
theorem dX5_commonDivisor_5 : decode cX5_commonDivisor 5 = .ok (.sipush 200, 3) := by decide +kernel
theorem dX5_commonDivisor_8 : decode cX5_commonDivisor 8 = .ok (.if_icmp .ge 25, 3) := by decide +kernel
theorem dX5_commonDivisor_11 : decode cX5_commonDivisor 11 = .ok (.lload_n 2, 1) := by decide +kernel
theorem dX5_commonDivisor_12 : decode cX5_commonDivisor 12 = .ok (.lconst 0, 1) := by decide +kernel
theorem dX5_commonDivisor_13 : decode cX5_commonDivisor 13 = .ok (.lcmp, 1) := by decide +kernel
theorem dX5_commonDivisor_14 : decode cX5_commonDivisor 14 = .ok (.ifCond .eq 19, 3) := by decide +kernel
theorem dX5_commonDivisor_17 : decode cX5_commonDivisor 17 = .ok (.lload_n 0, 1) := by decide +kernel
theorem dX5_commonDivisor_18 : decode cX5_commonDivisor 18 = .ok (.lload_n 2, 1) := by decide +kernel
theorem dX5_commonDivisor_19 : decode cX5_commonDivisor 19 = .ok (.lrem, 1) := by decide +kernel
theorem dX5_commonDivisor_20 : decode cX5_commonDivisor 20 = .ok (.lstore 5, 2) := by decide +kernel
theorem dX5_commonDivisor_22 : decode cX5_commonDivisor 22 = .ok (.lload_n 2, 1) := by decide +kernel
theorem dX5_commonDivisor_23 : decode cX5_commonDivisor 23 = .ok (.lstore_n 0, 1) := by decide +kernel
theorem dX5_commonDivisor_24 : decode cX5_commonDivisor 24 = .ok (.lload 5, 2) := by decide +kernel
theorem dX5_commonDivisor_26 : decode cX5_commonDivisor 26 = .ok (.lstore_n 2, 1) := by decide +kernel
theorem dX5_commonDivisor_27 : decode cX5_commonDivisor 27 = .ok (.iinc 4 1, 3) := by decide +kernel
theorem dX5_commonDivisor_30 : decode cX5_commonDivisor 30 = .ok (.goto (-27), 3) := by decide +kernel
theorem dX5_commonDivisor_33 : decode cX5_commonDivisor 33 = .ok (.lload_n 0, 1) := by decide +kernel
theorem dX5_commonDivisor_34 : decode cX5_commonDivisor 34 = .ok (.lreturn, 1) := by decide +kernel
