theorem dX6_init_0 : decode cX6_init 0 = .ok (.aload_n 0, 1) := by decide +kernel
theorem dX6_init_1 : decode cX6_init 1 = .ok (.invokespecial 1, 3) := by decide +kernel
theorem dX6_init_4 : decode cX6_init 4 = .ok (.aload_n 0, 1) := by decide +kernel
theorem dX6_init_5 : decode cX6_init 5 = .ok (.sipush 189, 3) := by decide +kernel
theorem dX6_init_8 : decode cX6_init 8 = .ok (.newarray .int, 2) := by decide +kernel
theorem dX6_init_10 : decode cX6_init 10 = .ok (.putfield 7, 3) := by decide +kernel
theorem dX6_init_13 : decode cX6_init 13 = .ok (.aload_n 0, 1) := by decide +kernel
theorem dX6_init_14 : decode cX6_init 14 = .ok (.bipush 63, 2) := by decide +kernel
theorem dX6_init_16 : decode cX6_init 16 = .ok (.newarray .int, 2) := by decide +kernel
theorem dX6_init_18 : decode cX6_init 18 = .ok (.putfield 13, 3) := by decide +kernel
theorem dX6_init_21 : decode cX6_init 21 = .ok (.aload_n 0, 1) := by decide +kernel
theorem dX6_init_22 : decode cX6_init 22 = .ok (.iconst 2, 1) := by decide +kernel
theorem dX6_init_23 : decode cX6_init 23 = .ok (.newarray .boolean, 2) := by decide +kernel
theorem dX6_init_25 : decode cX6_init 25 = .ok (.putfield 16, 3) := by decide +kernel
theorem dX6_init_28 : decode cX6_init 28 = .ok (.aload_n 0, 1) := by decide +kernel
theorem dX6_init_29 : decode cX6_init 29 = .ok (.bipush 63, 2) := by decide +kernel
theorem dX6_init_31 : decode cX6_init 31 = .ok (.newarray .int, 2) := by decide +kernel
theorem dX6_init_33 : decode cX6_init 33 = .ok (.putfield 20, 3) := by decide +kernel
theorem dX6_init_36 : decode cX6_init 36 = .ok (.aload_n 0, 1) := by decide +kernel
theorem dX6_init_37 : decode cX6_init 37 = .ok (.sipush 160, 3) := by decide +kernel
theorem dX6_init_40 : decode cX6_init 40 = .ok (.newarray .int, 2) := by decide +kernel
theorem dX6_init_42 : decode cX6_init 42 = .ok (.putfield 23, 3) := by decide +kernel
theorem dX6_init_45 : decode cX6_init 45 = .ok (.aload_n 0, 1) := by decide +kernel
theorem dX6_init_46 : decode cX6_init 46 = .ok (.bipush 31, 2) := by decide +kernel
theorem dX6_init_48 : decode cX6_init 48 = .ok (.newarray .int, 2) := by decide +kernel
theorem dX6_init_50 : decode cX6_init 50 = .ok (.putfield 26, 3) := by decide +kernel
theorem dX6_init_53 : decode cX6_init 53 = .ok (.aload_n 0, 1) := by decide +kernel
theorem dX6_init_54 : decode cX6_init 54 = .ok (.sipush 279, 3) := by decide +kernel
theorem dX6_init_57 : decode cX6_init 57 = .ok (.newarray .int, 2) := by decide +kernel
theorem dX6_init_59 : decode cX6_init 59 = .ok (.putfield 29, 3) := by decide +kernel
theorem dX6_init_62 : decode cX6_init 62 = .ok (.aload_n 0, 1) := by decide +kernel
theorem dX6_init_63 : decode cX6_init 63 = .ok (.iconst 4, 1) := by decide +kernel
theorem dX6_init_64 : decode cX6_init 64 = .ok (.newarray .int, 2) := by decide +kernel
theorem dX6_init_66 : decode cX6_init 66 = .ok (.putfield 32, 3) := by decide +kernel
theorem dX6_init_69 : decode cX6_init 69 = .ok (.aload_n 0, 1) := by decide +kernel
theorem dX6_init_70 : decode cX6_init 70 = .ok (.iconst 4, 1) := by decide +kernel
theorem dX6_init_71 : decode cX6_init 71 = .ok (.newarray .int, 2) := by decide +kernel
theorem dX6_init_73 : decode cX6_init 73 = .ok (.putfield 35, 3) := by decide +kernel
theorem dX6_init_76 : decode cX6_init 76 = .ok (.aload_n 0, 1) := by decide +kernel
theorem dX6_init_77 : decode cX6_init 77 = .ok (.sipush 160, 3) := by decide +kernel
theorem dX6_init_80 : decode cX6_init 80 = .ok (.newarray .int, 2) := by decide +kernel
theorem dX6_init_82 : decode cX6_init 82 = .ok (.putfield 38, 3) := by decide +kernel
theorem dX6_init_85 : decode cX6_init 85 = .ok (.aload_n 0, 1) := by decide +kernel
theorem dX6_init_86 : decode cX6_init 86 = .ok (.bipush 63, 2) := by decide +kernel
theorem dX6_init_88 : decode cX6_init 88 = .ok (.newarray .int, 2) := by decide +kernel
theorem dX6_init_90 : decode cX6_init 90 = .ok (.putfield 41, 3) := by decide +kernel
theorem dX6_init_93 : decode cX6_init 93 = .ok (.iconst 0, 1) := by decide +kernel
theorem dX6_init_94 : decode cX6_init 94 = .ok (.istore_n 1, 1) := by decide +kernel
theorem dX6_init_95 : decode cX6_init 95 = .ok (.iload_n 1, 1) := by decide +kernel
theorem dX6_init_96 : decode cX6_init 96 = .ok (.iconst 4, 1) := by decide +kernel
theorem dX6_init_97 : decode cX6_init 97 = .ok (.if_icmp .ge 17, 3) := by decide +kernel
theorem dX6_init_100 : decode cX6_init 100 = .ok (.aload_n 0, 1) := by decide +kernel
theorem dX6_init_101 : decode cX6_init 101 = .ok (.getfield 32, 3) := by decide +kernel
theorem dX6_init_104 : decode cX6_init 104 = .ok (.iload_n 1, 1) := by decide +kernel
theorem dX6_init_105 : decode cX6_init 105 = .ok (.bipush (-4), 2) := by decide +kernel
theorem dX6_init_107 : decode cX6_init 107 = .ok (.iastore, 1) := by decide +kernel
theorem dX6_init_108 : decode cX6_init 108 = .ok (.iinc 1 1, 3) := by decide +kernel
theorem dX6_init_111 : decode cX6_init 111 = .ok (.goto (-16), 3) := by decide +kernel
theorem dX6_init_114 : decode cX6_init 114 = .ok (.aload_n 0, 1) := by decide +kernel
theorem dX6_init_115 : decode cX6_init 115 = .ok (.invokevirtual 44, 3) := by decide +kernel
theorem dX6_init_118 : decode cX6_init 118 = .ok (.aload_n 0, 1) := by decide +kernel
theorem dX6_init_119 : decode cX6_init 119 = .ok (.invokevirtual 47, 3) := by decide +kernel
theorem dX6_init_122 : decode cX6_init 122 = .ok (.return_, 1) := by decide +kernel
theorem dX6_in_0 : decode cX6_in 0 = .ok (.lload_n 0, 1) := by decide +kernel
theorem dX6_in_1 : decode cX6_in 1 = .ok (.lload_n 2, 1) := by decide +kernel
theorem dX6_in_2 : decode cX6_in 2 = .ok (.lcmp, 1) := by decide +kernel
theorem dX6_in_3 : decode cX6_in 3 = .ok (.ifCond .lt 14, 3) := by decide +kernel
theorem dX6_in_6 : decode cX6_in 6 = .ok (.lload_n 0, 1) := by decide +kernel
theorem dX6_in_7 : decode cX6_in 7 = .ok (.lload 4, 2) := by decide +kernel
theorem dX6_in_9 : decode cX6_in 9 = .ok (.lcmp, 1) := by decide +kernel
theorem dX6_in_10 : decode cX6_in 10 = .ok (.ifCond .gt 7, 3) := by decide +kernel
theorem dX6_in_13 : decode cX6_in 13 = .ok (.iconst 1, 1) := by decide +kernel
theorem dX6_in_14 : decode cX6_in 14 = .ok (.goto 4, 3) := by decide +kernel
theorem dX6_in_17 : decode cX6_in 17 = .ok (.iconst 0, 1) := by decide +kernel
theorem dX6_in_18 : decode cX6_in 18 = .ok (.ireturn, 1) := by decide +kernel
theorem dX6_flag_0 : decode cX6_flag 0 = .ok (.iload_n 0, 1) := by decide +kernel
theorem dX6_flag_1 : decode cX6_flag 1 = .ok (.ifCond .eq 7, 3) := by decide +kernel
theorem dX6_flag_4 : decode cX6_flag 4 = .ok (.iconst 1, 1) := by decide +kernel
theorem dX6_flag_5 : decode cX6_flag 5 = .ok (.goto 4, 3) := by decide +kernel
theorem dX6_flag_8 : decode cX6_flag 8 = .ok (.iconst 0, 1) := by decide +kernel
theorem dX6_flag_9 : decode cX6_flag 9 = .ok (.ireturn, 1) := by decide +kernel
theorem dX6_within_0 : decode cX6_within 0 = .ok (.iload_n 0, 1) := by decide +kernel
theorem dX6_within_1 : decode cX6_within 1 = .ok (.iload_n 1, 1) := by decide +kernel
theorem dX6_within_2 : decode cX6_within 2 = .ok (.if_icmp .ge 7, 3) := by decide +kernel
theorem dX6_within_5 : decode cX6_within 5 = .ok (.iload_n 1, 1) := by decide +kernel
theorem dX6_within_6 : decode cX6_within 6 = .ok (.goto 13, 3) := by decide +kernel
theorem dX6_within_9 : decode cX6_within 9 = .ok (.iload_n 0, 1) := by decide +kernel
theorem dX6_within_10 : decode cX6_within 10 = .ok (.iload_n 2, 1) := by decide +kernel
theorem dX6_within_11 : decode cX6_within 11 = .ok (.if_icmp .le 7, 3) := by decide +kernel
theorem dX6_within_14 : decode cX6_within 14 = .ok (.iload_n 2, 1) := by decide +kernel
theorem dX6_within_15 : decode cX6_within 15 = .ok (.goto 4, 3) := by decide +kernel
theorem dX6_within_18 : decode cX6_within 18 = .ok (.iload_n 0, 1) := by decide +kernel
theorem dX6_within_19 : decode cX6_within 19 = .ok (.ireturn, 1) := by decide +kernel
theorem dX6_firstDraft_0 : decode cX6_firstDraft 0 = .ok (.iconst 0, 1) := by decide +kernel
theorem dX6_firstDraft_1 : decode cX6_firstDraft 1 = .ok (.istore_n 1, 1) := by decide +kernel
theorem dX6_firstDraft_2 : decode cX6_firstDraft 2 = .ok (.iload_n 1, 1) := by decide +kernel
theorem dX6_firstDraft_3 : decode cX6_firstDraft 3 = .ok (.bipush 63, 2) := by decide +kernel
theorem dX6_firstDraft_5 : decode cX6_firstDraft 5 = .ok (.if_icmp .ge 16, 3) := by decide +kernel
theorem dX6_firstDraft_8 : decode cX6_firstDraft 8 = .ok (.aload_n 0, 1) := by decide +kernel
theorem dX6_firstDraft_9 : decode cX6_firstDraft 9 = .ok (.getfield 20, 3) := by decide +kernel
theorem dX6_firstDraft_12 : decode cX6_firstDraft 12 = .ok (.iload_n 1, 1) := by decide +kernel
theorem dX6_firstDraft_13 : decode cX6_firstDraft 13 = .ok (.iconst 0, 1) := by decide +kernel
theorem dX6_firstDraft_14 : decode cX6_firstDraft 14 = .ok (.iastore, 1) := by decide +kernel
theorem dX6_firstDraft_15 : decode cX6_firstDraft 15 = .ok (.iinc 1 1, 3) := by decide +kernel
theorem dX6_firstDraft_18 : decode cX6_firstDraft 18 = .ok (.goto (-16), 3) := by decide +kernel
theorem dX6_firstDraft_21 : decode cX6_firstDraft 21 = .ok (.iconst 0, 1) := by decide +kernel
theorem dX6_firstDraft_22 : decode cX6_firstDraft 22 = .ok (.istore_n 1, 1) := by decide +kernel
theorem dX6_firstDraft_23 : decode cX6_firstDraft 23 = .ok (.iload_n 1, 1) := by decide +kernel
theorem dX6_firstDraft_24 : decode cX6_firstDraft 24 = .ok (.iconst 5, 1) := by decide +kernel
theorem dX6_firstDraft_25 : decode cX6_firstDraft 25 = .ok (.if_icmp .ge 19, 3) := by decide +kernel
theorem dX6_firstDraft_28 : decode cX6_firstDraft 28 = .ok (.aload_n 0, 1) := by decide +kernel
theorem dX6_firstDraft_29 : decode cX6_firstDraft 29 = .ok (.getfield 20, 3) := by decide +kernel
theorem dX6_firstDraft_32 : decode cX6_firstDraft 32 = .ok (.bipush 28, 2) := by decide +kernel
theorem dX6_firstDraft_34 : decode cX6_firstDraft 34 = .ok (.iload_n 1, 1) := by decide +kernel
theorem dX6_firstDraft_35 : decode cX6_firstDraft 35 = .ok (.iadd, 1) := by decide +kernel
theorem dX6_firstDraft_36 : decode cX6_firstDraft 36 = .ok (.iconst 4, 1) := by decide +kernel
theorem dX6_firstDraft_37 : decode cX6_firstDraft 37 = .ok (.iastore, 1) := by decide +kernel
theorem dX6_firstDraft_38 : decode cX6_firstDraft 38 = .ok (.iinc 1 1, 3) := by decide +kernel
theorem dX6_firstDraft_41 : decode cX6_firstDraft 41 = .ok (.goto (-18), 3) := by decide +kernel
theorem dX6_firstDraft_44 : decode cX6_firstDraft 44 = .ok (.aload_n 0, 1) := by decide +kernel
theorem dX6_firstDraft_45 : decode cX6_firstDraft 45 = .ok (.getfield 20, 3) := by decide +kernel
theorem dX6_firstDraft_48 : decode cX6_firstDraft 48 = .ok (.bipush 26, 2) := by decide +kernel
theorem dX6_firstDraft_50 : decode cX6_firstDraft 50 = .ok (.iconst 1, 1) := by decide +kernel
theorem dX6_firstDraft_51 : decode cX6_firstDraft 51 = .ok (.iastore, 1) := by decide +kernel
theorem dX6_firstDraft_52 : decode cX6_firstDraft 52 = .ok (.aload_n 0, 1) := by decide +kernel
theorem dX6_firstDraft_53 : decode cX6_firstDraft 53 = .ok (.iconst 0, 1) := by decide +kernel
theorem dX6_firstDraft_54 : decode cX6_firstDraft 54 = .ok (.putfield 50, 3) := by decide +kernel
theorem dX6_firstDraft_57 : decode cX6_firstDraft 57 = .ok (.aload_n 0, 1) := by decide +kernel
theorem dX6_firstDraft_58 : decode cX6_firstDraft 58 = .ok (.iconst 0, 1) := by decide +kernel
theorem dX6_firstDraft_59 : decode cX6_firstDraft 59 = .ok (.putfield 54, 3) := by decide +kernel
theorem dX6_firstDraft_62 : decode cX6_firstDraft 62 = .ok (.aload_n 0, 1) := by decide +kernel
theorem dX6_firstDraft_63 : decode cX6_firstDraft 63 = .ok (.iconst 0, 1) := by decide +kernel
theorem dX6_firstDraft_64 : decode cX6_firstDraft 64 = .ok (.putfield 57, 3) := by decide +kernel
theorem dX6_firstDraft_67 : decode cX6_firstDraft 67 = .ok (.aload_n 0, 1) := by decide +kernel
theorem dX6_firstDraft_68 : decode cX6_firstDraft 68 = .ok (.iconst 0, 1) := by decide +kernel
theorem dX6_firstDraft_69 : decode cX6_firstDraft 69 = .ok (.putfield 61, 3) := by decide +kernel
theorem dX6_firstDraft_72 : decode cX6_firstDraft 72 = .ok (.return_, 1) := by decide +kernel
theorem dX6_keepDraft_0 : decode cX6_keepDraft 0 = .ok (.iconst 0, 1) := by decide +kernel
theorem dX6_keepDraft_1 : decode cX6_keepDraft 1 = .ok (.istore_n 1, 1) := by decide +kernel
theorem dX6_keepDraft_2 : decode cX6_keepDraft 2 = .ok (.iload_n 1, 1) := by decide +kernel
theorem dX6_keepDraft_3 : decode cX6_keepDraft 3 = .ok (.bipush 63, 2) := by decide +kernel
theorem dX6_keepDraft_5 : decode cX6_keepDraft 5 = .ok (.if_icmp .ge 21, 3) := by decide +kernel
theorem dX6_keepDraft_8 : decode cX6_keepDraft 8 = .ok (.aload_n 0, 1) := by decide +kernel
theorem dX6_keepDraft_9 : decode cX6_keepDraft 9 = .ok (.getfield 7, 3) := by decide +kernel
theorem dX6_keepDraft_12 : decode cX6_keepDraft 12 = .ok (.iload_n 1, 1) := by decide +kernel
theorem dX6_keepDraft_13 : decode cX6_keepDraft 13 = .ok (.aload_n 0, 1) := by decide +kernel
theorem dX6_keepDraft_14 : decode cX6_keepDraft 14 = .ok (.getfield 20, 3) := by decide +kernel
theorem dX6_keepDraft_17 : decode cX6_keepDraft 17 = .ok (.iload_n 1, 1) := by decide +kernel
theorem dX6_keepDraft_18 : decode cX6_keepDraft 18 = .ok (.iaload, 1) := by decide +kernel
theorem dX6_keepDraft_19 : decode cX6_keepDraft 19 = .ok (.iastore, 1) := by decide +kernel
theorem dX6_keepDraft_20 : decode cX6_keepDraft 20 = .ok (.iinc 1 1, 3) := by decide +kernel
theorem dX6_keepDraft_23 : decode cX6_keepDraft 23 = .ok (.goto (-21), 3) := by decide +kernel
theorem dX6_keepDraft_26 : decode cX6_keepDraft 26 = .ok (.aload_n 0, 1) := by decide +kernel
theorem dX6_keepDraft_27 : decode cX6_keepDraft 27 = .ok (.aload_n 0, 1) := by decide +kernel
theorem dX6_keepDraft_28 : decode cX6_keepDraft 28 = .ok (.getfield 50, 3) := by decide +kernel
theorem dX6_keepDraft_31 : decode cX6_keepDraft 31 = .ok (.putfield 64, 3) := by decide +kernel
theorem dX6_keepDraft_34 : decode cX6_keepDraft 34 = .ok (.aload_n 0, 1) := by decide +kernel
theorem dX6_keepDraft_35 : decode cX6_keepDraft 35 = .ok (.getfield 16, 3) := by decide +kernel
theorem dX6_keepDraft_38 : decode cX6_keepDraft 38 = .ok (.iconst 0, 1) := by decide +kernel
theorem dX6_keepDraft_39 : decode cX6_keepDraft 39 = .ok (.iconst 0, 1) := by decide +kernel
theorem dX6_keepDraft_40 : decode cX6_keepDraft 40 = .ok (.bastore, 1) := by decide +kernel
theorem dX6_keepDraft_41 : decode cX6_keepDraft 41 = .ok (.aload_n 0, 1) := by decide +kernel
theorem dX6_keepDraft_42 : decode cX6_keepDraft 42 = .ok (.getfield 16, 3) := by decide +kernel
theorem dX6_keepDraft_45 : decode cX6_keepDraft 45 = .ok (.iconst 1, 1) := by decide +kernel
theorem dX6_keepDraft_46 : decode cX6_keepDraft 46 = .ok (.iconst 0, 1) := by decide +kernel
theorem dX6_keepDraft_47 : decode cX6_keepDraft 47 = .ok (.bastore, 1) := by decide +kernel
theorem dX6_keepDraft_48 : decode cX6_keepDraft 48 = .ok (.return_, 1) := by decide +kernel
theorem dX6_feed_0 : decode cX6_feed 0 = .ok (.iload_n 1, 1) := by decide +kernel
theorem dX6_feed_1 : decode cX6_feed 1 = .ok (.i2l, 1) := by decide +kernel
theorem dX6_feed_2 : decode cX6_feed 2 = .ok (.lconst 0, 1) := by decide +kernel
theorem dX6_feed_3 : decode cX6_feed 3 = .ok (.ldc2_w 67, 3) := by decide +kernel
theorem dX6_feed_6 : decode cX6_feed 6 = .ok (.invokestatic 69, 3) := by decide +kernel
theorem dX6_feed_9 : decode cX6_feed 9 = .ok (.ifCond .ne 5, 3) := by decide +kernel
theorem dX6_feed_12 : decode cX6_feed 12 = .ok (.iconst (-1), 1) := by decide +kernel
theorem dX6_feed_13 : decode cX6_feed 13 = .ok (.ireturn, 1) := by decide +kernel
theorem dX6_feed_14 : decode cX6_feed 14 = .ok (.aload_n 0, 1) := by decide +kernel
theorem dX6_feed_15 : decode cX6_feed 15 = .ok (.getfield 73, 3) := by decide +kernel
theorem dX6_feed_18 : decode cX6_feed 18 = .ok (.sipush 160, 3) := by decide +kernel
theorem dX6_feed_21 : decode cX6_feed 21 = .ok (.if_icmp .ne 6, 3) := by decide +kernel
theorem dX6_feed_24 : decode cX6_feed 24 = .ok (.bipush (-3), 2) := by decide +kernel
theorem dX6_feed_26 : decode cX6_feed 26 = .ok (.ireturn, 1) := by decide +kernel
theorem dX6_feed_27 : decode cX6_feed 27 = .ok (.aload_n 0, 1) := by decide +kernel
theorem dX6_feed_28 : decode cX6_feed 28 = .ok (.getfield 23, 3) := by decide +kernel
theorem dX6_feed_31 : decode cX6_feed 31 = .ok (.aload_n 0, 1) := by decide +kernel
theorem dX6_feed_32 : decode cX6_feed 32 = .ok (.getfield 73, 3) := by decide +kernel
theorem dX6_feed_35 : decode cX6_feed 35 = .ok (.iload_n 1, 1) := by decide +kernel
theorem dX6_feed_36 : decode cX6_feed 36 = .ok (.iastore, 1) := by decide +kernel
theorem dX6_feed_37 : decode cX6_feed 37 = .ok (.aload_n 0, 1) := by decide +kernel
theorem dX6_feed_38 : decode cX6_feed 38 = .ok (.dup, 1) := by decide +kernel
theorem dX6_feed_39 : decode cX6_feed 39 = .ok (.getfield 73, 3) := by decide +kernel
theorem dX6_feed_42 : decode cX6_feed 42 = .ok (.iconst 1, 1) := by decide +kernel
theorem dX6_feed_43 : decode cX6_feed 43 = .ok (.iadd, 1) := by decide +kernel
theorem dX6_feed_44 : decode cX6_feed 44 = .ok (.putfield 73, 3) := by decide +kernel
theorem dX6_feed_47 : decode cX6_feed 47 = .ok (.aload_n 0, 1) := by decide +kernel
theorem dX6_feed_48 : decode cX6_feed 48 = .ok (.getfield 73, 3) := by decide +kernel
theorem dX6_feed_51 : decode cX6_feed 51 = .ok (.ireturn, 1) := by decide +kernel
theorem dX6_end_0 : decode cX6_end 0 = .ok (.iload_n 1, 1) := by decide +kernel
theorem dX6_end_1 : decode cX6_end 1 = .ok (.i2l, 1) := by decide +kernel
theorem dX6_end_2 : decode cX6_end 2 = .ok (.lconst 0, 1) := by decide +kernel
theorem dX6_end_3 : decode cX6_end 3 = .ok (.aload_n 0, 1) := by decide +kernel
theorem dX6_end_4 : decode cX6_end 4 = .ok (.getfield 73, 3) := by decide +kernel
theorem dX6_end_7 : decode cX6_end 7 = .ok (.i2l, 1) := by decide +kernel
theorem dX6_end_8 : decode cX6_end 8 = .ok (.invokestatic 69, 3) := by decide +kernel
theorem dX6_end_11 : decode cX6_end 11 = .ok (.ifCond .ne 5, 3) := by decide +kernel
theorem dX6_end_14 : decode cX6_end 14 = .ok (.iconst (-1), 1) := by decide +kernel
theorem dX6_end_15 : decode cX6_end 15 = .ok (.ireturn, 1) := by decide +kernel
theorem dX6_end_16 : decode cX6_end 16 = .ok (.aload_n 0, 1) := by decide +kernel
theorem dX6_end_17 : decode cX6_end 17 = .ok (.getfield 73, 3) := by decide +kernel
theorem dX6_end_20 : decode cX6_end 20 = .ok (.istore_n 2, 1) := by decide +kernel
theorem dX6_end_21 : decode cX6_end 21 = .ok (.aload_n 0, 1) := by decide +kernel
theorem dX6_end_22 : decode cX6_end 22 = .ok (.iload_n 1, 1) := by decide +kernel
theorem dX6_end_23 : decode cX6_end 23 = .ok (.putfield 73, 3) := by decide +kernel
theorem dX6_end_26 : decode cX6_end 26 = .ok (.iload_n 2, 1) := by decide +kernel
theorem dX6_end_27 : decode cX6_end 27 = .ok (.ireturn, 1) := by decide +kernel
theorem dX6_needs_0 : decode cX6_needs 0 = .ok (.iload_n 1, 1) := by decide +kernel
theorem dX6_needs_1 : decode cX6_needs 1 = .ok (.ifCond .ne 23, 3) := by decide +kernel
theorem dX6_needs_4 : decode cX6_needs 4 = .ok (.aload_n 0, 1) := by decide +kernel
theorem dX6_needs_5 : decode cX6_needs 5 = .ok (.getfield 76, 3) := by decide +kernel
theorem dX6_needs_8 : decode cX6_needs 8 = .ok (.ifCond .ne 16, 3) := by decide +kernel
theorem dX6_needs_11 : decode cX6_needs 11 = .ok (.aload_n 0, 1) := by decide +kernel
theorem dX6_needs_12 : decode cX6_needs 12 = .ok (.iload_n 2, 1) := by decide +kernel
theorem dX6_needs_13 : decode cX6_needs 13 = .ok (.putfield 76, 3) := by decide +kernel
theorem dX6_needs_16 : decode cX6_needs 16 = .ok (.aload_n 0, 1) := by decide +kernel
theorem dX6_needs_17 : decode cX6_needs 17 = .ok (.aload_n 0, 1) := by decide +kernel
theorem dX6_needs_18 : decode cX6_needs 18 = .ok (.getfield 79, 3) := by decide +kernel
theorem dX6_needs_21 : decode cX6_needs 21 = .ok (.putfield 82, 3) := by decide +kernel
theorem dX6_needs_24 : decode cX6_needs 24 = .ok (.return_, 1) := by decide +kernel
theorem dX6_byteAt_0 : decode cX6_byteAt 0 = .ok (.iload_n 1, 1) := by decide +kernel
theorem dX6_byteAt_1 : decode cX6_byteAt 1 = .ok (.aload_n 0, 1) := by decide +kernel
theorem dX6_byteAt_2 : decode cX6_byteAt 2 = .ok (.getfield 73, 3) := by decide +kernel
theorem dX6_byteAt_5 : decode cX6_byteAt 5 = .ok (.if_icmp .ge 12, 3) := by decide +kernel
theorem dX6_byteAt_8 : decode cX6_byteAt 8 = .ok (.aload_n 0, 1) := by decide +kernel
theorem dX6_byteAt_9 : decode cX6_byteAt 9 = .ok (.getfield 23, 3) := by decide +kernel
theorem dX6_byteAt_12 : decode cX6_byteAt 12 = .ok (.iload_n 1, 1) := by decide +kernel
theorem dX6_byteAt_13 : decode cX6_byteAt 13 = .ok (.iaload, 1) := by decide +kernel
theorem dX6_byteAt_14 : decode cX6_byteAt 14 = .ok (.goto 4, 3) := by decide +kernel
theorem dX6_byteAt_17 : decode cX6_byteAt 17 = .ok (.iconst (-1), 1) := by decide +kernel
theorem dX6_byteAt_18 : decode cX6_byteAt 18 = .ok (.ireturn, 1) := by decide +kernel
theorem dX6_is_0 : decode cX6_is 0 = .ok (.aload_n 0, 1) := by decide +kernel
theorem dX6_is_1 : decode cX6_is 1 = .ok (.getfield 85, 3) := by decide +kernel
theorem dX6_is_4 : decode cX6_is 4 = .ok (.aload_n 0, 1) := by decide +kernel
theorem dX6_is_5 : decode cX6_is 5 = .ok (.getfield 79, 3) := by decide +kernel
theorem dX6_is_8 : decode cX6_is 8 = .ok (.isub, 1) := by decide +kernel
theorem dX6_is_9 : decode cX6_is 9 = .ok (.iload_n 1, 1) := by decide +kernel
theorem dX6_is_10 : decode cX6_is 10 = .ok (.if_icmp .ne 63, 3) := by decide +kernel
theorem dX6_is_13 : decode cX6_is 13 = .ok (.aload_n 0, 1) := by decide +kernel
theorem dX6_is_14 : decode cX6_is 14 = .ok (.aload_n 0, 1) := by decide +kernel
theorem dX6_is_15 : decode cX6_is 15 = .ok (.getfield 79, 3) := by decide +kernel
theorem dX6_is_18 : decode cX6_is 18 = .ok (.invokevirtual 88, 3) := by decide +kernel
theorem dX6_is_21 : decode cX6_is 21 = .ok (.iload_n 2, 1) := by decide +kernel
theorem dX6_is_22 : decode cX6_is 22 = .ok (.if_icmp .ne 51, 3) := by decide +kernel
theorem dX6_is_25 : decode cX6_is 25 = .ok (.aload_n 0, 1) := by decide +kernel
theorem dX6_is_26 : decode cX6_is 26 = .ok (.aload_n 0, 1) := by decide +kernel
theorem dX6_is_27 : decode cX6_is 27 = .ok (.getfield 79, 3) := by decide +kernel
theorem dX6_is_30 : decode cX6_is 30 = .ok (.iconst 1, 1) := by decide +kernel
theorem dX6_is_31 : decode cX6_is 31 = .ok (.iadd, 1) := by decide +kernel
theorem dX6_is_32 : decode cX6_is 32 = .ok (.invokevirtual 88, 3) := by decide +kernel
theorem dX6_is_35 : decode cX6_is 35 = .ok (.iload_n 3, 1) := by decide +kernel
theorem dX6_is_36 : decode cX6_is 36 = .ok (.if_icmp .ne 37, 3) := by decide +kernel
theorem dX6_is_39 : decode cX6_is 39 = .ok (.aload_n 0, 1) := by decide +kernel
theorem dX6_is_40 : decode cX6_is 40 = .ok (.aload_n 0, 1) := by decide +kernel
theorem dX6_is_41 : decode cX6_is 41 = .ok (.getfield 79, 3) := by decide +kernel
theorem dX6_is_44 : decode cX6_is 44 = .ok (.iconst 2, 1) := by decide +kernel
theorem dX6_is_45 : decode cX6_is 45 = .ok (.iadd, 1) := by decide +kernel
theorem dX6_is_46 : decode cX6_is 46 = .ok (.invokevirtual 88, 3) := by decide +kernel
theorem dX6_is_49 : decode cX6_is 49 = .ok (.iload 4, 2) := by decide +kernel
theorem dX6_is_51 : decode cX6_is 51 = .ok (.if_icmp .ne 22, 3) := by decide +kernel
theorem dX6_is_54 : decode cX6_is 54 = .ok (.aload_n 0, 1) := by decide +kernel
theorem dX6_is_55 : decode cX6_is 55 = .ok (.aload_n 0, 1) := by decide +kernel
theorem dX6_is_56 : decode cX6_is 56 = .ok (.getfield 79, 3) := by decide +kernel
theorem dX6_is_59 : decode cX6_is 59 = .ok (.iconst 3, 1) := by decide +kernel
theorem dX6_is_60 : decode cX6_is 60 = .ok (.iadd, 1) := by decide +kernel
theorem dX6_is_61 : decode cX6_is 61 = .ok (.invokevirtual 88, 3) := by decide +kernel
theorem dX6_is_64 : decode cX6_is 64 = .ok (.iload 5, 2) := by decide +kernel
theorem dX6_is_66 : decode cX6_is 66 = .ok (.if_icmp .ne 7, 3) := by decide +kernel
theorem dX6_is_69 : decode cX6_is 69 = .ok (.iconst 1, 1) := by decide +kernel
theorem dX6_is_70 : decode cX6_is 70 = .ok (.goto 4, 3) := by decide +kernel
theorem dX6_is_73 : decode cX6_is 73 = .ok (.iconst 0, 1) := by decide +kernel
theorem dX6_is_74 : decode cX6_is 74 = .ok (.ireturn, 1) := by decide +kernel
theorem dX6_ends_0 : decode cX6_ends 0 = .ok (.aload_n 0, 1) := by decide +kernel
theorem dX6_ends_1 : decode cX6_ends 1 = .ok (.aload_n 0, 1) := by decide +kernel
theorem dX6_ends_2 : decode cX6_ends 2 = .ok (.getfield 79, 3) := by decide +kernel
theorem dX6_ends_5 : decode cX6_ends 5 = .ok (.iconst 4, 1) := by decide +kernel
theorem dX6_ends_6 : decode cX6_ends 6 = .ok (.iadd, 1) := by decide +kernel
theorem dX6_ends_7 : decode cX6_ends 7 = .ok (.invokevirtual 88, 3) := by decide +kernel
theorem dX6_ends_10 : decode cX6_ends 10 = .ok (.iload_n 1, 1) := by decide +kernel
theorem dX6_ends_11 : decode cX6_ends 11 = .ok (.if_icmp .ne 25, 3) := by decide +kernel
theorem dX6_ends_14 : decode cX6_ends 14 = .ok (.iload_n 2, 1) := by decide +kernel
theorem dX6_ends_15 : decode cX6_ends 15 = .ok (.ifCond .eq 17, 3) := by decide +kernel
theorem dX6_ends_18 : decode cX6_ends 18 = .ok (.aload_n 0, 1) := by decide +kernel
theorem dX6_ends_19 : decode cX6_ends 19 = .ok (.aload_n 0, 1) := by decide +kernel
theorem dX6_ends_20 : decode cX6_ends 20 = .ok (.getfield 79, 3) := by decide +kernel
theorem dX6_ends_23 : decode cX6_ends 23 = .ok (.iconst 5, 1) := by decide +kernel
theorem dX6_ends_24 : decode cX6_ends 24 = .ok (.iadd, 1) := by decide +kernel
theorem dX6_ends_25 : decode cX6_ends 25 = .ok (.invokevirtual 88, 3) := by decide +kernel
theorem dX6_ends_28 : decode cX6_ends 28 = .ok (.iload_n 2, 1) := by decide +kernel
theorem dX6_ends_29 : decode cX6_ends 29 = .ok (.if_icmp .ne 7, 3) := by decide +kernel
theorem dX6_ends_32 : decode cX6_ends 32 = .ok (.iconst 1, 1) := by decide +kernel
theorem dX6_ends_33 : decode cX6_ends 33 = .ok (.goto 4, 3) := by decide +kernel
theorem dX6_ends_36 : decode cX6_ends 36 = .ok (.iconst 0, 1) := by decide +kernel
theorem dX6_ends_37 : decode cX6_ends 37 = .ok (.ireturn, 1) := by decide +kernel
theorem dX6_lineNow_0 : decode cX6_lineNow 0 = .ok (.aload_n 0, 1) := by decide +kernel
theorem dX6_lineNow_1 : decode cX6_lineNow 1 = .ok (.iconst 5, 1) := by decide +kernel
theorem dX6_lineNow_2 : decode cX6_lineNow 2 = .ok (.bipush 112, 2) := by decide +kernel
theorem dX6_lineNow_4 : decode cX6_lineNow 4 = .ok (.bipush 108, 2) := by decide +kernel
theorem dX6_lineNow_6 : decode cX6_lineNow 6 = .ok (.bipush 97, 2) := by decide +kernel
theorem dX6_lineNow_8 : decode cX6_lineNow 8 = .ok (.bipush 105, 2) := by decide +kernel
theorem dX6_lineNow_10 : decode cX6_lineNow 10 = .ok (.invokevirtual 92, 3) := by decide +kernel
theorem dX6_lineNow_13 : decode cX6_lineNow 13 = .ok (.ifCond .eq 15, 3) := by decide +kernel
theorem dX6_lineNow_16 : decode cX6_lineNow 16 = .ok (.aload_n 0, 1) := by decide +kernel
theorem dX6_lineNow_17 : decode cX6_lineNow 17 = .ok (.bipush 110, 2) := by decide +kernel
theorem dX6_lineNow_19 : decode cX6_lineNow 19 = .ok (.iconst 0, 1) := by decide +kernel
theorem dX6_lineNow_20 : decode cX6_lineNow 20 = .ok (.invokevirtual 96, 3) := by decide +kernel
theorem dX6_lineNow_23 : decode cX6_lineNow 23 = .ok (.ifCond .eq 5, 3) := by decide +kernel
theorem dX6_lineNow_26 : decode cX6_lineNow 26 = .ok (.iconst 0, 1) := by decide +kernel
theorem dX6_lineNow_27 : decode cX6_lineNow 27 = .ok (.ireturn, 1) := by decide +kernel
theorem dX6_lineNow_28 : decode cX6_lineNow 28 = .ok (.aload_n 0, 1) := by decide +kernel
theorem dX6_lineNow_29 : decode cX6_lineNow 29 = .ok (.iconst 4, 1) := by decide +kernel
theorem dX6_lineNow_30 : decode cX6_lineNow 30 = .ok (.bipush 116, 2) := by decide +kernel
theorem dX6_lineNow_32 : decode cX6_lineNow 32 = .ok (.bipush 97, 2) := by decide +kernel
theorem dX6_lineNow_34 : decode cX6_lineNow 34 = .ok (.bipush 99, 2) := by decide +kernel
theorem dX6_lineNow_36 : decode cX6_lineNow 36 = .ok (.bipush 116, 2) := by decide +kernel
theorem dX6_lineNow_38 : decode cX6_lineNow 38 = .ok (.invokevirtual 92, 3) := by decide +kernel
theorem dX6_lineNow_41 : decode cX6_lineNow 41 = .ok (.ifCond .eq 5, 3) := by decide +kernel
theorem dX6_lineNow_44 : decode cX6_lineNow 44 = .ok (.iconst 1, 1) := by decide +kernel
theorem dX6_lineNow_45 : decode cX6_lineNow 45 = .ok (.ireturn, 1) := by decide +kernel
theorem dX6_lineNow_46 : decode cX6_lineNow 46 = .ok (.aload_n 0, 1) := by decide +kernel
theorem dX6_lineNow_47 : decode cX6_lineNow 47 = .ok (.bipush 6, 2) := by decide +kernel
theorem dX6_lineNow_49 : decode cX6_lineNow 49 = .ok (.bipush 115, 2) := by decide +kernel
theorem dX6_lineNow_51 : decode cX6_lineNow 51 = .ok (.bipush 101, 2) := by decide +kernel
theorem dX6_lineNow_53 : decode cX6_lineNow 53 = .ok (.bipush 99, 2) := by decide +kernel
theorem dX6_lineNow_55 : decode cX6_lineNow 55 = .ok (.bipush 114, 2) := by decide +kernel
theorem dX6_lineNow_57 : decode cX6_lineNow 57 = .ok (.invokevirtual 92, 3) := by decide +kernel
theorem dX6_lineNow_60 : decode cX6_lineNow 60 = .ok (.ifCond .eq 16, 3) := by decide +kernel
theorem dX6_lineNow_63 : decode cX6_lineNow 63 = .ok (.aload_n 0, 1) := by decide +kernel
theorem dX6_lineNow_64 : decode cX6_lineNow 64 = .ok (.bipush 101, 2) := by decide +kernel
theorem dX6_lineNow_66 : decode cX6_lineNow 66 = .ok (.bipush 116, 2) := by decide +kernel
theorem dX6_lineNow_68 : decode cX6_lineNow 68 = .ok (.invokevirtual 96, 3) := by decide +kernel
theorem dX6_lineNow_71 : decode cX6_lineNow 71 = .ok (.ifCond .eq 5, 3) := by decide +kernel
theorem dX6_lineNow_74 : decode cX6_lineNow 74 = .ok (.iconst 2, 1) := by decide +kernel
theorem dX6_lineNow_75 : decode cX6_lineNow 75 = .ok (.ireturn, 1) := by decide +kernel
theorem dX6_lineNow_76 : decode cX6_lineNow 76 = .ok (.aload_n 0, 1) := by decide +kernel
theorem dX6_lineNow_77 : decode cX6_lineNow 77 = .ok (.iconst 4, 1) := by decide +kernel
theorem dX6_lineNow_78 : decode cX6_lineNow 78 = .ok (.bipush 106, 2) := by decide +kernel
theorem dX6_lineNow_80 : decode cX6_lineNow 80 = .ok (.bipush 111, 2) := by decide +kernel
theorem dX6_lineNow_82 : decode cX6_lineNow 82 = .ok (.bipush 107, 2) := by decide +kernel
theorem dX6_lineNow_84 : decode cX6_lineNow 84 = .ok (.bipush 101, 2) := by decide +kernel
theorem dX6_lineNow_86 : decode cX6_lineNow 86 = .ok (.invokevirtual 92, 3) := by decide +kernel
theorem dX6_lineNow_89 : decode cX6_lineNow 89 = .ok (.ifCond .eq 5, 3) := by decide +kernel
theorem dX6_lineNow_92 : decode cX6_lineNow 92 = .ok (.iconst 3, 1) := by decide +kernel
theorem dX6_lineNow_93 : decode cX6_lineNow 93 = .ok (.ireturn, 1) := by decide +kernel
theorem dX6_lineNow_94 : decode cX6_lineNow 94 = .ok (.aload_n 0, 1) := by decide +kernel
theorem dX6_lineNow_95 : decode cX6_lineNow 95 = .ok (.iconst 4, 1) := by decide +kernel
theorem dX6_lineNow_96 : decode cX6_lineNow 96 = .ok (.bipush 119, 2) := by decide +kernel
theorem dX6_lineNow_98 : decode cX6_lineNow 98 = .ok (.bipush 105, 2) := by decide +kernel
theorem dX6_lineNow_100 : decode cX6_lineNow 100 = .ok (.bipush 110, 2) := by decide +kernel
theorem dX6_lineNow_102 : decode cX6_lineNow 102 = .ok (.bipush 100, 2) := by decide +kernel
theorem dX6_lineNow_104 : decode cX6_lineNow 104 = .ok (.invokevirtual 92, 3) := by decide +kernel
theorem dX6_lineNow_107 : decode cX6_lineNow 107 = .ok (.ifCond .eq 5, 3) := by decide +kernel
theorem dX6_lineNow_110 : decode cX6_lineNow 110 = .ok (.iconst 4, 1) := by decide +kernel
theorem dX6_lineNow_111 : decode cX6_lineNow 111 = .ok (.ireturn, 1) := by decide +kernel
theorem dX6_lineNow_112 : decode cX6_lineNow 112 = .ok (.aload_n 0, 1) := by decide +kernel
theorem dX6_lineNow_113 : decode cX6_lineNow 113 = .ok (.iconst 4, 1) := by decide +kernel
theorem dX6_lineNow_114 : decode cX6_lineNow 114 = .ok (.bipush 114, 2) := by decide +kernel
theorem dX6_lineNow_116 : decode cX6_lineNow 116 = .ok (.bipush 97, 2) := by decide +kernel
theorem dX6_lineNow_118 : decode cX6_lineNow 118 = .ok (.bipush 116, 2) := by decide +kernel
theorem dX6_lineNow_120 : decode cX6_lineNow 120 = .ok (.bipush 101, 2) := by decide +kernel
theorem dX6_lineNow_122 : decode cX6_lineNow 122 = .ok (.invokevirtual 92, 3) := by decide +kernel
theorem dX6_lineNow_125 : decode cX6_lineNow 125 = .ok (.ifCond .eq 7, 3) := by decide +kernel
theorem dX6_lineNow_128 : decode cX6_lineNow 128 = .ok (.iconst 5, 1) := by decide +kernel
theorem dX6_lineNow_129 : decode cX6_lineNow 129 = .ok (.goto 36, 3) := by decide +kernel
theorem dX6_lineNow_132 : decode cX6_lineNow 132 = .ok (.aload_n 0, 1) := by decide +kernel
theorem dX6_lineNow_133 : decode cX6_lineNow 133 = .ok (.iconst 5, 1) := by decide +kernel
theorem dX6_lineNow_134 : decode cX6_lineNow 134 = .ok (.bipush 115, 2) := by decide +kernel
theorem dX6_lineNow_136 : decode cX6_lineNow 136 = .ok (.bipush 116, 2) := by decide +kernel
theorem dX6_lineNow_138 : decode cX6_lineNow 138 = .ok (.bipush 97, 2) := by decide +kernel
theorem dX6_lineNow_140 : decode cX6_lineNow 140 = .ok (.bipush 114, 2) := by decide +kernel
theorem dX6_lineNow_142 : decode cX6_lineNow 142 = .ok (.invokevirtual 92, 3) := by decide +kernel
theorem dX6_lineNow_145 : decode cX6_lineNow 145 = .ok (.ifCond .eq 18, 3) := by decide +kernel
theorem dX6_lineNow_148 : decode cX6_lineNow 148 = .ok (.aload_n 0, 1) := by decide +kernel
theorem dX6_lineNow_149 : decode cX6_lineNow 149 = .ok (.bipush 116, 2) := by decide +kernel
theorem dX6_lineNow_151 : decode cX6_lineNow 151 = .ok (.iconst 0, 1) := by decide +kernel
theorem dX6_lineNow_152 : decode cX6_lineNow 152 = .ok (.invokevirtual 96, 3) := by decide +kernel
theorem dX6_lineNow_155 : decode cX6_lineNow 155 = .ok (.ifCond .eq 8, 3) := by decide +kernel
theorem dX6_lineNow_158 : decode cX6_lineNow 158 = .ok (.bipush 6, 2) := by decide +kernel
theorem dX6_lineNow_160 : decode cX6_lineNow 160 = .ok (.goto 5, 3) := by decide +kernel
theorem dX6_lineNow_163 : decode cX6_lineNow 163 = .ok (.bipush (-4), 2) := by decide +kernel
theorem dX6_lineNow_165 : decode cX6_lineNow 165 = .ok (.ireturn, 1) := by decide +kernel
theorem dX6_takes_0 : decode cX6_takes 0 = .ok (.aload_n 0, 1) := by decide +kernel
theorem dX6_takes_1 : decode cX6_takes 1 = .ok (.getfield 76, 3) := by decide +kernel
theorem dX6_takes_4 : decode cX6_takes 4 = .ok (.ifCond .le 4, 3) := by decide +kernel
theorem dX6_takes_7 : decode cX6_takes 7 = .ok (.return_, 1) := by decide +kernel
theorem dX6_takes_8 : decode cX6_takes 8 = .ok (.aload_n 0, 1) := by decide +kernel
theorem dX6_takes_9 : decode cX6_takes 9 = .ok (.aload_n 0, 1) := by decide +kernel
theorem dX6_takes_10 : decode cX6_takes 10 = .ok (.getfield 85, 3) := by decide +kernel
theorem dX6_takes_13 : decode cX6_takes 13 = .ok (.invokevirtual 88, 3) := by decide +kernel
theorem dX6_takes_16 : decode cX6_takes 16 = .ok (.bipush 32, 2) := by decide +kernel
theorem dX6_takes_18 : decode cX6_takes 18 = .ok (.if_icmp .ne 16, 3) := by decide +kernel
theorem dX6_takes_21 : decode cX6_takes 21 = .ok (.aload_n 0, 1) := by decide +kernel
theorem dX6_takes_22 : decode cX6_takes 22 = .ok (.dup, 1) := by decide +kernel
theorem dX6_takes_23 : decode cX6_takes 23 = .ok (.getfield 85, 3) := by decide +kernel
theorem dX6_takes_26 : decode cX6_takes 26 = .ok (.iconst 1, 1) := by decide +kernel
theorem dX6_takes_27 : decode cX6_takes 27 = .ok (.iadd, 1) := by decide +kernel
theorem dX6_takes_28 : decode cX6_takes 28 = .ok (.putfield 85, 3) := by decide +kernel
theorem dX6_takes_31 : decode cX6_takes 31 = .ok (.goto (-23), 3) := by decide +kernel
theorem dX6_takes_34 : decode cX6_takes 34 = .ok (.aload_n 0, 1) := by decide +kernel
theorem dX6_takes_35 : decode cX6_takes 35 = .ok (.aload_n 0, 1) := by decide +kernel
theorem dX6_takes_36 : decode cX6_takes 36 = .ok (.getfield 85, 3) := by decide +kernel
theorem dX6_takes_39 : decode cX6_takes 39 = .ok (.putfield 79, 3) := by decide +kernel
theorem dX6_takes_42 : decode cX6_takes 42 = .ok (.aload_n 0, 1) := by decide +kernel
theorem dX6_takes_43 : decode cX6_takes 43 = .ok (.aload_n 0, 1) := by decide +kernel
theorem dX6_takes_44 : decode cX6_takes 44 = .ok (.getfield 85, 3) := by decide +kernel
theorem dX6_takes_47 : decode cX6_takes 47 = .ok (.invokevirtual 88, 3) := by decide +kernel
theorem dX6_takes_50 : decode cX6_takes 50 = .ok (.istore_n 1, 1) := by decide +kernel
theorem dX6_takes_51 : decode cX6_takes 51 = .ok (.iload_n 1, 1) := by decide +kernel
theorem dX6_takes_52 : decode cX6_takes 52 = .ok (.ifCond .ge 11, 3) := by decide +kernel
theorem dX6_takes_55 : decode cX6_takes 55 = .ok (.aload_n 0, 1) := by decide +kernel
theorem dX6_takes_56 : decode cX6_takes 56 = .ok (.iconst 0, 1) := by decide +kernel
theorem dX6_takes_57 : decode cX6_takes 57 = .ok (.putfield 100, 3) := by decide +kernel
theorem dX6_takes_60 : decode cX6_takes 60 = .ok (.goto 214, 3) := by decide +kernel
theorem dX6_takes_63 : decode cX6_takes 63 = .ok (.iload_n 1, 1) := by decide +kernel
theorem dX6_takes_64 : decode cX6_takes 64 = .ok (.i2l, 1) := by decide +kernel
theorem dX6_takes_65 : decode cX6_takes 65 = .ok (.ldc2_w 103, 3) := by decide +kernel
theorem dX6_takes_68 : decode cX6_takes 68 = .ok (.ldc2_w 105, 3) := by decide +kernel
theorem dX6_takes_71 : decode cX6_takes 71 = .ok (.invokestatic 69, 3) := by decide +kernel
theorem dX6_takes_74 : decode cX6_takes 74 = .ok (.ifCond .eq 42, 3) := by decide +kernel
theorem dX6_takes_77 : decode cX6_takes 77 = .ok (.aload_n 0, 1) := by decide +kernel
theorem dX6_takes_78 : decode cX6_takes 78 = .ok (.iconst 1, 1) := by decide +kernel
theorem dX6_takes_79 : decode cX6_takes 79 = .ok (.putfield 100, 3) := by decide +kernel
theorem dX6_takes_82 : decode cX6_takes 82 = .ok (.aload_n 0, 1) := by decide +kernel
theorem dX6_takes_83 : decode cX6_takes 83 = .ok (.aload_n 0, 1) := by decide +kernel
theorem dX6_takes_84 : decode cX6_takes 84 = .ok (.getfield 85, 3) := by decide +kernel
theorem dX6_takes_87 : decode cX6_takes 87 = .ok (.invokevirtual 88, 3) := by decide +kernel
theorem dX6_takes_90 : decode cX6_takes 90 = .ok (.i2l, 1) := by decide +kernel
theorem dX6_takes_91 : decode cX6_takes 91 = .ok (.ldc2_w 103, 3) := by decide +kernel
theorem dX6_takes_94 : decode cX6_takes 94 = .ok (.ldc2_w 105, 3) := by decide +kernel
theorem dX6_takes_97 : decode cX6_takes 97 = .ok (.invokestatic 69, 3) := by decide +kernel
theorem dX6_takes_100 : decode cX6_takes 100 = .ok (.ifCond .eq 174, 3) := by decide +kernel
theorem dX6_takes_103 : decode cX6_takes 103 = .ok (.aload_n 0, 1) := by decide +kernel
theorem dX6_takes_104 : decode cX6_takes 104 = .ok (.dup, 1) := by decide +kernel
theorem dX6_takes_105 : decode cX6_takes 105 = .ok (.getfield 85, 3) := by decide +kernel
theorem dX6_takes_108 : decode cX6_takes 108 = .ok (.iconst 1, 1) := by decide +kernel
theorem dX6_takes_109 : decode cX6_takes 109 = .ok (.iadd, 1) := by decide +kernel
theorem dX6_takes_110 : decode cX6_takes 110 = .ok (.putfield 85, 3) := by decide +kernel
theorem dX6_takes_113 : decode cX6_takes 113 = .ok (.goto (-31), 3) := by decide +kernel
theorem dX6_takes_116 : decode cX6_takes 116 = .ok (.iload_n 1, 1) := by decide +kernel
theorem dX6_takes_117 : decode cX6_takes 117 = .ok (.i2l, 1) := by decide +kernel
theorem dX6_takes_118 : decode cX6_takes 118 = .ok (.ldc2_w 107, 3) := by decide +kernel
theorem dX6_takes_121 : decode cX6_takes 121 = .ok (.ldc2_w 109, 3) := by decide +kernel
theorem dX6_takes_124 : decode cX6_takes 124 = .ok (.invokestatic 69, 3) := by decide +kernel
theorem dX6_takes_127 : decode cX6_takes 127 = .ok (.ifCond .eq 116, 3) := by decide +kernel
theorem dX6_takes_130 : decode cX6_takes 130 = .ok (.aload_n 0, 1) := by decide +kernel
theorem dX6_takes_131 : decode cX6_takes 131 = .ok (.iconst 2, 1) := by decide +kernel
theorem dX6_takes_132 : decode cX6_takes 132 = .ok (.putfield 100, 3) := by decide +kernel
theorem dX6_takes_135 : decode cX6_takes 135 = .ok (.aload_n 0, 1) := by decide +kernel
theorem dX6_takes_136 : decode cX6_takes 136 = .ok (.iconst 0, 1) := by decide +kernel
theorem dX6_takes_137 : decode cX6_takes 137 = .ok (.putfield 111, 3) := by decide +kernel
theorem dX6_takes_140 : decode cX6_takes 140 = .ok (.aload_n 0, 1) := by decide +kernel
theorem dX6_takes_141 : decode cX6_takes 141 = .ok (.aload_n 0, 1) := by decide +kernel
theorem dX6_takes_142 : decode cX6_takes 142 = .ok (.getfield 85, 3) := by decide +kernel
theorem dX6_takes_145 : decode cX6_takes 145 = .ok (.invokevirtual 88, 3) := by decide +kernel
theorem dX6_takes_148 : decode cX6_takes 148 = .ok (.i2l, 1) := by decide +kernel
theorem dX6_takes_149 : decode cX6_takes 149 = .ok (.ldc2_w 107, 3) := by decide +kernel
theorem dX6_takes_152 : decode cX6_takes 152 = .ok (.ldc2_w 109, 3) := by decide +kernel
theorem dX6_takes_155 : decode cX6_takes 155 = .ok (.invokestatic 69, 3) := by decide +kernel
theorem dX6_takes_158 : decode cX6_takes 158 = .ok (.ifCond .eq 59, 3) := by decide +kernel
theorem dX6_takes_161 : decode cX6_takes 161 = .ok (.aload_n 0, 1) := by decide +kernel
theorem dX6_takes_162 : decode cX6_takes 162 = .ok (.aload_n 0, 1) := by decide +kernel
theorem dX6_takes_163 : decode cX6_takes 163 = .ok (.getfield 85, 3) := by decide +kernel
theorem dX6_takes_166 : decode cX6_takes 166 = .ok (.aload_n 0, 1) := by decide +kernel
theorem dX6_takes_167 : decode cX6_takes 167 = .ok (.getfield 79, 3) := by decide +kernel
theorem dX6_takes_170 : decode cX6_takes 170 = .ok (.isub, 1) := by decide +kernel
theorem dX6_takes_171 : decode cX6_takes 171 = .ok (.iconst 2, 1) := by decide +kernel
theorem dX6_takes_172 : decode cX6_takes 172 = .ok (.if_icmp .ge 25, 3) := by decide +kernel
theorem dX6_takes_175 : decode cX6_takes 175 = .ok (.bipush 10, 2) := by decide +kernel
theorem dX6_takes_177 : decode cX6_takes 177 = .ok (.aload_n 0, 1) := by decide +kernel
theorem dX6_takes_178 : decode cX6_takes 178 = .ok (.getfield 111, 3) := by decide +kernel
theorem dX6_takes_181 : decode cX6_takes 181 = .ok (.imul, 1) := by decide +kernel
theorem dX6_takes_182 : decode cX6_takes 182 = .ok (.aload_n 0, 1) := by decide +kernel
theorem dX6_takes_183 : decode cX6_takes 183 = .ok (.aload_n 0, 1) := by decide +kernel
theorem dX6_takes_184 : decode cX6_takes 184 = .ok (.getfield 85, 3) := by decide +kernel
theorem dX6_takes_187 : decode cX6_takes 187 = .ok (.invokevirtual 88, 3) := by decide +kernel
theorem dX6_takes_190 : decode cX6_takes 190 = .ok (.iadd, 1) := by decide +kernel
theorem dX6_takes_191 : decode cX6_takes 191 = .ok (.bipush 48, 2) := by decide +kernel
theorem dX6_takes_193 : decode cX6_takes 193 = .ok (.isub, 1) := by decide +kernel
theorem dX6_takes_194 : decode cX6_takes 194 = .ok (.goto 7, 3) := by decide +kernel
theorem dX6_takes_197 : decode cX6_takes 197 = .ok (.aload_n 0, 1) := by decide +kernel
theorem dX6_takes_198 : decode cX6_takes 198 = .ok (.getfield 111, 3) := by decide +kernel
theorem dX6_takes_201 : decode cX6_takes 201 = .ok (.putfield 111, 3) := by decide +kernel
theorem dX6_takes_204 : decode cX6_takes 204 = .ok (.aload_n 0, 1) := by decide +kernel
theorem dX6_takes_205 : decode cX6_takes 205 = .ok (.dup, 1) := by decide +kernel
theorem dX6_takes_206 : decode cX6_takes 206 = .ok (.getfield 85, 3) := by decide +kernel
theorem dX6_takes_209 : decode cX6_takes 209 = .ok (.iconst 1, 1) := by decide +kernel
theorem dX6_takes_210 : decode cX6_takes 210 = .ok (.iadd, 1) := by decide +kernel
theorem dX6_takes_211 : decode cX6_takes 211 = .ok (.putfield 85, 3) := by decide +kernel
theorem dX6_takes_214 : decode cX6_takes 214 = .ok (.goto (-74), 3) := by decide +kernel
theorem dX6_takes_217 : decode cX6_takes 217 = .ok (.aload_n 0, 1) := by decide +kernel
theorem dX6_takes_218 : decode cX6_takes 218 = .ok (.aload_n 0, 1) := by decide +kernel
theorem dX6_takes_219 : decode cX6_takes 219 = .ok (.getfield 85, 3) := by decide +kernel
theorem dX6_takes_222 : decode cX6_takes 222 = .ok (.aload_n 0, 1) := by decide +kernel
theorem dX6_takes_223 : decode cX6_takes 223 = .ok (.getfield 79, 3) := by decide +kernel
theorem dX6_takes_226 : decode cX6_takes 226 = .ok (.isub, 1) := by decide +kernel
theorem dX6_takes_227 : decode cX6_takes 227 = .ok (.iconst 2, 1) := by decide +kernel
theorem dX6_takes_228 : decode cX6_takes 228 = .ok (.if_icmp .gt 7, 3) := by decide +kernel
theorem dX6_takes_231 : decode cX6_takes 231 = .ok (.iconst 1, 1) := by decide +kernel
theorem dX6_takes_232 : decode cX6_takes 232 = .ok (.goto 4, 3) := by decide +kernel
theorem dX6_takes_235 : decode cX6_takes 235 = .ok (.iconst 0, 1) := by decide +kernel
theorem dX6_takes_236 : decode cX6_takes 236 = .ok (.iconst 1, 1) := by decide +kernel
theorem dX6_takes_237 : decode cX6_takes 237 = .ok (.invokevirtual 114, 3) := by decide +kernel
theorem dX6_takes_240 : decode cX6_takes 240 = .ok (.goto 34, 3) := by decide +kernel
theorem dX6_takes_243 : decode cX6_takes 243 = .ok (.aload_n 0, 1) := by decide +kernel
theorem dX6_takes_244 : decode cX6_takes 244 = .ok (.iconst 3, 1) := by decide +kernel
theorem dX6_takes_245 : decode cX6_takes 245 = .ok (.putfield 100, 3) := by decide +kernel
theorem dX6_takes_248 : decode cX6_takes 248 = .ok (.aload_n 0, 1) := by decide +kernel
theorem dX6_takes_249 : decode cX6_takes 249 = .ok (.iload_n 1, 1) := by decide +kernel
theorem dX6_takes_250 : decode cX6_takes 250 = .ok (.bipush 59, 2) := by decide +kernel
theorem dX6_takes_252 : decode cX6_takes 252 = .ok (.if_icmp .ne 7, 3) := by decide +kernel
theorem dX6_takes_255 : decode cX6_takes 255 = .ok (.iconst 1, 1) := by decide +kernel
theorem dX6_takes_256 : decode cX6_takes 256 = .ok (.goto 4, 3) := by decide +kernel
theorem dX6_takes_259 : decode cX6_takes 259 = .ok (.iconst 0, 1) := by decide +kernel
theorem dX6_takes_260 : decode cX6_takes 260 = .ok (.iconst 1, 1) := by decide +kernel
theorem dX6_takes_261 : decode cX6_takes 261 = .ok (.invokevirtual 114, 3) := by decide +kernel
theorem dX6_takes_264 : decode cX6_takes 264 = .ok (.aload_n 0, 1) := by decide +kernel
theorem dX6_takes_265 : decode cX6_takes 265 = .ok (.dup, 1) := by decide +kernel
theorem dX6_takes_266 : decode cX6_takes 266 = .ok (.getfield 85, 3) := by decide +kernel
theorem dX6_takes_269 : decode cX6_takes 269 = .ok (.iconst 1, 1) := by decide +kernel
theorem dX6_takes_270 : decode cX6_takes 270 = .ok (.iadd, 1) := by decide +kernel
theorem dX6_takes_271 : decode cX6_takes 271 = .ok (.putfield 85, 3) := by decide +kernel
theorem dX6_takes_274 : decode cX6_takes 274 = .ok (.return_, 1) := by decide +kernel
theorem dX6_looked_0 : decode cX6_looked 0 = .ok (.aload_n 0, 1) := by decide +kernel
theorem dX6_looked_1 : decode cX6_looked 1 = .ok (.getfield 76, 3) := by decide +kernel
theorem dX6_looked_4 : decode cX6_looked 4 = .ok (.ifCond .ne 21, 3) := by decide +kernel
theorem dX6_looked_7 : decode cX6_looked 7 = .ok (.aload_n 0, 1) := by decide +kernel
theorem dX6_looked_8 : decode cX6_looked 8 = .ok (.aload_n 0, 1) := by decide +kernel
theorem dX6_looked_9 : decode cX6_looked 9 = .ok (.getfield 100, 3) := by decide +kernel
theorem dX6_looked_12 : decode cX6_looked 12 = .ok (.iconst 2, 1) := by decide +kernel
theorem dX6_looked_13 : decode cX6_looked 13 = .ok (.if_icmp .ne 7, 3) := by decide +kernel
theorem dX6_looked_16 : decode cX6_looked 16 = .ok (.iconst 1, 1) := by decide +kernel
theorem dX6_looked_17 : decode cX6_looked 17 = .ok (.goto 4, 3) := by decide +kernel
theorem dX6_looked_20 : decode cX6_looked 20 = .ok (.iconst 0, 1) := by decide +kernel
theorem dX6_looked_21 : decode cX6_looked 21 = .ok (.iconst 2, 1) := by decide +kernel
theorem dX6_looked_22 : decode cX6_looked 22 = .ok (.invokevirtual 114, 3) := by decide +kernel
theorem dX6_looked_25 : decode cX6_looked 25 = .ok (.aload_n 0, 1) := by decide +kernel
theorem dX6_looked_26 : decode cX6_looked 26 = .ok (.getfield 76, 3) := by decide +kernel
theorem dX6_looked_29 : decode cX6_looked 29 = .ok (.ifCond .ne 20, 3) := by decide +kernel
theorem dX6_looked_32 : decode cX6_looked 32 = .ok (.aload_n 0, 1) := by decide +kernel
theorem dX6_looked_33 : decode cX6_looked 33 = .ok (.aload_n 0, 1) := by decide +kernel
theorem dX6_looked_34 : decode cX6_looked 34 = .ok (.getfield 111, 3) := by decide +kernel
theorem dX6_looked_37 : decode cX6_looked 37 = .ok (.i2l, 1) := by decide +kernel
theorem dX6_looked_38 : decode cX6_looked 38 = .ok (.iload_n 1, 1) := by decide +kernel
theorem dX6_looked_39 : decode cX6_looked 39 = .ok (.i2l, 1) := by decide +kernel
theorem dX6_looked_40 : decode cX6_looked 40 = .ok (.iload_n 2, 1) := by decide +kernel
theorem dX6_looked_41 : decode cX6_looked 41 = .ok (.i2l, 1) := by decide +kernel
theorem dX6_looked_42 : decode cX6_looked 42 = .ok (.invokestatic 69, 3) := by decide +kernel
theorem dX6_looked_45 : decode cX6_looked 45 = .ok (.iconst 3, 1) := by decide +kernel
theorem dX6_looked_46 : decode cX6_looked 46 = .ok (.invokevirtual 114, 3) := by decide +kernel
theorem dX6_looked_49 : decode cX6_looked 49 = .ok (.aload_n 0, 1) := by decide +kernel
theorem dX6_looked_50 : decode cX6_looked 50 = .ok (.getfield 76, 3) := by decide +kernel
theorem dX6_looked_53 : decode cX6_looked 53 = .ok (.ifCond .ne 10, 3) := by decide +kernel
theorem dX6_looked_56 : decode cX6_looked 56 = .ok (.aload_n 0, 1) := by decide +kernel
theorem dX6_looked_57 : decode cX6_looked 57 = .ok (.getfield 111, 3) := by decide +kernel
theorem dX6_looked_60 : decode cX6_looked 60 = .ok (.goto 4, 3) := by decide +kernel
theorem dX6_looked_63 : decode cX6_looked 63 = .ok (.iconst 0, 1) := by decide +kernel
theorem dX6_looked_64 : decode cX6_looked 64 = .ok (.ireturn, 1) := by decide +kernel
theorem dX6_readNumber_0 : decode cX6_readNumber 0 = .ok (.aload_n 0, 1) := by decide +kernel
theorem dX6_readNumber_1 : decode cX6_readNumber 1 = .ok (.iload_n 1, 1) := by decide +kernel
theorem dX6_readNumber_2 : decode cX6_readNumber 2 = .ok (.iload_n 2, 1) := by decide +kernel
theorem dX6_readNumber_3 : decode cX6_readNumber 3 = .ok (.invokevirtual 118, 3) := by decide +kernel
theorem dX6_readNumber_6 : decode cX6_readNumber 6 = .ok (.istore_n 3, 1) := by decide +kernel
theorem dX6_readNumber_7 : decode cX6_readNumber 7 = .ok (.aload_n 0, 1) := by decide +kernel
theorem dX6_readNumber_8 : decode cX6_readNumber 8 = .ok (.invokevirtual 122, 3) := by decide +kernel
theorem dX6_readNumber_11 : decode cX6_readNumber 11 = .ok (.iload_n 3, 1) := by decide +kernel
theorem dX6_readNumber_12 : decode cX6_readNumber 12 = .ok (.ireturn, 1) := by decide +kernel
theorem dX6_readWind_0 : decode cX6_readWind 0 = .ok (.aload_n 0, 1) := by decide +kernel
theorem dX6_readWind_1 : decode cX6_readWind 1 = .ok (.iconst 0, 1) := by decide +kernel
theorem dX6_readWind_2 : decode cX6_readWind 2 = .ok (.iconst 4, 1) := by decide +kernel
theorem dX6_readWind_3 : decode cX6_readWind 3 = .ok (.invokevirtual 118, 3) := by decide +kernel
theorem dX6_readWind_6 : decode cX6_readWind 6 = .ok (.istore_n 1, 1) := by decide +kernel
theorem dX6_readWind_7 : decode cX6_readWind 7 = .ok (.aload_n 0, 1) := by decide +kernel
theorem dX6_readWind_8 : decode cX6_readWind 8 = .ok (.aload_n 0, 1) := by decide +kernel
theorem dX6_readWind_9 : decode cX6_readWind 9 = .ok (.getfield 54, 3) := by decide +kernel
theorem dX6_readWind_12 : decode cX6_readWind 12 = .ok (.iload_n 1, 1) := by decide +kernel
theorem dX6_readWind_13 : decode cX6_readWind 13 = .ok (.ishr, 1) := by decide +kernel
theorem dX6_readWind_14 : decode cX6_readWind 14 = .ok (.iconst 1, 1) := by decide +kernel
theorem dX6_readWind_15 : decode cX6_readWind 15 = .ok (.iand, 1) := by decide +kernel
theorem dX6_readWind_16 : decode cX6_readWind 16 = .ok (.ifCond .ne 7, 3) := by decide +kernel
theorem dX6_readWind_19 : decode cX6_readWind 19 = .ok (.iconst 1, 1) := by decide +kernel
theorem dX6_readWind_20 : decode cX6_readWind 20 = .ok (.goto 4, 3) := by decide +kernel
theorem dX6_readWind_23 : decode cX6_readWind 23 = .ok (.iconst 0, 1) := by decide +kernel
theorem dX6_readWind_24 : decode cX6_readWind 24 = .ok (.iconst 4, 1) := by decide +kernel
theorem dX6_readWind_25 : decode cX6_readWind 25 = .ok (.invokevirtual 114, 3) := by decide +kernel
theorem dX6_readWind_28 : decode cX6_readWind 28 = .ok (.aload_n 0, 1) := by decide +kernel
theorem dX6_readWind_29 : decode cX6_readWind 29 = .ok (.dup, 1) := by decide +kernel
theorem dX6_readWind_30 : decode cX6_readWind 30 = .ok (.getfield 54, 3) := by decide +kernel
theorem dX6_readWind_33 : decode cX6_readWind 33 = .ok (.iconst 1, 1) := by decide +kernel
theorem dX6_readWind_34 : decode cX6_readWind 34 = .ok (.iload_n 1, 1) := by decide +kernel
theorem dX6_readWind_35 : decode cX6_readWind 35 = .ok (.ishl, 1) := by decide +kernel
theorem dX6_readWind_36 : decode cX6_readWind 36 = .ok (.ior, 1) := by decide +kernel
theorem dX6_readWind_37 : decode cX6_readWind 37 = .ok (.putfield 54, 3) := by decide +kernel
theorem dX6_readWind_40 : decode cX6_readWind 40 = .ok (.aload_n 0, 1) := by decide +kernel
theorem dX6_readWind_41 : decode cX6_readWind 41 = .ok (.invokevirtual 122, 3) := by decide +kernel
theorem dX6_readWind_44 : decode cX6_readWind 44 = .ok (.aload_n 0, 1) := by decide +kernel
theorem dX6_readWind_45 : decode cX6_readWind 45 = .ok (.getfield 20, 3) := by decide +kernel
theorem dX6_readWind_48 : decode cX6_readWind 48 = .ok (.bipush 28, 2) := by decide +kernel
theorem dX6_readWind_50 : decode cX6_readWind 50 = .ok (.iload_n 1, 1) := by decide +kernel
theorem dX6_readWind_51 : decode cX6_readWind 51 = .ok (.iadd, 1) := by decide +kernel
theorem dX6_readWind_52 : decode cX6_readWind 52 = .ok (.aload_n 0, 1) := by decide +kernel
theorem dX6_readWind_53 : decode cX6_readWind 53 = .ok (.iconst 0, 1) := by decide +kernel
theorem dX6_readWind_54 : decode cX6_readWind 54 = .ok (.bipush 8, 2) := by decide +kernel
theorem dX6_readWind_56 : decode cX6_readWind 56 = .ok (.invokevirtual 125, 3) := by decide +kernel
theorem dX6_readWind_59 : decode cX6_readWind 59 = .ok (.iastore, 1) := by decide +kernel
theorem dX6_readWind_60 : decode cX6_readWind 60 = .ok (.return_, 1) := by decide +kernel
theorem dX6_readLineOf_0 : decode cX6_readLineOf 0 = .ok (.iload_n 1, 1) := by decide +kernel
theorem dX6_readLineOf_1 : decode cX6_readLineOf 1 = .ok (.tableswitch 82 4 6 #[27, 34, 51], 27) := by decide +kernel
theorem dX6_readLineOf_28 : decode cX6_readLineOf 28 = .ok (.aload_n 0, 1) := by decide +kernel
theorem dX6_readLineOf_29 : decode cX6_readLineOf 29 = .ok (.invokevirtual 128, 3) := by decide +kernel
theorem dX6_readLineOf_32 : decode cX6_readLineOf 32 = .ok (.goto 114, 3) := by decide +kernel
theorem dX6_readLineOf_35 : decode cX6_readLineOf 35 = .ok (.aload_n 0, 1) := by decide +kernel
theorem dX6_readLineOf_36 : decode cX6_readLineOf 36 = .ok (.getfield 20, 3) := by decide +kernel
theorem dX6_readLineOf_39 : decode cX6_readLineOf 39 = .ok (.bipush 26, 2) := by decide +kernel
theorem dX6_readLineOf_41 : decode cX6_readLineOf 41 = .ok (.aload_n 0, 1) := by decide +kernel
theorem dX6_readLineOf_42 : decode cX6_readLineOf 42 = .ok (.iconst 1, 1) := by decide +kernel
theorem dX6_readLineOf_43 : decode cX6_readLineOf 43 = .ok (.bipush 9, 2) := by decide +kernel
theorem dX6_readLineOf_45 : decode cX6_readLineOf 45 = .ok (.invokevirtual 125, 3) := by decide +kernel
theorem dX6_readLineOf_48 : decode cX6_readLineOf 48 = .ok (.iastore, 1) := by decide +kernel
theorem dX6_readLineOf_49 : decode cX6_readLineOf 49 = .ok (.goto 97, 3) := by decide +kernel
theorem dX6_readLineOf_52 : decode cX6_readLineOf 52 = .ok (.aload_n 0, 1) := by decide +kernel
theorem dX6_readLineOf_53 : decode cX6_readLineOf 53 = .ok (.getfield 20, 3) := by decide +kernel
theorem dX6_readLineOf_56 : decode cX6_readLineOf 56 = .ok (.bipush 24, 2) := by decide +kernel
theorem dX6_readLineOf_58 : decode cX6_readLineOf 58 = .ok (.aload_n 0, 1) := by decide +kernel
theorem dX6_readLineOf_59 : decode cX6_readLineOf 59 = .ok (.iconst 0, 1) := by decide +kernel
theorem dX6_readLineOf_60 : decode cX6_readLineOf 60 = .ok (.bipush 60, 2) := by decide +kernel
theorem dX6_readLineOf_62 : decode cX6_readLineOf 62 = .ok (.invokevirtual 125, 3) := by decide +kernel
theorem dX6_readLineOf_65 : decode cX6_readLineOf 65 = .ok (.iastore, 1) := by decide +kernel
theorem dX6_readLineOf_66 : decode cX6_readLineOf 66 = .ok (.aload_n 0, 1) := by decide +kernel
theorem dX6_readLineOf_67 : decode cX6_readLineOf 67 = .ok (.getfield 20, 3) := by decide +kernel
theorem dX6_readLineOf_70 : decode cX6_readLineOf 70 = .ok (.bipush 25, 2) := by decide +kernel
theorem dX6_readLineOf_72 : decode cX6_readLineOf 72 = .ok (.aload_n 0, 1) := by decide +kernel
theorem dX6_readLineOf_73 : decode cX6_readLineOf 73 = .ok (.iconst 0, 1) := by decide +kernel
theorem dX6_readLineOf_74 : decode cX6_readLineOf 74 = .ok (.bipush 99, 2) := by decide +kernel
theorem dX6_readLineOf_76 : decode cX6_readLineOf 76 = .ok (.invokevirtual 125, 3) := by decide +kernel
theorem dX6_readLineOf_79 : decode cX6_readLineOf 79 = .ok (.iastore, 1) := by decide +kernel
theorem dX6_readLineOf_80 : decode cX6_readLineOf 80 = .ok (.goto 66, 3) := by decide +kernel
theorem dX6_readLineOf_83 : decode cX6_readLineOf 83 = .ok (.aload_n 0, 1) := by decide +kernel
theorem dX6_readLineOf_84 : decode cX6_readLineOf 84 = .ok (.getfield 20, 3) := by decide +kernel
theorem dX6_readLineOf_87 : decode cX6_readLineOf 87 = .ok (.iconst 4, 1) := by decide +kernel
theorem dX6_readLineOf_88 : decode cX6_readLineOf 88 = .ok (.aload_n 0, 1) := by decide +kernel
theorem dX6_readLineOf_89 : decode cX6_readLineOf 89 = .ok (.getfield 50, 3) := by decide +kernel
theorem dX6_readLineOf_92 : decode cX6_readLineOf 92 = .ok (.imul, 1) := by decide +kernel
theorem dX6_readLineOf_93 : decode cX6_readLineOf 93 = .ok (.iconst 0, 1) := by decide +kernel
theorem dX6_readLineOf_94 : decode cX6_readLineOf 94 = .ok (.iadd, 1) := by decide +kernel
theorem dX6_readLineOf_95 : decode cX6_readLineOf 95 = .ok (.iload_n 1, 1) := by decide +kernel
theorem dX6_readLineOf_96 : decode cX6_readLineOf 96 = .ok (.iastore, 1) := by decide +kernel
theorem dX6_readLineOf_97 : decode cX6_readLineOf 97 = .ok (.aload_n 0, 1) := by decide +kernel
theorem dX6_readLineOf_98 : decode cX6_readLineOf 98 = .ok (.getfield 20, 3) := by decide +kernel
theorem dX6_readLineOf_101 : decode cX6_readLineOf 101 = .ok (.iconst 4, 1) := by decide +kernel
theorem dX6_readLineOf_102 : decode cX6_readLineOf 102 = .ok (.aload_n 0, 1) := by decide +kernel
theorem dX6_readLineOf_103 : decode cX6_readLineOf 103 = .ok (.getfield 50, 3) := by decide +kernel
theorem dX6_readLineOf_106 : decode cX6_readLineOf 106 = .ok (.imul, 1) := by decide +kernel
theorem dX6_readLineOf_107 : decode cX6_readLineOf 107 = .ok (.iconst 1, 1) := by decide +kernel
theorem dX6_readLineOf_108 : decode cX6_readLineOf 108 = .ok (.iadd, 1) := by decide +kernel
theorem dX6_readLineOf_109 : decode cX6_readLineOf 109 = .ok (.aload_n 0, 1) := by decide +kernel
theorem dX6_readLineOf_110 : decode cX6_readLineOf 110 = .ok (.iconst 1, 1) := by decide +kernel
theorem dX6_readLineOf_111 : decode cX6_readLineOf 111 = .ok (.bipush 9, 2) := by decide +kernel
theorem dX6_readLineOf_113 : decode cX6_readLineOf 113 = .ok (.invokevirtual 125, 3) := by decide +kernel
theorem dX6_readLineOf_116 : decode cX6_readLineOf 116 = .ok (.iastore, 1) := by decide +kernel
theorem dX6_readLineOf_117 : decode cX6_readLineOf 117 = .ok (.aload_n 0, 1) := by decide +kernel
theorem dX6_readLineOf_118 : decode cX6_readLineOf 118 = .ok (.getfield 20, 3) := by decide +kernel
theorem dX6_readLineOf_121 : decode cX6_readLineOf 121 = .ok (.iconst 4, 1) := by decide +kernel
theorem dX6_readLineOf_122 : decode cX6_readLineOf 122 = .ok (.aload_n 0, 1) := by decide +kernel
theorem dX6_readLineOf_123 : decode cX6_readLineOf 123 = .ok (.getfield 50, 3) := by decide +kernel
theorem dX6_readLineOf_126 : decode cX6_readLineOf 126 = .ok (.imul, 1) := by decide +kernel
theorem dX6_readLineOf_127 : decode cX6_readLineOf 127 = .ok (.iconst 2, 1) := by decide +kernel
theorem dX6_readLineOf_128 : decode cX6_readLineOf 128 = .ok (.iadd, 1) := by decide +kernel
theorem dX6_readLineOf_129 : decode cX6_readLineOf 129 = .ok (.aload_n 0, 1) := by decide +kernel
theorem dX6_readLineOf_130 : decode cX6_readLineOf 130 = .ok (.iconst 0, 1) := by decide +kernel
theorem dX6_readLineOf_131 : decode cX6_readLineOf 131 = .ok (.iconst 1, 1) := by decide +kernel
theorem dX6_readLineOf_132 : decode cX6_readLineOf 132 = .ok (.invokevirtual 125, 3) := by decide +kernel
theorem dX6_readLineOf_135 : decode cX6_readLineOf 135 = .ok (.iastore, 1) := by decide +kernel
theorem dX6_readLineOf_136 : decode cX6_readLineOf 136 = .ok (.aload_n 0, 1) := by decide +kernel
theorem dX6_readLineOf_137 : decode cX6_readLineOf 137 = .ok (.dup, 1) := by decide +kernel
theorem dX6_readLineOf_138 : decode cX6_readLineOf 138 = .ok (.getfield 50, 3) := by decide +kernel
theorem dX6_readLineOf_141 : decode cX6_readLineOf 141 = .ok (.iconst 1, 1) := by decide +kernel
theorem dX6_readLineOf_142 : decode cX6_readLineOf 142 = .ok (.iadd, 1) := by decide +kernel
theorem dX6_readLineOf_143 : decode cX6_readLineOf 143 = .ok (.putfield 50, 3) := by decide +kernel
theorem dX6_readLineOf_146 : decode cX6_readLineOf 146 = .ok (.return_, 1) := by decide +kernel
theorem dX6_readLine_0 : decode cX6_readLine 0 = .ok (.aload_n 0, 1) := by decide +kernel
theorem dX6_readLine_1 : decode cX6_readLine 1 = .ok (.getfield 100, 3) := by decide +kernel
theorem dX6_readLine_4 : decode cX6_readLine 4 = .ok (.iconst 1, 1) := by decide +kernel
theorem dX6_readLine_5 : decode cX6_readLine 5 = .ok (.if_icmp .ne 10, 3) := by decide +kernel
theorem dX6_readLine_8 : decode cX6_readLine 8 = .ok (.aload_n 0, 1) := by decide +kernel
theorem dX6_readLine_9 : decode cX6_readLine 9 = .ok (.invokevirtual 131, 3) := by decide +kernel
theorem dX6_readLine_12 : decode cX6_readLine 12 = .ok (.goto 5, 3) := by decide +kernel
theorem dX6_readLine_15 : decode cX6_readLine 15 = .ok (.bipush (-4), 2) := by decide +kernel
theorem dX6_readLine_17 : decode cX6_readLine 17 = .ok (.istore_n 1, 1) := by decide +kernel
theorem dX6_readLine_18 : decode cX6_readLine 18 = .ok (.aload_n 0, 1) := by decide +kernel
theorem dX6_readLine_19 : decode cX6_readLine 19 = .ok (.iload_n 1, 1) := by decide +kernel
theorem dX6_readLine_20 : decode cX6_readLine 20 = .ok (.bipush (-4), 2) := by decide +kernel
theorem dX6_readLine_22 : decode cX6_readLine 22 = .ok (.if_icmp .eq 7, 3) := by decide +kernel
theorem dX6_readLine_25 : decode cX6_readLine 25 = .ok (.iconst 1, 1) := by decide +kernel
theorem dX6_readLine_26 : decode cX6_readLine 26 = .ok (.goto 4, 3) := by decide +kernel
theorem dX6_readLine_29 : decode cX6_readLine 29 = .ok (.iconst 0, 1) := by decide +kernel
theorem dX6_readLine_30 : decode cX6_readLine 30 = .ok (.iconst 2, 1) := by decide +kernel
theorem dX6_readLine_31 : decode cX6_readLine 31 = .ok (.invokevirtual 114, 3) := by decide +kernel
theorem dX6_readLine_34 : decode cX6_readLine 34 = .ok (.aload_n 0, 1) := by decide +kernel
theorem dX6_readLine_35 : decode cX6_readLine 35 = .ok (.iload_n 1, 1) := by decide +kernel
theorem dX6_readLine_36 : decode cX6_readLine 36 = .ok (.iconst 4, 1) := by decide +kernel
theorem dX6_readLine_37 : decode cX6_readLine 37 = .ok (.if_icmp .ge 12, 3) := by decide +kernel
theorem dX6_readLine_40 : decode cX6_readLine 40 = .ok (.aload_n 0, 1) := by decide +kernel
theorem dX6_readLine_41 : decode cX6_readLine 41 = .ok (.getfield 50, 3) := by decide +kernel
theorem dX6_readLine_44 : decode cX6_readLine 44 = .ok (.bipush 6, 2) := by decide +kernel
theorem dX6_readLine_46 : decode cX6_readLine 46 = .ok (.if_icmp .ge 7, 3) := by decide +kernel
theorem dX6_readLine_49 : decode cX6_readLine 49 = .ok (.iconst 1, 1) := by decide +kernel
theorem dX6_readLine_50 : decode cX6_readLine 50 = .ok (.goto 4, 3) := by decide +kernel
theorem dX6_readLine_53 : decode cX6_readLine 53 = .ok (.iconst 0, 1) := by decide +kernel
theorem dX6_readLine_54 : decode cX6_readLine 54 = .ok (.iconst 5, 1) := by decide +kernel
theorem dX6_readLine_55 : decode cX6_readLine 55 = .ok (.invokevirtual 114, 3) := by decide +kernel
theorem dX6_readLine_58 : decode cX6_readLine 58 = .ok (.aload_n 0, 1) := by decide +kernel
theorem dX6_readLine_59 : decode cX6_readLine 59 = .ok (.iload_n 1, 1) := by decide +kernel
theorem dX6_readLine_60 : decode cX6_readLine 60 = .ok (.iconst 5, 1) := by decide +kernel
theorem dX6_readLine_61 : decode cX6_readLine 61 = .ok (.if_icmp .ne 10, 3) := by decide +kernel
theorem dX6_readLine_64 : decode cX6_readLine 64 = .ok (.aload_n 0, 1) := by decide +kernel
theorem dX6_readLine_65 : decode cX6_readLine 65 = .ok (.getfield 57, 3) := by decide +kernel
theorem dX6_readLine_68 : decode cX6_readLine 68 = .ok (.ifCond .ne 7, 3) := by decide +kernel
theorem dX6_readLine_71 : decode cX6_readLine 71 = .ok (.iconst 1, 1) := by decide +kernel
theorem dX6_readLine_72 : decode cX6_readLine 72 = .ok (.goto 4, 3) := by decide +kernel
theorem dX6_readLine_75 : decode cX6_readLine 75 = .ok (.iconst 0, 1) := by decide +kernel
theorem dX6_readLine_76 : decode cX6_readLine 76 = .ok (.iconst 4, 1) := by decide +kernel
theorem dX6_readLine_77 : decode cX6_readLine 77 = .ok (.invokevirtual 114, 3) := by decide +kernel
theorem dX6_readLine_80 : decode cX6_readLine 80 = .ok (.aload_n 0, 1) := by decide +kernel
theorem dX6_readLine_81 : decode cX6_readLine 81 = .ok (.iload_n 1, 1) := by decide +kernel
theorem dX6_readLine_82 : decode cX6_readLine 82 = .ok (.bipush 6, 2) := by decide +kernel
theorem dX6_readLine_84 : decode cX6_readLine 84 = .ok (.if_icmp .ne 10, 3) := by decide +kernel
theorem dX6_readLine_87 : decode cX6_readLine 87 = .ok (.aload_n 0, 1) := by decide +kernel
theorem dX6_readLine_88 : decode cX6_readLine 88 = .ok (.getfield 61, 3) := by decide +kernel
theorem dX6_readLine_91 : decode cX6_readLine 91 = .ok (.ifCond .ne 7, 3) := by decide +kernel
theorem dX6_readLine_94 : decode cX6_readLine 94 = .ok (.iconst 1, 1) := by decide +kernel
theorem dX6_readLine_95 : decode cX6_readLine 95 = .ok (.goto 4, 3) := by decide +kernel
theorem dX6_readLine_98 : decode cX6_readLine 98 = .ok (.iconst 0, 1) := by decide +kernel
theorem dX6_readLine_99 : decode cX6_readLine 99 = .ok (.iconst 4, 1) := by decide +kernel
theorem dX6_readLine_100 : decode cX6_readLine 100 = .ok (.invokevirtual 114, 3) := by decide +kernel
theorem dX6_readLine_103 : decode cX6_readLine 103 = .ok (.aload_n 0, 1) := by decide +kernel
theorem dX6_readLine_104 : decode cX6_readLine 104 = .ok (.aload_n 0, 1) := by decide +kernel
theorem dX6_readLine_105 : decode cX6_readLine 105 = .ok (.getfield 57, 3) := by decide +kernel
theorem dX6_readLine_108 : decode cX6_readLine 108 = .ok (.ifCond .ne 8, 3) := by decide +kernel
theorem dX6_readLine_111 : decode cX6_readLine 111 = .ok (.iload_n 1, 1) := by decide +kernel
theorem dX6_readLine_112 : decode cX6_readLine 112 = .ok (.iconst 5, 1) := by decide +kernel
theorem dX6_readLine_113 : decode cX6_readLine 113 = .ok (.if_icmp .ne 7, 3) := by decide +kernel
theorem dX6_readLine_116 : decode cX6_readLine 116 = .ok (.iconst 1, 1) := by decide +kernel
theorem dX6_readLine_117 : decode cX6_readLine 117 = .ok (.goto 4, 3) := by decide +kernel
theorem dX6_readLine_120 : decode cX6_readLine 120 = .ok (.iconst 0, 1) := by decide +kernel
theorem dX6_readLine_121 : decode cX6_readLine 121 = .ok (.putfield 57, 3) := by decide +kernel
theorem dX6_readLine_124 : decode cX6_readLine 124 = .ok (.aload_n 0, 1) := by decide +kernel
theorem dX6_readLine_125 : decode cX6_readLine 125 = .ok (.aload_n 0, 1) := by decide +kernel
theorem dX6_readLine_126 : decode cX6_readLine 126 = .ok (.getfield 61, 3) := by decide +kernel
theorem dX6_readLine_129 : decode cX6_readLine 129 = .ok (.ifCond .ne 9, 3) := by decide +kernel
theorem dX6_readLine_132 : decode cX6_readLine 132 = .ok (.iload_n 1, 1) := by decide +kernel
theorem dX6_readLine_133 : decode cX6_readLine 133 = .ok (.bipush 6, 2) := by decide +kernel
theorem dX6_readLine_135 : decode cX6_readLine 135 = .ok (.if_icmp .ne 7, 3) := by decide +kernel
theorem dX6_readLine_138 : decode cX6_readLine 138 = .ok (.iconst 1, 1) := by decide +kernel
theorem dX6_readLine_139 : decode cX6_readLine 139 = .ok (.goto 4, 3) := by decide +kernel
theorem dX6_readLine_142 : decode cX6_readLine 142 = .ok (.iconst 0, 1) := by decide +kernel
theorem dX6_readLine_143 : decode cX6_readLine 143 = .ok (.putfield 61, 3) := by decide +kernel
theorem dX6_readLine_146 : decode cX6_readLine 146 = .ok (.aload_n 0, 1) := by decide +kernel
theorem dX6_readLine_147 : decode cX6_readLine 147 = .ok (.invokevirtual 122, 3) := by decide +kernel
theorem dX6_readLine_150 : decode cX6_readLine 150 = .ok (.aload_n 0, 1) := by decide +kernel
theorem dX6_readLine_151 : decode cX6_readLine 151 = .ok (.getfield 76, 3) := by decide +kernel
theorem dX6_readLine_154 : decode cX6_readLine 154 = .ok (.ifCond .le 4, 3) := by decide +kernel
theorem dX6_readLine_157 : decode cX6_readLine 157 = .ok (.return_, 1) := by decide +kernel
theorem dX6_readLine_158 : decode cX6_readLine 158 = .ok (.aload_n 0, 1) := by decide +kernel
theorem dX6_readLine_159 : decode cX6_readLine 159 = .ok (.iload_n 1, 1) := by decide +kernel
theorem dX6_readLine_160 : decode cX6_readLine 160 = .ok (.invokevirtual 135, 3) := by decide +kernel
theorem dX6_readLine_163 : decode cX6_readLine 163 = .ok (.aload_n 0, 1) := by decide +kernel
theorem dX6_readLine_164 : decode cX6_readLine 164 = .ok (.getfield 76, 3) := by decide +kernel
theorem dX6_readLine_167 : decode cX6_readLine 167 = .ok (.ifCond .ne 21, 3) := by decide +kernel
theorem dX6_readLine_170 : decode cX6_readLine 170 = .ok (.aload_n 0, 1) := by decide +kernel
theorem dX6_readLine_171 : decode cX6_readLine 171 = .ok (.aload_n 0, 1) := by decide +kernel
theorem dX6_readLine_172 : decode cX6_readLine 172 = .ok (.getfield 100, 3) := by decide +kernel
theorem dX6_readLine_175 : decode cX6_readLine 175 = .ok (.iconst 3, 1) := by decide +kernel
theorem dX6_readLine_176 : decode cX6_readLine 176 = .ok (.if_icmp .ne 7, 3) := by decide +kernel
theorem dX6_readLine_179 : decode cX6_readLine 179 = .ok (.iconst 1, 1) := by decide +kernel
theorem dX6_readLine_180 : decode cX6_readLine 180 = .ok (.goto 4, 3) := by decide +kernel
theorem dX6_readLine_183 : decode cX6_readLine 183 = .ok (.iconst 0, 1) := by decide +kernel
theorem dX6_readLine_184 : decode cX6_readLine 184 = .ok (.iconst 2, 1) := by decide +kernel
theorem dX6_readLine_185 : decode cX6_readLine 185 = .ok (.invokevirtual 114, 3) := by decide +kernel
theorem dX6_readLine_188 : decode cX6_readLine 188 = .ok (.aload_n 0, 1) := by decide +kernel
theorem dX6_readLine_189 : decode cX6_readLine 189 = .ok (.invokevirtual 122, 3) := by decide +kernel
theorem dX6_readLine_192 : decode cX6_readLine 192 = .ok (.return_, 1) := by decide +kernel
theorem dX6_text_0 : decode cX6_text 0 = .ok (.iconst 0, 1) := by decide +kernel
theorem dX6_text_1 : decode cX6_text 1 = .ok (.istore_n 1, 1) := by decide +kernel
theorem dX6_text_2 : decode cX6_text 2 = .ok (.aload_n 0, 1) := by decide +kernel
theorem dX6_text_3 : decode cX6_text 3 = .ok (.iconst 0, 1) := by decide +kernel
theorem dX6_text_4 : decode cX6_text 4 = .ok (.putfield 76, 3) := by decide +kernel
theorem dX6_text_7 : decode cX6_text 7 = .ok (.aload_n 0, 1) := by decide +kernel
theorem dX6_text_8 : decode cX6_text 8 = .ok (.iconst 0, 1) := by decide +kernel
theorem dX6_text_9 : decode cX6_text 9 = .ok (.putfield 85, 3) := by decide +kernel
theorem dX6_text_12 : decode cX6_text 12 = .ok (.aload_n 0, 1) := by decide +kernel
theorem dX6_text_13 : decode cX6_text 13 = .ok (.invokevirtual 44, 3) := by decide +kernel
theorem dX6_text_16 : decode cX6_text 16 = .ok (.aload_n 0, 1) := by decide +kernel
theorem dX6_text_17 : decode cX6_text 17 = .ok (.invokevirtual 122, 3) := by decide +kernel
theorem dX6_text_20 : decode cX6_text 20 = .ok (.aload_n 0, 1) := by decide +kernel
theorem dX6_text_21 : decode cX6_text 21 = .ok (.getfield 76, 3) := by decide +kernel
theorem dX6_text_24 : decode cX6_text 24 = .ok (.ifCond .ne 20, 3) := by decide +kernel
theorem dX6_text_27 : decode cX6_text 27 = .ok (.aload_n 0, 1) := by decide +kernel
theorem dX6_text_28 : decode cX6_text 28 = .ok (.getfield 100, 3) := by decide +kernel
theorem dX6_text_31 : decode cX6_text 31 = .ok (.ifCond .eq 13, 3) := by decide +kernel
theorem dX6_text_34 : decode cX6_text 34 = .ok (.aload_n 0, 1) := by decide +kernel
theorem dX6_text_35 : decode cX6_text 35 = .ok (.invokevirtual 139, 3) := by decide +kernel
theorem dX6_text_38 : decode cX6_text 38 = .ok (.iinc 1 1, 3) := by decide +kernel
theorem dX6_text_41 : decode cX6_text 41 = .ok (.goto (-21), 3) := by decide +kernel
theorem dX6_text_44 : decode cX6_text 44 = .ok (.aload_n 0, 1) := by decide +kernel
theorem dX6_text_45 : decode cX6_text 45 = .ok (.iconst 0, 1) := by decide +kernel
theorem dX6_text_46 : decode cX6_text 46 = .ok (.putfield 73, 3) := by decide +kernel
theorem dX6_text_49 : decode cX6_text 49 = .ok (.aload_n 0, 1) := by decide +kernel
theorem dX6_text_50 : decode cX6_text 50 = .ok (.getfield 76, 3) := by decide +kernel
theorem dX6_text_53 : decode cX6_text 53 = .ok (.ifCond .le 11, 3) := by decide +kernel
theorem dX6_text_56 : decode cX6_text 56 = .ok (.bipush (-10), 2) := by decide +kernel
theorem dX6_text_58 : decode cX6_text 58 = .ok (.aload_n 0, 1) := by decide +kernel
theorem dX6_text_59 : decode cX6_text 59 = .ok (.getfield 82, 3) := by decide +kernel
theorem dX6_text_62 : decode cX6_text 62 = .ok (.isub, 1) := by decide +kernel
theorem dX6_text_63 : decode cX6_text 63 = .ok (.ireturn, 1) := by decide +kernel
theorem dX6_text_64 : decode cX6_text 64 = .ok (.aload_n 0, 1) := by decide +kernel
theorem dX6_text_65 : decode cX6_text 65 = .ok (.invokevirtual 47, 3) := by decide +kernel
theorem dX6_text_68 : decode cX6_text 68 = .ok (.iload_n 1, 1) := by decide +kernel
theorem dX6_text_69 : decode cX6_text 69 = .ok (.ireturn, 1) := by decide +kernel
theorem dX6_fault_0 : decode cX6_fault 0 = .ok (.aload_n 0, 1) := by decide +kernel
theorem dX6_fault_1 : decode cX6_fault 1 = .ok (.getfield 76, 3) := by decide +kernel
theorem dX6_fault_4 : decode cX6_fault 4 = .ok (.ireturn, 1) := by decide +kernel
theorem dX6_isThing_0 : decode cX6_isThing 0 = .ok (.iload_n 1, 1) := by decide +kernel
theorem dX6_isThing_1 : decode cX6_isThing 1 = .ok (.i2l, 1) := by decide +kernel
theorem dX6_isThing_2 : decode cX6_isThing 2 = .ok (.lconst 0, 1) := by decide +kernel
theorem dX6_isThing_3 : decode cX6_isThing 3 = .ok (.aload_n 0, 1) := by decide +kernel
theorem dX6_isThing_4 : decode cX6_isThing 4 = .ok (.getfield 64, 3) := by decide +kernel
theorem dX6_isThing_7 : decode cX6_isThing 7 = .ok (.iconst 1, 1) := by decide +kernel
theorem dX6_isThing_8 : decode cX6_isThing 8 = .ok (.isub, 1) := by decide +kernel
theorem dX6_isThing_9 : decode cX6_isThing 9 = .ok (.i2l, 1) := by decide +kernel
theorem dX6_isThing_10 : decode cX6_isThing 10 = .ok (.invokestatic 69, 3) := by decide +kernel
theorem dX6_isThing_13 : decode cX6_isThing 13 = .ok (.ireturn, 1) := by decide +kernel
theorem dX6_isWind_0 : decode cX6_isWind 0 = .ok (.iload_n 0, 1) := by decide +kernel
theorem dX6_isWind_1 : decode cX6_isWind 1 = .ok (.i2l, 1) := by decide +kernel
theorem dX6_isWind_2 : decode cX6_isWind 2 = .ok (.lconst 0, 1) := by decide +kernel
theorem dX6_isWind_3 : decode cX6_isWind 3 = .ok (.ldc2_w 142, 3) := by decide +kernel
theorem dX6_isWind_6 : decode cX6_isWind 6 = .ok (.invokestatic 69, 3) := by decide +kernel
theorem dX6_isWind_9 : decode cX6_isWind 9 = .ok (.ireturn, 1) := by decide +kernel
theorem dX6_isPlace_0 : decode cX6_isPlace 0 = .ok (.iload_n 0, 1) := by decide +kernel
theorem dX6_isPlace_1 : decode cX6_isPlace 1 = .ok (.i2l, 1) := by decide +kernel
theorem dX6_isPlace_2 : decode cX6_isPlace 2 = .ok (.lconst 0, 1) := by decide +kernel
theorem dX6_isPlace_3 : decode cX6_isPlace 3 = .ok (.ldc2_w 144, 3) := by decide +kernel
theorem dX6_isPlace_6 : decode cX6_isPlace 6 = .ok (.invokestatic 69, 3) := by decide +kernel
theorem dX6_isPlace_9 : decode cX6_isPlace 9 = .ok (.ireturn, 1) := by decide +kernel
theorem dX6_isPart_0 : decode cX6_isPart 0 = .ok (.iload_n 0, 1) := by decide +kernel
theorem dX6_isPart_1 : decode cX6_isPart 1 = .ok (.i2l, 1) := by decide +kernel
theorem dX6_isPart_2 : decode cX6_isPart 2 = .ok (.lconst 0, 1) := by decide +kernel
theorem dX6_isPart_3 : decode cX6_isPart 3 = .ok (.lconst 1, 1) := by decide +kernel
theorem dX6_isPart_4 : decode cX6_isPart 4 = .ok (.invokestatic 69, 3) := by decide +kernel
theorem dX6_isPart_7 : decode cX6_isPart 7 = .ok (.ireturn, 1) := by decide +kernel
theorem dX6_starts_0 : decode cX6_starts 0 = .ok (.iconst 0, 1) := by decide +kernel
theorem dX6_starts_1 : decode cX6_starts 1 = .ok (.istore_n 1, 1) := by decide +kernel
theorem dX6_starts_2 : decode cX6_starts 2 = .ok (.iload_n 1, 1) := by decide +kernel
theorem dX6_starts_3 : decode cX6_starts 3 = .ok (.bipush 63, 2) := by decide +kernel
theorem dX6_starts_5 : decode cX6_starts 5 = .ok (.if_icmp .ge 21, 3) := by decide +kernel
theorem dX6_starts_8 : decode cX6_starts 8 = .ok (.aload_n 0, 1) := by decide +kernel
theorem dX6_starts_9 : decode cX6_starts 9 = .ok (.getfield 13, 3) := by decide +kernel
theorem dX6_starts_12 : decode cX6_starts 12 = .ok (.iload_n 1, 1) := by decide +kernel
theorem dX6_starts_13 : decode cX6_starts 13 = .ok (.aload_n 0, 1) := by decide +kernel
theorem dX6_starts_14 : decode cX6_starts 14 = .ok (.getfield 7, 3) := by decide +kernel
theorem dX6_starts_17 : decode cX6_starts 17 = .ok (.iload_n 1, 1) := by decide +kernel
theorem dX6_starts_18 : decode cX6_starts 18 = .ok (.iaload, 1) := by decide +kernel
theorem dX6_starts_19 : decode cX6_starts 19 = .ok (.iastore, 1) := by decide +kernel
theorem dX6_starts_20 : decode cX6_starts 20 = .ok (.iinc 1 1, 3) := by decide +kernel
theorem dX6_starts_23 : decode cX6_starts 23 = .ok (.goto (-21), 3) := by decide +kernel
theorem dX6_starts_26 : decode cX6_starts 26 = .ok (.aload_n 0, 1) := by decide +kernel
theorem dX6_starts_27 : decode cX6_starts 27 = .ok (.iconst 0, 1) := by decide +kernel
theorem dX6_starts_28 : decode cX6_starts 28 = .ok (.putfield 146, 3) := by decide +kernel
theorem dX6_starts_31 : decode cX6_starts 31 = .ok (.aload_n 0, 1) := by decide +kernel
theorem dX6_starts_32 : decode cX6_starts 32 = .ok (.bipush (-4), 2) := by decide +kernel
theorem dX6_starts_34 : decode cX6_starts 34 = .ok (.putfield 149, 3) := by decide +kernel
theorem dX6_starts_37 : decode cX6_starts 37 = .ok (.return_, 1) := by decide +kernel
theorem dX6_settles_0 : decode cX6_settles 0 = .ok (.iconst 0, 1) := by decide +kernel
theorem dX6_settles_1 : decode cX6_settles 1 = .ok (.istore_n 1, 1) := by decide +kernel
theorem dX6_settles_2 : decode cX6_settles 2 = .ok (.iload_n 1, 1) := by decide +kernel
theorem dX6_settles_3 : decode cX6_settles 3 = .ok (.bipush 63, 2) := by decide +kernel
theorem dX6_settles_5 : decode cX6_settles 5 = .ok (.if_icmp .ge 21, 3) := by decide +kernel
theorem dX6_settles_8 : decode cX6_settles 8 = .ok (.aload_n 0, 1) := by decide +kernel
theorem dX6_settles_9 : decode cX6_settles 9 = .ok (.getfield 7, 3) := by decide +kernel
theorem dX6_settles_12 : decode cX6_settles 12 = .ok (.iload_n 1, 1) := by decide +kernel
theorem dX6_settles_13 : decode cX6_settles 13 = .ok (.aload_n 0, 1) := by decide +kernel
theorem dX6_settles_14 : decode cX6_settles 14 = .ok (.getfield 13, 3) := by decide +kernel
theorem dX6_settles_17 : decode cX6_settles 17 = .ok (.iload_n 1, 1) := by decide +kernel
theorem dX6_settles_18 : decode cX6_settles 18 = .ok (.iaload, 1) := by decide +kernel
theorem dX6_settles_19 : decode cX6_settles 19 = .ok (.iastore, 1) := by decide +kernel
theorem dX6_settles_20 : decode cX6_settles 20 = .ok (.iinc 1 1, 3) := by decide +kernel
theorem dX6_settles_23 : decode cX6_settles 23 = .ok (.goto (-21), 3) := by decide +kernel
theorem dX6_settles_26 : decode cX6_settles 26 = .ok (.return_, 1) := by decide +kernel
theorem dX6_of_0 : decode cX6_of 0 = .ok (.aload_n 0, 1) := by decide +kernel
theorem dX6_of_1 : decode cX6_of 1 = .ok (.getfield 13, 3) := by decide +kernel
theorem dX6_of_4 : decode cX6_of 4 = .ok (.iconst 4, 1) := by decide +kernel
theorem dX6_of_5 : decode cX6_of 5 = .ok (.iload_n 1, 1) := by decide +kernel
theorem dX6_of_6 : decode cX6_of 6 = .ok (.imul, 1) := by decide +kernel
theorem dX6_of_7 : decode cX6_of 7 = .ok (.iload_n 2, 1) := by decide +kernel
theorem dX6_of_8 : decode cX6_of 8 = .ok (.iadd, 1) := by decide +kernel
theorem dX6_of_9 : decode cX6_of 9 = .ok (.iaload, 1) := by decide +kernel
theorem dX6_of_10 : decode cX6_of 10 = .ok (.ireturn, 1) := by decide +kernel
theorem dX6_becomesOf_0 : decode cX6_becomesOf 0 = .ok (.aload_n 0, 1) := by decide +kernel
theorem dX6_becomesOf_1 : decode cX6_becomesOf 1 = .ok (.getfield 13, 3) := by decide +kernel
theorem dX6_becomesOf_4 : decode cX6_becomesOf 4 = .ok (.iconst 4, 1) := by decide +kernel
theorem dX6_becomesOf_5 : decode cX6_becomesOf 5 = .ok (.iload_n 1, 1) := by decide +kernel
theorem dX6_becomesOf_6 : decode cX6_becomesOf 6 = .ok (.imul, 1) := by decide +kernel
theorem dX6_becomesOf_7 : decode cX6_becomesOf 7 = .ok (.iload_n 2, 1) := by decide +kernel
theorem dX6_becomesOf_8 : decode cX6_becomesOf 8 = .ok (.iadd, 1) := by decide +kernel
theorem dX6_becomesOf_9 : decode cX6_becomesOf 9 = .ok (.iload_n 3, 1) := by decide +kernel
theorem dX6_becomesOf_10 : decode cX6_becomesOf 10 = .ok (.iastore, 1) := by decide +kernel
theorem dX6_becomesOf_11 : decode cX6_becomesOf 11 = .ok (.return_, 1) := by decide +kernel
theorem dX6_liftOf_0 : decode cX6_liftOf 0 = .ok (.aload_n 0, 1) := by decide +kernel
theorem dX6_liftOf_1 : decode cX6_liftOf 1 = .ok (.iload_n 1, 1) := by decide +kernel
theorem dX6_liftOf_2 : decode cX6_liftOf 2 = .ok (.iconst 1, 1) := by decide +kernel
theorem dX6_liftOf_3 : decode cX6_liftOf 3 = .ok (.invokevirtual 152, 3) := by decide +kernel
theorem dX6_liftOf_6 : decode cX6_liftOf 6 = .ok (.istore_n 2, 1) := by decide +kernel
theorem dX6_liftOf_7 : decode cX6_liftOf 7 = .ok (.aload_n 0, 1) := by decide +kernel
theorem dX6_liftOf_8 : decode cX6_liftOf 8 = .ok (.iload_n 1, 1) := by decide +kernel
theorem dX6_liftOf_9 : decode cX6_liftOf 9 = .ok (.iconst 3, 1) := by decide +kernel
theorem dX6_liftOf_10 : decode cX6_liftOf 10 = .ok (.invokevirtual 152, 3) := by decide +kernel
theorem dX6_liftOf_13 : decode cX6_liftOf 13 = .ok (.iconst 1, 1) := by decide +kernel
theorem dX6_liftOf_14 : decode cX6_liftOf 14 = .ok (.if_icmp .ne 7, 3) := by decide +kernel
theorem dX6_liftOf_17 : decode cX6_liftOf 17 = .ok (.iconst 1, 1) := by decide +kernel
theorem dX6_liftOf_18 : decode cX6_liftOf 18 = .ok (.goto 4, 3) := by decide +kernel
theorem dX6_liftOf_21 : decode cX6_liftOf 21 = .ok (.iconst 0, 1) := by decide +kernel
theorem dX6_liftOf_22 : decode cX6_liftOf 22 = .ok (.istore_n 3, 1) := by decide +kernel
theorem dX6_liftOf_23 : decode cX6_liftOf 23 = .ok (.aload_n 0, 1) := by decide +kernel
theorem dX6_liftOf_24 : decode cX6_liftOf 24 = .ok (.iload_n 1, 1) := by decide +kernel
theorem dX6_liftOf_25 : decode cX6_liftOf 25 = .ok (.iconst 0, 1) := by decide +kernel
theorem dX6_liftOf_26 : decode cX6_liftOf 26 = .ok (.invokevirtual 152, 3) := by decide +kernel
theorem dX6_liftOf_29 : decode cX6_liftOf 29 = .ok (.tableswitch 64 1 3 #[27, 39, 51], 27) := by decide +kernel
theorem dX6_liftOf_56 : decode cX6_liftOf 56 = .ok (.iload_n 3, 1) := by decide +kernel
theorem dX6_liftOf_57 : decode cX6_liftOf 57 = .ok (.ifCond .eq 9, 3) := by decide +kernel
theorem dX6_liftOf_60 : decode cX6_liftOf 60 = .ok (.iload_n 2, 1) := by decide +kernel
theorem dX6_liftOf_61 : decode cX6_liftOf 61 = .ok (.iconst 2, 1) := by decide +kernel
theorem dX6_liftOf_62 : decode cX6_liftOf 62 = .ok (.idiv, 1) := by decide +kernel
theorem dX6_liftOf_63 : decode cX6_liftOf 63 = .ok (.goto 4, 3) := by decide +kernel
theorem dX6_liftOf_66 : decode cX6_liftOf 66 = .ok (.iload_n 2, 1) := by decide +kernel
theorem dX6_liftOf_67 : decode cX6_liftOf 67 = .ok (.ireturn, 1) := by decide +kernel
theorem dX6_liftOf_68 : decode cX6_liftOf 68 = .ok (.iload_n 3, 1) := by decide +kernel
theorem dX6_liftOf_69 : decode cX6_liftOf 69 = .ok (.ifCond .eq 7, 3) := by decide +kernel
theorem dX6_liftOf_72 : decode cX6_liftOf 72 = .ok (.iconst 0, 1) := by decide +kernel
theorem dX6_liftOf_73 : decode cX6_liftOf 73 = .ok (.goto 6, 3) := by decide +kernel
theorem dX6_liftOf_76 : decode cX6_liftOf 76 = .ok (.iconst 2, 1) := by decide +kernel
theorem dX6_liftOf_77 : decode cX6_liftOf 77 = .ok (.iload_n 2, 1) := by decide +kernel
theorem dX6_liftOf_78 : decode cX6_liftOf 78 = .ok (.imul, 1) := by decide +kernel
theorem dX6_liftOf_79 : decode cX6_liftOf 79 = .ok (.ireturn, 1) := by decide +kernel
theorem dX6_liftOf_80 : decode cX6_liftOf 80 = .ok (.iload_n 3, 1) := by decide +kernel
theorem dX6_liftOf_81 : decode cX6_liftOf 81 = .ok (.ifCond .eq 10, 3) := by decide +kernel
theorem dX6_liftOf_84 : decode cX6_liftOf 84 = .ok (.iload_n 2, 1) := by decide +kernel
theorem dX6_liftOf_85 : decode cX6_liftOf 85 = .ok (.iconst 2, 1) := by decide +kernel
theorem dX6_liftOf_86 : decode cX6_liftOf 86 = .ok (.idiv, 1) := by decide +kernel
theorem dX6_liftOf_87 : decode cX6_liftOf 87 = .ok (.ineg, 1) := by decide +kernel
theorem dX6_liftOf_88 : decode cX6_liftOf 88 = .ok (.goto 4, 3) := by decide +kernel
theorem dX6_liftOf_91 : decode cX6_liftOf 91 = .ok (.iload_n 2, 1) := by decide +kernel
theorem dX6_liftOf_92 : decode cX6_liftOf 92 = .ok (.ireturn, 1) := by decide +kernel
theorem dX6_liftOf_93 : decode cX6_liftOf 93 = .ok (.iload_n 3, 1) := by decide +kernel
theorem dX6_liftOf_94 : decode cX6_liftOf 94 = .ok (.ifCond .eq 7, 3) := by decide +kernel
theorem dX6_liftOf_97 : decode cX6_liftOf 97 = .ok (.iconst 0, 1) := by decide +kernel
theorem dX6_liftOf_98 : decode cX6_liftOf 98 = .ok (.goto 4, 3) := by decide +kernel
theorem dX6_liftOf_101 : decode cX6_liftOf 101 = .ok (.iload_n 2, 1) := by decide +kernel
theorem dX6_liftOf_102 : decode cX6_liftOf 102 = .ok (.ireturn, 1) := by decide +kernel
theorem dX6_liftNow_0 : decode cX6_liftNow 0 = .ok (.iconst 0, 1) := by decide +kernel
theorem dX6_liftNow_1 : decode cX6_liftNow 1 = .ok (.istore_n 1, 1) := by decide +kernel
theorem dX6_liftNow_2 : decode cX6_liftNow 2 = .ok (.iconst 0, 1) := by decide +kernel
theorem dX6_liftNow_3 : decode cX6_liftNow 3 = .ok (.istore_n 2, 1) := by decide +kernel
theorem dX6_liftNow_4 : decode cX6_liftNow 4 = .ok (.iload_n 2, 1) := by decide +kernel
theorem dX6_liftNow_5 : decode cX6_liftNow 5 = .ok (.aload_n 0, 1) := by decide +kernel
theorem dX6_liftNow_6 : decode cX6_liftNow 6 = .ok (.getfield 64, 3) := by decide +kernel
theorem dX6_liftNow_9 : decode cX6_liftNow 9 = .ok (.if_icmp .ge 17, 3) := by decide +kernel
theorem dX6_liftNow_12 : decode cX6_liftNow 12 = .ok (.iload_n 1, 1) := by decide +kernel
theorem dX6_liftNow_13 : decode cX6_liftNow 13 = .ok (.aload_n 0, 1) := by decide +kernel
theorem dX6_liftNow_14 : decode cX6_liftNow 14 = .ok (.iload_n 2, 1) := by decide +kernel
theorem dX6_liftNow_15 : decode cX6_liftNow 15 = .ok (.invokevirtual 155, 3) := by decide +kernel
theorem dX6_liftNow_18 : decode cX6_liftNow 18 = .ok (.iadd, 1) := by decide +kernel
theorem dX6_liftNow_19 : decode cX6_liftNow 19 = .ok (.istore_n 1, 1) := by decide +kernel
theorem dX6_liftNow_20 : decode cX6_liftNow 20 = .ok (.iinc 2 1, 3) := by decide +kernel
theorem dX6_liftNow_23 : decode cX6_liftNow 23 = .ok (.goto (-19), 3) := by decide +kernel
theorem dX6_liftNow_26 : decode cX6_liftNow 26 = .ok (.iload_n 1, 1) := by decide +kernel
theorem dX6_liftNow_27 : decode cX6_liftNow 27 = .ok (.iconst 0, 1) := by decide +kernel
theorem dX6_liftNow_28 : decode cX6_liftNow 28 = .ok (.bipush 60, 2) := by decide +kernel
theorem dX6_liftNow_30 : decode cX6_liftNow 30 = .ok (.invokestatic 158, 3) := by decide +kernel
theorem dX6_liftNow_33 : decode cX6_liftNow 33 = .ok (.ireturn, 1) := by decide +kernel
theorem dX6_saidNow_0 : decode cX6_saidNow 0 = .ok (.iconst 0, 1) := by decide +kernel
theorem dX6_saidNow_1 : decode cX6_saidNow 1 = .ok (.istore_n 1, 1) := by decide +kernel
theorem dX6_saidNow_2 : decode cX6_saidNow 2 = .ok (.iconst 0, 1) := by decide +kernel
theorem dX6_saidNow_3 : decode cX6_saidNow 3 = .ok (.istore_n 2, 1) := by decide +kernel
theorem dX6_saidNow_4 : decode cX6_saidNow 4 = .ok (.iload_n 2, 1) := by decide +kernel
theorem dX6_saidNow_5 : decode cX6_saidNow 5 = .ok (.aload_n 0, 1) := by decide +kernel
theorem dX6_saidNow_6 : decode cX6_saidNow 6 = .ok (.getfield 64, 3) := by decide +kernel
theorem dX6_saidNow_9 : decode cX6_saidNow 9 = .ok (.if_icmp .ge 20, 3) := by decide +kernel
theorem dX6_saidNow_12 : decode cX6_saidNow 12 = .ok (.iload_n 1, 1) := by decide +kernel
theorem dX6_saidNow_13 : decode cX6_saidNow 13 = .ok (.aload_n 0, 1) := by decide +kernel
theorem dX6_saidNow_14 : decode cX6_saidNow 14 = .ok (.iload_n 2, 1) := by decide +kernel
theorem dX6_saidNow_15 : decode cX6_saidNow 15 = .ok (.iconst 3, 1) := by decide +kernel
theorem dX6_saidNow_16 : decode cX6_saidNow 16 = .ok (.invokevirtual 152, 3) := by decide +kernel
theorem dX6_saidNow_19 : decode cX6_saidNow 19 = .ok (.iload_n 2, 1) := by decide +kernel
theorem dX6_saidNow_20 : decode cX6_saidNow 20 = .ok (.ishl, 1) := by decide +kernel
theorem dX6_saidNow_21 : decode cX6_saidNow 21 = .ok (.ior, 1) := by decide +kernel
theorem dX6_saidNow_22 : decode cX6_saidNow 22 = .ok (.istore_n 1, 1) := by decide +kernel
theorem dX6_saidNow_23 : decode cX6_saidNow 23 = .ok (.iinc 2 1, 3) := by decide +kernel
theorem dX6_saidNow_26 : decode cX6_saidNow 26 = .ok (.goto (-22), 3) := by decide +kernel
theorem dX6_saidNow_29 : decode cX6_saidNow 29 = .ok (.iload_n 1, 1) := by decide +kernel
theorem dX6_saidNow_30 : decode cX6_saidNow 30 = .ok (.ireturn, 1) := by decide +kernel
theorem dX6_minuteGoes_0 : decode cX6_minuteGoes 0 = .ok (.iconst 0, 1) := by decide +kernel
theorem dX6_minuteGoes_1 : decode cX6_minuteGoes 1 = .ok (.istore_n 1, 1) := by decide +kernel
theorem dX6_minuteGoes_2 : decode cX6_minuteGoes 2 = .ok (.iload_n 1, 1) := by decide +kernel
theorem dX6_minuteGoes_3 : decode cX6_minuteGoes 3 = .ok (.aload_n 0, 1) := by decide +kernel
theorem dX6_minuteGoes_4 : decode cX6_minuteGoes 4 = .ok (.getfield 13, 3) := by decide +kernel
theorem dX6_minuteGoes_7 : decode cX6_minuteGoes 7 = .ok (.bipush 33, 2) := by decide +kernel
theorem dX6_minuteGoes_9 : decode cX6_minuteGoes 9 = .ok (.iaload, 1) := by decide +kernel
theorem dX6_minuteGoes_10 : decode cX6_minuteGoes 10 = .ok (.if_icmp .ge 60, 3) := by decide +kernel
theorem dX6_minuteGoes_13 : decode cX6_minuteGoes 13 = .ok (.aload_n 0, 1) := by decide +kernel
theorem dX6_minuteGoes_14 : decode cX6_minuteGoes 14 = .ok (.getfield 146, 3) := by decide +kernel
theorem dX6_minuteGoes_17 : decode cX6_minuteGoes 17 = .ok (.iload_n 1, 1) := by decide +kernel
theorem dX6_minuteGoes_18 : decode cX6_minuteGoes 18 = .ok (.ishr, 1) := by decide +kernel
theorem dX6_minuteGoes_19 : decode cX6_minuteGoes 19 = .ok (.iconst 1, 1) := by decide +kernel
theorem dX6_minuteGoes_20 : decode cX6_minuteGoes 20 = .ok (.iand, 1) := by decide +kernel
theorem dX6_minuteGoes_21 : decode cX6_minuteGoes 21 = .ok (.ifCond .ne 43, 3) := by decide +kernel
theorem dX6_minuteGoes_24 : decode cX6_minuteGoes 24 = .ok (.aload_n 0, 1) := by decide +kernel
theorem dX6_minuteGoes_25 : decode cX6_minuteGoes 25 = .ok (.getfield 13, 3) := by decide +kernel
theorem dX6_minuteGoes_28 : decode cX6_minuteGoes 28 = .ok (.bipush 34, 2) := by decide +kernel
theorem dX6_minuteGoes_30 : decode cX6_minuteGoes 30 = .ok (.iconst 2, 1) := by decide +kernel
theorem dX6_minuteGoes_31 : decode cX6_minuteGoes 31 = .ok (.iload_n 1, 1) := by decide +kernel
theorem dX6_minuteGoes_32 : decode cX6_minuteGoes 32 = .ok (.imul, 1) := by decide +kernel
theorem dX6_minuteGoes_33 : decode cX6_minuteGoes 33 = .ok (.iadd, 1) := by decide +kernel
theorem dX6_minuteGoes_34 : decode cX6_minuteGoes 34 = .ok (.iaload, 1) := by decide +kernel
theorem dX6_minuteGoes_35 : decode cX6_minuteGoes 35 = .ok (.aload_n 0, 1) := by decide +kernel
theorem dX6_minuteGoes_36 : decode cX6_minuteGoes 36 = .ok (.getfield 13, 3) := by decide +kernel
theorem dX6_minuteGoes_39 : decode cX6_minuteGoes 39 = .ok (.bipush 27, 2) := by decide +kernel
theorem dX6_minuteGoes_41 : decode cX6_minuteGoes 41 = .ok (.iaload, 1) := by decide +kernel
theorem dX6_minuteGoes_42 : decode cX6_minuteGoes 42 = .ok (.if_icmp .ne 22, 3) := by decide +kernel
theorem dX6_minuteGoes_45 : decode cX6_minuteGoes 45 = .ok (.aload_n 0, 1) := by decide +kernel
theorem dX6_minuteGoes_46 : decode cX6_minuteGoes 46 = .ok (.aload_n 0, 1) := by decide +kernel
theorem dX6_minuteGoes_47 : decode cX6_minuteGoes 47 = .ok (.getfield 13, 3) := by decide +kernel
theorem dX6_minuteGoes_50 : decode cX6_minuteGoes 50 = .ok (.bipush 34, 2) := by decide +kernel
theorem dX6_minuteGoes_52 : decode cX6_minuteGoes 52 = .ok (.iconst 2, 1) := by decide +kernel
theorem dX6_minuteGoes_53 : decode cX6_minuteGoes 53 = .ok (.iload_n 1, 1) := by decide +kernel
theorem dX6_minuteGoes_54 : decode cX6_minuteGoes 54 = .ok (.imul, 1) := by decide +kernel
theorem dX6_minuteGoes_55 : decode cX6_minuteGoes 55 = .ok (.iadd, 1) := by decide +kernel
theorem dX6_minuteGoes_56 : decode cX6_minuteGoes 56 = .ok (.iconst 1, 1) := by decide +kernel
theorem dX6_minuteGoes_57 : decode cX6_minuteGoes 57 = .ok (.iadd, 1) := by decide +kernel
theorem dX6_minuteGoes_58 : decode cX6_minuteGoes 58 = .ok (.iaload, 1) := by decide +kernel
theorem dX6_minuteGoes_59 : decode cX6_minuteGoes 59 = .ok (.iconst 3, 1) := by decide +kernel
theorem dX6_minuteGoes_60 : decode cX6_minuteGoes 60 = .ok (.iconst 1, 1) := by decide +kernel
theorem dX6_minuteGoes_61 : decode cX6_minuteGoes 61 = .ok (.invokevirtual 162, 3) := by decide +kernel
theorem dX6_minuteGoes_64 : decode cX6_minuteGoes 64 = .ok (.iinc 1 1, 3) := by decide +kernel
theorem dX6_minuteGoes_67 : decode cX6_minuteGoes 67 = .ok (.goto (-65), 3) := by decide +kernel
theorem dX6_minuteGoes_70 : decode cX6_minuteGoes 70 = .ok (.aload_n 0, 1) := by decide +kernel
theorem dX6_minuteGoes_71 : decode cX6_minuteGoes 71 = .ok (.getfield 149, 3) := by decide +kernel
theorem dX6_minuteGoes_74 : decode cX6_minuteGoes 74 = .ok (.bipush (-4), 2) := by decide +kernel
theorem dX6_minuteGoes_76 : decode cX6_minuteGoes 76 = .ok (.if_icmp .eq 27, 3) := by decide +kernel
theorem dX6_minuteGoes_79 : decode cX6_minuteGoes 79 = .ok (.aload_n 0, 1) := by decide +kernel
theorem dX6_minuteGoes_80 : decode cX6_minuteGoes 80 = .ok (.getfield 166, 3) := by decide +kernel
theorem dX6_minuteGoes_83 : decode cX6_minuteGoes 83 = .ok (.aload_n 0, 1) := by decide +kernel
theorem dX6_minuteGoes_84 : decode cX6_minuteGoes 84 = .ok (.getfield 13, 3) := by decide +kernel
theorem dX6_minuteGoes_87 : decode cX6_minuteGoes 87 = .ok (.bipush 27, 2) := by decide +kernel
theorem dX6_minuteGoes_89 : decode cX6_minuteGoes 89 = .ok (.iaload, 1) := by decide +kernel
theorem dX6_minuteGoes_90 : decode cX6_minuteGoes 90 = .ok (.if_icmp .ne 13, 3) := by decide +kernel
theorem dX6_minuteGoes_93 : decode cX6_minuteGoes 93 = .ok (.aload_n 0, 1) := by decide +kernel
theorem dX6_minuteGoes_94 : decode cX6_minuteGoes 94 = .ok (.aload_n 0, 1) := by decide +kernel
theorem dX6_minuteGoes_95 : decode cX6_minuteGoes 95 = .ok (.getfield 149, 3) := by decide +kernel
theorem dX6_minuteGoes_98 : decode cX6_minuteGoes 98 = .ok (.iconst 3, 1) := by decide +kernel
theorem dX6_minuteGoes_99 : decode cX6_minuteGoes 99 = .ok (.iconst 1, 1) := by decide +kernel
theorem dX6_minuteGoes_100 : decode cX6_minuteGoes 100 = .ok (.invokevirtual 162, 3) := by decide +kernel
theorem dX6_minuteGoes_103 : decode cX6_minuteGoes 103 = .ok (.aload_n 0, 1) := by decide +kernel
theorem dX6_minuteGoes_104 : decode cX6_minuteGoes 104 = .ok (.invokevirtual 169, 3) := by decide +kernel
theorem dX6_minuteGoes_107 : decode cX6_minuteGoes 107 = .ok (.istore_n 1, 1) := by decide +kernel
theorem dX6_minuteGoes_108 : decode cX6_minuteGoes 108 = .ok (.aload_n 0, 1) := by decide +kernel
theorem dX6_minuteGoes_109 : decode cX6_minuteGoes 109 = .ok (.getfield 13, 3) := by decide +kernel
theorem dX6_minuteGoes_112 : decode cX6_minuteGoes 112 = .ok (.bipush 24, 2) := by decide +kernel
theorem dX6_minuteGoes_114 : decode cX6_minuteGoes 114 = .ok (.iload_n 1, 1) := by decide +kernel
theorem dX6_minuteGoes_115 : decode cX6_minuteGoes 115 = .ok (.aload_n 0, 1) := by decide +kernel
theorem dX6_minuteGoes_116 : decode cX6_minuteGoes 116 = .ok (.getfield 13, 3) := by decide +kernel
theorem dX6_minuteGoes_119 : decode cX6_minuteGoes 119 = .ok (.bipush 24, 2) := by decide +kernel
theorem dX6_minuteGoes_121 : decode cX6_minuteGoes 121 = .ok (.iaload, 1) := by decide +kernel
theorem dX6_minuteGoes_122 : decode cX6_minuteGoes 122 = .ok (.aload_n 0, 1) := by decide +kernel
theorem dX6_minuteGoes_123 : decode cX6_minuteGoes 123 = .ok (.getfield 13, 3) := by decide +kernel
theorem dX6_minuteGoes_126 : decode cX6_minuteGoes 126 = .ok (.bipush 26, 2) := by decide +kernel
theorem dX6_minuteGoes_128 : decode cX6_minuteGoes 128 = .ok (.iaload, 1) := by decide +kernel
theorem dX6_minuteGoes_129 : decode cX6_minuteGoes 129 = .ok (.isub, 1) := by decide +kernel
theorem dX6_minuteGoes_130 : decode cX6_minuteGoes 130 = .ok (.aload_n 0, 1) := by decide +kernel
theorem dX6_minuteGoes_131 : decode cX6_minuteGoes 131 = .ok (.getfield 13, 3) := by decide +kernel
theorem dX6_minuteGoes_134 : decode cX6_minuteGoes 134 = .ok (.bipush 24, 2) := by decide +kernel
theorem dX6_minuteGoes_136 : decode cX6_minuteGoes 136 = .ok (.iaload, 1) := by decide +kernel
theorem dX6_minuteGoes_137 : decode cX6_minuteGoes 137 = .ok (.aload_n 0, 1) := by decide +kernel
theorem dX6_minuteGoes_138 : decode cX6_minuteGoes 138 = .ok (.getfield 13, 3) := by decide +kernel
theorem dX6_minuteGoes_141 : decode cX6_minuteGoes 141 = .ok (.bipush 26, 2) := by decide +kernel
theorem dX6_minuteGoes_143 : decode cX6_minuteGoes 143 = .ok (.iaload, 1) := by decide +kernel
theorem dX6_minuteGoes_144 : decode cX6_minuteGoes 144 = .ok (.iadd, 1) := by decide +kernel
theorem dX6_minuteGoes_145 : decode cX6_minuteGoes 145 = .ok (.invokestatic 158, 3) := by decide +kernel
theorem dX6_minuteGoes_148 : decode cX6_minuteGoes 148 = .ok (.iastore, 1) := by decide +kernel
theorem dX6_minuteGoes_149 : decode cX6_minuteGoes 149 = .ok (.aload_n 0, 1) := by decide +kernel
theorem dX6_minuteGoes_150 : decode cX6_minuteGoes 150 = .ok (.getfield 13, 3) := by decide +kernel
theorem dX6_minuteGoes_153 : decode cX6_minuteGoes 153 = .ok (.bipush 24, 2) := by decide +kernel
theorem dX6_minuteGoes_155 : decode cX6_minuteGoes 155 = .ok (.iaload, 1) := by decide +kernel
theorem dX6_minuteGoes_156 : decode cX6_minuteGoes 156 = .ok (.bipush 50, 2) := by decide +kernel
theorem dX6_minuteGoes_158 : decode cX6_minuteGoes 158 = .ok (.if_icmp .ge 16, 3) := by decide +kernel
theorem dX6_minuteGoes_161 : decode cX6_minuteGoes 161 = .ok (.aload_n 0, 1) := by decide +kernel
theorem dX6_minuteGoes_162 : decode cX6_minuteGoes 162 = .ok (.getfield 13, 3) := by decide +kernel
theorem dX6_minuteGoes_165 : decode cX6_minuteGoes 165 = .ok (.bipush 24, 2) := by decide +kernel
theorem dX6_minuteGoes_167 : decode cX6_minuteGoes 167 = .ok (.iaload, 1) := by decide +kernel
theorem dX6_minuteGoes_168 : decode cX6_minuteGoes 168 = .ok (.bipush 10, 2) := by decide +kernel
theorem dX6_minuteGoes_170 : decode cX6_minuteGoes 170 = .ok (.idiv, 1) := by decide +kernel
theorem dX6_minuteGoes_171 : decode cX6_minuteGoes 171 = .ok (.goto 4, 3) := by decide +kernel
theorem dX6_minuteGoes_174 : decode cX6_minuteGoes 174 = .ok (.iconst 4, 1) := by decide +kernel
theorem dX6_minuteGoes_175 : decode cX6_minuteGoes 175 = .ok (.istore_n 2, 1) := by decide +kernel
theorem dX6_minuteGoes_176 : decode cX6_minuteGoes 176 = .ok (.aload_n 0, 1) := by decide +kernel
theorem dX6_minuteGoes_177 : decode cX6_minuteGoes 177 = .ok (.getfield 13, 3) := by decide +kernel
theorem dX6_minuteGoes_180 : decode cX6_minuteGoes 180 = .ok (.bipush 25, 2) := by decide +kernel
theorem dX6_minuteGoes_182 : decode cX6_minuteGoes 182 = .ok (.aload_n 0, 1) := by decide +kernel
theorem dX6_minuteGoes_183 : decode cX6_minuteGoes 183 = .ok (.getfield 13, 3) := by decide +kernel
theorem dX6_minuteGoes_186 : decode cX6_minuteGoes 186 = .ok (.bipush 25, 2) := by decide +kernel
theorem dX6_minuteGoes_188 : decode cX6_minuteGoes 188 = .ok (.iaload, 1) := by decide +kernel
theorem dX6_minuteGoes_189 : decode cX6_minuteGoes 189 = .ok (.aload_n 0, 1) := by decide +kernel
theorem dX6_minuteGoes_190 : decode cX6_minuteGoes 190 = .ok (.getfield 13, 3) := by decide +kernel
theorem dX6_minuteGoes_193 : decode cX6_minuteGoes 193 = .ok (.bipush 28, 2) := by decide +kernel
theorem dX6_minuteGoes_195 : decode cX6_minuteGoes 195 = .ok (.iload_n 2, 1) := by decide +kernel
theorem dX6_minuteGoes_196 : decode cX6_minuteGoes 196 = .ok (.iadd, 1) := by decide +kernel
theorem dX6_minuteGoes_197 : decode cX6_minuteGoes 197 = .ok (.iaload, 1) := by decide +kernel
theorem dX6_minuteGoes_198 : decode cX6_minuteGoes 198 = .ok (.iadd, 1) := by decide +kernel
theorem dX6_minuteGoes_199 : decode cX6_minuteGoes 199 = .ok (.iconst 4, 1) := by decide +kernel
theorem dX6_minuteGoes_200 : decode cX6_minuteGoes 200 = .ok (.isub, 1) := by decide +kernel
theorem dX6_minuteGoes_201 : decode cX6_minuteGoes 201 = .ok (.iconst 0, 1) := by decide +kernel
theorem dX6_minuteGoes_202 : decode cX6_minuteGoes 202 = .ok (.bipush 99, 2) := by decide +kernel
theorem dX6_minuteGoes_204 : decode cX6_minuteGoes 204 = .ok (.invokestatic 158, 3) := by decide +kernel
theorem dX6_minuteGoes_207 : decode cX6_minuteGoes 207 = .ok (.iastore, 1) := by decide +kernel
theorem dX6_minuteGoes_208 : decode cX6_minuteGoes 208 = .ok (.aload_n 0, 1) := by decide +kernel
theorem dX6_minuteGoes_209 : decode cX6_minuteGoes 209 = .ok (.getfield 13, 3) := by decide +kernel
theorem dX6_minuteGoes_212 : decode cX6_minuteGoes 212 = .ok (.bipush 27, 2) := by decide +kernel
theorem dX6_minuteGoes_214 : decode cX6_minuteGoes 214 = .ok (.dup2, 1) := by decide +kernel
theorem dX6_minuteGoes_215 : decode cX6_minuteGoes 215 = .ok (.iaload, 1) := by decide +kernel
theorem dX6_minuteGoes_216 : decode cX6_minuteGoes 216 = .ok (.iconst 1, 1) := by decide +kernel
theorem dX6_minuteGoes_217 : decode cX6_minuteGoes 217 = .ok (.iadd, 1) := by decide +kernel
theorem dX6_minuteGoes_218 : decode cX6_minuteGoes 218 = .ok (.iastore, 1) := by decide +kernel
theorem dX6_minuteGoes_219 : decode cX6_minuteGoes 219 = .ok (.return_, 1) := by decide +kernel
theorem dX6_minutesGo_0 : decode cX6_minutesGo 0 = .ok (.iconst 0, 1) := by decide +kernel
theorem dX6_minutesGo_1 : decode cX6_minutesGo 1 = .ok (.istore_n 2, 1) := by decide +kernel
theorem dX6_minutesGo_2 : decode cX6_minutesGo 2 = .ok (.iload_n 2, 1) := by decide +kernel
theorem dX6_minutesGo_3 : decode cX6_minutesGo 3 = .ok (.iload_n 1, 1) := by decide +kernel
theorem dX6_minutesGo_4 : decode cX6_minutesGo 4 = .ok (.if_icmp .ge 13, 3) := by decide +kernel
theorem dX6_minutesGo_7 : decode cX6_minutesGo 7 = .ok (.aload_n 0, 1) := by decide +kernel
theorem dX6_minutesGo_8 : decode cX6_minutesGo 8 = .ok (.invokevirtual 172, 3) := by decide +kernel
theorem dX6_minutesGo_11 : decode cX6_minutesGo 11 = .ok (.iinc 2 1, 3) := by decide +kernel
theorem dX6_minutesGo_14 : decode cX6_minutesGo 14 = .ok (.goto (-12), 3) := by decide +kernel
theorem dX6_minutesGo_17 : decode cX6_minutesGo 17 = .ok (.return_, 1) := by decide +kernel
theorem dX6_offPlace_0 : decode cX6_offPlace 0 = .ok (.aload_n 0, 1) := by decide +kernel
theorem dX6_offPlace_1 : decode cX6_offPlace 1 = .ok (.getfield 13, 3) := by decide +kernel
theorem dX6_offPlace_4 : decode cX6_offPlace 4 = .ok (.bipush 25, 2) := by decide +kernel
theorem dX6_offPlace_6 : decode cX6_offPlace 6 = .ok (.iaload, 1) := by decide +kernel
theorem dX6_offPlace_7 : decode cX6_offPlace 7 = .ok (.iload_n 1, 1) := by decide +kernel
theorem dX6_offPlace_8 : decode cX6_offPlace 8 = .ok (.if_icmp .le 15, 3) := by decide +kernel
theorem dX6_offPlace_11 : decode cX6_offPlace 11 = .ok (.aload_n 0, 1) := by decide +kernel
theorem dX6_offPlace_12 : decode cX6_offPlace 12 = .ok (.getfield 13, 3) := by decide +kernel
theorem dX6_offPlace_15 : decode cX6_offPlace 15 = .ok (.bipush 25, 2) := by decide +kernel
theorem dX6_offPlace_17 : decode cX6_offPlace 17 = .ok (.iaload, 1) := by decide +kernel
theorem dX6_offPlace_18 : decode cX6_offPlace 18 = .ok (.iload_n 1, 1) := by decide +kernel
theorem dX6_offPlace_19 : decode cX6_offPlace 19 = .ok (.isub, 1) := by decide +kernel
theorem dX6_offPlace_20 : decode cX6_offPlace 20 = .ok (.goto 12, 3) := by decide +kernel
theorem dX6_offPlace_23 : decode cX6_offPlace 23 = .ok (.iload_n 1, 1) := by decide +kernel
theorem dX6_offPlace_24 : decode cX6_offPlace 24 = .ok (.aload_n 0, 1) := by decide +kernel
theorem dX6_offPlace_25 : decode cX6_offPlace 25 = .ok (.getfield 13, 3) := by decide +kernel
theorem dX6_offPlace_28 : decode cX6_offPlace 28 = .ok (.bipush 25, 2) := by decide +kernel
theorem dX6_offPlace_30 : decode cX6_offPlace 30 = .ok (.iaload, 1) := by decide +kernel
theorem dX6_offPlace_31 : decode cX6_offPlace 31 = .ok (.isub, 1) := by decide +kernel
theorem dX6_offPlace_32 : decode cX6_offPlace 32 = .ok (.ireturn, 1) := by decide +kernel
theorem dX6_rule_0 : decode cX6_rule 0 = .ok (.aload_n 0, 1) := by decide +kernel
theorem dX6_rule_1 : decode cX6_rule 1 = .ok (.invokevirtual 175, 3) := by decide +kernel
theorem dX6_rule_4 : decode cX6_rule 4 = .ok (.iload_n 1, 1) := by decide +kernel
theorem dX6_rule_5 : decode cX6_rule 5 = .ok (.tableswitch 102 0 7 #[47, 52, 60, 68, 76, 81, 86, 94], 47) := by decide +kernel
theorem dX6_rule_52 : decode cX6_rule 52 = .ok (.aload_n 0, 1) := by decide +kernel
theorem dX6_rule_53 : decode cX6_rule 53 = .ok (.getfield 64, 3) := by decide +kernel
theorem dX6_rule_56 : decode cX6_rule 56 = .ok (.ireturn, 1) := by decide +kernel
theorem dX6_rule_57 : decode cX6_rule 57 = .ok (.aload_n 0, 1) := by decide +kernel
theorem dX6_rule_58 : decode cX6_rule 58 = .ok (.getfield 7, 3) := by decide +kernel
theorem dX6_rule_61 : decode cX6_rule 61 = .ok (.bipush 27, 2) := by decide +kernel
theorem dX6_rule_63 : decode cX6_rule 63 = .ok (.iaload, 1) := by decide +kernel
theorem dX6_rule_64 : decode cX6_rule 64 = .ok (.ireturn, 1) := by decide +kernel
theorem dX6_rule_65 : decode cX6_rule 65 = .ok (.aload_n 0, 1) := by decide +kernel
theorem dX6_rule_66 : decode cX6_rule 66 = .ok (.getfield 7, 3) := by decide +kernel
theorem dX6_rule_69 : decode cX6_rule 69 = .ok (.bipush 24, 2) := by decide +kernel
theorem dX6_rule_71 : decode cX6_rule 71 = .ok (.iaload, 1) := by decide +kernel
theorem dX6_rule_72 : decode cX6_rule 72 = .ok (.ireturn, 1) := by decide +kernel
theorem dX6_rule_73 : decode cX6_rule 73 = .ok (.aload_n 0, 1) := by decide +kernel
theorem dX6_rule_74 : decode cX6_rule 74 = .ok (.getfield 7, 3) := by decide +kernel
theorem dX6_rule_77 : decode cX6_rule 77 = .ok (.bipush 25, 2) := by decide +kernel
theorem dX6_rule_79 : decode cX6_rule 79 = .ok (.iaload, 1) := by decide +kernel
theorem dX6_rule_80 : decode cX6_rule 80 = .ok (.ireturn, 1) := by decide +kernel
theorem dX6_rule_81 : decode cX6_rule 81 = .ok (.aload_n 0, 1) := by decide +kernel
theorem dX6_rule_82 : decode cX6_rule 82 = .ok (.invokevirtual 169, 3) := by decide +kernel
theorem dX6_rule_85 : decode cX6_rule 85 = .ok (.ireturn, 1) := by decide +kernel
theorem dX6_rule_86 : decode cX6_rule 86 = .ok (.aload_n 0, 1) := by decide +kernel
theorem dX6_rule_87 : decode cX6_rule 87 = .ok (.invokevirtual 178, 3) := by decide +kernel
theorem dX6_rule_90 : decode cX6_rule 90 = .ok (.ireturn, 1) := by decide +kernel
theorem dX6_rule_91 : decode cX6_rule 91 = .ok (.aload_n 0, 1) := by decide +kernel
theorem dX6_rule_92 : decode cX6_rule 92 = .ok (.getfield 7, 3) := by decide +kernel
theorem dX6_rule_95 : decode cX6_rule 95 = .ok (.bipush 26, 2) := by decide +kernel
theorem dX6_rule_97 : decode cX6_rule 97 = .ok (.iaload, 1) := by decide +kernel
theorem dX6_rule_98 : decode cX6_rule 98 = .ok (.ireturn, 1) := by decide +kernel
theorem dX6_rule_99 : decode cX6_rule 99 = .ok (.aload_n 0, 1) := by decide +kernel
theorem dX6_rule_100 : decode cX6_rule 100 = .ok (.getfield 7, 3) := by decide +kernel
theorem dX6_rule_103 : decode cX6_rule 103 = .ok (.bipush 33, 2) := by decide +kernel
theorem dX6_rule_105 : decode cX6_rule 105 = .ok (.iaload, 1) := by decide +kernel
theorem dX6_rule_106 : decode cX6_rule 106 = .ok (.ireturn, 1) := by decide +kernel
theorem dX6_rule_107 : decode cX6_rule 107 = .ok (.iconst (-1), 1) := by decide +kernel
theorem dX6_rule_108 : decode cX6_rule 108 = .ok (.ireturn, 1) := by decide +kernel
theorem dX6_thing_0 : decode cX6_thing 0 = .ok (.aload_n 0, 1) := by decide +kernel
theorem dX6_thing_1 : decode cX6_thing 1 = .ok (.iload_n 1, 1) := by decide +kernel
theorem dX6_thing_2 : decode cX6_thing 2 = .ok (.invokevirtual 181, 3) := by decide +kernel
theorem dX6_thing_5 : decode cX6_thing 5 = .ok (.ifCond .eq 15, 3) := by decide +kernel
theorem dX6_thing_8 : decode cX6_thing 8 = .ok (.iload_n 2, 1) := by decide +kernel
theorem dX6_thing_9 : decode cX6_thing 9 = .ok (.i2l, 1) := by decide +kernel
theorem dX6_thing_10 : decode cX6_thing 10 = .ok (.lconst 0, 1) := by decide +kernel
theorem dX6_thing_11 : decode cX6_thing 11 = .ok (.ldc2_w 142, 3) := by decide +kernel
theorem dX6_thing_14 : decode cX6_thing 14 = .ok (.invokestatic 69, 3) := by decide +kernel
theorem dX6_thing_17 : decode cX6_thing 17 = .ok (.ifCond .ne 5, 3) := by decide +kernel
theorem dX6_thing_20 : decode cX6_thing 20 = .ok (.iconst (-1), 1) := by decide +kernel
theorem dX6_thing_21 : decode cX6_thing 21 = .ok (.ireturn, 1) := by decide +kernel
theorem dX6_thing_22 : decode cX6_thing 22 = .ok (.aload_n 0, 1) := by decide +kernel
theorem dX6_thing_23 : decode cX6_thing 23 = .ok (.invokevirtual 175, 3) := by decide +kernel
theorem dX6_thing_26 : decode cX6_thing 26 = .ok (.iload_n 2, 1) := by decide +kernel
theorem dX6_thing_27 : decode cX6_thing 27 = .ok (.iconst 4, 1) := by decide +kernel
theorem dX6_thing_28 : decode cX6_thing 28 = .ok (.if_icmp .ge 12, 3) := by decide +kernel
theorem dX6_thing_31 : decode cX6_thing 31 = .ok (.aload_n 0, 1) := by decide +kernel
theorem dX6_thing_32 : decode cX6_thing 32 = .ok (.iload_n 1, 1) := by decide +kernel
theorem dX6_thing_33 : decode cX6_thing 33 = .ok (.iload_n 2, 1) := by decide +kernel
theorem dX6_thing_34 : decode cX6_thing 34 = .ok (.invokevirtual 152, 3) := by decide +kernel
theorem dX6_thing_37 : decode cX6_thing 37 = .ok (.goto 11, 3) := by decide +kernel
theorem dX6_thing_40 : decode cX6_thing 40 = .ok (.bipush 20, 2) := by decide +kernel
theorem dX6_thing_42 : decode cX6_thing 42 = .ok (.aload_n 0, 1) := by decide +kernel
theorem dX6_thing_43 : decode cX6_thing 43 = .ok (.iload_n 1, 1) := by decide +kernel
theorem dX6_thing_44 : decode cX6_thing 44 = .ok (.invokevirtual 155, 3) := by decide +kernel
theorem dX6_thing_47 : decode cX6_thing 47 = .ok (.iadd, 1) := by decide +kernel
theorem dX6_thing_48 : decode cX6_thing 48 = .ok (.ireturn, 1) := by decide +kernel
theorem dX6_wind_0 : decode cX6_wind 0 = .ok (.iload_n 1, 1) := by decide +kernel
theorem dX6_wind_1 : decode cX6_wind 1 = .ok (.invokestatic 185, 3) := by decide +kernel
theorem dX6_wind_4 : decode cX6_wind 4 = .ok (.ifCond .eq 15, 3) := by decide +kernel
theorem dX6_wind_7 : decode cX6_wind 7 = .ok (.aload_n 0, 1) := by decide +kernel
theorem dX6_wind_8 : decode cX6_wind 8 = .ok (.getfield 7, 3) := by decide +kernel
theorem dX6_wind_11 : decode cX6_wind 11 = .ok (.bipush 28, 2) := by decide +kernel
theorem dX6_wind_13 : decode cX6_wind 13 = .ok (.iload_n 1, 1) := by decide +kernel
theorem dX6_wind_14 : decode cX6_wind 14 = .ok (.iadd, 1) := by decide +kernel
theorem dX6_wind_15 : decode cX6_wind 15 = .ok (.iaload, 1) := by decide +kernel
theorem dX6_wind_16 : decode cX6_wind 16 = .ok (.goto 4, 3) := by decide +kernel
theorem dX6_wind_19 : decode cX6_wind 19 = .ok (.iconst (-1), 1) := by decide +kernel
theorem dX6_wind_20 : decode cX6_wind 20 = .ok (.ireturn, 1) := by decide +kernel
theorem dX6_saying_0 : decode cX6_saying 0 = .ok (.iload_n 1, 1) := by decide +kernel
theorem dX6_saying_1 : decode cX6_saying 1 = .ok (.i2l, 1) := by decide +kernel
theorem dX6_saying_2 : decode cX6_saying 2 = .ok (.lconst 0, 1) := by decide +kernel
theorem dX6_saying_3 : decode cX6_saying 3 = .ok (.aload_n 0, 1) := by decide +kernel
theorem dX6_saying_4 : decode cX6_saying 4 = .ok (.getfield 7, 3) := by decide +kernel
theorem dX6_saying_7 : decode cX6_saying 7 = .ok (.bipush 33, 2) := by decide +kernel
theorem dX6_saying_9 : decode cX6_saying 9 = .ok (.iaload, 1) := by decide +kernel
theorem dX6_saying_10 : decode cX6_saying 10 = .ok (.iconst 1, 1) := by decide +kernel
theorem dX6_saying_11 : decode cX6_saying 11 = .ok (.isub, 1) := by decide +kernel
theorem dX6_saying_12 : decode cX6_saying 12 = .ok (.i2l, 1) := by decide +kernel
theorem dX6_saying_13 : decode cX6_saying 13 = .ok (.invokestatic 69, 3) := by decide +kernel
theorem dX6_saying_16 : decode cX6_saying 16 = .ok (.ifCond .eq 26, 3) := by decide +kernel
theorem dX6_saying_19 : decode cX6_saying 19 = .ok (.iload_n 2, 1) := by decide +kernel
theorem dX6_saying_20 : decode cX6_saying 20 = .ok (.invokestatic 188, 3) := by decide +kernel
theorem dX6_saying_23 : decode cX6_saying 23 = .ok (.ifCond .eq 19, 3) := by decide +kernel
theorem dX6_saying_26 : decode cX6_saying 26 = .ok (.aload_n 0, 1) := by decide +kernel
theorem dX6_saying_27 : decode cX6_saying 27 = .ok (.getfield 7, 3) := by decide +kernel
theorem dX6_saying_30 : decode cX6_saying 30 = .ok (.bipush 34, 2) := by decide +kernel
theorem dX6_saying_32 : decode cX6_saying 32 = .ok (.iconst 2, 1) := by decide +kernel
theorem dX6_saying_33 : decode cX6_saying 33 = .ok (.iload_n 1, 1) := by decide +kernel
theorem dX6_saying_34 : decode cX6_saying 34 = .ok (.imul, 1) := by decide +kernel
theorem dX6_saying_35 : decode cX6_saying 35 = .ok (.iadd, 1) := by decide +kernel
theorem dX6_saying_36 : decode cX6_saying 36 = .ok (.iload_n 2, 1) := by decide +kernel
theorem dX6_saying_37 : decode cX6_saying 37 = .ok (.iadd, 1) := by decide +kernel
theorem dX6_saying_38 : decode cX6_saying 38 = .ok (.iaload, 1) := by decide +kernel
theorem dX6_saying_39 : decode cX6_saying 39 = .ok (.goto 4, 3) := by decide +kernel
theorem dX6_saying_42 : decode cX6_saying 42 = .ok (.iconst (-1), 1) := by decide +kernel
theorem dX6_saying_43 : decode cX6_saying 43 = .ok (.ireturn, 1) := by decide +kernel
theorem dX6_becomes_0 : decode cX6_becomes 0 = .ok (.aload_n 0, 1) := by decide +kernel
theorem dX6_becomes_1 : decode cX6_becomes 1 = .ok (.getfield 7, 3) := by decide +kernel
theorem dX6_becomes_4 : decode cX6_becomes 4 = .ok (.iload_n 1, 1) := by decide +kernel
theorem dX6_becomes_5 : decode cX6_becomes 5 = .ok (.iaload, 1) := by decide +kernel
theorem dX6_becomes_6 : decode cX6_becomes 6 = .ok (.istore_n 3, 1) := by decide +kernel
theorem dX6_becomes_7 : decode cX6_becomes 7 = .ok (.aload_n 0, 1) := by decide +kernel
theorem dX6_becomes_8 : decode cX6_becomes 8 = .ok (.getfield 7, 3) := by decide +kernel
theorem dX6_becomes_11 : decode cX6_becomes 11 = .ok (.iload_n 1, 1) := by decide +kernel
theorem dX6_becomes_12 : decode cX6_becomes 12 = .ok (.iload_n 2, 1) := by decide +kernel
theorem dX6_becomes_13 : decode cX6_becomes 13 = .ok (.iastore, 1) := by decide +kernel
theorem dX6_becomes_14 : decode cX6_becomes 14 = .ok (.iload_n 3, 1) := by decide +kernel
theorem dX6_becomes_15 : decode cX6_becomes 15 = .ok (.ireturn, 1) := by decide +kernel
theorem dX6_alter_0 : decode cX6_alter 0 = .ok (.iload_n 2, 1) := by decide +kernel
theorem dX6_alter_1 : decode cX6_alter 1 = .ok (.ifCond .ne 15, 3) := by decide +kernel
theorem dX6_alter_4 : decode cX6_alter 4 = .ok (.iload_n 3, 1) := by decide +kernel
theorem dX6_alter_5 : decode cX6_alter 5 = .ok (.i2l, 1) := by decide +kernel
theorem dX6_alter_6 : decode cX6_alter 6 = .ok (.lconst 0, 1) := by decide +kernel
theorem dX6_alter_7 : decode cX6_alter 7 = .ok (.ldc2_w 191, 3) := by decide +kernel
theorem dX6_alter_10 : decode cX6_alter 10 = .ok (.invokestatic 69, 3) := by decide +kernel
theorem dX6_alter_13 : decode cX6_alter 13 = .ok (.goto 37, 3) := by decide +kernel
theorem dX6_alter_16 : decode cX6_alter 16 = .ok (.iload_n 2, 1) := by decide +kernel
theorem dX6_alter_17 : decode cX6_alter 17 = .ok (.iconst 1, 1) := by decide +kernel
theorem dX6_alter_18 : decode cX6_alter 18 = .ok (.if_icmp .ne 15, 3) := by decide +kernel
theorem dX6_alter_21 : decode cX6_alter 21 = .ok (.iload_n 3, 1) := by decide +kernel
theorem dX6_alter_22 : decode cX6_alter 22 = .ok (.i2l, 1) := by decide +kernel
theorem dX6_alter_23 : decode cX6_alter 23 = .ok (.lconst 1, 1) := by decide +kernel
theorem dX6_alter_24 : decode cX6_alter 24 = .ok (.ldc2_w 193, 3) := by decide +kernel
theorem dX6_alter_27 : decode cX6_alter 27 = .ok (.invokestatic 69, 3) := by decide +kernel
theorem dX6_alter_30 : decode cX6_alter 30 = .ok (.goto 20, 3) := by decide +kernel
theorem dX6_alter_33 : decode cX6_alter 33 = .ok (.iload_n 2, 1) := by decide +kernel
theorem dX6_alter_34 : decode cX6_alter 34 = .ok (.iconst 2, 1) := by decide +kernel
theorem dX6_alter_35 : decode cX6_alter 35 = .ok (.if_icmp .ne 14, 3) := by decide +kernel
theorem dX6_alter_38 : decode cX6_alter 38 = .ok (.iload_n 3, 1) := by decide +kernel
theorem dX6_alter_39 : decode cX6_alter 39 = .ok (.invokestatic 188, 3) := by decide +kernel
theorem dX6_alter_42 : decode cX6_alter 42 = .ok (.ifCond .eq 7, 3) := by decide +kernel
theorem dX6_alter_45 : decode cX6_alter 45 = .ok (.iconst 1, 1) := by decide +kernel
theorem dX6_alter_46 : decode cX6_alter 46 = .ok (.goto 4, 3) := by decide +kernel
theorem dX6_alter_49 : decode cX6_alter 49 = .ok (.iconst 0, 1) := by decide +kernel
theorem dX6_alter_50 : decode cX6_alter 50 = .ok (.istore 4, 2) := by decide +kernel
theorem dX6_alter_52 : decode cX6_alter 52 = .ok (.aload_n 0, 1) := by decide +kernel
theorem dX6_alter_53 : decode cX6_alter 53 = .ok (.iload_n 1, 1) := by decide +kernel
theorem dX6_alter_54 : decode cX6_alter 54 = .ok (.invokevirtual 181, 3) := by decide +kernel
theorem dX6_alter_57 : decode cX6_alter 57 = .ok (.ifCond .eq 21, 3) := by decide +kernel
theorem dX6_alter_60 : decode cX6_alter 60 = .ok (.iload 4, 2) := by decide +kernel
theorem dX6_alter_62 : decode cX6_alter 62 = .ok (.ifCond .eq 16, 3) := by decide +kernel
theorem dX6_alter_65 : decode cX6_alter 65 = .ok (.aload_n 0, 1) := by decide +kernel
theorem dX6_alter_66 : decode cX6_alter 66 = .ok (.iconst 4, 1) := by decide +kernel
theorem dX6_alter_67 : decode cX6_alter 67 = .ok (.iload_n 1, 1) := by decide +kernel
theorem dX6_alter_68 : decode cX6_alter 68 = .ok (.imul, 1) := by decide +kernel
theorem dX6_alter_69 : decode cX6_alter 69 = .ok (.iload_n 2, 1) := by decide +kernel
theorem dX6_alter_70 : decode cX6_alter 70 = .ok (.iadd, 1) := by decide +kernel
theorem dX6_alter_71 : decode cX6_alter 71 = .ok (.iload_n 3, 1) := by decide +kernel
theorem dX6_alter_72 : decode cX6_alter 72 = .ok (.invokevirtual 195, 3) := by decide +kernel
theorem dX6_alter_75 : decode cX6_alter 75 = .ok (.goto 4, 3) := by decide +kernel
theorem dX6_alter_78 : decode cX6_alter 78 = .ok (.iconst (-1), 1) := by decide +kernel
theorem dX6_alter_79 : decode cX6_alter 79 = .ok (.ireturn, 1) := by decide +kernel
theorem dX6_blow_0 : decode cX6_blow 0 = .ok (.iload_n 1, 1) := by decide +kernel
theorem dX6_blow_1 : decode cX6_blow 1 = .ok (.invokestatic 185, 3) := by decide +kernel
theorem dX6_blow_4 : decode cX6_blow 4 = .ok (.ifCond .eq 27, 3) := by decide +kernel
theorem dX6_blow_7 : decode cX6_blow 7 = .ok (.iload_n 2, 1) := by decide +kernel
theorem dX6_blow_8 : decode cX6_blow 8 = .ok (.i2l, 1) := by decide +kernel
theorem dX6_blow_9 : decode cX6_blow 9 = .ok (.lconst 0, 1) := by decide +kernel
theorem dX6_blow_10 : decode cX6_blow 10 = .ok (.ldc2_w 198, 3) := by decide +kernel
theorem dX6_blow_13 : decode cX6_blow 13 = .ok (.invokestatic 69, 3) := by decide +kernel
theorem dX6_blow_16 : decode cX6_blow 16 = .ok (.ifCond .eq 15, 3) := by decide +kernel
theorem dX6_blow_19 : decode cX6_blow 19 = .ok (.aload_n 0, 1) := by decide +kernel
theorem dX6_blow_20 : decode cX6_blow 20 = .ok (.bipush 28, 2) := by decide +kernel
theorem dX6_blow_22 : decode cX6_blow 22 = .ok (.iload_n 1, 1) := by decide +kernel
theorem dX6_blow_23 : decode cX6_blow 23 = .ok (.iadd, 1) := by decide +kernel
theorem dX6_blow_24 : decode cX6_blow 24 = .ok (.iload_n 2, 1) := by decide +kernel
theorem dX6_blow_25 : decode cX6_blow 25 = .ok (.invokevirtual 195, 3) := by decide +kernel
theorem dX6_blow_28 : decode cX6_blow 28 = .ok (.goto 4, 3) := by decide +kernel
theorem dX6_blow_31 : decode cX6_blow 31 = .ok (.iconst (-1), 1) := by decide +kernel
theorem dX6_blow_32 : decode cX6_blow 32 = .ok (.ireturn, 1) := by decide +kernel
theorem dX6_rate_0 : decode cX6_rate 0 = .ok (.iload_n 1, 1) := by decide +kernel
theorem dX6_rate_1 : decode cX6_rate 1 = .ok (.i2l, 1) := by decide +kernel
theorem dX6_rate_2 : decode cX6_rate 2 = .ok (.lconst 1, 1) := by decide +kernel
theorem dX6_rate_3 : decode cX6_rate 3 = .ok (.ldc2_w 193, 3) := by decide +kernel
theorem dX6_rate_6 : decode cX6_rate 6 = .ok (.invokestatic 69, 3) := by decide +kernel
theorem dX6_rate_9 : decode cX6_rate 9 = .ok (.ifCond .eq 13, 3) := by decide +kernel
theorem dX6_rate_12 : decode cX6_rate 12 = .ok (.aload_n 0, 1) := by decide +kernel
theorem dX6_rate_13 : decode cX6_rate 13 = .ok (.bipush 26, 2) := by decide +kernel
theorem dX6_rate_15 : decode cX6_rate 15 = .ok (.iload_n 1, 1) := by decide +kernel
theorem dX6_rate_16 : decode cX6_rate 16 = .ok (.invokevirtual 195, 3) := by decide +kernel
theorem dX6_rate_19 : decode cX6_rate 19 = .ok (.goto 4, 3) := by decide +kernel
theorem dX6_rate_22 : decode cX6_rate 22 = .ok (.iconst (-1), 1) := by decide +kernel
theorem dX6_rate_23 : decode cX6_rate 23 = .ok (.ireturn, 1) := by decide +kernel
theorem dX6_saidBecomes_0 : decode cX6_saidBecomes 0 = .ok (.aload_n 0, 1) := by decide +kernel
theorem dX6_saidBecomes_1 : decode cX6_saidBecomes 1 = .ok (.iload_n 1, 1) := by decide +kernel
theorem dX6_saidBecomes_2 : decode cX6_saidBecomes 2 = .ok (.invokevirtual 181, 3) := by decide +kernel
theorem dX6_saidBecomes_5 : decode cX6_saidBecomes 5 = .ok (.ifCond .ne 5, 3) := by decide +kernel
theorem dX6_saidBecomes_8 : decode cX6_saidBecomes 8 = .ok (.iconst (-1), 1) := by decide +kernel
theorem dX6_saidBecomes_9 : decode cX6_saidBecomes 9 = .ok (.ireturn, 1) := by decide +kernel
theorem dX6_saidBecomes_10 : decode cX6_saidBecomes 10 = .ok (.aload_n 0, 1) := by decide +kernel
theorem dX6_saidBecomes_11 : decode cX6_saidBecomes 11 = .ok (.getfield 7, 3) := by decide +kernel
theorem dX6_saidBecomes_14 : decode cX6_saidBecomes 14 = .ok (.iconst 4, 1) := by decide +kernel
theorem dX6_saidBecomes_15 : decode cX6_saidBecomes 15 = .ok (.iload_n 1, 1) := by decide +kernel
theorem dX6_saidBecomes_16 : decode cX6_saidBecomes 16 = .ok (.imul, 1) := by decide +kernel
theorem dX6_saidBecomes_17 : decode cX6_saidBecomes 17 = .ok (.iconst 3, 1) := by decide +kernel
theorem dX6_saidBecomes_18 : decode cX6_saidBecomes 18 = .ok (.iadd, 1) := by decide +kernel
theorem dX6_saidBecomes_19 : decode cX6_saidBecomes 19 = .ok (.iaload, 1) := by decide +kernel
theorem dX6_saidBecomes_20 : decode cX6_saidBecomes 20 = .ok (.iload_n 2, 1) := by decide +kernel
theorem dX6_saidBecomes_21 : decode cX6_saidBecomes 21 = .ok (.if_icmp .ne 6, 3) := by decide +kernel
theorem dX6_saidBecomes_24 : decode cX6_saidBecomes 24 = .ok (.bipush (-2), 2) := by decide +kernel
theorem dX6_saidBecomes_26 : decode cX6_saidBecomes 26 = .ok (.ireturn, 1) := by decide +kernel
theorem dX6_saidBecomes_27 : decode cX6_saidBecomes 27 = .ok (.aload_n 0, 1) := by decide +kernel
theorem dX6_saidBecomes_28 : decode cX6_saidBecomes 28 = .ok (.getfield 7, 3) := by decide +kernel
theorem dX6_saidBecomes_31 : decode cX6_saidBecomes 31 = .ok (.iconst 4, 1) := by decide +kernel
theorem dX6_saidBecomes_32 : decode cX6_saidBecomes 32 = .ok (.iload_n 1, 1) := by decide +kernel
theorem dX6_saidBecomes_33 : decode cX6_saidBecomes 33 = .ok (.imul, 1) := by decide +kernel
theorem dX6_saidBecomes_34 : decode cX6_saidBecomes 34 = .ok (.iconst 3, 1) := by decide +kernel
theorem dX6_saidBecomes_35 : decode cX6_saidBecomes 35 = .ok (.iadd, 1) := by decide +kernel
theorem dX6_saidBecomes_36 : decode cX6_saidBecomes 36 = .ok (.iload_n 2, 1) := by decide +kernel
theorem dX6_saidBecomes_37 : decode cX6_saidBecomes 37 = .ok (.iastore, 1) := by decide +kernel
theorem dX6_saidBecomes_38 : decode cX6_saidBecomes 38 = .ok (.aload_n 0, 1) := by decide +kernel
theorem dX6_saidBecomes_39 : decode cX6_saidBecomes 39 = .ok (.invokevirtual 175, 3) := by decide +kernel
theorem dX6_saidBecomes_42 : decode cX6_saidBecomes 42 = .ok (.aload_n 0, 1) := by decide +kernel
theorem dX6_saidBecomes_43 : decode cX6_saidBecomes 43 = .ok (.invokevirtual 169, 3) := by decide +kernel
theorem dX6_saidBecomes_46 : decode cX6_saidBecomes 46 = .ok (.ireturn, 1) := by decide +kernel
theorem dX6_say_0 : decode cX6_say 0 = .ok (.aload_n 0, 1) := by decide +kernel
theorem dX6_say_1 : decode cX6_say 1 = .ok (.iload_n 1, 1) := by decide +kernel
theorem dX6_say_2 : decode cX6_say 2 = .ok (.iconst 1, 1) := by decide +kernel
theorem dX6_say_3 : decode cX6_say 3 = .ok (.invokevirtual 200, 3) := by decide +kernel
theorem dX6_say_6 : decode cX6_say 6 = .ok (.ireturn, 1) := by decide +kernel
theorem dX6_take_0 : decode cX6_take 0 = .ok (.aload_n 0, 1) := by decide +kernel
theorem dX6_take_1 : decode cX6_take 1 = .ok (.iload_n 1, 1) := by decide +kernel
theorem dX6_take_2 : decode cX6_take 2 = .ok (.iconst 0, 1) := by decide +kernel
theorem dX6_take_3 : decode cX6_take 3 = .ok (.invokevirtual 200, 3) := by decide +kernel
theorem dX6_take_6 : decode cX6_take 6 = .ok (.ireturn, 1) := by decide +kernel
theorem dX6_plan_0 : decode cX6_plan 0 = .ok (.iload_n 1, 1) := by decide +kernel
theorem dX6_plan_1 : decode cX6_plan 1 = .ok (.i2l, 1) := by decide +kernel
theorem dX6_plan_2 : decode cX6_plan 2 = .ok (.lconst 0, 1) := by decide +kernel
theorem dX6_plan_3 : decode cX6_plan 3 = .ok (.ldc2_w 144, 3) := by decide +kernel
theorem dX6_plan_6 : decode cX6_plan 6 = .ok (.invokestatic 69, 3) := by decide +kernel
theorem dX6_plan_9 : decode cX6_plan 9 = .ok (.ifCond .eq 11, 3) := by decide +kernel
theorem dX6_plan_12 : decode cX6_plan 12 = .ok (.aload_n 0, 1) := by decide +kernel
theorem dX6_plan_13 : decode cX6_plan 13 = .ok (.iload_n 2, 1) := by decide +kernel
theorem dX6_plan_14 : decode cX6_plan 14 = .ok (.invokevirtual 181, 3) := by decide +kernel
theorem dX6_plan_17 : decode cX6_plan 17 = .ok (.ifCond .ne 5, 3) := by decide +kernel
theorem dX6_plan_20 : decode cX6_plan 20 = .ok (.iconst (-1), 1) := by decide +kernel
theorem dX6_plan_21 : decode cX6_plan 21 = .ok (.ireturn, 1) := by decide +kernel
theorem dX6_plan_22 : decode cX6_plan 22 = .ok (.aload_n 0, 1) := by decide +kernel
theorem dX6_plan_23 : decode cX6_plan 23 = .ok (.getfield 7, 3) := by decide +kernel
theorem dX6_plan_26 : decode cX6_plan 26 = .ok (.bipush 33, 2) := by decide +kernel
theorem dX6_plan_28 : decode cX6_plan 28 = .ok (.iaload, 1) := by decide +kernel
theorem dX6_plan_29 : decode cX6_plan 29 = .ok (.bipush 8, 2) := by decide +kernel
theorem dX6_plan_31 : decode cX6_plan 31 = .ok (.if_icmp .ne 6, 3) := by decide +kernel
theorem dX6_plan_34 : decode cX6_plan 34 = .ok (.bipush (-3), 2) := by decide +kernel
theorem dX6_plan_36 : decode cX6_plan 36 = .ok (.ireturn, 1) := by decide +kernel
theorem dX6_plan_37 : decode cX6_plan 37 = .ok (.bipush 34, 2) := by decide +kernel
theorem dX6_plan_39 : decode cX6_plan 39 = .ok (.iconst 2, 1) := by decide +kernel
theorem dX6_plan_40 : decode cX6_plan 40 = .ok (.aload_n 0, 1) := by decide +kernel
theorem dX6_plan_41 : decode cX6_plan 41 = .ok (.getfield 7, 3) := by decide +kernel
theorem dX6_plan_44 : decode cX6_plan 44 = .ok (.bipush 33, 2) := by decide +kernel
theorem dX6_plan_46 : decode cX6_plan 46 = .ok (.iaload, 1) := by decide +kernel
theorem dX6_plan_47 : decode cX6_plan 47 = .ok (.imul, 1) := by decide +kernel
theorem dX6_plan_48 : decode cX6_plan 48 = .ok (.iadd, 1) := by decide +kernel
theorem dX6_plan_49 : decode cX6_plan 49 = .ok (.istore_n 3, 1) := by decide +kernel
theorem dX6_plan_50 : decode cX6_plan 50 = .ok (.aload_n 0, 1) := by decide +kernel
theorem dX6_plan_51 : decode cX6_plan 51 = .ok (.getfield 7, 3) := by decide +kernel
theorem dX6_plan_54 : decode cX6_plan 54 = .ok (.iload_n 3, 1) := by decide +kernel
theorem dX6_plan_55 : decode cX6_plan 55 = .ok (.iload_n 1, 1) := by decide +kernel
theorem dX6_plan_56 : decode cX6_plan 56 = .ok (.iastore, 1) := by decide +kernel
theorem dX6_plan_57 : decode cX6_plan 57 = .ok (.aload_n 0, 1) := by decide +kernel
theorem dX6_plan_58 : decode cX6_plan 58 = .ok (.getfield 7, 3) := by decide +kernel
theorem dX6_plan_61 : decode cX6_plan 61 = .ok (.iload_n 3, 1) := by decide +kernel
theorem dX6_plan_62 : decode cX6_plan 62 = .ok (.iconst 1, 1) := by decide +kernel
theorem dX6_plan_63 : decode cX6_plan 63 = .ok (.iadd, 1) := by decide +kernel
theorem dX6_plan_64 : decode cX6_plan 64 = .ok (.iload_n 2, 1) := by decide +kernel
theorem dX6_plan_65 : decode cX6_plan 65 = .ok (.iastore, 1) := by decide +kernel
theorem dX6_plan_66 : decode cX6_plan 66 = .ok (.aload_n 0, 1) := by decide +kernel
theorem dX6_plan_67 : decode cX6_plan 67 = .ok (.getfield 7, 3) := by decide +kernel
theorem dX6_plan_70 : decode cX6_plan 70 = .ok (.bipush 33, 2) := by decide +kernel
theorem dX6_plan_72 : decode cX6_plan 72 = .ok (.dup2, 1) := by decide +kernel
theorem dX6_plan_73 : decode cX6_plan 73 = .ok (.iaload, 1) := by decide +kernel
theorem dX6_plan_74 : decode cX6_plan 74 = .ok (.iconst 1, 1) := by decide +kernel
theorem dX6_plan_75 : decode cX6_plan 75 = .ok (.iadd, 1) := by decide +kernel
theorem dX6_plan_76 : decode cX6_plan 76 = .ok (.iastore, 1) := by decide +kernel
theorem dX6_plan_77 : decode cX6_plan 77 = .ok (.aload_n 0, 1) := by decide +kernel
theorem dX6_plan_78 : decode cX6_plan 78 = .ok (.getfield 7, 3) := by decide +kernel
theorem dX6_plan_81 : decode cX6_plan 81 = .ok (.bipush 33, 2) := by decide +kernel
theorem dX6_plan_83 : decode cX6_plan 83 = .ok (.iaload, 1) := by decide +kernel
theorem dX6_plan_84 : decode cX6_plan 84 = .ok (.ireturn, 1) := by decide +kernel
theorem dX6_cut_0 : decode cX6_cut 0 = .ok (.iload_n 1, 1) := by decide +kernel
theorem dX6_cut_1 : decode cX6_cut 1 = .ok (.i2l, 1) := by decide +kernel
theorem dX6_cut_2 : decode cX6_cut 2 = .ok (.lconst 0, 1) := by decide +kernel
theorem dX6_cut_3 : decode cX6_cut 3 = .ok (.aload_n 0, 1) := by decide +kernel
theorem dX6_cut_4 : decode cX6_cut 4 = .ok (.getfield 7, 3) := by decide +kernel
theorem dX6_cut_7 : decode cX6_cut 7 = .ok (.bipush 33, 2) := by decide +kernel
theorem dX6_cut_9 : decode cX6_cut 9 = .ok (.iaload, 1) := by decide +kernel
theorem dX6_cut_10 : decode cX6_cut 10 = .ok (.i2l, 1) := by decide +kernel
theorem dX6_cut_11 : decode cX6_cut 11 = .ok (.invokestatic 69, 3) := by decide +kernel
theorem dX6_cut_14 : decode cX6_cut 14 = .ok (.ifCond .eq 13, 3) := by decide +kernel
theorem dX6_cut_17 : decode cX6_cut 17 = .ok (.aload_n 0, 1) := by decide +kernel
theorem dX6_cut_18 : decode cX6_cut 18 = .ok (.bipush 33, 2) := by decide +kernel
theorem dX6_cut_20 : decode cX6_cut 20 = .ok (.iload_n 1, 1) := by decide +kernel
theorem dX6_cut_21 : decode cX6_cut 21 = .ok (.invokevirtual 195, 3) := by decide +kernel
theorem dX6_cut_24 : decode cX6_cut 24 = .ok (.goto 4, 3) := by decide +kernel
theorem dX6_cut_27 : decode cX6_cut 27 = .ok (.iconst (-1), 1) := by decide +kernel
theorem dX6_cut_28 : decode cX6_cut 28 = .ok (.ireturn, 1) := by decide +kernel
theorem dX6_minutes_0 : decode cX6_minutes 0 = .ok (.iload_n 1, 1) := by decide +kernel
theorem dX6_minutes_1 : decode cX6_minutes 1 = .ok (.i2l, 1) := by decide +kernel
theorem dX6_minutes_2 : decode cX6_minutes 2 = .ok (.lconst 0, 1) := by decide +kernel
theorem dX6_minutes_3 : decode cX6_minutes 3 = .ok (.ldc2_w 203, 3) := by decide +kernel
theorem dX6_minutes_6 : decode cX6_minutes 6 = .ok (.invokestatic 69, 3) := by decide +kernel
theorem dX6_minutes_9 : decode cX6_minutes 9 = .ok (.ifCond .ne 5, 3) := by decide +kernel
theorem dX6_minutes_12 : decode cX6_minutes 12 = .ok (.iconst (-1), 1) := by decide +kernel
theorem dX6_minutes_13 : decode cX6_minutes 13 = .ok (.ireturn, 1) := by decide +kernel
theorem dX6_minutes_14 : decode cX6_minutes 14 = .ok (.aload_n 0, 1) := by decide +kernel
theorem dX6_minutes_15 : decode cX6_minutes 15 = .ok (.getfield 7, 3) := by decide +kernel
theorem dX6_minutes_18 : decode cX6_minutes 18 = .ok (.bipush 27, 2) := by decide +kernel
theorem dX6_minutes_20 : decode cX6_minutes 20 = .ok (.iaload, 1) := by decide +kernel
theorem dX6_minutes_21 : decode cX6_minutes 21 = .ok (.iload_n 1, 1) := by decide +kernel
theorem dX6_minutes_22 : decode cX6_minutes 22 = .ok (.iadd, 1) := by decide +kernel
theorem dX6_minutes_23 : decode cX6_minutes 23 = .ok (.sipush 999, 3) := by decide +kernel
theorem dX6_minutes_26 : decode cX6_minutes 26 = .ok (.if_icmp .le 6, 3) := by decide +kernel
theorem dX6_minutes_29 : decode cX6_minutes 29 = .ok (.bipush (-3), 2) := by decide +kernel
theorem dX6_minutes_31 : decode cX6_minutes 31 = .ok (.ireturn, 1) := by decide +kernel
theorem dX6_minutes_32 : decode cX6_minutes 32 = .ok (.aload_n 0, 1) := by decide +kernel
theorem dX6_minutes_33 : decode cX6_minutes 33 = .ok (.invokevirtual 175, 3) := by decide +kernel
theorem dX6_minutes_36 : decode cX6_minutes 36 = .ok (.aload_n 0, 1) := by decide +kernel
theorem dX6_minutes_37 : decode cX6_minutes 37 = .ok (.iload_n 1, 1) := by decide +kernel
theorem dX6_minutes_38 : decode cX6_minutes 38 = .ok (.invokevirtual 205, 3) := by decide +kernel
theorem dX6_minutes_41 : decode cX6_minutes 41 = .ok (.aload_n 0, 1) := by decide +kernel
theorem dX6_minutes_42 : decode cX6_minutes 42 = .ok (.invokevirtual 208, 3) := by decide +kernel
theorem dX6_minutes_45 : decode cX6_minutes 45 = .ok (.aload_n 0, 1) := by decide +kernel
theorem dX6_minutes_46 : decode cX6_minutes 46 = .ok (.getfield 7, 3) := by decide +kernel
theorem dX6_minutes_49 : decode cX6_minutes 49 = .ok (.bipush 24, 2) := by decide +kernel
theorem dX6_minutes_51 : decode cX6_minutes 51 = .ok (.iaload, 1) := by decide +kernel
theorem dX6_minutes_52 : decode cX6_minutes 52 = .ok (.ireturn, 1) := by decide +kernel
theorem dX6_isFar_0 : decode cX6_isFar 0 = .ok (.iload_n 0, 1) := by decide +kernel
theorem dX6_isFar_1 : decode cX6_isFar 1 = .ok (.i2l, 1) := by decide +kernel
theorem dX6_isFar_2 : decode cX6_isFar 2 = .ok (.lconst 0, 1) := by decide +kernel
theorem dX6_isFar_3 : decode cX6_isFar 3 = .ok (.ldc2_w 211, 3) := by decide +kernel
theorem dX6_isFar_6 : decode cX6_isFar 6 = .ok (.invokestatic 69, 3) := by decide +kernel
theorem dX6_isFar_9 : decode cX6_isFar 9 = .ok (.ireturn, 1) := by decide +kernel
theorem dX6_minutesCount_0 : decode cX6_minutesCount 0 = .ok (.aload_n 0, 1) := by decide +kernel
theorem dX6_minutesCount_1 : decode cX6_minutesCount 1 = .ok (.aload_n 0, 1) := by decide +kernel
theorem dX6_minutesCount_2 : decode cX6_minutesCount 2 = .ok (.getfield 13, 3) := by decide +kernel
theorem dX6_minutesCount_5 : decode cX6_minutesCount 5 = .ok (.bipush 24, 2) := by decide +kernel
theorem dX6_minutesCount_7 : decode cX6_minutesCount 7 = .ok (.iaload, 1) := by decide +kernel
theorem dX6_minutesCount_8 : decode cX6_minutesCount 8 = .ok (.putfield 213, 3) := by decide +kernel
theorem dX6_minutesCount_11 : decode cX6_minutesCount 11 = .ok (.aload_n 0, 1) := by decide +kernel
theorem dX6_minutesCount_12 : decode cX6_minutesCount 12 = .ok (.iconst 0, 1) := by decide +kernel
theorem dX6_minutesCount_13 : decode cX6_minutesCount 13 = .ok (.putfield 216, 3) := by decide +kernel
theorem dX6_minutesCount_16 : decode cX6_minutesCount 16 = .ok (.iconst 0, 1) := by decide +kernel
theorem dX6_minutesCount_17 : decode cX6_minutesCount 17 = .ok (.istore_n 2, 1) := by decide +kernel
theorem dX6_minutesCount_18 : decode cX6_minutesCount 18 = .ok (.iload_n 2, 1) := by decide +kernel
theorem dX6_minutesCount_19 : decode cX6_minutesCount 19 = .ok (.iload_n 1, 1) := by decide +kernel
theorem dX6_minutesCount_20 : decode cX6_minutesCount 20 = .ok (.if_icmp .ge 72, 3) := by decide +kernel
theorem dX6_minutesCount_23 : decode cX6_minutesCount 23 = .ok (.aload_n 0, 1) := by decide +kernel
theorem dX6_minutesCount_24 : decode cX6_minutesCount 24 = .ok (.invokevirtual 172, 3) := by decide +kernel
theorem dX6_minutesCount_27 : decode cX6_minutesCount 27 = .ok (.aload_n 0, 1) := by decide +kernel
theorem dX6_minutesCount_28 : decode cX6_minutesCount 28 = .ok (.aload_n 0, 1) := by decide +kernel
theorem dX6_minutesCount_29 : decode cX6_minutesCount 29 = .ok (.getfield 13, 3) := by decide +kernel
theorem dX6_minutesCount_32 : decode cX6_minutesCount 32 = .ok (.bipush 24, 2) := by decide +kernel
theorem dX6_minutesCount_34 : decode cX6_minutesCount 34 = .ok (.iaload, 1) := by decide +kernel
theorem dX6_minutesCount_35 : decode cX6_minutesCount 35 = .ok (.aload_n 0, 1) := by decide +kernel
theorem dX6_minutesCount_36 : decode cX6_minutesCount 36 = .ok (.getfield 213, 3) := by decide +kernel
theorem dX6_minutesCount_39 : decode cX6_minutesCount 39 = .ok (.if_icmp .le 13, 3) := by decide +kernel
theorem dX6_minutesCount_42 : decode cX6_minutesCount 42 = .ok (.aload_n 0, 1) := by decide +kernel
theorem dX6_minutesCount_43 : decode cX6_minutesCount 43 = .ok (.getfield 13, 3) := by decide +kernel
theorem dX6_minutesCount_46 : decode cX6_minutesCount 46 = .ok (.bipush 24, 2) := by decide +kernel
theorem dX6_minutesCount_48 : decode cX6_minutesCount 48 = .ok (.iaload, 1) := by decide +kernel
theorem dX6_minutesCount_49 : decode cX6_minutesCount 49 = .ok (.goto 7, 3) := by decide +kernel
theorem dX6_minutesCount_52 : decode cX6_minutesCount 52 = .ok (.aload_n 0, 1) := by decide +kernel
theorem dX6_minutesCount_53 : decode cX6_minutesCount 53 = .ok (.getfield 213, 3) := by decide +kernel
theorem dX6_minutesCount_56 : decode cX6_minutesCount 56 = .ok (.putfield 213, 3) := by decide +kernel
theorem dX6_minutesCount_59 : decode cX6_minutesCount 59 = .ok (.aload_n 0, 1) := by decide +kernel
theorem dX6_minutesCount_60 : decode cX6_minutesCount 60 = .ok (.dup, 1) := by decide +kernel
theorem dX6_minutesCount_61 : decode cX6_minutesCount 61 = .ok (.getfield 216, 3) := by decide +kernel
theorem dX6_minutesCount_64 : decode cX6_minutesCount 64 = .ok (.aload_n 0, 1) := by decide +kernel
theorem dX6_minutesCount_65 : decode cX6_minutesCount 65 = .ok (.getfield 13, 3) := by decide +kernel
theorem dX6_minutesCount_68 : decode cX6_minutesCount 68 = .ok (.bipush 24, 2) := by decide +kernel
theorem dX6_minutesCount_70 : decode cX6_minutesCount 70 = .ok (.iaload, 1) := by decide +kernel
theorem dX6_minutesCount_71 : decode cX6_minutesCount 71 = .ok (.ifCond .ne 7, 3) := by decide +kernel
theorem dX6_minutesCount_74 : decode cX6_minutesCount 74 = .ok (.iconst 1, 1) := by decide +kernel
theorem dX6_minutesCount_75 : decode cX6_minutesCount 75 = .ok (.goto 4, 3) := by decide +kernel
theorem dX6_minutesCount_78 : decode cX6_minutesCount 78 = .ok (.iconst 0, 1) := by decide +kernel
theorem dX6_minutesCount_79 : decode cX6_minutesCount 79 = .ok (.invokestatic 219, 3) := by decide +kernel
theorem dX6_minutesCount_82 : decode cX6_minutesCount 82 = .ok (.iadd, 1) := by decide +kernel
theorem dX6_minutesCount_83 : decode cX6_minutesCount 83 = .ok (.putfield 216, 3) := by decide +kernel
theorem dX6_minutesCount_86 : decode cX6_minutesCount 86 = .ok (.iinc 2 1, 3) := by decide +kernel
theorem dX6_minutesCount_89 : decode cX6_minutesCount 89 = .ok (.goto (-71), 3) := by decide +kernel
theorem dX6_minutesCount_92 : decode cX6_minutesCount 92 = .ok (.return_, 1) := by decide +kernel
theorem dX6_runs_0 : decode cX6_runs 0 = .ok (.iload_n 1, 1) := by decide +kernel
theorem dX6_runs_1 : decode cX6_runs 1 = .ok (.invokestatic 223, 3) := by decide +kernel
theorem dX6_runs_4 : decode cX6_runs 4 = .ok (.ifCond .eq 15, 3) := by decide +kernel
theorem dX6_runs_7 : decode cX6_runs 7 = .ok (.iload_n 2, 1) := by decide +kernel
theorem dX6_runs_8 : decode cX6_runs 8 = .ok (.i2l, 1) := by decide +kernel
theorem dX6_runs_9 : decode cX6_runs 9 = .ok (.lconst 0, 1) := by decide +kernel
theorem dX6_runs_10 : decode cX6_runs 10 = .ok (.ldc2_w 142, 3) := by decide +kernel
theorem dX6_runs_13 : decode cX6_runs 13 = .ok (.invokestatic 69, 3) := by decide +kernel
theorem dX6_runs_16 : decode cX6_runs 16 = .ok (.ifCond .ne 5, 3) := by decide +kernel
theorem dX6_runs_19 : decode cX6_runs 19 = .ok (.iconst (-1), 1) := by decide +kernel
theorem dX6_runs_20 : decode cX6_runs 20 = .ok (.ireturn, 1) := by decide +kernel
theorem dX6_runs_21 : decode cX6_runs 21 = .ok (.aload_n 0, 1) := by decide +kernel
theorem dX6_runs_22 : decode cX6_runs 22 = .ok (.invokevirtual 175, 3) := by decide +kernel
theorem dX6_runs_25 : decode cX6_runs 25 = .ok (.aload_n 0, 1) := by decide +kernel
theorem dX6_runs_26 : decode cX6_runs 26 = .ok (.iload_n 1, 1) := by decide +kernel
theorem dX6_runs_27 : decode cX6_runs 27 = .ok (.invokevirtual 226, 3) := by decide +kernel
theorem dX6_runs_30 : decode cX6_runs 30 = .ok (.iload_n 2, 1) := by decide +kernel
theorem dX6_runs_31 : decode cX6_runs 31 = .ok (.tableswitch 55 0 3 #[29, 37, 45, 50], 29) := by decide +kernel
theorem dX6_runs_60 : decode cX6_runs 60 = .ok (.aload_n 0, 1) := by decide +kernel
theorem dX6_runs_61 : decode cX6_runs 61 = .ok (.getfield 13, 3) := by decide +kernel
theorem dX6_runs_64 : decode cX6_runs 64 = .ok (.bipush 24, 2) := by decide +kernel
theorem dX6_runs_66 : decode cX6_runs 66 = .ok (.iaload, 1) := by decide +kernel
theorem dX6_runs_67 : decode cX6_runs 67 = .ok (.ireturn, 1) := by decide +kernel
theorem dX6_runs_68 : decode cX6_runs 68 = .ok (.aload_n 0, 1) := by decide +kernel
theorem dX6_runs_69 : decode cX6_runs 69 = .ok (.getfield 13, 3) := by decide +kernel
theorem dX6_runs_72 : decode cX6_runs 72 = .ok (.bipush 25, 2) := by decide +kernel
theorem dX6_runs_74 : decode cX6_runs 74 = .ok (.iaload, 1) := by decide +kernel
theorem dX6_runs_75 : decode cX6_runs 75 = .ok (.ireturn, 1) := by decide +kernel
theorem dX6_runs_76 : decode cX6_runs 76 = .ok (.aload_n 0, 1) := by decide +kernel
theorem dX6_runs_77 : decode cX6_runs 77 = .ok (.getfield 213, 3) := by decide +kernel
theorem dX6_runs_80 : decode cX6_runs 80 = .ok (.ireturn, 1) := by decide +kernel
theorem dX6_runs_81 : decode cX6_runs 81 = .ok (.aload_n 0, 1) := by decide +kernel
theorem dX6_runs_82 : decode cX6_runs 82 = .ok (.getfield 216, 3) := by decide +kernel
theorem dX6_runs_85 : decode cX6_runs 85 = .ok (.ireturn, 1) := by decide +kernel
theorem dX6_runs_86 : decode cX6_runs 86 = .ok (.aload_n 0, 1) := by decide +kernel
theorem dX6_runs_87 : decode cX6_runs 87 = .ok (.invokevirtual 178, 3) := by decide +kernel
theorem dX6_runs_90 : decode cX6_runs 90 = .ok (.ireturn, 1) := by decide +kernel
theorem dX6_minutesDown_0 : decode cX6_minutesDown 0 = .ok (.iconst 1, 1) := by decide +kernel
theorem dX6_minutesDown_1 : decode cX6_minutesDown 1 = .ok (.istore_n 1, 1) := by decide +kernel
theorem dX6_minutesDown_2 : decode cX6_minutesDown 2 = .ok (.iload_n 1, 1) := by decide +kernel
theorem dX6_minutesDown_3 : decode cX6_minutesDown 3 = .ok (.bipush 60, 2) := by decide +kernel
theorem dX6_minutesDown_5 : decode cX6_minutesDown 5 = .ok (.if_icmp .gt 25, 3) := by decide +kernel
theorem dX6_minutesDown_8 : decode cX6_minutesDown 8 = .ok (.aload_n 0, 1) := by decide +kernel
theorem dX6_minutesDown_9 : decode cX6_minutesDown 9 = .ok (.invokevirtual 172, 3) := by decide +kernel
theorem dX6_minutesDown_12 : decode cX6_minutesDown 12 = .ok (.aload_n 0, 1) := by decide +kernel
theorem dX6_minutesDown_13 : decode cX6_minutesDown 13 = .ok (.getfield 13, 3) := by decide +kernel
theorem dX6_minutesDown_16 : decode cX6_minutesDown 16 = .ok (.bipush 24, 2) := by decide +kernel
theorem dX6_minutesDown_18 : decode cX6_minutesDown 18 = .ok (.iaload, 1) := by decide +kernel
theorem dX6_minutesDown_19 : decode cX6_minutesDown 19 = .ok (.ifCond .ne 5, 3) := by decide +kernel
theorem dX6_minutesDown_22 : decode cX6_minutesDown 22 = .ok (.iload_n 1, 1) := by decide +kernel
theorem dX6_minutesDown_23 : decode cX6_minutesDown 23 = .ok (.ireturn, 1) := by decide +kernel
theorem dX6_minutesDown_24 : decode cX6_minutesDown 24 = .ok (.iinc 1 1, 3) := by decide +kernel
theorem dX6_minutesDown_27 : decode cX6_minutesDown 27 = .ok (.goto (-25), 3) := by decide +kernel
theorem dX6_minutesDown_30 : decode cX6_minutesDown 30 = .ok (.bipush (-4), 2) := by decide +kernel
theorem dX6_minutesDown_32 : decode cX6_minutesDown 32 = .ok (.ireturn, 1) := by decide +kernel
theorem dX6_minutesTo_0 : decode cX6_minutesTo 0 = .ok (.iconst 0, 1) := by decide +kernel
theorem dX6_minutesTo_1 : decode cX6_minutesTo 1 = .ok (.istore_n 2, 1) := by decide +kernel
theorem dX6_minutesTo_2 : decode cX6_minutesTo 2 = .ok (.iload_n 2, 1) := by decide +kernel
theorem dX6_minutesTo_3 : decode cX6_minutesTo 3 = .ok (.bipush 60, 2) := by decide +kernel
theorem dX6_minutesTo_5 : decode cX6_minutesTo 5 = .ok (.if_icmp .gt 36, 3) := by decide +kernel
theorem dX6_minutesTo_8 : decode cX6_minutesTo 8 = .ok (.aload_n 0, 1) := by decide +kernel
theorem dX6_minutesTo_9 : decode cX6_minutesTo 9 = .ok (.getfield 13, 3) := by decide +kernel
theorem dX6_minutesTo_12 : decode cX6_minutesTo 12 = .ok (.bipush 24, 2) := by decide +kernel
theorem dX6_minutesTo_14 : decode cX6_minutesTo 14 = .ok (.iaload, 1) := by decide +kernel
theorem dX6_minutesTo_15 : decode cX6_minutesTo 15 = .ok (.ifCond .ne 16, 3) := by decide +kernel
theorem dX6_minutesTo_18 : decode cX6_minutesTo 18 = .ok (.aload_n 0, 1) := by decide +kernel
theorem dX6_minutesTo_19 : decode cX6_minutesTo 19 = .ok (.getfield 13, 3) := by decide +kernel
theorem dX6_minutesTo_22 : decode cX6_minutesTo 22 = .ok (.bipush 25, 2) := by decide +kernel
theorem dX6_minutesTo_24 : decode cX6_minutesTo 24 = .ok (.iaload, 1) := by decide +kernel
theorem dX6_minutesTo_25 : decode cX6_minutesTo 25 = .ok (.iload_n 1, 1) := by decide +kernel
theorem dX6_minutesTo_26 : decode cX6_minutesTo 26 = .ok (.if_icmp .ne 5, 3) := by decide +kernel
theorem dX6_minutesTo_29 : decode cX6_minutesTo 29 = .ok (.iload_n 2, 1) := by decide +kernel
theorem dX6_minutesTo_30 : decode cX6_minutesTo 30 = .ok (.ireturn, 1) := by decide +kernel
theorem dX6_minutesTo_31 : decode cX6_minutesTo 31 = .ok (.aload_n 0, 1) := by decide +kernel
theorem dX6_minutesTo_32 : decode cX6_minutesTo 32 = .ok (.invokevirtual 172, 3) := by decide +kernel
theorem dX6_minutesTo_35 : decode cX6_minutesTo 35 = .ok (.iinc 2 1, 3) := by decide +kernel
theorem dX6_minutesTo_38 : decode cX6_minutesTo 38 = .ok (.goto (-36), 3) := by decide +kernel
theorem dX6_minutesTo_41 : decode cX6_minutesTo 41 = .ok (.bipush (-4), 2) := by decide +kernel
theorem dX6_minutesTo_43 : decode cX6_minutesTo 43 = .ok (.ireturn, 1) := by decide +kernel
theorem dX6_falls_0 : decode cX6_falls 0 = .ok (.aload_n 0, 1) := by decide +kernel
theorem dX6_falls_1 : decode cX6_falls 1 = .ok (.invokevirtual 175, 3) := by decide +kernel
theorem dX6_falls_4 : decode cX6_falls 4 = .ok (.aload_n 0, 1) := by decide +kernel
theorem dX6_falls_5 : decode cX6_falls 5 = .ok (.invokevirtual 229, 3) := by decide +kernel
theorem dX6_falls_8 : decode cX6_falls 8 = .ok (.ireturn, 1) := by decide +kernel
theorem dX6_church_0 : decode cX6_church 0 = .ok (.iload_n 1, 1) := by decide +kernel
theorem dX6_church_1 : decode cX6_church 1 = .ok (.invokestatic 232, 3) := by decide +kernel
theorem dX6_church_4 : decode cX6_church 4 = .ok (.ifCond .ne 5, 3) := by decide +kernel
theorem dX6_church_7 : decode cX6_church 7 = .ok (.iconst (-1), 1) := by decide +kernel
theorem dX6_church_8 : decode cX6_church 8 = .ok (.ireturn, 1) := by decide +kernel
theorem dX6_church_9 : decode cX6_church 9 = .ok (.aload_n 0, 1) := by decide +kernel
theorem dX6_church_10 : decode cX6_church 10 = .ok (.invokevirtual 175, 3) := by decide +kernel
theorem dX6_church_13 : decode cX6_church 13 = .ok (.aload_n 0, 1) := by decide +kernel
theorem dX6_church_14 : decode cX6_church 14 = .ok (.iload_n 1, 1) := by decide +kernel
theorem dX6_church_15 : decode cX6_church 15 = .ok (.invokevirtual 235, 3) := by decide +kernel
theorem dX6_church_18 : decode cX6_church 18 = .ok (.ireturn, 1) := by decide +kernel
theorem dX6_startsJudging_0 : decode cX6_startsJudging 0 = .ok (.aload_n 0, 1) := by decide +kernel
theorem dX6_startsJudging_1 : decode cX6_startsJudging 1 = .ok (.bipush (-4), 2) := by decide +kernel
theorem dX6_startsJudging_3 : decode cX6_startsJudging 3 = .ok (.putfield 238, 3) := by decide +kernel
theorem dX6_startsJudging_6 : decode cX6_startsJudging 6 = .ok (.aload_n 0, 1) := by decide +kernel
theorem dX6_startsJudging_7 : decode cX6_startsJudging 7 = .ok (.iload_n 1, 1) := by decide +kernel
theorem dX6_startsJudging_8 : decode cX6_startsJudging 8 = .ok (.putfield 241, 3) := by decide +kernel
theorem dX6_startsJudging_11 : decode cX6_startsJudging 11 = .ok (.return_, 1) := by decide +kernel
theorem dX6_judges_0 : decode cX6_judges 0 = .ok (.iload_n 2, 1) := by decide +kernel
theorem dX6_judges_1 : decode cX6_judges 1 = .ok (.bipush (-4), 2) := by decide +kernel
theorem dX6_judges_3 : decode cX6_judges 3 = .ok (.if_icmp .eq 21, 3) := by decide +kernel
theorem dX6_judges_6 : decode cX6_judges 6 = .ok (.iload_n 2, 1) := by decide +kernel
theorem dX6_judges_7 : decode cX6_judges 7 = .ok (.aload_n 0, 1) := by decide +kernel
theorem dX6_judges_8 : decode cX6_judges 8 = .ok (.getfield 241, 3) := by decide +kernel
theorem dX6_judges_11 : decode cX6_judges 11 = .ok (.if_icmp .ge 13, 3) := by decide +kernel
theorem dX6_judges_14 : decode cX6_judges 14 = .ok (.aload_n 0, 1) := by decide +kernel
theorem dX6_judges_15 : decode cX6_judges 15 = .ok (.iload_n 1, 1) := by decide +kernel
theorem dX6_judges_16 : decode cX6_judges 16 = .ok (.putfield 238, 3) := by decide +kernel
theorem dX6_judges_19 : decode cX6_judges 19 = .ok (.aload_n 0, 1) := by decide +kernel
theorem dX6_judges_20 : decode cX6_judges 20 = .ok (.iload_n 2, 1) := by decide +kernel
theorem dX6_judges_21 : decode cX6_judges 21 = .ok (.putfield 241, 3) := by decide +kernel
theorem dX6_judges_24 : decode cX6_judges 24 = .ok (.return_, 1) := by decide +kernel
theorem dX6_judged_0 : decode cX6_judged 0 = .ok (.aload_n 0, 1) := by decide +kernel
theorem dX6_judged_1 : decode cX6_judged 1 = .ok (.getfield 238, 3) := by decide +kernel
theorem dX6_judged_4 : decode cX6_judged 4 = .ok (.bipush (-4), 2) := by decide +kernel
theorem dX6_judged_6 : decode cX6_judged 6 = .ok (.if_icmp .ne 8, 3) := by decide +kernel
theorem dX6_judged_9 : decode cX6_judged 9 = .ok (.bipush (-4), 2) := by decide +kernel
theorem dX6_judged_11 : decode cX6_judged 11 = .ok (.goto 18, 3) := by decide +kernel
theorem dX6_judged_14 : decode cX6_judged 14 = .ok (.iload_n 1, 1) := by decide +kernel
theorem dX6_judged_15 : decode cX6_judged 15 = .ok (.ifCond .ne 10, 3) := by decide +kernel
theorem dX6_judged_18 : decode cX6_judged 18 = .ok (.aload_n 0, 1) := by decide +kernel
theorem dX6_judged_19 : decode cX6_judged 19 = .ok (.getfield 238, 3) := by decide +kernel
theorem dX6_judged_22 : decode cX6_judged 22 = .ok (.goto 7, 3) := by decide +kernel
theorem dX6_judged_25 : decode cX6_judged 25 = .ok (.aload_n 0, 1) := by decide +kernel
theorem dX6_judged_26 : decode cX6_judged 26 = .ok (.getfield 241, 3) := by decide +kernel
theorem dX6_judged_29 : decode cX6_judged 29 = .ok (.ireturn, 1) := by decide +kernel
theorem dX6_isUnsaid_0 : decode cX6_isUnsaid 0 = .ok (.aload_n 0, 1) := by decide +kernel
theorem dX6_isUnsaid_1 : decode cX6_isUnsaid 1 = .ok (.getfield 7, 3) := by decide +kernel
theorem dX6_isUnsaid_4 : decode cX6_isUnsaid 4 = .ok (.iconst 4, 1) := by decide +kernel
theorem dX6_isUnsaid_5 : decode cX6_isUnsaid 5 = .ok (.iload_n 1, 1) := by decide +kernel
theorem dX6_isUnsaid_6 : decode cX6_isUnsaid 6 = .ok (.imul, 1) := by decide +kernel
theorem dX6_isUnsaid_7 : decode cX6_isUnsaid 7 = .ok (.iconst 3, 1) := by decide +kernel
theorem dX6_isUnsaid_8 : decode cX6_isUnsaid 8 = .ok (.iadd, 1) := by decide +kernel
theorem dX6_isUnsaid_9 : decode cX6_isUnsaid 9 = .ok (.iaload, 1) := by decide +kernel
theorem dX6_isUnsaid_10 : decode cX6_isUnsaid 10 = .ok (.ifCond .ne 7, 3) := by decide +kernel
theorem dX6_isUnsaid_13 : decode cX6_isUnsaid 13 = .ok (.iconst 1, 1) := by decide +kernel
theorem dX6_isUnsaid_14 : decode cX6_isUnsaid 14 = .ok (.goto 4, 3) := by decide +kernel
theorem dX6_isUnsaid_17 : decode cX6_isUnsaid 17 = .ok (.iconst 0, 1) := by decide +kernel
theorem dX6_isUnsaid_18 : decode cX6_isUnsaid 18 = .ok (.ireturn, 1) := by decide +kernel
theorem dX6_best_0 : decode cX6_best 0 = .ok (.iload_n 1, 1) := by decide +kernel
theorem dX6_best_1 : decode cX6_best 1 = .ok (.invokestatic 188, 3) := by decide +kernel
theorem dX6_best_4 : decode cX6_best 4 = .ok (.ifCond .ne 5, 3) := by decide +kernel
theorem dX6_best_7 : decode cX6_best 7 = .ok (.iconst (-1), 1) := by decide +kernel
theorem dX6_best_8 : decode cX6_best 8 = .ok (.ireturn, 1) := by decide +kernel
theorem dX6_best_9 : decode cX6_best 9 = .ok (.aload_n 0, 1) := by decide +kernel
theorem dX6_best_10 : decode cX6_best 10 = .ok (.ldc 244, 2) := by decide +kernel
theorem dX6_best_12 : decode cX6_best 12 = .ok (.invokevirtual 245, 3) := by decide +kernel
theorem dX6_best_15 : decode cX6_best 15 = .ok (.iconst 0, 1) := by decide +kernel
theorem dX6_best_16 : decode cX6_best 16 = .ok (.istore_n 2, 1) := by decide +kernel
theorem dX6_best_17 : decode cX6_best 17 = .ok (.iload_n 2, 1) := by decide +kernel
theorem dX6_best_18 : decode cX6_best 18 = .ok (.aload_n 0, 1) := by decide +kernel
theorem dX6_best_19 : decode cX6_best 19 = .ok (.getfield 64, 3) := by decide +kernel
theorem dX6_best_22 : decode cX6_best 22 = .ok (.if_icmp .ge 37, 3) := by decide +kernel
theorem dX6_best_25 : decode cX6_best 25 = .ok (.aload_n 0, 1) := by decide +kernel
theorem dX6_best_26 : decode cX6_best 26 = .ok (.iload_n 2, 1) := by decide +kernel
theorem dX6_best_27 : decode cX6_best 27 = .ok (.invokevirtual 248, 3) := by decide +kernel
theorem dX6_best_30 : decode cX6_best 30 = .ok (.ifCond .eq 23, 3) := by decide +kernel
theorem dX6_best_33 : decode cX6_best 33 = .ok (.aload_n 0, 1) := by decide +kernel
theorem dX6_best_34 : decode cX6_best 34 = .ok (.invokevirtual 175, 3) := by decide +kernel
theorem dX6_best_37 : decode cX6_best 37 = .ok (.aload_n 0, 1) := by decide +kernel
theorem dX6_best_38 : decode cX6_best 38 = .ok (.iload_n 2, 1) := by decide +kernel
theorem dX6_best_39 : decode cX6_best 39 = .ok (.iconst 3, 1) := by decide +kernel
theorem dX6_best_40 : decode cX6_best 40 = .ok (.iconst 1, 1) := by decide +kernel
theorem dX6_best_41 : decode cX6_best 41 = .ok (.invokevirtual 162, 3) := by decide +kernel
theorem dX6_best_44 : decode cX6_best 44 = .ok (.aload_n 0, 1) := by decide +kernel
theorem dX6_best_45 : decode cX6_best 45 = .ok (.iload_n 2, 1) := by decide +kernel
theorem dX6_best_46 : decode cX6_best 46 = .ok (.aload_n 0, 1) := by decide +kernel
theorem dX6_best_47 : decode cX6_best 47 = .ok (.invokevirtual 229, 3) := by decide +kernel
theorem dX6_best_50 : decode cX6_best 50 = .ok (.invokevirtual 251, 3) := by decide +kernel
theorem dX6_best_53 : decode cX6_best 53 = .ok (.iinc 2 1, 3) := by decide +kernel
theorem dX6_best_56 : decode cX6_best 56 = .ok (.goto (-39), 3) := by decide +kernel
theorem dX6_best_59 : decode cX6_best 59 = .ok (.aload_n 0, 1) := by decide +kernel
theorem dX6_best_60 : decode cX6_best 60 = .ok (.iload_n 1, 1) := by decide +kernel
theorem dX6_best_61 : decode cX6_best 61 = .ok (.invokevirtual 255, 3) := by decide +kernel
theorem dX6_best_64 : decode cX6_best 64 = .ok (.ireturn, 1) := by decide +kernel
theorem dX6_both_0 : decode cX6_both 0 = .ok (.iload_n 1, 1) := by decide +kernel
theorem dX6_both_1 : decode cX6_both 1 = .ok (.invokestatic 232, 3) := by decide +kernel
theorem dX6_both_4 : decode cX6_both 4 = .ok (.ifCond .eq 10, 3) := by decide +kernel
theorem dX6_both_7 : decode cX6_both 7 = .ok (.iload_n 2, 1) := by decide +kernel
theorem dX6_both_8 : decode cX6_both 8 = .ok (.invokestatic 188, 3) := by decide +kernel
theorem dX6_both_11 : decode cX6_both 11 = .ok (.ifCond .ne 5, 3) := by decide +kernel
theorem dX6_both_14 : decode cX6_both 14 = .ok (.iconst (-1), 1) := by decide +kernel
theorem dX6_both_15 : decode cX6_both 15 = .ok (.ireturn, 1) := by decide +kernel
theorem dX6_both_16 : decode cX6_both 16 = .ok (.aload_n 0, 1) := by decide +kernel
theorem dX6_both_17 : decode cX6_both 17 = .ok (.ldc 244, 2) := by decide +kernel
theorem dX6_both_19 : decode cX6_both 19 = .ok (.invokevirtual 245, 3) := by decide +kernel
theorem dX6_both_22 : decode cX6_both 22 = .ok (.iconst 0, 1) := by decide +kernel
theorem dX6_both_23 : decode cX6_both 23 = .ok (.istore_n 3, 1) := by decide +kernel
theorem dX6_both_24 : decode cX6_both 24 = .ok (.iload_n 3, 1) := by decide +kernel
theorem dX6_both_25 : decode cX6_both 25 = .ok (.aload_n 0, 1) := by decide +kernel
theorem dX6_both_26 : decode cX6_both 26 = .ok (.getfield 64, 3) := by decide +kernel
theorem dX6_both_29 : decode cX6_both 29 = .ok (.if_icmp .ge 81, 3) := by decide +kernel
theorem dX6_both_32 : decode cX6_both 32 = .ok (.iload_n 3, 1) := by decide +kernel
theorem dX6_both_33 : decode cX6_both 33 = .ok (.iconst 1, 1) := by decide +kernel
theorem dX6_both_34 : decode cX6_both 34 = .ok (.iadd, 1) := by decide +kernel
theorem dX6_both_35 : decode cX6_both 35 = .ok (.istore 4, 2) := by decide +kernel
theorem dX6_both_37 : decode cX6_both 37 = .ok (.iload 4, 2) := by decide +kernel
theorem dX6_both_39 : decode cX6_both 39 = .ok (.aload_n 0, 1) := by decide +kernel
theorem dX6_both_40 : decode cX6_both 40 = .ok (.getfield 64, 3) := by decide +kernel
theorem dX6_both_43 : decode cX6_both 43 = .ok (.if_icmp .ge 61, 3) := by decide +kernel
theorem dX6_both_46 : decode cX6_both 46 = .ok (.aload_n 0, 1) := by decide +kernel
theorem dX6_both_47 : decode cX6_both 47 = .ok (.iload_n 3, 1) := by decide +kernel
theorem dX6_both_48 : decode cX6_both 48 = .ok (.invokevirtual 248, 3) := by decide +kernel
theorem dX6_both_51 : decode cX6_both 51 = .ok (.ifCond .eq 47, 3) := by decide +kernel
theorem dX6_both_54 : decode cX6_both 54 = .ok (.aload_n 0, 1) := by decide +kernel
theorem dX6_both_55 : decode cX6_both 55 = .ok (.iload 4, 2) := by decide +kernel
theorem dX6_both_57 : decode cX6_both 57 = .ok (.invokevirtual 248, 3) := by decide +kernel
theorem dX6_both_60 : decode cX6_both 60 = .ok (.ifCond .eq 38, 3) := by decide +kernel
theorem dX6_both_63 : decode cX6_both 63 = .ok (.aload_n 0, 1) := by decide +kernel
theorem dX6_both_64 : decode cX6_both 64 = .ok (.invokevirtual 175, 3) := by decide +kernel
theorem dX6_both_67 : decode cX6_both 67 = .ok (.aload_n 0, 1) := by decide +kernel
theorem dX6_both_68 : decode cX6_both 68 = .ok (.iload_n 3, 1) := by decide +kernel
theorem dX6_both_69 : decode cX6_both 69 = .ok (.iconst 3, 1) := by decide +kernel
theorem dX6_both_70 : decode cX6_both 70 = .ok (.iconst 1, 1) := by decide +kernel
theorem dX6_both_71 : decode cX6_both 71 = .ok (.invokevirtual 162, 3) := by decide +kernel
theorem dX6_both_74 : decode cX6_both 74 = .ok (.aload_n 0, 1) := by decide +kernel
theorem dX6_both_75 : decode cX6_both 75 = .ok (.iload 4, 2) := by decide +kernel
theorem dX6_both_77 : decode cX6_both 77 = .ok (.iconst 3, 1) := by decide +kernel
theorem dX6_both_78 : decode cX6_both 78 = .ok (.iconst 1, 1) := by decide +kernel
theorem dX6_both_79 : decode cX6_both 79 = .ok (.invokevirtual 162, 3) := by decide +kernel
theorem dX6_both_82 : decode cX6_both 82 = .ok (.aload_n 0, 1) := by decide +kernel
theorem dX6_both_83 : decode cX6_both 83 = .ok (.bipush 10, 2) := by decide +kernel
theorem dX6_both_85 : decode cX6_both 85 = .ok (.iload_n 3, 1) := by decide +kernel
theorem dX6_both_86 : decode cX6_both 86 = .ok (.imul, 1) := by decide +kernel
theorem dX6_both_87 : decode cX6_both 87 = .ok (.iload 4, 2) := by decide +kernel
theorem dX6_both_89 : decode cX6_both 89 = .ok (.iadd, 1) := by decide +kernel
theorem dX6_both_90 : decode cX6_both 90 = .ok (.aload_n 0, 1) := by decide +kernel
theorem dX6_both_91 : decode cX6_both 91 = .ok (.iload_n 1, 1) := by decide +kernel
theorem dX6_both_92 : decode cX6_both 92 = .ok (.invokevirtual 235, 3) := by decide +kernel
theorem dX6_both_95 : decode cX6_both 95 = .ok (.invokevirtual 251, 3) := by decide +kernel
theorem dX6_both_98 : decode cX6_both 98 = .ok (.iinc 4 1, 3) := by decide +kernel
theorem dX6_both_101 : decode cX6_both 101 = .ok (.goto (-64), 3) := by decide +kernel
theorem dX6_both_104 : decode cX6_both 104 = .ok (.iinc 3 1, 3) := by decide +kernel
theorem dX6_both_107 : decode cX6_both 107 = .ok (.goto (-83), 3) := by decide +kernel
theorem dX6_both_110 : decode cX6_both 110 = .ok (.aload_n 0, 1) := by decide +kernel
theorem dX6_both_111 : decode cX6_both 111 = .ok (.iload_n 2, 1) := by decide +kernel
theorem dX6_both_112 : decode cX6_both 112 = .ok (.invokevirtual 255, 3) := by decide +kernel
theorem dX6_both_115 : decode cX6_both 115 = .ok (.ireturn, 1) := by decide +kernel
theorem dX6_when_0 : decode cX6_when 0 = .ok (.aload_n 0, 1) := by decide +kernel
theorem dX6_when_1 : decode cX6_when 1 = .ok (.iload_n 1, 1) := by decide +kernel
theorem dX6_when_2 : decode cX6_when 2 = .ok (.invokevirtual 181, 3) := by decide +kernel
theorem dX6_when_5 : decode cX6_when 5 = .ok (.ifCond .eq 25, 3) := by decide +kernel
theorem dX6_when_8 : decode cX6_when 8 = .ok (.iload_n 2, 1) := by decide +kernel
theorem dX6_when_9 : decode cX6_when 9 = .ok (.invokestatic 232, 3) := by decide +kernel
theorem dX6_when_12 : decode cX6_when 12 = .ok (.ifCond .eq 18, 3) := by decide +kernel
theorem dX6_when_15 : decode cX6_when 15 = .ok (.iload_n 3, 1) := by decide +kernel
theorem dX6_when_16 : decode cX6_when 16 = .ok (.invokestatic 223, 3) := by decide +kernel
theorem dX6_when_19 : decode cX6_when 19 = .ok (.ifCond .eq 11, 3) := by decide +kernel
theorem dX6_when_22 : decode cX6_when 22 = .ok (.iload 4, 2) := by decide +kernel
theorem dX6_when_24 : decode cX6_when 24 = .ok (.invokestatic 188, 3) := by decide +kernel
theorem dX6_when_27 : decode cX6_when 27 = .ok (.ifCond .ne 5, 3) := by decide +kernel
theorem dX6_when_30 : decode cX6_when 30 = .ok (.iconst (-1), 1) := by decide +kernel
theorem dX6_when_31 : decode cX6_when 31 = .ok (.ireturn, 1) := by decide +kernel
theorem dX6_when_32 : decode cX6_when 32 = .ok (.aload_n 0, 1) := by decide +kernel
theorem dX6_when_33 : decode cX6_when 33 = .ok (.ldc 244, 2) := by decide +kernel
theorem dX6_when_35 : decode cX6_when 35 = .ok (.invokevirtual 245, 3) := by decide +kernel
theorem dX6_when_38 : decode cX6_when 38 = .ok (.iconst 0, 1) := by decide +kernel
theorem dX6_when_39 : decode cX6_when 39 = .ok (.istore 5, 2) := by decide +kernel
theorem dX6_when_41 : decode cX6_when 41 = .ok (.iload 5, 2) := by decide +kernel
theorem dX6_when_43 : decode cX6_when 43 = .ok (.bipush 30, 2) := by decide +kernel
theorem dX6_when_45 : decode cX6_when 45 = .ok (.if_icmp .gt 48, 3) := by decide +kernel
theorem dX6_when_48 : decode cX6_when 48 = .ok (.aload_n 0, 1) := by decide +kernel
theorem dX6_when_49 : decode cX6_when 49 = .ok (.invokevirtual 175, 3) := by decide +kernel
theorem dX6_when_52 : decode cX6_when 52 = .ok (.aload_n 0, 1) := by decide +kernel
theorem dX6_when_53 : decode cX6_when 53 = .ok (.iload_n 1, 1) := by decide +kernel
theorem dX6_when_54 : decode cX6_when 54 = .ok (.putfield 149, 3) := by decide +kernel
theorem dX6_when_57 : decode cX6_when 57 = .ok (.aload_n 0, 1) := by decide +kernel
theorem dX6_when_58 : decode cX6_when 58 = .ok (.aload_n 0, 1) := by decide +kernel
theorem dX6_when_59 : decode cX6_when 59 = .ok (.getfield 13, 3) := by decide +kernel
theorem dX6_when_62 : decode cX6_when 62 = .ok (.bipush 27, 2) := by decide +kernel
theorem dX6_when_64 : decode cX6_when 64 = .ok (.iaload, 1) := by decide +kernel
theorem dX6_when_65 : decode cX6_when 65 = .ok (.iload 5, 2) := by decide +kernel
theorem dX6_when_67 : decode cX6_when 67 = .ok (.iadd, 1) := by decide +kernel
theorem dX6_when_68 : decode cX6_when 68 = .ok (.putfield 166, 3) := by decide +kernel
theorem dX6_when_71 : decode cX6_when 71 = .ok (.aload_n 0, 1) := by decide +kernel
theorem dX6_when_72 : decode cX6_when 72 = .ok (.iload_n 3, 1) := by decide +kernel
theorem dX6_when_73 : decode cX6_when 73 = .ok (.invokevirtual 205, 3) := by decide +kernel
theorem dX6_when_76 : decode cX6_when 76 = .ok (.aload_n 0, 1) := by decide +kernel
theorem dX6_when_77 : decode cX6_when 77 = .ok (.iload 5, 2) := by decide +kernel
theorem dX6_when_79 : decode cX6_when 79 = .ok (.aload_n 0, 1) := by decide +kernel
theorem dX6_when_80 : decode cX6_when 80 = .ok (.iload_n 2, 1) := by decide +kernel
theorem dX6_when_81 : decode cX6_when 81 = .ok (.invokevirtual 258, 3) := by decide +kernel
theorem dX6_when_84 : decode cX6_when 84 = .ok (.invokevirtual 251, 3) := by decide +kernel
theorem dX6_when_87 : decode cX6_when 87 = .ok (.iinc 5 1, 3) := by decide +kernel
theorem dX6_when_90 : decode cX6_when 90 = .ok (.goto (-49), 3) := by decide +kernel
theorem dX6_when_93 : decode cX6_when 93 = .ok (.aload_n 0, 1) := by decide +kernel
theorem dX6_when_94 : decode cX6_when 94 = .ok (.iload 4, 2) := by decide +kernel
theorem dX6_when_96 : decode cX6_when 96 = .ok (.invokevirtual 255, 3) := by decide +kernel
theorem dX6_when_99 : decode cX6_when 99 = .ok (.ireturn, 1) := by decide +kernel
theorem dX6_steer_0 : decode cX6_steer 0 = .ok (.iload_n 1, 1) := by decide +kernel
theorem dX6_steer_1 : decode cX6_steer 1 = .ok (.invokestatic 185, 3) := by decide +kernel
theorem dX6_steer_4 : decode cX6_steer 4 = .ok (.ifCond .eq 25, 3) := by decide +kernel
theorem dX6_steer_7 : decode cX6_steer 7 = .ok (.iload_n 2, 1) := by decide +kernel
theorem dX6_steer_8 : decode cX6_steer 8 = .ok (.invokestatic 232, 3) := by decide +kernel
theorem dX6_steer_11 : decode cX6_steer 11 = .ok (.ifCond .eq 18, 3) := by decide +kernel
theorem dX6_steer_14 : decode cX6_steer 14 = .ok (.iload_n 3, 1) := by decide +kernel
theorem dX6_steer_15 : decode cX6_steer 15 = .ok (.invokestatic 223, 3) := by decide +kernel
theorem dX6_steer_18 : decode cX6_steer 18 = .ok (.ifCond .eq 11, 3) := by decide +kernel
theorem dX6_steer_21 : decode cX6_steer 21 = .ok (.iload 4, 2) := by decide +kernel
theorem dX6_steer_23 : decode cX6_steer 23 = .ok (.invokestatic 188, 3) := by decide +kernel
theorem dX6_steer_26 : decode cX6_steer 26 = .ok (.ifCond .ne 5, 3) := by decide +kernel
theorem dX6_steer_29 : decode cX6_steer 29 = .ok (.iconst (-1), 1) := by decide +kernel
theorem dX6_steer_30 : decode cX6_steer 30 = .ok (.ireturn, 1) := by decide +kernel
theorem dX6_steer_31 : decode cX6_steer 31 = .ok (.aload_n 0, 1) := by decide +kernel
theorem dX6_steer_32 : decode cX6_steer 32 = .ok (.ldc 244, 2) := by decide +kernel
theorem dX6_steer_34 : decode cX6_steer 34 = .ok (.invokevirtual 245, 3) := by decide +kernel
theorem dX6_steer_37 : decode cX6_steer 37 = .ok (.iconst 0, 1) := by decide +kernel
theorem dX6_steer_38 : decode cX6_steer 38 = .ok (.istore 5, 2) := by decide +kernel
theorem dX6_steer_40 : decode cX6_steer 40 = .ok (.iload 5, 2) := by decide +kernel
theorem dX6_steer_42 : decode cX6_steer 42 = .ok (.bipush 8, 2) := by decide +kernel
theorem dX6_steer_44 : decode cX6_steer 44 = .ok (.if_icmp .gt 40, 3) := by decide +kernel
theorem dX6_steer_47 : decode cX6_steer 47 = .ok (.aload_n 0, 1) := by decide +kernel
theorem dX6_steer_48 : decode cX6_steer 48 = .ok (.invokevirtual 175, 3) := by decide +kernel
theorem dX6_steer_51 : decode cX6_steer 51 = .ok (.aload_n 0, 1) := by decide +kernel
theorem dX6_steer_52 : decode cX6_steer 52 = .ok (.getfield 13, 3) := by decide +kernel
theorem dX6_steer_55 : decode cX6_steer 55 = .ok (.bipush 28, 2) := by decide +kernel
theorem dX6_steer_57 : decode cX6_steer 57 = .ok (.iload_n 1, 1) := by decide +kernel
theorem dX6_steer_58 : decode cX6_steer 58 = .ok (.iadd, 1) := by decide +kernel
theorem dX6_steer_59 : decode cX6_steer 59 = .ok (.iload 5, 2) := by decide +kernel
theorem dX6_steer_61 : decode cX6_steer 61 = .ok (.iastore, 1) := by decide +kernel
theorem dX6_steer_62 : decode cX6_steer 62 = .ok (.aload_n 0, 1) := by decide +kernel
theorem dX6_steer_63 : decode cX6_steer 63 = .ok (.iload_n 3, 1) := by decide +kernel
theorem dX6_steer_64 : decode cX6_steer 64 = .ok (.invokevirtual 205, 3) := by decide +kernel
theorem dX6_steer_67 : decode cX6_steer 67 = .ok (.aload_n 0, 1) := by decide +kernel
theorem dX6_steer_68 : decode cX6_steer 68 = .ok (.iload 5, 2) := by decide +kernel
theorem dX6_steer_70 : decode cX6_steer 70 = .ok (.aload_n 0, 1) := by decide +kernel
theorem dX6_steer_71 : decode cX6_steer 71 = .ok (.iload_n 2, 1) := by decide +kernel
theorem dX6_steer_72 : decode cX6_steer 72 = .ok (.invokevirtual 258, 3) := by decide +kernel
theorem dX6_steer_75 : decode cX6_steer 75 = .ok (.invokevirtual 251, 3) := by decide +kernel
theorem dX6_steer_78 : decode cX6_steer 78 = .ok (.iinc 5 1, 3) := by decide +kernel
theorem dX6_steer_81 : decode cX6_steer 81 = .ok (.goto (-41), 3) := by decide +kernel
theorem dX6_steer_84 : decode cX6_steer 84 = .ok (.aload_n 0, 1) := by decide +kernel
theorem dX6_steer_85 : decode cX6_steer 85 = .ok (.iload 4, 2) := by decide +kernel
theorem dX6_steer_87 : decode cX6_steer 87 = .ok (.invokevirtual 255, 3) := by decide +kernel
theorem dX6_steer_90 : decode cX6_steer 90 = .ok (.ireturn, 1) := by decide +kernel
theorem dX6_hush_0 : decode cX6_hush 0 = .ok (.iload_n 1, 1) := by decide +kernel
theorem dX6_hush_1 : decode cX6_hush 1 = .ok (.invokestatic 223, 3) := by decide +kernel
theorem dX6_hush_4 : decode cX6_hush 4 = .ok (.ifCond .eq 10, 3) := by decide +kernel
theorem dX6_hush_7 : decode cX6_hush 7 = .ok (.iload_n 2, 1) := by decide +kernel
theorem dX6_hush_8 : decode cX6_hush 8 = .ok (.invokestatic 188, 3) := by decide +kernel
theorem dX6_hush_11 : decode cX6_hush 11 = .ok (.ifCond .ne 5, 3) := by decide +kernel
theorem dX6_hush_14 : decode cX6_hush 14 = .ok (.iconst (-1), 1) := by decide +kernel
theorem dX6_hush_15 : decode cX6_hush 15 = .ok (.ireturn, 1) := by decide +kernel
theorem dX6_hush_16 : decode cX6_hush 16 = .ok (.aload_n 0, 1) := by decide +kernel
theorem dX6_hush_17 : decode cX6_hush 17 = .ok (.invokevirtual 175, 3) := by decide +kernel
theorem dX6_hush_20 : decode cX6_hush 20 = .ok (.aload_n 0, 1) := by decide +kernel
theorem dX6_hush_21 : decode cX6_hush 21 = .ok (.iload_n 1, 1) := by decide +kernel
theorem dX6_hush_22 : decode cX6_hush 22 = .ok (.invokevirtual 226, 3) := by decide +kernel
theorem dX6_hush_25 : decode cX6_hush 25 = .ok (.aload_n 0, 1) := by decide +kernel
theorem dX6_hush_26 : decode cX6_hush 26 = .ok (.aload_n 0, 1) := by decide +kernel
theorem dX6_hush_27 : decode cX6_hush 27 = .ok (.getfield 213, 3) := by decide +kernel
theorem dX6_hush_30 : decode cX6_hush 30 = .ok (.invokevirtual 245, 3) := by decide +kernel
theorem dX6_hush_33 : decode cX6_hush 33 = .ok (.iconst 0, 1) := by decide +kernel
theorem dX6_hush_34 : decode cX6_hush 34 = .ok (.istore_n 3, 1) := by decide +kernel
theorem dX6_hush_35 : decode cX6_hush 35 = .ok (.iload_n 3, 1) := by decide +kernel
theorem dX6_hush_36 : decode cX6_hush 36 = .ok (.aload_n 0, 1) := by decide +kernel
theorem dX6_hush_37 : decode cX6_hush 37 = .ok (.getfield 7, 3) := by decide +kernel
theorem dX6_hush_40 : decode cX6_hush 40 = .ok (.bipush 33, 2) := by decide +kernel
theorem dX6_hush_42 : decode cX6_hush 42 = .ok (.iaload, 1) := by decide +kernel
theorem dX6_hush_43 : decode cX6_hush 43 = .ok (.if_icmp .ge 34, 3) := by decide +kernel
theorem dX6_hush_46 : decode cX6_hush 46 = .ok (.aload_n 0, 1) := by decide +kernel
theorem dX6_hush_47 : decode cX6_hush 47 = .ok (.invokevirtual 175, 3) := by decide +kernel
theorem dX6_hush_50 : decode cX6_hush 50 = .ok (.aload_n 0, 1) := by decide +kernel
theorem dX6_hush_51 : decode cX6_hush 51 = .ok (.iconst 1, 1) := by decide +kernel
theorem dX6_hush_52 : decode cX6_hush 52 = .ok (.iload_n 3, 1) := by decide +kernel
theorem dX6_hush_53 : decode cX6_hush 53 = .ok (.ishl, 1) := by decide +kernel
theorem dX6_hush_54 : decode cX6_hush 54 = .ok (.putfield 146, 3) := by decide +kernel
theorem dX6_hush_57 : decode cX6_hush 57 = .ok (.aload_n 0, 1) := by decide +kernel
theorem dX6_hush_58 : decode cX6_hush 58 = .ok (.iload_n 1, 1) := by decide +kernel
theorem dX6_hush_59 : decode cX6_hush 59 = .ok (.invokevirtual 226, 3) := by decide +kernel
theorem dX6_hush_62 : decode cX6_hush 62 = .ok (.aload_n 0, 1) := by decide +kernel
theorem dX6_hush_63 : decode cX6_hush 63 = .ok (.iload_n 3, 1) := by decide +kernel
theorem dX6_hush_64 : decode cX6_hush 64 = .ok (.aload_n 0, 1) := by decide +kernel
theorem dX6_hush_65 : decode cX6_hush 65 = .ok (.getfield 213, 3) := by decide +kernel
theorem dX6_hush_68 : decode cX6_hush 68 = .ok (.invokevirtual 251, 3) := by decide +kernel
theorem dX6_hush_71 : decode cX6_hush 71 = .ok (.iinc 3 1, 3) := by decide +kernel
theorem dX6_hush_74 : decode cX6_hush 74 = .ok (.goto (-39), 3) := by decide +kernel
theorem dX6_hush_77 : decode cX6_hush 77 = .ok (.aload_n 0, 1) := by decide +kernel
theorem dX6_hush_78 : decode cX6_hush 78 = .ok (.iload_n 2, 1) := by decide +kernel
theorem dX6_hush_79 : decode cX6_hush 79 = .ok (.invokevirtual 255, 3) := by decide +kernel
theorem dX6_hush_82 : decode cX6_hush 82 = .ok (.ireturn, 1) := by decide +kernel
theorem dX6_swap_0 : decode cX6_swap 0 = .ok (.iload_n 1, 1) := by decide +kernel
theorem dX6_swap_1 : decode cX6_swap 1 = .ok (.invokestatic 188, 3) := by decide +kernel
theorem dX6_swap_4 : decode cX6_swap 4 = .ok (.ifCond .ne 5, 3) := by decide +kernel
theorem dX6_swap_7 : decode cX6_swap 7 = .ok (.iconst (-1), 1) := by decide +kernel
theorem dX6_swap_8 : decode cX6_swap 8 = .ok (.ireturn, 1) := by decide +kernel
theorem dX6_swap_9 : decode cX6_swap 9 = .ok (.aload_n 0, 1) := by decide +kernel
theorem dX6_swap_10 : decode cX6_swap 10 = .ok (.invokevirtual 175, 3) := by decide +kernel
theorem dX6_swap_13 : decode cX6_swap 13 = .ok (.aload_n 0, 1) := by decide +kernel
theorem dX6_swap_14 : decode cX6_swap 14 = .ok (.invokevirtual 229, 3) := by decide +kernel
theorem dX6_swap_17 : decode cX6_swap 17 = .ok (.istore_n 2, 1) := by decide +kernel
theorem dX6_swap_18 : decode cX6_swap 18 = .ok (.aload_n 0, 1) := by decide +kernel
theorem dX6_swap_19 : decode cX6_swap 19 = .ok (.iload_n 2, 1) := by decide +kernel
theorem dX6_swap_20 : decode cX6_swap 20 = .ok (.bipush (-4), 2) := by decide +kernel
theorem dX6_swap_22 : decode cX6_swap 22 = .ok (.if_icmp .ne 8, 3) := by decide +kernel
theorem dX6_swap_25 : decode cX6_swap 25 = .ok (.ldc 244, 2) := by decide +kernel
theorem dX6_swap_27 : decode cX6_swap 27 = .ok (.goto 4, 3) := by decide +kernel
theorem dX6_swap_30 : decode cX6_swap 30 = .ok (.iload_n 2, 1) := by decide +kernel
theorem dX6_swap_31 : decode cX6_swap 31 = .ok (.invokevirtual 245, 3) := by decide +kernel
theorem dX6_swap_34 : decode cX6_swap 34 = .ok (.iconst 0, 1) := by decide +kernel
theorem dX6_swap_35 : decode cX6_swap 35 = .ok (.istore_n 3, 1) := by decide +kernel
theorem dX6_swap_36 : decode cX6_swap 36 = .ok (.iload_n 3, 1) := by decide +kernel
theorem dX6_swap_37 : decode cX6_swap 37 = .ok (.aload_n 0, 1) := by decide +kernel
theorem dX6_swap_38 : decode cX6_swap 38 = .ok (.getfield 7, 3) := by decide +kernel
theorem dX6_swap_41 : decode cX6_swap 41 = .ok (.bipush 33, 2) := by decide +kernel
theorem dX6_swap_43 : decode cX6_swap 43 = .ok (.iaload, 1) := by decide +kernel
theorem dX6_swap_44 : decode cX6_swap 44 = .ok (.if_icmp .ge 105, 3) := by decide +kernel
theorem dX6_swap_47 : decode cX6_swap 47 = .ok (.iload_n 3, 1) := by decide +kernel
theorem dX6_swap_48 : decode cX6_swap 48 = .ok (.iconst 1, 1) := by decide +kernel
theorem dX6_swap_49 : decode cX6_swap 49 = .ok (.iadd, 1) := by decide +kernel
theorem dX6_swap_50 : decode cX6_swap 50 = .ok (.istore 4, 2) := by decide +kernel
theorem dX6_swap_52 : decode cX6_swap 52 = .ok (.iload 4, 2) := by decide +kernel
theorem dX6_swap_54 : decode cX6_swap 54 = .ok (.aload_n 0, 1) := by decide +kernel
theorem dX6_swap_55 : decode cX6_swap 55 = .ok (.getfield 7, 3) := by decide +kernel
theorem dX6_swap_58 : decode cX6_swap 58 = .ok (.bipush 33, 2) := by decide +kernel
theorem dX6_swap_60 : decode cX6_swap 60 = .ok (.iaload, 1) := by decide +kernel
theorem dX6_swap_61 : decode cX6_swap 61 = .ok (.if_icmp .ge 82, 3) := by decide +kernel
theorem dX6_swap_64 : decode cX6_swap 64 = .ok (.aload_n 0, 1) := by decide +kernel
theorem dX6_swap_65 : decode cX6_swap 65 = .ok (.invokevirtual 175, 3) := by decide +kernel
theorem dX6_swap_68 : decode cX6_swap 68 = .ok (.aload_n 0, 1) := by decide +kernel
theorem dX6_swap_69 : decode cX6_swap 69 = .ok (.getfield 13, 3) := by decide +kernel
theorem dX6_swap_72 : decode cX6_swap 72 = .ok (.bipush 34, 2) := by decide +kernel
theorem dX6_swap_74 : decode cX6_swap 74 = .ok (.iconst 2, 1) := by decide +kernel
theorem dX6_swap_75 : decode cX6_swap 75 = .ok (.iload_n 3, 1) := by decide +kernel
theorem dX6_swap_76 : decode cX6_swap 76 = .ok (.imul, 1) := by decide +kernel
theorem dX6_swap_77 : decode cX6_swap 77 = .ok (.iadd, 1) := by decide +kernel
theorem dX6_swap_78 : decode cX6_swap 78 = .ok (.iconst 1, 1) := by decide +kernel
theorem dX6_swap_79 : decode cX6_swap 79 = .ok (.iadd, 1) := by decide +kernel
theorem dX6_swap_80 : decode cX6_swap 80 = .ok (.aload_n 0, 1) := by decide +kernel
theorem dX6_swap_81 : decode cX6_swap 81 = .ok (.getfield 7, 3) := by decide +kernel
theorem dX6_swap_84 : decode cX6_swap 84 = .ok (.bipush 34, 2) := by decide +kernel
theorem dX6_swap_86 : decode cX6_swap 86 = .ok (.iconst 2, 1) := by decide +kernel
theorem dX6_swap_87 : decode cX6_swap 87 = .ok (.iload 4, 2) := by decide +kernel
theorem dX6_swap_89 : decode cX6_swap 89 = .ok (.imul, 1) := by decide +kernel
theorem dX6_swap_90 : decode cX6_swap 90 = .ok (.iadd, 1) := by decide +kernel
theorem dX6_swap_91 : decode cX6_swap 91 = .ok (.iconst 1, 1) := by decide +kernel
theorem dX6_swap_92 : decode cX6_swap 92 = .ok (.iadd, 1) := by decide +kernel
theorem dX6_swap_93 : decode cX6_swap 93 = .ok (.iaload, 1) := by decide +kernel
theorem dX6_swap_94 : decode cX6_swap 94 = .ok (.iastore, 1) := by decide +kernel
theorem dX6_swap_95 : decode cX6_swap 95 = .ok (.aload_n 0, 1) := by decide +kernel
theorem dX6_swap_96 : decode cX6_swap 96 = .ok (.getfield 13, 3) := by decide +kernel
theorem dX6_swap_99 : decode cX6_swap 99 = .ok (.bipush 34, 2) := by decide +kernel
theorem dX6_swap_101 : decode cX6_swap 101 = .ok (.iconst 2, 1) := by decide +kernel
theorem dX6_swap_102 : decode cX6_swap 102 = .ok (.iload 4, 2) := by decide +kernel
theorem dX6_swap_104 : decode cX6_swap 104 = .ok (.imul, 1) := by decide +kernel
theorem dX6_swap_105 : decode cX6_swap 105 = .ok (.iadd, 1) := by decide +kernel
theorem dX6_swap_106 : decode cX6_swap 106 = .ok (.iconst 1, 1) := by decide +kernel
theorem dX6_swap_107 : decode cX6_swap 107 = .ok (.iadd, 1) := by decide +kernel
theorem dX6_swap_108 : decode cX6_swap 108 = .ok (.aload_n 0, 1) := by decide +kernel
theorem dX6_swap_109 : decode cX6_swap 109 = .ok (.getfield 7, 3) := by decide +kernel
theorem dX6_swap_112 : decode cX6_swap 112 = .ok (.bipush 34, 2) := by decide +kernel
theorem dX6_swap_114 : decode cX6_swap 114 = .ok (.iconst 2, 1) := by decide +kernel
theorem dX6_swap_115 : decode cX6_swap 115 = .ok (.iload_n 3, 1) := by decide +kernel
theorem dX6_swap_116 : decode cX6_swap 116 = .ok (.imul, 1) := by decide +kernel
theorem dX6_swap_117 : decode cX6_swap 117 = .ok (.iadd, 1) := by decide +kernel
theorem dX6_swap_118 : decode cX6_swap 118 = .ok (.iconst 1, 1) := by decide +kernel
theorem dX6_swap_119 : decode cX6_swap 119 = .ok (.iadd, 1) := by decide +kernel
theorem dX6_swap_120 : decode cX6_swap 120 = .ok (.iaload, 1) := by decide +kernel
theorem dX6_swap_121 : decode cX6_swap 121 = .ok (.iastore, 1) := by decide +kernel
theorem dX6_swap_122 : decode cX6_swap 122 = .ok (.aload_n 0, 1) := by decide +kernel
theorem dX6_swap_123 : decode cX6_swap 123 = .ok (.bipush 10, 2) := by decide +kernel
theorem dX6_swap_125 : decode cX6_swap 125 = .ok (.iload_n 3, 1) := by decide +kernel
theorem dX6_swap_126 : decode cX6_swap 126 = .ok (.imul, 1) := by decide +kernel
theorem dX6_swap_127 : decode cX6_swap 127 = .ok (.iload 4, 2) := by decide +kernel
theorem dX6_swap_129 : decode cX6_swap 129 = .ok (.iadd, 1) := by decide +kernel
theorem dX6_swap_130 : decode cX6_swap 130 = .ok (.aload_n 0, 1) := by decide +kernel
theorem dX6_swap_131 : decode cX6_swap 131 = .ok (.invokevirtual 229, 3) := by decide +kernel
theorem dX6_swap_134 : decode cX6_swap 134 = .ok (.invokevirtual 251, 3) := by decide +kernel
theorem dX6_swap_137 : decode cX6_swap 137 = .ok (.iinc 4 1, 3) := by decide +kernel
theorem dX6_swap_140 : decode cX6_swap 140 = .ok (.goto (-88), 3) := by decide +kernel
theorem dX6_swap_143 : decode cX6_swap 143 = .ok (.iinc 3 1, 3) := by decide +kernel
theorem dX6_swap_146 : decode cX6_swap 146 = .ok (.goto (-110), 3) := by decide +kernel
theorem dX6_swap_149 : decode cX6_swap 149 = .ok (.aload_n 0, 1) := by decide +kernel
theorem dX6_swap_150 : decode cX6_swap 150 = .ok (.iload_n 1, 1) := by decide +kernel
theorem dX6_swap_151 : decode cX6_swap 151 = .ok (.invokevirtual 255, 3) := by decide +kernel
theorem dX6_swap_154 : decode cX6_swap 154 = .ok (.ireturn, 1) := by decide +kernel
theorem dX6_need_0 : decode cX6_need 0 = .ok (.aload_n 0, 1) := by decide +kernel
theorem dX6_need_1 : decode cX6_need 1 = .ok (.iload_n 1, 1) := by decide +kernel
theorem dX6_need_2 : decode cX6_need 2 = .ok (.invokevirtual 181, 3) := by decide +kernel
theorem dX6_need_5 : decode cX6_need 5 = .ok (.ifCond .eq 22, 3) := by decide +kernel
theorem dX6_need_8 : decode cX6_need 8 = .ok (.iload_n 2, 1) := by decide +kernel
theorem dX6_need_9 : decode cX6_need 9 = .ok (.invokestatic 223, 3) := by decide +kernel
theorem dX6_need_12 : decode cX6_need 12 = .ok (.ifCond .eq 15, 3) := by decide +kernel
theorem dX6_need_15 : decode cX6_need 15 = .ok (.iload_n 3, 1) := by decide +kernel
theorem dX6_need_16 : decode cX6_need 16 = .ok (.i2l, 1) := by decide +kernel
theorem dX6_need_17 : decode cX6_need 17 = .ok (.lconst 0, 1) := by decide +kernel
theorem dX6_need_18 : decode cX6_need 18 = .ok (.ldc2_w 211, 3) := by decide +kernel
theorem dX6_need_21 : decode cX6_need 21 = .ok (.invokestatic 69, 3) := by decide +kernel
theorem dX6_need_24 : decode cX6_need 24 = .ok (.ifCond .ne 5, 3) := by decide +kernel
theorem dX6_need_27 : decode cX6_need 27 = .ok (.iconst (-1), 1) := by decide +kernel
theorem dX6_need_28 : decode cX6_need 28 = .ok (.ireturn, 1) := by decide +kernel
theorem dX6_need_29 : decode cX6_need 29 = .ok (.iconst 1, 1) := by decide +kernel
theorem dX6_need_30 : decode cX6_need 30 = .ok (.istore 4, 2) := by decide +kernel
theorem dX6_need_32 : decode cX6_need 32 = .ok (.iload 4, 2) := by decide +kernel
theorem dX6_need_34 : decode cX6_need 34 = .ok (.bipush 9, 2) := by decide +kernel
theorem dX6_need_36 : decode cX6_need 36 = .ok (.if_icmp .gt 40, 3) := by decide +kernel
theorem dX6_need_39 : decode cX6_need 39 = .ok (.aload_n 0, 1) := by decide +kernel
theorem dX6_need_40 : decode cX6_need 40 = .ok (.invokevirtual 175, 3) := by decide +kernel
theorem dX6_need_43 : decode cX6_need 43 = .ok (.aload_n 0, 1) := by decide +kernel
theorem dX6_need_44 : decode cX6_need 44 = .ok (.iload_n 1, 1) := by decide +kernel
theorem dX6_need_45 : decode cX6_need 45 = .ok (.iconst 1, 1) := by decide +kernel
theorem dX6_need_46 : decode cX6_need 46 = .ok (.iload 4, 2) := by decide +kernel
theorem dX6_need_48 : decode cX6_need 48 = .ok (.invokevirtual 162, 3) := by decide +kernel
theorem dX6_need_51 : decode cX6_need 51 = .ok (.aload_n 0, 1) := by decide +kernel
theorem dX6_need_52 : decode cX6_need 52 = .ok (.iload_n 2, 1) := by decide +kernel
theorem dX6_need_53 : decode cX6_need 53 = .ok (.invokevirtual 205, 3) := by decide +kernel
theorem dX6_need_56 : decode cX6_need 56 = .ok (.aload_n 0, 1) := by decide +kernel
theorem dX6_need_57 : decode cX6_need 57 = .ok (.getfield 13, 3) := by decide +kernel
theorem dX6_need_60 : decode cX6_need 60 = .ok (.bipush 24, 2) := by decide +kernel
theorem dX6_need_62 : decode cX6_need 62 = .ok (.iaload, 1) := by decide +kernel
theorem dX6_need_63 : decode cX6_need 63 = .ok (.iload_n 3, 1) := by decide +kernel
theorem dX6_need_64 : decode cX6_need 64 = .ok (.if_icmp .lt 6, 3) := by decide +kernel
theorem dX6_need_67 : decode cX6_need 67 = .ok (.iload 4, 2) := by decide +kernel
theorem dX6_need_69 : decode cX6_need 69 = .ok (.ireturn, 1) := by decide +kernel
theorem dX6_need_70 : decode cX6_need 70 = .ok (.iinc 4 1, 3) := by decide +kernel
theorem dX6_need_73 : decode cX6_need 73 = .ok (.goto (-41), 3) := by decide +kernel
theorem dX6_need_76 : decode cX6_need 76 = .ok (.bipush (-4), 2) := by decide +kernel
theorem dX6_need_78 : decode cX6_need 78 = .ok (.ireturn, 1) := by decide +kernel
theorem dX6_common_0 : decode cX6_common 0 = .ok (.lload_n 0, 1) := by decide +kernel
theorem dX6_common_1 : decode cX6_common 1 = .ok (.lstore 4, 2) := by decide +kernel
theorem dX6_common_3 : decode cX6_common 3 = .ok (.lload_n 2, 1) := by decide +kernel
theorem dX6_common_4 : decode cX6_common 4 = .ok (.lstore 6, 2) := by decide +kernel
theorem dX6_common_6 : decode cX6_common 6 = .ok (.lload 6, 2) := by decide +kernel
theorem dX6_common_8 : decode cX6_common 8 = .ok (.lconst 0, 1) := by decide +kernel
theorem dX6_common_9 : decode cX6_common 9 = .ok (.lcmp, 1) := by decide +kernel
theorem dX6_common_10 : decode cX6_common 10 = .ok (.ifCond .eq 21, 3) := by decide +kernel
theorem dX6_common_13 : decode cX6_common 13 = .ok (.lload 4, 2) := by decide +kernel
theorem dX6_common_15 : decode cX6_common 15 = .ok (.lload 6, 2) := by decide +kernel
theorem dX6_common_17 : decode cX6_common 17 = .ok (.lrem, 1) := by decide +kernel
theorem dX6_common_18 : decode cX6_common 18 = .ok (.lstore 8, 2) := by decide +kernel
theorem dX6_common_20 : decode cX6_common 20 = .ok (.lload 6, 2) := by decide +kernel
theorem dX6_common_22 : decode cX6_common 22 = .ok (.lstore 4, 2) := by decide +kernel
theorem dX6_common_24 : decode cX6_common 24 = .ok (.lload 8, 2) := by decide +kernel
theorem dX6_common_26 : decode cX6_common 26 = .ok (.lstore 6, 2) := by decide +kernel
theorem dX6_common_28 : decode cX6_common 28 = .ok (.goto (-22), 3) := by decide +kernel
theorem dX6_common_31 : decode cX6_common 31 = .ok (.lload 4, 2) := by decide +kernel
theorem dX6_common_33 : decode cX6_common 33 = .ok (.lreturn, 1) := by decide +kernel
theorem dX6_told_0 : decode cX6_told 0 = .ok (.lload_n 2, 1) := by decide +kernel
theorem dX6_told_1 : decode cX6_told 1 = .ok (.lload_n 0, 1) := by decide +kernel
theorem dX6_told_2 : decode cX6_told 2 = .ok (.invokestatic 261, 3) := by decide +kernel
theorem dX6_told_5 : decode cX6_told 5 = .ok (.lstore 5, 2) := by decide +kernel
theorem dX6_told_7 : decode cX6_told 7 = .ok (.iload 4, 2) := by decide +kernel
theorem dX6_told_9 : decode cX6_told 9 = .ok (.ifCond .ne 10, 3) := by decide +kernel
theorem dX6_told_12 : decode cX6_told 12 = .ok (.lload_n 0, 1) := by decide +kernel
theorem dX6_told_13 : decode cX6_told 13 = .ok (.lload 5, 2) := by decide +kernel
theorem dX6_told_15 : decode cX6_told 15 = .ok (.ldiv, 1) := by decide +kernel
theorem dX6_told_16 : decode cX6_told 16 = .ok (.goto 7, 3) := by decide +kernel
theorem dX6_told_19 : decode cX6_told 19 = .ok (.lload_n 2, 1) := by decide +kernel
theorem dX6_told_20 : decode cX6_told 20 = .ok (.lload 5, 2) := by decide +kernel
theorem dX6_told_22 : decode cX6_told 22 = .ok (.ldiv, 1) := by decide +kernel
theorem dX6_told_23 : decode cX6_told 23 = .ok (.lreturn, 1) := by decide +kernel
theorem dX6_findOdds_0 : decode cX6_findOdds 0 = .ok (.aload_n 0, 1) := by decide +kernel
theorem dX6_findOdds_1 : decode cX6_findOdds 1 = .ok (.lconst 0, 1) := by decide +kernel
theorem dX6_findOdds_2 : decode cX6_findOdds 2 = .ok (.putfield 265, 3) := by decide +kernel
theorem dX6_findOdds_5 : decode cX6_findOdds 5 = .ok (.aload_n 0, 1) := by decide +kernel
theorem dX6_findOdds_6 : decode cX6_findOdds 6 = .ok (.lconst 0, 1) := by decide +kernel
theorem dX6_findOdds_7 : decode cX6_findOdds 7 = .ok (.putfield 269, 3) := by decide +kernel
theorem dX6_findOdds_10 : decode cX6_findOdds 10 = .ok (.aload_n 0, 1) := by decide +kernel
theorem dX6_findOdds_11 : decode cX6_findOdds 11 = .ok (.lconst 1, 1) := by decide +kernel
theorem dX6_findOdds_12 : decode cX6_findOdds 12 = .ok (.putfield 272, 3) := by decide +kernel
theorem dX6_findOdds_15 : decode cX6_findOdds 15 = .ok (.iconst 0, 1) := by decide +kernel
theorem dX6_findOdds_16 : decode cX6_findOdds 16 = .ok (.istore 4, 2) := by decide +kernel
theorem dX6_findOdds_18 : decode cX6_findOdds 18 = .ok (.iload 4, 2) := by decide +kernel
theorem dX6_findOdds_20 : decode cX6_findOdds 20 = .ok (.aload_n 0, 1) := by decide +kernel
theorem dX6_findOdds_21 : decode cX6_findOdds 21 = .ok (.getfield 7, 3) := by decide +kernel
theorem dX6_findOdds_24 : decode cX6_findOdds 24 = .ok (.bipush 33, 2) := by decide +kernel
theorem dX6_findOdds_26 : decode cX6_findOdds 26 = .ok (.iaload, 1) := by decide +kernel
theorem dX6_findOdds_27 : decode cX6_findOdds 27 = .ok (.if_icmp .ge 21, 3) := by decide +kernel
theorem dX6_findOdds_30 : decode cX6_findOdds 30 = .ok (.aload_n 0, 1) := by decide +kernel
theorem dX6_findOdds_31 : decode cX6_findOdds 31 = .ok (.dup, 1) := by decide +kernel
theorem dX6_findOdds_32 : decode cX6_findOdds 32 = .ok (.getfield 272, 3) := by decide +kernel
theorem dX6_findOdds_35 : decode cX6_findOdds 35 = .ok (.ldc2_w 275, 3) := by decide +kernel
theorem dX6_findOdds_38 : decode cX6_findOdds 38 = .ok (.lmul, 1) := by decide +kernel
theorem dX6_findOdds_39 : decode cX6_findOdds 39 = .ok (.putfield 272, 3) := by decide +kernel
theorem dX6_findOdds_42 : decode cX6_findOdds 42 = .ok (.iinc 4 1, 3) := by decide +kernel
theorem dX6_findOdds_45 : decode cX6_findOdds 45 = .ok (.goto (-27), 3) := by decide +kernel
theorem dX6_findOdds_48 : decode cX6_findOdds 48 = .ok (.iconst 0, 1) := by decide +kernel
theorem dX6_findOdds_49 : decode cX6_findOdds 49 = .ok (.istore 4, 2) := by decide +kernel
theorem dX6_findOdds_51 : decode cX6_findOdds 51 = .ok (.iload 4, 2) := by decide +kernel
theorem dX6_findOdds_53 : decode cX6_findOdds 53 = .ok (.iconst 1, 1) := by decide +kernel
theorem dX6_findOdds_54 : decode cX6_findOdds 54 = .ok (.aload_n 0, 1) := by decide +kernel
theorem dX6_findOdds_55 : decode cX6_findOdds 55 = .ok (.getfield 7, 3) := by decide +kernel
theorem dX6_findOdds_58 : decode cX6_findOdds 58 = .ok (.bipush 33, 2) := by decide +kernel
theorem dX6_findOdds_60 : decode cX6_findOdds 60 = .ok (.iaload, 1) := by decide +kernel
theorem dX6_findOdds_61 : decode cX6_findOdds 61 = .ok (.ishl, 1) := by decide +kernel
theorem dX6_findOdds_62 : decode cX6_findOdds 62 = .ok (.if_icmp .ge 120, 3) := by decide +kernel
theorem dX6_findOdds_65 : decode cX6_findOdds 65 = .ok (.lconst 1, 1) := by decide +kernel
theorem dX6_findOdds_66 : decode cX6_findOdds 66 = .ok (.lstore 5, 2) := by decide +kernel
theorem dX6_findOdds_68 : decode cX6_findOdds 68 = .ok (.iconst 0, 1) := by decide +kernel
theorem dX6_findOdds_69 : decode cX6_findOdds 69 = .ok (.istore 7, 2) := by decide +kernel
theorem dX6_findOdds_71 : decode cX6_findOdds 71 = .ok (.iload 7, 2) := by decide +kernel
theorem dX6_findOdds_73 : decode cX6_findOdds 73 = .ok (.aload_n 0, 1) := by decide +kernel
theorem dX6_findOdds_74 : decode cX6_findOdds 74 = .ok (.getfield 7, 3) := by decide +kernel
theorem dX6_findOdds_77 : decode cX6_findOdds 77 = .ok (.bipush 33, 2) := by decide +kernel
theorem dX6_findOdds_79 : decode cX6_findOdds 79 = .ok (.iaload, 1) := by decide +kernel
theorem dX6_findOdds_80 : decode cX6_findOdds 80 = .ok (.if_icmp .ge 35, 3) := by decide +kernel
theorem dX6_findOdds_83 : decode cX6_findOdds 83 = .ok (.lload 5, 2) := by decide +kernel
theorem dX6_findOdds_85 : decode cX6_findOdds 85 = .ok (.iload 4, 2) := by decide +kernel
theorem dX6_findOdds_87 : decode cX6_findOdds 87 = .ok (.iload 7, 2) := by decide +kernel
theorem dX6_findOdds_89 : decode cX6_findOdds 89 = .ok (.ishr, 1) := by decide +kernel
theorem dX6_findOdds_90 : decode cX6_findOdds 90 = .ok (.iconst 1, 1) := by decide +kernel
theorem dX6_findOdds_91 : decode cX6_findOdds 91 = .ok (.iand, 1) := by decide +kernel
theorem dX6_findOdds_92 : decode cX6_findOdds 92 = .ok (.iconst 1, 1) := by decide +kernel
theorem dX6_findOdds_93 : decode cX6_findOdds 93 = .ok (.if_icmp .ne 8, 3) := by decide +kernel
theorem dX6_findOdds_96 : decode cX6_findOdds 96 = .ok (.iload_n 1, 1) := by decide +kernel
theorem dX6_findOdds_97 : decode cX6_findOdds 97 = .ok (.i2l, 1) := by decide +kernel
theorem dX6_findOdds_98 : decode cX6_findOdds 98 = .ok (.goto 8, 3) := by decide +kernel
theorem dX6_findOdds_101 : decode cX6_findOdds 101 = .ok (.bipush 10, 2) := by decide +kernel
theorem dX6_findOdds_103 : decode cX6_findOdds 103 = .ok (.iload_n 1, 1) := by decide +kernel
theorem dX6_findOdds_104 : decode cX6_findOdds 104 = .ok (.isub, 1) := by decide +kernel
theorem dX6_findOdds_105 : decode cX6_findOdds 105 = .ok (.i2l, 1) := by decide +kernel
theorem dX6_findOdds_106 : decode cX6_findOdds 106 = .ok (.lmul, 1) := by decide +kernel
theorem dX6_findOdds_107 : decode cX6_findOdds 107 = .ok (.lstore 5, 2) := by decide +kernel
theorem dX6_findOdds_109 : decode cX6_findOdds 109 = .ok (.iinc 7 1, 3) := by decide +kernel
theorem dX6_findOdds_112 : decode cX6_findOdds 112 = .ok (.goto (-41), 3) := by decide +kernel
theorem dX6_findOdds_115 : decode cX6_findOdds 115 = .ok (.aload_n 0, 1) := by decide +kernel
theorem dX6_findOdds_116 : decode cX6_findOdds 116 = .ok (.invokevirtual 175, 3) := by decide +kernel
theorem dX6_findOdds_119 : decode cX6_findOdds 119 = .ok (.aload_n 0, 1) := by decide +kernel
theorem dX6_findOdds_120 : decode cX6_findOdds 120 = .ok (.iload 4, 2) := by decide +kernel
theorem dX6_findOdds_122 : decode cX6_findOdds 122 = .ok (.putfield 146, 3) := by decide +kernel
theorem dX6_findOdds_125 : decode cX6_findOdds 125 = .ok (.aload_n 0, 1) := by decide +kernel
theorem dX6_findOdds_126 : decode cX6_findOdds 126 = .ok (.iload_n 2, 1) := by decide +kernel
theorem dX6_findOdds_127 : decode cX6_findOdds 127 = .ok (.invokevirtual 205, 3) := by decide +kernel
theorem dX6_findOdds_130 : decode cX6_findOdds 130 = .ok (.aload_n 0, 1) := by decide +kernel
theorem dX6_findOdds_131 : decode cX6_findOdds 131 = .ok (.dup, 1) := by decide +kernel
theorem dX6_findOdds_132 : decode cX6_findOdds 132 = .ok (.getfield 265, 3) := by decide +kernel
theorem dX6_findOdds_135 : decode cX6_findOdds 135 = .ok (.aload_n 0, 1) := by decide +kernel
theorem dX6_findOdds_136 : decode cX6_findOdds 136 = .ok (.getfield 13, 3) := by decide +kernel
theorem dX6_findOdds_139 : decode cX6_findOdds 139 = .ok (.bipush 24, 2) := by decide +kernel
theorem dX6_findOdds_141 : decode cX6_findOdds 141 = .ok (.iaload, 1) := by decide +kernel
theorem dX6_findOdds_142 : decode cX6_findOdds 142 = .ok (.iload_n 3, 1) := by decide +kernel
theorem dX6_findOdds_143 : decode cX6_findOdds 143 = .ok (.if_icmp .gt 8, 3) := by decide +kernel
theorem dX6_findOdds_146 : decode cX6_findOdds 146 = .ok (.lload 5, 2) := by decide +kernel
theorem dX6_findOdds_148 : decode cX6_findOdds 148 = .ok (.goto 4, 3) := by decide +kernel
theorem dX6_findOdds_151 : decode cX6_findOdds 151 = .ok (.lconst 0, 1) := by decide +kernel
theorem dX6_findOdds_152 : decode cX6_findOdds 152 = .ok (.ladd, 1) := by decide +kernel
theorem dX6_findOdds_153 : decode cX6_findOdds 153 = .ok (.putfield 265, 3) := by decide +kernel
theorem dX6_findOdds_156 : decode cX6_findOdds 156 = .ok (.aload_n 0, 1) := by decide +kernel
theorem dX6_findOdds_157 : decode cX6_findOdds 157 = .ok (.dup, 1) := by decide +kernel
theorem dX6_findOdds_158 : decode cX6_findOdds 158 = .ok (.getfield 269, 3) := by decide +kernel
theorem dX6_findOdds_161 : decode cX6_findOdds 161 = .ok (.lload 5, 2) := by decide +kernel
theorem dX6_findOdds_163 : decode cX6_findOdds 163 = .ok (.aload_n 0, 1) := by decide +kernel
theorem dX6_findOdds_164 : decode cX6_findOdds 164 = .ok (.getfield 13, 3) := by decide +kernel
theorem dX6_findOdds_167 : decode cX6_findOdds 167 = .ok (.bipush 24, 2) := by decide +kernel
theorem dX6_findOdds_169 : decode cX6_findOdds 169 = .ok (.iaload, 1) := by decide +kernel
theorem dX6_findOdds_170 : decode cX6_findOdds 170 = .ok (.i2l, 1) := by decide +kernel
theorem dX6_findOdds_171 : decode cX6_findOdds 171 = .ok (.lmul, 1) := by decide +kernel
theorem dX6_findOdds_172 : decode cX6_findOdds 172 = .ok (.ladd, 1) := by decide +kernel
theorem dX6_findOdds_173 : decode cX6_findOdds 173 = .ok (.putfield 269, 3) := by decide +kernel
theorem dX6_findOdds_176 : decode cX6_findOdds 176 = .ok (.iinc 4 1, 3) := by decide +kernel
theorem dX6_findOdds_179 : decode cX6_findOdds 179 = .ok (.goto (-128), 3) := by decide +kernel
theorem dX6_findOdds_182 : decode cX6_findOdds 182 = .ok (.return_, 1) := by decide +kernel
theorem dX6_luck_0 : decode cX6_luck 0 = .ok (.iload_n 1, 1) := by decide +kernel
theorem dX6_luck_1 : decode cX6_luck 1 = .ok (.i2l, 1) := by decide +kernel
theorem dX6_luck_2 : decode cX6_luck 2 = .ok (.lconst 0, 1) := by decide +kernel
theorem dX6_luck_3 : decode cX6_luck 3 = .ok (.ldc2_w 275, 3) := by decide +kernel
theorem dX6_luck_6 : decode cX6_luck 6 = .ok (.invokestatic 69, 3) := by decide +kernel
theorem dX6_luck_9 : decode cX6_luck 9 = .ok (.ifCond .eq 30, 3) := by decide +kernel
theorem dX6_luck_12 : decode cX6_luck 12 = .ok (.iload_n 2, 1) := by decide +kernel
theorem dX6_luck_13 : decode cX6_luck 13 = .ok (.invokestatic 223, 3) := by decide +kernel
theorem dX6_luck_16 : decode cX6_luck 16 = .ok (.ifCond .eq 23, 3) := by decide +kernel
theorem dX6_luck_19 : decode cX6_luck 19 = .ok (.iload_n 3, 1) := by decide +kernel
theorem dX6_luck_20 : decode cX6_luck 20 = .ok (.i2l, 1) := by decide +kernel
theorem dX6_luck_21 : decode cX6_luck 21 = .ok (.lconst 0, 1) := by decide +kernel
theorem dX6_luck_22 : decode cX6_luck 22 = .ok (.ldc2_w 211, 3) := by decide +kernel
theorem dX6_luck_25 : decode cX6_luck 25 = .ok (.invokestatic 69, 3) := by decide +kernel
theorem dX6_luck_28 : decode cX6_luck 28 = .ok (.ifCond .eq 11, 3) := by decide +kernel
theorem dX6_luck_31 : decode cX6_luck 31 = .ok (.iload 4, 2) := by decide +kernel
theorem dX6_luck_33 : decode cX6_luck 33 = .ok (.invokestatic 188, 3) := by decide +kernel
theorem dX6_luck_36 : decode cX6_luck 36 = .ok (.ifCond .ne 7, 3) := by decide +kernel
theorem dX6_luck_39 : decode cX6_luck 39 = .ok (.ldc2_w 277, 3) := by decide +kernel
theorem dX6_luck_42 : decode cX6_luck 42 = .ok (.lreturn, 1) := by decide +kernel
theorem dX6_luck_43 : decode cX6_luck 43 = .ok (.aload_n 0, 1) := by decide +kernel
theorem dX6_luck_44 : decode cX6_luck 44 = .ok (.iload_n 1, 1) := by decide +kernel
theorem dX6_luck_45 : decode cX6_luck 45 = .ok (.iload_n 2, 1) := by decide +kernel
theorem dX6_luck_46 : decode cX6_luck 46 = .ok (.iload_n 3, 1) := by decide +kernel
theorem dX6_luck_47 : decode cX6_luck 47 = .ok (.invokevirtual 279, 3) := by decide +kernel
theorem dX6_luck_50 : decode cX6_luck 50 = .ok (.aload_n 0, 1) := by decide +kernel
theorem dX6_luck_51 : decode cX6_luck 51 = .ok (.getfield 265, 3) := by decide +kernel
theorem dX6_luck_54 : decode cX6_luck 54 = .ok (.aload_n 0, 1) := by decide +kernel
theorem dX6_luck_55 : decode cX6_luck 55 = .ok (.getfield 272, 3) := by decide +kernel
theorem dX6_luck_58 : decode cX6_luck 58 = .ok (.iload 4, 2) := by decide +kernel
theorem dX6_luck_60 : decode cX6_luck 60 = .ok (.invokestatic 282, 3) := by decide +kernel
theorem dX6_luck_63 : decode cX6_luck 63 = .ok (.lreturn, 1) := by decide +kernel
theorem dX6_mean_0 : decode cX6_mean 0 = .ok (.iload_n 1, 1) := by decide +kernel
theorem dX6_mean_1 : decode cX6_mean 1 = .ok (.i2l, 1) := by decide +kernel
theorem dX6_mean_2 : decode cX6_mean 2 = .ok (.lconst 0, 1) := by decide +kernel
theorem dX6_mean_3 : decode cX6_mean 3 = .ok (.ldc2_w 275, 3) := by decide +kernel
theorem dX6_mean_6 : decode cX6_mean 6 = .ok (.invokestatic 69, 3) := by decide +kernel
theorem dX6_mean_9 : decode cX6_mean 9 = .ok (.ifCond .eq 17, 3) := by decide +kernel
theorem dX6_mean_12 : decode cX6_mean 12 = .ok (.iload_n 2, 1) := by decide +kernel
theorem dX6_mean_13 : decode cX6_mean 13 = .ok (.invokestatic 223, 3) := by decide +kernel
theorem dX6_mean_16 : decode cX6_mean 16 = .ok (.ifCond .eq 10, 3) := by decide +kernel
theorem dX6_mean_19 : decode cX6_mean 19 = .ok (.iload_n 3, 1) := by decide +kernel
theorem dX6_mean_20 : decode cX6_mean 20 = .ok (.invokestatic 188, 3) := by decide +kernel
theorem dX6_mean_23 : decode cX6_mean 23 = .ok (.ifCond .ne 7, 3) := by decide +kernel
theorem dX6_mean_26 : decode cX6_mean 26 = .ok (.ldc2_w 277, 3) := by decide +kernel
theorem dX6_mean_29 : decode cX6_mean 29 = .ok (.lreturn, 1) := by decide +kernel
theorem dX6_mean_30 : decode cX6_mean 30 = .ok (.aload_n 0, 1) := by decide +kernel
theorem dX6_mean_31 : decode cX6_mean 31 = .ok (.iload_n 1, 1) := by decide +kernel
theorem dX6_mean_32 : decode cX6_mean 32 = .ok (.iload_n 2, 1) := by decide +kernel
theorem dX6_mean_33 : decode cX6_mean 33 = .ok (.iconst 0, 1) := by decide +kernel
theorem dX6_mean_34 : decode cX6_mean 34 = .ok (.invokevirtual 279, 3) := by decide +kernel
theorem dX6_mean_37 : decode cX6_mean 37 = .ok (.aload_n 0, 1) := by decide +kernel
theorem dX6_mean_38 : decode cX6_mean 38 = .ok (.getfield 269, 3) := by decide +kernel
theorem dX6_mean_41 : decode cX6_mean 41 = .ok (.aload_n 0, 1) := by decide +kernel
theorem dX6_mean_42 : decode cX6_mean 42 = .ok (.getfield 272, 3) := by decide +kernel
theorem dX6_mean_45 : decode cX6_mean 45 = .ok (.iload_n 3, 1) := by decide +kernel
theorem dX6_mean_46 : decode cX6_mean 46 = .ok (.invokestatic 282, 3) := by decide +kernel
theorem dX6_mean_49 : decode cX6_mean 49 = .ok (.lreturn, 1) := by decide +kernel
theorem dX6_see_0 : decode cX6_see 0 = .ok (.iload_n 1, 1) := by decide +kernel
theorem dX6_see_1 : decode cX6_see 1 = .ok (.i2l, 1) := by decide +kernel
theorem dX6_see_2 : decode cX6_see 2 = .ok (.lconst 0, 1) := by decide +kernel
theorem dX6_see_3 : decode cX6_see 3 = .ok (.ldc2_w 203, 3) := by decide +kernel
theorem dX6_see_6 : decode cX6_see 6 = .ok (.invokestatic 69, 3) := by decide +kernel
theorem dX6_see_9 : decode cX6_see 9 = .ok (.ifCond .eq 15, 3) := by decide +kernel
theorem dX6_see_12 : decode cX6_see 12 = .ok (.iload_n 2, 1) := by decide +kernel
theorem dX6_see_13 : decode cX6_see 13 = .ok (.i2l, 1) := by decide +kernel
theorem dX6_see_14 : decode cX6_see 14 = .ok (.lconst 0, 1) := by decide +kernel
theorem dX6_see_15 : decode cX6_see 15 = .ok (.ldc2_w 211, 3) := by decide +kernel
theorem dX6_see_18 : decode cX6_see 18 = .ok (.invokestatic 69, 3) := by decide +kernel
theorem dX6_see_21 : decode cX6_see 21 = .ok (.ifCond .ne 5, 3) := by decide +kernel
theorem dX6_see_24 : decode cX6_see 24 = .ok (.iconst (-1), 1) := by decide +kernel
theorem dX6_see_25 : decode cX6_see 25 = .ok (.ireturn, 1) := by decide +kernel
theorem dX6_see_26 : decode cX6_see 26 = .ok (.aload_n 0, 1) := by decide +kernel
theorem dX6_see_27 : decode cX6_see 27 = .ok (.getfield 7, 3) := by decide +kernel
theorem dX6_see_30 : decode cX6_see 30 = .ok (.bipush 50, 2) := by decide +kernel
theorem dX6_see_32 : decode cX6_see 32 = .ok (.iaload, 1) := by decide +kernel
theorem dX6_see_33 : decode cX6_see 33 = .ok (.bipush 6, 2) := by decide +kernel
theorem dX6_see_35 : decode cX6_see 35 = .ok (.if_icmp .ne 6, 3) := by decide +kernel
theorem dX6_see_38 : decode cX6_see 38 = .ok (.bipush (-3), 2) := by decide +kernel
theorem dX6_see_40 : decode cX6_see 40 = .ok (.ireturn, 1) := by decide +kernel
theorem dX6_see_41 : decode cX6_see 41 = .ok (.bipush 51, 2) := by decide +kernel
theorem dX6_see_43 : decode cX6_see 43 = .ok (.iconst 2, 1) := by decide +kernel
theorem dX6_see_44 : decode cX6_see 44 = .ok (.aload_n 0, 1) := by decide +kernel
theorem dX6_see_45 : decode cX6_see 45 = .ok (.getfield 7, 3) := by decide +kernel
theorem dX6_see_48 : decode cX6_see 48 = .ok (.bipush 50, 2) := by decide +kernel
theorem dX6_see_50 : decode cX6_see 50 = .ok (.iaload, 1) := by decide +kernel
theorem dX6_see_51 : decode cX6_see 51 = .ok (.imul, 1) := by decide +kernel
theorem dX6_see_52 : decode cX6_see 52 = .ok (.iadd, 1) := by decide +kernel
theorem dX6_see_53 : decode cX6_see 53 = .ok (.istore_n 3, 1) := by decide +kernel
theorem dX6_see_54 : decode cX6_see 54 = .ok (.aload_n 0, 1) := by decide +kernel
theorem dX6_see_55 : decode cX6_see 55 = .ok (.getfield 7, 3) := by decide +kernel
theorem dX6_see_58 : decode cX6_see 58 = .ok (.iload_n 3, 1) := by decide +kernel
theorem dX6_see_59 : decode cX6_see 59 = .ok (.iload_n 1, 1) := by decide +kernel
theorem dX6_see_60 : decode cX6_see 60 = .ok (.iastore, 1) := by decide +kernel
theorem dX6_see_61 : decode cX6_see 61 = .ok (.aload_n 0, 1) := by decide +kernel
theorem dX6_see_62 : decode cX6_see 62 = .ok (.getfield 7, 3) := by decide +kernel
theorem dX6_see_65 : decode cX6_see 65 = .ok (.iload_n 3, 1) := by decide +kernel
theorem dX6_see_66 : decode cX6_see 66 = .ok (.iconst 1, 1) := by decide +kernel
theorem dX6_see_67 : decode cX6_see 67 = .ok (.iadd, 1) := by decide +kernel
theorem dX6_see_68 : decode cX6_see 68 = .ok (.iload_n 2, 1) := by decide +kernel
theorem dX6_see_69 : decode cX6_see 69 = .ok (.iastore, 1) := by decide +kernel
theorem dX6_see_70 : decode cX6_see 70 = .ok (.aload_n 0, 1) := by decide +kernel
theorem dX6_see_71 : decode cX6_see 71 = .ok (.getfield 7, 3) := by decide +kernel
theorem dX6_see_74 : decode cX6_see 74 = .ok (.bipush 50, 2) := by decide +kernel
theorem dX6_see_76 : decode cX6_see 76 = .ok (.dup2, 1) := by decide +kernel
theorem dX6_see_77 : decode cX6_see 77 = .ok (.iaload, 1) := by decide +kernel
theorem dX6_see_78 : decode cX6_see 78 = .ok (.iconst 1, 1) := by decide +kernel
theorem dX6_see_79 : decode cX6_see 79 = .ok (.iadd, 1) := by decide +kernel
theorem dX6_see_80 : decode cX6_see 80 = .ok (.iastore, 1) := by decide +kernel
theorem dX6_see_81 : decode cX6_see 81 = .ok (.aload_n 0, 1) := by decide +kernel
theorem dX6_see_82 : decode cX6_see 82 = .ok (.getfield 7, 3) := by decide +kernel
theorem dX6_see_85 : decode cX6_see 85 = .ok (.bipush 50, 2) := by decide +kernel
theorem dX6_see_87 : decode cX6_see 87 = .ok (.iaload, 1) := by decide +kernel
theorem dX6_see_88 : decode cX6_see 88 = .ok (.ireturn, 1) := by decide +kernel
theorem dX6_forget_0 : decode cX6_forget 0 = .ok (.iload_n 1, 1) := by decide +kernel
theorem dX6_forget_1 : decode cX6_forget 1 = .ok (.i2l, 1) := by decide +kernel
theorem dX6_forget_2 : decode cX6_forget 2 = .ok (.lconst 0, 1) := by decide +kernel
theorem dX6_forget_3 : decode cX6_forget 3 = .ok (.aload_n 0, 1) := by decide +kernel
theorem dX6_forget_4 : decode cX6_forget 4 = .ok (.getfield 7, 3) := by decide +kernel
theorem dX6_forget_7 : decode cX6_forget 7 = .ok (.bipush 50, 2) := by decide +kernel
theorem dX6_forget_9 : decode cX6_forget 9 = .ok (.iaload, 1) := by decide +kernel
theorem dX6_forget_10 : decode cX6_forget 10 = .ok (.i2l, 1) := by decide +kernel
theorem dX6_forget_11 : decode cX6_forget 11 = .ok (.invokestatic 69, 3) := by decide +kernel
theorem dX6_forget_14 : decode cX6_forget 14 = .ok (.ifCond .eq 13, 3) := by decide +kernel
theorem dX6_forget_17 : decode cX6_forget 17 = .ok (.aload_n 0, 1) := by decide +kernel
theorem dX6_forget_18 : decode cX6_forget 18 = .ok (.bipush 50, 2) := by decide +kernel
theorem dX6_forget_20 : decode cX6_forget 20 = .ok (.iload_n 1, 1) := by decide +kernel
theorem dX6_forget_21 : decode cX6_forget 21 = .ok (.invokevirtual 195, 3) := by decide +kernel
theorem dX6_forget_24 : decode cX6_forget 24 = .ok (.goto 4, 3) := by decide +kernel
theorem dX6_forget_27 : decode cX6_forget 27 = .ok (.iconst (-1), 1) := by decide +kernel
theorem dX6_forget_28 : decode cX6_forget 28 = .ok (.ireturn, 1) := by decide +kernel
theorem dX6_isSo_0 : decode cX6_isSo 0 = .ok (.iconst 0, 1) := by decide +kernel
theorem dX6_isSo_1 : decode cX6_isSo 1 = .ok (.istore_n 1, 1) := by decide +kernel
theorem dX6_isSo_2 : decode cX6_isSo 2 = .ok (.iload_n 1, 1) := by decide +kernel
theorem dX6_isSo_3 : decode cX6_isSo 3 = .ok (.bipush 30, 2) := by decide +kernel
theorem dX6_isSo_5 : decode cX6_isSo 5 = .ok (.if_icmp .gt 26, 3) := by decide +kernel
theorem dX6_isSo_8 : decode cX6_isSo 8 = .ok (.aload_n 0, 1) := by decide +kernel
theorem dX6_isSo_9 : decode cX6_isSo 9 = .ok (.getfield 26, 3) := by decide +kernel
theorem dX6_isSo_12 : decode cX6_isSo 12 = .ok (.iload_n 1, 1) := by decide +kernel
theorem dX6_isSo_13 : decode cX6_isSo 13 = .ok (.aload_n 0, 1) := by decide +kernel
theorem dX6_isSo_14 : decode cX6_isSo 14 = .ok (.getfield 13, 3) := by decide +kernel
theorem dX6_isSo_17 : decode cX6_isSo 17 = .ok (.bipush 24, 2) := by decide +kernel
theorem dX6_isSo_19 : decode cX6_isSo 19 = .ok (.iaload, 1) := by decide +kernel
theorem dX6_isSo_20 : decode cX6_isSo 20 = .ok (.iastore, 1) := by decide +kernel
theorem dX6_isSo_21 : decode cX6_isSo 21 = .ok (.aload_n 0, 1) := by decide +kernel
theorem dX6_isSo_22 : decode cX6_isSo 22 = .ok (.invokevirtual 172, 3) := by decide +kernel
theorem dX6_isSo_25 : decode cX6_isSo 25 = .ok (.iinc 1 1, 3) := by decide +kernel
theorem dX6_isSo_28 : decode cX6_isSo 28 = .ok (.goto (-26), 3) := by decide +kernel
theorem dX6_isSo_31 : decode cX6_isSo 31 = .ok (.iconst 1, 1) := by decide +kernel
theorem dX6_isSo_32 : decode cX6_isSo 32 = .ok (.istore_n 1, 1) := by decide +kernel
theorem dX6_isSo_33 : decode cX6_isSo 33 = .ok (.iconst 0, 1) := by decide +kernel
theorem dX6_isSo_34 : decode cX6_isSo 34 = .ok (.istore_n 2, 1) := by decide +kernel
theorem dX6_isSo_35 : decode cX6_isSo 35 = .ok (.iload_n 2, 1) := by decide +kernel
theorem dX6_isSo_36 : decode cX6_isSo 36 = .ok (.aload_n 0, 1) := by decide +kernel
theorem dX6_isSo_37 : decode cX6_isSo 37 = .ok (.getfield 7, 3) := by decide +kernel
theorem dX6_isSo_40 : decode cX6_isSo 40 = .ok (.bipush 50, 2) := by decide +kernel
theorem dX6_isSo_42 : decode cX6_isSo 42 = .ok (.iaload, 1) := by decide +kernel
theorem dX6_isSo_43 : decode cX6_isSo 43 = .ok (.if_icmp .ge 51, 3) := by decide +kernel
theorem dX6_isSo_46 : decode cX6_isSo 46 = .ok (.iload_n 1, 1) := by decide +kernel
theorem dX6_isSo_47 : decode cX6_isSo 47 = .ok (.ifCond .eq 39, 3) := by decide +kernel
theorem dX6_isSo_50 : decode cX6_isSo 50 = .ok (.aload_n 0, 1) := by decide +kernel
theorem dX6_isSo_51 : decode cX6_isSo 51 = .ok (.getfield 26, 3) := by decide +kernel
theorem dX6_isSo_54 : decode cX6_isSo 54 = .ok (.aload_n 0, 1) := by decide +kernel
theorem dX6_isSo_55 : decode cX6_isSo 55 = .ok (.getfield 7, 3) := by decide +kernel
theorem dX6_isSo_58 : decode cX6_isSo 58 = .ok (.bipush 51, 2) := by decide +kernel
theorem dX6_isSo_60 : decode cX6_isSo 60 = .ok (.iconst 2, 1) := by decide +kernel
theorem dX6_isSo_61 : decode cX6_isSo 61 = .ok (.iload_n 2, 1) := by decide +kernel
theorem dX6_isSo_62 : decode cX6_isSo 62 = .ok (.imul, 1) := by decide +kernel
theorem dX6_isSo_63 : decode cX6_isSo 63 = .ok (.iadd, 1) := by decide +kernel
theorem dX6_isSo_64 : decode cX6_isSo 64 = .ok (.iaload, 1) := by decide +kernel
theorem dX6_isSo_65 : decode cX6_isSo 65 = .ok (.iaload, 1) := by decide +kernel
theorem dX6_isSo_66 : decode cX6_isSo 66 = .ok (.aload_n 0, 1) := by decide +kernel
theorem dX6_isSo_67 : decode cX6_isSo 67 = .ok (.getfield 7, 3) := by decide +kernel
theorem dX6_isSo_70 : decode cX6_isSo 70 = .ok (.bipush 51, 2) := by decide +kernel
theorem dX6_isSo_72 : decode cX6_isSo 72 = .ok (.iconst 2, 1) := by decide +kernel
theorem dX6_isSo_73 : decode cX6_isSo 73 = .ok (.iload_n 2, 1) := by decide +kernel
theorem dX6_isSo_74 : decode cX6_isSo 74 = .ok (.imul, 1) := by decide +kernel
theorem dX6_isSo_75 : decode cX6_isSo 75 = .ok (.iadd, 1) := by decide +kernel
theorem dX6_isSo_76 : decode cX6_isSo 76 = .ok (.iconst 1, 1) := by decide +kernel
theorem dX6_isSo_77 : decode cX6_isSo 77 = .ok (.iadd, 1) := by decide +kernel
theorem dX6_isSo_78 : decode cX6_isSo 78 = .ok (.iaload, 1) := by decide +kernel
theorem dX6_isSo_79 : decode cX6_isSo 79 = .ok (.if_icmp .ne 7, 3) := by decide +kernel
theorem dX6_isSo_82 : decode cX6_isSo 82 = .ok (.iconst 1, 1) := by decide +kernel
theorem dX6_isSo_83 : decode cX6_isSo 83 = .ok (.goto 4, 3) := by decide +kernel
theorem dX6_isSo_86 : decode cX6_isSo 86 = .ok (.iconst 0, 1) := by decide +kernel
theorem dX6_isSo_87 : decode cX6_isSo 87 = .ok (.istore_n 1, 1) := by decide +kernel
theorem dX6_isSo_88 : decode cX6_isSo 88 = .ok (.iinc 2 1, 3) := by decide +kernel
theorem dX6_isSo_91 : decode cX6_isSo 91 = .ok (.goto (-56), 3) := by decide +kernel
theorem dX6_isSo_94 : decode cX6_isSo 94 = .ok (.iload_n 1, 1) := by decide +kernel
theorem dX6_isSo_95 : decode cX6_isSo 95 = .ok (.ireturn, 1) := by decide +kernel
theorem dX6_isSoWith_0 : decode cX6_isSoWith 0 = .ok (.aload_n 0, 1) := by decide +kernel
theorem dX6_isSoWith_1 : decode cX6_isSoWith 1 = .ok (.invokevirtual 175, 3) := by decide +kernel
theorem dX6_isSoWith_4 : decode cX6_isSoWith 4 = .ok (.aload_n 0, 1) := by decide +kernel
theorem dX6_isSoWith_5 : decode cX6_isSoWith 5 = .ok (.iload_n 1, 1) := by decide +kernel
theorem dX6_isSoWith_6 : decode cX6_isSoWith 6 = .ok (.iload_n 2, 1) := by decide +kernel
theorem dX6_isSoWith_7 : decode cX6_isSoWith 7 = .ok (.iload_n 3, 1) := by decide +kernel
theorem dX6_isSoWith_8 : decode cX6_isSoWith 8 = .ok (.invokevirtual 162, 3) := by decide +kernel
theorem dX6_isSoWith_11 : decode cX6_isSoWith 11 = .ok (.aload_n 0, 1) := by decide +kernel
theorem dX6_isSoWith_12 : decode cX6_isSoWith 12 = .ok (.invokevirtual 286, 3) := by decide +kernel
theorem dX6_isSoWith_15 : decode cX6_isSoWith 15 = .ok (.ireturn, 1) := by decide +kernel
theorem dX6_kinds_0 : decode cX6_kinds 0 = .ok (.aload_n 0, 1) := by decide +kernel
theorem dX6_kinds_1 : decode cX6_kinds 1 = .ok (.iload_n 1, 1) := by decide +kernel
theorem dX6_kinds_2 : decode cX6_kinds 2 = .ok (.invokevirtual 181, 3) := by decide +kernel
theorem dX6_kinds_5 : decode cX6_kinds 5 = .ok (.ifCond .ne 5, 3) := by decide +kernel
theorem dX6_kinds_8 : decode cX6_kinds 8 = .ok (.iconst (-1), 1) := by decide +kernel
theorem dX6_kinds_9 : decode cX6_kinds 9 = .ok (.ireturn, 1) := by decide +kernel
theorem dX6_kinds_10 : decode cX6_kinds 10 = .ok (.iconst 0, 1) := by decide +kernel
theorem dX6_kinds_11 : decode cX6_kinds 11 = .ok (.istore_n 2, 1) := by decide +kernel
theorem dX6_kinds_12 : decode cX6_kinds 12 = .ok (.iconst 0, 1) := by decide +kernel
theorem dX6_kinds_13 : decode cX6_kinds 13 = .ok (.istore_n 3, 1) := by decide +kernel
theorem dX6_kinds_14 : decode cX6_kinds 14 = .ok (.iload_n 3, 1) := by decide +kernel
theorem dX6_kinds_15 : decode cX6_kinds 15 = .ok (.iconst 4, 1) := by decide +kernel
theorem dX6_kinds_16 : decode cX6_kinds 16 = .ok (.if_icmp .ge 24, 3) := by decide +kernel
theorem dX6_kinds_19 : decode cX6_kinds 19 = .ok (.iload_n 2, 1) := by decide +kernel
theorem dX6_kinds_20 : decode cX6_kinds 20 = .ok (.aload_n 0, 1) := by decide +kernel
theorem dX6_kinds_21 : decode cX6_kinds 21 = .ok (.iload_n 1, 1) := by decide +kernel
theorem dX6_kinds_22 : decode cX6_kinds 22 = .ok (.iconst 0, 1) := by decide +kernel
theorem dX6_kinds_23 : decode cX6_kinds 23 = .ok (.iload_n 3, 1) := by decide +kernel
theorem dX6_kinds_24 : decode cX6_kinds 24 = .ok (.invokevirtual 290, 3) := by decide +kernel
theorem dX6_kinds_27 : decode cX6_kinds 27 = .ok (.invokestatic 219, 3) := by decide +kernel
theorem dX6_kinds_30 : decode cX6_kinds 30 = .ok (.iload_n 3, 1) := by decide +kernel
theorem dX6_kinds_31 : decode cX6_kinds 31 = .ok (.ishl, 1) := by decide +kernel
theorem dX6_kinds_32 : decode cX6_kinds 32 = .ok (.ior, 1) := by decide +kernel
theorem dX6_kinds_33 : decode cX6_kinds 33 = .ok (.istore_n 2, 1) := by decide +kernel
theorem dX6_kinds_34 : decode cX6_kinds 34 = .ok (.iinc 3 1, 3) := by decide +kernel
theorem dX6_kinds_37 : decode cX6_kinds 37 = .ok (.goto (-23), 3) := by decide +kernel
theorem dX6_kinds_40 : decode cX6_kinds 40 = .ok (.iload_n 2, 1) := by decide +kernel
theorem dX6_kinds_41 : decode cX6_kinds 41 = .ok (.ireturn, 1) := by decide +kernel
theorem dX6_weights_0 : decode cX6_weights 0 = .ok (.aload_n 0, 1) := by decide +kernel
theorem dX6_weights_1 : decode cX6_weights 1 = .ok (.iload_n 1, 1) := by decide +kernel
theorem dX6_weights_2 : decode cX6_weights 2 = .ok (.invokevirtual 181, 3) := by decide +kernel
theorem dX6_weights_5 : decode cX6_weights 5 = .ok (.ifCond .ne 5, 3) := by decide +kernel
theorem dX6_weights_8 : decode cX6_weights 8 = .ok (.iconst (-1), 1) := by decide +kernel
theorem dX6_weights_9 : decode cX6_weights 9 = .ok (.ireturn, 1) := by decide +kernel
theorem dX6_weights_10 : decode cX6_weights 10 = .ok (.iconst 0, 1) := by decide +kernel
theorem dX6_weights_11 : decode cX6_weights 11 = .ok (.istore_n 2, 1) := by decide +kernel
theorem dX6_weights_12 : decode cX6_weights 12 = .ok (.iconst 1, 1) := by decide +kernel
theorem dX6_weights_13 : decode cX6_weights 13 = .ok (.istore_n 3, 1) := by decide +kernel
theorem dX6_weights_14 : decode cX6_weights 14 = .ok (.iload_n 3, 1) := by decide +kernel
theorem dX6_weights_15 : decode cX6_weights 15 = .ok (.bipush 9, 2) := by decide +kernel
theorem dX6_weights_17 : decode cX6_weights 17 = .ok (.if_icmp .gt 24, 3) := by decide +kernel
theorem dX6_weights_20 : decode cX6_weights 20 = .ok (.iload_n 2, 1) := by decide +kernel
theorem dX6_weights_21 : decode cX6_weights 21 = .ok (.aload_n 0, 1) := by decide +kernel
theorem dX6_weights_22 : decode cX6_weights 22 = .ok (.iload_n 1, 1) := by decide +kernel
theorem dX6_weights_23 : decode cX6_weights 23 = .ok (.iconst 1, 1) := by decide +kernel
theorem dX6_weights_24 : decode cX6_weights 24 = .ok (.iload_n 3, 1) := by decide +kernel
theorem dX6_weights_25 : decode cX6_weights 25 = .ok (.invokevirtual 290, 3) := by decide +kernel
theorem dX6_weights_28 : decode cX6_weights 28 = .ok (.invokestatic 219, 3) := by decide +kernel
theorem dX6_weights_31 : decode cX6_weights 31 = .ok (.iload_n 3, 1) := by decide +kernel
theorem dX6_weights_32 : decode cX6_weights 32 = .ok (.ishl, 1) := by decide +kernel
theorem dX6_weights_33 : decode cX6_weights 33 = .ok (.ior, 1) := by decide +kernel
theorem dX6_weights_34 : decode cX6_weights 34 = .ok (.istore_n 2, 1) := by decide +kernel
theorem dX6_weights_35 : decode cX6_weights 35 = .ok (.iinc 3 1, 3) := by decide +kernel
theorem dX6_weights_38 : decode cX6_weights 38 = .ok (.goto (-24), 3) := by decide +kernel
theorem dX6_weights_41 : decode cX6_weights 41 = .ok (.iload_n 2, 1) := by decide +kernel
theorem dX6_weights_42 : decode cX6_weights 42 = .ok (.ireturn, 1) := by decide +kernel
theorem dX6_saids_0 : decode cX6_saids 0 = .ok (.iload_n 1, 1) := by decide +kernel
theorem dX6_saids_1 : decode cX6_saids 1 = .ok (.invokestatic 188, 3) := by decide +kernel
theorem dX6_saids_4 : decode cX6_saids 4 = .ok (.ifCond .ne 5, 3) := by decide +kernel
theorem dX6_saids_7 : decode cX6_saids 7 = .ok (.iconst (-1), 1) := by decide +kernel
theorem dX6_saids_8 : decode cX6_saids 8 = .ok (.ireturn, 1) := by decide +kernel
theorem dX6_saids_9 : decode cX6_saids 9 = .ok (.iconst 0, 1) := by decide +kernel
theorem dX6_saids_10 : decode cX6_saids 10 = .ok (.istore_n 2, 1) := by decide +kernel
theorem dX6_saids_11 : decode cX6_saids 11 = .ok (.bipush (-4), 2) := by decide +kernel
theorem dX6_saids_13 : decode cX6_saids 13 = .ok (.istore_n 3, 1) := by decide +kernel
theorem dX6_saids_14 : decode cX6_saids 14 = .ok (.iconst 0, 1) := by decide +kernel
theorem dX6_saids_15 : decode cX6_saids 15 = .ok (.istore 4, 2) := by decide +kernel
theorem dX6_saids_17 : decode cX6_saids 17 = .ok (.iload 4, 2) := by decide +kernel
theorem dX6_saids_19 : decode cX6_saids 19 = .ok (.iconst 1, 1) := by decide +kernel
theorem dX6_saids_20 : decode cX6_saids 20 = .ok (.aload_n 0, 1) := by decide +kernel
theorem dX6_saids_21 : decode cX6_saids 21 = .ok (.getfield 64, 3) := by decide +kernel
theorem dX6_saids_24 : decode cX6_saids 24 = .ok (.ishl, 1) := by decide +kernel
theorem dX6_saids_25 : decode cX6_saids 25 = .ok (.if_icmp .ge 66, 3) := by decide +kernel
theorem dX6_saids_28 : decode cX6_saids 28 = .ok (.aload_n 0, 1) := by decide +kernel
theorem dX6_saids_29 : decode cX6_saids 29 = .ok (.invokevirtual 175, 3) := by decide +kernel
theorem dX6_saids_32 : decode cX6_saids 32 = .ok (.iconst 0, 1) := by decide +kernel
theorem dX6_saids_33 : decode cX6_saids 33 = .ok (.istore 5, 2) := by decide +kernel
theorem dX6_saids_35 : decode cX6_saids 35 = .ok (.iload 5, 2) := by decide +kernel
theorem dX6_saids_37 : decode cX6_saids 37 = .ok (.aload_n 0, 1) := by decide +kernel
theorem dX6_saids_38 : decode cX6_saids 38 = .ok (.getfield 64, 3) := by decide +kernel
theorem dX6_saids_41 : decode cX6_saids 41 = .ok (.if_icmp .ge 23, 3) := by decide +kernel
theorem dX6_saids_44 : decode cX6_saids 44 = .ok (.aload_n 0, 1) := by decide +kernel
theorem dX6_saids_45 : decode cX6_saids 45 = .ok (.iload 5, 2) := by decide +kernel
theorem dX6_saids_47 : decode cX6_saids 47 = .ok (.iconst 3, 1) := by decide +kernel
theorem dX6_saids_48 : decode cX6_saids 48 = .ok (.iload 4, 2) := by decide +kernel
theorem dX6_saids_50 : decode cX6_saids 50 = .ok (.iload 5, 2) := by decide +kernel
theorem dX6_saids_52 : decode cX6_saids 52 = .ok (.ishr, 1) := by decide +kernel
theorem dX6_saids_53 : decode cX6_saids 53 = .ok (.iconst 1, 1) := by decide +kernel
theorem dX6_saids_54 : decode cX6_saids 54 = .ok (.iand, 1) := by decide +kernel
theorem dX6_saids_55 : decode cX6_saids 55 = .ok (.invokevirtual 162, 3) := by decide +kernel
theorem dX6_saids_58 : decode cX6_saids 58 = .ok (.iinc 5 1, 3) := by decide +kernel
theorem dX6_saids_61 : decode cX6_saids 61 = .ok (.goto (-26), 3) := by decide +kernel
theorem dX6_saids_64 : decode cX6_saids 64 = .ok (.aload_n 0, 1) := by decide +kernel
theorem dX6_saids_65 : decode cX6_saids 65 = .ok (.invokevirtual 286, 3) := by decide +kernel
theorem dX6_saids_68 : decode cX6_saids 68 = .ok (.ifCond .eq 17, 3) := by decide +kernel
theorem dX6_saids_71 : decode cX6_saids 71 = .ok (.iload_n 2, 1) := by decide +kernel
theorem dX6_saids_72 : decode cX6_saids 72 = .ok (.ifCond .ne 8, 3) := by decide +kernel
theorem dX6_saids_75 : decode cX6_saids 75 = .ok (.iload 4, 2) := by decide +kernel
theorem dX6_saids_77 : decode cX6_saids 77 = .ok (.goto 4, 3) := by decide +kernel
theorem dX6_saids_80 : decode cX6_saids 80 = .ok (.iload_n 3, 1) := by decide +kernel
theorem dX6_saids_81 : decode cX6_saids 81 = .ok (.istore_n 3, 1) := by decide +kernel
theorem dX6_saids_82 : decode cX6_saids 82 = .ok (.iinc 2 1, 3) := by decide +kernel
theorem dX6_saids_85 : decode cX6_saids 85 = .ok (.iinc 4 1, 3) := by decide +kernel
theorem dX6_saids_88 : decode cX6_saids 88 = .ok (.goto (-71), 3) := by decide +kernel
theorem dX6_saids_91 : decode cX6_saids 91 = .ok (.iload_n 1, 1) := by decide +kernel
theorem dX6_saids_92 : decode cX6_saids 92 = .ok (.ifCond .ne 7, 3) := by decide +kernel
theorem dX6_saids_95 : decode cX6_saids 95 = .ok (.iload_n 2, 1) := by decide +kernel
theorem dX6_saids_96 : decode cX6_saids 96 = .ok (.goto 4, 3) := by decide +kernel
theorem dX6_saids_99 : decode cX6_saids 99 = .ok (.iload_n 3, 1) := by decide +kernel
theorem dX6_saids_100 : decode cX6_saids 100 = .ok (.ireturn, 1) := by decide +kernel
theorem dX6_ask_0 : decode cX6_ask 0 = .ok (.aload_n 0, 1) := by decide +kernel
theorem dX6_ask_1 : decode cX6_ask 1 = .ok (.iload_n 1, 1) := by decide +kernel
theorem dX6_ask_2 : decode cX6_ask 2 = .ok (.invokevirtual 181, 3) := by decide +kernel
theorem dX6_ask_5 : decode cX6_ask 5 = .ok (.ifCond .eq 10, 3) := by decide +kernel
theorem dX6_ask_8 : decode cX6_ask 8 = .ok (.iload_n 2, 1) := by decide +kernel
theorem dX6_ask_9 : decode cX6_ask 9 = .ok (.invokestatic 188, 3) := by decide +kernel
theorem dX6_ask_12 : decode cX6_ask 12 = .ok (.ifCond .ne 5, 3) := by decide +kernel
theorem dX6_ask_15 : decode cX6_ask 15 = .ok (.iconst (-1), 1) := by decide +kernel
theorem dX6_ask_16 : decode cX6_ask 16 = .ok (.ireturn, 1) := by decide +kernel
theorem dX6_ask_17 : decode cX6_ask 17 = .ok (.iconst 0, 1) := by decide +kernel
theorem dX6_ask_18 : decode cX6_ask 18 = .ok (.istore_n 3, 1) := by decide +kernel
theorem dX6_ask_19 : decode cX6_ask 19 = .ok (.iconst 1, 1) := by decide +kernel
theorem dX6_ask_20 : decode cX6_ask 20 = .ok (.istore 4, 2) := by decide +kernel
theorem dX6_ask_22 : decode cX6_ask 22 = .ok (.iload 4, 2) := by decide +kernel
theorem dX6_ask_24 : decode cX6_ask 24 = .ok (.bipush 9, 2) := by decide +kernel
theorem dX6_ask_26 : decode cX6_ask 26 = .ok (.if_icmp .gt 58, 3) := by decide +kernel
theorem dX6_ask_29 : decode cX6_ask 29 = .ok (.aload_n 0, 1) := by decide +kernel
theorem dX6_ask_30 : decode cX6_ask 30 = .ok (.iload_n 1, 1) := by decide +kernel
theorem dX6_ask_31 : decode cX6_ask 31 = .ok (.iconst 1, 1) := by decide +kernel
theorem dX6_ask_32 : decode cX6_ask 32 = .ok (.iload 4, 2) := by decide +kernel
theorem dX6_ask_34 : decode cX6_ask 34 = .ok (.invokevirtual 290, 3) := by decide +kernel
theorem dX6_ask_37 : decode cX6_ask 37 = .ok (.ifCond .eq 41, 3) := by decide +kernel
theorem dX6_ask_40 : decode cX6_ask 40 = .ok (.iconst 0, 1) := by decide +kernel
theorem dX6_ask_41 : decode cX6_ask 41 = .ok (.istore 5, 2) := by decide +kernel
theorem dX6_ask_43 : decode cX6_ask 43 = .ok (.iload 5, 2) := by decide +kernel
theorem dX6_ask_45 : decode cX6_ask 45 = .ok (.bipush 30, 2) := by decide +kernel
theorem dX6_ask_47 : decode cX6_ask 47 = .ok (.if_icmp .gt 28, 3) := by decide +kernel
theorem dX6_ask_50 : decode cX6_ask 50 = .ok (.aload_n 0, 1) := by decide +kernel
theorem dX6_ask_51 : decode cX6_ask 51 = .ok (.getfield 29, 3) := by decide +kernel
theorem dX6_ask_54 : decode cX6_ask 54 = .ok (.bipush 31, 2) := by decide +kernel
theorem dX6_ask_56 : decode cX6_ask 56 = .ok (.iload_n 3, 1) := by decide +kernel
theorem dX6_ask_57 : decode cX6_ask 57 = .ok (.imul, 1) := by decide +kernel
theorem dX6_ask_58 : decode cX6_ask 58 = .ok (.iload 5, 2) := by decide +kernel
theorem dX6_ask_60 : decode cX6_ask 60 = .ok (.iadd, 1) := by decide +kernel
theorem dX6_ask_61 : decode cX6_ask 61 = .ok (.aload_n 0, 1) := by decide +kernel
theorem dX6_ask_62 : decode cX6_ask 62 = .ok (.getfield 26, 3) := by decide +kernel
theorem dX6_ask_65 : decode cX6_ask 65 = .ok (.iload 5, 2) := by decide +kernel
theorem dX6_ask_67 : decode cX6_ask 67 = .ok (.iaload, 1) := by decide +kernel
theorem dX6_ask_68 : decode cX6_ask 68 = .ok (.iastore, 1) := by decide +kernel
theorem dX6_ask_69 : decode cX6_ask 69 = .ok (.iinc 5 1, 3) := by decide +kernel
theorem dX6_ask_72 : decode cX6_ask 72 = .ok (.goto (-29), 3) := by decide +kernel
theorem dX6_ask_75 : decode cX6_ask 75 = .ok (.iinc 3 1, 3) := by decide +kernel
theorem dX6_ask_78 : decode cX6_ask 78 = .ok (.iinc 4 1, 3) := by decide +kernel
theorem dX6_ask_81 : decode cX6_ask 81 = .ok (.goto (-59), 3) := by decide +kernel
theorem dX6_ask_84 : decode cX6_ask 84 = .ok (.aload_n 0, 1) := by decide +kernel
theorem dX6_ask_85 : decode cX6_ask 85 = .ok (.iload_n 3, 1) := by decide +kernel
theorem dX6_ask_86 : decode cX6_ask 86 = .ok (.invokevirtual 245, 3) := by decide +kernel
theorem dX6_ask_89 : decode cX6_ask 89 = .ok (.iconst 0, 1) := by decide +kernel
theorem dX6_ask_90 : decode cX6_ask 90 = .ok (.istore 4, 2) := by decide +kernel
theorem dX6_ask_92 : decode cX6_ask 92 = .ok (.iload 4, 2) := by decide +kernel
theorem dX6_ask_94 : decode cX6_ask 94 = .ok (.bipush 30, 2) := by decide +kernel
theorem dX6_ask_96 : decode cX6_ask 96 = .ok (.if_icmp .gt 111, 3) := by decide +kernel
theorem dX6_ask_99 : decode cX6_ask 99 = .ok (.iconst 0, 1) := by decide +kernel
theorem dX6_ask_100 : decode cX6_ask 100 = .ok (.istore 5, 2) := by decide +kernel
theorem dX6_ask_102 : decode cX6_ask 102 = .ok (.iconst 0, 1) := by decide +kernel
theorem dX6_ask_103 : decode cX6_ask 103 = .ok (.istore 6, 2) := by decide +kernel
theorem dX6_ask_105 : decode cX6_ask 105 = .ok (.iload 6, 2) := by decide +kernel
theorem dX6_ask_107 : decode cX6_ask 107 = .ok (.iload_n 3, 1) := by decide +kernel
theorem dX6_ask_108 : decode cX6_ask 108 = .ok (.if_icmp .ge 85, 3) := by decide +kernel
theorem dX6_ask_111 : decode cX6_ask 111 = .ok (.iconst 0, 1) := by decide +kernel
theorem dX6_ask_112 : decode cX6_ask 112 = .ok (.istore 7, 2) := by decide +kernel
theorem dX6_ask_114 : decode cX6_ask 114 = .ok (.iconst 0, 1) := by decide +kernel
theorem dX6_ask_115 : decode cX6_ask 115 = .ok (.istore 8, 2) := by decide +kernel
theorem dX6_ask_117 : decode cX6_ask 117 = .ok (.iload 8, 2) := by decide +kernel
theorem dX6_ask_119 : decode cX6_ask 119 = .ok (.iload_n 3, 1) := by decide +kernel
theorem dX6_ask_120 : decode cX6_ask 120 = .ok (.if_icmp .ge 51, 3) := by decide +kernel
theorem dX6_ask_123 : decode cX6_ask 123 = .ok (.iload 7, 2) := by decide +kernel
theorem dX6_ask_125 : decode cX6_ask 125 = .ok (.aload_n 0, 1) := by decide +kernel
theorem dX6_ask_126 : decode cX6_ask 126 = .ok (.getfield 29, 3) := by decide +kernel
theorem dX6_ask_129 : decode cX6_ask 129 = .ok (.bipush 31, 2) := by decide +kernel
theorem dX6_ask_131 : decode cX6_ask 131 = .ok (.iload 6, 2) := by decide +kernel
theorem dX6_ask_133 : decode cX6_ask 133 = .ok (.imul, 1) := by decide +kernel
theorem dX6_ask_134 : decode cX6_ask 134 = .ok (.iload 4, 2) := by decide +kernel
theorem dX6_ask_136 : decode cX6_ask 136 = .ok (.iadd, 1) := by decide +kernel
theorem dX6_ask_137 : decode cX6_ask 137 = .ok (.iaload, 1) := by decide +kernel
theorem dX6_ask_138 : decode cX6_ask 138 = .ok (.aload_n 0, 1) := by decide +kernel
theorem dX6_ask_139 : decode cX6_ask 139 = .ok (.getfield 29, 3) := by decide +kernel
theorem dX6_ask_142 : decode cX6_ask 142 = .ok (.bipush 31, 2) := by decide +kernel
theorem dX6_ask_144 : decode cX6_ask 144 = .ok (.iload 8, 2) := by decide +kernel
theorem dX6_ask_146 : decode cX6_ask 146 = .ok (.imul, 1) := by decide +kernel
theorem dX6_ask_147 : decode cX6_ask 147 = .ok (.iload 4, 2) := by decide +kernel
theorem dX6_ask_149 : decode cX6_ask 149 = .ok (.iadd, 1) := by decide +kernel
theorem dX6_ask_150 : decode cX6_ask 150 = .ok (.iaload, 1) := by decide +kernel
theorem dX6_ask_151 : decode cX6_ask 151 = .ok (.if_icmp .ne 7, 3) := by decide +kernel
theorem dX6_ask_154 : decode cX6_ask 154 = .ok (.iconst 1, 1) := by decide +kernel
theorem dX6_ask_155 : decode cX6_ask 155 = .ok (.goto 4, 3) := by decide +kernel
theorem dX6_ask_158 : decode cX6_ask 158 = .ok (.iconst 0, 1) := by decide +kernel
theorem dX6_ask_159 : decode cX6_ask 159 = .ok (.invokestatic 219, 3) := by decide +kernel
theorem dX6_ask_162 : decode cX6_ask 162 = .ok (.iadd, 1) := by decide +kernel
theorem dX6_ask_163 : decode cX6_ask 163 = .ok (.istore 7, 2) := by decide +kernel
theorem dX6_ask_165 : decode cX6_ask 165 = .ok (.iinc 8 1, 3) := by decide +kernel
theorem dX6_ask_168 : decode cX6_ask 168 = .ok (.goto (-51), 3) := by decide +kernel
theorem dX6_ask_171 : decode cX6_ask 171 = .ok (.iload 7, 2) := by decide +kernel
theorem dX6_ask_173 : decode cX6_ask 173 = .ok (.iload 5, 2) := by decide +kernel
theorem dX6_ask_175 : decode cX6_ask 175 = .ok (.if_icmp .le 8, 3) := by decide +kernel
theorem dX6_ask_178 : decode cX6_ask 178 = .ok (.iload 7, 2) := by decide +kernel
theorem dX6_ask_180 : decode cX6_ask 180 = .ok (.goto 5, 3) := by decide +kernel
theorem dX6_ask_183 : decode cX6_ask 183 = .ok (.iload 5, 2) := by decide +kernel
theorem dX6_ask_185 : decode cX6_ask 185 = .ok (.istore 5, 2) := by decide +kernel
theorem dX6_ask_187 : decode cX6_ask 187 = .ok (.iinc 6 1, 3) := by decide +kernel
theorem dX6_ask_190 : decode cX6_ask 190 = .ok (.goto (-85), 3) := by decide +kernel
theorem dX6_ask_193 : decode cX6_ask 193 = .ok (.aload_n 0, 1) := by decide +kernel
theorem dX6_ask_194 : decode cX6_ask 194 = .ok (.iload 4, 2) := by decide +kernel
theorem dX6_ask_196 : decode cX6_ask 196 = .ok (.iload 5, 2) := by decide +kernel
theorem dX6_ask_198 : decode cX6_ask 198 = .ok (.invokevirtual 251, 3) := by decide +kernel
theorem dX6_ask_201 : decode cX6_ask 201 = .ok (.iinc 4 1, 3) := by decide +kernel
theorem dX6_ask_204 : decode cX6_ask 204 = .ok (.goto (-112), 3) := by decide +kernel
theorem dX6_ask_207 : decode cX6_ask 207 = .ok (.aload_n 0, 1) := by decide +kernel
theorem dX6_ask_208 : decode cX6_ask 208 = .ok (.iload_n 2, 1) := by decide +kernel
theorem dX6_ask_209 : decode cX6_ask 209 = .ok (.invokevirtual 255, 3) := by decide +kernel
theorem dX6_ask_212 : decode cX6_ask 212 = .ok (.ireturn, 1) := by decide +kernel
theorem dX6_drift_0 : decode cX6_drift 0 = .ok (.iload_n 2, 1) := by decide +kernel
theorem dX6_drift_1 : decode cX6_drift 1 = .ok (.i2l, 1) := by decide +kernel
theorem dX6_drift_2 : decode cX6_drift 2 = .ok (.lconst 1, 1) := by decide +kernel
theorem dX6_drift_3 : decode cX6_drift 3 = .ok (.ldc2_w 211, 3) := by decide +kernel
theorem dX6_drift_6 : decode cX6_drift 6 = .ok (.invokestatic 69, 3) := by decide +kernel
theorem dX6_drift_9 : decode cX6_drift 9 = .ok (.ifCond .eq 10, 3) := by decide +kernel
theorem dX6_drift_12 : decode cX6_drift 12 = .ok (.iload_n 3, 1) := by decide +kernel
theorem dX6_drift_13 : decode cX6_drift 13 = .ok (.invokestatic 188, 3) := by decide +kernel
theorem dX6_drift_16 : decode cX6_drift 16 = .ok (.ifCond .ne 5, 3) := by decide +kernel
theorem dX6_drift_19 : decode cX6_drift 19 = .ok (.iconst (-1), 1) := by decide +kernel
theorem dX6_drift_20 : decode cX6_drift 20 = .ok (.ireturn, 1) := by decide +kernel
theorem dX6_drift_21 : decode cX6_drift 21 = .ok (.aload_n 0, 1) := by decide +kernel
theorem dX6_drift_22 : decode cX6_drift 22 = .ok (.getfield 64, 3) := by decide +kernel
theorem dX6_drift_25 : decode cX6_drift 25 = .ok (.ifCond .ne 6, 3) := by decide +kernel
theorem dX6_drift_28 : decode cX6_drift 28 = .ok (.bipush (-2), 2) := by decide +kernel
theorem dX6_drift_30 : decode cX6_drift 30 = .ok (.ireturn, 1) := by decide +kernel
theorem dX6_drift_31 : decode cX6_drift 31 = .ok (.iload_n 1, 1) := by decide +kernel
theorem dX6_drift_32 : decode cX6_drift 32 = .ok (.istore 4, 2) := by decide +kernel
theorem dX6_drift_34 : decode cX6_drift 34 = .ok (.aload_n 0, 1) := by decide +kernel
theorem dX6_drift_35 : decode cX6_drift 35 = .ok (.invokevirtual 175, 3) := by decide +kernel
theorem dX6_drift_38 : decode cX6_drift 38 = .ok (.iconst 0, 1) := by decide +kernel
theorem dX6_drift_39 : decode cX6_drift 39 = .ok (.istore 5, 2) := by decide +kernel
theorem dX6_drift_41 : decode cX6_drift 41 = .ok (.iload 5, 2) := by decide +kernel
theorem dX6_drift_43 : decode cX6_drift 43 = .ok (.iload_n 2, 1) := by decide +kernel
theorem dX6_drift_44 : decode cX6_drift 44 = .ok (.if_icmp .ge 55, 3) := by decide +kernel
theorem dX6_drift_47 : decode cX6_drift 47 = .ok (.iload 4, 2) := by decide +kernel
theorem dX6_drift_49 : decode cX6_drift 49 = .ok (.ldc_w 294, 3) := by decide +kernel
theorem dX6_drift_52 : decode cX6_drift 52 = .ok (.imul, 1) := by decide +kernel
theorem dX6_drift_53 : decode cX6_drift 53 = .ok (.sipush 12345, 3) := by decide +kernel
theorem dX6_drift_56 : decode cX6_drift 56 = .ok (.iadd, 1) := by decide +kernel
theorem dX6_drift_57 : decode cX6_drift 57 = .ok (.istore 4, 2) := by decide +kernel
theorem dX6_drift_59 : decode cX6_drift 59 = .ok (.iload 4, 2) := by decide +kernel
theorem dX6_drift_61 : decode cX6_drift 61 = .ok (.bipush 16, 2) := by decide +kernel
theorem dX6_drift_63 : decode cX6_drift 63 = .ok (.ishr, 1) := by decide +kernel
theorem dX6_drift_64 : decode cX6_drift 64 = .ok (.sipush 32767, 3) := by decide +kernel
theorem dX6_drift_67 : decode cX6_drift 67 = .ok (.iand, 1) := by decide +kernel
theorem dX6_drift_68 : decode cX6_drift 68 = .ok (.istore 6, 2) := by decide +kernel
theorem dX6_drift_70 : decode cX6_drift 70 = .ok (.aload_n 0, 1) := by decide +kernel
theorem dX6_drift_71 : decode cX6_drift 71 = .ok (.iload 6, 2) := by decide +kernel
theorem dX6_drift_73 : decode cX6_drift 73 = .ok (.aload_n 0, 1) := by decide +kernel
theorem dX6_drift_74 : decode cX6_drift 74 = .ok (.getfield 64, 3) := by decide +kernel
theorem dX6_drift_77 : decode cX6_drift 77 = .ok (.irem, 1) := by decide +kernel
theorem dX6_drift_78 : decode cX6_drift 78 = .ok (.iconst 3, 1) := by decide +kernel
theorem dX6_drift_79 : decode cX6_drift 79 = .ok (.iload 6, 2) := by decide +kernel
theorem dX6_drift_81 : decode cX6_drift 81 = .ok (.bipush 8, 2) := by decide +kernel
theorem dX6_drift_83 : decode cX6_drift 83 = .ok (.idiv, 1) := by decide +kernel
theorem dX6_drift_84 : decode cX6_drift 84 = .ok (.iconst 2, 1) := by decide +kernel
theorem dX6_drift_85 : decode cX6_drift 85 = .ok (.irem, 1) := by decide +kernel
theorem dX6_drift_86 : decode cX6_drift 86 = .ok (.invokevirtual 162, 3) := by decide +kernel
theorem dX6_drift_89 : decode cX6_drift 89 = .ok (.aload_n 0, 1) := by decide +kernel
theorem dX6_drift_90 : decode cX6_drift 90 = .ok (.invokevirtual 172, 3) := by decide +kernel
theorem dX6_drift_93 : decode cX6_drift 93 = .ok (.iinc 5 1, 3) := by decide +kernel
theorem dX6_drift_96 : decode cX6_drift 96 = .ok (.goto (-55), 3) := by decide +kernel
theorem dX6_drift_99 : decode cX6_drift 99 = .ok (.iload_n 3, 1) := by decide +kernel
theorem dX6_drift_100 : decode cX6_drift 100 = .ok (.ifCond .ne 13, 3) := by decide +kernel
theorem dX6_drift_103 : decode cX6_drift 103 = .ok (.aload_n 0, 1) := by decide +kernel
theorem dX6_drift_104 : decode cX6_drift 104 = .ok (.getfield 13, 3) := by decide +kernel
theorem dX6_drift_107 : decode cX6_drift 107 = .ok (.bipush 24, 2) := by decide +kernel
theorem dX6_drift_109 : decode cX6_drift 109 = .ok (.iaload, 1) := by decide +kernel
theorem dX6_drift_110 : decode cX6_drift 110 = .ok (.goto 10, 3) := by decide +kernel
theorem dX6_drift_113 : decode cX6_drift 113 = .ok (.aload_n 0, 1) := by decide +kernel
theorem dX6_drift_114 : decode cX6_drift 114 = .ok (.getfield 13, 3) := by decide +kernel
theorem dX6_drift_117 : decode cX6_drift 117 = .ok (.bipush 25, 2) := by decide +kernel
theorem dX6_drift_119 : decode cX6_drift 119 = .ok (.iaload, 1) := by decide +kernel
theorem dX6_drift_120 : decode cX6_drift 120 = .ok (.ireturn, 1) := by decide +kernel
theorem dX6_copies_0 : decode cX6_copies 0 = .ok (.iconst 0, 1) := by decide +kernel
theorem dX6_copies_1 : decode cX6_copies 1 = .ok (.istore_n 3, 1) := by decide +kernel
theorem dX6_copies_2 : decode cX6_copies 2 = .ok (.iload_n 3, 1) := by decide +kernel
theorem dX6_copies_3 : decode cX6_copies 3 = .ok (.bipush 63, 2) := by decide +kernel
theorem dX6_copies_5 : decode cX6_copies 5 = .ok (.if_icmp .ge 25, 3) := by decide +kernel
theorem dX6_copies_8 : decode cX6_copies 8 = .ok (.aload_n 0, 1) := by decide +kernel
theorem dX6_copies_9 : decode cX6_copies 9 = .ok (.getfield 7, 3) := by decide +kernel
theorem dX6_copies_12 : decode cX6_copies 12 = .ok (.iload_n 1, 1) := by decide +kernel
theorem dX6_copies_13 : decode cX6_copies 13 = .ok (.iload_n 3, 1) := by decide +kernel
theorem dX6_copies_14 : decode cX6_copies 14 = .ok (.iadd, 1) := by decide +kernel
theorem dX6_copies_15 : decode cX6_copies 15 = .ok (.aload_n 0, 1) := by decide +kernel
theorem dX6_copies_16 : decode cX6_copies 16 = .ok (.getfield 7, 3) := by decide +kernel
theorem dX6_copies_19 : decode cX6_copies 19 = .ok (.iload_n 2, 1) := by decide +kernel
theorem dX6_copies_20 : decode cX6_copies 20 = .ok (.iload_n 3, 1) := by decide +kernel
theorem dX6_copies_21 : decode cX6_copies 21 = .ok (.iadd, 1) := by decide +kernel
theorem dX6_copies_22 : decode cX6_copies 22 = .ok (.iaload, 1) := by decide +kernel
theorem dX6_copies_23 : decode cX6_copies 23 = .ok (.iastore, 1) := by decide +kernel
theorem dX6_copies_24 : decode cX6_copies 24 = .ok (.iinc 3 1, 3) := by decide +kernel
theorem dX6_copies_27 : decode cX6_copies 27 = .ok (.goto (-25), 3) := by decide +kernel
theorem dX6_copies_30 : decode cX6_copies 30 = .ok (.return_, 1) := by decide +kernel
theorem dX6_keep_0 : decode cX6_keep 0 = .ok (.iload_n 1, 1) := by decide +kernel
theorem dX6_keep_1 : decode cX6_keep 1 = .ok (.i2l, 1) := by decide +kernel
theorem dX6_keep_2 : decode cX6_keep 2 = .ok (.lconst 0, 1) := by decide +kernel
theorem dX6_keep_3 : decode cX6_keep 3 = .ok (.lconst 1, 1) := by decide +kernel
theorem dX6_keep_4 : decode cX6_keep 4 = .ok (.invokestatic 69, 3) := by decide +kernel
theorem dX6_keep_7 : decode cX6_keep 7 = .ok (.ifCond .ne 5, 3) := by decide +kernel
theorem dX6_keep_10 : decode cX6_keep 10 = .ok (.iconst (-1), 1) := by decide +kernel
theorem dX6_keep_11 : decode cX6_keep 11 = .ok (.ireturn, 1) := by decide +kernel
theorem dX6_keep_12 : decode cX6_keep 12 = .ok (.aload_n 0, 1) := by decide +kernel
theorem dX6_keep_13 : decode cX6_keep 13 = .ok (.getfield 16, 3) := by decide +kernel
theorem dX6_keep_16 : decode cX6_keep 16 = .ok (.iload_n 1, 1) := by decide +kernel
theorem dX6_keep_17 : decode cX6_keep 17 = .ok (.baload, 1) := by decide +kernel
theorem dX6_keep_18 : decode cX6_keep 18 = .ok (.invokestatic 219, 3) := by decide +kernel
theorem dX6_keep_21 : decode cX6_keep 21 = .ok (.istore_n 2, 1) := by decide +kernel
theorem dX6_keep_22 : decode cX6_keep 22 = .ok (.aload_n 0, 1) := by decide +kernel
theorem dX6_keep_23 : decode cX6_keep 23 = .ok (.getfield 16, 3) := by decide +kernel
theorem dX6_keep_26 : decode cX6_keep 26 = .ok (.iload_n 1, 1) := by decide +kernel
theorem dX6_keep_27 : decode cX6_keep 27 = .ok (.iconst 1, 1) := by decide +kernel
theorem dX6_keep_28 : decode cX6_keep 28 = .ok (.bastore, 1) := by decide +kernel
theorem dX6_keep_29 : decode cX6_keep 29 = .ok (.aload_n 0, 1) := by decide +kernel
theorem dX6_keep_30 : decode cX6_keep 30 = .ok (.bipush 63, 2) := by decide +kernel
theorem dX6_keep_32 : decode cX6_keep 32 = .ok (.iload_n 1, 1) := by decide +kernel
theorem dX6_keep_33 : decode cX6_keep 33 = .ok (.iconst 1, 1) := by decide +kernel
theorem dX6_keep_34 : decode cX6_keep 34 = .ok (.iadd, 1) := by decide +kernel
theorem dX6_keep_35 : decode cX6_keep 35 = .ok (.imul, 1) := by decide +kernel
theorem dX6_keep_36 : decode cX6_keep 36 = .ok (.iconst 0, 1) := by decide +kernel
theorem dX6_keep_37 : decode cX6_keep 37 = .ok (.invokevirtual 295, 3) := by decide +kernel
theorem dX6_keep_40 : decode cX6_keep 40 = .ok (.iload_n 2, 1) := by decide +kernel
theorem dX6_keep_41 : decode cX6_keep 41 = .ok (.ireturn, 1) := by decide +kernel
theorem dX6_back_0 : decode cX6_back 0 = .ok (.iload_n 1, 1) := by decide +kernel
theorem dX6_back_1 : decode cX6_back 1 = .ok (.i2l, 1) := by decide +kernel
theorem dX6_back_2 : decode cX6_back 2 = .ok (.lconst 0, 1) := by decide +kernel
theorem dX6_back_3 : decode cX6_back 3 = .ok (.lconst 1, 1) := by decide +kernel
theorem dX6_back_4 : decode cX6_back 4 = .ok (.invokestatic 69, 3) := by decide +kernel
theorem dX6_back_7 : decode cX6_back 7 = .ok (.ifCond .ne 5, 3) := by decide +kernel
theorem dX6_back_10 : decode cX6_back 10 = .ok (.iconst (-1), 1) := by decide +kernel
theorem dX6_back_11 : decode cX6_back 11 = .ok (.ireturn, 1) := by decide +kernel
theorem dX6_back_12 : decode cX6_back 12 = .ok (.aload_n 0, 1) := by decide +kernel
theorem dX6_back_13 : decode cX6_back 13 = .ok (.getfield 16, 3) := by decide +kernel
theorem dX6_back_16 : decode cX6_back 16 = .ok (.iload_n 1, 1) := by decide +kernel
theorem dX6_back_17 : decode cX6_back 17 = .ok (.baload, 1) := by decide +kernel
theorem dX6_back_18 : decode cX6_back 18 = .ok (.ifCond .ne 6, 3) := by decide +kernel
theorem dX6_back_21 : decode cX6_back 21 = .ok (.bipush (-2), 2) := by decide +kernel
theorem dX6_back_23 : decode cX6_back 23 = .ok (.ireturn, 1) := by decide +kernel
theorem dX6_back_24 : decode cX6_back 24 = .ok (.aload_n 0, 1) := by decide +kernel
theorem dX6_back_25 : decode cX6_back 25 = .ok (.iconst 0, 1) := by decide +kernel
theorem dX6_back_26 : decode cX6_back 26 = .ok (.bipush 63, 2) := by decide +kernel
theorem dX6_back_28 : decode cX6_back 28 = .ok (.iload_n 1, 1) := by decide +kernel
theorem dX6_back_29 : decode cX6_back 29 = .ok (.iconst 1, 1) := by decide +kernel
theorem dX6_back_30 : decode cX6_back 30 = .ok (.iadd, 1) := by decide +kernel
theorem dX6_back_31 : decode cX6_back 31 = .ok (.imul, 1) := by decide +kernel
theorem dX6_back_32 : decode cX6_back 32 = .ok (.invokevirtual 295, 3) := by decide +kernel
theorem dX6_back_35 : decode cX6_back 35 = .ok (.aload_n 0, 1) := by decide +kernel
theorem dX6_back_36 : decode cX6_back 36 = .ok (.getfield 7, 3) := by decide +kernel
theorem dX6_back_39 : decode cX6_back 39 = .ok (.bipush 27, 2) := by decide +kernel
theorem dX6_back_41 : decode cX6_back 41 = .ok (.iaload, 1) := by decide +kernel
theorem dX6_back_42 : decode cX6_back 42 = .ok (.ireturn, 1) := by decide +kernel
theorem dX6_isSheet_0 : decode cX6_isSheet 0 = .ok (.iload_n 0, 1) := by decide +kernel
theorem dX6_isSheet_1 : decode cX6_isSheet 1 = .ok (.i2l, 1) := by decide +kernel
theorem dX6_isSheet_2 : decode cX6_isSheet 2 = .ok (.lconst 0, 1) := by decide +kernel
theorem dX6_isSheet_3 : decode cX6_isSheet 3 = .ok (.ldc2_w 191, 3) := by decide +kernel
theorem dX6_isSheet_6 : decode cX6_isSheet 6 = .ok (.invokestatic 69, 3) := by decide +kernel
theorem dX6_isSheet_9 : decode cX6_isSheet 9 = .ok (.ifCond .eq 19, 3) := by decide +kernel
theorem dX6_isSheet_12 : decode cX6_isSheet 12 = .ok (.iload_n 1, 1) := by decide +kernel
theorem dX6_isSheet_13 : decode cX6_isSheet 13 = .ok (.i2l, 1) := by decide +kernel
theorem dX6_isSheet_14 : decode cX6_isSheet 14 = .ok (.lconst 0, 1) := by decide +kernel
theorem dX6_isSheet_15 : decode cX6_isSheet 15 = .ok (.ldc2_w 298, 3) := by decide +kernel
theorem dX6_isSheet_18 : decode cX6_isSheet 18 = .ok (.invokestatic 69, 3) := by decide +kernel
theorem dX6_isSheet_21 : decode cX6_isSheet 21 = .ok (.ifCond .eq 7, 3) := by decide +kernel
theorem dX6_isSheet_24 : decode cX6_isSheet 24 = .ok (.iconst 1, 1) := by decide +kernel
theorem dX6_isSheet_25 : decode cX6_isSheet 25 = .ok (.goto 4, 3) := by decide +kernel
theorem dX6_isSheet_28 : decode cX6_isSheet 28 = .ok (.iconst 0, 1) := by decide +kernel
theorem dX6_isSheet_29 : decode cX6_isSheet 29 = .ok (.ireturn, 1) := by decide +kernel
theorem dX6_sheet_0 : decode cX6_sheet 0 = .ok (.iload_n 1, 1) := by decide +kernel
theorem dX6_sheet_1 : decode cX6_sheet 1 = .ok (.iload_n 2, 1) := by decide +kernel
theorem dX6_sheet_2 : decode cX6_sheet 2 = .ok (.invokestatic 300, 3) := by decide +kernel
theorem dX6_sheet_5 : decode cX6_sheet 5 = .ok (.ifCond .eq 9, 3) := by decide +kernel
theorem dX6_sheet_8 : decode cX6_sheet 8 = .ok (.iload_n 3, 1) := by decide +kernel
theorem dX6_sheet_9 : decode cX6_sheet 9 = .ok (.bipush 40, 2) := by decide +kernel
theorem dX6_sheet_11 : decode cX6_sheet 11 = .ok (.if_icmp .le 5, 3) := by decide +kernel
theorem dX6_sheet_14 : decode cX6_sheet 14 = .ok (.iconst (-1), 1) := by decide +kernel
theorem dX6_sheet_15 : decode cX6_sheet 15 = .ok (.ireturn, 1) := by decide +kernel
theorem dX6_sheet_16 : decode cX6_sheet 16 = .ok (.iload_n 3, 1) := by decide +kernel
theorem dX6_sheet_17 : decode cX6_sheet 17 = .ok (.ifCond .ge 6, 3) := by decide +kernel
theorem dX6_sheet_20 : decode cX6_sheet 20 = .ok (.bipush (-14), 2) := by decide +kernel
theorem dX6_sheet_22 : decode cX6_sheet 22 = .ok (.ireturn, 1) := by decide +kernel
theorem dX6_sheet_23 : decode cX6_sheet 23 = .ok (.aload_n 0, 1) := by decide +kernel
theorem dX6_sheet_24 : decode cX6_sheet 24 = .ok (.getfield 32, 3) := by decide +kernel
theorem dX6_sheet_27 : decode cX6_sheet 27 = .ok (.iload_n 1, 1) := by decide +kernel
theorem dX6_sheet_28 : decode cX6_sheet 28 = .ok (.iload_n 2, 1) := by decide +kernel
theorem dX6_sheet_29 : decode cX6_sheet 29 = .ok (.iastore, 1) := by decide +kernel
theorem dX6_sheet_30 : decode cX6_sheet 30 = .ok (.aload_n 0, 1) := by decide +kernel
theorem dX6_sheet_31 : decode cX6_sheet 31 = .ok (.getfield 35, 3) := by decide +kernel
theorem dX6_sheet_34 : decode cX6_sheet 34 = .ok (.iload_n 1, 1) := by decide +kernel
theorem dX6_sheet_35 : decode cX6_sheet 35 = .ok (.iload_n 3, 1) := by decide +kernel
theorem dX6_sheet_36 : decode cX6_sheet 36 = .ok (.iastore, 1) := by decide +kernel
theorem dX6_sheet_37 : decode cX6_sheet 37 = .ok (.iconst 0, 1) := by decide +kernel
theorem dX6_sheet_38 : decode cX6_sheet 38 = .ok (.istore 4, 2) := by decide +kernel
theorem dX6_sheet_40 : decode cX6_sheet 40 = .ok (.iload 4, 2) := by decide +kernel
theorem dX6_sheet_42 : decode cX6_sheet 42 = .ok (.bipush 40, 2) := by decide +kernel
theorem dX6_sheet_44 : decode cX6_sheet 44 = .ok (.if_icmp .ge 22, 3) := by decide +kernel
theorem dX6_sheet_47 : decode cX6_sheet 47 = .ok (.aload_n 0, 1) := by decide +kernel
theorem dX6_sheet_48 : decode cX6_sheet 48 = .ok (.getfield 38, 3) := by decide +kernel
theorem dX6_sheet_51 : decode cX6_sheet 51 = .ok (.bipush 40, 2) := by decide +kernel
theorem dX6_sheet_53 : decode cX6_sheet 53 = .ok (.iload_n 1, 1) := by decide +kernel
theorem dX6_sheet_54 : decode cX6_sheet 54 = .ok (.imul, 1) := by decide +kernel
theorem dX6_sheet_55 : decode cX6_sheet 55 = .ok (.iload 4, 2) := by decide +kernel
theorem dX6_sheet_57 : decode cX6_sheet 57 = .ok (.iadd, 1) := by decide +kernel
theorem dX6_sheet_58 : decode cX6_sheet 58 = .ok (.iconst 0, 1) := by decide +kernel
theorem dX6_sheet_59 : decode cX6_sheet 59 = .ok (.iastore, 1) := by decide +kernel
theorem dX6_sheet_60 : decode cX6_sheet 60 = .ok (.iinc 4 1, 3) := by decide +kernel
theorem dX6_sheet_63 : decode cX6_sheet 63 = .ok (.goto (-23), 3) := by decide +kernel
theorem dX6_sheet_66 : decode cX6_sheet 66 = .ok (.iconst 1, 1) := by decide +kernel
theorem dX6_sheet_67 : decode cX6_sheet 67 = .ok (.ireturn, 1) := by decide +kernel
theorem dX6_lay_0 : decode cX6_lay 0 = .ok (.iload_n 1, 1) := by decide +kernel
theorem dX6_lay_1 : decode cX6_lay 1 = .ok (.iconst 0, 1) := by decide +kernel
theorem dX6_lay_2 : decode cX6_lay 2 = .ok (.invokestatic 300, 3) := by decide +kernel
theorem dX6_lay_5 : decode cX6_lay 5 = .ok (.ifCond .ne 5, 3) := by decide +kernel
theorem dX6_lay_8 : decode cX6_lay 8 = .ok (.iconst (-1), 1) := by decide +kernel
theorem dX6_lay_9 : decode cX6_lay 9 = .ok (.ireturn, 1) := by decide +kernel
theorem dX6_lay_10 : decode cX6_lay 10 = .ok (.aload_n 0, 1) := by decide +kernel
theorem dX6_lay_11 : decode cX6_lay 11 = .ok (.getfield 32, 3) := by decide +kernel
theorem dX6_lay_14 : decode cX6_lay 14 = .ok (.iload_n 1, 1) := by decide +kernel
theorem dX6_lay_15 : decode cX6_lay 15 = .ok (.iaload, 1) := by decide +kernel
theorem dX6_lay_16 : decode cX6_lay 16 = .ok (.bipush (-4), 2) := by decide +kernel
theorem dX6_lay_18 : decode cX6_lay 18 = .ok (.if_icmp .ne 6, 3) := by decide +kernel
theorem dX6_lay_21 : decode cX6_lay 21 = .ok (.bipush (-11), 2) := by decide +kernel
theorem dX6_lay_23 : decode cX6_lay 23 = .ok (.ireturn, 1) := by decide +kernel
theorem dX6_lay_24 : decode cX6_lay 24 = .ok (.iload_n 2, 1) := by decide +kernel
theorem dX6_lay_25 : decode cX6_lay 25 = .ok (.i2l, 1) := by decide +kernel
theorem dX6_lay_26 : decode cX6_lay 26 = .ok (.lconst 0, 1) := by decide +kernel
theorem dX6_lay_27 : decode cX6_lay 27 = .ok (.aload_n 0, 1) := by decide +kernel
theorem dX6_lay_28 : decode cX6_lay 28 = .ok (.getfield 35, 3) := by decide +kernel
theorem dX6_lay_31 : decode cX6_lay 31 = .ok (.iload_n 1, 1) := by decide +kernel
theorem dX6_lay_32 : decode cX6_lay 32 = .ok (.iaload, 1) := by decide +kernel
theorem dX6_lay_33 : decode cX6_lay 33 = .ok (.iconst 1, 1) := by decide +kernel
theorem dX6_lay_34 : decode cX6_lay 34 = .ok (.isub, 1) := by decide +kernel
theorem dX6_lay_35 : decode cX6_lay 35 = .ok (.i2l, 1) := by decide +kernel
theorem dX6_lay_36 : decode cX6_lay 36 = .ok (.invokestatic 69, 3) := by decide +kernel
theorem dX6_lay_39 : decode cX6_lay 39 = .ok (.ifCond .ne 6, 3) := by decide +kernel
theorem dX6_lay_42 : decode cX6_lay 42 = .ok (.bipush (-12), 2) := by decide +kernel
theorem dX6_lay_44 : decode cX6_lay 44 = .ok (.ireturn, 1) := by decide +kernel
theorem dX6_lay_45 : decode cX6_lay 45 = .ok (.aload_n 0, 1) := by decide +kernel
theorem dX6_lay_46 : decode cX6_lay 46 = .ok (.getfield 38, 3) := by decide +kernel
theorem dX6_lay_49 : decode cX6_lay 49 = .ok (.bipush 40, 2) := by decide +kernel
theorem dX6_lay_51 : decode cX6_lay 51 = .ok (.iload_n 1, 1) := by decide +kernel
theorem dX6_lay_52 : decode cX6_lay 52 = .ok (.imul, 1) := by decide +kernel
theorem dX6_lay_53 : decode cX6_lay 53 = .ok (.iload_n 2, 1) := by decide +kernel
theorem dX6_lay_54 : decode cX6_lay 54 = .ok (.iadd, 1) := by decide +kernel
theorem dX6_lay_55 : decode cX6_lay 55 = .ok (.aload_n 0, 1) := by decide +kernel
theorem dX6_lay_56 : decode cX6_lay 56 = .ok (.getfield 32, 3) := by decide +kernel
theorem dX6_lay_59 : decode cX6_lay 59 = .ok (.iload_n 1, 1) := by decide +kernel
theorem dX6_lay_60 : decode cX6_lay 60 = .ok (.iaload, 1) := by decide +kernel
theorem dX6_lay_61 : decode cX6_lay 61 = .ok (.ifCond .ne 8, 3) := by decide +kernel
theorem dX6_lay_64 : decode cX6_lay 64 = .ok (.iload_n 3, 1) := by decide +kernel
theorem dX6_lay_65 : decode cX6_lay 65 = .ok (.i2b, 1) := by decide +kernel
theorem dX6_lay_66 : decode cX6_lay 66 = .ok (.goto 19, 3) := by decide +kernel
theorem dX6_lay_69 : decode cX6_lay 69 = .ok (.aload_n 0, 1) := by decide +kernel
theorem dX6_lay_70 : decode cX6_lay 70 = .ok (.getfield 32, 3) := by decide +kernel
theorem dX6_lay_73 : decode cX6_lay 73 = .ok (.iload_n 1, 1) := by decide +kernel
theorem dX6_lay_74 : decode cX6_lay 74 = .ok (.iaload, 1) := by decide +kernel
theorem dX6_lay_75 : decode cX6_lay 75 = .ok (.iconst 1, 1) := by decide +kernel
theorem dX6_lay_76 : decode cX6_lay 76 = .ok (.if_icmp .ne 8, 3) := by decide +kernel
theorem dX6_lay_79 : decode cX6_lay 79 = .ok (.iload_n 3, 1) := by decide +kernel
theorem dX6_lay_80 : decode cX6_lay 80 = .ok (.i2s, 1) := by decide +kernel
theorem dX6_lay_81 : decode cX6_lay 81 = .ok (.goto 4, 3) := by decide +kernel
theorem dX6_lay_84 : decode cX6_lay 84 = .ok (.iload_n 3, 1) := by decide +kernel
theorem dX6_lay_85 : decode cX6_lay 85 = .ok (.iastore, 1) := by decide +kernel
theorem dX6_lay_86 : decode cX6_lay 86 = .ok (.iconst 1, 1) := by decide +kernel
theorem dX6_lay_87 : decode cX6_lay 87 = .ok (.ireturn, 1) := by decide +kernel
theorem dX6_read_0 : decode cX6_read 0 = .ok (.iload_n 1, 1) := by decide +kernel
theorem dX6_read_1 : decode cX6_read 1 = .ok (.iload_n 2, 1) := by decide +kernel
theorem dX6_read_2 : decode cX6_read 2 = .ok (.invokestatic 300, 3) := by decide +kernel
theorem dX6_read_5 : decode cX6_read 5 = .ok (.ifCond .eq 16, 3) := by decide +kernel
theorem dX6_read_8 : decode cX6_read 8 = .ok (.iload 4, 2) := by decide +kernel
theorem dX6_read_10 : decode cX6_read 10 = .ok (.i2l, 1) := by decide +kernel
theorem dX6_read_11 : decode cX6_read 11 = .ok (.lconst 0, 1) := by decide +kernel
theorem dX6_read_12 : decode cX6_read 12 = .ok (.ldc2_w 303, 3) := by decide +kernel
theorem dX6_read_15 : decode cX6_read 15 = .ok (.invokestatic 69, 3) := by decide +kernel
theorem dX6_read_18 : decode cX6_read 18 = .ok (.ifCond .ne 5, 3) := by decide +kernel
theorem dX6_read_21 : decode cX6_read 21 = .ok (.iconst (-1), 1) := by decide +kernel
theorem dX6_read_22 : decode cX6_read 22 = .ok (.ireturn, 1) := by decide +kernel
theorem dX6_read_23 : decode cX6_read 23 = .ok (.iconst 0, 1) := by decide +kernel
theorem dX6_read_24 : decode cX6_read 24 = .ok (.istore 5, 2) := by decide +kernel
theorem dX6_read_26 : decode cX6_read 26 = .ok (.iload 5, 2) := by decide +kernel
theorem dX6_read_28 : decode cX6_read 28 = .ok (.bipush 63, 2) := by decide +kernel
theorem dX6_read_30 : decode cX6_read 30 = .ok (.if_icmp .ge 23, 3) := by decide +kernel
theorem dX6_read_33 : decode cX6_read 33 = .ok (.aload_n 0, 1) := by decide +kernel
theorem dX6_read_34 : decode cX6_read 34 = .ok (.getfield 41, 3) := by decide +kernel
theorem dX6_read_37 : decode cX6_read 37 = .ok (.iload 5, 2) := by decide +kernel
theorem dX6_read_39 : decode cX6_read 39 = .ok (.aload_n 0, 1) := by decide +kernel
theorem dX6_read_40 : decode cX6_read 40 = .ok (.getfield 7, 3) := by decide +kernel
theorem dX6_read_43 : decode cX6_read 43 = .ok (.iload 5, 2) := by decide +kernel
theorem dX6_read_45 : decode cX6_read 45 = .ok (.iaload, 1) := by decide +kernel
theorem dX6_read_46 : decode cX6_read 46 = .ok (.iastore, 1) := by decide +kernel
theorem dX6_read_47 : decode cX6_read 47 = .ok (.iinc 5 1, 3) := by decide +kernel
theorem dX6_read_50 : decode cX6_read 50 = .ok (.goto (-24), 3) := by decide +kernel
theorem dX6_read_53 : decode cX6_read 53 = .ok (.iconst 0, 1) := by decide +kernel
theorem dX6_read_54 : decode cX6_read 54 = .ok (.istore 5, 2) := by decide +kernel
theorem dX6_read_56 : decode cX6_read 56 = .ok (.iconst 0, 1) := by decide +kernel
theorem dX6_read_57 : decode cX6_read 57 = .ok (.istore 6, 2) := by decide +kernel
theorem dX6_read_59 : decode cX6_read 59 = .ok (.iconst 0, 1) := by decide +kernel
theorem dX6_read_60 : decode cX6_read 60 = .ok (.istore 7, 2) := by decide +kernel
theorem dX6_read_62 : decode cX6_read 62 = .ok (.iload 7, 2) := by decide +kernel
theorem dX6_read_64 : decode cX6_read 64 = .ok (.iload 4, 2) := by decide +kernel
theorem dX6_read_66 : decode cX6_read 66 = .ok (.if_icmp .ge 184, 3) := by decide +kernel
theorem dX6_read_69 : decode cX6_read 69 = .ok (.iload 5, 2) := by decide +kernel
theorem dX6_read_71 : decode cX6_read 71 = .ok (.ifCond .ne 179, 3) := by decide +kernel
theorem dX6_read_74 : decode cX6_read 74 = .ok (.iconst 0, 1) := by decide +kernel
theorem dX6_read_75 : decode cX6_read 75 = .ok (.istore 8, 2) := by decide +kernel
theorem dX6_read_77 : decode cX6_read 77 = .ok (.iload 8, 2) := by decide +kernel
theorem dX6_read_79 : decode cX6_read 79 = .ok (.iconst 2, 1) := by decide +kernel
theorem dX6_read_80 : decode cX6_read 80 = .ok (.if_icmp .ge 84, 3) := by decide +kernel
theorem dX6_read_83 : decode cX6_read 83 = .ok (.iload 5, 2) := by decide +kernel
theorem dX6_read_85 : decode cX6_read 85 = .ok (.ifCond .ne 79, 3) := by decide +kernel
theorem dX6_read_88 : decode cX6_read 88 = .ok (.iload_n 3, 1) := by decide +kernel
theorem dX6_read_89 : decode cX6_read 89 = .ok (.i2l, 1) := by decide +kernel
theorem dX6_read_90 : decode cX6_read 90 = .ok (.iconst 2, 1) := by decide +kernel
theorem dX6_read_91 : decode cX6_read 91 = .ok (.iload 7, 2) := by decide +kernel
theorem dX6_read_93 : decode cX6_read 93 = .ok (.imul, 1) := by decide +kernel
theorem dX6_read_94 : decode cX6_read 94 = .ok (.i2l, 1) := by decide +kernel
theorem dX6_read_95 : decode cX6_read 95 = .ok (.ladd, 1) := by decide +kernel
theorem dX6_read_96 : decode cX6_read 96 = .ok (.iload 8, 2) := by decide +kernel
theorem dX6_read_98 : decode cX6_read 98 = .ok (.i2l, 1) := by decide +kernel
theorem dX6_read_99 : decode cX6_read 99 = .ok (.ladd, 1) := by decide +kernel
theorem dX6_read_100 : decode cX6_read 100 = .ok (.lstore 9, 2) := by decide +kernel
theorem dX6_read_102 : decode cX6_read 102 = .ok (.aload_n 0, 1) := by decide +kernel
theorem dX6_read_103 : decode cX6_read 103 = .ok (.getfield 32, 3) := by decide +kernel
theorem dX6_read_106 : decode cX6_read 106 = .ok (.iload_n 1, 1) := by decide +kernel
theorem dX6_read_107 : decode cX6_read 107 = .ok (.iaload, 1) := by decide +kernel
theorem dX6_read_108 : decode cX6_read 108 = .ok (.bipush (-4), 2) := by decide +kernel
theorem dX6_read_110 : decode cX6_read 110 = .ok (.if_icmp .ne 7, 3) := by decide +kernel
theorem dX6_read_113 : decode cX6_read 113 = .ok (.iconst 1, 1) := by decide +kernel
theorem dX6_read_114 : decode cX6_read 114 = .ok (.goto 42, 3) := by decide +kernel
theorem dX6_read_117 : decode cX6_read 117 = .ok (.aload_n 0, 1) := by decide +kernel
theorem dX6_read_118 : decode cX6_read 118 = .ok (.getfield 32, 3) := by decide +kernel
theorem dX6_read_121 : decode cX6_read 121 = .ok (.iload_n 1, 1) := by decide +kernel
theorem dX6_read_122 : decode cX6_read 122 = .ok (.iaload, 1) := by decide +kernel
theorem dX6_read_123 : decode cX6_read 123 = .ok (.iload_n 2, 1) := by decide +kernel
theorem dX6_read_124 : decode cX6_read 124 = .ok (.if_icmp .eq 7, 3) := by decide +kernel
theorem dX6_read_127 : decode cX6_read 127 = .ok (.iconst 3, 1) := by decide +kernel
theorem dX6_read_128 : decode cX6_read 128 = .ok (.goto 28, 3) := by decide +kernel
theorem dX6_read_131 : decode cX6_read 131 = .ok (.lload 9, 2) := by decide +kernel
theorem dX6_read_133 : decode cX6_read 133 = .ok (.lconst 0, 1) := by decide +kernel
theorem dX6_read_134 : decode cX6_read 134 = .ok (.lcmp, 1) := by decide +kernel
theorem dX6_read_135 : decode cX6_read 135 = .ok (.ifCond .lt 16, 3) := by decide +kernel
theorem dX6_read_138 : decode cX6_read 138 = .ok (.lload 9, 2) := by decide +kernel
theorem dX6_read_140 : decode cX6_read 140 = .ok (.aload_n 0, 1) := by decide +kernel
theorem dX6_read_141 : decode cX6_read 141 = .ok (.getfield 35, 3) := by decide +kernel
theorem dX6_read_144 : decode cX6_read 144 = .ok (.iload_n 1, 1) := by decide +kernel
theorem dX6_read_145 : decode cX6_read 145 = .ok (.iaload, 1) := by decide +kernel
theorem dX6_read_146 : decode cX6_read 146 = .ok (.i2l, 1) := by decide +kernel
theorem dX6_read_147 : decode cX6_read 147 = .ok (.lcmp, 1) := by decide +kernel
theorem dX6_read_148 : decode cX6_read 148 = .ok (.ifCond .lt 7, 3) := by decide +kernel
theorem dX6_read_151 : decode cX6_read 151 = .ok (.iconst 2, 1) := by decide +kernel
theorem dX6_read_152 : decode cX6_read 152 = .ok (.goto 4, 3) := by decide +kernel
theorem dX6_read_155 : decode cX6_read 155 = .ok (.iconst 0, 1) := by decide +kernel
theorem dX6_read_156 : decode cX6_read 156 = .ok (.istore 5, 2) := by decide +kernel
theorem dX6_read_158 : decode cX6_read 158 = .ok (.iinc 8 1, 3) := by decide +kernel
theorem dX6_read_161 : decode cX6_read 161 = .ok (.goto (-84), 3) := by decide +kernel
theorem dX6_read_164 : decode cX6_read 164 = .ok (.iload 5, 2) := by decide +kernel
theorem dX6_read_166 : decode cX6_read 166 = .ok (.ifCond .ne 78, 3) := by decide +kernel
theorem dX6_read_169 : decode cX6_read 169 = .ok (.bipush 40, 2) := by decide +kernel
theorem dX6_read_171 : decode cX6_read 171 = .ok (.iload_n 1, 1) := by decide +kernel
theorem dX6_read_172 : decode cX6_read 172 = .ok (.imul, 1) := by decide +kernel
theorem dX6_read_173 : decode cX6_read 173 = .ok (.iload_n 3, 1) := by decide +kernel
theorem dX6_read_174 : decode cX6_read 174 = .ok (.iadd, 1) := by decide +kernel
theorem dX6_read_175 : decode cX6_read 175 = .ok (.iconst 2, 1) := by decide +kernel
theorem dX6_read_176 : decode cX6_read 176 = .ok (.iload 7, 2) := by decide +kernel
theorem dX6_read_178 : decode cX6_read 178 = .ok (.imul, 1) := by decide +kernel
theorem dX6_read_179 : decode cX6_read 179 = .ok (.iadd, 1) := by decide +kernel
theorem dX6_read_180 : decode cX6_read 180 = .ok (.istore 8, 2) := by decide +kernel
theorem dX6_read_182 : decode cX6_read 182 = .ok (.aload_n 0, 1) := by decide +kernel
theorem dX6_read_183 : decode cX6_read 183 = .ok (.aload_n 0, 1) := by decide +kernel
theorem dX6_read_184 : decode cX6_read 184 = .ok (.getfield 38, 3) := by decide +kernel
theorem dX6_read_187 : decode cX6_read 187 = .ok (.iload 8, 2) := by decide +kernel
theorem dX6_read_189 : decode cX6_read 189 = .ok (.iaload, 1) := by decide +kernel
theorem dX6_read_190 : decode cX6_read 190 = .ok (.aload_n 0, 1) := by decide +kernel
theorem dX6_read_191 : decode cX6_read 191 = .ok (.getfield 38, 3) := by decide +kernel
theorem dX6_read_194 : decode cX6_read 194 = .ok (.iload 8, 2) := by decide +kernel
theorem dX6_read_196 : decode cX6_read 196 = .ok (.iconst 1, 1) := by decide +kernel
theorem dX6_read_197 : decode cX6_read 197 = .ok (.iadd, 1) := by decide +kernel
theorem dX6_read_198 : decode cX6_read 198 = .ok (.iaload, 1) := by decide +kernel
theorem dX6_read_199 : decode cX6_read 199 = .ok (.invokevirtual 305, 3) := by decide +kernel
theorem dX6_read_202 : decode cX6_read 202 = .ok (.ifCond .ge 39, 3) := by decide +kernel
theorem dX6_read_205 : decode cX6_read 205 = .ok (.iconst 0, 1) := by decide +kernel
theorem dX6_read_206 : decode cX6_read 206 = .ok (.istore 9, 2) := by decide +kernel
theorem dX6_read_208 : decode cX6_read 208 = .ok (.iload 9, 2) := by decide +kernel
theorem dX6_read_210 : decode cX6_read 210 = .ok (.bipush 63, 2) := by decide +kernel
theorem dX6_read_212 : decode cX6_read 212 = .ok (.if_icmp .ge 23, 3) := by decide +kernel
theorem dX6_read_215 : decode cX6_read 215 = .ok (.aload_n 0, 1) := by decide +kernel
theorem dX6_read_216 : decode cX6_read 216 = .ok (.getfield 7, 3) := by decide +kernel
theorem dX6_read_219 : decode cX6_read 219 = .ok (.iload 9, 2) := by decide +kernel
theorem dX6_read_221 : decode cX6_read 221 = .ok (.aload_n 0, 1) := by decide +kernel
theorem dX6_read_222 : decode cX6_read 222 = .ok (.getfield 41, 3) := by decide +kernel
theorem dX6_read_225 : decode cX6_read 225 = .ok (.iload 9, 2) := by decide +kernel
theorem dX6_read_227 : decode cX6_read 227 = .ok (.iaload, 1) := by decide +kernel
theorem dX6_read_228 : decode cX6_read 228 = .ok (.iastore, 1) := by decide +kernel
theorem dX6_read_229 : decode cX6_read 229 = .ok (.iinc 9 1, 3) := by decide +kernel
theorem dX6_read_232 : decode cX6_read 232 = .ok (.goto (-24), 3) := by decide +kernel
theorem dX6_read_235 : decode cX6_read 235 = .ok (.bipush (-20), 2) := by decide +kernel
theorem dX6_read_237 : decode cX6_read 237 = .ok (.iload 7, 2) := by decide +kernel
theorem dX6_read_239 : decode cX6_read 239 = .ok (.isub, 1) := by decide +kernel
theorem dX6_read_240 : decode cX6_read 240 = .ok (.ireturn, 1) := by decide +kernel
theorem dX6_read_241 : decode cX6_read 241 = .ok (.iinc 6 1, 3) := by decide +kernel
theorem dX6_read_244 : decode cX6_read 244 = .ok (.iinc 7 1, 3) := by decide +kernel
theorem dX6_read_247 : decode cX6_read 247 = .ok (.goto (-185), 3) := by decide +kernel
theorem dX6_read_250 : decode cX6_read 250 = .ok (.aload_n 0, 1) := by decide +kernel
theorem dX6_read_251 : decode cX6_read 251 = .ok (.iload 5, 2) := by decide +kernel
theorem dX6_read_253 : decode cX6_read 253 = .ok (.putfield 308, 3) := by decide +kernel
theorem dX6_read_256 : decode cX6_read 256 = .ok (.iload 6, 2) := by decide +kernel
theorem dX6_read_258 : decode cX6_read 258 = .ok (.ireturn, 1) := by decide +kernel
theorem dX6_torn_0 : decode cX6_torn 0 = .ok (.aload_n 0, 1) := by decide +kernel
theorem dX6_torn_1 : decode cX6_torn 1 = .ok (.getfield 308, 3) := by decide +kernel
theorem dX6_torn_4 : decode cX6_torn 4 = .ok (.ireturn, 1) := by decide +kernel
theorem dX6_count_0 : decode cX6_count 0 = .ok (.iconst 0, 1) := by decide +kernel
theorem dX6_count_1 : decode cX6_count 1 = .ok (.istore_n 2, 1) := by decide +kernel
theorem dX6_count_2 : decode cX6_count 2 = .ok (.iconst 0, 1) := by decide +kernel
theorem dX6_count_3 : decode cX6_count 3 = .ok (.istore_n 3, 1) := by decide +kernel
theorem dX6_count_4 : decode cX6_count 4 = .ok (.iconst 0, 1) := by decide +kernel
theorem dX6_count_5 : decode cX6_count 5 = .ok (.istore 4, 2) := by decide +kernel
theorem dX6_count_7 : decode cX6_count 7 = .ok (.iload 4, 2) := by decide +kernel
theorem dX6_count_9 : decode cX6_count 9 = .ok (.aload_n 0, 1) := by decide +kernel
theorem dX6_count_10 : decode cX6_count 10 = .ok (.getfield 64, 3) := by decide +kernel
theorem dX6_count_13 : decode cX6_count 13 = .ok (.if_icmp .ge 96, 3) := by decide +kernel
theorem dX6_count_16 : decode cX6_count 16 = .ok (.iconst 4, 1) := by decide +kernel
theorem dX6_count_17 : decode cX6_count 17 = .ok (.iload 4, 2) := by decide +kernel
theorem dX6_count_19 : decode cX6_count 19 = .ok (.imul, 1) := by decide +kernel
theorem dX6_count_20 : decode cX6_count 20 = .ok (.istore 5, 2) := by decide +kernel
theorem dX6_count_22 : decode cX6_count 22 = .ok (.iload_n 2, 1) := by decide +kernel
theorem dX6_count_23 : decode cX6_count 23 = .ok (.aload_n 0, 1) := by decide +kernel
theorem dX6_count_24 : decode cX6_count 24 = .ok (.getfield 7, 3) := by decide +kernel
theorem dX6_count_27 : decode cX6_count 27 = .ok (.iload 5, 2) := by decide +kernel
theorem dX6_count_29 : decode cX6_count 29 = .ok (.iconst 3, 1) := by decide +kernel
theorem dX6_count_30 : decode cX6_count 30 = .ok (.iadd, 1) := by decide +kernel
theorem dX6_count_31 : decode cX6_count 31 = .ok (.iaload, 1) := by decide +kernel
theorem dX6_count_32 : decode cX6_count 32 = .ok (.ifCond .ne 27, 3) := by decide +kernel
theorem dX6_count_35 : decode cX6_count 35 = .ok (.aload_n 0, 1) := by decide +kernel
theorem dX6_count_36 : decode cX6_count 36 = .ok (.getfield 7, 3) := by decide +kernel
theorem dX6_count_39 : decode cX6_count 39 = .ok (.iload 5, 2) := by decide +kernel
theorem dX6_count_41 : decode cX6_count 41 = .ok (.iconst 2, 1) := by decide +kernel
theorem dX6_count_42 : decode cX6_count 42 = .ok (.iadd, 1) := by decide +kernel
theorem dX6_count_43 : decode cX6_count 43 = .ok (.iaload, 1) := by decide +kernel
theorem dX6_count_44 : decode cX6_count 44 = .ok (.ifCond .ne 15, 3) := by decide +kernel
theorem dX6_count_47 : decode cX6_count 47 = .ok (.aload_n 0, 1) := by decide +kernel
theorem dX6_count_48 : decode cX6_count 48 = .ok (.getfield 7, 3) := by decide +kernel
theorem dX6_count_51 : decode cX6_count 51 = .ok (.iload 5, 2) := by decide +kernel
theorem dX6_count_53 : decode cX6_count 53 = .ok (.iconst 1, 1) := by decide +kernel
theorem dX6_count_54 : decode cX6_count 54 = .ok (.iadd, 1) := by decide +kernel
theorem dX6_count_55 : decode cX6_count 55 = .ok (.iaload, 1) := by decide +kernel
theorem dX6_count_56 : decode cX6_count 56 = .ok (.goto 4, 3) := by decide +kernel
theorem dX6_count_59 : decode cX6_count 59 = .ok (.iconst 0, 1) := by decide +kernel
theorem dX6_count_60 : decode cX6_count 60 = .ok (.iadd, 1) := by decide +kernel
theorem dX6_count_61 : decode cX6_count 61 = .ok (.istore_n 2, 1) := by decide +kernel
theorem dX6_count_62 : decode cX6_count 62 = .ok (.iload_n 3, 1) := by decide +kernel
theorem dX6_count_63 : decode cX6_count 63 = .ok (.aload_n 0, 1) := by decide +kernel
theorem dX6_count_64 : decode cX6_count 64 = .ok (.getfield 7, 3) := by decide +kernel
theorem dX6_count_67 : decode cX6_count 67 = .ok (.iload 5, 2) := by decide +kernel
theorem dX6_count_69 : decode cX6_count 69 = .ok (.iconst 3, 1) := by decide +kernel
theorem dX6_count_70 : decode cX6_count 70 = .ok (.iadd, 1) := by decide +kernel
theorem dX6_count_71 : decode cX6_count 71 = .ok (.iaload, 1) := by decide +kernel
theorem dX6_count_72 : decode cX6_count 72 = .ok (.ifCond .ne 28, 3) := by decide +kernel
theorem dX6_count_75 : decode cX6_count 75 = .ok (.aload_n 0, 1) := by decide +kernel
theorem dX6_count_76 : decode cX6_count 76 = .ok (.getfield 7, 3) := by decide +kernel
theorem dX6_count_79 : decode cX6_count 79 = .ok (.iload 5, 2) := by decide +kernel
theorem dX6_count_81 : decode cX6_count 81 = .ok (.iconst 2, 1) := by decide +kernel
theorem dX6_count_82 : decode cX6_count 82 = .ok (.iadd, 1) := by decide +kernel
theorem dX6_count_83 : decode cX6_count 83 = .ok (.iaload, 1) := by decide +kernel
theorem dX6_count_84 : decode cX6_count 84 = .ok (.iconst 1, 1) := by decide +kernel
theorem dX6_count_85 : decode cX6_count 85 = .ok (.if_icmp .ne 15, 3) := by decide +kernel
theorem dX6_count_88 : decode cX6_count 88 = .ok (.aload_n 0, 1) := by decide +kernel
theorem dX6_count_89 : decode cX6_count 89 = .ok (.getfield 7, 3) := by decide +kernel
theorem dX6_count_92 : decode cX6_count 92 = .ok (.iload 5, 2) := by decide +kernel
theorem dX6_count_94 : decode cX6_count 94 = .ok (.iconst 1, 1) := by decide +kernel
theorem dX6_count_95 : decode cX6_count 95 = .ok (.iadd, 1) := by decide +kernel
theorem dX6_count_96 : decode cX6_count 96 = .ok (.iaload, 1) := by decide +kernel
theorem dX6_count_97 : decode cX6_count 97 = .ok (.goto 4, 3) := by decide +kernel
theorem dX6_count_100 : decode cX6_count 100 = .ok (.iconst 0, 1) := by decide +kernel
theorem dX6_count_101 : decode cX6_count 101 = .ok (.iadd, 1) := by decide +kernel
theorem dX6_count_102 : decode cX6_count 102 = .ok (.istore_n 3, 1) := by decide +kernel
theorem dX6_count_103 : decode cX6_count 103 = .ok (.iinc 4 1, 3) := by decide +kernel
theorem dX6_count_106 : decode cX6_count 106 = .ok (.goto (-99), 3) := by decide +kernel
theorem dX6_count_109 : decode cX6_count 109 = .ok (.iload_n 1, 1) := by decide +kernel
theorem dX6_count_110 : decode cX6_count 110 = .ok (.tableswitch 98 0 5 #[38, 46, 66, 71, 94, 96], 38) := by decide +kernel
theorem dX6_count_148 : decode cX6_count 148 = .ok (.aload_n 0, 1) := by decide +kernel
theorem dX6_count_149 : decode cX6_count 149 = .ok (.getfield 7, 3) := by decide +kernel
theorem dX6_count_152 : decode cX6_count 152 = .ok (.bipush 50, 2) := by decide +kernel
theorem dX6_count_154 : decode cX6_count 154 = .ok (.iaload, 1) := by decide +kernel
theorem dX6_count_155 : decode cX6_count 155 = .ok (.ireturn, 1) := by decide +kernel
theorem dX6_count_156 : decode cX6_count 156 = .ok (.aload_n 0, 1) := by decide +kernel
theorem dX6_count_157 : decode cX6_count 157 = .ok (.getfield 16, 3) := by decide +kernel
theorem dX6_count_160 : decode cX6_count 160 = .ok (.iconst 0, 1) := by decide +kernel
theorem dX6_count_161 : decode cX6_count 161 = .ok (.baload, 1) := by decide +kernel
theorem dX6_count_162 : decode cX6_count 162 = .ok (.invokestatic 219, 3) := by decide +kernel
theorem dX6_count_165 : decode cX6_count 165 = .ok (.aload_n 0, 1) := by decide +kernel
theorem dX6_count_166 : decode cX6_count 166 = .ok (.getfield 16, 3) := by decide +kernel
theorem dX6_count_169 : decode cX6_count 169 = .ok (.iconst 1, 1) := by decide +kernel
theorem dX6_count_170 : decode cX6_count 170 = .ok (.baload, 1) := by decide +kernel
theorem dX6_count_171 : decode cX6_count 171 = .ok (.invokestatic 219, 3) := by decide +kernel
theorem dX6_count_174 : decode cX6_count 174 = .ok (.iadd, 1) := by decide +kernel
theorem dX6_count_175 : decode cX6_count 175 = .ok (.ireturn, 1) := by decide +kernel
theorem dX6_count_176 : decode cX6_count 176 = .ok (.aload_n 0, 1) := by decide +kernel
theorem dX6_count_177 : decode cX6_count 177 = .ok (.getfield 73, 3) := by decide +kernel
theorem dX6_count_180 : decode cX6_count 180 = .ok (.ireturn, 1) := by decide +kernel
theorem dX6_count_181 : decode cX6_count 181 = .ok (.aload_n 0, 1) := by decide +kernel
theorem dX6_count_182 : decode cX6_count 182 = .ok (.getfield 32, 3) := by decide +kernel
theorem dX6_count_185 : decode cX6_count 185 = .ok (.iconst 0, 1) := by decide +kernel
theorem dX6_count_186 : decode cX6_count 186 = .ok (.iaload, 1) := by decide +kernel
theorem dX6_count_187 : decode cX6_count 187 = .ok (.bipush (-4), 2) := by decide +kernel
theorem dX6_count_189 : decode cX6_count 189 = .ok (.if_icmp .ne 8, 3) := by decide +kernel
theorem dX6_count_192 : decode cX6_count 192 = .ok (.bipush (-4), 2) := by decide +kernel
theorem dX6_count_194 : decode cX6_count 194 = .ok (.goto 9, 3) := by decide +kernel
theorem dX6_count_197 : decode cX6_count 197 = .ok (.aload_n 0, 1) := by decide +kernel
theorem dX6_count_198 : decode cX6_count 198 = .ok (.getfield 35, 3) := by decide +kernel
theorem dX6_count_201 : decode cX6_count 201 = .ok (.iconst 0, 1) := by decide +kernel
theorem dX6_count_202 : decode cX6_count 202 = .ok (.iaload, 1) := by decide +kernel
theorem dX6_count_203 : decode cX6_count 203 = .ok (.ireturn, 1) := by decide +kernel
theorem dX6_count_204 : decode cX6_count 204 = .ok (.iload_n 2, 1) := by decide +kernel
theorem dX6_count_205 : decode cX6_count 205 = .ok (.ireturn, 1) := by decide +kernel
theorem dX6_count_206 : decode cX6_count 206 = .ok (.iload_n 3, 1) := by decide +kernel
theorem dX6_count_207 : decode cX6_count 207 = .ok (.ireturn, 1) := by decide +kernel
theorem dX6_count_208 : decode cX6_count 208 = .ok (.iconst (-1), 1) := by decide +kernel
theorem dX6_count_209 : decode cX6_count 209 = .ok (.ireturn, 1) := by decide +kernel
