theorem dX0_init_0 : decode cX0_init 0 = .ok (.aload_n 0, 1) := by decide +kernel
theorem dX0_init_1 : decode cX0_init 1 = .ok (.invokespecial 3, 3) := by decide +kernel
theorem dX0_init_4 : decode cX0_init 4 = .ok (.return_, 1) := by decide +kernel
theorem dX0_beginBelow_0 : decode cX0_beginBelow 0 = .ok (.aload_n 0, 1) := by decide +kernel
theorem dX0_beginBelow_1 : decode cX0_beginBelow 1 = .ok (.iload_n 1, 1) := by decide +kernel
theorem dX0_beginBelow_2 : decode cX0_beginBelow 2 = .ok (.putfield 9, 3) := by decide +kernel
theorem dX0_beginBelow_5 : decode cX0_beginBelow 5 = .ok (.aload_n 0, 1) := by decide +kernel
theorem dX0_beginBelow_6 : decode cX0_beginBelow 6 = .ok (.iconst 0, 1) := by decide +kernel
theorem dX0_beginBelow_7 : decode cX0_beginBelow 7 = .ok (.putfield 15, 3) := by decide +kernel
theorem dX0_beginBelow_10 : decode cX0_beginBelow 10 = .ok (.return_, 1) := by decide +kernel
theorem dX0_offer_0 : decode cX0_offer 0 = .ok (.iload_n 2, 1) := by decide +kernel
theorem dX0_offer_1 : decode cX0_offer 1 = .ok (.aload_n 0, 1) := by decide +kernel
theorem dX0_offer_2 : decode cX0_offer 2 = .ok (.getfield 9, 3) := by decide +kernel
theorem dX0_offer_5 : decode cX0_offer 5 = .ok (.if_icmp .ge 18, 3) := by decide +kernel
theorem dX0_offer_8 : decode cX0_offer 8 = .ok (.aload_n 0, 1) := by decide +kernel
theorem dX0_offer_9 : decode cX0_offer 9 = .ok (.iload_n 1, 1) := by decide +kernel
theorem dX0_offer_10 : decode cX0_offer 10 = .ok (.putfield 19, 3) := by decide +kernel
theorem dX0_offer_13 : decode cX0_offer 13 = .ok (.aload_n 0, 1) := by decide +kernel
theorem dX0_offer_14 : decode cX0_offer 14 = .ok (.iload_n 2, 1) := by decide +kernel
theorem dX0_offer_15 : decode cX0_offer 15 = .ok (.putfield 9, 3) := by decide +kernel
theorem dX0_offer_18 : decode cX0_offer 18 = .ok (.aload_n 0, 1) := by decide +kernel
theorem dX0_offer_19 : decode cX0_offer 19 = .ok (.iconst 1, 1) := by decide +kernel
theorem dX0_offer_20 : decode cX0_offer 20 = .ok (.putfield 15, 3) := by decide +kernel
theorem dX0_offer_23 : decode cX0_offer 23 = .ok (.return_, 1) := by decide +kernel
theorem dX0_answer_0 : decode cX0_answer 0 = .ok (.aload_n 0, 1) := by decide +kernel
theorem dX0_answer_1 : decode cX0_answer 1 = .ok (.getfield 15, 3) := by decide +kernel
theorem dX0_answer_4 : decode cX0_answer 4 = .ok (.ifCond .ne 6, 3) := by decide +kernel
theorem dX0_answer_7 : decode cX0_answer 7 = .ok (.bipush (-4), 2) := by decide +kernel
theorem dX0_answer_9 : decode cX0_answer 9 = .ok (.ireturn, 1) := by decide +kernel
theorem dX0_answer_10 : decode cX0_answer 10 = .ok (.iload_n 1, 1) := by decide +kernel
theorem dX0_answer_11 : decode cX0_answer 11 = .ok (.ifCond .ne 10, 3) := by decide +kernel
theorem dX0_answer_14 : decode cX0_answer 14 = .ok (.aload_n 0, 1) := by decide +kernel
theorem dX0_answer_15 : decode cX0_answer 15 = .ok (.getfield 19, 3) := by decide +kernel
theorem dX0_answer_18 : decode cX0_answer 18 = .ok (.goto 7, 3) := by decide +kernel
theorem dX0_answer_21 : decode cX0_answer 21 = .ok (.aload_n 0, 1) := by decide +kernel
theorem dX0_answer_22 : decode cX0_answer 22 = .ok (.getfield 9, 3) := by decide +kernel
theorem dX0_answer_25 : decode cX0_answer 25 = .ok (.ireturn, 1) := by decide +kernel
theorem dX1_init_0 : decode cX1_init 0 = .ok (.aload_n 0, 1) := by decide +kernel
theorem dX1_init_1 : decode cX1_init 1 = .ok (.invokespecial 3, 3) := by decide +kernel
theorem dX1_init_4 : decode cX1_init 4 = .ok (.aload_n 0, 1) := by decide +kernel
theorem dX1_init_5 : decode cX1_init 5 = .ok (.bipush 6, 2) := by decide +kernel
theorem dX1_init_7 : decode cX1_init 7 = .ok (.newarray .int, 2) := by decide +kernel
theorem dX1_init_9 : decode cX1_init 9 = .ok (.putfield 9, 3) := by decide +kernel
theorem dX1_init_12 : decode cX1_init 12 = .ok (.aload_n 0, 1) := by decide +kernel
theorem dX1_init_13 : decode cX1_init 13 = .ok (.bipush 6, 2) := by decide +kernel
theorem dX1_init_15 : decode cX1_init 15 = .ok (.newarray .int, 2) := by decide +kernel
theorem dX1_init_17 : decode cX1_init 17 = .ok (.putfield 15, 3) := by decide +kernel
theorem dX1_init_20 : decode cX1_init 20 = .ok (.aload_n 0, 1) := by decide +kernel
theorem dX1_init_21 : decode cX1_init 21 = .ok (.bipush 6, 2) := by decide +kernel
theorem dX1_init_23 : decode cX1_init 23 = .ok (.newarray .int, 2) := by decide +kernel
theorem dX1_init_25 : decode cX1_init 25 = .ok (.putfield 18, 3) := by decide +kernel
theorem dX1_init_28 : decode cX1_init 28 = .ok (.aload_n 0, 1) := by decide +kernel
theorem dX1_init_29 : decode cX1_init 29 = .ok (.iconst 5, 1) := by decide +kernel
theorem dX1_init_30 : decode cX1_init 30 = .ok (.newarray .int, 2) := by decide +kernel
theorem dX1_init_32 : decode cX1_init 32 = .ok (.putfield 21, 3) := by decide +kernel
theorem dX1_init_35 : decode cX1_init 35 = .ok (.aload_n 0, 1) := by decide +kernel
theorem dX1_init_36 : decode cX1_init 36 = .ok (.new 24, 3) := by decide +kernel
theorem dX1_init_39 : decode cX1_init 39 = .ok (.dup, 1) := by decide +kernel
theorem dX1_init_40 : decode cX1_init 40 = .ok (.bipush 8, 2) := by decide +kernel
theorem dX1_init_42 : decode cX1_init 42 = .ok (.invokespecial 26, 3) := by decide +kernel
theorem dX1_init_45 : decode cX1_init 45 = .ok (.putfield 29, 3) := by decide +kernel
theorem dX1_init_48 : decode cX1_init 48 = .ok (.aload_n 0, 1) := by decide +kernel
theorem dX1_init_49 : decode cX1_init 49 = .ok (.new 24, 3) := by decide +kernel
theorem dX1_init_52 : decode cX1_init 52 = .ok (.dup, 1) := by decide +kernel
theorem dX1_init_53 : decode cX1_init 53 = .ok (.bipush 6, 2) := by decide +kernel
theorem dX1_init_55 : decode cX1_init 55 = .ok (.invokespecial 26, 3) := by decide +kernel
theorem dX1_init_58 : decode cX1_init 58 = .ok (.putfield 33, 3) := by decide +kernel
theorem dX1_init_61 : decode cX1_init 61 = .ok (.aload_n 0, 1) := by decide +kernel
theorem dX1_init_62 : decode cX1_init 62 = .ok (.iconst 1, 1) := by decide +kernel
theorem dX1_init_63 : decode cX1_init 63 = .ok (.putfield 36, 3) := by decide +kernel
theorem dX1_init_66 : decode cX1_init 66 = .ok (.aload_n 0, 1) := by decide +kernel
theorem dX1_init_67 : decode cX1_init 67 = .ok (.getfield 21, 3) := by decide +kernel
theorem dX1_init_70 : decode cX1_init 70 = .ok (.iconst 4, 1) := by decide +kernel
theorem dX1_init_71 : decode cX1_init 71 = .ok (.invokestatic 40, 3) := by decide +kernel
theorem dX1_init_74 : decode cX1_init 74 = .ok (.return_, 1) := by decide +kernel
theorem dX1_clear_0 : decode cX1_clear 0 = .ok (.aload_n 0, 1) := by decide +kernel
theorem dX1_clear_1 : decode cX1_clear 1 = .ok (.iconst 0, 1) := by decide +kernel
theorem dX1_clear_2 : decode cX1_clear 2 = .ok (.putfield 46, 3) := by decide +kernel
theorem dX1_clear_5 : decode cX1_clear 5 = .ok (.aload_n 0, 1) := by decide +kernel
theorem dX1_clear_6 : decode cX1_clear 6 = .ok (.iconst 0, 1) := by decide +kernel
theorem dX1_clear_7 : decode cX1_clear 7 = .ok (.putfield 49, 3) := by decide +kernel
theorem dX1_clear_10 : decode cX1_clear 10 = .ok (.aload_n 0, 1) := by decide +kernel
theorem dX1_clear_11 : decode cX1_clear 11 = .ok (.iconst 0, 1) := by decide +kernel
theorem dX1_clear_12 : decode cX1_clear 12 = .ok (.putfield 52, 3) := by decide +kernel
theorem dX1_clear_15 : decode cX1_clear 15 = .ok (.aload_n 0, 1) := by decide +kernel
theorem dX1_clear_16 : decode cX1_clear 16 = .ok (.iconst 0, 1) := by decide +kernel
theorem dX1_clear_17 : decode cX1_clear 17 = .ok (.putfield 55, 3) := by decide +kernel
theorem dX1_clear_20 : decode cX1_clear 20 = .ok (.aload_n 0, 1) := by decide +kernel
theorem dX1_clear_21 : decode cX1_clear 21 = .ok (.iconst 1, 1) := by decide +kernel
theorem dX1_clear_22 : decode cX1_clear 22 = .ok (.putfield 36, 3) := by decide +kernel
theorem dX1_clear_25 : decode cX1_clear 25 = .ok (.aload_n 0, 1) := by decide +kernel
theorem dX1_clear_26 : decode cX1_clear 26 = .ok (.iconst 0, 1) := by decide +kernel
theorem dX1_clear_27 : decode cX1_clear 27 = .ok (.putfield 58, 3) := by decide +kernel
theorem dX1_clear_30 : decode cX1_clear 30 = .ok (.aload_n 0, 1) := by decide +kernel
theorem dX1_clear_31 : decode cX1_clear 31 = .ok (.getfield 21, 3) := by decide +kernel
theorem dX1_clear_34 : decode cX1_clear 34 = .ok (.iconst 4, 1) := by decide +kernel
theorem dX1_clear_35 : decode cX1_clear 35 = .ok (.invokestatic 40, 3) := by decide +kernel
theorem dX1_clear_38 : decode cX1_clear 38 = .ok (.aload_n 0, 1) := by decide +kernel
theorem dX1_clear_39 : decode cX1_clear 39 = .ok (.getfield 29, 3) := by decide +kernel
theorem dX1_clear_42 : decode cX1_clear 42 = .ok (.iconst 0, 1) := by decide +kernel
theorem dX1_clear_43 : decode cX1_clear 43 = .ok (.putfield 61, 3) := by decide +kernel
theorem dX1_clear_46 : decode cX1_clear 46 = .ok (.aload_n 0, 1) := by decide +kernel
theorem dX1_clear_47 : decode cX1_clear 47 = .ok (.getfield 33, 3) := by decide +kernel
theorem dX1_clear_50 : decode cX1_clear 50 = .ok (.iconst 0, 1) := by decide +kernel
theorem dX1_clear_51 : decode cX1_clear 51 = .ok (.putfield 61, 3) := by decide +kernel
theorem dX1_clear_54 : decode cX1_clear 54 = .ok (.return_, 1) := by decide +kernel
theorem dX1_copyFrom_0 : decode cX1_copyFrom 0 = .ok (.aload_n 0, 1) := by decide +kernel
theorem dX1_copyFrom_1 : decode cX1_copyFrom 1 = .ok (.aload_n 1, 1) := by decide +kernel
theorem dX1_copyFrom_2 : decode cX1_copyFrom 2 = .ok (.getfield 46, 3) := by decide +kernel
theorem dX1_copyFrom_5 : decode cX1_copyFrom 5 = .ok (.putfield 46, 3) := by decide +kernel
theorem dX1_copyFrom_8 : decode cX1_copyFrom 8 = .ok (.iconst 0, 1) := by decide +kernel
theorem dX1_copyFrom_9 : decode cX1_copyFrom 9 = .ok (.istore_n 2, 1) := by decide +kernel
theorem dX1_copyFrom_10 : decode cX1_copyFrom 10 = .ok (.iload_n 2, 1) := by decide +kernel
theorem dX1_copyFrom_11 : decode cX1_copyFrom 11 = .ok (.aload_n 0, 1) := by decide +kernel
theorem dX1_copyFrom_12 : decode cX1_copyFrom 12 = .ok (.getfield 46, 3) := by decide +kernel
theorem dX1_copyFrom_15 : decode cX1_copyFrom 15 = .ok (.if_icmp .ge 45, 3) := by decide +kernel
theorem dX1_copyFrom_18 : decode cX1_copyFrom 18 = .ok (.aload_n 0, 1) := by decide +kernel
theorem dX1_copyFrom_19 : decode cX1_copyFrom 19 = .ok (.getfield 9, 3) := by decide +kernel
theorem dX1_copyFrom_22 : decode cX1_copyFrom 22 = .ok (.iload_n 2, 1) := by decide +kernel
theorem dX1_copyFrom_23 : decode cX1_copyFrom 23 = .ok (.aload_n 1, 1) := by decide +kernel
theorem dX1_copyFrom_24 : decode cX1_copyFrom 24 = .ok (.getfield 9, 3) := by decide +kernel
theorem dX1_copyFrom_27 : decode cX1_copyFrom 27 = .ok (.iload_n 2, 1) := by decide +kernel
theorem dX1_copyFrom_28 : decode cX1_copyFrom 28 = .ok (.iaload, 1) := by decide +kernel
theorem dX1_copyFrom_29 : decode cX1_copyFrom 29 = .ok (.iastore, 1) := by decide +kernel
theorem dX1_copyFrom_30 : decode cX1_copyFrom 30 = .ok (.aload_n 0, 1) := by decide +kernel
theorem dX1_copyFrom_31 : decode cX1_copyFrom 31 = .ok (.getfield 15, 3) := by decide +kernel
theorem dX1_copyFrom_34 : decode cX1_copyFrom 34 = .ok (.iload_n 2, 1) := by decide +kernel
theorem dX1_copyFrom_35 : decode cX1_copyFrom 35 = .ok (.aload_n 1, 1) := by decide +kernel
theorem dX1_copyFrom_36 : decode cX1_copyFrom 36 = .ok (.getfield 15, 3) := by decide +kernel
theorem dX1_copyFrom_39 : decode cX1_copyFrom 39 = .ok (.iload_n 2, 1) := by decide +kernel
theorem dX1_copyFrom_40 : decode cX1_copyFrom 40 = .ok (.iaload, 1) := by decide +kernel
theorem dX1_copyFrom_41 : decode cX1_copyFrom 41 = .ok (.iastore, 1) := by decide +kernel
theorem dX1_copyFrom_42 : decode cX1_copyFrom 42 = .ok (.aload_n 0, 1) := by decide +kernel
theorem dX1_copyFrom_43 : decode cX1_copyFrom 43 = .ok (.getfield 18, 3) := by decide +kernel
theorem dX1_copyFrom_46 : decode cX1_copyFrom 46 = .ok (.iload_n 2, 1) := by decide +kernel
theorem dX1_copyFrom_47 : decode cX1_copyFrom 47 = .ok (.aload_n 1, 1) := by decide +kernel
theorem dX1_copyFrom_48 : decode cX1_copyFrom 48 = .ok (.getfield 18, 3) := by decide +kernel
theorem dX1_copyFrom_51 : decode cX1_copyFrom 51 = .ok (.iload_n 2, 1) := by decide +kernel
theorem dX1_copyFrom_52 : decode cX1_copyFrom 52 = .ok (.iaload, 1) := by decide +kernel
theorem dX1_copyFrom_53 : decode cX1_copyFrom 53 = .ok (.iastore, 1) := by decide +kernel
theorem dX1_copyFrom_54 : decode cX1_copyFrom 54 = .ok (.iinc 2 1, 3) := by decide +kernel
theorem dX1_copyFrom_57 : decode cX1_copyFrom 57 = .ok (.goto (-47), 3) := by decide +kernel
theorem dX1_copyFrom_60 : decode cX1_copyFrom 60 = .ok (.iconst 0, 1) := by decide +kernel
theorem dX1_copyFrom_61 : decode cX1_copyFrom 61 = .ok (.istore_n 2, 1) := by decide +kernel
theorem dX1_copyFrom_62 : decode cX1_copyFrom 62 = .ok (.iload_n 2, 1) := by decide +kernel
theorem dX1_copyFrom_63 : decode cX1_copyFrom 63 = .ok (.iconst 5, 1) := by decide +kernel
theorem dX1_copyFrom_64 : decode cX1_copyFrom 64 = .ok (.if_icmp .ge 21, 3) := by decide +kernel
theorem dX1_copyFrom_67 : decode cX1_copyFrom 67 = .ok (.aload_n 0, 1) := by decide +kernel
theorem dX1_copyFrom_68 : decode cX1_copyFrom 68 = .ok (.getfield 21, 3) := by decide +kernel
theorem dX1_copyFrom_71 : decode cX1_copyFrom 71 = .ok (.iload_n 2, 1) := by decide +kernel
theorem dX1_copyFrom_72 : decode cX1_copyFrom 72 = .ok (.aload_n 1, 1) := by decide +kernel
theorem dX1_copyFrom_73 : decode cX1_copyFrom 73 = .ok (.getfield 21, 3) := by decide +kernel
theorem dX1_copyFrom_76 : decode cX1_copyFrom 76 = .ok (.iload_n 2, 1) := by decide +kernel
theorem dX1_copyFrom_77 : decode cX1_copyFrom 77 = .ok (.iaload, 1) := by decide +kernel
theorem dX1_copyFrom_78 : decode cX1_copyFrom 78 = .ok (.iastore, 1) := by decide +kernel
theorem dX1_copyFrom_79 : decode cX1_copyFrom 79 = .ok (.iinc 2 1, 3) := by decide +kernel
theorem dX1_copyFrom_82 : decode cX1_copyFrom 82 = .ok (.goto (-20), 3) := by decide +kernel
theorem dX1_copyFrom_85 : decode cX1_copyFrom 85 = .ok (.aload_n 0, 1) := by decide +kernel
theorem dX1_copyFrom_86 : decode cX1_copyFrom 86 = .ok (.getfield 29, 3) := by decide +kernel
theorem dX1_copyFrom_89 : decode cX1_copyFrom 89 = .ok (.aload_n 1, 1) := by decide +kernel
theorem dX1_copyFrom_90 : decode cX1_copyFrom 90 = .ok (.getfield 29, 3) := by decide +kernel
theorem dX1_copyFrom_93 : decode cX1_copyFrom 93 = .ok (.invokevirtual 64, 3) := by decide +kernel
theorem dX1_copyFrom_96 : decode cX1_copyFrom 96 = .ok (.aload_n 0, 1) := by decide +kernel
theorem dX1_copyFrom_97 : decode cX1_copyFrom 97 = .ok (.getfield 33, 3) := by decide +kernel
theorem dX1_copyFrom_100 : decode cX1_copyFrom 100 = .ok (.aload_n 1, 1) := by decide +kernel
theorem dX1_copyFrom_101 : decode cX1_copyFrom 101 = .ok (.getfield 33, 3) := by decide +kernel
theorem dX1_copyFrom_104 : decode cX1_copyFrom 104 = .ok (.invokevirtual 64, 3) := by decide +kernel
theorem dX1_copyFrom_107 : decode cX1_copyFrom 107 = .ok (.aload_n 0, 1) := by decide +kernel
theorem dX1_copyFrom_108 : decode cX1_copyFrom 108 = .ok (.aload_n 1, 1) := by decide +kernel
theorem dX1_copyFrom_109 : decode cX1_copyFrom 109 = .ok (.getfield 49, 3) := by decide +kernel
theorem dX1_copyFrom_112 : decode cX1_copyFrom 112 = .ok (.putfield 49, 3) := by decide +kernel
theorem dX1_copyFrom_115 : decode cX1_copyFrom 115 = .ok (.aload_n 0, 1) := by decide +kernel
theorem dX1_copyFrom_116 : decode cX1_copyFrom 116 = .ok (.aload_n 1, 1) := by decide +kernel
theorem dX1_copyFrom_117 : decode cX1_copyFrom 117 = .ok (.getfield 52, 3) := by decide +kernel
theorem dX1_copyFrom_120 : decode cX1_copyFrom 120 = .ok (.putfield 52, 3) := by decide +kernel
theorem dX1_copyFrom_123 : decode cX1_copyFrom 123 = .ok (.aload_n 0, 1) := by decide +kernel
theorem dX1_copyFrom_124 : decode cX1_copyFrom 124 = .ok (.aload_n 1, 1) := by decide +kernel
theorem dX1_copyFrom_125 : decode cX1_copyFrom 125 = .ok (.getfield 55, 3) := by decide +kernel
theorem dX1_copyFrom_128 : decode cX1_copyFrom 128 = .ok (.putfield 55, 3) := by decide +kernel
theorem dX1_copyFrom_131 : decode cX1_copyFrom 131 = .ok (.aload_n 0, 1) := by decide +kernel
theorem dX1_copyFrom_132 : decode cX1_copyFrom 132 = .ok (.aload_n 1, 1) := by decide +kernel
theorem dX1_copyFrom_133 : decode cX1_copyFrom 133 = .ok (.getfield 36, 3) := by decide +kernel
theorem dX1_copyFrom_136 : decode cX1_copyFrom 136 = .ok (.putfield 36, 3) := by decide +kernel
theorem dX1_copyFrom_139 : decode cX1_copyFrom 139 = .ok (.aload_n 0, 1) := by decide +kernel
theorem dX1_copyFrom_140 : decode cX1_copyFrom 140 = .ok (.aload_n 1, 1) := by decide +kernel
theorem dX1_copyFrom_141 : decode cX1_copyFrom 141 = .ok (.getfield 58, 3) := by decide +kernel
theorem dX1_copyFrom_144 : decode cX1_copyFrom 144 = .ok (.putfield 58, 3) := by decide +kernel
theorem dX1_copyFrom_147 : decode cX1_copyFrom 147 = .ok (.return_, 1) := by decide +kernel
theorem dX1_hasThing_0 : decode cX1_hasThing 0 = .ok (.iload_n 1, 1) := by decide +kernel
theorem dX1_hasThing_1 : decode cX1_hasThing 1 = .ok (.iconst 0, 1) := by decide +kernel
theorem dX1_hasThing_2 : decode cX1_hasThing 2 = .ok (.aload_n 0, 1) := by decide +kernel
theorem dX1_hasThing_3 : decode cX1_hasThing 3 = .ok (.getfield 46, 3) := by decide +kernel
theorem dX1_hasThing_6 : decode cX1_hasThing 6 = .ok (.iconst 1, 1) := by decide +kernel
theorem dX1_hasThing_7 : decode cX1_hasThing 7 = .ok (.isub, 1) := by decide +kernel
theorem dX1_hasThing_8 : decode cX1_hasThing 8 = .ok (.invokestatic 68, 3) := by decide +kernel
theorem dX1_hasThing_11 : decode cX1_hasThing 11 = .ok (.ireturn, 1) := by decide +kernel
theorem dX1_addThing_0 : decode cX1_addThing 0 = .ok (.aload_n 0, 1) := by decide +kernel
theorem dX1_addThing_1 : decode cX1_addThing 1 = .ok (.getfield 46, 3) := by decide +kernel
theorem dX1_addThing_4 : decode cX1_addThing 4 = .ok (.bipush 6, 2) := by decide +kernel
theorem dX1_addThing_6 : decode cX1_addThing 6 = .ok (.if_icmp .lt 5, 3) := by decide +kernel
theorem dX1_addThing_9 : decode cX1_addThing 9 = .ok (.iconst 0, 1) := by decide +kernel
theorem dX1_addThing_10 : decode cX1_addThing 10 = .ok (.ireturn, 1) := by decide +kernel
theorem dX1_addThing_11 : decode cX1_addThing 11 = .ok (.aload_n 0, 1) := by decide +kernel
theorem dX1_addThing_12 : decode cX1_addThing 12 = .ok (.getfield 9, 3) := by decide +kernel
theorem dX1_addThing_15 : decode cX1_addThing 15 = .ok (.aload_n 0, 1) := by decide +kernel
theorem dX1_addThing_16 : decode cX1_addThing 16 = .ok (.getfield 46, 3) := by decide +kernel
theorem dX1_addThing_19 : decode cX1_addThing 19 = .ok (.iload_n 1, 1) := by decide +kernel
theorem dX1_addThing_20 : decode cX1_addThing 20 = .ok (.iastore, 1) := by decide +kernel
theorem dX1_addThing_21 : decode cX1_addThing 21 = .ok (.aload_n 0, 1) := by decide +kernel
theorem dX1_addThing_22 : decode cX1_addThing 22 = .ok (.getfield 15, 3) := by decide +kernel
theorem dX1_addThing_25 : decode cX1_addThing 25 = .ok (.aload_n 0, 1) := by decide +kernel
theorem dX1_addThing_26 : decode cX1_addThing 26 = .ok (.getfield 46, 3) := by decide +kernel
theorem dX1_addThing_29 : decode cX1_addThing 29 = .ok (.iload_n 2, 1) := by decide +kernel
theorem dX1_addThing_30 : decode cX1_addThing 30 = .ok (.iastore, 1) := by decide +kernel
theorem dX1_addThing_31 : decode cX1_addThing 31 = .ok (.aload_n 0, 1) := by decide +kernel
theorem dX1_addThing_32 : decode cX1_addThing 32 = .ok (.getfield 18, 3) := by decide +kernel
theorem dX1_addThing_35 : decode cX1_addThing 35 = .ok (.aload_n 0, 1) := by decide +kernel
theorem dX1_addThing_36 : decode cX1_addThing 36 = .ok (.getfield 46, 3) := by decide +kernel
theorem dX1_addThing_39 : decode cX1_addThing 39 = .ok (.iload_n 3, 1) := by decide +kernel
theorem dX1_addThing_40 : decode cX1_addThing 40 = .ok (.iastore, 1) := by decide +kernel
theorem dX1_addThing_41 : decode cX1_addThing 41 = .ok (.aload_n 0, 1) := by decide +kernel
theorem dX1_addThing_42 : decode cX1_addThing 42 = .ok (.dup, 1) := by decide +kernel
theorem dX1_addThing_43 : decode cX1_addThing 43 = .ok (.getfield 46, 3) := by decide +kernel
theorem dX1_addThing_46 : decode cX1_addThing 46 = .ok (.iconst 1, 1) := by decide +kernel
theorem dX1_addThing_47 : decode cX1_addThing 47 = .ok (.iadd, 1) := by decide +kernel
theorem dX1_addThing_48 : decode cX1_addThing 48 = .ok (.putfield 46, 3) := by decide +kernel
theorem dX1_addThing_51 : decode cX1_addThing 51 = .ok (.iconst 1, 1) := by decide +kernel
theorem dX1_addThing_52 : decode cX1_addThing 52 = .ok (.ireturn, 1) := by decide +kernel
theorem dX1_rowOf_0 : decode cX1_rowOf 0 = .ok (.iload_n 1, 1) := by decide +kernel
theorem dX1_rowOf_1 : decode cX1_rowOf 1 = .ok (.ifCond .ne 10, 3) := by decide +kernel
theorem dX1_rowOf_4 : decode cX1_rowOf 4 = .ok (.aload_n 0, 1) := by decide +kernel
theorem dX1_rowOf_5 : decode cX1_rowOf 5 = .ok (.getfield 9, 3) := by decide +kernel
theorem dX1_rowOf_8 : decode cX1_rowOf 8 = .ok (.goto 19, 3) := by decide +kernel
theorem dX1_rowOf_11 : decode cX1_rowOf 11 = .ok (.iload_n 1, 1) := by decide +kernel
theorem dX1_rowOf_12 : decode cX1_rowOf 12 = .ok (.iconst 1, 1) := by decide +kernel
theorem dX1_rowOf_13 : decode cX1_rowOf 13 = .ok (.if_icmp .ne 10, 3) := by decide +kernel
theorem dX1_rowOf_16 : decode cX1_rowOf 16 = .ok (.aload_n 0, 1) := by decide +kernel
theorem dX1_rowOf_17 : decode cX1_rowOf 17 = .ok (.getfield 15, 3) := by decide +kernel
theorem dX1_rowOf_20 : decode cX1_rowOf 20 = .ok (.goto 7, 3) := by decide +kernel
theorem dX1_rowOf_23 : decode cX1_rowOf 23 = .ok (.aload_n 0, 1) := by decide +kernel
theorem dX1_rowOf_24 : decode cX1_rowOf 24 = .ok (.getfield 18, 3) := by decide +kernel
theorem dX1_rowOf_27 : decode cX1_rowOf 27 = .ok (.areturn, 1) := by decide +kernel
theorem dX1_isSaid_0 : decode cX1_isSaid 0 = .ok (.aload_n 0, 1) := by decide +kernel
theorem dX1_isSaid_1 : decode cX1_isSaid 1 = .ok (.getfield 49, 3) := by decide +kernel
theorem dX1_isSaid_4 : decode cX1_isSaid 4 = .ok (.iload_n 1, 1) := by decide +kernel
theorem dX1_isSaid_5 : decode cX1_isSaid 5 = .ok (.ishr, 1) := by decide +kernel
theorem dX1_isSaid_6 : decode cX1_isSaid 6 = .ok (.iconst 1, 1) := by decide +kernel
theorem dX1_isSaid_7 : decode cX1_isSaid 7 = .ok (.iand, 1) := by decide +kernel
theorem dX1_isSaid_8 : decode cX1_isSaid 8 = .ok (.iconst 1, 1) := by decide +kernel
theorem dX1_isSaid_9 : decode cX1_isSaid 9 = .ok (.if_icmp .ne 7, 3) := by decide +kernel
theorem dX1_isSaid_12 : decode cX1_isSaid 12 = .ok (.iconst 1, 1) := by decide +kernel
theorem dX1_isSaid_13 : decode cX1_isSaid 13 = .ok (.goto 4, 3) := by decide +kernel
theorem dX1_isSaid_16 : decode cX1_isSaid 16 = .ok (.iconst 0, 1) := by decide +kernel
theorem dX1_isSaid_17 : decode cX1_isSaid 17 = .ok (.ireturn, 1) := by decide +kernel
theorem dX1_setSaid_0 : decode cX1_setSaid 0 = .ok (.aload_n 0, 1) := by decide +kernel
theorem dX1_setSaid_1 : decode cX1_setSaid 1 = .ok (.iload_n 2, 1) := by decide +kernel
theorem dX1_setSaid_2 : decode cX1_setSaid 2 = .ok (.ifCond .eq 14, 3) := by decide +kernel
theorem dX1_setSaid_5 : decode cX1_setSaid 5 = .ok (.aload_n 0, 1) := by decide +kernel
theorem dX1_setSaid_6 : decode cX1_setSaid 6 = .ok (.getfield 49, 3) := by decide +kernel
theorem dX1_setSaid_9 : decode cX1_setSaid 9 = .ok (.iconst 1, 1) := by decide +kernel
theorem dX1_setSaid_10 : decode cX1_setSaid 10 = .ok (.iload_n 1, 1) := by decide +kernel
theorem dX1_setSaid_11 : decode cX1_setSaid 11 = .ok (.ishl, 1) := by decide +kernel
theorem dX1_setSaid_12 : decode cX1_setSaid 12 = .ok (.ior, 1) := by decide +kernel
theorem dX1_setSaid_13 : decode cX1_setSaid 13 = .ok (.goto 13, 3) := by decide +kernel
theorem dX1_setSaid_16 : decode cX1_setSaid 16 = .ok (.aload_n 0, 1) := by decide +kernel
theorem dX1_setSaid_17 : decode cX1_setSaid 17 = .ok (.getfield 49, 3) := by decide +kernel
theorem dX1_setSaid_20 : decode cX1_setSaid 20 = .ok (.iconst 1, 1) := by decide +kernel
theorem dX1_setSaid_21 : decode cX1_setSaid 21 = .ok (.iload_n 1, 1) := by decide +kernel
theorem dX1_setSaid_22 : decode cX1_setSaid 22 = .ok (.ishl, 1) := by decide +kernel
theorem dX1_setSaid_23 : decode cX1_setSaid 23 = .ok (.iconst (-1), 1) := by decide +kernel
theorem dX1_setSaid_24 : decode cX1_setSaid 24 = .ok (.ixor, 1) := by decide +kernel
theorem dX1_setSaid_25 : decode cX1_setSaid 25 = .ok (.iand, 1) := by decide +kernel
theorem dX1_setSaid_26 : decode cX1_setSaid 26 = .ok (.putfield 49, 3) := by decide +kernel
theorem dX1_setSaid_29 : decode cX1_setSaid 29 = .ok (.return_, 1) := by decide +kernel
theorem dX1_addSaying_0 : decode cX1_addSaying 0 = .ok (.iload_n 1, 1) := by decide +kernel
theorem dX1_addSaying_1 : decode cX1_addSaying 1 = .ok (.iconst 0, 1) := by decide +kernel
theorem dX1_addSaying_2 : decode cX1_addSaying 2 = .ok (.bipush 99, 2) := by decide +kernel
theorem dX1_addSaying_4 : decode cX1_addSaying 4 = .ok (.invokestatic 68, 3) := by decide +kernel
theorem dX1_addSaying_7 : decode cX1_addSaying 7 = .ok (.ifCond .eq 11, 3) := by decide +kernel
theorem dX1_addSaying_10 : decode cX1_addSaying 10 = .ok (.aload_n 0, 1) := by decide +kernel
theorem dX1_addSaying_11 : decode cX1_addSaying 11 = .ok (.iload_n 2, 1) := by decide +kernel
theorem dX1_addSaying_12 : decode cX1_addSaying 12 = .ok (.invokevirtual 72, 3) := by decide +kernel
theorem dX1_addSaying_15 : decode cX1_addSaying 15 = .ok (.ifCond .ne 5, 3) := by decide +kernel
theorem dX1_addSaying_18 : decode cX1_addSaying 18 = .ok (.iconst (-1), 1) := by decide +kernel
theorem dX1_addSaying_19 : decode cX1_addSaying 19 = .ok (.ireturn, 1) := by decide +kernel
theorem dX1_addSaying_20 : decode cX1_addSaying 20 = .ok (.aload_n 0, 1) := by decide +kernel
theorem dX1_addSaying_21 : decode cX1_addSaying 21 = .ok (.getfield 29, 3) := by decide +kernel
theorem dX1_addSaying_24 : decode cX1_addSaying 24 = .ok (.iload_n 1, 1) := by decide +kernel
theorem dX1_addSaying_25 : decode cX1_addSaying 25 = .ok (.iload_n 2, 1) := by decide +kernel
theorem dX1_addSaying_26 : decode cX1_addSaying 26 = .ok (.invokevirtual 76, 3) := by decide +kernel
theorem dX1_addSaying_29 : decode cX1_addSaying 29 = .ok (.ireturn, 1) := by decide +kernel
theorem dX1_liftOf_0 : decode cX1_liftOf 0 = .ok (.aload_n 0, 1) := by decide +kernel
theorem dX1_liftOf_1 : decode cX1_liftOf 1 = .ok (.getfield 15, 3) := by decide +kernel
theorem dX1_liftOf_4 : decode cX1_liftOf 4 = .ok (.iload_n 1, 1) := by decide +kernel
theorem dX1_liftOf_5 : decode cX1_liftOf 5 = .ok (.iaload, 1) := by decide +kernel
theorem dX1_liftOf_6 : decode cX1_liftOf 6 = .ok (.istore_n 2, 1) := by decide +kernel
theorem dX1_liftOf_7 : decode cX1_liftOf 7 = .ok (.aload_n 0, 1) := by decide +kernel
theorem dX1_liftOf_8 : decode cX1_liftOf 8 = .ok (.iload_n 1, 1) := by decide +kernel
theorem dX1_liftOf_9 : decode cX1_liftOf 9 = .ok (.invokevirtual 80, 3) := by decide +kernel
theorem dX1_liftOf_12 : decode cX1_liftOf 12 = .ok (.ifCond .ne 21, 3) := by decide +kernel
theorem dX1_liftOf_15 : decode cX1_liftOf 15 = .ok (.aload_n 0, 1) := by decide +kernel
theorem dX1_liftOf_16 : decode cX1_liftOf 16 = .ok (.getfield 9, 3) := by decide +kernel
theorem dX1_liftOf_19 : decode cX1_liftOf 19 = .ok (.iload_n 1, 1) := by decide +kernel
theorem dX1_liftOf_20 : decode cX1_liftOf 20 = .ok (.iaload, 1) := by decide +kernel
theorem dX1_liftOf_21 : decode cX1_liftOf 21 = .ok (.iconst 2, 1) := by decide +kernel
theorem dX1_liftOf_22 : decode cX1_liftOf 22 = .ok (.if_icmp .ne 9, 3) := by decide +kernel
theorem dX1_liftOf_25 : decode cX1_liftOf 25 = .ok (.iconst 2, 1) := by decide +kernel
theorem dX1_liftOf_26 : decode cX1_liftOf 26 = .ok (.iload_n 2, 1) := by decide +kernel
theorem dX1_liftOf_27 : decode cX1_liftOf 27 = .ok (.imul, 1) := by decide +kernel
theorem dX1_liftOf_28 : decode cX1_liftOf 28 = .ok (.goto 4, 3) := by decide +kernel
theorem dX1_liftOf_31 : decode cX1_liftOf 31 = .ok (.iload_n 2, 1) := by decide +kernel
theorem dX1_liftOf_32 : decode cX1_liftOf 32 = .ok (.ireturn, 1) := by decide +kernel
theorem dX1_liftOf_33 : decode cX1_liftOf 33 = .ok (.aload_n 0, 1) := by decide +kernel
theorem dX1_liftOf_34 : decode cX1_liftOf 34 = .ok (.getfield 9, 3) := by decide +kernel
theorem dX1_liftOf_37 : decode cX1_liftOf 37 = .ok (.iload_n 1, 1) := by decide +kernel
theorem dX1_liftOf_38 : decode cX1_liftOf 38 = .ok (.iaload, 1) := by decide +kernel
theorem dX1_liftOf_39 : decode cX1_liftOf 39 = .ok (.lookupswitch 34 #[(1, 25), (3, 29)], 25) := by decide +kernel
theorem dX1_liftOf_64 : decode cX1_liftOf 64 = .ok (.iload_n 2, 1) := by decide +kernel
theorem dX1_liftOf_65 : decode cX1_liftOf 65 = .ok (.iconst 2, 1) := by decide +kernel
theorem dX1_liftOf_66 : decode cX1_liftOf 66 = .ok (.idiv, 1) := by decide +kernel
theorem dX1_liftOf_67 : decode cX1_liftOf 67 = .ok (.ireturn, 1) := by decide +kernel
theorem dX1_liftOf_68 : decode cX1_liftOf 68 = .ok (.iload_n 2, 1) := by decide +kernel
theorem dX1_liftOf_69 : decode cX1_liftOf 69 = .ok (.iconst 2, 1) := by decide +kernel
theorem dX1_liftOf_70 : decode cX1_liftOf 70 = .ok (.idiv, 1) := by decide +kernel
theorem dX1_liftOf_71 : decode cX1_liftOf 71 = .ok (.ineg, 1) := by decide +kernel
theorem dX1_liftOf_72 : decode cX1_liftOf 72 = .ok (.ireturn, 1) := by decide +kernel
theorem dX1_liftOf_73 : decode cX1_liftOf 73 = .ok (.iconst 0, 1) := by decide +kernel
theorem dX1_liftOf_74 : decode cX1_liftOf 74 = .ok (.ireturn, 1) := by decide +kernel
theorem dX1_lift_0 : decode cX1_lift 0 = .ok (.iconst 0, 1) := by decide +kernel
theorem dX1_lift_1 : decode cX1_lift 1 = .ok (.istore_n 1, 1) := by decide +kernel
theorem dX1_lift_2 : decode cX1_lift 2 = .ok (.iconst 0, 1) := by decide +kernel
theorem dX1_lift_3 : decode cX1_lift 3 = .ok (.istore_n 2, 1) := by decide +kernel
theorem dX1_lift_4 : decode cX1_lift 4 = .ok (.iload_n 2, 1) := by decide +kernel
theorem dX1_lift_5 : decode cX1_lift 5 = .ok (.aload_n 0, 1) := by decide +kernel
theorem dX1_lift_6 : decode cX1_lift 6 = .ok (.getfield 46, 3) := by decide +kernel
theorem dX1_lift_9 : decode cX1_lift 9 = .ok (.if_icmp .ge 17, 3) := by decide +kernel
theorem dX1_lift_12 : decode cX1_lift 12 = .ok (.iload_n 1, 1) := by decide +kernel
theorem dX1_lift_13 : decode cX1_lift 13 = .ok (.aload_n 0, 1) := by decide +kernel
theorem dX1_lift_14 : decode cX1_lift 14 = .ok (.iload_n 2, 1) := by decide +kernel
theorem dX1_lift_15 : decode cX1_lift 15 = .ok (.invokevirtual 83, 3) := by decide +kernel
theorem dX1_lift_18 : decode cX1_lift 18 = .ok (.iadd, 1) := by decide +kernel
theorem dX1_lift_19 : decode cX1_lift 19 = .ok (.istore_n 1, 1) := by decide +kernel
theorem dX1_lift_20 : decode cX1_lift 20 = .ok (.iinc 2 1, 3) := by decide +kernel
theorem dX1_lift_23 : decode cX1_lift 23 = .ok (.goto (-19), 3) := by decide +kernel
theorem dX1_lift_26 : decode cX1_lift 26 = .ok (.iload_n 1, 1) := by decide +kernel
theorem dX1_lift_27 : decode cX1_lift 27 = .ok (.iconst 0, 1) := by decide +kernel
theorem dX1_lift_28 : decode cX1_lift 28 = .ok (.bipush 60, 2) := by decide +kernel
theorem dX1_lift_30 : decode cX1_lift 30 = .ok (.invokestatic 87, 3) := by decide +kernel
theorem dX1_lift_33 : decode cX1_lift 33 = .ok (.ireturn, 1) := by decide +kernel
theorem dX1_unsaidWeight_0 : decode cX1_unsaidWeight 0 = .ok (.iconst 0, 1) := by decide +kernel
theorem dX1_unsaidWeight_1 : decode cX1_unsaidWeight 1 = .ok (.istore_n 2, 1) := by decide +kernel
theorem dX1_unsaidWeight_2 : decode cX1_unsaidWeight 2 = .ok (.iconst 0, 1) := by decide +kernel
theorem dX1_unsaidWeight_3 : decode cX1_unsaidWeight 3 = .ok (.istore_n 3, 1) := by decide +kernel
theorem dX1_unsaidWeight_4 : decode cX1_unsaidWeight 4 = .ok (.iload_n 3, 1) := by decide +kernel
theorem dX1_unsaidWeight_5 : decode cX1_unsaidWeight 5 = .ok (.aload_n 0, 1) := by decide +kernel
theorem dX1_unsaidWeight_6 : decode cX1_unsaidWeight 6 = .ok (.getfield 46, 3) := by decide +kernel
theorem dX1_unsaidWeight_9 : decode cX1_unsaidWeight 9 = .ok (.if_icmp .ge 36, 3) := by decide +kernel
theorem dX1_unsaidWeight_12 : decode cX1_unsaidWeight 12 = .ok (.aload_n 0, 1) := by decide +kernel
theorem dX1_unsaidWeight_13 : decode cX1_unsaidWeight 13 = .ok (.getfield 18, 3) := by decide +kernel
theorem dX1_unsaidWeight_16 : decode cX1_unsaidWeight 16 = .ok (.iload_n 3, 1) := by decide +kernel
theorem dX1_unsaidWeight_17 : decode cX1_unsaidWeight 17 = .ok (.iaload, 1) := by decide +kernel
theorem dX1_unsaidWeight_18 : decode cX1_unsaidWeight 18 = .ok (.iload_n 1, 1) := by decide +kernel
theorem dX1_unsaidWeight_19 : decode cX1_unsaidWeight 19 = .ok (.if_icmp .ne 20, 3) := by decide +kernel
theorem dX1_unsaidWeight_22 : decode cX1_unsaidWeight 22 = .ok (.aload_n 0, 1) := by decide +kernel
theorem dX1_unsaidWeight_23 : decode cX1_unsaidWeight 23 = .ok (.iload_n 3, 1) := by decide +kernel
theorem dX1_unsaidWeight_24 : decode cX1_unsaidWeight 24 = .ok (.invokevirtual 80, 3) := by decide +kernel
theorem dX1_unsaidWeight_27 : decode cX1_unsaidWeight 27 = .ok (.ifCond .ne 12, 3) := by decide +kernel
theorem dX1_unsaidWeight_30 : decode cX1_unsaidWeight 30 = .ok (.iload_n 2, 1) := by decide +kernel
theorem dX1_unsaidWeight_31 : decode cX1_unsaidWeight 31 = .ok (.aload_n 0, 1) := by decide +kernel
theorem dX1_unsaidWeight_32 : decode cX1_unsaidWeight 32 = .ok (.getfield 15, 3) := by decide +kernel
theorem dX1_unsaidWeight_35 : decode cX1_unsaidWeight 35 = .ok (.iload_n 3, 1) := by decide +kernel
theorem dX1_unsaidWeight_36 : decode cX1_unsaidWeight 36 = .ok (.iaload, 1) := by decide +kernel
theorem dX1_unsaidWeight_37 : decode cX1_unsaidWeight 37 = .ok (.iadd, 1) := by decide +kernel
theorem dX1_unsaidWeight_38 : decode cX1_unsaidWeight 38 = .ok (.istore_n 2, 1) := by decide +kernel
theorem dX1_unsaidWeight_39 : decode cX1_unsaidWeight 39 = .ok (.iinc 3 1, 3) := by decide +kernel
theorem dX1_unsaidWeight_42 : decode cX1_unsaidWeight 42 = .ok (.goto (-38), 3) := by decide +kernel
theorem dX1_unsaidWeight_45 : decode cX1_unsaidWeight 45 = .ok (.iload_n 2, 1) := by decide +kernel
theorem dX1_unsaidWeight_46 : decode cX1_unsaidWeight 46 = .ok (.ireturn, 1) := by decide +kernel
theorem dX1_offFrom_0 : decode cX1_offFrom 0 = .ok (.aload_n 0, 1) := by decide +kernel
theorem dX1_offFrom_1 : decode cX1_offFrom 1 = .ok (.getfield 55, 3) := by decide +kernel
theorem dX1_offFrom_4 : decode cX1_offFrom 4 = .ok (.iload_n 1, 1) := by decide +kernel
theorem dX1_offFrom_5 : decode cX1_offFrom 5 = .ok (.isub, 1) := by decide +kernel
theorem dX1_offFrom_6 : decode cX1_offFrom 6 = .ok (.invokestatic 91, 3) := by decide +kernel
theorem dX1_offFrom_9 : decode cX1_offFrom 9 = .ok (.ireturn, 1) := by decide +kernel
theorem dX1_pass_0 : decode cX1_pass 0 = .ok (.iconst 0, 1) := by decide +kernel
theorem dX1_pass_1 : decode cX1_pass 1 = .ok (.istore_n 1, 1) := by decide +kernel
theorem dX1_pass_2 : decode cX1_pass 2 = .ok (.iload_n 1, 1) := by decide +kernel
theorem dX1_pass_3 : decode cX1_pass 3 = .ok (.aload_n 0, 1) := by decide +kernel
theorem dX1_pass_4 : decode cX1_pass 4 = .ok (.getfield 29, 3) := by decide +kernel
theorem dX1_pass_7 : decode cX1_pass 7 = .ok (.getfield 61, 3) := by decide +kernel
theorem dX1_pass_10 : decode cX1_pass 10 = .ok (.if_icmp .ge 39, 3) := by decide +kernel
theorem dX1_pass_13 : decode cX1_pass 13 = .ok (.aload_n 0, 1) := by decide +kernel
theorem dX1_pass_14 : decode cX1_pass 14 = .ok (.getfield 29, 3) := by decide +kernel
theorem dX1_pass_17 : decode cX1_pass 17 = .ok (.getfield 96, 3) := by decide +kernel
theorem dX1_pass_20 : decode cX1_pass 20 = .ok (.iload_n 1, 1) := by decide +kernel
theorem dX1_pass_21 : decode cX1_pass 21 = .ok (.iaload, 1) := by decide +kernel
theorem dX1_pass_22 : decode cX1_pass 22 = .ok (.aload_n 0, 1) := by decide +kernel
theorem dX1_pass_23 : decode cX1_pass 23 = .ok (.getfield 58, 3) := by decide +kernel
theorem dX1_pass_26 : decode cX1_pass 26 = .ok (.if_icmp .ne 17, 3) := by decide +kernel
theorem dX1_pass_29 : decode cX1_pass 29 = .ok (.aload_n 0, 1) := by decide +kernel
theorem dX1_pass_30 : decode cX1_pass 30 = .ok (.aload_n 0, 1) := by decide +kernel
theorem dX1_pass_31 : decode cX1_pass 31 = .ok (.getfield 29, 3) := by decide +kernel
theorem dX1_pass_34 : decode cX1_pass 34 = .ok (.getfield 99, 3) := by decide +kernel
theorem dX1_pass_37 : decode cX1_pass 37 = .ok (.iload_n 1, 1) := by decide +kernel
theorem dX1_pass_38 : decode cX1_pass 38 = .ok (.iaload, 1) := by decide +kernel
theorem dX1_pass_39 : decode cX1_pass 39 = .ok (.iconst 1, 1) := by decide +kernel
theorem dX1_pass_40 : decode cX1_pass 40 = .ok (.invokevirtual 102, 3) := by decide +kernel
theorem dX1_pass_43 : decode cX1_pass 43 = .ok (.iinc 1 1, 3) := by decide +kernel
theorem dX1_pass_46 : decode cX1_pass 46 = .ok (.goto (-44), 3) := by decide +kernel
theorem dX1_pass_49 : decode cX1_pass 49 = .ok (.aload_n 0, 1) := by decide +kernel
theorem dX1_pass_50 : decode cX1_pass 50 = .ok (.dup, 1) := by decide +kernel
theorem dX1_pass_51 : decode cX1_pass 51 = .ok (.getfield 52, 3) := by decide +kernel
theorem dX1_pass_54 : decode cX1_pass 54 = .ok (.aload_n 0, 1) := by decide +kernel
theorem dX1_pass_55 : decode cX1_pass 55 = .ok (.invokevirtual 106, 3) := by decide +kernel
theorem dX1_pass_58 : decode cX1_pass 58 = .ok (.aload_n 0, 1) := by decide +kernel
theorem dX1_pass_59 : decode cX1_pass 59 = .ok (.getfield 52, 3) := by decide +kernel
theorem dX1_pass_62 : decode cX1_pass 62 = .ok (.isub, 1) := by decide +kernel
theorem dX1_pass_63 : decode cX1_pass 63 = .ok (.aload_n 0, 1) := by decide +kernel
theorem dX1_pass_64 : decode cX1_pass 64 = .ok (.getfield 36, 3) := by decide +kernel
theorem dX1_pass_67 : decode cX1_pass 67 = .ok (.ineg, 1) := by decide +kernel
theorem dX1_pass_68 : decode cX1_pass 68 = .ok (.aload_n 0, 1) := by decide +kernel
theorem dX1_pass_69 : decode cX1_pass 69 = .ok (.getfield 36, 3) := by decide +kernel
theorem dX1_pass_72 : decode cX1_pass 72 = .ok (.invokestatic 87, 3) := by decide +kernel
theorem dX1_pass_75 : decode cX1_pass 75 = .ok (.iadd, 1) := by decide +kernel
theorem dX1_pass_76 : decode cX1_pass 76 = .ok (.putfield 52, 3) := by decide +kernel
theorem dX1_pass_79 : decode cX1_pass 79 = .ok (.aload_n 0, 1) := by decide +kernel
theorem dX1_pass_80 : decode cX1_pass 80 = .ok (.aload_n 0, 1) := by decide +kernel
theorem dX1_pass_81 : decode cX1_pass 81 = .ok (.getfield 55, 3) := by decide +kernel
theorem dX1_pass_84 : decode cX1_pass 84 = .ok (.aload_n 0, 1) := by decide +kernel
theorem dX1_pass_85 : decode cX1_pass 85 = .ok (.getfield 21, 3) := by decide +kernel
theorem dX1_pass_88 : decode cX1_pass 88 = .ok (.aload_n 0, 1) := by decide +kernel
theorem dX1_pass_89 : decode cX1_pass 89 = .ok (.invokevirtual 110, 3) := by decide +kernel
theorem dX1_pass_92 : decode cX1_pass 92 = .ok (.iaload, 1) := by decide +kernel
theorem dX1_pass_93 : decode cX1_pass 93 = .ok (.iadd, 1) := by decide +kernel
theorem dX1_pass_94 : decode cX1_pass 94 = .ok (.iconst 4, 1) := by decide +kernel
theorem dX1_pass_95 : decode cX1_pass 95 = .ok (.isub, 1) := by decide +kernel
theorem dX1_pass_96 : decode cX1_pass 96 = .ok (.iconst 0, 1) := by decide +kernel
theorem dX1_pass_97 : decode cX1_pass 97 = .ok (.bipush 99, 2) := by decide +kernel
theorem dX1_pass_99 : decode cX1_pass 99 = .ok (.invokestatic 87, 3) := by decide +kernel
theorem dX1_pass_102 : decode cX1_pass 102 = .ok (.putfield 55, 3) := by decide +kernel
theorem dX1_pass_105 : decode cX1_pass 105 = .ok (.aload_n 0, 1) := by decide +kernel
theorem dX1_pass_106 : decode cX1_pass 106 = .ok (.dup, 1) := by decide +kernel
theorem dX1_pass_107 : decode cX1_pass 107 = .ok (.getfield 58, 3) := by decide +kernel
theorem dX1_pass_110 : decode cX1_pass 110 = .ok (.iconst 1, 1) := by decide +kernel
theorem dX1_pass_111 : decode cX1_pass 111 = .ok (.iadd, 1) := by decide +kernel
theorem dX1_pass_112 : decode cX1_pass 112 = .ok (.putfield 58, 3) := by decide +kernel
theorem dX1_pass_115 : decode cX1_pass 115 = .ok (.return_, 1) := by decide +kernel
theorem dX1_windAloft_0 : decode cX1_windAloft 0 = .ok (.aload_n 0, 1) := by decide +kernel
theorem dX1_windAloft_1 : decode cX1_windAloft 1 = .ok (.getfield 52, 3) := by decide +kernel
theorem dX1_windAloft_4 : decode cX1_windAloft 4 = .ok (.bipush 10, 2) := by decide +kernel
theorem dX1_windAloft_6 : decode cX1_windAloft 6 = .ok (.idiv, 1) := by decide +kernel
theorem dX1_windAloft_7 : decode cX1_windAloft 7 = .ok (.iconst 0, 1) := by decide +kernel
theorem dX1_windAloft_8 : decode cX1_windAloft 8 = .ok (.iconst 4, 1) := by decide +kernel
theorem dX1_windAloft_9 : decode cX1_windAloft 9 = .ok (.invokestatic 87, 3) := by decide +kernel
theorem dX1_windAloft_12 : decode cX1_windAloft 12 = .ok (.ireturn, 1) := by decide +kernel
theorem dX1_passAll_0 : decode cX1_passAll 0 = .ok (.iconst 0, 1) := by decide +kernel
theorem dX1_passAll_1 : decode cX1_passAll 1 = .ok (.istore_n 2, 1) := by decide +kernel
theorem dX1_passAll_2 : decode cX1_passAll 2 = .ok (.iload_n 2, 1) := by decide +kernel
theorem dX1_passAll_3 : decode cX1_passAll 3 = .ok (.iload_n 1, 1) := by decide +kernel
theorem dX1_passAll_4 : decode cX1_passAll 4 = .ok (.if_icmp .ge 13, 3) := by decide +kernel
theorem dX1_passAll_7 : decode cX1_passAll 7 = .ok (.aload_n 0, 1) := by decide +kernel
theorem dX1_passAll_8 : decode cX1_passAll 8 = .ok (.invokevirtual 113, 3) := by decide +kernel
theorem dX1_passAll_11 : decode cX1_passAll 11 = .ok (.iinc 2 1, 3) := by decide +kernel
theorem dX1_passAll_14 : decode cX1_passAll 14 = .ok (.goto (-12), 3) := by decide +kernel
theorem dX1_passAll_17 : decode cX1_passAll 17 = .ok (.return_, 1) := by decide +kernel
theorem dX1_greatestHeight_0 : decode cX1_greatestHeight 0 = .ok (.aload_n 0, 1) := by decide +kernel
theorem dX1_greatestHeight_1 : decode cX1_greatestHeight 1 = .ok (.getfield 52, 3) := by decide +kernel
theorem dX1_greatestHeight_4 : decode cX1_greatestHeight 4 = .ok (.istore_n 2, 1) := by decide +kernel
theorem dX1_greatestHeight_5 : decode cX1_greatestHeight 5 = .ok (.iconst 0, 1) := by decide +kernel
theorem dX1_greatestHeight_6 : decode cX1_greatestHeight 6 = .ok (.istore_n 3, 1) := by decide +kernel
theorem dX1_greatestHeight_7 : decode cX1_greatestHeight 7 = .ok (.iload_n 3, 1) := by decide +kernel
theorem dX1_greatestHeight_8 : decode cX1_greatestHeight 8 = .ok (.iload_n 1, 1) := by decide +kernel
theorem dX1_greatestHeight_9 : decode cX1_greatestHeight 9 = .ok (.if_icmp .ge 22, 3) := by decide +kernel
theorem dX1_greatestHeight_12 : decode cX1_greatestHeight 12 = .ok (.aload_n 0, 1) := by decide +kernel
theorem dX1_greatestHeight_13 : decode cX1_greatestHeight 13 = .ok (.invokevirtual 113, 3) := by decide +kernel
theorem dX1_greatestHeight_16 : decode cX1_greatestHeight 16 = .ok (.iload_n 2, 1) := by decide +kernel
theorem dX1_greatestHeight_17 : decode cX1_greatestHeight 17 = .ok (.aload_n 0, 1) := by decide +kernel
theorem dX1_greatestHeight_18 : decode cX1_greatestHeight 18 = .ok (.getfield 52, 3) := by decide +kernel
theorem dX1_greatestHeight_21 : decode cX1_greatestHeight 21 = .ok (.invokestatic 116, 3) := by decide +kernel
theorem dX1_greatestHeight_24 : decode cX1_greatestHeight 24 = .ok (.istore_n 2, 1) := by decide +kernel
theorem dX1_greatestHeight_25 : decode cX1_greatestHeight 25 = .ok (.iinc 3 1, 3) := by decide +kernel
theorem dX1_greatestHeight_28 : decode cX1_greatestHeight 28 = .ok (.goto (-21), 3) := by decide +kernel
theorem dX1_greatestHeight_31 : decode cX1_greatestHeight 31 = .ok (.iload_n 2, 1) := by decide +kernel
theorem dX1_greatestHeight_32 : decode cX1_greatestHeight 32 = .ok (.ireturn, 1) := by decide +kernel
theorem dX1_timesDown_0 : decode cX1_timesDown 0 = .ok (.iconst 0, 1) := by decide +kernel
theorem dX1_timesDown_1 : decode cX1_timesDown 1 = .ok (.istore_n 2, 1) := by decide +kernel
theorem dX1_timesDown_2 : decode cX1_timesDown 2 = .ok (.iconst 0, 1) := by decide +kernel
theorem dX1_timesDown_3 : decode cX1_timesDown 3 = .ok (.istore_n 3, 1) := by decide +kernel
theorem dX1_timesDown_4 : decode cX1_timesDown 4 = .ok (.iload_n 3, 1) := by decide +kernel
theorem dX1_timesDown_5 : decode cX1_timesDown 5 = .ok (.iload_n 1, 1) := by decide +kernel
theorem dX1_timesDown_6 : decode cX1_timesDown 6 = .ok (.if_icmp .ge 28, 3) := by decide +kernel
theorem dX1_timesDown_9 : decode cX1_timesDown 9 = .ok (.aload_n 0, 1) := by decide +kernel
theorem dX1_timesDown_10 : decode cX1_timesDown 10 = .ok (.invokevirtual 113, 3) := by decide +kernel
theorem dX1_timesDown_13 : decode cX1_timesDown 13 = .ok (.iload_n 2, 1) := by decide +kernel
theorem dX1_timesDown_14 : decode cX1_timesDown 14 = .ok (.aload_n 0, 1) := by decide +kernel
theorem dX1_timesDown_15 : decode cX1_timesDown 15 = .ok (.getfield 52, 3) := by decide +kernel
theorem dX1_timesDown_18 : decode cX1_timesDown 18 = .ok (.ifCond .ne 7, 3) := by decide +kernel
theorem dX1_timesDown_21 : decode cX1_timesDown 21 = .ok (.iconst 1, 1) := by decide +kernel
theorem dX1_timesDown_22 : decode cX1_timesDown 22 = .ok (.goto 4, 3) := by decide +kernel
theorem dX1_timesDown_25 : decode cX1_timesDown 25 = .ok (.iconst 0, 1) := by decide +kernel
theorem dX1_timesDown_26 : decode cX1_timesDown 26 = .ok (.iadd, 1) := by decide +kernel
theorem dX1_timesDown_27 : decode cX1_timesDown 27 = .ok (.istore_n 2, 1) := by decide +kernel
theorem dX1_timesDown_28 : decode cX1_timesDown 28 = .ok (.iinc 3 1, 3) := by decide +kernel
theorem dX1_timesDown_31 : decode cX1_timesDown 31 = .ok (.goto (-27), 3) := by decide +kernel
theorem dX1_timesDown_34 : decode cX1_timesDown 34 = .ok (.iload_n 2, 1) := by decide +kernel
theorem dX1_timesDown_35 : decode cX1_timesDown 35 = .ok (.ireturn, 1) := by decide +kernel
theorem dX1_firstDown_0 : decode cX1_firstDown 0 = .ok (.iconst 1, 1) := by decide +kernel
theorem dX1_firstDown_1 : decode cX1_firstDown 1 = .ok (.istore_n 1, 1) := by decide +kernel
theorem dX1_firstDown_2 : decode cX1_firstDown 2 = .ok (.iload_n 1, 1) := by decide +kernel
theorem dX1_firstDown_3 : decode cX1_firstDown 3 = .ok (.bipush 60, 2) := by decide +kernel
theorem dX1_firstDown_5 : decode cX1_firstDown 5 = .ok (.if_icmp .gt 22, 3) := by decide +kernel
theorem dX1_firstDown_8 : decode cX1_firstDown 8 = .ok (.aload_n 0, 1) := by decide +kernel
theorem dX1_firstDown_9 : decode cX1_firstDown 9 = .ok (.invokevirtual 113, 3) := by decide +kernel
theorem dX1_firstDown_12 : decode cX1_firstDown 12 = .ok (.aload_n 0, 1) := by decide +kernel
theorem dX1_firstDown_13 : decode cX1_firstDown 13 = .ok (.getfield 52, 3) := by decide +kernel
theorem dX1_firstDown_16 : decode cX1_firstDown 16 = .ok (.ifCond .ne 5, 3) := by decide +kernel
theorem dX1_firstDown_19 : decode cX1_firstDown 19 = .ok (.iload_n 1, 1) := by decide +kernel
theorem dX1_firstDown_20 : decode cX1_firstDown 20 = .ok (.ireturn, 1) := by decide +kernel
theorem dX1_firstDown_21 : decode cX1_firstDown 21 = .ok (.iinc 1 1, 3) := by decide +kernel
theorem dX1_firstDown_24 : decode cX1_firstDown 24 = .ok (.goto (-22), 3) := by decide +kernel
theorem dX1_firstDown_27 : decode cX1_firstDown 27 = .ok (.ldc 119, 2) := by decide +kernel
theorem dX1_firstDown_29 : decode cX1_firstDown 29 = .ok (.ireturn, 1) := by decide +kernel
theorem dX1_firstDownAt_0 : decode cX1_firstDownAt 0 = .ok (.iconst 0, 1) := by decide +kernel
theorem dX1_firstDownAt_1 : decode cX1_firstDownAt 1 = .ok (.istore_n 2, 1) := by decide +kernel
theorem dX1_firstDownAt_2 : decode cX1_firstDownAt 2 = .ok (.iload_n 2, 1) := by decide +kernel
theorem dX1_firstDownAt_3 : decode cX1_firstDownAt 3 = .ok (.bipush 60, 2) := by decide +kernel
theorem dX1_firstDownAt_5 : decode cX1_firstDownAt 5 = .ok (.if_icmp .gt 30, 3) := by decide +kernel
theorem dX1_firstDownAt_8 : decode cX1_firstDownAt 8 = .ok (.aload_n 0, 1) := by decide +kernel
theorem dX1_firstDownAt_9 : decode cX1_firstDownAt 9 = .ok (.getfield 52, 3) := by decide +kernel
theorem dX1_firstDownAt_12 : decode cX1_firstDownAt 12 = .ok (.ifCond .ne 13, 3) := by decide +kernel
theorem dX1_firstDownAt_15 : decode cX1_firstDownAt 15 = .ok (.aload_n 0, 1) := by decide +kernel
theorem dX1_firstDownAt_16 : decode cX1_firstDownAt 16 = .ok (.getfield 55, 3) := by decide +kernel
theorem dX1_firstDownAt_19 : decode cX1_firstDownAt 19 = .ok (.iload_n 1, 1) := by decide +kernel
theorem dX1_firstDownAt_20 : decode cX1_firstDownAt 20 = .ok (.if_icmp .ne 5, 3) := by decide +kernel
theorem dX1_firstDownAt_23 : decode cX1_firstDownAt 23 = .ok (.iload_n 2, 1) := by decide +kernel
theorem dX1_firstDownAt_24 : decode cX1_firstDownAt 24 = .ok (.ireturn, 1) := by decide +kernel
theorem dX1_firstDownAt_25 : decode cX1_firstDownAt 25 = .ok (.aload_n 0, 1) := by decide +kernel
theorem dX1_firstDownAt_26 : decode cX1_firstDownAt 26 = .ok (.invokevirtual 113, 3) := by decide +kernel
theorem dX1_firstDownAt_29 : decode cX1_firstDownAt 29 = .ok (.iinc 2 1, 3) := by decide +kernel
theorem dX1_firstDownAt_32 : decode cX1_firstDownAt 32 = .ok (.goto (-30), 3) := by decide +kernel
theorem dX1_firstDownAt_35 : decode cX1_firstDownAt 35 = .ok (.ldc 119, 2) := by decide +kernel
theorem dX1_firstDownAt_37 : decode cX1_firstDownAt 37 = .ok (.ireturn, 1) := by decide +kernel
theorem dX1_goesAsSeen_0 : decode cX1_goesAsSeen 0 = .ok (.iconst 0, 1) := by decide +kernel
theorem dX1_goesAsSeen_1 : decode cX1_goesAsSeen 1 = .ok (.istore_n 1, 1) := by decide +kernel
theorem dX1_goesAsSeen_2 : decode cX1_goesAsSeen 2 = .ok (.iload_n 1, 1) := by decide +kernel
theorem dX1_goesAsSeen_3 : decode cX1_goesAsSeen 3 = .ok (.bipush 30, 2) := by decide +kernel
theorem dX1_goesAsSeen_5 : decode cX1_goesAsSeen 5 = .ok (.if_icmp .gt 23, 3) := by decide +kernel
theorem dX1_goesAsSeen_8 : decode cX1_goesAsSeen 8 = .ok (.aload_n 0, 1) := by decide +kernel
theorem dX1_goesAsSeen_9 : decode cX1_goesAsSeen 9 = .ok (.iload_n 1, 1) := by decide +kernel
theorem dX1_goesAsSeen_10 : decode cX1_goesAsSeen 10 = .ok (.invokevirtual 120, 3) := by decide +kernel
theorem dX1_goesAsSeen_13 : decode cX1_goesAsSeen 13 = .ok (.ifCond .ne 5, 3) := by decide +kernel
theorem dX1_goesAsSeen_16 : decode cX1_goesAsSeen 16 = .ok (.iconst 0, 1) := by decide +kernel
theorem dX1_goesAsSeen_17 : decode cX1_goesAsSeen 17 = .ok (.ireturn, 1) := by decide +kernel
theorem dX1_goesAsSeen_18 : decode cX1_goesAsSeen 18 = .ok (.aload_n 0, 1) := by decide +kernel
theorem dX1_goesAsSeen_19 : decode cX1_goesAsSeen 19 = .ok (.invokevirtual 113, 3) := by decide +kernel
theorem dX1_goesAsSeen_22 : decode cX1_goesAsSeen 22 = .ok (.iinc 1 1, 3) := by decide +kernel
theorem dX1_goesAsSeen_25 : decode cX1_goesAsSeen 25 = .ok (.goto (-23), 3) := by decide +kernel
theorem dX1_goesAsSeen_28 : decode cX1_goesAsSeen 28 = .ok (.iconst 1, 1) := by decide +kernel
theorem dX1_goesAsSeen_29 : decode cX1_goesAsSeen 29 = .ok (.ireturn, 1) := by decide +kernel
theorem dX1_isAsSeenBehind_0 : decode cX1_isAsSeenBehind 0 = .ok (.iconst 0, 1) := by decide +kernel
theorem dX1_isAsSeenBehind_1 : decode cX1_isAsSeenBehind 1 = .ok (.istore_n 2, 1) := by decide +kernel
theorem dX1_isAsSeenBehind_2 : decode cX1_isAsSeenBehind 2 = .ok (.iload_n 2, 1) := by decide +kernel
theorem dX1_isAsSeenBehind_3 : decode cX1_isAsSeenBehind 3 = .ok (.aload_n 0, 1) := by decide +kernel
theorem dX1_isAsSeenBehind_4 : decode cX1_isAsSeenBehind 4 = .ok (.getfield 33, 3) := by decide +kernel
theorem dX1_isAsSeenBehind_7 : decode cX1_isAsSeenBehind 7 = .ok (.getfield 61, 3) := by decide +kernel
theorem dX1_isAsSeenBehind_10 : decode cX1_isAsSeenBehind 10 = .ok (.if_icmp .ge 40, 3) := by decide +kernel
theorem dX1_isAsSeenBehind_13 : decode cX1_isAsSeenBehind 13 = .ok (.aload_n 0, 1) := by decide +kernel
theorem dX1_isAsSeenBehind_14 : decode cX1_isAsSeenBehind 14 = .ok (.getfield 33, 3) := by decide +kernel
theorem dX1_isAsSeenBehind_17 : decode cX1_isAsSeenBehind 17 = .ok (.getfield 96, 3) := by decide +kernel
theorem dX1_isAsSeenBehind_20 : decode cX1_isAsSeenBehind 20 = .ok (.iload_n 2, 1) := by decide +kernel
theorem dX1_isAsSeenBehind_21 : decode cX1_isAsSeenBehind 21 = .ok (.iaload, 1) := by decide +kernel
theorem dX1_isAsSeenBehind_22 : decode cX1_isAsSeenBehind 22 = .ok (.iload_n 1, 1) := by decide +kernel
theorem dX1_isAsSeenBehind_23 : decode cX1_isAsSeenBehind 23 = .ok (.if_icmp .ne 21, 3) := by decide +kernel
theorem dX1_isAsSeenBehind_26 : decode cX1_isAsSeenBehind 26 = .ok (.aload_n 0, 1) := by decide +kernel
theorem dX1_isAsSeenBehind_27 : decode cX1_isAsSeenBehind 27 = .ok (.getfield 33, 3) := by decide +kernel
theorem dX1_isAsSeenBehind_30 : decode cX1_isAsSeenBehind 30 = .ok (.getfield 99, 3) := by decide +kernel
theorem dX1_isAsSeenBehind_33 : decode cX1_isAsSeenBehind 33 = .ok (.iload_n 2, 1) := by decide +kernel
theorem dX1_isAsSeenBehind_34 : decode cX1_isAsSeenBehind 34 = .ok (.iaload, 1) := by decide +kernel
theorem dX1_isAsSeenBehind_35 : decode cX1_isAsSeenBehind 35 = .ok (.aload_n 0, 1) := by decide +kernel
theorem dX1_isAsSeenBehind_36 : decode cX1_isAsSeenBehind 36 = .ok (.getfield 52, 3) := by decide +kernel
theorem dX1_isAsSeenBehind_39 : decode cX1_isAsSeenBehind 39 = .ok (.if_icmp .eq 5, 3) := by decide +kernel
theorem dX1_isAsSeenBehind_42 : decode cX1_isAsSeenBehind 42 = .ok (.iconst 0, 1) := by decide +kernel
theorem dX1_isAsSeenBehind_43 : decode cX1_isAsSeenBehind 43 = .ok (.ireturn, 1) := by decide +kernel
theorem dX1_isAsSeenBehind_44 : decode cX1_isAsSeenBehind 44 = .ok (.iinc 2 1, 3) := by decide +kernel
theorem dX1_isAsSeenBehind_47 : decode cX1_isAsSeenBehind 47 = .ok (.goto (-45), 3) := by decide +kernel
theorem dX1_isAsSeenBehind_50 : decode cX1_isAsSeenBehind 50 = .ok (.iconst 1, 1) := by decide +kernel
theorem dX1_isAsSeenBehind_51 : decode cX1_isAsSeenBehind 51 = .ok (.ireturn, 1) := by decide +kernel
theorem dX2_init_0 : decode cX2_init 0 = .ok (.aload_n 0, 1) := by decide +kernel
theorem dX2_init_1 : decode cX2_init 1 = .ok (.invokespecial 3, 3) := by decide +kernel
theorem dX2_init_4 : decode cX2_init 4 = .ok (.iconst 0, 1) := by decide +kernel
theorem dX2_init_5 : decode cX2_init 5 = .ok (.iload_n 1, 1) := by decide +kernel
theorem dX2_init_6 : decode cX2_init 6 = .ok (.invokestatic 9, 3) := by decide +kernel
theorem dX2_init_9 : decode cX2_init 9 = .ok (.istore_n 2, 1) := by decide +kernel
theorem dX2_init_10 : decode cX2_init 10 = .ok (.aload_n 0, 1) := by decide +kernel
theorem dX2_init_11 : decode cX2_init 11 = .ok (.iload_n 2, 1) := by decide +kernel
theorem dX2_init_12 : decode cX2_init 12 = .ok (.newarray .int, 2) := by decide +kernel
theorem dX2_init_14 : decode cX2_init 14 = .ok (.putfield 15, 3) := by decide +kernel
theorem dX2_init_17 : decode cX2_init 17 = .ok (.aload_n 0, 1) := by decide +kernel
theorem dX2_init_18 : decode cX2_init 18 = .ok (.iload_n 2, 1) := by decide +kernel
theorem dX2_init_19 : decode cX2_init 19 = .ok (.newarray .int, 2) := by decide +kernel
theorem dX2_init_21 : decode cX2_init 21 = .ok (.putfield 21, 3) := by decide +kernel
theorem dX2_init_24 : decode cX2_init 24 = .ok (.return_, 1) := by decide +kernel
theorem dX2_add_0 : decode cX2_add 0 = .ok (.aload_n 0, 1) := by decide +kernel
theorem dX2_add_1 : decode cX2_add 1 = .ok (.getfield 24, 3) := by decide +kernel
theorem dX2_add_4 : decode cX2_add 4 = .ok (.aload_n 0, 1) := by decide +kernel
theorem dX2_add_5 : decode cX2_add 5 = .ok (.getfield 15, 3) := by decide +kernel
theorem dX2_add_8 : decode cX2_add 8 = .ok (.arraylength, 1) := by decide +kernel
theorem dX2_add_9 : decode cX2_add 9 = .ok (.if_icmp .lt 6, 3) := by decide +kernel
theorem dX2_add_12 : decode cX2_add 12 = .ok (.bipush (-3), 2) := by decide +kernel
theorem dX2_add_14 : decode cX2_add 14 = .ok (.ireturn, 1) := by decide +kernel
theorem dX2_add_15 : decode cX2_add 15 = .ok (.aload_n 0, 1) := by decide +kernel
theorem dX2_add_16 : decode cX2_add 16 = .ok (.getfield 15, 3) := by decide +kernel
theorem dX2_add_19 : decode cX2_add 19 = .ok (.aload_n 0, 1) := by decide +kernel
theorem dX2_add_20 : decode cX2_add 20 = .ok (.getfield 24, 3) := by decide +kernel
theorem dX2_add_23 : decode cX2_add 23 = .ok (.iload_n 1, 1) := by decide +kernel
theorem dX2_add_24 : decode cX2_add 24 = .ok (.iastore, 1) := by decide +kernel
theorem dX2_add_25 : decode cX2_add 25 = .ok (.aload_n 0, 1) := by decide +kernel
theorem dX2_add_26 : decode cX2_add 26 = .ok (.getfield 21, 3) := by decide +kernel
theorem dX2_add_29 : decode cX2_add 29 = .ok (.aload_n 0, 1) := by decide +kernel
theorem dX2_add_30 : decode cX2_add 30 = .ok (.getfield 24, 3) := by decide +kernel
theorem dX2_add_33 : decode cX2_add 33 = .ok (.iload_n 2, 1) := by decide +kernel
theorem dX2_add_34 : decode cX2_add 34 = .ok (.iastore, 1) := by decide +kernel
theorem dX2_add_35 : decode cX2_add 35 = .ok (.aload_n 0, 1) := by decide +kernel
theorem dX2_add_36 : decode cX2_add 36 = .ok (.dup, 1) := by decide +kernel
theorem dX2_add_37 : decode cX2_add 37 = .ok (.getfield 24, 3) := by decide +kernel
theorem dX2_add_40 : decode cX2_add 40 = .ok (.iconst 1, 1) := by decide +kernel
theorem dX2_add_41 : decode cX2_add 41 = .ok (.iadd, 1) := by decide +kernel
theorem dX2_add_42 : decode cX2_add 42 = .ok (.putfield 24, 3) := by decide +kernel
theorem dX2_add_45 : decode cX2_add 45 = .ok (.aload_n 0, 1) := by decide +kernel
theorem dX2_add_46 : decode cX2_add 46 = .ok (.getfield 24, 3) := by decide +kernel
theorem dX2_add_49 : decode cX2_add 49 = .ok (.ireturn, 1) := by decide +kernel
theorem dX2_keepFirst_0 : decode cX2_keepFirst 0 = .ok (.iload_n 1, 1) := by decide +kernel
theorem dX2_keepFirst_1 : decode cX2_keepFirst 1 = .ok (.iconst 0, 1) := by decide +kernel
theorem dX2_keepFirst_2 : decode cX2_keepFirst 2 = .ok (.aload_n 0, 1) := by decide +kernel
theorem dX2_keepFirst_3 : decode cX2_keepFirst 3 = .ok (.getfield 24, 3) := by decide +kernel
theorem dX2_keepFirst_6 : decode cX2_keepFirst 6 = .ok (.invokestatic 28, 3) := by decide +kernel
theorem dX2_keepFirst_9 : decode cX2_keepFirst 9 = .ok (.ifCond .ne 5, 3) := by decide +kernel
theorem dX2_keepFirst_12 : decode cX2_keepFirst 12 = .ok (.iconst (-1), 1) := by decide +kernel
theorem dX2_keepFirst_13 : decode cX2_keepFirst 13 = .ok (.ireturn, 1) := by decide +kernel
theorem dX2_keepFirst_14 : decode cX2_keepFirst 14 = .ok (.aload_n 0, 1) := by decide +kernel
theorem dX2_keepFirst_15 : decode cX2_keepFirst 15 = .ok (.getfield 24, 3) := by decide +kernel
theorem dX2_keepFirst_18 : decode cX2_keepFirst 18 = .ok (.istore_n 2, 1) := by decide +kernel
theorem dX2_keepFirst_19 : decode cX2_keepFirst 19 = .ok (.aload_n 0, 1) := by decide +kernel
theorem dX2_keepFirst_20 : decode cX2_keepFirst 20 = .ok (.iload_n 1, 1) := by decide +kernel
theorem dX2_keepFirst_21 : decode cX2_keepFirst 21 = .ok (.putfield 24, 3) := by decide +kernel
theorem dX2_keepFirst_24 : decode cX2_keepFirst 24 = .ok (.iload_n 2, 1) := by decide +kernel
theorem dX2_keepFirst_25 : decode cX2_keepFirst 25 = .ok (.ireturn, 1) := by decide +kernel
theorem dX2_copyFrom_0 : decode cX2_copyFrom 0 = .ok (.aload_n 0, 1) := by decide +kernel
theorem dX2_copyFrom_1 : decode cX2_copyFrom 1 = .ok (.aload_n 1, 1) := by decide +kernel
theorem dX2_copyFrom_2 : decode cX2_copyFrom 2 = .ok (.getfield 24, 3) := by decide +kernel
theorem dX2_copyFrom_5 : decode cX2_copyFrom 5 = .ok (.putfield 24, 3) := by decide +kernel
theorem dX2_copyFrom_8 : decode cX2_copyFrom 8 = .ok (.iconst 0, 1) := by decide +kernel
theorem dX2_copyFrom_9 : decode cX2_copyFrom 9 = .ok (.istore_n 2, 1) := by decide +kernel
theorem dX2_copyFrom_10 : decode cX2_copyFrom 10 = .ok (.iload_n 2, 1) := by decide +kernel
theorem dX2_copyFrom_11 : decode cX2_copyFrom 11 = .ok (.aload_n 0, 1) := by decide +kernel
theorem dX2_copyFrom_12 : decode cX2_copyFrom 12 = .ok (.getfield 24, 3) := by decide +kernel
theorem dX2_copyFrom_15 : decode cX2_copyFrom 15 = .ok (.if_icmp .ge 33, 3) := by decide +kernel
theorem dX2_copyFrom_18 : decode cX2_copyFrom 18 = .ok (.aload_n 0, 1) := by decide +kernel
theorem dX2_copyFrom_19 : decode cX2_copyFrom 19 = .ok (.getfield 15, 3) := by decide +kernel
theorem dX2_copyFrom_22 : decode cX2_copyFrom 22 = .ok (.iload_n 2, 1) := by decide +kernel
theorem dX2_copyFrom_23 : decode cX2_copyFrom 23 = .ok (.aload_n 1, 1) := by decide +kernel
theorem dX2_copyFrom_24 : decode cX2_copyFrom 24 = .ok (.getfield 15, 3) := by decide +kernel
theorem dX2_copyFrom_27 : decode cX2_copyFrom 27 = .ok (.iload_n 2, 1) := by decide +kernel
theorem dX2_copyFrom_28 : decode cX2_copyFrom 28 = .ok (.iaload, 1) := by decide +kernel
theorem dX2_copyFrom_29 : decode cX2_copyFrom 29 = .ok (.iastore, 1) := by decide +kernel
theorem dX2_copyFrom_30 : decode cX2_copyFrom 30 = .ok (.aload_n 0, 1) := by decide +kernel
theorem dX2_copyFrom_31 : decode cX2_copyFrom 31 = .ok (.getfield 21, 3) := by decide +kernel
theorem dX2_copyFrom_34 : decode cX2_copyFrom 34 = .ok (.iload_n 2, 1) := by decide +kernel
theorem dX2_copyFrom_35 : decode cX2_copyFrom 35 = .ok (.aload_n 1, 1) := by decide +kernel
theorem dX2_copyFrom_36 : decode cX2_copyFrom 36 = .ok (.getfield 21, 3) := by decide +kernel
theorem dX2_copyFrom_39 : decode cX2_copyFrom 39 = .ok (.iload_n 2, 1) := by decide +kernel
theorem dX2_copyFrom_40 : decode cX2_copyFrom 40 = .ok (.iaload, 1) := by decide +kernel
theorem dX2_copyFrom_41 : decode cX2_copyFrom 41 = .ok (.iastore, 1) := by decide +kernel
theorem dX2_copyFrom_42 : decode cX2_copyFrom 42 = .ok (.iinc 2 1, 3) := by decide +kernel
theorem dX2_copyFrom_45 : decode cX2_copyFrom 45 = .ok (.goto (-35), 3) := by decide +kernel
theorem dX2_copyFrom_48 : decode cX2_copyFrom 48 = .ok (.return_, 1) := by decide +kernel
theorem dX3_init_0 : decode cX3_init 0 = .ok (.aload_n 0, 1) := by decide +kernel
theorem dX3_init_1 : decode cX3_init 1 = .ok (.invokespecial 3, 3) := by decide +kernel
theorem dX3_init_4 : decode cX3_init 4 = .ok (.aload_n 0, 1) := by decide +kernel
theorem dX3_init_5 : decode cX3_init 5 = .ok (.sipush 160, 3) := by decide +kernel
theorem dX3_init_8 : decode cX3_init 8 = .ok (.newarray .int, 2) := by decide +kernel
theorem dX3_init_10 : decode cX3_init 10 = .ok (.putfield 9, 3) := by decide +kernel
theorem dX3_init_13 : decode cX3_init 13 = .ok (.aload_n 0, 1) := by decide +kernel
theorem dX3_init_14 : decode cX3_init 14 = .ok (.sipush 160, 3) := by decide +kernel
theorem dX3_init_17 : decode cX3_init 17 = .ok (.newarray .int, 2) := by decide +kernel
theorem dX3_init_19 : decode cX3_init 19 = .ok (.putfield 15, 3) := by decide +kernel
theorem dX3_init_22 : decode cX3_init 22 = .ok (.return_, 1) := by decide +kernel
theorem dX3_append_0 : decode cX3_append 0 = .ok (.aload_n 0, 1) := by decide +kernel
theorem dX3_append_1 : decode cX3_append 1 = .ok (.getfield 18, 3) := by decide +kernel
theorem dX3_append_4 : decode cX3_append 4 = .ok (.sipush 160, 3) := by decide +kernel
theorem dX3_append_7 : decode cX3_append 7 = .ok (.if_icmp .lt 6, 3) := by decide +kernel
theorem dX3_append_10 : decode cX3_append 10 = .ok (.bipush (-3), 2) := by decide +kernel
theorem dX3_append_12 : decode cX3_append 12 = .ok (.ireturn, 1) := by decide +kernel
theorem dX3_append_13 : decode cX3_append 13 = .ok (.aload_n 0, 1) := by decide +kernel
theorem dX3_append_14 : decode cX3_append 14 = .ok (.getfield 9, 3) := by decide +kernel
theorem dX3_append_17 : decode cX3_append 17 = .ok (.aload_n 0, 1) := by decide +kernel
theorem dX3_append_18 : decode cX3_append 18 = .ok (.getfield 18, 3) := by decide +kernel
theorem dX3_append_21 : decode cX3_append 21 = .ok (.iload_n 1, 1) := by decide +kernel
theorem dX3_append_22 : decode cX3_append 22 = .ok (.iastore, 1) := by decide +kernel
theorem dX3_append_23 : decode cX3_append 23 = .ok (.aload_n 0, 1) := by decide +kernel
theorem dX3_append_24 : decode cX3_append 24 = .ok (.getfield 15, 3) := by decide +kernel
theorem dX3_append_27 : decode cX3_append 27 = .ok (.aload_n 0, 1) := by decide +kernel
theorem dX3_append_28 : decode cX3_append 28 = .ok (.getfield 18, 3) := by decide +kernel
theorem dX3_append_31 : decode cX3_append 31 = .ok (.iload_n 1, 1) := by decide +kernel
theorem dX3_append_32 : decode cX3_append 32 = .ok (.invokestatic 22, 3) := by decide +kernel
theorem dX3_append_35 : decode cX3_append 35 = .ok (.iastore, 1) := by decide +kernel
theorem dX3_append_36 : decode cX3_append 36 = .ok (.aload_n 0, 1) := by decide +kernel
theorem dX3_append_37 : decode cX3_append 37 = .ok (.dup, 1) := by decide +kernel
theorem dX3_append_38 : decode cX3_append 38 = .ok (.getfield 18, 3) := by decide +kernel
theorem dX3_append_41 : decode cX3_append 41 = .ok (.iconst 1, 1) := by decide +kernel
theorem dX3_append_42 : decode cX3_append 42 = .ok (.iadd, 1) := by decide +kernel
theorem dX3_append_43 : decode cX3_append 43 = .ok (.putfield 18, 3) := by decide +kernel
theorem dX3_append_46 : decode cX3_append 46 = .ok (.aload_n 0, 1) := by decide +kernel
theorem dX3_append_47 : decode cX3_append 47 = .ok (.getfield 18, 3) := by decide +kernel
theorem dX3_append_50 : decode cX3_append 50 = .ok (.ireturn, 1) := by decide +kernel
theorem dX3_keepFirst_0 : decode cX3_keepFirst 0 = .ok (.iload_n 1, 1) := by decide +kernel
theorem dX3_keepFirst_1 : decode cX3_keepFirst 1 = .ok (.iconst 0, 1) := by decide +kernel
theorem dX3_keepFirst_2 : decode cX3_keepFirst 2 = .ok (.aload_n 0, 1) := by decide +kernel
theorem dX3_keepFirst_3 : decode cX3_keepFirst 3 = .ok (.getfield 18, 3) := by decide +kernel
theorem dX3_keepFirst_6 : decode cX3_keepFirst 6 = .ok (.invokestatic 26, 3) := by decide +kernel
theorem dX3_keepFirst_9 : decode cX3_keepFirst 9 = .ok (.ifCond .ne 5, 3) := by decide +kernel
theorem dX3_keepFirst_12 : decode cX3_keepFirst 12 = .ok (.iconst (-1), 1) := by decide +kernel
theorem dX3_keepFirst_13 : decode cX3_keepFirst 13 = .ok (.ireturn, 1) := by decide +kernel
theorem dX3_keepFirst_14 : decode cX3_keepFirst 14 = .ok (.aload_n 0, 1) := by decide +kernel
theorem dX3_keepFirst_15 : decode cX3_keepFirst 15 = .ok (.getfield 18, 3) := by decide +kernel
theorem dX3_keepFirst_18 : decode cX3_keepFirst 18 = .ok (.istore_n 2, 1) := by decide +kernel
theorem dX3_keepFirst_19 : decode cX3_keepFirst 19 = .ok (.aload_n 0, 1) := by decide +kernel
theorem dX3_keepFirst_20 : decode cX3_keepFirst 20 = .ok (.iload_n 1, 1) := by decide +kernel
theorem dX3_keepFirst_21 : decode cX3_keepFirst 21 = .ok (.putfield 18, 3) := by decide +kernel
theorem dX3_keepFirst_24 : decode cX3_keepFirst 24 = .ok (.iload_n 2, 1) := by decide +kernel
theorem dX3_keepFirst_25 : decode cX3_keepFirst 25 = .ok (.ireturn, 1) := by decide +kernel
theorem dX3_tell_0 : decode cX3_tell 0 = .ok (.aload_n 1, 1) := by decide +kernel
theorem dX3_tell_1 : decode cX3_tell 1 = .ok (.invokevirtual 30, 3) := by decide +kernel
theorem dX3_tell_4 : decode cX3_tell 4 = .ok (.aload_n 0, 1) := by decide +kernel
theorem dX3_tell_5 : decode cX3_tell 5 = .ok (.invokevirtual 35, 3) := by decide +kernel
theorem dX3_tell_8 : decode cX3_tell 8 = .ok (.iconst 0, 1) := by decide +kernel
theorem dX3_tell_9 : decode cX3_tell 9 = .ok (.istore_n 2, 1) := by decide +kernel
theorem dX3_tell_10 : decode cX3_tell 10 = .ok (.aload_n 0, 1) := by decide +kernel
theorem dX3_tell_11 : decode cX3_tell 11 = .ok (.invokevirtual 38, 3) := by decide +kernel
theorem dX3_tell_14 : decode cX3_tell 14 = .ok (.istore_n 3, 1) := by decide +kernel
theorem dX3_tell_15 : decode cX3_tell 15 = .ok (.iload_n 3, 1) := by decide +kernel
theorem dX3_tell_16 : decode cX3_tell 16 = .ok (.ifCond .eq 44, 3) := by decide +kernel
theorem dX3_tell_19 : decode cX3_tell 19 = .ok (.aload_n 0, 1) := by decide +kernel
theorem dX3_tell_20 : decode cX3_tell 20 = .ok (.getfield 42, 3) := by decide +kernel
theorem dX3_tell_23 : decode cX3_tell 23 = .ok (.ifCond .eq 37, 3) := by decide +kernel
theorem dX3_tell_26 : decode cX3_tell 26 = .ok (.iload_n 2, 1) := by decide +kernel
theorem dX3_tell_27 : decode cX3_tell 27 = .ok (.sipush 160, 3) := by decide +kernel
theorem dX3_tell_30 : decode cX3_tell 30 = .ok (.if_icmp .ge 30, 3) := by decide +kernel
theorem dX3_tell_33 : decode cX3_tell 33 = .ok (.aload_n 0, 1) := by decide +kernel
theorem dX3_tell_34 : decode cX3_tell 34 = .ok (.aload_n 1, 1) := by decide +kernel
theorem dX3_tell_35 : decode cX3_tell 35 = .ok (.invokevirtual 45, 3) := by decide +kernel
theorem dX3_tell_38 : decode cX3_tell 38 = .ok (.ifCond .eq 14, 3) := by decide +kernel
theorem dX3_tell_41 : decode cX3_tell 41 = .ok (.aload_n 0, 1) := by decide +kernel
theorem dX3_tell_42 : decode cX3_tell 42 = .ok (.invokevirtual 38, 3) := by decide +kernel
theorem dX3_tell_45 : decode cX3_tell 45 = .ok (.ifCond .eq 7, 3) := by decide +kernel
theorem dX3_tell_48 : decode cX3_tell 48 = .ok (.iconst 1, 1) := by decide +kernel
theorem dX3_tell_49 : decode cX3_tell 49 = .ok (.goto 4, 3) := by decide +kernel
theorem dX3_tell_52 : decode cX3_tell 52 = .ok (.iconst 0, 1) := by decide +kernel
theorem dX3_tell_53 : decode cX3_tell 53 = .ok (.istore_n 3, 1) := by decide +kernel
theorem dX3_tell_54 : decode cX3_tell 54 = .ok (.iinc 2 1, 3) := by decide +kernel
theorem dX3_tell_57 : decode cX3_tell 57 = .ok (.goto (-42), 3) := by decide +kernel
theorem dX3_tell_60 : decode cX3_tell 60 = .ok (.aload_n 0, 1) := by decide +kernel
theorem dX3_tell_61 : decode cX3_tell 61 = .ok (.iconst 0, 1) := by decide +kernel
theorem dX3_tell_62 : decode cX3_tell 62 = .ok (.putfield 18, 3) := by decide +kernel
theorem dX3_tell_65 : decode cX3_tell 65 = .ok (.iload_n 3, 1) := by decide +kernel
theorem dX3_tell_66 : decode cX3_tell 66 = .ok (.ifCond .eq 7, 3) := by decide +kernel
theorem dX3_tell_69 : decode cX3_tell 69 = .ok (.iload_n 2, 1) := by decide +kernel
theorem dX3_tell_70 : decode cX3_tell 70 = .ok (.goto 10, 3) := by decide +kernel
theorem dX3_tell_73 : decode cX3_tell 73 = .ok (.bipush (-10), 2) := by decide +kernel
theorem dX3_tell_75 : decode cX3_tell 75 = .ok (.aload_n 0, 1) := by decide +kernel
theorem dX3_tell_76 : decode cX3_tell 76 = .ok (.getfield 49, 3) := by decide +kernel
theorem dX3_tell_79 : decode cX3_tell 79 = .ok (.isub, 1) := by decide +kernel
theorem dX3_tell_80 : decode cX3_tell 80 = .ok (.ireturn, 1) := by decide +kernel
theorem dX3_begin_0 : decode cX3_begin 0 = .ok (.aload_n 0, 1) := by decide +kernel
theorem dX3_begin_1 : decode cX3_begin 1 = .ok (.iconst 0, 1) := by decide +kernel
theorem dX3_begin_2 : decode cX3_begin 2 = .ok (.putfield 52, 3) := by decide +kernel
theorem dX3_begin_5 : decode cX3_begin 5 = .ok (.aload_n 0, 1) := by decide +kernel
theorem dX3_begin_6 : decode cX3_begin 6 = .ok (.iconst 0, 1) := by decide +kernel
theorem dX3_begin_7 : decode cX3_begin 7 = .ok (.putfield 49, 3) := by decide +kernel
theorem dX3_begin_10 : decode cX3_begin 10 = .ok (.aload_n 0, 1) := by decide +kernel
theorem dX3_begin_11 : decode cX3_begin 11 = .ok (.iconst 0, 1) := by decide +kernel
theorem dX3_begin_12 : decode cX3_begin 12 = .ok (.putfield 55, 3) := by decide +kernel
theorem dX3_begin_15 : decode cX3_begin 15 = .ok (.aload_n 0, 1) := by decide +kernel
theorem dX3_begin_16 : decode cX3_begin 16 = .ok (.iconst 0, 1) := by decide +kernel
theorem dX3_begin_17 : decode cX3_begin 17 = .ok (.putfield 58, 3) := by decide +kernel
theorem dX3_begin_20 : decode cX3_begin 20 = .ok (.aload_n 0, 1) := by decide +kernel
theorem dX3_begin_21 : decode cX3_begin 21 = .ok (.iconst 0, 1) := by decide +kernel
theorem dX3_begin_22 : decode cX3_begin 22 = .ok (.putfield 61, 3) := by decide +kernel
theorem dX3_begin_25 : decode cX3_begin 25 = .ok (.aload_n 0, 1) := by decide +kernel
theorem dX3_begin_26 : decode cX3_begin 26 = .ok (.iconst 0, 1) := by decide +kernel
theorem dX3_begin_27 : decode cX3_begin 27 = .ok (.putfield 65, 3) := by decide +kernel
theorem dX3_begin_30 : decode cX3_begin 30 = .ok (.return_, 1) := by decide +kernel
theorem dX3_failAt_0 : decode cX3_failAt 0 = .ok (.aload_n 0, 1) := by decide +kernel
theorem dX3_failAt_1 : decode cX3_failAt 1 = .ok (.iload_n 1, 1) := by decide +kernel
theorem dX3_failAt_2 : decode cX3_failAt 2 = .ok (.putfield 49, 3) := by decide +kernel
theorem dX3_failAt_5 : decode cX3_failAt 5 = .ok (.aload_n 0, 1) := by decide +kernel
theorem dX3_failAt_6 : decode cX3_failAt 6 = .ok (.iload_n 2, 1) := by decide +kernel
theorem dX3_failAt_7 : decode cX3_failAt 7 = .ok (.putfield 52, 3) := by decide +kernel
theorem dX3_failAt_10 : decode cX3_failAt 10 = .ok (.iconst 0, 1) := by decide +kernel
theorem dX3_failAt_11 : decode cX3_failAt 11 = .ok (.ireturn, 1) := by decide +kernel
theorem dX3_nextToken_0 : decode cX3_nextToken 0 = .ok (.aload_n 0, 1) := by decide +kernel
theorem dX3_nextToken_1 : decode cX3_nextToken 1 = .ok (.aload_n 0, 1) := by decide +kernel
theorem dX3_nextToken_2 : decode cX3_nextToken 2 = .ok (.iconst 4, 1) := by decide +kernel
theorem dX3_nextToken_3 : decode cX3_nextToken 3 = .ok (.aload_n 0, 1) := by decide +kernel
theorem dX3_nextToken_4 : decode cX3_nextToken 4 = .ok (.getfield 55, 3) := by decide +kernel
theorem dX3_nextToken_7 : decode cX3_nextToken 7 = .ok (.invokevirtual 68, 3) := by decide +kernel
theorem dX3_nextToken_10 : decode cX3_nextToken 10 = .ok (.putfield 55, 3) := by decide +kernel
theorem dX3_nextToken_13 : decode cX3_nextToken 13 = .ok (.aload_n 0, 1) := by decide +kernel
theorem dX3_nextToken_14 : decode cX3_nextToken 14 = .ok (.aload_n 0, 1) := by decide +kernel
theorem dX3_nextToken_15 : decode cX3_nextToken 15 = .ok (.getfield 55, 3) := by decide +kernel
theorem dX3_nextToken_18 : decode cX3_nextToken 18 = .ok (.putfield 72, 3) := by decide +kernel
theorem dX3_nextToken_21 : decode cX3_nextToken 21 = .ok (.aload_n 0, 1) := by decide +kernel
theorem dX3_nextToken_22 : decode cX3_nextToken 22 = .ok (.aload_n 0, 1) := by decide +kernel
theorem dX3_nextToken_23 : decode cX3_nextToken 23 = .ok (.getfield 55, 3) := by decide +kernel
theorem dX3_nextToken_26 : decode cX3_nextToken 26 = .ok (.aload_n 0, 1) := by decide +kernel
theorem dX3_nextToken_27 : decode cX3_nextToken 27 = .ok (.getfield 18, 3) := by decide +kernel
theorem dX3_nextToken_30 : decode cX3_nextToken 30 = .ok (.if_icmp .ge 15, 3) := by decide +kernel
theorem dX3_nextToken_33 : decode cX3_nextToken 33 = .ok (.aload_n 0, 1) := by decide +kernel
theorem dX3_nextToken_34 : decode cX3_nextToken 34 = .ok (.getfield 15, 3) := by decide +kernel
theorem dX3_nextToken_37 : decode cX3_nextToken 37 = .ok (.aload_n 0, 1) := by decide +kernel
theorem dX3_nextToken_38 : decode cX3_nextToken 38 = .ok (.getfield 55, 3) := by decide +kernel
theorem dX3_nextToken_41 : decode cX3_nextToken 41 = .ok (.iaload, 1) := by decide +kernel
theorem dX3_nextToken_42 : decode cX3_nextToken 42 = .ok (.goto 4, 3) := by decide +kernel
theorem dX3_nextToken_45 : decode cX3_nextToken 45 = .ok (.iconst 0, 1) := by decide +kernel
theorem dX3_nextToken_46 : decode cX3_nextToken 46 = .ok (.putfield 42, 3) := by decide +kernel
theorem dX3_nextToken_49 : decode cX3_nextToken 49 = .ok (.aload_n 0, 1) := by decide +kernel
theorem dX3_nextToken_50 : decode cX3_nextToken 50 = .ok (.getfield 42, 3) := by decide +kernel
theorem dX3_nextToken_53 : decode cX3_nextToken 53 = .ok (.tableswitch 120 0 3 #[118, 31, 46, 106], 31) := by decide +kernel
theorem dX3_nextToken_84 : decode cX3_nextToken 84 = .ok (.aload_n 0, 1) := by decide +kernel
theorem dX3_nextToken_85 : decode cX3_nextToken 85 = .ok (.aload_n 0, 1) := by decide +kernel
theorem dX3_nextToken_86 : decode cX3_nextToken 86 = .ok (.iconst 1, 1) := by decide +kernel
theorem dX3_nextToken_87 : decode cX3_nextToken 87 = .ok (.aload_n 0, 1) := by decide +kernel
theorem dX3_nextToken_88 : decode cX3_nextToken 88 = .ok (.getfield 55, 3) := by decide +kernel
theorem dX3_nextToken_91 : decode cX3_nextToken 91 = .ok (.invokevirtual 68, 3) := by decide +kernel
theorem dX3_nextToken_94 : decode cX3_nextToken 94 = .ok (.putfield 55, 3) := by decide +kernel
theorem dX3_nextToken_97 : decode cX3_nextToken 97 = .ok (.iconst 1, 1) := by decide +kernel
theorem dX3_nextToken_98 : decode cX3_nextToken 98 = .ok (.ireturn, 1) := by decide +kernel
theorem dX3_nextToken_99 : decode cX3_nextToken 99 = .ok (.aload_n 0, 1) := by decide +kernel
theorem dX3_nextToken_100 : decode cX3_nextToken 100 = .ok (.aload_n 0, 1) := by decide +kernel
theorem dX3_nextToken_101 : decode cX3_nextToken 101 = .ok (.iconst 2, 1) := by decide +kernel
theorem dX3_nextToken_102 : decode cX3_nextToken 102 = .ok (.aload_n 0, 1) := by decide +kernel
theorem dX3_nextToken_103 : decode cX3_nextToken 103 = .ok (.getfield 55, 3) := by decide +kernel
theorem dX3_nextToken_106 : decode cX3_nextToken 106 = .ok (.invokevirtual 68, 3) := by decide +kernel
theorem dX3_nextToken_109 : decode cX3_nextToken 109 = .ok (.putfield 55, 3) := by decide +kernel
theorem dX3_nextToken_112 : decode cX3_nextToken 112 = .ok (.aload_n 0, 1) := by decide +kernel
theorem dX3_nextToken_113 : decode cX3_nextToken 113 = .ok (.aload_n 0, 1) := by decide +kernel
theorem dX3_nextToken_114 : decode cX3_nextToken 114 = .ok (.aload_n 0, 1) := by decide +kernel
theorem dX3_nextToken_115 : decode cX3_nextToken 115 = .ok (.getfield 72, 3) := by decide +kernel
theorem dX3_nextToken_118 : decode cX3_nextToken 118 = .ok (.aload_n 0, 1) := by decide +kernel
theorem dX3_nextToken_119 : decode cX3_nextToken 119 = .ok (.getfield 55, 3) := by decide +kernel
theorem dX3_nextToken_122 : decode cX3_nextToken 122 = .ok (.invokevirtual 75, 3) := by decide +kernel
theorem dX3_nextToken_125 : decode cX3_nextToken 125 = .ok (.putfield 78, 3) := by decide +kernel
theorem dX3_nextToken_128 : decode cX3_nextToken 128 = .ok (.aload_n 0, 1) := by decide +kernel
theorem dX3_nextToken_129 : decode cX3_nextToken 129 = .ok (.getfield 55, 3) := by decide +kernel
theorem dX3_nextToken_132 : decode cX3_nextToken 132 = .ok (.aload_n 0, 1) := by decide +kernel
theorem dX3_nextToken_133 : decode cX3_nextToken 133 = .ok (.getfield 72, 3) := by decide +kernel
theorem dX3_nextToken_136 : decode cX3_nextToken 136 = .ok (.isub, 1) := by decide +kernel
theorem dX3_nextToken_137 : decode cX3_nextToken 137 = .ok (.iconst 2, 1) := by decide +kernel
theorem dX3_nextToken_138 : decode cX3_nextToken 138 = .ok (.if_icmp .le 15, 3) := by decide +kernel
theorem dX3_nextToken_141 : decode cX3_nextToken 141 = .ok (.aload_n 0, 1) := by decide +kernel
theorem dX3_nextToken_142 : decode cX3_nextToken 142 = .ok (.aload_n 0, 1) := by decide +kernel
theorem dX3_nextToken_143 : decode cX3_nextToken 143 = .ok (.getfield 72, 3) := by decide +kernel
theorem dX3_nextToken_146 : decode cX3_nextToken 146 = .ok (.iconst 1, 1) := by decide +kernel
theorem dX3_nextToken_147 : decode cX3_nextToken 147 = .ok (.invokevirtual 81, 3) := by decide +kernel
theorem dX3_nextToken_150 : decode cX3_nextToken 150 = .ok (.ifCond .eq 7, 3) := by decide +kernel
theorem dX3_nextToken_153 : decode cX3_nextToken 153 = .ok (.iconst 1, 1) := by decide +kernel
theorem dX3_nextToken_154 : decode cX3_nextToken 154 = .ok (.goto 4, 3) := by decide +kernel
theorem dX3_nextToken_157 : decode cX3_nextToken 157 = .ok (.iconst 0, 1) := by decide +kernel
theorem dX3_nextToken_158 : decode cX3_nextToken 158 = .ok (.ireturn, 1) := by decide +kernel
theorem dX3_nextToken_159 : decode cX3_nextToken 159 = .ok (.aload_n 0, 1) := by decide +kernel
theorem dX3_nextToken_160 : decode cX3_nextToken 160 = .ok (.dup, 1) := by decide +kernel
theorem dX3_nextToken_161 : decode cX3_nextToken 161 = .ok (.getfield 55, 3) := by decide +kernel
theorem dX3_nextToken_164 : decode cX3_nextToken 164 = .ok (.iconst 1, 1) := by decide +kernel
theorem dX3_nextToken_165 : decode cX3_nextToken 165 = .ok (.iadd, 1) := by decide +kernel
theorem dX3_nextToken_166 : decode cX3_nextToken 166 = .ok (.putfield 55, 3) := by decide +kernel
theorem dX3_nextToken_169 : decode cX3_nextToken 169 = .ok (.iconst 1, 1) := by decide +kernel
theorem dX3_nextToken_170 : decode cX3_nextToken 170 = .ok (.ireturn, 1) := by decide +kernel
theorem dX3_nextToken_171 : decode cX3_nextToken 171 = .ok (.iconst 1, 1) := by decide +kernel
theorem dX3_nextToken_172 : decode cX3_nextToken 172 = .ok (.ireturn, 1) := by decide +kernel
theorem dX3_nextToken_173 : decode cX3_nextToken 173 = .ok (.aload_n 0, 1) := by decide +kernel
theorem dX3_nextToken_174 : decode cX3_nextToken 174 = .ok (.aload_n 0, 1) := by decide +kernel
theorem dX3_nextToken_175 : decode cX3_nextToken 175 = .ok (.getfield 72, 3) := by decide +kernel
theorem dX3_nextToken_178 : decode cX3_nextToken 178 = .ok (.iconst 1, 1) := by decide +kernel
theorem dX3_nextToken_179 : decode cX3_nextToken 179 = .ok (.invokevirtual 81, 3) := by decide +kernel
theorem dX3_nextToken_182 : decode cX3_nextToken 182 = .ok (.ireturn, 1) := by decide +kernel
theorem dX3_valueOf_0 : decode cX3_valueOf 0 = .ok (.iconst 0, 1) := by decide +kernel
theorem dX3_valueOf_1 : decode cX3_valueOf 1 = .ok (.istore_n 3, 1) := by decide +kernel
theorem dX3_valueOf_2 : decode cX3_valueOf 2 = .ok (.iload_n 1, 1) := by decide +kernel
theorem dX3_valueOf_3 : decode cX3_valueOf 3 = .ok (.istore 4, 2) := by decide +kernel
theorem dX3_valueOf_5 : decode cX3_valueOf 5 = .ok (.iload 4, 2) := by decide +kernel
theorem dX3_valueOf_7 : decode cX3_valueOf 7 = .ok (.iload_n 2, 1) := by decide +kernel
theorem dX3_valueOf_8 : decode cX3_valueOf 8 = .ok (.if_icmp .ge 25, 3) := by decide +kernel
theorem dX3_valueOf_11 : decode cX3_valueOf 11 = .ok (.bipush 10, 2) := by decide +kernel
theorem dX3_valueOf_13 : decode cX3_valueOf 13 = .ok (.iload_n 3, 1) := by decide +kernel
theorem dX3_valueOf_14 : decode cX3_valueOf 14 = .ok (.imul, 1) := by decide +kernel
theorem dX3_valueOf_15 : decode cX3_valueOf 15 = .ok (.aload_n 0, 1) := by decide +kernel
theorem dX3_valueOf_16 : decode cX3_valueOf 16 = .ok (.getfield 9, 3) := by decide +kernel
theorem dX3_valueOf_19 : decode cX3_valueOf 19 = .ok (.iload 4, 2) := by decide +kernel
theorem dX3_valueOf_21 : decode cX3_valueOf 21 = .ok (.iaload, 1) := by decide +kernel
theorem dX3_valueOf_22 : decode cX3_valueOf 22 = .ok (.iadd, 1) := by decide +kernel
theorem dX3_valueOf_23 : decode cX3_valueOf 23 = .ok (.bipush 48, 2) := by decide +kernel
theorem dX3_valueOf_25 : decode cX3_valueOf 25 = .ok (.isub, 1) := by decide +kernel
theorem dX3_valueOf_26 : decode cX3_valueOf 26 = .ok (.istore_n 3, 1) := by decide +kernel
theorem dX3_valueOf_27 : decode cX3_valueOf 27 = .ok (.iinc 4 1, 3) := by decide +kernel
theorem dX3_valueOf_30 : decode cX3_valueOf 30 = .ok (.goto (-25), 3) := by decide +kernel
theorem dX3_valueOf_33 : decode cX3_valueOf 33 = .ok (.iload_n 3, 1) := by decide +kernel
theorem dX3_valueOf_34 : decode cX3_valueOf 34 = .ok (.ireturn, 1) := by decide +kernel
theorem dX3_endOfRun_0 : decode cX3_endOfRun 0 = .ok (.iload_n 2, 1) := by decide +kernel
theorem dX3_endOfRun_1 : decode cX3_endOfRun 1 = .ok (.istore_n 3, 1) := by decide +kernel
theorem dX3_endOfRun_2 : decode cX3_endOfRun 2 = .ok (.iload_n 3, 1) := by decide +kernel
theorem dX3_endOfRun_3 : decode cX3_endOfRun 3 = .ok (.aload_n 0, 1) := by decide +kernel
theorem dX3_endOfRun_4 : decode cX3_endOfRun 4 = .ok (.getfield 18, 3) := by decide +kernel
theorem dX3_endOfRun_7 : decode cX3_endOfRun 7 = .ok (.if_icmp .ge 19, 3) := by decide +kernel
theorem dX3_endOfRun_10 : decode cX3_endOfRun 10 = .ok (.aload_n 0, 1) := by decide +kernel
theorem dX3_endOfRun_11 : decode cX3_endOfRun 11 = .ok (.getfield 15, 3) := by decide +kernel
theorem dX3_endOfRun_14 : decode cX3_endOfRun 14 = .ok (.iload_n 3, 1) := by decide +kernel
theorem dX3_endOfRun_15 : decode cX3_endOfRun 15 = .ok (.iaload, 1) := by decide +kernel
theorem dX3_endOfRun_16 : decode cX3_endOfRun 16 = .ok (.iload_n 1, 1) := by decide +kernel
theorem dX3_endOfRun_17 : decode cX3_endOfRun 17 = .ok (.if_icmp .ne 9, 3) := by decide +kernel
theorem dX3_endOfRun_20 : decode cX3_endOfRun 20 = .ok (.iinc 3 1, 3) := by decide +kernel
theorem dX3_endOfRun_23 : decode cX3_endOfRun 23 = .ok (.goto (-21), 3) := by decide +kernel
theorem dX3_endOfRun_26 : decode cX3_endOfRun 26 = .ok (.iload_n 3, 1) := by decide +kernel
theorem dX3_endOfRun_27 : decode cX3_endOfRun 27 = .ok (.ireturn, 1) := by decide +kernel
theorem dX3_sortOf_0 : decode cX3_sortOf 0 = .ok (.iload_n 0, 1) := by decide +kernel
theorem dX3_sortOf_1 : decode cX3_sortOf 1 = .ok (.bipush 97, 2) := by decide +kernel
theorem dX3_sortOf_3 : decode cX3_sortOf 3 = .ok (.bipush 122, 2) := by decide +kernel
theorem dX3_sortOf_5 : decode cX3_sortOf 5 = .ok (.invokestatic 26, 3) := by decide +kernel
theorem dX3_sortOf_8 : decode cX3_sortOf 8 = .ok (.ifCond .eq 5, 3) := by decide +kernel
theorem dX3_sortOf_11 : decode cX3_sortOf 11 = .ok (.iconst 1, 1) := by decide +kernel
theorem dX3_sortOf_12 : decode cX3_sortOf 12 = .ok (.ireturn, 1) := by decide +kernel
theorem dX3_sortOf_13 : decode cX3_sortOf 13 = .ok (.iload_n 0, 1) := by decide +kernel
theorem dX3_sortOf_14 : decode cX3_sortOf 14 = .ok (.bipush 48, 2) := by decide +kernel
theorem dX3_sortOf_16 : decode cX3_sortOf 16 = .ok (.bipush 57, 2) := by decide +kernel
theorem dX3_sortOf_18 : decode cX3_sortOf 18 = .ok (.invokestatic 26, 3) := by decide +kernel
theorem dX3_sortOf_21 : decode cX3_sortOf 21 = .ok (.ifCond .eq 5, 3) := by decide +kernel
theorem dX3_sortOf_24 : decode cX3_sortOf 24 = .ok (.iconst 2, 1) := by decide +kernel
theorem dX3_sortOf_25 : decode cX3_sortOf 25 = .ok (.ireturn, 1) := by decide +kernel
theorem dX3_sortOf_26 : decode cX3_sortOf 26 = .ok (.iload_n 0, 1) := by decide +kernel
theorem dX3_sortOf_27 : decode cX3_sortOf 27 = .ok (.bipush 59, 2) := by decide +kernel
theorem dX3_sortOf_29 : decode cX3_sortOf 29 = .ok (.if_icmp .ne 7, 3) := by decide +kernel
theorem dX3_sortOf_32 : decode cX3_sortOf 32 = .ok (.iconst 3, 1) := by decide +kernel
theorem dX3_sortOf_33 : decode cX3_sortOf 33 = .ok (.goto 14, 3) := by decide +kernel
theorem dX3_sortOf_36 : decode cX3_sortOf 36 = .ok (.iload_n 0, 1) := by decide +kernel
theorem dX3_sortOf_37 : decode cX3_sortOf 37 = .ok (.bipush 32, 2) := by decide +kernel
theorem dX3_sortOf_39 : decode cX3_sortOf 39 = .ok (.if_icmp .ne 7, 3) := by decide +kernel
theorem dX3_sortOf_42 : decode cX3_sortOf 42 = .ok (.iconst 4, 1) := by decide +kernel
theorem dX3_sortOf_43 : decode cX3_sortOf 43 = .ok (.goto 4, 3) := by decide +kernel
theorem dX3_sortOf_46 : decode cX3_sortOf 46 = .ok (.iconst 5, 1) := by decide +kernel
theorem dX3_sortOf_47 : decode cX3_sortOf 47 = .ok (.ireturn, 1) := by decide +kernel
theorem dX3_readLine_0 : decode cX3_readLine 0 = .ok (.aload_n 0, 1) := by decide +kernel
theorem dX3_readLine_1 : decode cX3_readLine 1 = .ok (.getfield 42, 3) := by decide +kernel
theorem dX3_readLine_4 : decode cX3_readLine 4 = .ok (.iconst 1, 1) := by decide +kernel
theorem dX3_readLine_5 : decode cX3_readLine 5 = .ok (.if_icmp .ne 10, 3) := by decide +kernel
theorem dX3_readLine_8 : decode cX3_readLine 8 = .ok (.aload_n 0, 1) := by decide +kernel
theorem dX3_readLine_9 : decode cX3_readLine 9 = .ok (.invokevirtual 85, 3) := by decide +kernel
theorem dX3_readLine_12 : decode cX3_readLine 12 = .ok (.goto 5, 3) := by decide +kernel
theorem dX3_readLine_15 : decode cX3_readLine 15 = .ok (.bipush 7, 2) := by decide +kernel
theorem dX3_readLine_17 : decode cX3_readLine 17 = .ok (.istore_n 2, 1) := by decide +kernel
theorem dX3_readLine_18 : decode cX3_readLine 18 = .ok (.iload_n 2, 1) := by decide +kernel
theorem dX3_readLine_19 : decode cX3_readLine 19 = .ok (.tableswitch 66 0 6 #[41, 41, 41, 41, 48, 54, 60], 41) := by decide +kernel
theorem dX3_readLine_60 : decode cX3_readLine 60 = .ok (.aload_n 0, 1) := by decide +kernel
theorem dX3_readLine_61 : decode cX3_readLine 61 = .ok (.aload_n 1, 1) := by decide +kernel
theorem dX3_readLine_62 : decode cX3_readLine 62 = .ok (.iload_n 2, 1) := by decide +kernel
theorem dX3_readLine_63 : decode cX3_readLine 63 = .ok (.invokevirtual 89, 3) := by decide +kernel
theorem dX3_readLine_66 : decode cX3_readLine 66 = .ok (.ireturn, 1) := by decide +kernel
theorem dX3_readLine_67 : decode cX3_readLine 67 = .ok (.aload_n 0, 1) := by decide +kernel
theorem dX3_readLine_68 : decode cX3_readLine 68 = .ok (.aload_n 1, 1) := by decide +kernel
theorem dX3_readLine_69 : decode cX3_readLine 69 = .ok (.invokevirtual 93, 3) := by decide +kernel
theorem dX3_readLine_72 : decode cX3_readLine 72 = .ok (.ireturn, 1) := by decide +kernel
theorem dX3_readLine_73 : decode cX3_readLine 73 = .ok (.aload_n 0, 1) := by decide +kernel
theorem dX3_readLine_74 : decode cX3_readLine 74 = .ok (.aload_n 1, 1) := by decide +kernel
theorem dX3_readLine_75 : decode cX3_readLine 75 = .ok (.invokevirtual 96, 3) := by decide +kernel
theorem dX3_readLine_78 : decode cX3_readLine 78 = .ok (.ireturn, 1) := by decide +kernel
theorem dX3_readLine_79 : decode cX3_readLine 79 = .ok (.aload_n 0, 1) := by decide +kernel
theorem dX3_readLine_80 : decode cX3_readLine 80 = .ok (.aload_n 1, 1) := by decide +kernel
theorem dX3_readLine_81 : decode cX3_readLine 81 = .ok (.invokevirtual 99, 3) := by decide +kernel
theorem dX3_readLine_84 : decode cX3_readLine 84 = .ok (.ireturn, 1) := by decide +kernel
theorem dX3_readLine_85 : decode cX3_readLine 85 = .ok (.aload_n 0, 1) := by decide +kernel
theorem dX3_readLine_86 : decode cX3_readLine 86 = .ok (.aload_n 0, 1) := by decide +kernel
theorem dX3_readLine_87 : decode cX3_readLine 87 = .ok (.getfield 72, 3) := by decide +kernel
theorem dX3_readLine_90 : decode cX3_readLine 90 = .ok (.iconst 2, 1) := by decide +kernel
theorem dX3_readLine_91 : decode cX3_readLine 91 = .ok (.invokevirtual 81, 3) := by decide +kernel
theorem dX3_readLine_94 : decode cX3_readLine 94 = .ok (.ireturn, 1) := by decide +kernel
theorem dX3_lineOfName_0 : decode cX3_lineOfName 0 = .ok (.iconst 0, 1) := by decide +kernel
theorem dX3_lineOfName_1 : decode cX3_lineOfName 1 = .ok (.istore_n 1, 1) := by decide +kernel
theorem dX3_lineOfName_2 : decode cX3_lineOfName 2 = .ok (.iload_n 1, 1) := by decide +kernel
theorem dX3_lineOfName_3 : decode cX3_lineOfName 3 = .ok (.bipush 7, 2) := by decide +kernel
theorem dX3_lineOfName_5 : decode cX3_lineOfName 5 = .ok (.if_icmp .ge 22, 3) := by decide +kernel
theorem dX3_lineOfName_8 : decode cX3_lineOfName 8 = .ok (.aload_n 0, 1) := by decide +kernel
theorem dX3_lineOfName_9 : decode cX3_lineOfName 9 = .ok (.iload_n 1, 1) := by decide +kernel
theorem dX3_lineOfName_10 : decode cX3_lineOfName 10 = .ok (.invokestatic 102, 3) := by decide +kernel
theorem dX3_lineOfName_13 : decode cX3_lineOfName 13 = .ok (.invokevirtual 106, 3) := by decide +kernel
theorem dX3_lineOfName_16 : decode cX3_lineOfName 16 = .ok (.ifCond .eq 5, 3) := by decide +kernel
theorem dX3_lineOfName_19 : decode cX3_lineOfName 19 = .ok (.iload_n 1, 1) := by decide +kernel
theorem dX3_lineOfName_20 : decode cX3_lineOfName 20 = .ok (.ireturn, 1) := by decide +kernel
theorem dX3_lineOfName_21 : decode cX3_lineOfName 21 = .ok (.iinc 1 1, 3) := by decide +kernel
theorem dX3_lineOfName_24 : decode cX3_lineOfName 24 = .ok (.goto (-22), 3) := by decide +kernel
theorem dX3_lineOfName_27 : decode cX3_lineOfName 27 = .ok (.bipush 7, 2) := by decide +kernel
theorem dX3_lineOfName_29 : decode cX3_lineOfName 29 = .ok (.ireturn, 1) := by decide +kernel
theorem dX3_wordOf_0 : decode cX3_wordOf 0 = .ok (.iload_n 0, 1) := by decide +kernel
theorem dX3_wordOf_1 : decode cX3_wordOf 1 = .ok (.tableswitch 57 0 5 #[39, 42, 45, 48, 51, 54], 39) := by decide +kernel
theorem dX3_wordOf_40 : decode cX3_wordOf 40 = .ok (.ldc 110, 2) := by decide +kernel
theorem dX3_wordOf_42 : decode cX3_wordOf 42 = .ok (.areturn, 1) := by decide +kernel
theorem dX3_wordOf_43 : decode cX3_wordOf 43 = .ok (.ldc 112, 2) := by decide +kernel
theorem dX3_wordOf_45 : decode cX3_wordOf 45 = .ok (.areturn, 1) := by decide +kernel
theorem dX3_wordOf_46 : decode cX3_wordOf 46 = .ok (.ldc 114, 2) := by decide +kernel
theorem dX3_wordOf_48 : decode cX3_wordOf 48 = .ok (.areturn, 1) := by decide +kernel
theorem dX3_wordOf_49 : decode cX3_wordOf 49 = .ok (.ldc 116, 2) := by decide +kernel
theorem dX3_wordOf_51 : decode cX3_wordOf 51 = .ok (.areturn, 1) := by decide +kernel
theorem dX3_wordOf_52 : decode cX3_wordOf 52 = .ok (.ldc 118, 2) := by decide +kernel
theorem dX3_wordOf_54 : decode cX3_wordOf 54 = .ok (.areturn, 1) := by decide +kernel
theorem dX3_wordOf_55 : decode cX3_wordOf 55 = .ok (.ldc 120, 2) := by decide +kernel
theorem dX3_wordOf_57 : decode cX3_wordOf 57 = .ok (.areturn, 1) := by decide +kernel
theorem dX3_wordOf_58 : decode cX3_wordOf 58 = .ok (.ldc 122, 2) := by decide +kernel
theorem dX3_wordOf_60 : decode cX3_wordOf 60 = .ok (.areturn, 1) := by decide +kernel
theorem dX3_nameIs_0 : decode cX3_nameIs 0 = .ok (.aload_n 0, 1) := by decide +kernel
theorem dX3_nameIs_1 : decode cX3_nameIs 1 = .ok (.getfield 55, 3) := by decide +kernel
theorem dX3_nameIs_4 : decode cX3_nameIs 4 = .ok (.aload_n 0, 1) := by decide +kernel
theorem dX3_nameIs_5 : decode cX3_nameIs 5 = .ok (.getfield 72, 3) := by decide +kernel
theorem dX3_nameIs_8 : decode cX3_nameIs 8 = .ok (.isub, 1) := by decide +kernel
theorem dX3_nameIs_9 : decode cX3_nameIs 9 = .ok (.aload_n 1, 1) := by decide +kernel
theorem dX3_nameIs_10 : decode cX3_nameIs 10 = .ok (.invokevirtual 124, 3) := by decide +kernel
theorem dX3_nameIs_13 : decode cX3_nameIs 13 = .ok (.if_icmp .eq 5, 3) := by decide +kernel
theorem dX3_nameIs_16 : decode cX3_nameIs 16 = .ok (.iconst 0, 1) := by decide +kernel
theorem dX3_nameIs_17 : decode cX3_nameIs 17 = .ok (.ireturn, 1) := by decide +kernel
theorem dX3_nameIs_18 : decode cX3_nameIs 18 = .ok (.iconst 0, 1) := by decide +kernel
theorem dX3_nameIs_19 : decode cX3_nameIs 19 = .ok (.istore_n 2, 1) := by decide +kernel
theorem dX3_nameIs_20 : decode cX3_nameIs 20 = .ok (.iload_n 2, 1) := by decide +kernel
theorem dX3_nameIs_21 : decode cX3_nameIs 21 = .ok (.aload_n 1, 1) := by decide +kernel
theorem dX3_nameIs_22 : decode cX3_nameIs 22 = .ok (.invokevirtual 124, 3) := by decide +kernel
theorem dX3_nameIs_25 : decode cX3_nameIs 25 = .ok (.if_icmp .ge 30, 3) := by decide +kernel
theorem dX3_nameIs_28 : decode cX3_nameIs 28 = .ok (.aload_n 0, 1) := by decide +kernel
theorem dX3_nameIs_29 : decode cX3_nameIs 29 = .ok (.getfield 9, 3) := by decide +kernel
theorem dX3_nameIs_32 : decode cX3_nameIs 32 = .ok (.aload_n 0, 1) := by decide +kernel
theorem dX3_nameIs_33 : decode cX3_nameIs 33 = .ok (.getfield 72, 3) := by decide +kernel
theorem dX3_nameIs_36 : decode cX3_nameIs 36 = .ok (.iload_n 2, 1) := by decide +kernel
theorem dX3_nameIs_37 : decode cX3_nameIs 37 = .ok (.iadd, 1) := by decide +kernel
theorem dX3_nameIs_38 : decode cX3_nameIs 38 = .ok (.iaload, 1) := by decide +kernel
theorem dX3_nameIs_39 : decode cX3_nameIs 39 = .ok (.aload_n 1, 1) := by decide +kernel
theorem dX3_nameIs_40 : decode cX3_nameIs 40 = .ok (.iload_n 2, 1) := by decide +kernel
theorem dX3_nameIs_41 : decode cX3_nameIs 41 = .ok (.invokevirtual 128, 3) := by decide +kernel
theorem dX3_nameIs_44 : decode cX3_nameIs 44 = .ok (.if_icmp .eq 5, 3) := by decide +kernel
theorem dX3_nameIs_47 : decode cX3_nameIs 47 = .ok (.iconst 0, 1) := by decide +kernel
theorem dX3_nameIs_48 : decode cX3_nameIs 48 = .ok (.ireturn, 1) := by decide +kernel
theorem dX3_nameIs_49 : decode cX3_nameIs 49 = .ok (.iinc 2 1, 3) := by decide +kernel
theorem dX3_nameIs_52 : decode cX3_nameIs 52 = .ok (.goto (-32), 3) := by decide +kernel
theorem dX3_nameIs_55 : decode cX3_nameIs 55 = .ok (.iconst 1, 1) := by decide +kernel
theorem dX3_nameIs_56 : decode cX3_nameIs 56 = .ok (.ireturn, 1) := by decide +kernel
theorem dX3_readThing_0 : decode cX3_readThing 0 = .ok (.aload_n 1, 1) := by decide +kernel
theorem dX3_readThing_1 : decode cX3_readThing 1 = .ok (.getfield 132, 3) := by decide +kernel
theorem dX3_readThing_4 : decode cX3_readThing 4 = .ok (.bipush 6, 2) := by decide +kernel
theorem dX3_readThing_6 : decode cX3_readThing 6 = .ok (.if_icmp .lt 13, 3) := by decide +kernel
theorem dX3_readThing_9 : decode cX3_readThing 9 = .ok (.aload_n 0, 1) := by decide +kernel
theorem dX3_readThing_10 : decode cX3_readThing 10 = .ok (.aload_n 0, 1) := by decide +kernel
theorem dX3_readThing_11 : decode cX3_readThing 11 = .ok (.getfield 72, 3) := by decide +kernel
theorem dX3_readThing_14 : decode cX3_readThing 14 = .ok (.iconst 5, 1) := by decide +kernel
theorem dX3_readThing_15 : decode cX3_readThing 15 = .ok (.invokevirtual 81, 3) := by decide +kernel
theorem dX3_readThing_18 : decode cX3_readThing 18 = .ok (.ireturn, 1) := by decide +kernel
theorem dX3_readThing_19 : decode cX3_readThing 19 = .ok (.aload_n 0, 1) := by decide +kernel
theorem dX3_readThing_20 : decode cX3_readThing 20 = .ok (.iconst 1, 1) := by decide +kernel
theorem dX3_readThing_21 : decode cX3_readThing 21 = .ok (.invokestatic 135, 3) := by decide +kernel
theorem dX3_readThing_24 : decode cX3_readThing 24 = .ok (.iconst 1, 1) := by decide +kernel
theorem dX3_readThing_25 : decode cX3_readThing 25 = .ok (.invokestatic 138, 3) := by decide +kernel
theorem dX3_readThing_28 : decode cX3_readThing 28 = .ok (.invokevirtual 141, 3) := by decide +kernel
theorem dX3_readThing_31 : decode cX3_readThing 31 = .ok (.ifCond .ne 5, 3) := by decide +kernel
theorem dX3_readThing_34 : decode cX3_readThing 34 = .ok (.iconst 0, 1) := by decide +kernel
theorem dX3_readThing_35 : decode cX3_readThing 35 = .ok (.ireturn, 1) := by decide +kernel
theorem dX3_readThing_36 : decode cX3_readThing 36 = .ok (.aload_n 0, 1) := by decide +kernel
theorem dX3_readThing_37 : decode cX3_readThing 37 = .ok (.getfield 78, 3) := by decide +kernel
theorem dX3_readThing_40 : decode cX3_readThing 40 = .ok (.istore_n 3, 1) := by decide +kernel
theorem dX3_readThing_41 : decode cX3_readThing 41 = .ok (.aload_n 0, 1) := by decide +kernel
theorem dX3_readThing_42 : decode cX3_readThing 42 = .ok (.iconst 2, 1) := by decide +kernel
theorem dX3_readThing_43 : decode cX3_readThing 43 = .ok (.invokestatic 135, 3) := by decide +kernel
theorem dX3_readThing_46 : decode cX3_readThing 46 = .ok (.iconst 2, 1) := by decide +kernel
theorem dX3_readThing_47 : decode cX3_readThing 47 = .ok (.invokestatic 138, 3) := by decide +kernel
theorem dX3_readThing_50 : decode cX3_readThing 50 = .ok (.invokevirtual 141, 3) := by decide +kernel
theorem dX3_readThing_53 : decode cX3_readThing 53 = .ok (.ifCond .eq 27, 3) := by decide +kernel
theorem dX3_readThing_56 : decode cX3_readThing 56 = .ok (.aload_n 1, 1) := by decide +kernel
theorem dX3_readThing_57 : decode cX3_readThing 57 = .ok (.iload_n 2, 1) := by decide +kernel
theorem dX3_readThing_58 : decode cX3_readThing 58 = .ok (.iload_n 3, 1) := by decide +kernel
theorem dX3_readThing_59 : decode cX3_readThing 59 = .ok (.aload_n 0, 1) := by decide +kernel
theorem dX3_readThing_60 : decode cX3_readThing 60 = .ok (.getfield 78, 3) := by decide +kernel
theorem dX3_readThing_63 : decode cX3_readThing 63 = .ok (.invokevirtual 144, 3) := by decide +kernel
theorem dX3_readThing_66 : decode cX3_readThing 66 = .ok (.ifCond .eq 14, 3) := by decide +kernel
theorem dX3_readThing_69 : decode cX3_readThing 69 = .ok (.aload_n 0, 1) := by decide +kernel
theorem dX3_readThing_70 : decode cX3_readThing 70 = .ok (.invokevirtual 147, 3) := by decide +kernel
theorem dX3_readThing_73 : decode cX3_readThing 73 = .ok (.ifCond .eq 7, 3) := by decide +kernel
theorem dX3_readThing_76 : decode cX3_readThing 76 = .ok (.iconst 1, 1) := by decide +kernel
theorem dX3_readThing_77 : decode cX3_readThing 77 = .ok (.goto 4, 3) := by decide +kernel
theorem dX3_readThing_80 : decode cX3_readThing 80 = .ok (.iconst 0, 1) := by decide +kernel
theorem dX3_readThing_81 : decode cX3_readThing 81 = .ok (.ireturn, 1) := by decide +kernel
theorem dX3_readWind_0 : decode cX3_readWind 0 = .ok (.aload_n 0, 1) := by decide +kernel
theorem dX3_readWind_1 : decode cX3_readWind 1 = .ok (.iconst 0, 1) := by decide +kernel
theorem dX3_readWind_2 : decode cX3_readWind 2 = .ok (.iconst 4, 1) := by decide +kernel
theorem dX3_readWind_3 : decode cX3_readWind 3 = .ok (.invokevirtual 141, 3) := by decide +kernel
theorem dX3_readWind_6 : decode cX3_readWind 6 = .ok (.ifCond .ne 5, 3) := by decide +kernel
theorem dX3_readWind_9 : decode cX3_readWind 9 = .ok (.iconst 0, 1) := by decide +kernel
theorem dX3_readWind_10 : decode cX3_readWind 10 = .ok (.ireturn, 1) := by decide +kernel
theorem dX3_readWind_11 : decode cX3_readWind 11 = .ok (.aload_n 0, 1) := by decide +kernel
theorem dX3_readWind_12 : decode cX3_readWind 12 = .ok (.getfield 78, 3) := by decide +kernel
theorem dX3_readWind_15 : decode cX3_readWind 15 = .ok (.istore_n 2, 1) := by decide +kernel
theorem dX3_readWind_16 : decode cX3_readWind 16 = .ok (.aload_n 0, 1) := by decide +kernel
theorem dX3_readWind_17 : decode cX3_readWind 17 = .ok (.getfield 58, 3) := by decide +kernel
theorem dX3_readWind_20 : decode cX3_readWind 20 = .ok (.iload_n 2, 1) := by decide +kernel
theorem dX3_readWind_21 : decode cX3_readWind 21 = .ok (.ishr, 1) := by decide +kernel
theorem dX3_readWind_22 : decode cX3_readWind 22 = .ok (.iconst 1, 1) := by decide +kernel
theorem dX3_readWind_23 : decode cX3_readWind 23 = .ok (.iand, 1) := by decide +kernel
theorem dX3_readWind_24 : decode cX3_readWind 24 = .ok (.iconst 1, 1) := by decide +kernel
theorem dX3_readWind_25 : decode cX3_readWind 25 = .ok (.if_icmp .ne 13, 3) := by decide +kernel
theorem dX3_readWind_28 : decode cX3_readWind 28 = .ok (.aload_n 0, 1) := by decide +kernel
theorem dX3_readWind_29 : decode cX3_readWind 29 = .ok (.aload_n 0, 1) := by decide +kernel
theorem dX3_readWind_30 : decode cX3_readWind 30 = .ok (.getfield 72, 3) := by decide +kernel
theorem dX3_readWind_33 : decode cX3_readWind 33 = .ok (.iconst 4, 1) := by decide +kernel
theorem dX3_readWind_34 : decode cX3_readWind 34 = .ok (.invokevirtual 81, 3) := by decide +kernel
theorem dX3_readWind_37 : decode cX3_readWind 37 = .ok (.ireturn, 1) := by decide +kernel
theorem dX3_readWind_38 : decode cX3_readWind 38 = .ok (.aload_n 0, 1) := by decide +kernel
theorem dX3_readWind_39 : decode cX3_readWind 39 = .ok (.dup, 1) := by decide +kernel
theorem dX3_readWind_40 : decode cX3_readWind 40 = .ok (.getfield 58, 3) := by decide +kernel
theorem dX3_readWind_43 : decode cX3_readWind 43 = .ok (.iconst 1, 1) := by decide +kernel
theorem dX3_readWind_44 : decode cX3_readWind 44 = .ok (.iload_n 2, 1) := by decide +kernel
theorem dX3_readWind_45 : decode cX3_readWind 45 = .ok (.ishl, 1) := by decide +kernel
theorem dX3_readWind_46 : decode cX3_readWind 46 = .ok (.ior, 1) := by decide +kernel
theorem dX3_readWind_47 : decode cX3_readWind 47 = .ok (.putfield 58, 3) := by decide +kernel
theorem dX3_readWind_50 : decode cX3_readWind 50 = .ok (.aload_n 0, 1) := by decide +kernel
theorem dX3_readWind_51 : decode cX3_readWind 51 = .ok (.iconst 0, 1) := by decide +kernel
theorem dX3_readWind_52 : decode cX3_readWind 52 = .ok (.bipush 8, 2) := by decide +kernel
theorem dX3_readWind_54 : decode cX3_readWind 54 = .ok (.invokevirtual 141, 3) := by decide +kernel
theorem dX3_readWind_57 : decode cX3_readWind 57 = .ok (.ifCond .ne 5, 3) := by decide +kernel
theorem dX3_readWind_60 : decode cX3_readWind 60 = .ok (.iconst 0, 1) := by decide +kernel
theorem dX3_readWind_61 : decode cX3_readWind 61 = .ok (.ireturn, 1) := by decide +kernel
theorem dX3_readWind_62 : decode cX3_readWind 62 = .ok (.aload_n 1, 1) := by decide +kernel
theorem dX3_readWind_63 : decode cX3_readWind 63 = .ok (.getfield 150, 3) := by decide +kernel
theorem dX3_readWind_66 : decode cX3_readWind 66 = .ok (.iload_n 2, 1) := by decide +kernel
theorem dX3_readWind_67 : decode cX3_readWind 67 = .ok (.aload_n 0, 1) := by decide +kernel
theorem dX3_readWind_68 : decode cX3_readWind 68 = .ok (.getfield 78, 3) := by decide +kernel
theorem dX3_readWind_71 : decode cX3_readWind 71 = .ok (.iastore, 1) := by decide +kernel
theorem dX3_readWind_72 : decode cX3_readWind 72 = .ok (.aload_n 0, 1) := by decide +kernel
theorem dX3_readWind_73 : decode cX3_readWind 73 = .ok (.invokevirtual 147, 3) := by decide +kernel
theorem dX3_readWind_76 : decode cX3_readWind 76 = .ok (.ireturn, 1) := by decide +kernel
theorem dX3_readRate_0 : decode cX3_readRate 0 = .ok (.aload_n 0, 1) := by decide +kernel
theorem dX3_readRate_1 : decode cX3_readRate 1 = .ok (.getfield 61, 3) := by decide +kernel
theorem dX3_readRate_4 : decode cX3_readRate 4 = .ok (.ifCond .eq 13, 3) := by decide +kernel
theorem dX3_readRate_7 : decode cX3_readRate 7 = .ok (.aload_n 0, 1) := by decide +kernel
theorem dX3_readRate_8 : decode cX3_readRate 8 = .ok (.aload_n 0, 1) := by decide +kernel
theorem dX3_readRate_9 : decode cX3_readRate 9 = .ok (.getfield 72, 3) := by decide +kernel
theorem dX3_readRate_12 : decode cX3_readRate 12 = .ok (.iconst 4, 1) := by decide +kernel
theorem dX3_readRate_13 : decode cX3_readRate 13 = .ok (.invokevirtual 81, 3) := by decide +kernel
theorem dX3_readRate_16 : decode cX3_readRate 16 = .ok (.ireturn, 1) := by decide +kernel
theorem dX3_readRate_17 : decode cX3_readRate 17 = .ok (.aload_n 0, 1) := by decide +kernel
theorem dX3_readRate_18 : decode cX3_readRate 18 = .ok (.iconst 1, 1) := by decide +kernel
theorem dX3_readRate_19 : decode cX3_readRate 19 = .ok (.putfield 61, 3) := by decide +kernel
theorem dX3_readRate_22 : decode cX3_readRate 22 = .ok (.aload_n 0, 1) := by decide +kernel
theorem dX3_readRate_23 : decode cX3_readRate 23 = .ok (.iconst 1, 1) := by decide +kernel
theorem dX3_readRate_24 : decode cX3_readRate 24 = .ok (.bipush 9, 2) := by decide +kernel
theorem dX3_readRate_26 : decode cX3_readRate 26 = .ok (.invokevirtual 141, 3) := by decide +kernel
theorem dX3_readRate_29 : decode cX3_readRate 29 = .ok (.ifCond .ne 5, 3) := by decide +kernel
theorem dX3_readRate_32 : decode cX3_readRate 32 = .ok (.iconst 0, 1) := by decide +kernel
theorem dX3_readRate_33 : decode cX3_readRate 33 = .ok (.ireturn, 1) := by decide +kernel
theorem dX3_readRate_34 : decode cX3_readRate 34 = .ok (.aload_n 1, 1) := by decide +kernel
theorem dX3_readRate_35 : decode cX3_readRate 35 = .ok (.aload_n 0, 1) := by decide +kernel
theorem dX3_readRate_36 : decode cX3_readRate 36 = .ok (.getfield 78, 3) := by decide +kernel
theorem dX3_readRate_39 : decode cX3_readRate 39 = .ok (.putfield 153, 3) := by decide +kernel
theorem dX3_readRate_42 : decode cX3_readRate 42 = .ok (.aload_n 0, 1) := by decide +kernel
theorem dX3_readRate_43 : decode cX3_readRate 43 = .ok (.invokevirtual 147, 3) := by decide +kernel
theorem dX3_readRate_46 : decode cX3_readRate 46 = .ok (.ireturn, 1) := by decide +kernel
theorem dX3_readStart_0 : decode cX3_readStart 0 = .ok (.aload_n 0, 1) := by decide +kernel
theorem dX3_readStart_1 : decode cX3_readStart 1 = .ok (.getfield 65, 3) := by decide +kernel
theorem dX3_readStart_4 : decode cX3_readStart 4 = .ok (.ifCond .eq 13, 3) := by decide +kernel
theorem dX3_readStart_7 : decode cX3_readStart 7 = .ok (.aload_n 0, 1) := by decide +kernel
theorem dX3_readStart_8 : decode cX3_readStart 8 = .ok (.aload_n 0, 1) := by decide +kernel
theorem dX3_readStart_9 : decode cX3_readStart 9 = .ok (.getfield 72, 3) := by decide +kernel
theorem dX3_readStart_12 : decode cX3_readStart 12 = .ok (.iconst 4, 1) := by decide +kernel
theorem dX3_readStart_13 : decode cX3_readStart 13 = .ok (.invokevirtual 81, 3) := by decide +kernel
theorem dX3_readStart_16 : decode cX3_readStart 16 = .ok (.ireturn, 1) := by decide +kernel
theorem dX3_readStart_17 : decode cX3_readStart 17 = .ok (.aload_n 0, 1) := by decide +kernel
theorem dX3_readStart_18 : decode cX3_readStart 18 = .ok (.iconst 1, 1) := by decide +kernel
theorem dX3_readStart_19 : decode cX3_readStart 19 = .ok (.putfield 65, 3) := by decide +kernel
theorem dX3_readStart_22 : decode cX3_readStart 22 = .ok (.aload_n 0, 1) := by decide +kernel
theorem dX3_readStart_23 : decode cX3_readStart 23 = .ok (.iconst 0, 1) := by decide +kernel
theorem dX3_readStart_24 : decode cX3_readStart 24 = .ok (.bipush 60, 2) := by decide +kernel
theorem dX3_readStart_26 : decode cX3_readStart 26 = .ok (.invokevirtual 141, 3) := by decide +kernel
theorem dX3_readStart_29 : decode cX3_readStart 29 = .ok (.ifCond .ne 5, 3) := by decide +kernel
theorem dX3_readStart_32 : decode cX3_readStart 32 = .ok (.iconst 0, 1) := by decide +kernel
theorem dX3_readStart_33 : decode cX3_readStart 33 = .ok (.ireturn, 1) := by decide +kernel
theorem dX3_readStart_34 : decode cX3_readStart 34 = .ok (.aload_n 1, 1) := by decide +kernel
theorem dX3_readStart_35 : decode cX3_readStart 35 = .ok (.aload_n 0, 1) := by decide +kernel
theorem dX3_readStart_36 : decode cX3_readStart 36 = .ok (.getfield 78, 3) := by decide +kernel
theorem dX3_readStart_39 : decode cX3_readStart 39 = .ok (.putfield 155, 3) := by decide +kernel
theorem dX3_readStart_42 : decode cX3_readStart 42 = .ok (.aload_n 0, 1) := by decide +kernel
theorem dX3_readStart_43 : decode cX3_readStart 43 = .ok (.iconst 0, 1) := by decide +kernel
theorem dX3_readStart_44 : decode cX3_readStart 44 = .ok (.bipush 99, 2) := by decide +kernel
theorem dX3_readStart_46 : decode cX3_readStart 46 = .ok (.invokevirtual 141, 3) := by decide +kernel
theorem dX3_readStart_49 : decode cX3_readStart 49 = .ok (.ifCond .ne 5, 3) := by decide +kernel
theorem dX3_readStart_52 : decode cX3_readStart 52 = .ok (.iconst 0, 1) := by decide +kernel
theorem dX3_readStart_53 : decode cX3_readStart 53 = .ok (.ireturn, 1) := by decide +kernel
theorem dX3_readStart_54 : decode cX3_readStart 54 = .ok (.aload_n 1, 1) := by decide +kernel
theorem dX3_readStart_55 : decode cX3_readStart 55 = .ok (.aload_n 0, 1) := by decide +kernel
theorem dX3_readStart_56 : decode cX3_readStart 56 = .ok (.getfield 78, 3) := by decide +kernel
theorem dX3_readStart_59 : decode cX3_readStart 59 = .ok (.putfield 158, 3) := by decide +kernel
theorem dX3_readStart_62 : decode cX3_readStart 62 = .ok (.aload_n 0, 1) := by decide +kernel
theorem dX3_readStart_63 : decode cX3_readStart 63 = .ok (.invokevirtual 147, 3) := by decide +kernel
theorem dX3_readStart_66 : decode cX3_readStart 66 = .ok (.ireturn, 1) := by decide +kernel
theorem dX3_readNumber_0 : decode cX3_readNumber 0 = .ok (.aload_n 0, 1) := by decide +kernel
theorem dX3_readNumber_1 : decode cX3_readNumber 1 = .ok (.invokevirtual 38, 3) := by decide +kernel
theorem dX3_readNumber_4 : decode cX3_readNumber 4 = .ok (.ifCond .ne 5, 3) := by decide +kernel
theorem dX3_readNumber_7 : decode cX3_readNumber 7 = .ok (.iconst 0, 1) := by decide +kernel
theorem dX3_readNumber_8 : decode cX3_readNumber 8 = .ok (.ireturn, 1) := by decide +kernel
theorem dX3_readNumber_9 : decode cX3_readNumber 9 = .ok (.aload_n 0, 1) := by decide +kernel
theorem dX3_readNumber_10 : decode cX3_readNumber 10 = .ok (.getfield 42, 3) := by decide +kernel
theorem dX3_readNumber_13 : decode cX3_readNumber 13 = .ok (.iconst 2, 1) := by decide +kernel
theorem dX3_readNumber_14 : decode cX3_readNumber 14 = .ok (.if_icmp .eq 13, 3) := by decide +kernel
theorem dX3_readNumber_17 : decode cX3_readNumber 17 = .ok (.aload_n 0, 1) := by decide +kernel
theorem dX3_readNumber_18 : decode cX3_readNumber 18 = .ok (.aload_n 0, 1) := by decide +kernel
theorem dX3_readNumber_19 : decode cX3_readNumber 19 = .ok (.getfield 72, 3) := by decide +kernel
theorem dX3_readNumber_22 : decode cX3_readNumber 22 = .ok (.iconst 2, 1) := by decide +kernel
theorem dX3_readNumber_23 : decode cX3_readNumber 23 = .ok (.invokevirtual 81, 3) := by decide +kernel
theorem dX3_readNumber_26 : decode cX3_readNumber 26 = .ok (.ireturn, 1) := by decide +kernel
theorem dX3_readNumber_27 : decode cX3_readNumber 27 = .ok (.aload_n 0, 1) := by decide +kernel
theorem dX3_readNumber_28 : decode cX3_readNumber 28 = .ok (.getfield 78, 3) := by decide +kernel
theorem dX3_readNumber_31 : decode cX3_readNumber 31 = .ok (.iload_n 1, 1) := by decide +kernel
theorem dX3_readNumber_32 : decode cX3_readNumber 32 = .ok (.iload_n 2, 1) := by decide +kernel
theorem dX3_readNumber_33 : decode cX3_readNumber 33 = .ok (.invokestatic 26, 3) := by decide +kernel
theorem dX3_readNumber_36 : decode cX3_readNumber 36 = .ok (.ifCond .ne 15, 3) := by decide +kernel
theorem dX3_readNumber_39 : decode cX3_readNumber 39 = .ok (.aload_n 0, 1) := by decide +kernel
theorem dX3_readNumber_40 : decode cX3_readNumber 40 = .ok (.aload_n 0, 1) := by decide +kernel
theorem dX3_readNumber_41 : decode cX3_readNumber 41 = .ok (.getfield 72, 3) := by decide +kernel
theorem dX3_readNumber_44 : decode cX3_readNumber 44 = .ok (.iconst 3, 1) := by decide +kernel
theorem dX3_readNumber_45 : decode cX3_readNumber 45 = .ok (.invokevirtual 81, 3) := by decide +kernel
theorem dX3_readNumber_48 : decode cX3_readNumber 48 = .ok (.ifCond .eq 7, 3) := by decide +kernel
theorem dX3_readNumber_51 : decode cX3_readNumber 51 = .ok (.iconst 1, 1) := by decide +kernel
theorem dX3_readNumber_52 : decode cX3_readNumber 52 = .ok (.goto 4, 3) := by decide +kernel
theorem dX3_readNumber_55 : decode cX3_readNumber 55 = .ok (.iconst 0, 1) := by decide +kernel
theorem dX3_readNumber_56 : decode cX3_readNumber 56 = .ok (.ireturn, 1) := by decide +kernel
theorem dX3_readSemicolon_0 : decode cX3_readSemicolon 0 = .ok (.aload_n 0, 1) := by decide +kernel
theorem dX3_readSemicolon_1 : decode cX3_readSemicolon 1 = .ok (.invokevirtual 38, 3) := by decide +kernel
theorem dX3_readSemicolon_4 : decode cX3_readSemicolon 4 = .ok (.ifCond .ne 5, 3) := by decide +kernel
theorem dX3_readSemicolon_7 : decode cX3_readSemicolon 7 = .ok (.iconst 0, 1) := by decide +kernel
theorem dX3_readSemicolon_8 : decode cX3_readSemicolon 8 = .ok (.ireturn, 1) := by decide +kernel
theorem dX3_readSemicolon_9 : decode cX3_readSemicolon 9 = .ok (.aload_n 0, 1) := by decide +kernel
theorem dX3_readSemicolon_10 : decode cX3_readSemicolon 10 = .ok (.getfield 42, 3) := by decide +kernel
theorem dX3_readSemicolon_13 : decode cX3_readSemicolon 13 = .ok (.iconst 3, 1) := by decide +kernel
theorem dX3_readSemicolon_14 : decode cX3_readSemicolon 14 = .ok (.if_icmp .eq 15, 3) := by decide +kernel
theorem dX3_readSemicolon_17 : decode cX3_readSemicolon 17 = .ok (.aload_n 0, 1) := by decide +kernel
theorem dX3_readSemicolon_18 : decode cX3_readSemicolon 18 = .ok (.aload_n 0, 1) := by decide +kernel
theorem dX3_readSemicolon_19 : decode cX3_readSemicolon 19 = .ok (.getfield 72, 3) := by decide +kernel
theorem dX3_readSemicolon_22 : decode cX3_readSemicolon 22 = .ok (.iconst 2, 1) := by decide +kernel
theorem dX3_readSemicolon_23 : decode cX3_readSemicolon 23 = .ok (.invokevirtual 81, 3) := by decide +kernel
theorem dX3_readSemicolon_26 : decode cX3_readSemicolon 26 = .ok (.ifCond .eq 7, 3) := by decide +kernel
theorem dX3_readSemicolon_29 : decode cX3_readSemicolon 29 = .ok (.iconst 1, 1) := by decide +kernel
theorem dX3_readSemicolon_30 : decode cX3_readSemicolon 30 = .ok (.goto 4, 3) := by decide +kernel
theorem dX3_readSemicolon_33 : decode cX3_readSemicolon 33 = .ok (.iconst 0, 1) := by decide +kernel
theorem dX3_readSemicolon_34 : decode cX3_readSemicolon 34 = .ok (.ireturn, 1) := by decide +kernel
theorem dX4_init_0 : decode cX4_init 0 = .ok (.aload_n 0, 1) := by decide +kernel
theorem dX4_init_1 : decode cX4_init 1 = .ok (.invokespecial 3, 3) := by decide +kernel
theorem dX4_init_4 : decode cX4_init 4 = .ok (.aload_n 0, 1) := by decide +kernel
theorem dX4_init_5 : decode cX4_init 5 = .ok (.bipush 40, 2) := by decide +kernel
theorem dX4_init_7 : decode cX4_init 7 = .ok (.newarray .int, 2) := by decide +kernel
theorem dX4_init_9 : decode cX4_init 9 = .ok (.putfield 9, 3) := by decide +kernel
theorem dX4_init_12 : decode cX4_init 12 = .ok (.aload_n 0, 1) := by decide +kernel
theorem dX4_init_13 : decode cX4_init 13 = .ok (.iconst (-1), 1) := by decide +kernel
theorem dX4_init_14 : decode cX4_init 14 = .ok (.putfield 15, 3) := by decide +kernel
theorem dX4_init_17 : decode cX4_init 17 = .ok (.return_, 1) := by decide +kernel
theorem dX4_isNothing_0 : decode cX4_isNothing 0 = .ok (.aload_n 0, 1) := by decide +kernel
theorem dX4_isNothing_1 : decode cX4_isNothing 1 = .ok (.getfield 15, 3) := by decide +kernel
theorem dX4_isNothing_4 : decode cX4_isNothing 4 = .ok (.iconst (-1), 1) := by decide +kernel
theorem dX4_isNothing_5 : decode cX4_isNothing 5 = .ok (.if_icmp .ne 7, 3) := by decide +kernel
theorem dX4_isNothing_8 : decode cX4_isNothing 8 = .ok (.iconst 1, 1) := by decide +kernel
theorem dX4_isNothing_9 : decode cX4_isNothing 9 = .ok (.goto 4, 3) := by decide +kernel
theorem dX4_isNothing_12 : decode cX4_isNothing 12 = .ok (.iconst 0, 1) := by decide +kernel
theorem dX4_isNothing_13 : decode cX4_isNothing 13 = .ok (.ireturn, 1) := by decide +kernel
theorem dX4_renew_0 : decode cX4_renew 0 = .ok (.aload_n 0, 1) := by decide +kernel
theorem dX4_renew_1 : decode cX4_renew 1 = .ok (.iload_n 1, 1) := by decide +kernel
theorem dX4_renew_2 : decode cX4_renew 2 = .ok (.putfield 15, 3) := by decide +kernel
theorem dX4_renew_5 : decode cX4_renew 5 = .ok (.aload_n 0, 1) := by decide +kernel
theorem dX4_renew_6 : decode cX4_renew 6 = .ok (.iload_n 2, 1) := by decide +kernel
theorem dX4_renew_7 : decode cX4_renew 7 = .ok (.putfield 19, 3) := by decide +kernel
theorem dX4_renew_10 : decode cX4_renew 10 = .ok (.aload_n 0, 1) := by decide +kernel
theorem dX4_renew_11 : decode cX4_renew 11 = .ok (.getfield 9, 3) := by decide +kernel
theorem dX4_renew_14 : decode cX4_renew 14 = .ok (.iconst 0, 1) := by decide +kernel
theorem dX4_renew_15 : decode cX4_renew 15 = .ok (.invokestatic 22, 3) := by decide +kernel
theorem dX4_renew_18 : decode cX4_renew 18 = .ok (.return_, 1) := by decide +kernel
theorem dX4_faultAs_0 : decode cX4_faultAs 0 = .ok (.aload_n 0, 1) := by decide +kernel
theorem dX4_faultAs_1 : decode cX4_faultAs 1 = .ok (.invokevirtual 28, 3) := by decide +kernel
theorem dX4_faultAs_4 : decode cX4_faultAs 4 = .ok (.ifCond .eq 5, 3) := by decide +kernel
theorem dX4_faultAs_7 : decode cX4_faultAs 7 = .ok (.iconst 1, 1) := by decide +kernel
theorem dX4_faultAs_8 : decode cX4_faultAs 8 = .ok (.ireturn, 1) := by decide +kernel
theorem dX4_faultAs_9 : decode cX4_faultAs 9 = .ok (.aload_n 0, 1) := by decide +kernel
theorem dX4_faultAs_10 : decode cX4_faultAs 10 = .ok (.getfield 15, 3) := by decide +kernel
theorem dX4_faultAs_13 : decode cX4_faultAs 13 = .ok (.iload_n 1, 1) := by decide +kernel
theorem dX4_faultAs_14 : decode cX4_faultAs 14 = .ok (.if_icmp .eq 5, 3) := by decide +kernel
theorem dX4_faultAs_17 : decode cX4_faultAs 17 = .ok (.iconst 3, 1) := by decide +kernel
theorem dX4_faultAs_18 : decode cX4_faultAs 18 = .ok (.ireturn, 1) := by decide +kernel
theorem dX4_faultAs_19 : decode cX4_faultAs 19 = .ok (.iload_n 2, 1) := by decide +kernel
theorem dX4_faultAs_20 : decode cX4_faultAs 20 = .ok (.iconst 0, 1) := by decide +kernel
theorem dX4_faultAs_21 : decode cX4_faultAs 21 = .ok (.aload_n 0, 1) := by decide +kernel
theorem dX4_faultAs_22 : decode cX4_faultAs 22 = .ok (.getfield 19, 3) := by decide +kernel
theorem dX4_faultAs_25 : decode cX4_faultAs 25 = .ok (.iconst 1, 1) := by decide +kernel
theorem dX4_faultAs_26 : decode cX4_faultAs 26 = .ok (.isub, 1) := by decide +kernel
theorem dX4_faultAs_27 : decode cX4_faultAs 27 = .ok (.invokestatic 32, 3) := by decide +kernel
theorem dX4_faultAs_30 : decode cX4_faultAs 30 = .ok (.ifCond .eq 7, 3) := by decide +kernel
theorem dX4_faultAs_33 : decode cX4_faultAs 33 = .ok (.iconst 0, 1) := by decide +kernel
theorem dX4_faultAs_34 : decode cX4_faultAs 34 = .ok (.goto 4, 3) := by decide +kernel
theorem dX4_faultAs_37 : decode cX4_faultAs 37 = .ok (.iconst 2, 1) := by decide +kernel
theorem dX4_faultAs_38 : decode cX4_faultAs 38 = .ok (.ireturn, 1) := by decide +kernel
theorem dX4_faultOfPair_0 : decode cX4_faultOfPair 0 = .ok (.aload_n 0, 1) := by decide +kernel
theorem dX4_faultOfPair_1 : decode cX4_faultOfPair 1 = .ok (.iload_n 1, 1) := by decide +kernel
theorem dX4_faultOfPair_2 : decode cX4_faultOfPair 2 = .ok (.iload_n 2, 1) := by decide +kernel
theorem dX4_faultOfPair_3 : decode cX4_faultOfPair 3 = .ok (.invokevirtual 36, 3) := by decide +kernel
theorem dX4_faultOfPair_6 : decode cX4_faultOfPair 6 = .ok (.istore_n 3, 1) := by decide +kernel
theorem dX4_faultOfPair_7 : decode cX4_faultOfPair 7 = .ok (.iload_n 3, 1) := by decide +kernel
theorem dX4_faultOfPair_8 : decode cX4_faultOfPair 8 = .ok (.ifCond .eq 7, 3) := by decide +kernel
theorem dX4_faultOfPair_11 : decode cX4_faultOfPair 11 = .ok (.iload_n 3, 1) := by decide +kernel
theorem dX4_faultOfPair_12 : decode cX4_faultOfPair 12 = .ok (.goto 11, 3) := by decide +kernel
theorem dX4_faultOfPair_15 : decode cX4_faultOfPair 15 = .ok (.aload_n 0, 1) := by decide +kernel
theorem dX4_faultOfPair_16 : decode cX4_faultOfPair 16 = .ok (.iload_n 1, 1) := by decide +kernel
theorem dX4_faultOfPair_17 : decode cX4_faultOfPair 17 = .ok (.iload_n 2, 1) := by decide +kernel
theorem dX4_faultOfPair_18 : decode cX4_faultOfPair 18 = .ok (.iconst 1, 1) := by decide +kernel
theorem dX4_faultOfPair_19 : decode cX4_faultOfPair 19 = .ok (.iadd, 1) := by decide +kernel
theorem dX4_faultOfPair_20 : decode cX4_faultOfPair 20 = .ok (.invokevirtual 36, 3) := by decide +kernel
theorem dX4_faultOfPair_23 : decode cX4_faultOfPair 23 = .ok (.ireturn, 1) := by decide +kernel
theorem dX4_put_0 : decode cX4_put 0 = .ok (.aload_n 0, 1) := by decide +kernel
theorem dX4_put_1 : decode cX4_put 1 = .ok (.getfield 9, 3) := by decide +kernel
theorem dX4_put_4 : decode cX4_put 4 = .ok (.iload_n 1, 1) := by decide +kernel
theorem dX4_put_5 : decode cX4_put 5 = .ok (.aload_n 0, 1) := by decide +kernel
theorem dX4_put_6 : decode cX4_put 6 = .ok (.getfield 15, 3) := by decide +kernel
theorem dX4_put_9 : decode cX4_put 9 = .ok (.ifCond .ne 8, 3) := by decide +kernel
theorem dX4_put_12 : decode cX4_put 12 = .ok (.iload_n 2, 1) := by decide +kernel
theorem dX4_put_13 : decode cX4_put 13 = .ok (.i2b, 1) := by decide +kernel
theorem dX4_put_14 : decode cX4_put 14 = .ok (.goto 17, 3) := by decide +kernel
theorem dX4_put_17 : decode cX4_put 17 = .ok (.aload_n 0, 1) := by decide +kernel
theorem dX4_put_18 : decode cX4_put 18 = .ok (.getfield 15, 3) := by decide +kernel
theorem dX4_put_21 : decode cX4_put 21 = .ok (.iconst 1, 1) := by decide +kernel
theorem dX4_put_22 : decode cX4_put 22 = .ok (.if_icmp .ne 8, 3) := by decide +kernel
theorem dX4_put_25 : decode cX4_put 25 = .ok (.iload_n 2, 1) := by decide +kernel
theorem dX4_put_26 : decode cX4_put 26 = .ok (.i2s, 1) := by decide +kernel
theorem dX4_put_27 : decode cX4_put 27 = .ok (.goto 4, 3) := by decide +kernel
theorem dX4_put_30 : decode cX4_put 30 = .ok (.iload_n 2, 1) := by decide +kernel
theorem dX4_put_31 : decode cX4_put 31 = .ok (.iastore, 1) := by decide +kernel
theorem dX4_put_32 : decode cX4_put 32 = .ok (.return_, 1) := by decide +kernel
