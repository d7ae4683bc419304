theorem dX0_init_0 : decode cX0_init 0 = .ok (.aload_n 0, 1) := by decide +kernel
theorem dX0_init_1 : decode cX0_init 1 = .ok (.invokespecial 3, 3) := by decide +kernel
theorem dX0_init_4 : decode cX0_init 4 = .ok (.return_, 1) := by decide +kernel
theorem dX0_settle_0 : decode cX0_settle 0 = .ok (.aload_n 0, 1) := by decide +kernel
theorem dX0_settle_1 : decode cX0_settle 1 = .ok (.iload_n 1, 1) := by decide +kernel
theorem dX0_settle_2 : decode cX0_settle 2 = .ok (.putfield 9, 3) := by decide +kernel
theorem dX0_settle_5 : decode cX0_settle 5 = .ok (.aload_n 0, 1) := by decide +kernel
theorem dX0_settle_6 : decode cX0_settle 6 = .ok (.iload_n 2, 1) := by decide +kernel
theorem dX0_settle_7 : decode cX0_settle 7 = .ok (.putfield 15, 3) := by decide +kernel
theorem dX0_settle_10 : decode cX0_settle 10 = .ok (.aload_n 0, 1) := by decide +kernel
theorem dX0_settle_11 : decode cX0_settle 11 = .ok (.iload_n 3, 1) := by decide +kernel
theorem dX0_settle_12 : decode cX0_settle 12 = .ok (.putfield 18, 3) := by decide +kernel
theorem dX0_settle_15 : decode cX0_settle 15 = .ok (.aload_n 0, 1) := by decide +kernel
theorem dX0_settle_16 : decode cX0_settle 16 = .ok (.iload_n 1, 1) := by decide +kernel
theorem dX0_settle_17 : decode cX0_settle 17 = .ok (.putfield 21, 3) := by decide +kernel
theorem dX0_settle_20 : decode cX0_settle 20 = .ok (.aload_n 0, 1) := by decide +kernel
theorem dX0_settle_21 : decode cX0_settle 21 = .ok (.iload_n 1, 1) := by decide +kernel
theorem dX0_settle_22 : decode cX0_settle 22 = .ok (.putfield 24, 3) := by decide +kernel
theorem dX0_settle_25 : decode cX0_settle 25 = .ok (.aload_n 0, 1) := by decide +kernel
theorem dX0_settle_26 : decode cX0_settle 26 = .ok (.iconst (-1), 1) := by decide +kernel
theorem dX0_settle_27 : decode cX0_settle 27 = .ok (.putfield 27, 3) := by decide +kernel
theorem dX0_settle_30 : decode cX0_settle 30 = .ok (.aload_n 0, 1) := by decide +kernel
theorem dX0_settle_31 : decode cX0_settle 31 = .ok (.iconst 5, 1) := by decide +kernel
theorem dX0_settle_32 : decode cX0_settle 32 = .ok (.putfield 30, 3) := by decide +kernel
theorem dX0_settle_35 : decode cX0_settle 35 = .ok (.return_, 1) := by decide +kernel
theorem dX0_becomeLike_0 : decode cX0_becomeLike 0 = .ok (.aload_n 0, 1) := by decide +kernel
theorem dX0_becomeLike_1 : decode cX0_becomeLike 1 = .ok (.aload_n 1, 1) := by decide +kernel
theorem dX0_becomeLike_2 : decode cX0_becomeLike 2 = .ok (.getfield 9, 3) := by decide +kernel
theorem dX0_becomeLike_5 : decode cX0_becomeLike 5 = .ok (.putfield 9, 3) := by decide +kernel
theorem dX0_becomeLike_8 : decode cX0_becomeLike 8 = .ok (.aload_n 0, 1) := by decide +kernel
theorem dX0_becomeLike_9 : decode cX0_becomeLike 9 = .ok (.aload_n 1, 1) := by decide +kernel
theorem dX0_becomeLike_10 : decode cX0_becomeLike 10 = .ok (.getfield 15, 3) := by decide +kernel
theorem dX0_becomeLike_13 : decode cX0_becomeLike 13 = .ok (.putfield 15, 3) := by decide +kernel
theorem dX0_becomeLike_16 : decode cX0_becomeLike 16 = .ok (.aload_n 0, 1) := by decide +kernel
theorem dX0_becomeLike_17 : decode cX0_becomeLike 17 = .ok (.aload_n 1, 1) := by decide +kernel
theorem dX0_becomeLike_18 : decode cX0_becomeLike 18 = .ok (.getfield 33, 3) := by decide +kernel
theorem dX0_becomeLike_21 : decode cX0_becomeLike 21 = .ok (.putfield 33, 3) := by decide +kernel
theorem dX0_becomeLike_24 : decode cX0_becomeLike 24 = .ok (.aload_n 0, 1) := by decide +kernel
theorem dX0_becomeLike_25 : decode cX0_becomeLike 25 = .ok (.aload_n 1, 1) := by decide +kernel
theorem dX0_becomeLike_26 : decode cX0_becomeLike 26 = .ok (.getfield 36, 3) := by decide +kernel
theorem dX0_becomeLike_29 : decode cX0_becomeLike 29 = .ok (.putfield 36, 3) := by decide +kernel
theorem dX0_becomeLike_32 : decode cX0_becomeLike 32 = .ok (.aload_n 0, 1) := by decide +kernel
theorem dX0_becomeLike_33 : decode cX0_becomeLike 33 = .ok (.aload_n 1, 1) := by decide +kernel
theorem dX0_becomeLike_34 : decode cX0_becomeLike 34 = .ok (.getfield 39, 3) := by decide +kernel
theorem dX0_becomeLike_37 : decode cX0_becomeLike 37 = .ok (.putfield 39, 3) := by decide +kernel
theorem dX0_becomeLike_40 : decode cX0_becomeLike 40 = .ok (.aload_n 0, 1) := by decide +kernel
theorem dX0_becomeLike_41 : decode cX0_becomeLike 41 = .ok (.aload_n 1, 1) := by decide +kernel
theorem dX0_becomeLike_42 : decode cX0_becomeLike 42 = .ok (.getfield 18, 3) := by decide +kernel
theorem dX0_becomeLike_45 : decode cX0_becomeLike 45 = .ok (.putfield 18, 3) := by decide +kernel
theorem dX0_becomeLike_48 : decode cX0_becomeLike 48 = .ok (.aload_n 0, 1) := by decide +kernel
theorem dX0_becomeLike_49 : decode cX0_becomeLike 49 = .ok (.aload_n 1, 1) := by decide +kernel
theorem dX0_becomeLike_50 : decode cX0_becomeLike 50 = .ok (.getfield 21, 3) := by decide +kernel
theorem dX0_becomeLike_53 : decode cX0_becomeLike 53 = .ok (.putfield 21, 3) := by decide +kernel
theorem dX0_becomeLike_56 : decode cX0_becomeLike 56 = .ok (.aload_n 0, 1) := by decide +kernel
theorem dX0_becomeLike_57 : decode cX0_becomeLike 57 = .ok (.aload_n 1, 1) := by decide +kernel
theorem dX0_becomeLike_58 : decode cX0_becomeLike 58 = .ok (.getfield 24, 3) := by decide +kernel
theorem dX0_becomeLike_61 : decode cX0_becomeLike 61 = .ok (.putfield 24, 3) := by decide +kernel
theorem dX0_becomeLike_64 : decode cX0_becomeLike 64 = .ok (.aload_n 0, 1) := by decide +kernel
theorem dX0_becomeLike_65 : decode cX0_becomeLike 65 = .ok (.aload_n 1, 1) := by decide +kernel
theorem dX0_becomeLike_66 : decode cX0_becomeLike 66 = .ok (.getfield 42, 3) := by decide +kernel
theorem dX0_becomeLike_69 : decode cX0_becomeLike 69 = .ok (.putfield 42, 3) := by decide +kernel
theorem dX0_becomeLike_72 : decode cX0_becomeLike 72 = .ok (.aload_n 0, 1) := by decide +kernel
theorem dX0_becomeLike_73 : decode cX0_becomeLike 73 = .ok (.aload_n 1, 1) := by decide +kernel
theorem dX0_becomeLike_74 : decode cX0_becomeLike 74 = .ok (.getfield 27, 3) := by decide +kernel
theorem dX0_becomeLike_77 : decode cX0_becomeLike 77 = .ok (.putfield 27, 3) := by decide +kernel
theorem dX0_becomeLike_80 : decode cX0_becomeLike 80 = .ok (.aload_n 0, 1) := by decide +kernel
theorem dX0_becomeLike_81 : decode cX0_becomeLike 81 = .ok (.aload_n 1, 1) := by decide +kernel
theorem dX0_becomeLike_82 : decode cX0_becomeLike 82 = .ok (.getfield 30, 3) := by decide +kernel
theorem dX0_becomeLike_85 : decode cX0_becomeLike 85 = .ok (.putfield 30, 3) := by decide +kernel
theorem dX0_becomeLike_88 : decode cX0_becomeLike 88 = .ok (.aload_n 0, 1) := by decide +kernel
theorem dX0_becomeLike_89 : decode cX0_becomeLike 89 = .ok (.aload_n 1, 1) := by decide +kernel
theorem dX0_becomeLike_90 : decode cX0_becomeLike 90 = .ok (.getfield 45, 3) := by decide +kernel
theorem dX0_becomeLike_93 : decode cX0_becomeLike 93 = .ok (.putfield 45, 3) := by decide +kernel
theorem dX0_becomeLike_96 : decode cX0_becomeLike 96 = .ok (.aload_n 0, 1) := by decide +kernel
theorem dX0_becomeLike_97 : decode cX0_becomeLike 97 = .ok (.aload_n 1, 1) := by decide +kernel
theorem dX0_becomeLike_98 : decode cX0_becomeLike 98 = .ok (.getfield 48, 3) := by decide +kernel
theorem dX0_becomeLike_101 : decode cX0_becomeLike 101 = .ok (.putfield 48, 3) := by decide +kernel
theorem dX0_becomeLike_104 : decode cX0_becomeLike 104 = .ok (.aload_n 0, 1) := by decide +kernel
theorem dX0_becomeLike_105 : decode cX0_becomeLike 105 = .ok (.aload_n 1, 1) := by decide +kernel
theorem dX0_becomeLike_106 : decode cX0_becomeLike 106 = .ok (.getfield 51, 3) := by decide +kernel
theorem dX0_becomeLike_109 : decode cX0_becomeLike 109 = .ok (.putfield 51, 3) := by decide +kernel
theorem dX0_becomeLike_112 : decode cX0_becomeLike 112 = .ok (.aload_n 0, 1) := by decide +kernel
theorem dX0_becomeLike_113 : decode cX0_becomeLike 113 = .ok (.aload_n 1, 1) := by decide +kernel
theorem dX0_becomeLike_114 : decode cX0_becomeLike 114 = .ok (.getfield 54, 3) := by decide +kernel
theorem dX0_becomeLike_117 : decode cX0_becomeLike 117 = .ok (.putfield 54, 3) := by decide +kernel
theorem dX0_becomeLike_120 : decode cX0_becomeLike 120 = .ok (.return_, 1) := by decide +kernel
theorem dX0_leavesAt_0 : decode cX0_leavesAt 0 = .ok (.aload_n 0, 1) := by decide +kernel
theorem dX0_leavesAt_1 : decode cX0_leavesAt 1 = .ok (.getfield 21, 3) := by decide +kernel
theorem dX0_leavesAt_4 : decode cX0_leavesAt 4 = .ok (.aload_n 0, 1) := by decide +kernel
theorem dX0_leavesAt_5 : decode cX0_leavesAt 5 = .ok (.getfield 9, 3) := by decide +kernel
theorem dX0_leavesAt_8 : decode cX0_leavesAt 8 = .ok (.if_icmp .ne 11, 3) := by decide +kernel
theorem dX0_leavesAt_11 : decode cX0_leavesAt 11 = .ok (.aload_n 0, 1) := by decide +kernel
theorem dX0_leavesAt_12 : decode cX0_leavesAt 12 = .ok (.getfield 33, 3) := by decide +kernel
theorem dX0_leavesAt_15 : decode cX0_leavesAt 15 = .ok (.iload_n 1, 1) := by decide +kernel
theorem dX0_leavesAt_16 : decode cX0_leavesAt 16 = .ok (.if_icmp .eq 22, 3) := by decide +kernel
theorem dX0_leavesAt_19 : decode cX0_leavesAt 19 = .ok (.aload_n 0, 1) := by decide +kernel
theorem dX0_leavesAt_20 : decode cX0_leavesAt 20 = .ok (.getfield 21, 3) := by decide +kernel
theorem dX0_leavesAt_23 : decode cX0_leavesAt 23 = .ok (.aload_n 0, 1) := by decide +kernel
theorem dX0_leavesAt_24 : decode cX0_leavesAt 24 = .ok (.getfield 15, 3) := by decide +kernel
theorem dX0_leavesAt_27 : decode cX0_leavesAt 27 = .ok (.if_icmp .ne 15, 3) := by decide +kernel
theorem dX0_leavesAt_30 : decode cX0_leavesAt 30 = .ok (.aload_n 0, 1) := by decide +kernel
theorem dX0_leavesAt_31 : decode cX0_leavesAt 31 = .ok (.getfield 36, 3) := by decide +kernel
theorem dX0_leavesAt_34 : decode cX0_leavesAt 34 = .ok (.iload_n 1, 1) := by decide +kernel
theorem dX0_leavesAt_35 : decode cX0_leavesAt 35 = .ok (.if_icmp .ne 7, 3) := by decide +kernel
theorem dX0_leavesAt_38 : decode cX0_leavesAt 38 = .ok (.iconst 1, 1) := by decide +kernel
theorem dX0_leavesAt_39 : decode cX0_leavesAt 39 = .ok (.goto 4, 3) := by decide +kernel
theorem dX0_leavesAt_42 : decode cX0_leavesAt 42 = .ok (.iconst 0, 1) := by decide +kernel
theorem dX0_leavesAt_43 : decode cX0_leavesAt 43 = .ok (.ireturn, 1) := by decide +kernel
theorem dX0_setOut_0 : decode cX0_setOut 0 = .ok (.aload_n 0, 1) := by decide +kernel
theorem dX0_setOut_1 : decode cX0_setOut 1 = .ok (.aload_n 0, 1) := by decide +kernel
theorem dX0_setOut_2 : decode cX0_setOut 2 = .ok (.getfield 21, 3) := by decide +kernel
theorem dX0_setOut_5 : decode cX0_setOut 5 = .ok (.aload_n 0, 1) := by decide +kernel
theorem dX0_setOut_6 : decode cX0_setOut 6 = .ok (.getfield 9, 3) := by decide +kernel
theorem dX0_setOut_9 : decode cX0_setOut 9 = .ok (.if_icmp .ne 10, 3) := by decide +kernel
theorem dX0_setOut_12 : decode cX0_setOut 12 = .ok (.aload_n 0, 1) := by decide +kernel
theorem dX0_setOut_13 : decode cX0_setOut 13 = .ok (.getfield 15, 3) := by decide +kernel
theorem dX0_setOut_16 : decode cX0_setOut 16 = .ok (.goto 7, 3) := by decide +kernel
theorem dX0_setOut_19 : decode cX0_setOut 19 = .ok (.aload_n 0, 1) := by decide +kernel
theorem dX0_setOut_20 : decode cX0_setOut 20 = .ok (.getfield 9, 3) := by decide +kernel
theorem dX0_setOut_23 : decode cX0_setOut 23 = .ok (.putfield 24, 3) := by decide +kernel
theorem dX0_setOut_26 : decode cX0_setOut 26 = .ok (.aload_n 0, 1) := by decide +kernel
theorem dX0_setOut_27 : decode cX0_setOut 27 = .ok (.iconst (-1), 1) := by decide +kernel
theorem dX0_setOut_28 : decode cX0_setOut 28 = .ok (.putfield 21, 3) := by decide +kernel
theorem dX0_setOut_31 : decode cX0_setOut 31 = .ok (.aload_n 0, 1) := by decide +kernel
theorem dX0_setOut_32 : decode cX0_setOut 32 = .ok (.aload_n 0, 1) := by decide +kernel
theorem dX0_setOut_33 : decode cX0_setOut 33 = .ok (.getfield 18, 3) := by decide +kernel
theorem dX0_setOut_36 : decode cX0_setOut 36 = .ok (.putfield 42, 3) := by decide +kernel
theorem dX0_setOut_39 : decode cX0_setOut 39 = .ok (.return_, 1) := by decide +kernel
theorem dX0_forgetsThisOne_0 : decode cX0_forgetsThisOne 0 = .ok (.aload_n 0, 1) := by decide +kernel
theorem dX0_forgetsThisOne_1 : decode cX0_forgetsThisOne 1 = .ok (.getfield 39, 3) := by decide +kernel
theorem dX0_forgetsThisOne_4 : decode cX0_forgetsThisOne 4 = .ok (.ifCond .le 19, 3) := by decide +kernel
theorem dX0_forgetsThisOne_7 : decode cX0_forgetsThisOne 7 = .ok (.aload_n 0, 1) := by decide +kernel
theorem dX0_forgetsThisOne_8 : decode cX0_forgetsThisOne 8 = .ok (.getfield 48, 3) := by decide +kernel
theorem dX0_forgetsThisOne_11 : decode cX0_forgetsThisOne 11 = .ok (.aload_n 0, 1) := by decide +kernel
theorem dX0_forgetsThisOne_12 : decode cX0_forgetsThisOne 12 = .ok (.getfield 39, 3) := by decide +kernel
theorem dX0_forgetsThisOne_15 : decode cX0_forgetsThisOne 15 = .ok (.irem, 1) := by decide +kernel
theorem dX0_forgetsThisOne_16 : decode cX0_forgetsThisOne 16 = .ok (.ifCond .ne 7, 3) := by decide +kernel
theorem dX0_forgetsThisOne_19 : decode cX0_forgetsThisOne 19 = .ok (.iconst 1, 1) := by decide +kernel
theorem dX0_forgetsThisOne_20 : decode cX0_forgetsThisOne 20 = .ok (.goto 4, 3) := by decide +kernel
theorem dX0_forgetsThisOne_23 : decode cX0_forgetsThisOne 23 = .ok (.iconst 0, 1) := by decide +kernel
theorem dX0_forgetsThisOne_24 : decode cX0_forgetsThisOne 24 = .ok (.ireturn, 1) := by decide +kernel
theorem dX0_noteForgotten_0 : decode cX0_noteForgotten 0 = .ok (.aload_n 0, 1) := by decide +kernel
theorem dX0_noteForgotten_1 : decode cX0_noteForgotten 1 = .ok (.dup, 1) := by decide +kernel
theorem dX0_noteForgotten_2 : decode cX0_noteForgotten 2 = .ok (.getfield 51, 3) := by decide +kernel
theorem dX0_noteForgotten_5 : decode cX0_noteForgotten 5 = .ok (.iconst 1, 1) := by decide +kernel
theorem dX0_noteForgotten_6 : decode cX0_noteForgotten 6 = .ok (.iadd, 1) := by decide +kernel
theorem dX0_noteForgotten_7 : decode cX0_noteForgotten 7 = .ok (.putfield 51, 3) := by decide +kernel
theorem dX0_noteForgotten_10 : decode cX0_noteForgotten 10 = .ok (.aload_n 0, 1) := by decide +kernel
theorem dX0_noteForgotten_11 : decode cX0_noteForgotten 11 = .ok (.iconst 0, 1) := by decide +kernel
theorem dX0_noteForgotten_12 : decode cX0_noteForgotten 12 = .ok (.aload_n 0, 1) := by decide +kernel
theorem dX0_noteForgotten_13 : decode cX0_noteForgotten 13 = .ok (.getfield 30, 3) := by decide +kernel
theorem dX0_noteForgotten_16 : decode cX0_noteForgotten 16 = .ok (.iconst 2, 1) := by decide +kernel
theorem dX0_noteForgotten_17 : decode cX0_noteForgotten 17 = .ok (.isub, 1) := by decide +kernel
theorem dX0_noteForgotten_18 : decode cX0_noteForgotten 18 = .ok (.invokestatic 57, 3) := by decide +kernel
theorem dX0_noteForgotten_21 : decode cX0_noteForgotten 21 = .ok (.putfield 30, 3) := by decide +kernel
theorem dX0_noteForgotten_24 : decode cX0_noteForgotten 24 = .ok (.return_, 1) := by decide +kernel
theorem dX0_noteBroughtBack_0 : decode cX0_noteBroughtBack 0 = .ok (.aload_n 0, 1) := by decide +kernel
theorem dX0_noteBroughtBack_1 : decode cX0_noteBroughtBack 1 = .ok (.bipush 10, 2) := by decide +kernel
theorem dX0_noteBroughtBack_3 : decode cX0_noteBroughtBack 3 = .ok (.aload_n 0, 1) := by decide +kernel
theorem dX0_noteBroughtBack_4 : decode cX0_noteBroughtBack 4 = .ok (.getfield 30, 3) := by decide +kernel
theorem dX0_noteBroughtBack_7 : decode cX0_noteBroughtBack 7 = .ok (.iconst 1, 1) := by decide +kernel
theorem dX0_noteBroughtBack_8 : decode cX0_noteBroughtBack 8 = .ok (.iadd, 1) := by decide +kernel
theorem dX0_noteBroughtBack_9 : decode cX0_noteBroughtBack 9 = .ok (.invokestatic 63, 3) := by decide +kernel
theorem dX0_noteBroughtBack_12 : decode cX0_noteBroughtBack 12 = .ok (.putfield 30, 3) := by decide +kernel
theorem dX0_noteBroughtBack_15 : decode cX0_noteBroughtBack 15 = .ok (.return_, 1) := by decide +kernel
theorem dX0_tell_0 : decode cX0_tell 0 = .ok (.iload_n 1, 1) := by decide +kernel
theorem dX0_tell_1 : decode cX0_tell 1 = .ok (.tableswitch 96 0 8 #[51, 56, 61, 66, 71, 76, 81, 86, 91], 51) := by decide +kernel
theorem dX0_tell_52 : decode cX0_tell 52 = .ok (.aload_n 0, 1) := by decide +kernel
theorem dX0_tell_53 : decode cX0_tell 53 = .ok (.getfield 9, 3) := by decide +kernel
theorem dX0_tell_56 : decode cX0_tell 56 = .ok (.ireturn, 1) := by decide +kernel
theorem dX0_tell_57 : decode cX0_tell 57 = .ok (.aload_n 0, 1) := by decide +kernel
theorem dX0_tell_58 : decode cX0_tell 58 = .ok (.getfield 15, 3) := by decide +kernel
theorem dX0_tell_61 : decode cX0_tell 61 = .ok (.ireturn, 1) := by decide +kernel
theorem dX0_tell_62 : decode cX0_tell 62 = .ok (.aload_n 0, 1) := by decide +kernel
theorem dX0_tell_63 : decode cX0_tell 63 = .ok (.getfield 21, 3) := by decide +kernel
theorem dX0_tell_66 : decode cX0_tell 66 = .ok (.ireturn, 1) := by decide +kernel
theorem dX0_tell_67 : decode cX0_tell 67 = .ok (.aload_n 0, 1) := by decide +kernel
theorem dX0_tell_68 : decode cX0_tell 68 = .ok (.getfield 42, 3) := by decide +kernel
theorem dX0_tell_71 : decode cX0_tell 71 = .ok (.ireturn, 1) := by decide +kernel
theorem dX0_tell_72 : decode cX0_tell 72 = .ok (.aload_n 0, 1) := by decide +kernel
theorem dX0_tell_73 : decode cX0_tell 73 = .ok (.getfield 27, 3) := by decide +kernel
theorem dX0_tell_76 : decode cX0_tell 76 = .ok (.ireturn, 1) := by decide +kernel
theorem dX0_tell_77 : decode cX0_tell 77 = .ok (.aload_n 0, 1) := by decide +kernel
theorem dX0_tell_78 : decode cX0_tell 78 = .ok (.getfield 30, 3) := by decide +kernel
theorem dX0_tell_81 : decode cX0_tell 81 = .ok (.ireturn, 1) := by decide +kernel
theorem dX0_tell_82 : decode cX0_tell 82 = .ok (.aload_n 0, 1) := by decide +kernel
theorem dX0_tell_83 : decode cX0_tell 83 = .ok (.getfield 45, 3) := by decide +kernel
theorem dX0_tell_86 : decode cX0_tell 86 = .ok (.ireturn, 1) := by decide +kernel
theorem dX0_tell_87 : decode cX0_tell 87 = .ok (.aload_n 0, 1) := by decide +kernel
theorem dX0_tell_88 : decode cX0_tell 88 = .ok (.getfield 48, 3) := by decide +kernel
theorem dX0_tell_91 : decode cX0_tell 91 = .ok (.ireturn, 1) := by decide +kernel
theorem dX0_tell_92 : decode cX0_tell 92 = .ok (.aload_n 0, 1) := by decide +kernel
theorem dX0_tell_93 : decode cX0_tell 93 = .ok (.getfield 51, 3) := by decide +kernel
theorem dX0_tell_96 : decode cX0_tell 96 = .ok (.ireturn, 1) := by decide +kernel
theorem dX0_tell_97 : decode cX0_tell 97 = .ok (.aload_n 0, 1) := by decide +kernel
theorem dX0_tell_98 : decode cX0_tell 98 = .ok (.getfield 54, 3) := by decide +kernel
theorem dX0_tell_101 : decode cX0_tell 101 = .ok (.ireturn, 1) := by decide +kernel
set_option maxRecDepth 20000 in
theorem ggX1_init_X2_init : GoodIn wsX1_init wsX2_init := goodIn_r _ [19, 20, 2, 3] (by decide +kernel) (by decide +kernel)
set_option maxRecDepth 20000 in
theorem gX1_init_X2_init_n33 : GoodIn wsX1_init (wsX2_init) := ggX1_init_X2_init
set_option maxRecDepth 20000 in
theorem ggX1_init_X3_init : GoodIn wsX1_init wsX3_init := goodIn_r _ [22, 23, 2, 3] (by decide +kernel) (by decide +kernel)
set_option maxRecDepth 20000 in
theorem gX1_init_X3_init_n34 : GoodIn wsX1_init (wsX3_init) := ggX1_init_X3_init
set_option maxRecDepth 20000 in
theorem ggX1_init_X0_init : GoodIn wsX1_init wsX0_init := goodIn_r _ [25, 26, 2, 3] (by decide +kernel) (by decide +kernel)
set_option maxRecDepth 20000 in
theorem gX1_init_X0_init_n35 : GoodIn wsX1_init (wsX0_init) := ggX1_init_X0_init
theorem dX1_init_0 : decode cX1_init 0 = .ok (.aload_n 0, 1) := by decide +kernel
theorem dX1_init_1 : decode cX1_init 1 = .ok (.invokespecial 3, 3) := by decide +kernel
theorem dX1_init_4 : decode cX1_init 4 = .ok (.aload_n 0, 1) := by decide +kernel
theorem dX1_init_5 : decode cX1_init 5 = .ok (.bipush 24, 2) := by decide +kernel
theorem dX1_init_7 : decode cX1_init 7 = .ok (.newarray .int, 2) := by decide +kernel
theorem dX1_init_9 : decode cX1_init 9 = .ok (.putfield 9, 3) := by decide +kernel
theorem dX1_init_12 : decode cX1_init 12 = .ok (.aload_n 0, 1) := by decide +kernel
theorem dX1_init_13 : decode cX1_init 13 = .ok (.bipush 8, 2) := by decide +kernel
theorem dX1_init_15 : decode cX1_init 15 = .ok (.anewarray 15, 3) := by decide +kernel
theorem dX1_init_18 : decode cX1_init 18 = .ok (.putfield 17, 3) := by decide +kernel
theorem dX1_init_21 : decode cX1_init 21 = .ok (.aload_n 0, 1) := by decide +kernel
theorem dX1_init_22 : decode cX1_init 22 = .ok (.bipush 40, 2) := by decide +kernel
theorem dX1_init_24 : decode cX1_init 24 = .ok (.anewarray 21, 3) := by decide +kernel
theorem dX1_init_27 : decode cX1_init 27 = .ok (.putfield 23, 3) := by decide +kernel
theorem dX1_init_30 : decode cX1_init 30 = .ok (.aload_n 0, 1) := by decide +kernel
theorem dX1_init_31 : decode cX1_init 31 = .ok (.bipush 10, 2) := by decide +kernel
theorem dX1_init_33 : decode cX1_init 33 = .ok (.anewarray 27, 3) := by decide +kernel
theorem dX1_init_36 : decode cX1_init 36 = .ok (.putfield 29, 3) := by decide +kernel
theorem dX1_init_39 : decode cX1_init 39 = .ok (.iconst 0, 1) := by decide +kernel
theorem dX1_init_40 : decode cX1_init 40 = .ok (.istore_n 1, 1) := by decide +kernel
theorem dX1_init_41 : decode cX1_init 41 = .ok (.iload_n 1, 1) := by decide +kernel
theorem dX1_init_42 : decode cX1_init 42 = .ok (.bipush 8, 2) := by decide +kernel
theorem dX1_init_44 : decode cX1_init 44 = .ok (.if_icmp .ge 22, 3) := by decide +kernel
theorem dX1_init_47 : decode cX1_init 47 = .ok (.aload_n 0, 1) := by decide +kernel
theorem dX1_init_48 : decode cX1_init 48 = .ok (.getfield 17, 3) := by decide +kernel
theorem dX1_init_51 : decode cX1_init 51 = .ok (.iload_n 1, 1) := by decide +kernel
theorem dX1_init_52 : decode cX1_init 52 = .ok (.new 15, 3) := by decide +kernel
theorem dX1_init_55 : decode cX1_init 55 = .ok (.dup, 1) := by decide +kernel
theorem dX1_init_56 : decode cX1_init 56 = .ok (.invokespecial 33, 3) := by decide +kernel
theorem dX1_init_59 : decode cX1_init 59 = .ok (.aastore, 1) := by decide +kernel
theorem dX1_init_60 : decode cX1_init 60 = .ok (.iinc 1 1, 3) := by decide +kernel
theorem dX1_init_63 : decode cX1_init 63 = .ok (.goto (-22), 3) := by decide +kernel
theorem dX1_init_66 : decode cX1_init 66 = .ok (.iconst 0, 1) := by decide +kernel
theorem dX1_init_67 : decode cX1_init 67 = .ok (.istore_n 1, 1) := by decide +kernel
theorem dX1_init_68 : decode cX1_init 68 = .ok (.iload_n 1, 1) := by decide +kernel
theorem dX1_init_69 : decode cX1_init 69 = .ok (.bipush 40, 2) := by decide +kernel
theorem dX1_init_71 : decode cX1_init 71 = .ok (.if_icmp .ge 22, 3) := by decide +kernel
theorem dX1_init_74 : decode cX1_init 74 = .ok (.aload_n 0, 1) := by decide +kernel
theorem dX1_init_75 : decode cX1_init 75 = .ok (.getfield 23, 3) := by decide +kernel
theorem dX1_init_78 : decode cX1_init 78 = .ok (.iload_n 1, 1) := by decide +kernel
theorem dX1_init_79 : decode cX1_init 79 = .ok (.new 21, 3) := by decide +kernel
theorem dX1_init_82 : decode cX1_init 82 = .ok (.dup, 1) := by decide +kernel
theorem dX1_init_83 : decode cX1_init 83 = .ok (.invokespecial 34, 3) := by decide +kernel
theorem dX1_init_86 : decode cX1_init 86 = .ok (.aastore, 1) := by decide +kernel
theorem dX1_init_87 : decode cX1_init 87 = .ok (.iinc 1 1, 3) := by decide +kernel
theorem dX1_init_90 : decode cX1_init 90 = .ok (.goto (-22), 3) := by decide +kernel
theorem dX1_init_93 : decode cX1_init 93 = .ok (.iconst 0, 1) := by decide +kernel
theorem dX1_init_94 : decode cX1_init 94 = .ok (.istore_n 1, 1) := by decide +kernel
theorem dX1_init_95 : decode cX1_init 95 = .ok (.iload_n 1, 1) := by decide +kernel
theorem dX1_init_96 : decode cX1_init 96 = .ok (.bipush 10, 2) := by decide +kernel
theorem dX1_init_98 : decode cX1_init 98 = .ok (.if_icmp .ge 22, 3) := by decide +kernel
theorem dX1_init_101 : decode cX1_init 101 = .ok (.aload_n 0, 1) := by decide +kernel
theorem dX1_init_102 : decode cX1_init 102 = .ok (.getfield 29, 3) := by decide +kernel
theorem dX1_init_105 : decode cX1_init 105 = .ok (.iload_n 1, 1) := by decide +kernel
theorem dX1_init_106 : decode cX1_init 106 = .ok (.new 27, 3) := by decide +kernel
theorem dX1_init_109 : decode cX1_init 109 = .ok (.dup, 1) := by decide +kernel
theorem dX1_init_110 : decode cX1_init 110 = .ok (.invokespecial 35, 3) := by decide +kernel
theorem dX1_init_113 : decode cX1_init 113 = .ok (.aastore, 1) := by decide +kernel
theorem dX1_init_114 : decode cX1_init 114 = .ok (.iinc 1 1, 3) := by decide +kernel
theorem dX1_init_117 : decode cX1_init 117 = .ok (.goto (-22), 3) := by decide +kernel
theorem dX1_init_120 : decode cX1_init 120 = .ok (.return_, 1) := by decide +kernel
set_option maxRecDepth 20000 in
theorem ggX1_becomeLike_X2_becomeLike : GoodIn wsX1_becomeLike wsX2_becomeLike := goodIn_r _ [18, 19, 20, 21, 22, 23, 24, 25, 66, 67, 68, 69, 70, 71, 72] (by decide +kernel) (by decide +kernel)
set_option maxRecDepth 20000 in
theorem gX1_becomeLike_X2_becomeLike : GoodIn wsX1_becomeLike (wsV RX1 58 RX2 yX2_becomeLike wsX2_becomeLike) := goodIn_app (goodIn_of _ (by decide +kernel)) ggX1_becomeLike_X2_becomeLike
set_option maxRecDepth 20000 in
theorem ggX1_becomeLike_X3_becomeLike : GoodIn wsX1_becomeLike wsX3_becomeLike := goodIn_r _ [30, 31, 32, 33, 34, 35, 36, 73, 74, 75, 76, 77, 78] (by decide +kernel) (by decide +kernel)
set_option maxRecDepth 20000 in
theorem gX1_becomeLike_X3_becomeLike : GoodIn wsX1_becomeLike (wsV RX1 62 RX3 yX3_becomeLike wsX3_becomeLike) := goodIn_app (goodIn_of _ (by decide +kernel)) ggX1_becomeLike_X3_becomeLike
set_option maxRecDepth 20000 in
theorem ggX1_becomeLike_X0_becomeLike : GoodIn wsX1_becomeLike wsX0_becomeLike := goodIn_r _ [41, 42, 43, 44, 45, 46, 47, 48, 49, 50, 51, 52, 53, 54, 55, 56, 79, 80, 81, 82, 83, 84, 85, 86, 87, 88, 89, 90, 91, 92, 93] (by decide +kernel) (by decide +kernel)
set_option maxRecDepth 20000 in
theorem gX1_becomeLike_X0_becomeLike : GoodIn wsX1_becomeLike (wsV RX1 65 RX0 yX0_becomeLike wsX0_becomeLike) := goodIn_app (goodIn_of _ (by decide +kernel)) ggX1_becomeLike_X0_becomeLike
theorem dX1_becomeLike_0 : decode cX1_becomeLike 0 = .ok (.aload_n 1, 1) := by decide +kernel
theorem dX1_becomeLike_1 : decode cX1_becomeLike 1 = .ok (.getfield 9, 3) := by decide +kernel
theorem dX1_becomeLike_4 : decode cX1_becomeLike 4 = .ok (.iconst 0, 1) := by decide +kernel
theorem dX1_becomeLike_5 : decode cX1_becomeLike 5 = .ok (.aload_n 0, 1) := by decide +kernel
theorem dX1_becomeLike_6 : decode cX1_becomeLike 6 = .ok (.getfield 9, 3) := by decide +kernel
theorem dX1_becomeLike_9 : decode cX1_becomeLike 9 = .ok (.iconst 0, 1) := by decide +kernel
theorem dX1_becomeLike_10 : decode cX1_becomeLike 10 = .ok (.bipush 24, 2) := by decide +kernel
theorem dX1_becomeLike_12 : decode cX1_becomeLike 12 = .ok (.invokestatic 36, 3) := by decide +kernel
theorem dX1_becomeLike_15 : decode cX1_becomeLike 15 = .ok (.aload_n 0, 1) := by decide +kernel
theorem dX1_becomeLike_16 : decode cX1_becomeLike 16 = .ok (.aload_n 1, 1) := by decide +kernel
theorem dX1_becomeLike_17 : decode cX1_becomeLike 17 = .ok (.getfield 42, 3) := by decide +kernel
theorem dX1_becomeLike_20 : decode cX1_becomeLike 20 = .ok (.putfield 42, 3) := by decide +kernel
theorem dX1_becomeLike_23 : decode cX1_becomeLike 23 = .ok (.aload_n 0, 1) := by decide +kernel
theorem dX1_becomeLike_24 : decode cX1_becomeLike 24 = .ok (.aload_n 1, 1) := by decide +kernel
theorem dX1_becomeLike_25 : decode cX1_becomeLike 25 = .ok (.getfield 46, 3) := by decide +kernel
theorem dX1_becomeLike_28 : decode cX1_becomeLike 28 = .ok (.putfield 46, 3) := by decide +kernel
theorem dX1_becomeLike_31 : decode cX1_becomeLike 31 = .ok (.aload_n 0, 1) := by decide +kernel
theorem dX1_becomeLike_32 : decode cX1_becomeLike 32 = .ok (.aload_n 1, 1) := by decide +kernel
theorem dX1_becomeLike_33 : decode cX1_becomeLike 33 = .ok (.getfield 49, 3) := by decide +kernel
theorem dX1_becomeLike_36 : decode cX1_becomeLike 36 = .ok (.putfield 49, 3) := by decide +kernel
theorem dX1_becomeLike_39 : decode cX1_becomeLike 39 = .ok (.aload_n 0, 1) := by decide +kernel
theorem dX1_becomeLike_40 : decode cX1_becomeLike 40 = .ok (.aload_n 1, 1) := by decide +kernel
theorem dX1_becomeLike_41 : decode cX1_becomeLike 41 = .ok (.getfield 52, 3) := by decide +kernel
theorem dX1_becomeLike_44 : decode cX1_becomeLike 44 = .ok (.putfield 52, 3) := by decide +kernel
theorem dX1_becomeLike_47 : decode cX1_becomeLike 47 = .ok (.aload_n 0, 1) := by decide +kernel
theorem dX1_becomeLike_48 : decode cX1_becomeLike 48 = .ok (.aload_n 1, 1) := by decide +kernel
theorem dX1_becomeLike_49 : decode cX1_becomeLike 49 = .ok (.getfield 55, 3) := by decide +kernel
theorem dX1_becomeLike_52 : decode cX1_becomeLike 52 = .ok (.putfield 55, 3) := by decide +kernel
theorem dX1_becomeLike_55 : decode cX1_becomeLike 55 = .ok (.iconst 0, 1) := by decide +kernel
theorem dX1_becomeLike_56 : decode cX1_becomeLike 56 = .ok (.istore_n 2, 1) := by decide +kernel
theorem dX1_becomeLike_57 : decode cX1_becomeLike 57 = .ok (.iload_n 2, 1) := by decide +kernel
theorem dX1_becomeLike_58 : decode cX1_becomeLike 58 = .ok (.aload_n 0, 1) := by decide +kernel
theorem dX1_becomeLike_59 : decode cX1_becomeLike 59 = .ok (.getfield 46, 3) := by decide +kernel
theorem dX1_becomeLike_62 : decode cX1_becomeLike 62 = .ok (.if_icmp .ge 24, 3) := by decide +kernel
theorem dX1_becomeLike_65 : decode cX1_becomeLike 65 = .ok (.aload_n 0, 1) := by decide +kernel
theorem dX1_becomeLike_66 : decode cX1_becomeLike 66 = .ok (.getfield 17, 3) := by decide +kernel
theorem dX1_becomeLike_69 : decode cX1_becomeLike 69 = .ok (.iload_n 2, 1) := by decide +kernel
theorem dX1_becomeLike_70 : decode cX1_becomeLike 70 = .ok (.aaload, 1) := by decide +kernel
theorem dX1_becomeLike_71 : decode cX1_becomeLike 71 = .ok (.aload_n 1, 1) := by decide +kernel
theorem dX1_becomeLike_72 : decode cX1_becomeLike 72 = .ok (.getfield 17, 3) := by decide +kernel
theorem dX1_becomeLike_75 : decode cX1_becomeLike 75 = .ok (.iload_n 2, 1) := by decide +kernel
theorem dX1_becomeLike_76 : decode cX1_becomeLike 76 = .ok (.aaload, 1) := by decide +kernel
theorem dX1_becomeLike_77 : decode cX1_becomeLike 77 = .ok (.invokevirtual 58, 3) := by decide +kernel
theorem dX1_becomeLike_80 : decode cX1_becomeLike 80 = .ok (.iinc 2 1, 3) := by decide +kernel
theorem dX1_becomeLike_83 : decode cX1_becomeLike 83 = .ok (.goto (-26), 3) := by decide +kernel
theorem dX1_becomeLike_86 : decode cX1_becomeLike 86 = .ok (.iconst 0, 1) := by decide +kernel
theorem dX1_becomeLike_87 : decode cX1_becomeLike 87 = .ok (.istore_n 2, 1) := by decide +kernel
theorem dX1_becomeLike_88 : decode cX1_becomeLike 88 = .ok (.iload_n 2, 1) := by decide +kernel
theorem dX1_becomeLike_89 : decode cX1_becomeLike 89 = .ok (.aload_n 0, 1) := by decide +kernel
theorem dX1_becomeLike_90 : decode cX1_becomeLike 90 = .ok (.getfield 49, 3) := by decide +kernel
theorem dX1_becomeLike_93 : decode cX1_becomeLike 93 = .ok (.if_icmp .ge 24, 3) := by decide +kernel
theorem dX1_becomeLike_96 : decode cX1_becomeLike 96 = .ok (.aload_n 0, 1) := by decide +kernel
theorem dX1_becomeLike_97 : decode cX1_becomeLike 97 = .ok (.getfield 23, 3) := by decide +kernel
theorem dX1_becomeLike_100 : decode cX1_becomeLike 100 = .ok (.iload_n 2, 1) := by decide +kernel
theorem dX1_becomeLike_101 : decode cX1_becomeLike 101 = .ok (.aaload, 1) := by decide +kernel
theorem dX1_becomeLike_102 : decode cX1_becomeLike 102 = .ok (.aload_n 1, 1) := by decide +kernel
theorem dX1_becomeLike_103 : decode cX1_becomeLike 103 = .ok (.getfield 23, 3) := by decide +kernel
theorem dX1_becomeLike_106 : decode cX1_becomeLike 106 = .ok (.iload_n 2, 1) := by decide +kernel
theorem dX1_becomeLike_107 : decode cX1_becomeLike 107 = .ok (.aaload, 1) := by decide +kernel
theorem dX1_becomeLike_108 : decode cX1_becomeLike 108 = .ok (.invokevirtual 62, 3) := by decide +kernel
theorem dX1_becomeLike_111 : decode cX1_becomeLike 111 = .ok (.iinc 2 1, 3) := by decide +kernel
theorem dX1_becomeLike_114 : decode cX1_becomeLike 114 = .ok (.goto (-26), 3) := by decide +kernel
theorem dX1_becomeLike_117 : decode cX1_becomeLike 117 = .ok (.iconst 0, 1) := by decide +kernel
theorem dX1_becomeLike_118 : decode cX1_becomeLike 118 = .ok (.istore_n 2, 1) := by decide +kernel
theorem dX1_becomeLike_119 : decode cX1_becomeLike 119 = .ok (.iload_n 2, 1) := by decide +kernel
theorem dX1_becomeLike_120 : decode cX1_becomeLike 120 = .ok (.aload_n 0, 1) := by decide +kernel
theorem dX1_becomeLike_121 : decode cX1_becomeLike 121 = .ok (.getfield 52, 3) := by decide +kernel
theorem dX1_becomeLike_124 : decode cX1_becomeLike 124 = .ok (.if_icmp .ge 24, 3) := by decide +kernel
theorem dX1_becomeLike_127 : decode cX1_becomeLike 127 = .ok (.aload_n 0, 1) := by decide +kernel
theorem dX1_becomeLike_128 : decode cX1_becomeLike 128 = .ok (.getfield 29, 3) := by decide +kernel
theorem dX1_becomeLike_131 : decode cX1_becomeLike 131 = .ok (.iload_n 2, 1) := by decide +kernel
theorem dX1_becomeLike_132 : decode cX1_becomeLike 132 = .ok (.aaload, 1) := by decide +kernel
theorem dX1_becomeLike_133 : decode cX1_becomeLike 133 = .ok (.aload_n 1, 1) := by decide +kernel
theorem dX1_becomeLike_134 : decode cX1_becomeLike 134 = .ok (.getfield 29, 3) := by decide +kernel
theorem dX1_becomeLike_137 : decode cX1_becomeLike 137 = .ok (.iload_n 2, 1) := by decide +kernel
theorem dX1_becomeLike_138 : decode cX1_becomeLike 138 = .ok (.aaload, 1) := by decide +kernel
theorem dX1_becomeLike_139 : decode cX1_becomeLike 139 = .ok (.invokevirtual 65, 3) := by decide +kernel
theorem dX1_becomeLike_142 : decode cX1_becomeLike 142 = .ok (.iinc 2 1, 3) := by decide +kernel
theorem dX1_becomeLike_145 : decode cX1_becomeLike 145 = .ok (.goto (-26), 3) := by decide +kernel
theorem dX1_becomeLike_148 : decode cX1_becomeLike 148 = .ok (.return_, 1) := by decide +kernel
theorem dX1_isShelter_0 : decode cX1_isShelter 0 = .ok (.iload_n 1, 1) := by decide +kernel
theorem dX1_isShelter_1 : decode cX1_isShelter 1 = .ok (.ifCond .lt 15, 3) := by decide +kernel
theorem dX1_isShelter_4 : decode cX1_isShelter 4 = .ok (.iload_n 1, 1) := by decide +kernel
theorem dX1_isShelter_5 : decode cX1_isShelter 5 = .ok (.aload_n 0, 1) := by decide +kernel
theorem dX1_isShelter_6 : decode cX1_isShelter 6 = .ok (.getfield 46, 3) := by decide +kernel
theorem dX1_isShelter_9 : decode cX1_isShelter 9 = .ok (.if_icmp .ge 7, 3) := by decide +kernel
theorem dX1_isShelter_12 : decode cX1_isShelter 12 = .ok (.iconst 1, 1) := by decide +kernel
theorem dX1_isShelter_13 : decode cX1_isShelter 13 = .ok (.goto 4, 3) := by decide +kernel
theorem dX1_isShelter_16 : decode cX1_isShelter 16 = .ok (.iconst 0, 1) := by decide +kernel
theorem dX1_isShelter_17 : decode cX1_isShelter 17 = .ok (.ireturn, 1) := by decide +kernel
theorem dX1_isUmbrella_0 : decode cX1_isUmbrella 0 = .ok (.iload_n 1, 1) := by decide +kernel
theorem dX1_isUmbrella_1 : decode cX1_isUmbrella 1 = .ok (.ifCond .lt 15, 3) := by decide +kernel
theorem dX1_isUmbrella_4 : decode cX1_isUmbrella 4 = .ok (.iload_n 1, 1) := by decide +kernel
theorem dX1_isUmbrella_5 : decode cX1_isUmbrella 5 = .ok (.aload_n 0, 1) := by decide +kernel
theorem dX1_isUmbrella_6 : decode cX1_isUmbrella 6 = .ok (.getfield 49, 3) := by decide +kernel
theorem dX1_isUmbrella_9 : decode cX1_isUmbrella 9 = .ok (.if_icmp .ge 7, 3) := by decide +kernel
theorem dX1_isUmbrella_12 : decode cX1_isUmbrella 12 = .ok (.iconst 1, 1) := by decide +kernel
theorem dX1_isUmbrella_13 : decode cX1_isUmbrella 13 = .ok (.goto 4, 3) := by decide +kernel
theorem dX1_isUmbrella_16 : decode cX1_isUmbrella 16 = .ok (.iconst 0, 1) := by decide +kernel
theorem dX1_isUmbrella_17 : decode cX1_isUmbrella 17 = .ok (.ireturn, 1) := by decide +kernel
theorem dX1_isCitizen_0 : decode cX1_isCitizen 0 = .ok (.iload_n 1, 1) := by decide +kernel
theorem dX1_isCitizen_1 : decode cX1_isCitizen 1 = .ok (.ifCond .lt 15, 3) := by decide +kernel
theorem dX1_isCitizen_4 : decode cX1_isCitizen 4 = .ok (.iload_n 1, 1) := by decide +kernel
theorem dX1_isCitizen_5 : decode cX1_isCitizen 5 = .ok (.aload_n 0, 1) := by decide +kernel
theorem dX1_isCitizen_6 : decode cX1_isCitizen 6 = .ok (.getfield 52, 3) := by decide +kernel
theorem dX1_isCitizen_9 : decode cX1_isCitizen 9 = .ok (.if_icmp .ge 7, 3) := by decide +kernel
theorem dX1_isCitizen_12 : decode cX1_isCitizen 12 = .ok (.iconst 1, 1) := by decide +kernel
theorem dX1_isCitizen_13 : decode cX1_isCitizen 13 = .ok (.goto 4, 3) := by decide +kernel
theorem dX1_isCitizen_16 : decode cX1_isCitizen 16 = .ok (.iconst 0, 1) := by decide +kernel
theorem dX1_isCitizen_17 : decode cX1_isCitizen 17 = .ok (.ireturn, 1) := by decide +kernel
theorem dX1_isBuiltOn_0 : decode cX1_isBuiltOn 0 = .ok (.iconst 0, 1) := by decide +kernel
theorem dX1_isBuiltOn_1 : decode cX1_isBuiltOn 1 = .ok (.istore_n 2, 1) := by decide +kernel
theorem dX1_isBuiltOn_2 : decode cX1_isBuiltOn 2 = .ok (.iload_n 2, 1) := by decide +kernel
theorem dX1_isBuiltOn_3 : decode cX1_isBuiltOn 3 = .ok (.aload_n 0, 1) := by decide +kernel
theorem dX1_isBuiltOn_4 : decode cX1_isBuiltOn 4 = .ok (.getfield 46, 3) := by decide +kernel
theorem dX1_isBuiltOn_7 : decode cX1_isBuiltOn 7 = .ok (.if_icmp .ge 24, 3) := by decide +kernel
theorem dX1_isBuiltOn_10 : decode cX1_isBuiltOn 10 = .ok (.aload_n 0, 1) := by decide +kernel
theorem dX1_isBuiltOn_11 : decode cX1_isBuiltOn 11 = .ok (.getfield 17, 3) := by decide +kernel
theorem dX1_isBuiltOn_14 : decode cX1_isBuiltOn 14 = .ok (.iload_n 2, 1) := by decide +kernel
theorem dX1_isBuiltOn_15 : decode cX1_isBuiltOn 15 = .ok (.aaload, 1) := by decide +kernel
theorem dX1_isBuiltOn_16 : decode cX1_isBuiltOn 16 = .ok (.getfield 68, 3) := by decide +kernel
theorem dX1_isBuiltOn_19 : decode cX1_isBuiltOn 19 = .ok (.iload_n 1, 1) := by decide +kernel
theorem dX1_isBuiltOn_20 : decode cX1_isBuiltOn 20 = .ok (.if_icmp .ne 5, 3) := by decide +kernel
theorem dX1_isBuiltOn_23 : decode cX1_isBuiltOn 23 = .ok (.iconst 1, 1) := by decide +kernel
theorem dX1_isBuiltOn_24 : decode cX1_isBuiltOn 24 = .ok (.ireturn, 1) := by decide +kernel
theorem dX1_isBuiltOn_25 : decode cX1_isBuiltOn 25 = .ok (.iinc 2 1, 3) := by decide +kernel
theorem dX1_isBuiltOn_28 : decode cX1_isBuiltOn 28 = .ok (.goto (-26), 3) := by decide +kernel
theorem dX1_isBuiltOn_31 : decode cX1_isBuiltOn 31 = .ok (.iconst 0, 1) := by decide +kernel
theorem dX1_isBuiltOn_32 : decode cX1_isBuiltOn 32 = .ok (.ireturn, 1) := by decide +kernel
set_option maxRecDepth 20000 in
theorem ggX1_addShelter_X2_open : GoodIn wsX1_addShelter wsX2_open := goodIn_r _ [7, 8, 9, 19, 20, 21, 22, 23, 24, 25] (by decide +kernel) (by decide +kernel)
set_option maxRecDepth 20000 in
theorem gX1_addShelter_X2_open : GoodIn wsX1_addShelter (wsV RX1 71 RX2 yX2_open wsX2_open) := goodIn_app (goodIn_of _ (by decide +kernel)) ggX1_addShelter_X2_open
theorem dX1_addShelter_0 : decode cX1_addShelter 0 = .ok (.aload_n 0, 1) := by decide +kernel
theorem dX1_addShelter_1 : decode cX1_addShelter 1 = .ok (.getfield 46, 3) := by decide +kernel
theorem dX1_addShelter_4 : decode cX1_addShelter 4 = .ok (.bipush 8, 2) := by decide +kernel
theorem dX1_addShelter_6 : decode cX1_addShelter 6 = .ok (.if_icmp .lt 5, 3) := by decide +kernel
theorem dX1_addShelter_9 : decode cX1_addShelter 9 = .ok (.iconst (-1), 1) := by decide +kernel
theorem dX1_addShelter_10 : decode cX1_addShelter 10 = .ok (.ireturn, 1) := by decide +kernel
theorem dX1_addShelter_11 : decode cX1_addShelter 11 = .ok (.aload_n 0, 1) := by decide +kernel
theorem dX1_addShelter_12 : decode cX1_addShelter 12 = .ok (.getfield 17, 3) := by decide +kernel
theorem dX1_addShelter_15 : decode cX1_addShelter 15 = .ok (.aload_n 0, 1) := by decide +kernel
theorem dX1_addShelter_16 : decode cX1_addShelter 16 = .ok (.getfield 46, 3) := by decide +kernel
theorem dX1_addShelter_19 : decode cX1_addShelter 19 = .ok (.aaload, 1) := by decide +kernel
theorem dX1_addShelter_20 : decode cX1_addShelter 20 = .ok (.iload_n 1, 1) := by decide +kernel
theorem dX1_addShelter_21 : decode cX1_addShelter 21 = .ok (.iload_n 2, 1) := by decide +kernel
theorem dX1_addShelter_22 : decode cX1_addShelter 22 = .ok (.invokevirtual 71, 3) := by decide +kernel
theorem dX1_addShelter_25 : decode cX1_addShelter 25 = .ok (.aload_n 0, 1) := by decide +kernel
theorem dX1_addShelter_26 : decode cX1_addShelter 26 = .ok (.dup, 1) := by decide +kernel
theorem dX1_addShelter_27 : decode cX1_addShelter 27 = .ok (.getfield 46, 3) := by decide +kernel
theorem dX1_addShelter_30 : decode cX1_addShelter 30 = .ok (.iconst 1, 1) := by decide +kernel
theorem dX1_addShelter_31 : decode cX1_addShelter 31 = .ok (.iadd, 1) := by decide +kernel
theorem dX1_addShelter_32 : decode cX1_addShelter 32 = .ok (.putfield 46, 3) := by decide +kernel
theorem dX1_addShelter_35 : decode cX1_addShelter 35 = .ok (.aload_n 0, 1) := by decide +kernel
theorem dX1_addShelter_36 : decode cX1_addShelter 36 = .ok (.getfield 46, 3) := by decide +kernel
theorem dX1_addShelter_39 : decode cX1_addShelter 39 = .ok (.iconst 1, 1) := by decide +kernel
theorem dX1_addShelter_40 : decode cX1_addShelter 40 = .ok (.isub, 1) := by decide +kernel
theorem dX1_addShelter_41 : decode cX1_addShelter 41 = .ok (.ireturn, 1) := by decide +kernel
set_option maxRecDepth 20000 in
theorem ggX1_addUmbrella_X3_beNewIn : GoodIn wsX1_addUmbrella wsX3_beNewIn := goodIn_r _ [7, 8, 9, 10, 11, 12, 13, 6, 14, 15, 16, 17, 27, 28, 29, 30, 31, 32] (by decide +kernel) (by decide +kernel)
set_option maxRecDepth 20000 in
theorem gX1_addUmbrella_X3_beNewIn : GoodIn wsX1_addUmbrella (wsV RX1 75 RX3 yX3_beNewIn wsX3_beNewIn) := goodIn_app (goodIn_of _ (by decide +kernel)) ggX1_addUmbrella_X3_beNewIn
theorem dX1_addUmbrella_0 : decode cX1_addUmbrella 0 = .ok (.aload_n 0, 1) := by decide +kernel
theorem dX1_addUmbrella_1 : decode cX1_addUmbrella 1 = .ok (.getfield 49, 3) := by decide +kernel
theorem dX1_addUmbrella_4 : decode cX1_addUmbrella 4 = .ok (.bipush 40, 2) := by decide +kernel
theorem dX1_addUmbrella_6 : decode cX1_addUmbrella 6 = .ok (.if_icmp .ge 26, 3) := by decide +kernel
theorem dX1_addUmbrella_9 : decode cX1_addUmbrella 9 = .ok (.aload_n 0, 1) := by decide +kernel
theorem dX1_addUmbrella_10 : decode cX1_addUmbrella 10 = .ok (.getfield 23, 3) := by decide +kernel
theorem dX1_addUmbrella_13 : decode cX1_addUmbrella 13 = .ok (.aload_n 0, 1) := by decide +kernel
theorem dX1_addUmbrella_14 : decode cX1_addUmbrella 14 = .ok (.getfield 49, 3) := by decide +kernel
theorem dX1_addUmbrella_17 : decode cX1_addUmbrella 17 = .ok (.aaload, 1) := by decide +kernel
theorem dX1_addUmbrella_18 : decode cX1_addUmbrella 18 = .ok (.iload_n 1, 1) := by decide +kernel
theorem dX1_addUmbrella_19 : decode cX1_addUmbrella 19 = .ok (.invokevirtual 75, 3) := by decide +kernel
theorem dX1_addUmbrella_22 : decode cX1_addUmbrella 22 = .ok (.aload_n 0, 1) := by decide +kernel
theorem dX1_addUmbrella_23 : decode cX1_addUmbrella 23 = .ok (.dup, 1) := by decide +kernel
theorem dX1_addUmbrella_24 : decode cX1_addUmbrella 24 = .ok (.getfield 49, 3) := by decide +kernel
theorem dX1_addUmbrella_27 : decode cX1_addUmbrella 27 = .ok (.iconst 1, 1) := by decide +kernel
theorem dX1_addUmbrella_28 : decode cX1_addUmbrella 28 = .ok (.iadd, 1) := by decide +kernel
theorem dX1_addUmbrella_29 : decode cX1_addUmbrella 29 = .ok (.putfield 49, 3) := by decide +kernel
theorem dX1_addUmbrella_32 : decode cX1_addUmbrella 32 = .ok (.return_, 1) := by decide +kernel
set_option maxRecDepth 20000 in
theorem ggX1_addPerson_X1_hoursBetween : GoodIn wsX1_addPerson wsX1_hoursBetween := goodIn_r _ [10, 11, 12, 13, 14, 15, 16, 17, 18, 19, 20, 21, 22, 9, 23, 24, 37, 38, 39, 40, 41, 42, 43, 44, 45, 61, 62, 63, 64, 65, 66, 67] (by decide +kernel) (by decide +kernel)
set_option maxRecDepth 20000 in
theorem gX1_addPerson_X1_hoursBetween : GoodIn wsX1_addPerson (wsV RX1 79 RX1 yX1_hoursBetween wsX1_hoursBetween) := goodIn_app (goodIn_of _ (by decide +kernel)) ggX1_addPerson_X1_hoursBetween
set_option maxRecDepth 20000 in
theorem ggX1_addPerson_X0_settle : GoodIn wsX1_addPerson wsX0_settle := goodIn_r _ [29, 30, 31, 32, 33, 34, 35, 36, 46, 47, 48, 49, 50, 51, 52, 53, 54, 55, 56, 57, 58, 59, 60] (by decide +kernel) (by decide +kernel)
set_option maxRecDepth 20000 in
theorem gX1_addPerson_X0_settle : GoodIn wsX1_addPerson (wsV RX1 83 RX0 yX0_settle wsX0_settle) := goodIn_app (goodIn_of _ (by decide +kernel)) ggX1_addPerson_X0_settle
theorem dX1_addPerson_0 : decode cX1_addPerson 0 = .ok (.aload_n 0, 1) := by decide +kernel
theorem dX1_addPerson_1 : decode cX1_addPerson 1 = .ok (.getfield 52, 3) := by decide +kernel
theorem dX1_addPerson_4 : decode cX1_addPerson 4 = .ok (.bipush 10, 2) := by decide +kernel
theorem dX1_addPerson_6 : decode cX1_addPerson 6 = .ok (.if_icmp .lt 5, 3) := by decide +kernel
theorem dX1_addPerson_9 : decode cX1_addPerson 9 = .ok (.iconst (-1), 1) := by decide +kernel
theorem dX1_addPerson_10 : decode cX1_addPerson 10 = .ok (.ireturn, 1) := by decide +kernel
theorem dX1_addPerson_11 : decode cX1_addPerson 11 = .ok (.aload_n 0, 1) := by decide +kernel
theorem dX1_addPerson_12 : decode cX1_addPerson 12 = .ok (.getfield 29, 3) := by decide +kernel
theorem dX1_addPerson_15 : decode cX1_addPerson 15 = .ok (.aload_n 0, 1) := by decide +kernel
theorem dX1_addPerson_16 : decode cX1_addPerson 16 = .ok (.getfield 52, 3) := by decide +kernel
theorem dX1_addPerson_19 : decode cX1_addPerson 19 = .ok (.aaload, 1) := by decide +kernel
theorem dX1_addPerson_20 : decode cX1_addPerson 20 = .ok (.astore 6, 2) := by decide +kernel
theorem dX1_addPerson_22 : decode cX1_addPerson 22 = .ok (.aload 6, 2) := by decide +kernel
theorem dX1_addPerson_24 : decode cX1_addPerson 24 = .ok (.iload_n 1, 1) := by decide +kernel
theorem dX1_addPerson_25 : decode cX1_addPerson 25 = .ok (.iload_n 2, 1) := by decide +kernel
theorem dX1_addPerson_26 : decode cX1_addPerson 26 = .ok (.aload_n 0, 1) := by decide +kernel
theorem dX1_addPerson_27 : decode cX1_addPerson 27 = .ok (.iload_n 1, 1) := by decide +kernel
theorem dX1_addPerson_28 : decode cX1_addPerson 28 = .ok (.iload_n 2, 1) := by decide +kernel
theorem dX1_addPerson_29 : decode cX1_addPerson 29 = .ok (.invokevirtual 79, 3) := by decide +kernel
theorem dX1_addPerson_32 : decode cX1_addPerson 32 = .ok (.invokevirtual 83, 3) := by decide +kernel
theorem dX1_addPerson_35 : decode cX1_addPerson 35 = .ok (.aload 6, 2) := by decide +kernel
theorem dX1_addPerson_37 : decode cX1_addPerson 37 = .ok (.iload_n 3, 1) := by decide +kernel
theorem dX1_addPerson_38 : decode cX1_addPerson 38 = .ok (.putfield 87, 3) := by decide +kernel
theorem dX1_addPerson_41 : decode cX1_addPerson 41 = .ok (.aload 6, 2) := by decide +kernel
theorem dX1_addPerson_43 : decode cX1_addPerson 43 = .ok (.iload 4, 2) := by decide +kernel
theorem dX1_addPerson_45 : decode cX1_addPerson 45 = .ok (.putfield 90, 3) := by decide +kernel
theorem dX1_addPerson_48 : decode cX1_addPerson 48 = .ok (.aload 6, 2) := by decide +kernel
theorem dX1_addPerson_50 : decode cX1_addPerson 50 = .ok (.iload 5, 2) := by decide +kernel
theorem dX1_addPerson_52 : decode cX1_addPerson 52 = .ok (.putfield 93, 3) := by decide +kernel
theorem dX1_addPerson_55 : decode cX1_addPerson 55 = .ok (.aload_n 0, 1) := by decide +kernel
theorem dX1_addPerson_56 : decode cX1_addPerson 56 = .ok (.dup, 1) := by decide +kernel
theorem dX1_addPerson_57 : decode cX1_addPerson 57 = .ok (.getfield 52, 3) := by decide +kernel
theorem dX1_addPerson_60 : decode cX1_addPerson 60 = .ok (.iconst 1, 1) := by decide +kernel
theorem dX1_addPerson_61 : decode cX1_addPerson 61 = .ok (.iadd, 1) := by decide +kernel
theorem dX1_addPerson_62 : decode cX1_addPerson 62 = .ok (.putfield 52, 3) := by decide +kernel
theorem dX1_addPerson_65 : decode cX1_addPerson 65 = .ok (.aload_n 0, 1) := by decide +kernel
theorem dX1_addPerson_66 : decode cX1_addPerson 66 = .ok (.getfield 52, 3) := by decide +kernel
theorem dX1_addPerson_69 : decode cX1_addPerson 69 = .ok (.iconst 1, 1) := by decide +kernel
theorem dX1_addPerson_70 : decode cX1_addPerson 70 = .ok (.isub, 1) := by decide +kernel
theorem dX1_addPerson_71 : decode cX1_addPerson 71 = .ok (.ireturn, 1) := by decide +kernel
set_option maxRecDepth 20000 in
theorem ggX1_hoursBetween_X1_isShelter : GoodIn wsX1_hoursBetween wsX1_isShelter := goodIn_r _ [14, 15, 16, 17, 18, 19, 20, 21, 22, 23, 24] (by decide +kernel) (by decide +kernel)
set_option maxRecDepth 20000 in
theorem gX1_hoursBetween_X1_isShelter : GoodIn wsX1_hoursBetween (wsV RX1 96 RX1 yX1_isShelter wsX1_isShelter) := goodIn_app (goodIn_of _ (by decide +kernel)) ggX1_hoursBetween_X1_isShelter
theorem dX1_hoursBetween_0 : decode cX1_hoursBetween 0 = .ok (.aload_n 0, 1) := by decide +kernel
theorem dX1_hoursBetween_1 : decode cX1_hoursBetween 1 = .ok (.iload_n 1, 1) := by decide +kernel
theorem dX1_hoursBetween_2 : decode cX1_hoursBetween 2 = .ok (.invokevirtual 96, 3) := by decide +kernel
theorem dX1_hoursBetween_5 : decode cX1_hoursBetween 5 = .ok (.ifCond .eq 11, 3) := by decide +kernel
theorem dX1_hoursBetween_8 : decode cX1_hoursBetween 8 = .ok (.aload_n 0, 1) := by decide +kernel
theorem dX1_hoursBetween_9 : decode cX1_hoursBetween 9 = .ok (.iload_n 2, 1) := by decide +kernel
theorem dX1_hoursBetween_10 : decode cX1_hoursBetween 10 = .ok (.invokevirtual 96, 3) := by decide +kernel
theorem dX1_hoursBetween_13 : decode cX1_hoursBetween 13 = .ok (.ifCond .ne 5, 3) := by decide +kernel
theorem dX1_hoursBetween_16 : decode cX1_hoursBetween 16 = .ok (.iconst 1, 1) := by decide +kernel
theorem dX1_hoursBetween_17 : decode cX1_hoursBetween 17 = .ok (.ireturn, 1) := by decide +kernel
theorem dX1_hoursBetween_18 : decode cX1_hoursBetween 18 = .ok (.iconst 1, 1) := by decide +kernel
theorem dX1_hoursBetween_19 : decode cX1_hoursBetween 19 = .ok (.aload_n 0, 1) := by decide +kernel
theorem dX1_hoursBetween_20 : decode cX1_hoursBetween 20 = .ok (.getfield 17, 3) := by decide +kernel
theorem dX1_hoursBetween_23 : decode cX1_hoursBetween 23 = .ok (.iload_n 1, 1) := by decide +kernel
theorem dX1_hoursBetween_24 : decode cX1_hoursBetween 24 = .ok (.aaload, 1) := by decide +kernel
theorem dX1_hoursBetween_25 : decode cX1_hoursBetween 25 = .ok (.getfield 68, 3) := by decide +kernel
theorem dX1_hoursBetween_28 : decode cX1_hoursBetween 28 = .ok (.aload_n 0, 1) := by decide +kernel
theorem dX1_hoursBetween_29 : decode cX1_hoursBetween 29 = .ok (.getfield 17, 3) := by decide +kernel
theorem dX1_hoursBetween_32 : decode cX1_hoursBetween 32 = .ok (.iload_n 2, 1) := by decide +kernel
theorem dX1_hoursBetween_33 : decode cX1_hoursBetween 33 = .ok (.aaload, 1) := by decide +kernel
theorem dX1_hoursBetween_34 : decode cX1_hoursBetween 34 = .ok (.getfield 68, 3) := by decide +kernel
theorem dX1_hoursBetween_37 : decode cX1_hoursBetween 37 = .ok (.isub, 1) := by decide +kernel
theorem dX1_hoursBetween_38 : decode cX1_hoursBetween 38 = .ok (.invokestatic 100, 3) := by decide +kernel
theorem dX1_hoursBetween_41 : decode cX1_hoursBetween 41 = .ok (.bipush 10, 2) := by decide +kernel
theorem dX1_hoursBetween_43 : decode cX1_hoursBetween 43 = .ok (.idiv, 1) := by decide +kernel
theorem dX1_hoursBetween_44 : decode cX1_hoursBetween 44 = .ok (.invokestatic 106, 3) := by decide +kernel
theorem dX1_hoursBetween_47 : decode cX1_hoursBetween 47 = .ok (.ireturn, 1) := by decide +kernel
set_option maxRecDepth 20000 in
theorem ggX1_letGoBy_J9_floorMod_7cf53 : GoodIn wsX1_letGoBy wsJ9_floorMod_7cf53 := goodIn_r _ [6] (by decide +kernel) (by decide +kernel)
set_option maxRecDepth 20000 in
theorem gX1_letGoBy_J9_floorMod_7cf53 : GoodIn wsX1_letGoBy (va_wsS RX1 109 yJ9_floorMod_7cf53 wsJ9_floorMod_7cf53) := goodIn_app (goodIn_of _ (by decide +kernel)) ggX1_letGoBy_J9_floorMod_7cf53
set_option maxRecDepth 20000 in
theorem ggX1_letGoBy_X1_letUmbrellasWait : GoodIn wsX1_letGoBy wsX1_letUmbrellasWait := goodIn_r _ [11, 12, 13, 14, 15, 16, 17, 18, 19, 20, 21, 22, 23, 24, 25, 26, 27, 163, 164, 165, 166, 167, 168, 169, 170, 171, 172, 173, 174, 175, 176, 177] (by decide +kernel) (by decide +kernel)
set_option maxRecDepth 20000 in
theorem gX1_letGoBy_X1_letUmbrellasWait : GoodIn wsX1_letGoBy (wsV RX1 112 RX1 yX1_letUmbrellasWait wsX1_letUmbrellasWait) := goodIn_app (goodIn_of _ (by decide +kernel)) ggX1_letGoBy_X1_letUmbrellasWait
set_option maxRecDepth 20000 in
theorem ggX1_letGoBy_X1_letCitizensLeave : GoodIn wsX1_letGoBy wsX1_letCitizensLeave := goodIn_r _ [31, 2, 32, 33, 3, 4, 5, 6, 34, 35, 36, 37, 38, 39, 40, 41, 42, 43, 44, 45, 46, 10, 47, 48, 49, 50, 51, 52, 13, 53, 54, 55, 56, 57, 58, 59, 60, 61, 62, 63, 64, 12, 65, 66, 67, 68, 17, 69, 20, 27, 70, 71, 72, 73, 74, 75, 76, 77, 78, 79, 80, 81, 82, 83, 84, 22, 85, 86, 87, 88, 89, 90, 91, 92, 163, 164, 165, 166, 167, 168, 169, 170, 171, 178, 179, 180, 181, 182, 183, 184, 185, 186, 187, 188, 189, 190, 191, 192, 193, 194, 195, 196, 197, 198, 199, 172, 173, 174, 175, 176, 177] (by decide +kernel) (by decide +kernel)
set_option maxRecDepth 20000 in
theorem gX1_letGoBy_X1_letCitizensLeave : GoodIn wsX1_letGoBy (wsV RX1 115 RX1 yX1_letCitizensLeave wsX1_letCitizensLeave) := goodIn_app (goodIn_of _ (by decide +kernel)) ggX1_letGoBy_X1_letCitizensLeave
set_option maxRecDepth 20000 in
theorem ggX1_letGoBy_X1_letCitizensWalk : GoodIn wsX1_letGoBy wsX1_letCitizensWalk := goodIn_r _ [96, 32, 33, 97, 98, 99, 100, 10, 101, 53, 102, 13, 65, 70, 71, 72, 73, 12, 103, 104, 105, 17, 106, 20, 27, 19, 107, 108, 109, 110, 111, 48, 112, 49, 113, 114, 115, 37, 116, 117, 118, 119, 24, 25, 26, 120, 121, 122, 123, 124, 125, 126, 127, 128, 129, 130, 131, 132, 133, 134, 135, 136, 56, 57, 58, 59, 60, 137, 138, 139, 77, 140, 141, 142, 163, 164, 165, 166, 167, 168, 169, 170, 171, 178, 179, 180, 181, 182, 183, 184, 185, 186, 187, 188, 189, 190, 191, 192, 172, 173, 174, 175, 176, 177, 193, 194, 195, 196, 197, 198, 199] (by decide +kernel) (by decide +kernel)
set_option maxRecDepth 20000 in
theorem gX1_letGoBy_X1_letCitizensWalk : GoodIn wsX1_letGoBy (wsV RX1 118 RX1 yX1_letCitizensWalk wsX1_letCitizensWalk) := goodIn_app (goodIn_of _ (by decide +kernel)) ggX1_letGoBy_X1_letCitizensWalk
set_option maxRecDepth 20000 in
theorem ggX1_letGoBy_X1_driveCart : GoodIn wsX1_letGoBy wsX1_driveCart := goodIn_r _ [146, 60, 13, 147, 148, 149, 150, 10, 151, 12, 66, 67, 68, 17, 69, 20, 27, 61, 62, 63, 64, 65, 70, 71, 72, 73, 119, 24, 25, 26, 19, 163, 164, 165, 166, 167, 168, 169, 170, 171, 172, 173, 174, 175, 176, 177] (by decide +kernel) (by decide +kernel)
set_option maxRecDepth 20000 in
theorem gX1_letGoBy_X1_driveCart : GoodIn wsX1_letGoBy (wsV RX1 121 RX1 yX1_driveCart wsX1_driveCart) := goodIn_app (goodIn_of _ (by decide +kernel)) ggX1_letGoBy_X1_driveCart
set_option maxRecDepth 20000 in
theorem ggX1_letGoBy_X1_endDay : GoodIn wsX1_letGoBy wsX1_endDay := goodIn_r _ [155, 60, 49, 156, 157, 158, 77, 159, 142, 160, 161, 126, 127, 128, 80, 162, 135, 136, 163, 164, 165, 166, 167, 168, 169, 170, 171, 193, 194, 195, 196, 197, 198, 199] (by decide +kernel) (by decide +kernel)
set_option maxRecDepth 20000 in
theorem gX1_letGoBy_X1_endDay : GoodIn wsX1_letGoBy (wsV RX1 124 RX1 yX1_endDay wsX1_endDay) := goodIn_app (goodIn_of _ (by decide +kernel)) ggX1_letGoBy_X1_endDay
theorem dX1_letGoBy_0 : decode cX1_letGoBy 0 = .ok (.iconst 0, 1) := by decide +kernel
theorem dX1_letGoBy_1 : decode cX1_letGoBy 1 = .ok (.istore_n 2, 1) := by decide +kernel
theorem dX1_letGoBy_2 : decode cX1_letGoBy 2 = .ok (.iconst 0, 1) := by decide +kernel
theorem dX1_letGoBy_3 : decode cX1_letGoBy 3 = .ok (.istore_n 3, 1) := by decide +kernel
theorem dX1_letGoBy_4 : decode cX1_letGoBy 4 = .ok (.iload_n 3, 1) := by decide +kernel
theorem dX1_letGoBy_5 : decode cX1_letGoBy 5 = .ok (.iload_n 1, 1) := by decide +kernel
theorem dX1_letGoBy_6 : decode cX1_letGoBy 6 = .ok (.if_icmp .ge 77, 3) := by decide +kernel
theorem dX1_letGoBy_9 : decode cX1_letGoBy 9 = .ok (.aload_n 0, 1) := by decide +kernel
theorem dX1_letGoBy_10 : decode cX1_letGoBy 10 = .ok (.getfield 42, 3) := by decide +kernel
theorem dX1_letGoBy_13 : decode cX1_letGoBy 13 = .ok (.bipush 24, 2) := by decide +kernel
theorem dX1_letGoBy_15 : decode cX1_letGoBy 15 = .ok (.invokestatic 109, 3) := by decide +kernel
theorem dX1_letGoBy_18 : decode cX1_letGoBy 18 = .ok (.istore 4, 2) := by decide +kernel
theorem dX1_letGoBy_20 : decode cX1_letGoBy 20 = .ok (.aload_n 0, 1) := by decide +kernel
theorem dX1_letGoBy_21 : decode cX1_letGoBy 21 = .ok (.invokevirtual 112, 3) := by decide +kernel
theorem dX1_letGoBy_24 : decode cX1_letGoBy 24 = .ok (.iload_n 2, 1) := by decide +kernel
theorem dX1_letGoBy_25 : decode cX1_letGoBy 25 = .ok (.aload_n 0, 1) := by decide +kernel
theorem dX1_letGoBy_26 : decode cX1_letGoBy 26 = .ok (.iload 4, 2) := by decide +kernel
theorem dX1_letGoBy_28 : decode cX1_letGoBy 28 = .ok (.invokevirtual 115, 3) := by decide +kernel
theorem dX1_letGoBy_31 : decode cX1_letGoBy 31 = .ok (.iadd, 1) := by decide +kernel
theorem dX1_letGoBy_32 : decode cX1_letGoBy 32 = .ok (.istore_n 2, 1) := by decide +kernel
theorem dX1_letGoBy_33 : decode cX1_letGoBy 33 = .ok (.aload_n 0, 1) := by decide +kernel
theorem dX1_letGoBy_34 : decode cX1_letGoBy 34 = .ok (.aload_n 0, 1) := by decide +kernel
theorem dX1_letGoBy_35 : decode cX1_letGoBy 35 = .ok (.getfield 9, 3) := by decide +kernel
theorem dX1_letGoBy_38 : decode cX1_letGoBy 38 = .ok (.iload 4, 2) := by decide +kernel
theorem dX1_letGoBy_40 : decode cX1_letGoBy 40 = .ok (.iaload, 1) := by decide +kernel
theorem dX1_letGoBy_41 : decode cX1_letGoBy 41 = .ok (.invokevirtual 118, 3) := by decide +kernel
theorem dX1_letGoBy_44 : decode cX1_letGoBy 44 = .ok (.iload 4, 2) := by decide +kernel
theorem dX1_letGoBy_46 : decode cX1_letGoBy 46 = .ok (.bipush 6, 2) := by decide +kernel
theorem dX1_letGoBy_48 : decode cX1_letGoBy 48 = .ok (.irem, 1) := by decide +kernel
theorem dX1_letGoBy_49 : decode cX1_letGoBy 49 = .ok (.ifCond .ne 7, 3) := by decide +kernel
theorem dX1_letGoBy_52 : decode cX1_letGoBy 52 = .ok (.aload_n 0, 1) := by decide +kernel
theorem dX1_letGoBy_53 : decode cX1_letGoBy 53 = .ok (.invokevirtual 121, 3) := by decide +kernel
theorem dX1_letGoBy_56 : decode cX1_letGoBy 56 = .ok (.iload 4, 2) := by decide +kernel
theorem dX1_letGoBy_58 : decode cX1_letGoBy 58 = .ok (.bipush 23, 2) := by decide +kernel
theorem dX1_letGoBy_60 : decode cX1_letGoBy 60 = .ok (.if_icmp .ne 7, 3) := by decide +kernel
theorem dX1_letGoBy_63 : decode cX1_letGoBy 63 = .ok (.aload_n 0, 1) := by decide +kernel
theorem dX1_letGoBy_64 : decode cX1_letGoBy 64 = .ok (.invokevirtual 124, 3) := by decide +kernel
theorem dX1_letGoBy_67 : decode cX1_letGoBy 67 = .ok (.aload_n 0, 1) := by decide +kernel
theorem dX1_letGoBy_68 : decode cX1_letGoBy 68 = .ok (.dup, 1) := by decide +kernel
theorem dX1_letGoBy_69 : decode cX1_letGoBy 69 = .ok (.getfield 42, 3) := by decide +kernel
theorem dX1_letGoBy_72 : decode cX1_letGoBy 72 = .ok (.iconst 1, 1) := by decide +kernel
theorem dX1_letGoBy_73 : decode cX1_letGoBy 73 = .ok (.iadd, 1) := by decide +kernel
theorem dX1_letGoBy_74 : decode cX1_letGoBy 74 = .ok (.putfield 42, 3) := by decide +kernel
theorem dX1_letGoBy_77 : decode cX1_letGoBy 77 = .ok (.iinc 3 1, 3) := by decide +kernel
theorem dX1_letGoBy_80 : decode cX1_letGoBy 80 = .ok (.goto (-76), 3) := by decide +kernel
theorem dX1_letGoBy_83 : decode cX1_letGoBy 83 = .ok (.iload_n 2, 1) := by decide +kernel
theorem dX1_letGoBy_84 : decode cX1_letGoBy 84 = .ok (.ireturn, 1) := by decide +kernel
set_option maxRecDepth 20000 in
theorem ggX1_letUmbrellasWait_X3_waitAnHour : GoodIn wsX1_letUmbrellasWait wsX3_waitAnHour := goodIn_r _ [7, 8, 9, 10, 11, 12, 13, 14, 6, 15, 16, 26, 27, 28, 29, 30, 31] (by decide +kernel) (by decide +kernel)
set_option maxRecDepth 20000 in
theorem gX1_letUmbrellasWait_X3_waitAnHour : GoodIn wsX1_letUmbrellasWait (wsV RX1 127 RX3 yX3_waitAnHour wsX3_waitAnHour) := goodIn_app (goodIn_of _ (by decide +kernel)) ggX1_letUmbrellasWait_X3_waitAnHour
theorem dX1_letUmbrellasWait_0 : decode cX1_letUmbrellasWait 0 = .ok (.iconst 0, 1) := by decide +kernel
theorem dX1_letUmbrellasWait_1 : decode cX1_letUmbrellasWait 1 = .ok (.istore_n 1, 1) := by decide +kernel
theorem dX1_letUmbrellasWait_2 : decode cX1_letUmbrellasWait 2 = .ok (.iload_n 1, 1) := by decide +kernel
theorem dX1_letUmbrellasWait_3 : decode cX1_letUmbrellasWait 3 = .ok (.aload_n 0, 1) := by decide +kernel
theorem dX1_letUmbrellasWait_4 : decode cX1_letUmbrellasWait 4 = .ok (.getfield 49, 3) := by decide +kernel
theorem dX1_letUmbrellasWait_7 : decode cX1_letUmbrellasWait 7 = .ok (.if_icmp .ge 18, 3) := by decide +kernel
theorem dX1_letUmbrellasWait_10 : decode cX1_letUmbrellasWait 10 = .ok (.aload_n 0, 1) := by decide +kernel
theorem dX1_letUmbrellasWait_11 : decode cX1_letUmbrellasWait 11 = .ok (.getfield 23, 3) := by decide +kernel
theorem dX1_letUmbrellasWait_14 : decode cX1_letUmbrellasWait 14 = .ok (.iload_n 1, 1) := by decide +kernel
theorem dX1_letUmbrellasWait_15 : decode cX1_letUmbrellasWait 15 = .ok (.aaload, 1) := by decide +kernel
theorem dX1_letUmbrellasWait_16 : decode cX1_letUmbrellasWait 16 = .ok (.invokevirtual 127, 3) := by decide +kernel
theorem dX1_letUmbrellasWait_19 : decode cX1_letUmbrellasWait 19 = .ok (.iinc 1 1, 3) := by decide +kernel
theorem dX1_letUmbrellasWait_22 : decode cX1_letUmbrellasWait 22 = .ok (.goto (-20), 3) := by decide +kernel
theorem dX1_letUmbrellasWait_25 : decode cX1_letUmbrellasWait 25 = .ok (.return_, 1) := by decide +kernel
set_option maxRecDepth 20000 in
theorem ggX1_letCitizensLeave_J9_floorMod_7cf53 : GoodIn wsX1_letCitizensLeave wsJ9_floorMod_7cf53 := goodIn_r _ [7] (by decide +kernel) (by decide +kernel)
set_option maxRecDepth 20000 in
theorem gX1_letCitizensLeave_J9_floorMod_7cf53 : GoodIn wsX1_letCitizensLeave (va_wsS RX1 109 yJ9_floorMod_7cf53 wsJ9_floorMod_7cf53) := goodIn_app (goodIn_of _ (by decide +kernel)) ggX1_letCitizensLeave_J9_floorMod_7cf53
set_option maxRecDepth 20000 in
theorem ggX1_letCitizensLeave_X0_leavesAt : GoodIn wsX1_letCitizensLeave wsX0_leavesAt := goodIn_r _ [12, 13, 14, 15, 16, 17, 83, 84, 85, 86, 87, 88, 89, 90, 91, 92, 93, 94, 95, 96, 97] (by decide +kernel) (by decide +kernel)
set_option maxRecDepth 20000 in
theorem gX1_letCitizensLeave_X0_leavesAt : GoodIn wsX1_letCitizensLeave (wsV RX1 130 RX0 yX0_leavesAt wsX0_leavesAt) := goodIn_app (goodIn_of _ (by decide +kernel)) ggX1_letCitizensLeave_X0_leavesAt
set_option maxRecDepth 20000 in
theorem ggX1_letCitizensLeave_X1_takeUmbrella : GoodIn wsX1_letCitizensLeave wsX1_takeUmbrella := goodIn_r _ [22, 3, 23, 24, 25, 26, 27, 28, 29, 30, 31, 32, 33, 34, 21, 35, 36, 37, 38, 39, 40, 41, 42, 43, 44, 45, 46, 47, 48, 49, 50, 51, 52, 53, 54, 55, 56, 57, 58, 59, 60, 61, 62, 63, 64, 65, 66, 74, 75, 76, 77, 78, 79, 80, 81, 82, 83, 84, 85, 86, 87, 88, 89, 90, 91, 92, 93, 94, 95, 96, 97, 98, 99, 100, 101, 102, 103, 104, 105, 106, 107, 108, 109, 110] (by decide +kernel) (by decide +kernel)
set_option maxRecDepth 20000 in
theorem gX1_letCitizensLeave_X1_takeUmbrella : GoodIn wsX1_letCitizensLeave (wsV RX1 133 RX1 yX1_takeUmbrella wsX1_takeUmbrella) := goodIn_app (goodIn_of _ (by decide +kernel)) ggX1_letCitizensLeave_X1_takeUmbrella
set_option maxRecDepth 20000 in
theorem ggX1_letCitizensLeave_X0_setOut : GoodIn wsX1_letCitizensLeave wsX0_setOut := goodIn_r _ [70, 13, 14, 16, 71, 72, 73, 83, 84, 85, 86, 87, 88, 89, 90, 91, 92, 93, 94, 95, 96, 97] (by decide +kernel) (by decide +kernel)
set_option maxRecDepth 20000 in
theorem gX1_letCitizensLeave_X0_setOut : GoodIn wsX1_letCitizensLeave (wsV RX1 136 RX0 yX0_setOut wsX0_setOut) := goodIn_app (goodIn_of _ (by decide +kernel)) ggX1_letCitizensLeave_X0_setOut
theorem dX1_letCitizensLeave_0 : decode cX1_letCitizensLeave 0 = .ok (.aload_n 0, 1) := by decide +kernel
theorem dX1_letCitizensLeave_1 : decode cX1_letCitizensLeave 1 = .ok (.getfield 9, 3) := by decide +kernel
theorem dX1_letCitizensLeave_4 : decode cX1_letCitizensLeave 4 = .ok (.iload_n 1, 1) := by decide +kernel
theorem dX1_letCitizensLeave_5 : decode cX1_letCitizensLeave 5 = .ok (.iaload, 1) := by decide +kernel
theorem dX1_letCitizensLeave_6 : decode cX1_letCitizensLeave 6 = .ok (.ifCond .gt 19, 3) := by decide +kernel
theorem dX1_letCitizensLeave_9 : decode cX1_letCitizensLeave 9 = .ok (.aload_n 0, 1) := by decide +kernel
theorem dX1_letCitizensLeave_10 : decode cX1_letCitizensLeave 10 = .ok (.getfield 9, 3) := by decide +kernel
theorem dX1_letCitizensLeave_13 : decode cX1_letCitizensLeave 13 = .ok (.iload_n 1, 1) := by decide +kernel
theorem dX1_letCitizensLeave_14 : decode cX1_letCitizensLeave 14 = .ok (.iconst 1, 1) := by decide +kernel
theorem dX1_letCitizensLeave_15 : decode cX1_letCitizensLeave 15 = .ok (.iadd, 1) := by decide +kernel
theorem dX1_letCitizensLeave_16 : decode cX1_letCitizensLeave 16 = .ok (.bipush 24, 2) := by decide +kernel
theorem dX1_letCitizensLeave_18 : decode cX1_letCitizensLeave 18 = .ok (.invokestatic 109, 3) := by decide +kernel
theorem dX1_letCitizensLeave_21 : decode cX1_letCitizensLeave 21 = .ok (.iaload, 1) := by decide +kernel
theorem dX1_letCitizensLeave_22 : decode cX1_letCitizensLeave 22 = .ok (.ifCond .le 7, 3) := by decide +kernel
theorem dX1_letCitizensLeave_25 : decode cX1_letCitizensLeave 25 = .ok (.iconst 1, 1) := by decide +kernel
theorem dX1_letCitizensLeave_26 : decode cX1_letCitizensLeave 26 = .ok (.goto 4, 3) := by decide +kernel
theorem dX1_letCitizensLeave_29 : decode cX1_letCitizensLeave 29 = .ok (.iconst 0, 1) := by decide +kernel
theorem dX1_letCitizensLeave_30 : decode cX1_letCitizensLeave 30 = .ok (.istore_n 2, 1) := by decide +kernel
theorem dX1_letCitizensLeave_31 : decode cX1_letCitizensLeave 31 = .ok (.iconst 0, 1) := by decide +kernel
theorem dX1_letCitizensLeave_32 : decode cX1_letCitizensLeave 32 = .ok (.istore_n 3, 1) := by decide +kernel
theorem dX1_letCitizensLeave_33 : decode cX1_letCitizensLeave 33 = .ok (.iconst 0, 1) := by decide +kernel
theorem dX1_letCitizensLeave_34 : decode cX1_letCitizensLeave 34 = .ok (.istore 4, 2) := by decide +kernel
theorem dX1_letCitizensLeave_36 : decode cX1_letCitizensLeave 36 = .ok (.iload 4, 2) := by decide +kernel
theorem dX1_letCitizensLeave_38 : decode cX1_letCitizensLeave 38 = .ok (.aload_n 0, 1) := by decide +kernel
theorem dX1_letCitizensLeave_39 : decode cX1_letCitizensLeave 39 = .ok (.getfield 52, 3) := by decide +kernel
theorem dX1_letCitizensLeave_42 : decode cX1_letCitizensLeave 42 = .ok (.if_icmp .ge 49, 3) := by decide +kernel
theorem dX1_letCitizensLeave_45 : decode cX1_letCitizensLeave 45 = .ok (.aload_n 0, 1) := by decide +kernel
theorem dX1_letCitizensLeave_46 : decode cX1_letCitizensLeave 46 = .ok (.getfield 29, 3) := by decide +kernel
theorem dX1_letCitizensLeave_49 : decode cX1_letCitizensLeave 49 = .ok (.iload 4, 2) := by decide +kernel
theorem dX1_letCitizensLeave_51 : decode cX1_letCitizensLeave 51 = .ok (.aaload, 1) := by decide +kernel
theorem dX1_letCitizensLeave_52 : decode cX1_letCitizensLeave 52 = .ok (.iload_n 1, 1) := by decide +kernel
theorem dX1_letCitizensLeave_53 : decode cX1_letCitizensLeave 53 = .ok (.invokevirtual 130, 3) := by decide +kernel
theorem dX1_letCitizensLeave_56 : decode cX1_letCitizensLeave 56 = .ok (.ifCond .eq 29, 3) := by decide +kernel
theorem dX1_letCitizensLeave_59 : decode cX1_letCitizensLeave 59 = .ok (.iload_n 2, 1) := by decide +kernel
theorem dX1_letCitizensLeave_60 : decode cX1_letCitizensLeave 60 = .ok (.ifCond .eq 15, 3) := by decide +kernel
theorem dX1_letCitizensLeave_63 : decode cX1_letCitizensLeave 63 = .ok (.aload_n 0, 1) := by decide +kernel
theorem dX1_letCitizensLeave_64 : decode cX1_letCitizensLeave 64 = .ok (.iload 4, 2) := by decide +kernel
theorem dX1_letCitizensLeave_66 : decode cX1_letCitizensLeave 66 = .ok (.invokevirtual 133, 3) := by decide +kernel
theorem dX1_letCitizensLeave_69 : decode cX1_letCitizensLeave 69 = .ok (.ifCond .eq 6, 3) := by decide +kernel
theorem dX1_letCitizensLeave_72 : decode cX1_letCitizensLeave 72 = .ok (.iinc 3 1, 3) := by decide +kernel
theorem dX1_letCitizensLeave_75 : decode cX1_letCitizensLeave 75 = .ok (.aload_n 0, 1) := by decide +kernel
theorem dX1_letCitizensLeave_76 : decode cX1_letCitizensLeave 76 = .ok (.getfield 29, 3) := by decide +kernel
theorem dX1_letCitizensLeave_79 : decode cX1_letCitizensLeave 79 = .ok (.iload 4, 2) := by decide +kernel
theorem dX1_letCitizensLeave_81 : decode cX1_letCitizensLeave 81 = .ok (.aaload, 1) := by decide +kernel
theorem dX1_letCitizensLeave_82 : decode cX1_letCitizensLeave 82 = .ok (.invokevirtual 136, 3) := by decide +kernel
theorem dX1_letCitizensLeave_85 : decode cX1_letCitizensLeave 85 = .ok (.iinc 4 1, 3) := by decide +kernel
theorem dX1_letCitizensLeave_88 : decode cX1_letCitizensLeave 88 = .ok (.goto (-52), 3) := by decide +kernel
theorem dX1_letCitizensLeave_91 : decode cX1_letCitizensLeave 91 = .ok (.iload_n 3, 1) := by decide +kernel
theorem dX1_letCitizensLeave_92 : decode cX1_letCitizensLeave 92 = .ok (.ireturn, 1) := by decide +kernel
set_option maxRecDepth 20000 in
theorem ggX1_takeUmbrella_X1_isShelter : GoodIn wsX1_takeUmbrella wsX1_isShelter := goodIn_r _ [15, 16, 47, 48, 49, 50, 51, 52, 53, 54, 55] (by decide +kernel) (by decide +kernel)
set_option maxRecDepth 20000 in
theorem gX1_takeUmbrella_X1_isShelter : GoodIn wsX1_takeUmbrella (wsV RX1 96 RX1 yX1_isShelter wsX1_isShelter) := goodIn_app (goodIn_of _ (by decide +kernel)) ggX1_takeUmbrella_X1_isShelter
set_option maxRecDepth 20000 in
theorem ggX1_takeUmbrella_X1_firstUmbrellaIn : GoodIn wsX1_takeUmbrella wsX1_firstUmbrellaIn := goodIn_r _ [20, 21, 7, 22, 23, 24, 25, 26, 27, 28, 29, 47, 48, 49, 50, 51, 52, 53, 54, 55, 78, 79, 80, 81, 82, 83] (by decide +kernel) (by decide +kernel)
set_option maxRecDepth 20000 in
theorem gX1_takeUmbrella_X1_firstUmbrellaIn : GoodIn wsX1_takeUmbrella (wsV RX1 142 RX1 yX1_firstUmbrellaIn wsX1_firstUmbrellaIn) := goodIn_app (goodIn_of _ (by decide +kernel)) ggX1_takeUmbrella_X1_firstUmbrellaIn
set_option maxRecDepth 20000 in
theorem ggX1_takeUmbrella_X1_isUmbrella : GoodIn wsX1_takeUmbrella wsX1_isUmbrella := goodIn_r _ [33, 21, 47, 48, 49, 50, 51, 52, 53, 54, 55] (by decide +kernel) (by decide +kernel)
set_option maxRecDepth 20000 in
theorem gX1_takeUmbrella_X1_isUmbrella : GoodIn wsX1_takeUmbrella (wsV RX1 151 RX1 yX1_isUmbrella wsX1_isUmbrella) := goodIn_app (goodIn_of _ (by decide +kernel)) ggX1_takeUmbrella_X1_isUmbrella
set_option maxRecDepth 20000 in
theorem ggX1_takeUmbrella_X2_noteRefusal : GoodIn wsX1_takeUmbrella wsX2_noteRefusal := goodIn_r _ [38, 39, 40, 71, 72, 73, 74, 75, 76, 77] (by decide +kernel) (by decide +kernel)
set_option maxRecDepth 20000 in
theorem gX1_takeUmbrella_X2_noteRefusal : GoodIn wsX1_takeUmbrella (wsV RX1 157 RX2 yX2_noteRefusal wsX2_noteRefusal) := goodIn_app (goodIn_of _ (by decide +kernel)) ggX1_takeUmbrella_X2_noteRefusal
set_option maxRecDepth 20000 in
theorem ggX1_takeUmbrella_X3_goWith : GoodIn wsX1_takeUmbrella wsX3_goWith := goodIn_r _ [44, 29, 45, 46, 28, 78, 79, 80, 81, 82, 83] (by decide +kernel) (by decide +kernel)
set_option maxRecDepth 20000 in
theorem gX1_takeUmbrella_X3_goWith : GoodIn wsX1_takeUmbrella (wsV RX1 160 RX3 yX3_goWith wsX3_goWith) := goodIn_app (goodIn_of _ (by decide +kernel)) ggX1_takeUmbrella_X3_goWith
theorem dX1_takeUmbrella_0 : decode cX1_takeUmbrella 0 = .ok (.aload_n 0, 1) := by decide +kernel
theorem dX1_takeUmbrella_1 : decode cX1_takeUmbrella 1 = .ok (.getfield 29, 3) := by decide +kernel
theorem dX1_takeUmbrella_4 : decode cX1_takeUmbrella 4 = .ok (.iload_n 1, 1) := by decide +kernel
theorem dX1_takeUmbrella_5 : decode cX1_takeUmbrella 5 = .ok (.aaload, 1) := by decide +kernel
theorem dX1_takeUmbrella_6 : decode cX1_takeUmbrella 6 = .ok (.astore_n 2, 1) := by decide +kernel
theorem dX1_takeUmbrella_7 : decode cX1_takeUmbrella 7 = .ok (.aload_n 0, 1) := by decide +kernel
theorem dX1_takeUmbrella_8 : decode cX1_takeUmbrella 8 = .ok (.aload_n 2, 1) := by decide +kernel
theorem dX1_takeUmbrella_9 : decode cX1_takeUmbrella 9 = .ok (.getfield 139, 3) := by decide +kernel
theorem dX1_takeUmbrella_12 : decode cX1_takeUmbrella 12 = .ok (.invokevirtual 96, 3) := by decide +kernel
theorem dX1_takeUmbrella_15 : decode cX1_takeUmbrella 15 = .ok (.ifCond .ne 5, 3) := by decide +kernel
theorem dX1_takeUmbrella_18 : decode cX1_takeUmbrella 18 = .ok (.iconst 0, 1) := by decide +kernel
theorem dX1_takeUmbrella_19 : decode cX1_takeUmbrella 19 = .ok (.ireturn, 1) := by decide +kernel
theorem dX1_takeUmbrella_20 : decode cX1_takeUmbrella 20 = .ok (.aload_n 0, 1) := by decide +kernel
theorem dX1_takeUmbrella_21 : decode cX1_takeUmbrella 21 = .ok (.getfield 17, 3) := by decide +kernel
theorem dX1_takeUmbrella_24 : decode cX1_takeUmbrella 24 = .ok (.aload_n 2, 1) := by decide +kernel
theorem dX1_takeUmbrella_25 : decode cX1_takeUmbrella 25 = .ok (.getfield 139, 3) := by decide +kernel
theorem dX1_takeUmbrella_28 : decode cX1_takeUmbrella 28 = .ok (.aaload, 1) := by decide +kernel
theorem dX1_takeUmbrella_29 : decode cX1_takeUmbrella 29 = .ok (.astore_n 3, 1) := by decide +kernel
theorem dX1_takeUmbrella_30 : decode cX1_takeUmbrella 30 = .ok (.aload_n 0, 1) := by decide +kernel
theorem dX1_takeUmbrella_31 : decode cX1_takeUmbrella 31 = .ok (.aload_n 2, 1) := by decide +kernel
theorem dX1_takeUmbrella_32 : decode cX1_takeUmbrella 32 = .ok (.getfield 139, 3) := by decide +kernel
theorem dX1_takeUmbrella_35 : decode cX1_takeUmbrella 35 = .ok (.invokevirtual 142, 3) := by decide +kernel
theorem dX1_takeUmbrella_38 : decode cX1_takeUmbrella 38 = .ok (.istore 4, 2) := by decide +kernel
theorem dX1_takeUmbrella_40 : decode cX1_takeUmbrella 40 = .ok (.aload_n 2, 1) := by decide +kernel
theorem dX1_takeUmbrella_41 : decode cX1_takeUmbrella 41 = .ok (.getfield 145, 3) := by decide +kernel
theorem dX1_takeUmbrella_44 : decode cX1_takeUmbrella 44 = .ok (.aload_n 3, 1) := by decide +kernel
theorem dX1_takeUmbrella_45 : decode cX1_takeUmbrella 45 = .ok (.getfield 148, 3) := by decide +kernel
theorem dX1_takeUmbrella_48 : decode cX1_takeUmbrella 48 = .ok (.if_icmp .lt 12, 3) := by decide +kernel
theorem dX1_takeUmbrella_51 : decode cX1_takeUmbrella 51 = .ok (.aload_n 0, 1) := by decide +kernel
theorem dX1_takeUmbrella_52 : decode cX1_takeUmbrella 52 = .ok (.iload 4, 2) := by decide +kernel
theorem dX1_takeUmbrella_54 : decode cX1_takeUmbrella 54 = .ok (.invokevirtual 151, 3) := by decide +kernel
theorem dX1_takeUmbrella_57 : decode cX1_takeUmbrella 57 = .ok (.ifCond .ne 19, 3) := by decide +kernel
theorem dX1_takeUmbrella_60 : decode cX1_takeUmbrella 60 = .ok (.aload_n 2, 1) := by decide +kernel
theorem dX1_takeUmbrella_61 : decode cX1_takeUmbrella 61 = .ok (.dup, 1) := by decide +kernel
theorem dX1_takeUmbrella_62 : decode cX1_takeUmbrella 62 = .ok (.getfield 154, 3) := by decide +kernel
theorem dX1_takeUmbrella_65 : decode cX1_takeUmbrella 65 = .ok (.iconst 1, 1) := by decide +kernel
theorem dX1_takeUmbrella_66 : decode cX1_takeUmbrella 66 = .ok (.iadd, 1) := by decide +kernel
theorem dX1_takeUmbrella_67 : decode cX1_takeUmbrella 67 = .ok (.putfield 154, 3) := by decide +kernel
theorem dX1_takeUmbrella_70 : decode cX1_takeUmbrella 70 = .ok (.aload_n 3, 1) := by decide +kernel
theorem dX1_takeUmbrella_71 : decode cX1_takeUmbrella 71 = .ok (.invokevirtual 157, 3) := by decide +kernel
theorem dX1_takeUmbrella_74 : decode cX1_takeUmbrella 74 = .ok (.iconst 0, 1) := by decide +kernel
theorem dX1_takeUmbrella_75 : decode cX1_takeUmbrella 75 = .ok (.ireturn, 1) := by decide +kernel
theorem dX1_takeUmbrella_76 : decode cX1_takeUmbrella 76 = .ok (.aload_n 0, 1) := by decide +kernel
theorem dX1_takeUmbrella_77 : decode cX1_takeUmbrella 77 = .ok (.getfield 23, 3) := by decide +kernel
theorem dX1_takeUmbrella_80 : decode cX1_takeUmbrella 80 = .ok (.iload 4, 2) := by decide +kernel
theorem dX1_takeUmbrella_82 : decode cX1_takeUmbrella 82 = .ok (.aaload, 1) := by decide +kernel
theorem dX1_takeUmbrella_83 : decode cX1_takeUmbrella 83 = .ok (.iload_n 1, 1) := by decide +kernel
theorem dX1_takeUmbrella_84 : decode cX1_takeUmbrella 84 = .ok (.invokevirtual 160, 3) := by decide +kernel
theorem dX1_takeUmbrella_87 : decode cX1_takeUmbrella 87 = .ok (.aload_n 2, 1) := by decide +kernel
theorem dX1_takeUmbrella_88 : decode cX1_takeUmbrella 88 = .ok (.iload 4, 2) := by decide +kernel
theorem dX1_takeUmbrella_90 : decode cX1_takeUmbrella 90 = .ok (.putfield 163, 3) := by decide +kernel
theorem dX1_takeUmbrella_93 : decode cX1_takeUmbrella 93 = .ok (.aload_n 2, 1) := by decide +kernel
theorem dX1_takeUmbrella_94 : decode cX1_takeUmbrella 94 = .ok (.dup, 1) := by decide +kernel
theorem dX1_takeUmbrella_95 : decode cX1_takeUmbrella 95 = .ok (.getfield 166, 3) := by decide +kernel
theorem dX1_takeUmbrella_98 : decode cX1_takeUmbrella 98 = .ok (.iconst 1, 1) := by decide +kernel
theorem dX1_takeUmbrella_99 : decode cX1_takeUmbrella 99 = .ok (.iadd, 1) := by decide +kernel
theorem dX1_takeUmbrella_100 : decode cX1_takeUmbrella 100 = .ok (.putfield 166, 3) := by decide +kernel
theorem dX1_takeUmbrella_103 : decode cX1_takeUmbrella 103 = .ok (.aload_n 3, 1) := by decide +kernel
theorem dX1_takeUmbrella_104 : decode cX1_takeUmbrella 104 = .ok (.dup, 1) := by decide +kernel
theorem dX1_takeUmbrella_105 : decode cX1_takeUmbrella 105 = .ok (.getfield 169, 3) := by decide +kernel
theorem dX1_takeUmbrella_108 : decode cX1_takeUmbrella 108 = .ok (.iconst 1, 1) := by decide +kernel
theorem dX1_takeUmbrella_109 : decode cX1_takeUmbrella 109 = .ok (.iadd, 1) := by decide +kernel
theorem dX1_takeUmbrella_110 : decode cX1_takeUmbrella 110 = .ok (.putfield 169, 3) := by decide +kernel
theorem dX1_takeUmbrella_113 : decode cX1_takeUmbrella 113 = .ok (.iconst 1, 1) := by decide +kernel
theorem dX1_takeUmbrella_114 : decode cX1_takeUmbrella 114 = .ok (.ireturn, 1) := by decide +kernel
set_option maxRecDepth 20000 in
theorem ggX1_letCitizensWalk_X1_meetRain : GoodIn wsX1_letCitizensWalk wsX1_meetRain := goodIn_r _ [8, 9, 10, 11, 12, 13, 14, 15, 7, 16, 17, 18, 19, 20, 21, 22, 23, 24, 25, 83, 84, 85, 86, 87, 88, 89, 90, 91, 92, 93, 94, 95, 96, 97, 74, 75, 76, 77, 78, 79, 80, 81, 82, 98, 99, 100, 101, 102, 103] (by decide +kernel) (by decide +kernel)
set_option maxRecDepth 20000 in
theorem gX1_letCitizensWalk_X1_meetRain : GoodIn wsX1_letCitizensWalk (wsV RX1 173 RX1 yX1_meetRain wsX1_meetRain) := goodIn_app (goodIn_of _ (by decide +kernel)) ggX1_letCitizensWalk_X1_meetRain
set_option maxRecDepth 20000 in
theorem ggX1_letCitizensWalk_X1_arrive : GoodIn wsX1_letCitizensWalk wsX1_arrive := goodIn_r _ [29, 30, 31, 9, 11, 32, 33, 13, 14, 15, 7, 16, 17, 34, 35, 36, 37, 38, 39, 40, 41, 42, 43, 21, 44, 23, 24, 25, 45, 46, 47, 48, 49, 50, 51, 52, 53, 18, 19, 20, 22, 54, 55, 56, 57, 58, 59, 60, 61, 62, 63, 64, 65, 66, 67, 68, 69, 70, 71, 72, 73, 83, 84, 85, 86, 87, 88, 89, 90, 91, 92, 93, 94, 95, 96, 97, 74, 75, 76, 77, 78, 79, 80, 81, 82, 98, 99, 100, 101, 102, 103, 104, 105, 106, 107, 108, 109, 110] (by decide +kernel) (by decide +kernel)
set_option maxRecDepth 20000 in
theorem gX1_letCitizensWalk_X1_arrive : GoodIn wsX1_letCitizensWalk (wsV RX1 177 RX1 yX1_arrive wsX1_arrive) := goodIn_app (goodIn_of _ (by decide +kernel)) ggX1_letCitizensWalk_X1_arrive
theorem dX1_letCitizensWalk_0 : decode cX1_letCitizensWalk 0 = .ok (.iconst 0, 1) := by decide +kernel
theorem dX1_letCitizensWalk_1 : decode cX1_letCitizensWalk 1 = .ok (.istore_n 2, 1) := by decide +kernel
theorem dX1_letCitizensWalk_2 : decode cX1_letCitizensWalk 2 = .ok (.iload_n 2, 1) := by decide +kernel
theorem dX1_letCitizensWalk_3 : decode cX1_letCitizensWalk 3 = .ok (.aload_n 0, 1) := by decide +kernel
theorem dX1_letCitizensWalk_4 : decode cX1_letCitizensWalk 4 = .ok (.getfield 52, 3) := by decide +kernel
theorem dX1_letCitizensWalk_7 : decode cX1_letCitizensWalk 7 = .ok (.if_icmp .ge 51, 3) := by decide +kernel
theorem dX1_letCitizensWalk_10 : decode cX1_letCitizensWalk 10 = .ok (.aload_n 0, 1) := by decide +kernel
theorem dX1_letCitizensWalk_11 : decode cX1_letCitizensWalk 11 = .ok (.getfield 29, 3) := by decide +kernel
theorem dX1_letCitizensWalk_14 : decode cX1_letCitizensWalk 14 = .ok (.iload_n 2, 1) := by decide +kernel
theorem dX1_letCitizensWalk_15 : decode cX1_letCitizensWalk 15 = .ok (.aaload, 1) := by decide +kernel
theorem dX1_letCitizensWalk_16 : decode cX1_letCitizensWalk 16 = .ok (.astore_n 3, 1) := by decide +kernel
theorem dX1_letCitizensWalk_17 : decode cX1_letCitizensWalk 17 = .ok (.aload_n 3, 1) := by decide +kernel
theorem dX1_letCitizensWalk_18 : decode cX1_letCitizensWalk 18 = .ok (.getfield 170, 3) := by decide +kernel
theorem dX1_letCitizensWalk_21 : decode cX1_letCitizensWalk 21 = .ok (.ifCond .le 31, 3) := by decide +kernel
theorem dX1_letCitizensWalk_24 : decode cX1_letCitizensWalk 24 = .ok (.aload_n 0, 1) := by decide +kernel
theorem dX1_letCitizensWalk_25 : decode cX1_letCitizensWalk 25 = .ok (.aload_n 3, 1) := by decide +kernel
theorem dX1_letCitizensWalk_26 : decode cX1_letCitizensWalk 26 = .ok (.iload_n 1, 1) := by decide +kernel
theorem dX1_letCitizensWalk_27 : decode cX1_letCitizensWalk 27 = .ok (.invokevirtual 173, 3) := by decide +kernel
theorem dX1_letCitizensWalk_30 : decode cX1_letCitizensWalk 30 = .ok (.aload_n 3, 1) := by decide +kernel
theorem dX1_letCitizensWalk_31 : decode cX1_letCitizensWalk 31 = .ok (.dup, 1) := by decide +kernel
theorem dX1_letCitizensWalk_32 : decode cX1_letCitizensWalk 32 = .ok (.getfield 170, 3) := by decide +kernel
theorem dX1_letCitizensWalk_35 : decode cX1_letCitizensWalk 35 = .ok (.iconst 1, 1) := by decide +kernel
theorem dX1_letCitizensWalk_36 : decode cX1_letCitizensWalk 36 = .ok (.isub, 1) := by decide +kernel
theorem dX1_letCitizensWalk_37 : decode cX1_letCitizensWalk 37 = .ok (.putfield 170, 3) := by decide +kernel
theorem dX1_letCitizensWalk_40 : decode cX1_letCitizensWalk 40 = .ok (.aload_n 3, 1) := by decide +kernel
theorem dX1_letCitizensWalk_41 : decode cX1_letCitizensWalk 41 = .ok (.getfield 170, 3) := by decide +kernel
theorem dX1_letCitizensWalk_44 : decode cX1_letCitizensWalk 44 = .ok (.ifCond .ne 8, 3) := by decide +kernel
theorem dX1_letCitizensWalk_47 : decode cX1_letCitizensWalk 47 = .ok (.aload_n 0, 1) := by decide +kernel
theorem dX1_letCitizensWalk_48 : decode cX1_letCitizensWalk 48 = .ok (.aload_n 3, 1) := by decide +kernel
theorem dX1_letCitizensWalk_49 : decode cX1_letCitizensWalk 49 = .ok (.invokevirtual 177, 3) := by decide +kernel
theorem dX1_letCitizensWalk_52 : decode cX1_letCitizensWalk 52 = .ok (.iinc 2 1, 3) := by decide +kernel
theorem dX1_letCitizensWalk_55 : decode cX1_letCitizensWalk 55 = .ok (.goto (-53), 3) := by decide +kernel
theorem dX1_letCitizensWalk_58 : decode cX1_letCitizensWalk 58 = .ok (.return_, 1) := by decide +kernel
set_option maxRecDepth 20000 in
theorem ggX1_meetRain_X1_isUmbrella : GoodIn wsX1_meetRain wsX1_isUmbrella := goodIn_r _ [9, 10, 34, 35, 36, 37, 38, 39, 40, 41, 42] (by decide +kernel) (by decide +kernel)
set_option maxRecDepth 20000 in
theorem gX1_meetRain_X1_isUmbrella : GoodIn wsX1_meetRain (wsV RX1 151 RX1 yX1_isUmbrella wsX1_isUmbrella) := goodIn_app (goodIn_of _ (by decide +kernel)) ggX1_meetRain_X1_isUmbrella
set_option maxRecDepth 20000 in
theorem ggX1_meetRain_X3_stayAway : GoodIn wsX1_meetRain wsX3_stayAway := goodIn_r _ [15, 16, 17, 18, 43, 44, 45, 46, 47, 48] (by decide +kernel) (by decide +kernel)
set_option maxRecDepth 20000 in
theorem gX1_meetRain_X3_stayAway : GoodIn wsX1_meetRain (wsV RX1 186 RX3 yX3_stayAway wsX3_stayAway) := goodIn_app (goodIn_of _ (by decide +kernel)) ggX1_meetRain_X3_stayAway
theorem dX1_meetRain_0 : decode cX1_meetRain 0 = .ok (.aload_n 0, 1) := by decide +kernel
theorem dX1_meetRain_1 : decode cX1_meetRain 1 = .ok (.aload_n 1, 1) := by decide +kernel
theorem dX1_meetRain_2 : decode cX1_meetRain 2 = .ok (.getfield 163, 3) := by decide +kernel
theorem dX1_meetRain_5 : decode cX1_meetRain 5 = .ok (.invokevirtual 151, 3) := by decide +kernel
theorem dX1_meetRain_8 : decode cX1_meetRain 8 = .ok (.ifCond .ne 14, 3) := by decide +kernel
theorem dX1_meetRain_11 : decode cX1_meetRain 11 = .ok (.aload_n 1, 1) := by decide +kernel
theorem dX1_meetRain_12 : decode cX1_meetRain 12 = .ok (.dup, 1) := by decide +kernel
theorem dX1_meetRain_13 : decode cX1_meetRain 13 = .ok (.getfield 180, 3) := by decide +kernel
theorem dX1_meetRain_16 : decode cX1_meetRain 16 = .ok (.iload_n 2, 1) := by decide +kernel
theorem dX1_meetRain_17 : decode cX1_meetRain 17 = .ok (.iadd, 1) := by decide +kernel
theorem dX1_meetRain_18 : decode cX1_meetRain 18 = .ok (.putfield 180, 3) := by decide +kernel
theorem dX1_meetRain_21 : decode cX1_meetRain 21 = .ok (.return_, 1) := by decide +kernel
theorem dX1_meetRain_22 : decode cX1_meetRain 22 = .ok (.aload_n 0, 1) := by decide +kernel
theorem dX1_meetRain_23 : decode cX1_meetRain 23 = .ok (.getfield 23, 3) := by decide +kernel
theorem dX1_meetRain_26 : decode cX1_meetRain 26 = .ok (.aload_n 1, 1) := by decide +kernel
theorem dX1_meetRain_27 : decode cX1_meetRain 27 = .ok (.getfield 163, 3) := by decide +kernel
theorem dX1_meetRain_30 : decode cX1_meetRain 30 = .ok (.aaload, 1) := by decide +kernel
theorem dX1_meetRain_31 : decode cX1_meetRain 31 = .ok (.astore_n 3, 1) := by decide +kernel
theorem dX1_meetRain_32 : decode cX1_meetRain 32 = .ok (.aload_n 3, 1) := by decide +kernel
theorem dX1_meetRain_33 : decode cX1_meetRain 33 = .ok (.dup, 1) := by decide +kernel
theorem dX1_meetRain_34 : decode cX1_meetRain 34 = .ok (.getfield 183, 3) := by decide +kernel
theorem dX1_meetRain_37 : decode cX1_meetRain 37 = .ok (.iload_n 2, 1) := by decide +kernel
theorem dX1_meetRain_38 : decode cX1_meetRain 38 = .ok (.iadd, 1) := by decide +kernel
theorem dX1_meetRain_39 : decode cX1_meetRain 39 = .ok (.putfield 183, 3) := by decide +kernel
theorem dX1_meetRain_42 : decode cX1_meetRain 42 = .ok (.aload_n 3, 1) := by decide +kernel
theorem dX1_meetRain_43 : decode cX1_meetRain 43 = .ok (.getfield 183, 3) := by decide +kernel
theorem dX1_meetRain_46 : decode cX1_meetRain 46 = .ok (.bipush 30, 2) := by decide +kernel
theorem dX1_meetRain_48 : decode cX1_meetRain 48 = .ok (.if_icmp .lt 15, 3) := by decide +kernel
theorem dX1_meetRain_51 : decode cX1_meetRain 51 = .ok (.aload_n 3, 1) := by decide +kernel
theorem dX1_meetRain_52 : decode cX1_meetRain 52 = .ok (.iconst 3, 1) := by decide +kernel
theorem dX1_meetRain_53 : decode cX1_meetRain 53 = .ok (.bipush 12, 2) := by decide +kernel
theorem dX1_meetRain_55 : decode cX1_meetRain 55 = .ok (.invokevirtual 186, 3) := by decide +kernel
theorem dX1_meetRain_58 : decode cX1_meetRain 58 = .ok (.aload_n 1, 1) := by decide +kernel
theorem dX1_meetRain_59 : decode cX1_meetRain 59 = .ok (.iconst (-1), 1) := by decide +kernel
theorem dX1_meetRain_60 : decode cX1_meetRain 60 = .ok (.putfield 163, 3) := by decide +kernel
theorem dX1_meetRain_63 : decode cX1_meetRain 63 = .ok (.return_, 1) := by decide +kernel
set_option maxRecDepth 20000 in
theorem ggX1_arrive_X1_isUmbrella : GoodIn wsX1_arrive wsX1_isUmbrella := goodIn_r _ [11, 12, 76, 77, 78, 79, 80, 81, 82, 83, 84] (by decide +kernel) (by decide +kernel)
set_option maxRecDepth 20000 in
theorem gX1_arrive_X1_isUmbrella : GoodIn wsX1_arrive (wsV RX1 151 RX1 yX1_isUmbrella wsX1_isUmbrella) := goodIn_app (goodIn_of _ (by decide +kernel)) ggX1_arrive_X1_isUmbrella
set_option maxRecDepth 20000 in
theorem ggX1_arrive_X0_forgetsThisOne : GoodIn wsX1_arrive wsX0_forgetsThisOne := goodIn_r _ [17, 18, 19, 61, 62, 63, 64, 65, 66, 67, 68, 69, 70, 71, 72, 73, 74, 75] (by decide +kernel) (by decide +kernel)
set_option maxRecDepth 20000 in
theorem gX1_arrive_X0_forgetsThisOne : GoodIn wsX1_arrive (wsV RX1 192 RX0 yX0_forgetsThisOne wsX0_forgetsThisOne) := goodIn_app (goodIn_of _ (by decide +kernel)) ggX1_arrive_X0_forgetsThisOne
set_option maxRecDepth 20000 in
theorem ggX1_arrive_X3_standIn : GoodIn wsX1_arrive wsX3_standIn := goodIn_r _ [24, 25, 26, 27, 85, 86, 87, 88, 89, 90] (by decide +kernel) (by decide +kernel)
set_option maxRecDepth 20000 in
theorem gX1_arrive_X3_standIn : GoodIn wsX1_arrive (wsV RX1 196 RX3 yX3_standIn wsX3_standIn) := goodIn_app (goodIn_of _ (by decide +kernel)) ggX1_arrive_X3_standIn
set_option maxRecDepth 20000 in
theorem ggX1_arrive_X0_noteBroughtBack : GoodIn wsX1_arrive wsX0_noteBroughtBack := goodIn_r _ [31, 32, 33, 34, 35, 36, 61, 62, 63, 64, 65, 66, 67, 68, 69, 70, 71, 72, 73, 74, 75] (by decide +kernel) (by decide +kernel)
set_option maxRecDepth 20000 in
theorem gX1_arrive_X0_noteBroughtBack : GoodIn wsX1_arrive (wsV RX1 199 RX0 yX0_noteBroughtBack wsX0_noteBroughtBack) := goodIn_app (goodIn_of _ (by decide +kernel)) ggX1_arrive_X0_noteBroughtBack
set_option maxRecDepth 20000 in
theorem ggX1_arrive_X3_stayAway : GoodIn wsX1_arrive wsX3_stayAway := goodIn_r _ [40, 25, 26, 27, 85, 86, 87, 88, 89, 90] (by decide +kernel) (by decide +kernel)
set_option maxRecDepth 20000 in
theorem gX1_arrive_X3_stayAway : GoodIn wsX1_arrive (wsV RX1 186 RX3 yX3_stayAway wsX3_stayAway) := goodIn_app (goodIn_of _ (by decide +kernel)) ggX1_arrive_X3_stayAway
set_option maxRecDepth 20000 in
theorem ggX1_arrive_X0_noteForgotten : GoodIn wsX1_arrive wsX0_noteForgotten := goodIn_r _ [44, 45, 32, 46, 47, 35, 48, 61, 62, 63, 64, 65, 66, 67, 68, 69, 70, 71, 72, 73, 74, 75] (by decide +kernel) (by decide +kernel)
set_option maxRecDepth 20000 in
theorem gX1_arrive_X0_noteForgotten : GoodIn wsX1_arrive (wsV RX1 202 RX0 yX0_noteForgotten wsX0_noteForgotten) := goodIn_app (goodIn_of _ (by decide +kernel)) ggX1_arrive_X0_noteForgotten
set_option maxRecDepth 20000 in
theorem ggX1_arrive_X1_isShelter : GoodIn wsX1_arrive wsX1_isShelter := goodIn_r _ [52, 53, 76, 77, 78, 79, 80, 81, 82, 83, 84] (by decide +kernel) (by decide +kernel)
set_option maxRecDepth 20000 in
theorem gX1_arrive_X1_isShelter : GoodIn wsX1_arrive (wsV RX1 96 RX1 yX1_isShelter wsX1_isShelter) := goodIn_app (goodIn_of _ (by decide +kernel)) ggX1_arrive_X1_isShelter
set_option maxRecDepth 20000 in
theorem ggX1_arrive_X2_noteForgotten : GoodIn wsX1_arrive wsX2_noteForgotten := goodIn_r _ [58, 59, 60, 91, 92, 93, 94, 95, 96, 97] (by decide +kernel) (by decide +kernel)
set_option maxRecDepth 20000 in
theorem gX1_arrive_X2_noteForgotten : GoodIn wsX1_arrive (wsV RX1 208 RX2 yX2_noteForgotten wsX2_noteForgotten) := goodIn_app (goodIn_of _ (by decide +kernel)) ggX1_arrive_X2_noteForgotten
theorem dX1_arrive_0 : decode cX1_arrive 0 = .ok (.aload_n 1, 1) := by decide +kernel
theorem dX1_arrive_1 : decode cX1_arrive 1 = .ok (.aload_n 1, 1) := by decide +kernel
theorem dX1_arrive_2 : decode cX1_arrive 2 = .ok (.getfield 189, 3) := by decide +kernel
theorem dX1_arrive_5 : decode cX1_arrive 5 = .ok (.putfield 139, 3) := by decide +kernel
theorem dX1_arrive_8 : decode cX1_arrive 8 = .ok (.aload_n 0, 1) := by decide +kernel
theorem dX1_arrive_9 : decode cX1_arrive 9 = .ok (.aload_n 1, 1) := by decide +kernel
theorem dX1_arrive_10 : decode cX1_arrive 10 = .ok (.getfield 163, 3) := by decide +kernel
theorem dX1_arrive_13 : decode cX1_arrive 13 = .ok (.invokevirtual 151, 3) := by decide +kernel
theorem dX1_arrive_16 : decode cX1_arrive 16 = .ok (.ifCond .ne 4, 3) := by decide +kernel
theorem dX1_arrive_19 : decode cX1_arrive 19 = .ok (.return_, 1) := by decide +kernel
theorem dX1_arrive_20 : decode cX1_arrive 20 = .ok (.aload_n 0, 1) := by decide +kernel
theorem dX1_arrive_21 : decode cX1_arrive 21 = .ok (.getfield 23, 3) := by decide +kernel
theorem dX1_arrive_24 : decode cX1_arrive 24 = .ok (.aload_n 1, 1) := by decide +kernel
theorem dX1_arrive_25 : decode cX1_arrive 25 = .ok (.getfield 163, 3) := by decide +kernel
theorem dX1_arrive_28 : decode cX1_arrive 28 = .ok (.aaload, 1) := by decide +kernel
theorem dX1_arrive_29 : decode cX1_arrive 29 = .ok (.astore_n 2, 1) := by decide +kernel
theorem dX1_arrive_30 : decode cX1_arrive 30 = .ok (.aload_n 1, 1) := by decide +kernel
theorem dX1_arrive_31 : decode cX1_arrive 31 = .ok (.iconst (-1), 1) := by decide +kernel
theorem dX1_arrive_32 : decode cX1_arrive 32 = .ok (.putfield 163, 3) := by decide +kernel
theorem dX1_arrive_35 : decode cX1_arrive 35 = .ok (.aload_n 1, 1) := by decide +kernel
theorem dX1_arrive_36 : decode cX1_arrive 36 = .ok (.invokevirtual 192, 3) := by decide +kernel
theorem dX1_arrive_39 : decode cX1_arrive 39 = .ok (.ifCond .ne 16, 3) := by decide +kernel
theorem dX1_arrive_42 : decode cX1_arrive 42 = .ok (.aload_n 2, 1) := by decide +kernel
theorem dX1_arrive_43 : decode cX1_arrive 43 = .ok (.aload_n 1, 1) := by decide +kernel
theorem dX1_arrive_44 : decode cX1_arrive 44 = .ok (.getfield 139, 3) := by decide +kernel
theorem dX1_arrive_47 : decode cX1_arrive 47 = .ok (.invokevirtual 196, 3) := by decide +kernel
theorem dX1_arrive_50 : decode cX1_arrive 50 = .ok (.aload_n 1, 1) := by decide +kernel
theorem dX1_arrive_51 : decode cX1_arrive 51 = .ok (.invokevirtual 199, 3) := by decide +kernel
theorem dX1_arrive_54 : decode cX1_arrive 54 = .ok (.return_, 1) := by decide +kernel
theorem dX1_arrive_55 : decode cX1_arrive 55 = .ok (.aload_n 2, 1) := by decide +kernel
theorem dX1_arrive_56 : decode cX1_arrive 56 = .ok (.iconst 2, 1) := by decide +kernel
theorem dX1_arrive_57 : decode cX1_arrive 57 = .ok (.bipush 24, 2) := by decide +kernel
theorem dX1_arrive_59 : decode cX1_arrive 59 = .ok (.invokevirtual 186, 3) := by decide +kernel
theorem dX1_arrive_62 : decode cX1_arrive 62 = .ok (.aload_n 1, 1) := by decide +kernel
theorem dX1_arrive_63 : decode cX1_arrive 63 = .ok (.invokevirtual 202, 3) := by decide +kernel
theorem dX1_arrive_66 : decode cX1_arrive 66 = .ok (.aload_n 0, 1) := by decide +kernel
theorem dX1_arrive_67 : decode cX1_arrive 67 = .ok (.aload_n 2, 1) := by decide +kernel
theorem dX1_arrive_68 : decode cX1_arrive 68 = .ok (.getfield 205, 3) := by decide +kernel
theorem dX1_arrive_71 : decode cX1_arrive 71 = .ok (.invokevirtual 96, 3) := by decide +kernel
theorem dX1_arrive_74 : decode cX1_arrive 74 = .ok (.ifCond .eq 15, 3) := by decide +kernel
theorem dX1_arrive_77 : decode cX1_arrive 77 = .ok (.aload_n 0, 1) := by decide +kernel
theorem dX1_arrive_78 : decode cX1_arrive 78 = .ok (.getfield 17, 3) := by decide +kernel
theorem dX1_arrive_81 : decode cX1_arrive 81 = .ok (.aload_n 2, 1) := by decide +kernel
theorem dX1_arrive_82 : decode cX1_arrive 82 = .ok (.getfield 205, 3) := by decide +kernel
theorem dX1_arrive_85 : decode cX1_arrive 85 = .ok (.aaload, 1) := by decide +kernel
theorem dX1_arrive_86 : decode cX1_arrive 86 = .ok (.invokevirtual 208, 3) := by decide +kernel
theorem dX1_arrive_89 : decode cX1_arrive 89 = .ok (.return_, 1) := by decide +kernel
set_option maxRecDepth 20000 in
theorem ggX1_driveCart_X1_umbrellasIn : GoodIn wsX1_driveCart wsX1_umbrellasIn := goodIn_r _ [8, 9, 2, 10, 11, 12, 13, 14, 15, 16, 31, 32, 33, 34, 35, 36, 37, 38, 39, 40, 41, 42, 43, 44, 45] (by decide +kernel) (by decide +kernel)
set_option maxRecDepth 20000 in
theorem gX1_driveCart_X1_umbrellasIn : GoodIn wsX1_driveCart (wsV RX1 209 RX1 yX1_umbrellasIn wsX1_umbrellasIn) := goodIn_app (goodIn_of _ (by decide +kernel)) ggX1_driveCart_X1_umbrellasIn
set_option maxRecDepth 20000 in
theorem ggX1_driveCart_X1_firstUmbrellaIn : GoodIn wsX1_driveCart wsX1_firstUmbrellaIn := goodIn_r _ [20, 9, 2, 21, 10, 11, 12, 13, 14, 15, 16, 31, 32, 33, 34, 35, 36, 37, 38, 39, 40, 41, 42, 43, 44, 45] (by decide +kernel) (by decide +kernel)
set_option maxRecDepth 20000 in
theorem gX1_driveCart_X1_firstUmbrellaIn : GoodIn wsX1_driveCart (wsV RX1 142 RX1 yX1_firstUmbrellaIn wsX1_firstUmbrellaIn) := goodIn_app (goodIn_of _ (by decide +kernel)) ggX1_driveCart_X1_firstUmbrellaIn
set_option maxRecDepth 20000 in
theorem ggX1_driveCart_X1_isUmbrella : GoodIn wsX1_driveCart wsX1_isUmbrella := goodIn_r _ [25, 9, 31, 32, 33, 34, 35, 36, 37, 38, 39] (by decide +kernel) (by decide +kernel)
set_option maxRecDepth 20000 in
theorem gX1_driveCart_X1_isUmbrella : GoodIn wsX1_driveCart (wsV RX1 151 RX1 yX1_isUmbrella wsX1_isUmbrella) := goodIn_app (goodIn_of _ (by decide +kernel)) ggX1_driveCart_X1_isUmbrella
set_option maxRecDepth 20000 in
theorem ggX1_driveCart_X3_standIn : GoodIn wsX1_driveCart wsX3_standIn := goodIn_r _ [29, 15, 16, 30, 40, 41, 42, 43, 44, 45] (by decide +kernel) (by decide +kernel)
set_option maxRecDepth 20000 in
theorem gX1_driveCart_X3_standIn : GoodIn wsX1_driveCart (wsV RX1 196 RX3 yX3_standIn wsX3_standIn) := goodIn_app (goodIn_of _ (by decide +kernel)) ggX1_driveCart_X3_standIn
theorem dX1_driveCart_0 : decode cX1_driveCart 0 = .ok (.iconst 0, 1) := by decide +kernel
theorem dX1_driveCart_1 : decode cX1_driveCart 1 = .ok (.istore_n 1, 1) := by decide +kernel
theorem dX1_driveCart_2 : decode cX1_driveCart 2 = .ok (.iconst 0, 1) := by decide +kernel
theorem dX1_driveCart_3 : decode cX1_driveCart 3 = .ok (.istore_n 2, 1) := by decide +kernel
theorem dX1_driveCart_4 : decode cX1_driveCart 4 = .ok (.iconst 1, 1) := by decide +kernel
theorem dX1_driveCart_5 : decode cX1_driveCart 5 = .ok (.istore_n 3, 1) := by decide +kernel
theorem dX1_driveCart_6 : decode cX1_driveCart 6 = .ok (.iload_n 3, 1) := by decide +kernel
theorem dX1_driveCart_7 : decode cX1_driveCart 7 = .ok (.aload_n 0, 1) := by decide +kernel
theorem dX1_driveCart_8 : decode cX1_driveCart 8 = .ok (.getfield 46, 3) := by decide +kernel
theorem dX1_driveCart_11 : decode cX1_driveCart 11 = .ok (.if_icmp .ge 39, 3) := by decide +kernel
theorem dX1_driveCart_14 : decode cX1_driveCart 14 = .ok (.aload_n 0, 1) := by decide +kernel
theorem dX1_driveCart_15 : decode cX1_driveCart 15 = .ok (.iload_n 3, 1) := by decide +kernel
theorem dX1_driveCart_16 : decode cX1_driveCart 16 = .ok (.invokevirtual 209, 3) := by decide +kernel
theorem dX1_driveCart_19 : decode cX1_driveCart 19 = .ok (.aload_n 0, 1) := by decide +kernel
theorem dX1_driveCart_20 : decode cX1_driveCart 20 = .ok (.iload_n 1, 1) := by decide +kernel
theorem dX1_driveCart_21 : decode cX1_driveCart 21 = .ok (.invokevirtual 209, 3) := by decide +kernel
theorem dX1_driveCart_24 : decode cX1_driveCart 24 = .ok (.if_icmp .le 5, 3) := by decide +kernel
theorem dX1_driveCart_27 : decode cX1_driveCart 27 = .ok (.iload_n 3, 1) := by decide +kernel
theorem dX1_driveCart_28 : decode cX1_driveCart 28 = .ok (.istore_n 1, 1) := by decide +kernel
theorem dX1_driveCart_29 : decode cX1_driveCart 29 = .ok (.aload_n 0, 1) := by decide +kernel
theorem dX1_driveCart_30 : decode cX1_driveCart 30 = .ok (.iload_n 3, 1) := by decide +kernel
theorem dX1_driveCart_31 : decode cX1_driveCart 31 = .ok (.invokevirtual 209, 3) := by decide +kernel
theorem dX1_driveCart_34 : decode cX1_driveCart 34 = .ok (.aload_n 0, 1) := by decide +kernel
theorem dX1_driveCart_35 : decode cX1_driveCart 35 = .ok (.iload_n 2, 1) := by decide +kernel
theorem dX1_driveCart_36 : decode cX1_driveCart 36 = .ok (.invokevirtual 209, 3) := by decide +kernel
theorem dX1_driveCart_39 : decode cX1_driveCart 39 = .ok (.if_icmp .ge 5, 3) := by decide +kernel
theorem dX1_driveCart_42 : decode cX1_driveCart 42 = .ok (.iload_n 3, 1) := by decide +kernel
theorem dX1_driveCart_43 : decode cX1_driveCart 43 = .ok (.istore_n 2, 1) := by decide +kernel
theorem dX1_driveCart_44 : decode cX1_driveCart 44 = .ok (.iinc 3 1, 3) := by decide +kernel
theorem dX1_driveCart_47 : decode cX1_driveCart 47 = .ok (.goto (-41), 3) := by decide +kernel
theorem dX1_driveCart_50 : decode cX1_driveCart 50 = .ok (.aload_n 0, 1) := by decide +kernel
theorem dX1_driveCart_51 : decode cX1_driveCart 51 = .ok (.iload_n 1, 1) := by decide +kernel
theorem dX1_driveCart_52 : decode cX1_driveCart 52 = .ok (.invokevirtual 142, 3) := by decide +kernel
theorem dX1_driveCart_55 : decode cX1_driveCart 55 = .ok (.istore_n 3, 1) := by decide +kernel
theorem dX1_driveCart_56 : decode cX1_driveCart 56 = .ok (.aload_n 0, 1) := by decide +kernel
theorem dX1_driveCart_57 : decode cX1_driveCart 57 = .ok (.iload_n 3, 1) := by decide +kernel
theorem dX1_driveCart_58 : decode cX1_driveCart 58 = .ok (.invokevirtual 151, 3) := by decide +kernel
theorem dX1_driveCart_61 : decode cX1_driveCart 61 = .ok (.ifCond .eq 38, 3) := by decide +kernel
theorem dX1_driveCart_64 : decode cX1_driveCart 64 = .ok (.aload_n 0, 1) := by decide +kernel
theorem dX1_driveCart_65 : decode cX1_driveCart 65 = .ok (.iload_n 1, 1) := by decide +kernel
