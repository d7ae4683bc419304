theorem dX4_advise_42 : decode cX4_advise 42 = .ok (.aload_n 0, 1) := by decide +kernel
theorem dX4_advise_43 : decode cX4_advise 43 = .ok (.getfield 10, 3) := by decide +kernel
theorem dX4_advise_46 : decode cX4_advise 46 = .ok (.getfield 30, 3) := by decide +kernel
theorem dX4_advise_49 : decode cX4_advise 49 = .ok (.if_icmp .ge 30, 3) := by decide +kernel
theorem dX4_advise_52 : decode cX4_advise 52 = .ok (.aload_n 0, 1) := by decide +kernel
theorem dX4_advise_53 : decode cX4_advise 53 = .ok (.iload_n 1, 1) := by decide +kernel
theorem dX4_advise_54 : decode cX4_advise 54 = .ok (.iload 4, 2) := by decide +kernel
theorem dX4_advise_56 : decode cX4_advise 56 = .ok (.invokevirtual 152, 3) := by decide +kernel
theorem dX4_advise_59 : decode cX4_advise 59 = .ok (.istore 5, 2) := by decide +kernel
theorem dX4_advise_61 : decode cX4_advise 61 = .ok (.iload 5, 2) := by decide +kernel
theorem dX4_advise_63 : decode cX4_advise 63 = .ok (.iload_n 3, 1) := by decide +kernel
theorem dX4_advise_64 : decode cX4_advise 64 = .ok (.if_icmp .ge 9, 3) := by decide +kernel
theorem dX4_advise_67 : decode cX4_advise 67 = .ok (.iload 5, 2) := by decide +kernel
theorem dX4_advise_69 : decode cX4_advise 69 = .ok (.istore_n 3, 1) := by decide +kernel
theorem dX4_advise_70 : decode cX4_advise 70 = .ok (.iload 4, 2) := by decide +kernel
theorem dX4_advise_72 : decode cX4_advise 72 = .ok (.istore_n 2, 1) := by decide +kernel
theorem dX4_advise_73 : decode cX4_advise 73 = .ok (.iinc 4 1, 3) := by decide +kernel
theorem dX4_advise_76 : decode cX4_advise 76 = .ok (.goto (-36), 3) := by decide +kernel
theorem dX4_advise_79 : decode cX4_advise 79 = .ok (.iload_n 2, 1) := by decide +kernel
theorem dX4_advise_80 : decode cX4_advise 80 = .ok (.ireturn, 1) := by decide +kernel
set_option maxRecDepth 20000 in
theorem ggX4_lasts_X4_checkUmbrella : GoodIn wsX4_lasts wsX4_checkUmbrella := goodIn_ca (goodIn_r _ [10, 11, 12, 1, 13, 14, 15, 16, 17, 18, 32, 33, 34, 35, 36, 37, 38, 39, 40, 41, 42] (by decide +kernel) (by decide +kernel)) (goodIn_sub (fun _ h => List.mem_cons_of_mem _ (List.mem_append_right _ h)) (by decide +kernel))
set_option maxRecDepth 20000 in
theorem gX4_lasts_X4_checkUmbrella : GoodIn wsX4_lasts (wsV RX4 104 RX4 yX4_checkUmbrella wsX4_checkUmbrella) := goodIn_app (goodIn_of _ (by decide +kernel)) ggX4_lasts_X4_checkUmbrella
set_option maxRecDepth 20000 in
theorem ggX4_lasts_X4_checkHourOfDay : GoodIn wsX4_lasts wsX4_checkHourOfDay := goodIn_ca (goodIn_r _ [21, 11, 12, 22, 23, 9, 24, 25, 26, 27] (by decide +kernel) (by decide +kernel)) (goodIn_sub (fun _ h => List.mem_cons_of_mem _ (List.mem_append_right _ h)) (by decide +kernel))
set_option maxRecDepth 20000 in
theorem gX4_lasts_X4_checkHourOfDay : GoodIn wsX4_lasts (va_wsS RX4 77 yX4_checkHourOfDay wsX4_checkHourOfDay) := goodIn_app (goodIn_of _ (by decide +kernel)) ggX4_lasts_X4_checkHourOfDay
set_option maxRecDepth 20000 in
theorem ggX4_lasts_J9_floorMod_7cf53 : GoodIn wsX4_lasts wsJ9_floorMod_7cf53 := goodIn_r _ [31] (by decide +kernel) (by decide +kernel)
set_option maxRecDepth 20000 in
theorem gX4_lasts_J9_floorMod_7cf53 : GoodIn wsX4_lasts (va_wsS RX4 167 yJ9_floorMod_7cf53 wsJ9_floorMod_7cf53) := goodIn_app (goodIn_of _ (by decide +kernel)) ggX4_lasts_J9_floorMod_7cf53
theorem dX4_lasts_0 : decode cX4_lasts 0 = .ok (.aload_n 0, 1) := by decide +kernel
theorem dX4_lasts_1 : decode cX4_lasts 1 = .ok (.iload_n 1, 1) := by decide +kernel
theorem dX4_lasts_2 : decode cX4_lasts 2 = .ok (.invokevirtual 104, 3) := by decide +kernel
theorem dX4_lasts_5 : decode cX4_lasts 5 = .ok (.iload_n 2, 1) := by decide +kernel
theorem dX4_lasts_6 : decode cX4_lasts 6 = .ok (.invokestatic 77, 3) := by decide +kernel
theorem dX4_lasts_9 : decode cX4_lasts 9 = .ok (.aload_n 0, 1) := by decide +kernel
theorem dX4_lasts_10 : decode cX4_lasts 10 = .ok (.getfield 10, 3) := by decide +kernel
theorem dX4_lasts_13 : decode cX4_lasts 13 = .ok (.getfield 107, 3) := by decide +kernel
theorem dX4_lasts_16 : decode cX4_lasts 16 = .ok (.iload_n 1, 1) := by decide +kernel
theorem dX4_lasts_17 : decode cX4_lasts 17 = .ok (.aaload, 1) := by decide +kernel
theorem dX4_lasts_18 : decode cX4_lasts 18 = .ok (.getfield 161, 3) := by decide +kernel
theorem dX4_lasts_21 : decode cX4_lasts 21 = .ok (.iconst 3, 1) := by decide +kernel
theorem dX4_lasts_22 : decode cX4_lasts 22 = .ok (.if_icmp .ne 5, 3) := by decide +kernel
theorem dX4_lasts_25 : decode cX4_lasts 25 = .ok (.iconst (-1), 1) := by decide +kernel
theorem dX4_lasts_26 : decode cX4_lasts 26 = .ok (.ireturn, 1) := by decide +kernel
theorem dX4_lasts_27 : decode cX4_lasts 27 = .ok (.aload_n 0, 1) := by decide +kernel
theorem dX4_lasts_28 : decode cX4_lasts 28 = .ok (.getfield 10, 3) := by decide +kernel
theorem dX4_lasts_31 : decode cX4_lasts 31 = .ok (.getfield 107, 3) := by decide +kernel
theorem dX4_lasts_34 : decode cX4_lasts 34 = .ok (.iload_n 1, 1) := by decide +kernel
theorem dX4_lasts_35 : decode cX4_lasts 35 = .ok (.aaload, 1) := by decide +kernel
theorem dX4_lasts_36 : decode cX4_lasts 36 = .ok (.getfield 164, 3) := by decide +kernel
theorem dX4_lasts_39 : decode cX4_lasts 39 = .ok (.istore_n 3, 1) := by decide +kernel
theorem dX4_lasts_40 : decode cX4_lasts 40 = .ok (.iconst 0, 1) := by decide +kernel
theorem dX4_lasts_41 : decode cX4_lasts 41 = .ok (.istore 4, 2) := by decide +kernel
theorem dX4_lasts_43 : decode cX4_lasts 43 = .ok (.iload 4, 2) := by decide +kernel
theorem dX4_lasts_45 : decode cX4_lasts 45 = .ok (.sipush 200, 3) := by decide +kernel
theorem dX4_lasts_48 : decode cX4_lasts 48 = .ok (.if_icmp .ge 40, 3) := by decide +kernel
theorem dX4_lasts_51 : decode cX4_lasts 51 = .ok (.iload_n 3, 1) := by decide +kernel
theorem dX4_lasts_52 : decode cX4_lasts 52 = .ok (.aload_n 0, 1) := by decide +kernel
theorem dX4_lasts_53 : decode cX4_lasts 53 = .ok (.getfield 10, 3) := by decide +kernel
theorem dX4_lasts_56 : decode cX4_lasts 56 = .ok (.getfield 82, 3) := by decide +kernel
theorem dX4_lasts_59 : decode cX4_lasts 59 = .ok (.iload_n 2, 1) := by decide +kernel
theorem dX4_lasts_60 : decode cX4_lasts 60 = .ok (.iload 4, 2) := by decide +kernel
theorem dX4_lasts_62 : decode cX4_lasts 62 = .ok (.iadd, 1) := by decide +kernel
theorem dX4_lasts_63 : decode cX4_lasts 63 = .ok (.bipush 24, 2) := by decide +kernel
theorem dX4_lasts_65 : decode cX4_lasts 65 = .ok (.invokestatic 167, 3) := by decide +kernel
theorem dX4_lasts_68 : decode cX4_lasts 68 = .ok (.iaload, 1) := by decide +kernel
theorem dX4_lasts_69 : decode cX4_lasts 69 = .ok (.iadd, 1) := by decide +kernel
theorem dX4_lasts_70 : decode cX4_lasts 70 = .ok (.istore_n 3, 1) := by decide +kernel
theorem dX4_lasts_71 : decode cX4_lasts 71 = .ok (.iload_n 3, 1) := by decide +kernel
theorem dX4_lasts_72 : decode cX4_lasts 72 = .ok (.bipush 30, 2) := by decide +kernel
theorem dX4_lasts_74 : decode cX4_lasts 74 = .ok (.if_icmp .lt 8, 3) := by decide +kernel
theorem dX4_lasts_77 : decode cX4_lasts 77 = .ok (.iload 4, 2) := by decide +kernel
theorem dX4_lasts_79 : decode cX4_lasts 79 = .ok (.iconst 1, 1) := by decide +kernel
theorem dX4_lasts_80 : decode cX4_lasts 80 = .ok (.iadd, 1) := by decide +kernel
theorem dX4_lasts_81 : decode cX4_lasts 81 = .ok (.ireturn, 1) := by decide +kernel
theorem dX4_lasts_82 : decode cX4_lasts 82 = .ok (.iinc 4 1, 3) := by decide +kernel
theorem dX4_lasts_85 : decode cX4_lasts 85 = .ok (.goto (-42), 3) := by decide +kernel
theorem dX4_lasts_88 : decode cX4_lasts 88 = .ok (.iconst (-1), 1) := by decide +kernel
theorem dX4_lasts_89 : decode cX4_lasts 89 = .ok (.ireturn, 1) := by decide +kernel
set_option maxRecDepth 20000 in
theorem ggX4_trust_X1_trustOfAll : GoodIn wsX4_trust wsX1_trustOfAll := goodIn_r _ [7, 8, 9, 10, 13, 14, 15, 16, 17, 18, 19, 20, 21, 22, 23, 24, 25, 26, 27, 28, 29, 30, 31, 32, 33, 34, 35, 36] (by decide +kernel) (by decide +kernel)
set_option maxRecDepth 20000 in
theorem gX4_trust_X1_trustOfAll : GoodIn wsX4_trust (wsV RX4 147 RX1 yX1_trustOfAll wsX1_trustOfAll) := goodIn_app (goodIn_of _ (by decide +kernel)) ggX4_trust_X1_trustOfAll
theorem dX4_trust_0 : decode cX4_trust 0 = .ok (.aload_n 0, 1) := by decide +kernel
theorem dX4_trust_1 : decode cX4_trust 1 = .ok (.getfield 10, 3) := by decide +kernel
theorem dX4_trust_4 : decode cX4_trust 4 = .ok (.getfield 68, 3) := by decide +kernel
theorem dX4_trust_7 : decode cX4_trust 7 = .ok (.ifCond .ne 5, 3) := by decide +kernel
theorem dX4_trust_10 : decode cX4_trust 10 = .ok (.dconst 0, 1) := by decide +kernel
theorem dX4_trust_11 : decode cX4_trust 11 = .ok (.dreturn, 1) := by decide +kernel
theorem dX4_trust_12 : decode cX4_trust 12 = .ok (.aload_n 0, 1) := by decide +kernel
theorem dX4_trust_13 : decode cX4_trust 13 = .ok (.getfield 10, 3) := by decide +kernel
theorem dX4_trust_16 : decode cX4_trust 16 = .ok (.invokevirtual 147, 3) := by decide +kernel
theorem dX4_trust_19 : decode cX4_trust 19 = .ok (.i2d, 1) := by decide +kernel
theorem dX4_trust_20 : decode cX4_trust 20 = .ok (.aload_n 0, 1) := by decide +kernel
theorem dX4_trust_21 : decode cX4_trust 21 = .ok (.getfield 10, 3) := by decide +kernel
theorem dX4_trust_24 : decode cX4_trust 24 = .ok (.getfield 68, 3) := by decide +kernel
theorem dX4_trust_27 : decode cX4_trust 27 = .ok (.i2d, 1) := by decide +kernel
theorem dX4_trust_28 : decode cX4_trust 28 = .ok (.ddiv, 1) := by decide +kernel
theorem dX4_trust_29 : decode cX4_trust 29 = .ok (.dreturn, 1) := by decide +kernel
set_option maxRecDepth 20000 in
theorem ggX4_digest_X1_tellAll : GoodIn wsX4_digest wsX1_tellAll := goodIn_r _ [14, 15, 16, 17, 18, 19, 20, 21, 22, 13, 23, 24, 25, 26, 27, 28, 29, 30, 31, 32, 33, 34, 35, 36, 92, 93, 94, 95, 96, 97, 98, 99, 100, 101, 102, 103, 104, 105, 106, 107, 108, 109, 110, 111, 112, 113, 114, 115, 116, 117, 118, 119, 120, 121] (by decide +kernel) (by decide +kernel)
set_option maxRecDepth 20000 in
theorem gX4_digest_X1_tellAll : GoodIn wsX4_digest (wsV RX4 127 RX1 yX1_tellAll wsX1_tellAll) := goodIn_app (goodIn_of _ (by decide +kernel)) ggX4_digest_X1_tellAll
set_option maxRecDepth 20000 in
theorem ggX4_digest_X1_tellShelter : GoodIn wsX4_digest wsX1_tellShelter := goodIn_r _ [40, 41, 42, 43, 44, 45, 46, 47, 48, 49, 13, 50, 16, 51, 52, 53, 54, 17, 24, 55, 56, 57, 58, 59, 60, 61, 26, 27, 28, 29, 18, 30, 31, 62, 63, 64, 65, 66, 92, 93, 94, 95, 96, 97, 98, 99, 100, 122, 123, 124, 125, 126, 127, 128, 101, 102, 103, 104, 105, 106, 107, 108, 109, 110, 111, 112, 113, 114, 115, 116, 117, 118, 119, 120, 121] (by decide +kernel) (by decide +kernel)
set_option maxRecDepth 20000 in
theorem gX4_digest_X1_tellShelter : GoodIn wsX4_digest (wsV RX4 101 RX1 yX1_tellShelter wsX1_tellShelter) := goodIn_app (goodIn_of _ (by decide +kernel)) ggX4_digest_X1_tellShelter
set_option maxRecDepth 20000 in
theorem ggX4_digest_X3_tell : GoodIn wsX4_digest wsX3_tell := goodIn_r _ [70, 60, 61, 71, 72, 73, 74, 101, 102, 103, 104, 105, 106] (by decide +kernel) (by decide +kernel)
set_option maxRecDepth 20000 in
theorem gX4_digest_X3_tell : GoodIn wsX4_digest (wsV RX4 111 RX3 yX3_tell wsX3_tell) := goodIn_app (goodIn_of _ (by decide +kernel)) ggX4_digest_X3_tell
set_option maxRecDepth 20000 in
theorem ggX4_digest_X0_tell : GoodIn wsX4_digest wsX0_tell := goodIn_r _ [79, 80, 81, 82, 83, 84, 85, 86, 87, 88, 89, 107, 108, 109, 110, 111, 112, 113, 114, 115, 116, 117, 118, 119, 120, 121] (by decide +kernel) (by decide +kernel)
set_option maxRecDepth 20000 in
theorem gX4_digest_X0_tell : GoodIn wsX4_digest (wsV RX4 124 RX0 yX0_tell wsX0_tell) := goodIn_app (goodIn_of _ (by decide +kernel)) ggX4_digest_X0_tell
theorem dX4_digest_0 : decode cX4_digest 0 = .ok (.ldc2_w 172, 3) := by decide +kernel
theorem dX4_digest_3 : decode cX4_digest 3 = .ok (.lstore_n 1, 1) := by decide +kernel
theorem dX4_digest_4 : decode cX4_digest 4 = .ok (.iconst 0, 1) := by decide +kernel
theorem dX4_digest_5 : decode cX4_digest 5 = .ok (.istore_n 3, 1) := by decide +kernel
theorem dX4_digest_6 : decode cX4_digest 6 = .ok (.iload_n 3, 1) := by decide +kernel
theorem dX4_digest_7 : decode cX4_digest 7 = .ok (.bipush 11, 2) := by decide +kernel
theorem dX4_digest_9 : decode cX4_digest 9 = .ok (.if_icmp .ge 25, 3) := by decide +kernel
theorem dX4_digest_12 : decode cX4_digest 12 = .ok (.lload_n 1, 1) := by decide +kernel
theorem dX4_digest_13 : decode cX4_digest 13 = .ok (.ldc2_w 174, 3) := by decide +kernel
theorem dX4_digest_16 : decode cX4_digest 16 = .ok (.lmul, 1) := by decide +kernel
theorem dX4_digest_17 : decode cX4_digest 17 = .ok (.aload_n 0, 1) := by decide +kernel
theorem dX4_digest_18 : decode cX4_digest 18 = .ok (.getfield 10, 3) := by decide +kernel
theorem dX4_digest_21 : decode cX4_digest 21 = .ok (.iload_n 3, 1) := by decide +kernel
theorem dX4_digest_22 : decode cX4_digest 22 = .ok (.invokevirtual 127, 3) := by decide +kernel
theorem dX4_digest_25 : decode cX4_digest 25 = .ok (.i2l, 1) := by decide +kernel
theorem dX4_digest_26 : decode cX4_digest 26 = .ok (.ladd, 1) := by decide +kernel
theorem dX4_digest_27 : decode cX4_digest 27 = .ok (.lstore_n 1, 1) := by decide +kernel
theorem dX4_digest_28 : decode cX4_digest 28 = .ok (.iinc 3 1, 3) := by decide +kernel
theorem dX4_digest_31 : decode cX4_digest 31 = .ok (.goto (-25), 3) := by decide +kernel
theorem dX4_digest_34 : decode cX4_digest 34 = .ok (.iconst 0, 1) := by decide +kernel
theorem dX4_digest_35 : decode cX4_digest 35 = .ok (.istore_n 3, 1) := by decide +kernel
theorem dX4_digest_36 : decode cX4_digest 36 = .ok (.iload_n 3, 1) := by decide +kernel
theorem dX4_digest_37 : decode cX4_digest 37 = .ok (.bipush 24, 2) := by decide +kernel
theorem dX4_digest_39 : decode cX4_digest 39 = .ok (.if_icmp .ge 26, 3) := by decide +kernel
theorem dX4_digest_42 : decode cX4_digest 42 = .ok (.lload_n 1, 1) := by decide +kernel
theorem dX4_digest_43 : decode cX4_digest 43 = .ok (.ldc2_w 174, 3) := by decide +kernel
theorem dX4_digest_46 : decode cX4_digest 46 = .ok (.lmul, 1) := by decide +kernel
theorem dX4_digest_47 : decode cX4_digest 47 = .ok (.aload_n 0, 1) := by decide +kernel
theorem dX4_digest_48 : decode cX4_digest 48 = .ok (.getfield 10, 3) := by decide +kernel
theorem dX4_digest_51 : decode cX4_digest 51 = .ok (.getfield 82, 3) := by decide +kernel
theorem dX4_digest_54 : decode cX4_digest 54 = .ok (.iload_n 3, 1) := by decide +kernel
theorem dX4_digest_55 : decode cX4_digest 55 = .ok (.iaload, 1) := by decide +kernel
theorem dX4_digest_56 : decode cX4_digest 56 = .ok (.i2l, 1) := by decide +kernel
theorem dX4_digest_57 : decode cX4_digest 57 = .ok (.ladd, 1) := by decide +kernel
theorem dX4_digest_58 : decode cX4_digest 58 = .ok (.lstore_n 1, 1) := by decide +kernel
theorem dX4_digest_59 : decode cX4_digest 59 = .ok (.iinc 3 1, 3) := by decide +kernel
theorem dX4_digest_62 : decode cX4_digest 62 = .ok (.goto (-26), 3) := by decide +kernel
theorem dX4_digest_65 : decode cX4_digest 65 = .ok (.iconst 0, 1) := by decide +kernel
theorem dX4_digest_66 : decode cX4_digest 66 = .ok (.istore_n 3, 1) := by decide +kernel
theorem dX4_digest_67 : decode cX4_digest 67 = .ok (.iload_n 3, 1) := by decide +kernel
theorem dX4_digest_68 : decode cX4_digest 68 = .ok (.aload_n 0, 1) := by decide +kernel
theorem dX4_digest_69 : decode cX4_digest 69 = .ok (.getfield 10, 3) := by decide +kernel
theorem dX4_digest_72 : decode cX4_digest 72 = .ok (.getfield 30, 3) := by decide +kernel
theorem dX4_digest_75 : decode cX4_digest 75 = .ok (.if_icmp .ge 43, 3) := by decide +kernel
theorem dX4_digest_78 : decode cX4_digest 78 = .ok (.iconst 0, 1) := by decide +kernel
theorem dX4_digest_79 : decode cX4_digest 79 = .ok (.istore 4, 2) := by decide +kernel
theorem dX4_digest_81 : decode cX4_digest 81 = .ok (.iload 4, 2) := by decide +kernel
theorem dX4_digest_83 : decode cX4_digest 83 = .ok (.bipush 8, 2) := by decide +kernel
theorem dX4_digest_85 : decode cX4_digest 85 = .ok (.if_icmp .ge 27, 3) := by decide +kernel
theorem dX4_digest_88 : decode cX4_digest 88 = .ok (.lload_n 1, 1) := by decide +kernel
theorem dX4_digest_89 : decode cX4_digest 89 = .ok (.ldc2_w 174, 3) := by decide +kernel
theorem dX4_digest_92 : decode cX4_digest 92 = .ok (.lmul, 1) := by decide +kernel
theorem dX4_digest_93 : decode cX4_digest 93 = .ok (.aload_n 0, 1) := by decide +kernel
theorem dX4_digest_94 : decode cX4_digest 94 = .ok (.getfield 10, 3) := by decide +kernel
theorem dX4_digest_97 : decode cX4_digest 97 = .ok (.iload_n 3, 1) := by decide +kernel
theorem dX4_digest_98 : decode cX4_digest 98 = .ok (.iload 4, 2) := by decide +kernel
theorem dX4_digest_100 : decode cX4_digest 100 = .ok (.invokevirtual 101, 3) := by decide +kernel
theorem dX4_digest_103 : decode cX4_digest 103 = .ok (.i2l, 1) := by decide +kernel
theorem dX4_digest_104 : decode cX4_digest 104 = .ok (.ladd, 1) := by decide +kernel
theorem dX4_digest_105 : decode cX4_digest 105 = .ok (.lstore_n 1, 1) := by decide +kernel
theorem dX4_digest_106 : decode cX4_digest 106 = .ok (.iinc 4 1, 3) := by decide +kernel
theorem dX4_digest_109 : decode cX4_digest 109 = .ok (.goto (-28), 3) := by decide +kernel
theorem dX4_digest_112 : decode cX4_digest 112 = .ok (.iinc 3 1, 3) := by decide +kernel
theorem dX4_digest_115 : decode cX4_digest 115 = .ok (.goto (-48), 3) := by decide +kernel
theorem dX4_digest_118 : decode cX4_digest 118 = .ok (.iconst 0, 1) := by decide +kernel
theorem dX4_digest_119 : decode cX4_digest 119 = .ok (.istore_n 3, 1) := by decide +kernel
theorem dX4_digest_120 : decode cX4_digest 120 = .ok (.iload_n 3, 1) := by decide +kernel
theorem dX4_digest_121 : decode cX4_digest 121 = .ok (.aload_n 0, 1) := by decide +kernel
theorem dX4_digest_122 : decode cX4_digest 122 = .ok (.getfield 10, 3) := by decide +kernel
theorem dX4_digest_125 : decode cX4_digest 125 = .ok (.getfield 53, 3) := by decide +kernel
theorem dX4_digest_128 : decode cX4_digest 128 = .ok (.if_icmp .ge 47, 3) := by decide +kernel
theorem dX4_digest_131 : decode cX4_digest 131 = .ok (.iconst 0, 1) := by decide +kernel
theorem dX4_digest_132 : decode cX4_digest 132 = .ok (.istore 4, 2) := by decide +kernel
theorem dX4_digest_134 : decode cX4_digest 134 = .ok (.iload 4, 2) := by decide +kernel
theorem dX4_digest_136 : decode cX4_digest 136 = .ok (.bipush 6, 2) := by decide +kernel
theorem dX4_digest_138 : decode cX4_digest 138 = .ok (.if_icmp .ge 31, 3) := by decide +kernel
theorem dX4_digest_141 : decode cX4_digest 141 = .ok (.lload_n 1, 1) := by decide +kernel
theorem dX4_digest_142 : decode cX4_digest 142 = .ok (.ldc2_w 174, 3) := by decide +kernel
theorem dX4_digest_145 : decode cX4_digest 145 = .ok (.lmul, 1) := by decide +kernel
theorem dX4_digest_146 : decode cX4_digest 146 = .ok (.aload_n 0, 1) := by decide +kernel
theorem dX4_digest_147 : decode cX4_digest 147 = .ok (.getfield 10, 3) := by decide +kernel
theorem dX4_digest_150 : decode cX4_digest 150 = .ok (.getfield 107, 3) := by decide +kernel
theorem dX4_digest_153 : decode cX4_digest 153 = .ok (.iload_n 3, 1) := by decide +kernel
theorem dX4_digest_154 : decode cX4_digest 154 = .ok (.aaload, 1) := by decide +kernel
theorem dX4_digest_155 : decode cX4_digest 155 = .ok (.iload 4, 2) := by decide +kernel
theorem dX4_digest_157 : decode cX4_digest 157 = .ok (.invokevirtual 111, 3) := by decide +kernel
theorem dX4_digest_160 : decode cX4_digest 160 = .ok (.i2l, 1) := by decide +kernel
theorem dX4_digest_161 : decode cX4_digest 161 = .ok (.ladd, 1) := by decide +kernel
theorem dX4_digest_162 : decode cX4_digest 162 = .ok (.lstore_n 1, 1) := by decide +kernel
theorem dX4_digest_163 : decode cX4_digest 163 = .ok (.iinc 4 1, 3) := by decide +kernel
theorem dX4_digest_166 : decode cX4_digest 166 = .ok (.goto (-32), 3) := by decide +kernel
theorem dX4_digest_169 : decode cX4_digest 169 = .ok (.iinc 3 1, 3) := by decide +kernel
theorem dX4_digest_172 : decode cX4_digest 172 = .ok (.goto (-52), 3) := by decide +kernel
theorem dX4_digest_175 : decode cX4_digest 175 = .ok (.iconst 0, 1) := by decide +kernel
theorem dX4_digest_176 : decode cX4_digest 176 = .ok (.istore_n 3, 1) := by decide +kernel
theorem dX4_digest_177 : decode cX4_digest 177 = .ok (.iload_n 3, 1) := by decide +kernel
theorem dX4_digest_178 : decode cX4_digest 178 = .ok (.aload_n 0, 1) := by decide +kernel
theorem dX4_digest_179 : decode cX4_digest 179 = .ok (.getfield 10, 3) := by decide +kernel
theorem dX4_digest_182 : decode cX4_digest 182 = .ok (.getfield 68, 3) := by decide +kernel
theorem dX4_digest_185 : decode cX4_digest 185 = .ok (.if_icmp .ge 47, 3) := by decide +kernel
theorem dX4_digest_188 : decode cX4_digest 188 = .ok (.iconst 0, 1) := by decide +kernel
theorem dX4_digest_189 : decode cX4_digest 189 = .ok (.istore 4, 2) := by decide +kernel
theorem dX4_digest_191 : decode cX4_digest 191 = .ok (.iload 4, 2) := by decide +kernel
theorem dX4_digest_193 : decode cX4_digest 193 = .ok (.bipush 10, 2) := by decide +kernel
theorem dX4_digest_195 : decode cX4_digest 195 = .ok (.if_icmp .ge 31, 3) := by decide +kernel
theorem dX4_digest_198 : decode cX4_digest 198 = .ok (.lload_n 1, 1) := by decide +kernel
theorem dX4_digest_199 : decode cX4_digest 199 = .ok (.ldc2_w 174, 3) := by decide +kernel
theorem dX4_digest_202 : decode cX4_digest 202 = .ok (.lmul, 1) := by decide +kernel
theorem dX4_digest_203 : decode cX4_digest 203 = .ok (.aload_n 0, 1) := by decide +kernel
theorem dX4_digest_204 : decode cX4_digest 204 = .ok (.getfield 10, 3) := by decide +kernel
theorem dX4_digest_207 : decode cX4_digest 207 = .ok (.getfield 120, 3) := by decide +kernel
theorem dX4_digest_210 : decode cX4_digest 210 = .ok (.iload_n 3, 1) := by decide +kernel
theorem dX4_digest_211 : decode cX4_digest 211 = .ok (.aaload, 1) := by decide +kernel
theorem dX4_digest_212 : decode cX4_digest 212 = .ok (.iload 4, 2) := by decide +kernel
theorem dX4_digest_214 : decode cX4_digest 214 = .ok (.invokevirtual 124, 3) := by decide +kernel
theorem dX4_digest_217 : decode cX4_digest 217 = .ok (.i2l, 1) := by decide +kernel
theorem dX4_digest_218 : decode cX4_digest 218 = .ok (.ladd, 1) := by decide +kernel
theorem dX4_digest_219 : decode cX4_digest 219 = .ok (.lstore_n 1, 1) := by decide +kernel
theorem dX4_digest_220 : decode cX4_digest 220 = .ok (.iinc 4 1, 3) := by decide +kernel
theorem dX4_digest_223 : decode cX4_digest 223 = .ok (.goto (-32), 3) := by decide +kernel
theorem dX4_digest_226 : decode cX4_digest 226 = .ok (.iinc 3 1, 3) := by decide +kernel
theorem dX4_digest_229 : decode cX4_digest 229 = .ok (.goto (-52), 3) := by decide +kernel
theorem dX4_digest_232 : decode cX4_digest 232 = .ok (.lload_n 1, 1) := by decide +kernel
theorem dX4_digest_233 : decode cX4_digest 233 = .ok (.lreturn, 1) := by decide +kernel
set_option maxRecDepth 20000 in
theorem ggX4_wetAfter_X1_becomeLike : GoodIn wsX4_wetAfter wsX1_becomeLike := goodIn_r _ [7, 8, 9, 10, 11, 12, 13, 14, 15, 16, 17, 18, 19, 20, 21, 22, 23, 24, 25, 26, 27, 28, 29, 30, 31, 32, 33, 34, 35, 36, 37, 38, 39, 40, 41, 42, 43, 44, 45, 46, 47, 48, 49, 50, 51, 52, 53, 54, 55, 56, 57, 58, 59, 60, 61, 62, 63, 208, 209, 210, 211, 212, 213, 214, 215, 216, 217, 218, 219, 220, 221, 222, 223, 224, 225, 226, 227, 228, 229, 230, 231, 232, 233, 234, 235, 236, 237, 238, 239, 240, 241, 242, 243, 244] (by decide +kernel) (by decide +kernel)
set_option maxRecDepth 20000 in
theorem gX4_wetAfter_X1_becomeLike : GoodIn wsX4_wetAfter (wsV RX4 136 RX1 yX1_becomeLike wsX1_becomeLike) := goodIn_app (goodIn_of _ (by decide +kernel)) ggX4_wetAfter_X1_becomeLike
set_option maxRecDepth 20000 in
theorem ggX4_wetAfter_X1_addUmbrella : GoodIn wsX4_wetAfter wsX1_addUmbrella := goodIn_r _ [67, 15, 19, 68, 69, 70, 36, 71, 40, 42, 43, 72, 73, 74, 75, 38, 39, 41, 208, 209, 210, 211, 212, 213, 214, 215, 216, 224, 225, 226, 227, 228, 229] (by decide +kernel) (by decide +kernel)
set_option maxRecDepth 20000 in
theorem gX4_wetAfter_X1_addUmbrella : GoodIn wsX4_wetAfter (wsV RX4 58 RX1 yX1_addUmbrella wsX1_addUmbrella) := goodIn_app (goodIn_of _ (by decide +kernel)) ggX4_wetAfter_X1_addUmbrella
set_option maxRecDepth 20000 in
theorem ggX4_wetAfter_X1_letGoBy : GoodIn wsX4_wetAfter wsX1_letGoBy := goodIn_r _ [79, 13, 8, 80, 81, 82, 83, 84, 85, 86, 6, 87, 15, 19, 88, 89, 90, 36, 91, 41, 38, 40, 43, 72, 73, 74, 75, 39, 92, 93, 94, 95, 16, 20, 96, 97, 98, 47, 99, 55, 49, 51, 50, 52, 100, 101, 102, 103, 104, 18, 105, 106, 107, 108, 109, 110, 111, 112, 113, 114, 14, 115, 116, 117, 118, 119, 120, 121, 122, 123, 124, 125, 126, 127, 128, 129, 130, 24, 131, 30, 32, 132, 133, 134, 135, 42, 136, 137, 138, 139, 56, 54, 57, 140, 141, 142, 143, 144, 145, 146, 147, 148, 149, 150, 151, 152, 153, 154, 155, 156, 157, 158, 159, 160, 161, 162, 163, 53, 61, 164, 165, 166, 167, 168, 59, 169, 170, 171, 172, 173, 174, 175, 176, 62, 177, 178, 179, 180, 181, 182, 183, 29, 31, 184, 185, 186, 187, 17, 188, 189, 190, 191, 192, 193, 194, 195, 196, 197, 198, 199, 27, 200, 201, 208, 209, 210, 211, 212, 213, 214, 215, 216, 224, 225, 226, 227, 228, 229, 230, 231, 232, 233, 234, 235, 236, 237, 238, 239, 240, 241, 242, 243, 244, 217, 218, 219, 220, 221, 222, 223] (by decide +kernel) (by decide +kernel)
set_option maxRecDepth 20000 in
theorem gX4_wetAfter_X1_letGoBy : GoodIn wsX4_wetAfter (wsV RX4 133 RX1 yX1_letGoBy wsX1_letGoBy) := goodIn_app (goodIn_of _ (by decide +kernel)) ggX4_wetAfter_X1_letGoBy
set_option maxRecDepth 20000 in
theorem ggX4_wetAfter_X1_wetOfAll : GoodIn wsX4_wetAfter wsX1_wetOfAll := goodIn_r _ [205, 16, 20, 149, 208, 209, 210, 211, 212, 213, 214, 215, 216, 230, 231, 232, 233, 234, 235, 236, 237, 238, 239, 240, 241, 242, 243, 244] (by decide +kernel) (by decide +kernel)
set_option maxRecDepth 20000 in
theorem gX4_wetAfter_X1_wetOfAll : GoodIn wsX4_wetAfter (wsV RX4 140 RX1 yX1_wetOfAll wsX1_wetOfAll) := goodIn_app (goodIn_of _ (by decide +kernel)) ggX4_wetAfter_X1_wetOfAll
theorem dX4_wetAfter_0 : decode cX4_wetAfter 0 = .ok (.aload_n 0, 1) := by decide +kernel
theorem dX4_wetAfter_1 : decode cX4_wetAfter 1 = .ok (.getfield 16, 3) := by decide +kernel
theorem dX4_wetAfter_4 : decode cX4_wetAfter 4 = .ok (.aload_n 0, 1) := by decide +kernel
theorem dX4_wetAfter_5 : decode cX4_wetAfter 5 = .ok (.getfield 10, 3) := by decide +kernel
theorem dX4_wetAfter_8 : decode cX4_wetAfter 8 = .ok (.invokevirtual 136, 3) := by decide +kernel
theorem dX4_wetAfter_11 : decode cX4_wetAfter 11 = .ok (.iload_n 2, 1) := by decide +kernel
theorem dX4_wetAfter_12 : decode cX4_wetAfter 12 = .ok (.iconst (-1), 1) := by decide +kernel
theorem dX4_wetAfter_13 : decode cX4_wetAfter 13 = .ok (.if_icmp .eq 11, 3) := by decide +kernel
theorem dX4_wetAfter_16 : decode cX4_wetAfter 16 = .ok (.aload_n 0, 1) := by decide +kernel
theorem dX4_wetAfter_17 : decode cX4_wetAfter 17 = .ok (.getfield 16, 3) := by decide +kernel
theorem dX4_wetAfter_20 : decode cX4_wetAfter 20 = .ok (.iload_n 2, 1) := by decide +kernel
theorem dX4_wetAfter_21 : decode cX4_wetAfter 21 = .ok (.invokevirtual 58, 3) := by decide +kernel
theorem dX4_wetAfter_24 : decode cX4_wetAfter 24 = .ok (.aload_n 0, 1) := by decide +kernel
theorem dX4_wetAfter_25 : decode cX4_wetAfter 25 = .ok (.getfield 16, 3) := by decide +kernel
theorem dX4_wetAfter_28 : decode cX4_wetAfter 28 = .ok (.iload_n 1, 1) := by decide +kernel
theorem dX4_wetAfter_29 : decode cX4_wetAfter 29 = .ok (.invokevirtual 133, 3) := by decide +kernel
theorem dX4_wetAfter_32 : decode cX4_wetAfter 32 = .ok (.pop, 1) := by decide +kernel
theorem dX4_wetAfter_33 : decode cX4_wetAfter 33 = .ok (.aload_n 0, 1) := by decide +kernel
theorem dX4_wetAfter_34 : decode cX4_wetAfter 34 = .ok (.getfield 16, 3) := by decide +kernel
theorem dX4_wetAfter_37 : decode cX4_wetAfter 37 = .ok (.invokevirtual 140, 3) := by decide +kernel
theorem dX4_wetAfter_40 : decode cX4_wetAfter 40 = .ok (.ireturn, 1) := by decide +kernel
set_option maxRecDepth 20000 in
theorem ggX4_checkShelter_X1_isShelter : GoodIn wsX4_checkShelter wsX1_isShelter := goodIn_r _ [8, 9, 12, 13, 14, 15, 16, 17, 18, 19, 20] (by decide +kernel) (by decide +kernel)
set_option maxRecDepth 20000 in
theorem gX4_checkShelter_X1_isShelter : GoodIn wsX4_checkShelter (wsV RX4 176 RX1 yX1_isShelter wsX1_isShelter) := goodIn_app (goodIn_of _ (by decide +kernel)) ggX4_checkShelter_X1_isShelter
theorem dX4_checkShelter_0 : decode cX4_checkShelter 0 = .ok (.aload_n 0, 1) := by decide +kernel
theorem dX4_checkShelter_1 : decode cX4_checkShelter 1 = .ok (.getfield 10, 3) := by decide +kernel
theorem dX4_checkShelter_4 : decode cX4_checkShelter 4 = .ok (.iload_n 1, 1) := by decide +kernel
theorem dX4_checkShelter_5 : decode cX4_checkShelter 5 = .ok (.invokevirtual 176, 3) := by decide +kernel
theorem dX4_checkShelter_8 : decode cX4_checkShelter 8 = .ok (.ifCond .ne 13, 3) := by decide +kernel
theorem dX4_checkShelter_11 : decode cX4_checkShelter 11 = .ok (.new 179, 3) := by decide +kernel
theorem dX4_checkShelter_14 : decode cX4_checkShelter 14 = .ok (.dup, 1) := by decide +kernel
theorem dX4_checkShelter_15 : decode cX4_checkShelter 15 = .ok (.ldc 181, 2) := by decide +kernel
theorem dX4_checkShelter_17 : decode cX4_checkShelter 17 = .ok (.invokespecial 183, 3) := by decide +kernel
theorem dX4_checkShelter_20 : decode cX4_checkShelter 20 = .ok (.athrow, 1) := by decide +kernel
theorem dX4_checkShelter_21 : decode cX4_checkShelter 21 = .ok (.return_, 1) := by decide +kernel
set_option maxRecDepth 20000 in
theorem ggX4_checkUmbrella_X1_isUmbrella : GoodIn wsX4_checkUmbrella wsX1_isUmbrella := goodIn_r _ [8, 9, 12, 13, 14, 15, 16, 17, 18, 19, 20] (by decide +kernel) (by decide +kernel)
set_option maxRecDepth 20000 in
theorem gX4_checkUmbrella_X1_isUmbrella : GoodIn wsX4_checkUmbrella (wsV RX4 184 RX1 yX1_isUmbrella wsX1_isUmbrella) := goodIn_app (goodIn_of _ (by decide +kernel)) ggX4_checkUmbrella_X1_isUmbrella
theorem dX4_checkUmbrella_0 : decode cX4_checkUmbrella 0 = .ok (.aload_n 0, 1) := by decide +kernel
theorem dX4_checkUmbrella_1 : decode cX4_checkUmbrella 1 = .ok (.getfield 10, 3) := by decide +kernel
theorem dX4_checkUmbrella_4 : decode cX4_checkUmbrella 4 = .ok (.iload_n 1, 1) := by decide +kernel
theorem dX4_checkUmbrella_5 : decode cX4_checkUmbrella 5 = .ok (.invokevirtual 184, 3) := by decide +kernel
theorem dX4_checkUmbrella_8 : decode cX4_checkUmbrella 8 = .ok (.ifCond .ne 13, 3) := by decide +kernel
theorem dX4_checkUmbrella_11 : decode cX4_checkUmbrella 11 = .ok (.new 179, 3) := by decide +kernel
theorem dX4_checkUmbrella_14 : decode cX4_checkUmbrella 14 = .ok (.dup, 1) := by decide +kernel
theorem dX4_checkUmbrella_15 : decode cX4_checkUmbrella 15 = .ok (.ldc 187, 2) := by decide +kernel
theorem dX4_checkUmbrella_17 : decode cX4_checkUmbrella 17 = .ok (.invokespecial 183, 3) := by decide +kernel
theorem dX4_checkUmbrella_20 : decode cX4_checkUmbrella 20 = .ok (.athrow, 1) := by decide +kernel
theorem dX4_checkUmbrella_21 : decode cX4_checkUmbrella 21 = .ok (.return_, 1) := by decide +kernel
set_option maxRecDepth 20000 in
theorem ggX4_checkCitizen_X1_isCitizen : GoodIn wsX4_checkCitizen wsX1_isCitizen := goodIn_r _ [8, 9, 12, 13, 14, 15, 16, 17, 18, 19, 20] (by decide +kernel) (by decide +kernel)
set_option maxRecDepth 20000 in
theorem gX4_checkCitizen_X1_isCitizen : GoodIn wsX4_checkCitizen (wsV RX4 189 RX1 yX1_isCitizen wsX1_isCitizen) := goodIn_app (goodIn_of _ (by decide +kernel)) ggX4_checkCitizen_X1_isCitizen
theorem dX4_checkCitizen_0 : decode cX4_checkCitizen 0 = .ok (.aload_n 0, 1) := by decide +kernel
theorem dX4_checkCitizen_1 : decode cX4_checkCitizen 1 = .ok (.getfield 10, 3) := by decide +kernel
theorem dX4_checkCitizen_4 : decode cX4_checkCitizen 4 = .ok (.iload_n 1, 1) := by decide +kernel
theorem dX4_checkCitizen_5 : decode cX4_checkCitizen 5 = .ok (.invokevirtual 189, 3) := by decide +kernel
theorem dX4_checkCitizen_8 : decode cX4_checkCitizen 8 = .ok (.ifCond .ne 13, 3) := by decide +kernel
theorem dX4_checkCitizen_11 : decode cX4_checkCitizen 11 = .ok (.new 179, 3) := by decide +kernel
theorem dX4_checkCitizen_14 : decode cX4_checkCitizen 14 = .ok (.dup, 1) := by decide +kernel
theorem dX4_checkCitizen_15 : decode cX4_checkCitizen 15 = .ok (.ldc 192, 2) := by decide +kernel
theorem dX4_checkCitizen_17 : decode cX4_checkCitizen 17 = .ok (.invokespecial 183, 3) := by decide +kernel
theorem dX4_checkCitizen_20 : decode cX4_checkCitizen 20 = .ok (.athrow, 1) := by decide +kernel
theorem dX4_checkCitizen_21 : decode cX4_checkCitizen 21 = .ok (.return_, 1) := by decide +kernel
set_option maxRecDepth 20000 in
theorem ggX4_checkWhat_X4_isWithin : GoodIn wsX4_checkWhat wsX4_isWithin := goodIn_r _ [6] (by decide +kernel) (by decide +kernel)
set_option maxRecDepth 20000 in
theorem gX4_checkWhat_X4_isWithin : GoodIn wsX4_checkWhat (va_wsS RX4 19 yX4_isWithin wsX4_isWithin) := goodIn_app (goodIn_of _ (by decide +kernel)) ggX4_checkWhat_X4_isWithin
theorem dX4_checkWhat_0 : decode cX4_checkWhat 0 = .ok (.iload_n 0, 1) := by decide +kernel
theorem dX4_checkWhat_1 : decode cX4_checkWhat 1 = .ok (.iconst 0, 1) := by decide +kernel
theorem dX4_checkWhat_2 : decode cX4_checkWhat 2 = .ok (.iload_n 1, 1) := by decide +kernel
theorem dX4_checkWhat_3 : decode cX4_checkWhat 3 = .ok (.iconst 1, 1) := by decide +kernel
theorem dX4_checkWhat_4 : decode cX4_checkWhat 4 = .ok (.isub, 1) := by decide +kernel
theorem dX4_checkWhat_5 : decode cX4_checkWhat 5 = .ok (.invokestatic 19, 3) := by decide +kernel
theorem dX4_checkWhat_8 : decode cX4_checkWhat 8 = .ok (.ifCond .ne 13, 3) := by decide +kernel
theorem dX4_checkWhat_11 : decode cX4_checkWhat 11 = .ok (.new 179, 3) := by decide +kernel
theorem dX4_checkWhat_14 : decode cX4_checkWhat 14 = .ok (.dup, 1) := by decide +kernel
theorem dX4_checkWhat_15 : decode cX4_checkWhat 15 = .ok (.ldc 194, 2) := by decide +kernel
theorem dX4_checkWhat_17 : decode cX4_checkWhat 17 = .ok (.invokespecial 183, 3) := by decide +kernel
theorem dX4_checkWhat_20 : decode cX4_checkWhat 20 = .ok (.athrow, 1) := by decide +kernel
theorem dX4_checkWhat_21 : decode cX4_checkWhat 21 = .ok (.return_, 1) := by decide +kernel
set_option maxRecDepth 20000 in
theorem ggX4_checkHourOfDay_X4_isHourOfDay : GoodIn wsX4_checkHourOfDay wsX4_isHourOfDay := goodIn_r _ [6, 7, 8, 5, 9] (by decide +kernel) (by decide +kernel)
set_option maxRecDepth 20000 in
theorem gX4_checkHourOfDay_X4_isHourOfDay : GoodIn wsX4_checkHourOfDay (va_wsS RX4 63 yX4_isHourOfDay wsX4_isHourOfDay) := goodIn_app (goodIn_of _ (by decide +kernel)) ggX4_checkHourOfDay_X4_isHourOfDay
theorem dX4_checkHourOfDay_0 : decode cX4_checkHourOfDay 0 = .ok (.iload_n 0, 1) := by decide +kernel
theorem dX4_checkHourOfDay_1 : decode cX4_checkHourOfDay 1 = .ok (.invokestatic 63, 3) := by decide +kernel
theorem dX4_checkHourOfDay_4 : decode cX4_checkHourOfDay 4 = .ok (.ifCond .ne 13, 3) := by decide +kernel
theorem dX4_checkHourOfDay_7 : decode cX4_checkHourOfDay 7 = .ok (.new 179, 3) := by decide +kernel
theorem dX4_checkHourOfDay_10 : decode cX4_checkHourOfDay 10 = .ok (.dup, 1) := by decide +kernel
theorem dX4_checkHourOfDay_11 : decode cX4_checkHourOfDay 11 = .ok (.ldc 196, 2) := by decide +kernel
theorem dX4_checkHourOfDay_13 : decode cX4_checkHourOfDay 13 = .ok (.invokespecial 183, 3) := by decide +kernel
theorem dX4_checkHourOfDay_16 : decode cX4_checkHourOfDay 16 = .ok (.athrow, 1) := by decide +kernel
theorem dX4_checkHourOfDay_17 : decode cX4_checkHourOfDay 17 = .ok (.return_, 1) := by decide +kernel
set_option maxRecDepth 20000 in
theorem ggX4_checkHours_X4_isWithin : GoodIn wsX4_checkHours wsX4_isWithin := goodIn_r _ [6] (by decide +kernel) (by decide +kernel)
set_option maxRecDepth 20000 in
theorem gX4_checkHours_X4_isWithin : GoodIn wsX4_checkHours (va_wsS RX4 19 yX4_isWithin wsX4_isWithin) := goodIn_app (goodIn_of _ (by decide +kernel)) ggX4_checkHours_X4_isWithin
theorem dX4_checkHours_0 : decode cX4_checkHours 0 = .ok (.iload_n 0, 1) := by decide +kernel
theorem dX4_checkHours_1 : decode cX4_checkHours 1 = .ok (.iconst 1, 1) := by decide +kernel
theorem dX4_checkHours_2 : decode cX4_checkHours 2 = .ok (.iload_n 1, 1) := by decide +kernel
theorem dX4_checkHours_3 : decode cX4_checkHours 3 = .ok (.invokestatic 19, 3) := by decide +kernel
theorem dX4_checkHours_6 : decode cX4_checkHours 6 = .ok (.ifCond .ne 13, 3) := by decide +kernel
theorem dX4_checkHours_9 : decode cX4_checkHours 9 = .ok (.new 23, 3) := by decide +kernel
theorem dX4_checkHours_12 : decode cX4_checkHours 12 = .ok (.dup, 1) := by decide +kernel
theorem dX4_checkHours_13 : decode cX4_checkHours 13 = .ok (.ldc 198, 2) := by decide +kernel
theorem dX4_checkHours_15 : decode cX4_checkHours 15 = .ok (.invokespecial 27, 3) := by decide +kernel
theorem dX4_checkHours_18 : decode cX4_checkHours 18 = .ok (.athrow, 1) := by decide +kernel
theorem dX4_checkHours_19 : decode cX4_checkHours 19 = .ok (.return_, 1) := by decide +kernel
set_option maxRecDepth 20000 in
theorem ggX4_isHourOfDay_X4_isWithin : GoodIn wsX4_isHourOfDay wsX4_isWithin := goodIn_r _ [4] (by decide +kernel) (by decide +kernel)
set_option maxRecDepth 20000 in
theorem gX4_isHourOfDay_X4_isWithin : GoodIn wsX4_isHourOfDay (va_wsS RX4 19 yX4_isWithin wsX4_isWithin) := goodIn_app (goodIn_of _ (by decide +kernel)) ggX4_isHourOfDay_X4_isWithin
theorem dX4_isHourOfDay_0 : decode cX4_isHourOfDay 0 = .ok (.iload_n 0, 1) := by decide +kernel
theorem dX4_isHourOfDay_1 : decode cX4_isHourOfDay 1 = .ok (.iconst 0, 1) := by decide +kernel
theorem dX4_isHourOfDay_2 : decode cX4_isHourOfDay 2 = .ok (.bipush 23, 2) := by decide +kernel
theorem dX4_isHourOfDay_4 : decode cX4_isHourOfDay 4 = .ok (.invokestatic 19, 3) := by decide +kernel
theorem dX4_isHourOfDay_7 : decode cX4_isHourOfDay 7 = .ok (.ireturn, 1) := by decide +kernel
theorem dX4_isWithin_0 : decode cX4_isWithin 0 = .ok (.iload_n 0, 1) := by decide +kernel
theorem dX4_isWithin_1 : decode cX4_isWithin 1 = .ok (.iload_n 1, 1) := by decide +kernel
theorem dX4_isWithin_2 : decode cX4_isWithin 2 = .ok (.if_icmp .lt 12, 3) := by decide +kernel
theorem dX4_isWithin_5 : decode cX4_isWithin 5 = .ok (.iload_n 0, 1) := by decide +kernel
theorem dX4_isWithin_6 : decode cX4_isWithin 6 = .ok (.iload_n 2, 1) := by decide +kernel
theorem dX4_isWithin_7 : decode cX4_isWithin 7 = .ok (.if_icmp .gt 7, 3) := by decide +kernel
theorem dX4_isWithin_10 : decode cX4_isWithin 10 = .ok (.iconst 1, 1) := by decide +kernel
theorem dX4_isWithin_11 : decode cX4_isWithin 11 = .ok (.goto 4, 3) := by decide +kernel
theorem dX4_isWithin_14 : decode cX4_isWithin 14 = .ok (.iconst 0, 1) := by decide +kernel
theorem dX4_isWithin_15 : decode cX4_isWithin 15 = .ok (.ireturn, 1) := by decide +kernel
theorem dJ9_floorMod_7cf53_0 : decode cJ9_floorMod_7cf53 0 = .ok (.iload_n 0, 1) := by decide +kernel
theorem dJ9_floorMod_7cf53_1 : decode cJ9_floorMod_7cf53 1 = .ok (.iload_n 1, 1) := by decide +kernel
theorem dJ9_floorMod_7cf53_2 : decode cJ9_floorMod_7cf53 2 = .ok (.irem, 1) := by decide +kernel
theorem dJ9_floorMod_7cf53_3 : decode cJ9_floorMod_7cf53 3 = .ok (.istore_n 2, 1) := by decide +kernel
theorem dJ9_floorMod_7cf53_4 : decode cJ9_floorMod_7cf53 4 = .ok (.iload_n 0, 1) := by decide +kernel
theorem dJ9_floorMod_7cf53_5 : decode cJ9_floorMod_7cf53 5 = .ok (.iload_n 1, 1) := by decide +kernel
theorem dJ9_floorMod_7cf53_6 : decode cJ9_floorMod_7cf53 6 = .ok (.ixor, 1) := by decide +kernel
theorem dJ9_floorMod_7cf53_7 : decode cJ9_floorMod_7cf53 7 = .ok (.ifCond .ge 11, 3) := by decide +kernel
theorem dJ9_floorMod_7cf53_10 : decode cJ9_floorMod_7cf53 10 = .ok (.iload_n 2, 1) := by decide +kernel
theorem dJ9_floorMod_7cf53_11 : decode cJ9_floorMod_7cf53 11 = .ok (.ifCond .eq 7, 3) := by decide +kernel
theorem dJ9_floorMod_7cf53_14 : decode cJ9_floorMod_7cf53 14 = .ok (.iload_n 2, 1) := by decide +kernel
theorem dJ9_floorMod_7cf53_15 : decode cJ9_floorMod_7cf53 15 = .ok (.iload_n 1, 1) := by decide +kernel
theorem dJ9_floorMod_7cf53_16 : decode cJ9_floorMod_7cf53 16 = .ok (.iadd, 1) := by decide +kernel
theorem dJ9_floorMod_7cf53_17 : decode cJ9_floorMod_7cf53 17 = .ok (.ireturn, 1) := by decide +kernel
theorem dJ9_floorMod_7cf53_18 : decode cJ9_floorMod_7cf53 18 = .ok (.iload_n 2, 1) := by decide +kernel
theorem dJ9_floorMod_7cf53_19 : decode cJ9_floorMod_7cf53 19 = .ok (.ireturn, 1) := by decide +kernel
theorem dJ9_abs_0f7a4_0 : decode cJ9_abs_0f7a4 0 = .ok (.iload_n 0, 1) := by decide +kernel
theorem dJ9_abs_0f7a4_1 : decode cJ9_abs_0f7a4 1 = .ok (.ifCond .ge 8, 3) := by decide +kernel
theorem dJ9_abs_0f7a4_4 : decode cJ9_abs_0f7a4 4 = .ok (.iload_n 0, 1) := by decide +kernel
theorem dJ9_abs_0f7a4_5 : decode cJ9_abs_0f7a4 5 = .ok (.ineg, 1) := by decide +kernel
theorem dJ9_abs_0f7a4_6 : decode cJ9_abs_0f7a4 6 = .ok (.goto 4, 3) := by decide +kernel
theorem dJ9_abs_0f7a4_9 : decode cJ9_abs_0f7a4 9 = .ok (.iload_n 0, 1) := by decide +kernel
theorem dJ9_abs_0f7a4_10 : decode cJ9_abs_0f7a4 10 = .ok (.ireturn, 1) := by decide +kernel
theorem dJ9_max_7cf53_0 : decode cJ9_max_7cf53 0 = .ok (.iload_n 0, 1) := by decide +kernel
theorem dJ9_max_7cf53_1 : decode cJ9_max_7cf53 1 = .ok (.iload_n 1, 1) := by decide +kernel
theorem dJ9_max_7cf53_2 : decode cJ9_max_7cf53 2 = .ok (.if_icmp .lt 7, 3) := by decide +kernel
theorem dJ9_max_7cf53_5 : decode cJ9_max_7cf53 5 = .ok (.iload_n 0, 1) := by decide +kernel
theorem dJ9_max_7cf53_6 : decode cJ9_max_7cf53 6 = .ok (.goto 4, 3) := by decide +kernel
theorem dJ9_max_7cf53_9 : decode cJ9_max_7cf53 9 = .ok (.iload_n 1, 1) := by decide +kernel
theorem dJ9_max_7cf53_10 : decode cJ9_max_7cf53 10 = .ok (.ireturn, 1) := by decide +kernel
theorem dJ9_min_7cf53_0 : decode cJ9_min_7cf53 0 = .ok (.iload_n 0, 1) := by decide +kernel
theorem dJ9_min_7cf53_1 : decode cJ9_min_7cf53 1 = .ok (.iload_n 1, 1) := by decide +kernel
theorem dJ9_min_7cf53_2 : decode cJ9_min_7cf53 2 = .ok (.if_icmp .gt 7, 3) := by decide +kernel
theorem dJ9_min_7cf53_5 : decode cJ9_min_7cf53 5 = .ok (.iload_n 0, 1) := by decide +kernel
theorem dJ9_min_7cf53_6 : decode cJ9_min_7cf53 6 = .ok (.goto 4, 3) := by decide +kernel
theorem dJ9_min_7cf53_9 : decode cJ9_min_7cf53 9 = .ok (.iload_n 1, 1) := by decide +kernel
theorem dJ9_min_7cf53_10 : decode cJ9_min_7cf53 10 = .ok (.ireturn, 1) := by decide +kernel
theorem dL_below_0 : decode cL_below 0 = .ok (.iload_n 0, 1) := by decide +kernel
theorem dL_below_1 : decode cL_below 1 = .ok (.ldc 7, 2) := by decide +kernel
theorem dL_below_3 : decode cL_below 3 = .ok (.iand, 1) := by decide +kernel
theorem dL_below_4 : decode cL_below 4 = .ok (.iload_n 1, 1) := by decide +kernel
theorem dL_below_5 : decode cL_below 5 = .ok (.irem, 1) := by decide +kernel
theorem dL_below_6 : decode cL_below 6 = .ok (.ireturn, 1) := by decide +kernel
theorem dL_cell_0 : decode cL_cell 0 = .ok (.iload_n 1, 1) := by decide +kernel
theorem dL_cell_1 : decode cL_cell 1 = .ok (.aload_n 0, 1) := by decide +kernel
theorem dL_cell_2 : decode cL_cell 2 = .ok (.arraylength, 1) := by decide +kernel
theorem dL_cell_3 : decode cL_cell 3 = .ok (.if_icmp .ge 9, 3) := by decide +kernel
theorem dL_cell_6 : decode cL_cell 6 = .ok (.aload_n 0, 1) := by decide +kernel
theorem dL_cell_7 : decode cL_cell 7 = .ok (.iload_n 1, 1) := by decide +kernel
theorem dL_cell_8 : decode cL_cell 8 = .ok (.iaload, 1) := by decide +kernel
theorem dL_cell_9 : decode cL_cell 9 = .ok (.goto 9, 3) := by decide +kernel
theorem dL_cell_12 : decode cL_cell 12 = .ok (.ldc 8, 2) := by decide +kernel
theorem dL_cell_14 : decode cL_cell 14 = .ok (.iload_n 1, 1) := by decide +kernel
theorem dL_cell_15 : decode cL_cell 15 = .ok (.iconst 3, 1) := by decide +kernel
theorem dL_cell_16 : decode cL_cell 16 = .ok (.iadd, 1) := by decide +kernel
theorem dL_cell_17 : decode cL_cell 17 = .ok (.imul, 1) := by decide +kernel
theorem dL_cell_18 : decode cL_cell 18 = .ok (.ireturn, 1) := by decide +kernel
set_option maxRecDepth 20000 in
theorem ggL_republic_X4_init : GoodIn wsL_republic wsX4_init := goodIn_r _ [6, 7, 8, 9, 10, 11, 12, 13, 14, 15, 16, 17, 18, 19, 20, 21, 22, 23, 24, 25, 26, 27, 28, 29, 30, 31, 32, 33, 34, 35, 36, 37, 38, 39, 40, 41, 162, 163, 164, 165, 166, 167, 168, 169, 170, 160, 161, 171, 172, 173, 174, 175, 176, 177, 178, 179, 180, 181, 182, 183, 184, 185, 186, 187, 188, 189, 190, 191, 192, 193, 194, 195, 196, 197, 198] (by decide +kernel) (by decide +kernel)
set_option maxRecDepth 20000 in
theorem gL_republic_X4_init : GoodIn wsL_republic (wsX4_init) := ggL_republic_X4_init
set_option maxRecDepth 20000 in
theorem ggL_republic_L_cell : GoodIn wsL_republic wsL_cell := goodIn_r _ [45, 46] (by decide +kernel) (by decide +kernel)
set_option maxRecDepth 20000 in
theorem gL_republic_L_cell : GoodIn wsL_republic (va_wsS RL 12 yL_cell wsL_cell) := goodIn_app (goodIn_of _ (by decide +kernel)) ggL_republic_L_cell
set_option maxRecDepth 20000 in
theorem ggL_republic_L_below : GoodIn wsL_republic wsL_below := goodIn_r _ [49, 50] (by decide +kernel) (by decide +kernel)
set_option maxRecDepth 20000 in
theorem gL_republic_L_below : GoodIn wsL_republic (va_wsS RL 18 yL_below wsL_below) := goodIn_app (goodIn_of _ (by decide +kernel)) ggL_republic_L_below
set_option maxRecDepth 20000 in
theorem ggL_republic_X4_setRain : GoodIn wsL_republic wsX4_setRain := goodIn_ca (goodIn_ca (goodIn_r _ [54, 55, 56, 13, 57, 58, 59, 3, 60, 61, 62, 63, 64, 65, 66, 67, 68, 160, 161, 162, 163, 164, 165, 166, 167, 168, 169, 170] (by decide +kernel) (by decide +kernel)) (goodIn_sub (fun _ h => List.mem_cons_of_mem _ (List.mem_append_left _ (List.mem_append_left _ (List.mem_append_right _ h)))) (by decide +kernel))) (goodIn_sub (fun _ h => List.mem_cons_of_mem _ (List.mem_append_left _ (List.mem_append_right _ h))) (by decide +kernel))
set_option maxRecDepth 20000 in
theorem gL_republic_X4_setRain : GoodIn wsL_republic (wsV RL 22 RX4 yX4_setRain wsX4_setRain) := goodIn_app (goodIn_of _ (by decide +kernel)) ggL_republic_X4_setRain
set_option maxRecDepth 20000 in
theorem ggL_republic_X4_build : GoodIn wsL_republic wsX4_build := goodIn_ca (goodIn_ca (goodIn_r _ [72, 55, 56, 73, 74, 13, 75, 66, 67, 3, 68, 76, 77, 78, 12, 79, 80, 22, 81, 82, 83, 84, 85, 86, 87, 88, 28, 89, 90, 91, 160, 161, 162, 163, 164, 165, 166, 167, 168, 169, 170, 171, 172, 173, 174, 175, 176, 177] (by decide +kernel) (by decide +kernel)) (goodIn_sub (fun _ h => List.mem_cons_of_mem _ (List.mem_append_left _ (List.mem_append_left _ (List.mem_append_right _ h)))) (by decide +kernel))) (goodIn_sub (fun _ h => List.mem_cons_of_mem _ (List.mem_append_right _ h)) (by decide +kernel))
set_option maxRecDepth 20000 in
theorem gL_republic_X4_build : GoodIn wsL_republic (wsV RL 25 RX4 yX4_build wsX4_build) := goodIn_app (goodIn_of _ (by decide +kernel)) ggL_republic_X4_build
set_option maxRecDepth 20000 in
theorem ggL_republic_X4_bring : GoodIn wsL_republic wsX4_bring := goodIn_ca (goodIn_ca (goodIn_ca (goodIn_r _ [95, 55, 56, 73, 74, 13, 96, 97, 98, 99, 3, 100, 61, 62, 101, 102, 103, 12, 104, 80, 66, 67, 68, 105, 106, 107, 108, 109, 24, 110, 111, 112, 30, 113, 114, 115, 116, 117, 118, 119, 120, 121, 122, 123, 160, 161, 162, 163, 164, 165, 166, 167, 168, 169, 170, 178, 179, 180, 181, 182, 183] (by decide +kernel) (by decide +kernel)) (goodIn_sub (fun _ h => List.mem_cons_of_mem _ (List.mem_append_left _ (List.mem_append_left _ (List.mem_append_right _ h)))) (by decide +kernel))) (goodIn_sub (fun _ h => List.mem_cons_of_mem _ (List.mem_append_right _ h)) (by decide +kernel))) (goodIn_sub (fun _ h => List.mem_cons_of_mem _ (List.mem_append_left _ (List.mem_append_right _ h))) (by decide +kernel))
set_option maxRecDepth 20000 in
theorem gL_republic_X4_bring : GoodIn wsL_republic (wsV RL 28 RX4 yX4_bring wsX4_bring) := goodIn_app (goodIn_of _ (by decide +kernel)) ggL_republic_X4_bring
set_option maxRecDepth 20000 in
theorem ggL_republic_X4_addCitizen : GoodIn wsL_republic wsX4_addCitizen := goodIn_ca (goodIn_ca (goodIn_ca (goodIn_r _ [127, 55, 56, 73, 74, 13, 128, 97, 98, 99, 3, 100, 61, 62, 101, 102, 103, 12, 104, 80, 63, 64, 65, 66, 67, 68, 129, 130, 131, 132, 133, 26, 134, 135, 136, 137, 138, 139, 140, 22, 81, 141, 142, 143, 144, 145, 146, 147, 148, 149, 150, 151, 32, 152, 153, 154, 155, 156, 157, 158, 159, 160, 161, 162, 163, 164, 165, 166, 167, 168, 169, 170, 184, 185, 186, 187, 188, 189, 190, 191, 192, 193, 194, 195, 196, 197, 198, 171, 172, 173, 174, 175, 176, 177] (by decide +kernel) (by decide +kernel)) (goodIn_sub (fun _ h => List.mem_cons_of_mem _ (List.mem_append_left _ (List.mem_append_left _ (List.mem_append_right _ h)))) (by decide +kernel))) (goodIn_sub (fun _ h => List.mem_cons_of_mem _ (List.mem_append_right _ h)) (by decide +kernel))) (goodIn_sub (fun _ h => List.mem_cons_of_mem _ (List.mem_append_left _ (List.mem_append_right _ h))) (by decide +kernel))
set_option maxRecDepth 20000 in
theorem gL_republic_X4_addCitizen : GoodIn wsL_republic (wsV RL 31 RX4 yX4_addCitizen wsX4_addCitizen) := goodIn_app (goodIn_of _ (by decide +kernel)) ggL_republic_X4_addCitizen
theorem dL_republic_0 : decode cL_republic 0 = .ok (.new 9, 3) := by decide +kernel
theorem dL_republic_3 : decode cL_republic 3 = .ok (.dup, 1) := by decide +kernel
theorem dL_republic_4 : decode cL_republic 4 = .ok (.invokespecial 11, 3) := by decide +kernel
theorem dL_republic_7 : decode cL_republic 7 = .ok (.astore_n 1, 1) := by decide +kernel
theorem dL_republic_8 : decode cL_republic 8 = .ok (.iconst 0, 1) := by decide +kernel
theorem dL_republic_9 : decode cL_republic 9 = .ok (.istore_n 2, 1) := by decide +kernel
theorem dL_republic_10 : decode cL_republic 10 = .ok (.iload_n 2, 1) := by decide +kernel
theorem dL_republic_11 : decode cL_republic 11 = .ok (.bipush 24, 2) := by decide +kernel
theorem dL_republic_13 : decode cL_republic 13 = .ok (.if_icmp .ge 59, 3) := by decide +kernel
theorem dL_republic_16 : decode cL_republic 16 = .ok (.aload_n 1, 1) := by decide +kernel
theorem dL_republic_17 : decode cL_republic 17 = .ok (.iload_n 2, 1) := by decide +kernel
theorem dL_republic_18 : decode cL_republic 18 = .ok (.aload_n 0, 1) := by decide +kernel
theorem dL_republic_19 : decode cL_republic 19 = .ok (.iload_n 2, 1) := by decide +kernel
theorem dL_republic_20 : decode cL_republic 20 = .ok (.iconst 3, 1) := by decide +kernel
theorem dL_republic_21 : decode cL_republic 21 = .ok (.irem, 1) := by decide +kernel
theorem dL_republic_22 : decode cL_republic 22 = .ok (.invokestatic 12, 3) := by decide +kernel
theorem dL_republic_25 : decode cL_republic 25 = .ok (.iload_n 2, 1) := by decide +kernel
theorem dL_republic_26 : decode cL_republic 26 = .ok (.iconst 3, 1) := by decide +kernel
theorem dL_republic_27 : decode cL_republic 27 = .ok (.idiv, 1) := by decide +kernel
theorem dL_republic_28 : decode cL_republic 28 = .ok (.iconst 3, 1) := by decide +kernel
theorem dL_republic_29 : decode cL_republic 29 = .ok (.imul, 1) := by decide +kernel
theorem dL_republic_30 : decode cL_republic 30 = .ok (.ishr, 1) := by decide +kernel
theorem dL_republic_31 : decode cL_republic 31 = .ok (.iconst 3, 1) := by decide +kernel
theorem dL_republic_32 : decode cL_republic 32 = .ok (.invokestatic 18, 3) := by decide +kernel
theorem dL_republic_35 : decode cL_republic 35 = .ok (.ifCond .ne 7, 3) := by decide +kernel
theorem dL_republic_38 : decode cL_republic 38 = .ok (.iconst 0, 1) := by decide +kernel
theorem dL_republic_39 : decode cL_republic 39 = .ok (.goto 23, 3) := by decide +kernel
theorem dL_republic_42 : decode cL_republic 42 = .ok (.aload_n 0, 1) := by decide +kernel
theorem dL_republic_43 : decode cL_republic 43 = .ok (.iconst 3, 1) := by decide +kernel
theorem dL_republic_44 : decode cL_republic 44 = .ok (.iload_n 2, 1) := by decide +kernel
theorem dL_republic_45 : decode cL_republic 45 = .ok (.iconst 3, 1) := by decide +kernel
theorem dL_republic_46 : decode cL_republic 46 = .ok (.irem, 1) := by decide +kernel
theorem dL_republic_47 : decode cL_republic 47 = .ok (.iadd, 1) := by decide +kernel
theorem dL_republic_48 : decode cL_republic 48 = .ok (.invokestatic 12, 3) := by decide +kernel
theorem dL_republic_51 : decode cL_republic 51 = .ok (.iload_n 2, 1) := by decide +kernel
theorem dL_republic_52 : decode cL_republic 52 = .ok (.iconst 3, 1) := by decide +kernel
theorem dL_republic_53 : decode cL_republic 53 = .ok (.idiv, 1) := by decide +kernel
theorem dL_republic_54 : decode cL_republic 54 = .ok (.iconst 3, 1) := by decide +kernel
theorem dL_republic_55 : decode cL_republic 55 = .ok (.imul, 1) := by decide +kernel
theorem dL_republic_56 : decode cL_republic 56 = .ok (.ishr, 1) := by decide +kernel
theorem dL_republic_57 : decode cL_republic 57 = .ok (.bipush 10, 2) := by decide +kernel
theorem dL_republic_59 : decode cL_republic 59 = .ok (.invokestatic 18, 3) := by decide +kernel
theorem dL_republic_62 : decode cL_republic 62 = .ok (.invokevirtual 22, 3) := by decide +kernel
theorem dL_republic_65 : decode cL_republic 65 = .ok (.pop, 1) := by decide +kernel
theorem dL_republic_66 : decode cL_republic 66 = .ok (.iinc 2 1, 3) := by decide +kernel
theorem dL_republic_69 : decode cL_republic 69 = .ok (.goto (-59), 3) := by decide +kernel
theorem dL_republic_72 : decode cL_republic 72 = .ok (.iconst 2, 1) := by decide +kernel
theorem dL_republic_73 : decode cL_republic 73 = .ok (.aload_n 0, 1) := by decide +kernel
theorem dL_republic_74 : decode cL_republic 74 = .ok (.bipush 6, 2) := by decide +kernel
theorem dL_republic_76 : decode cL_republic 76 = .ok (.invokestatic 12, 3) := by decide +kernel
theorem dL_republic_79 : decode cL_republic 79 = .ok (.bipush 6, 2) := by decide +kernel
theorem dL_republic_81 : decode cL_republic 81 = .ok (.invokestatic 18, 3) := by decide +kernel
theorem dL_republic_84 : decode cL_republic 84 = .ok (.iadd, 1) := by decide +kernel
theorem dL_republic_85 : decode cL_republic 85 = .ok (.istore_n 2, 1) := by decide +kernel
theorem dL_republic_86 : decode cL_republic 86 = .ok (.iconst 0, 1) := by decide +kernel
theorem dL_republic_87 : decode cL_republic 87 = .ok (.istore_n 3, 1) := by decide +kernel
theorem dL_republic_88 : decode cL_republic 88 = .ok (.iload_n 3, 1) := by decide +kernel
theorem dL_republic_89 : decode cL_republic 89 = .ok (.iload_n 2, 1) := by decide +kernel
theorem dL_republic_90 : decode cL_republic 90 = .ok (.if_icmp .ge 49, 3) := by decide +kernel
theorem dL_republic_93 : decode cL_republic 93 = .ok (.aload_n 1, 1) := by decide +kernel
theorem dL_republic_94 : decode cL_republic 94 = .ok (.bipush 12, 2) := by decide +kernel
theorem dL_republic_96 : decode cL_republic 96 = .ok (.iload_n 3, 1) := by decide +kernel
theorem dL_republic_97 : decode cL_republic 97 = .ok (.imul, 1) := by decide +kernel
theorem dL_republic_98 : decode cL_republic 98 = .ok (.aload_n 0, 1) := by decide +kernel
theorem dL_republic_99 : decode cL_republic 99 = .ok (.bipush 6, 2) := by decide +kernel
theorem dL_republic_101 : decode cL_republic 101 = .ok (.invokestatic 12, 3) := by decide +kernel
theorem dL_republic_104 : decode cL_republic 104 = .ok (.iconst 2, 1) := by decide +kernel
theorem dL_republic_105 : decode cL_republic 105 = .ok (.iload_n 3, 1) := by decide +kernel
theorem dL_republic_106 : decode cL_republic 106 = .ok (.imul, 1) := by decide +kernel
theorem dL_republic_107 : decode cL_republic 107 = .ok (.ishr, 1) := by decide +kernel
theorem dL_republic_108 : decode cL_republic 108 = .ok (.bipush 12, 2) := by decide +kernel
theorem dL_republic_110 : decode cL_republic 110 = .ok (.invokestatic 18, 3) := by decide +kernel
theorem dL_republic_113 : decode cL_republic 113 = .ok (.iadd, 1) := by decide +kernel
theorem dL_republic_114 : decode cL_republic 114 = .ok (.aload_n 0, 1) := by decide +kernel
theorem dL_republic_115 : decode cL_republic 115 = .ok (.bipush 7, 2) := by decide +kernel
theorem dL_republic_117 : decode cL_republic 117 = .ok (.invokestatic 12, 3) := by decide +kernel
theorem dL_republic_120 : decode cL_republic 120 = .ok (.iconst 3, 1) := by decide +kernel
theorem dL_republic_121 : decode cL_republic 121 = .ok (.iload_n 3, 1) := by decide +kernel
theorem dL_republic_122 : decode cL_republic 122 = .ok (.imul, 1) := by decide +kernel
theorem dL_republic_123 : decode cL_republic 123 = .ok (.ishr, 1) := by decide +kernel
theorem dL_republic_124 : decode cL_republic 124 = .ok (.bipush 9, 2) := by decide +kernel
theorem dL_republic_126 : decode cL_republic 126 = .ok (.invokestatic 18, 3) := by decide +kernel
theorem dL_republic_129 : decode cL_republic 129 = .ok (.invokevirtual 25, 3) := by decide +kernel
theorem dL_republic_132 : decode cL_republic 132 = .ok (.pop, 1) := by decide +kernel
theorem dL_republic_133 : decode cL_republic 133 = .ok (.iinc 3 1, 3) := by decide +kernel
theorem dL_republic_136 : decode cL_republic 136 = .ok (.goto (-48), 3) := by decide +kernel
theorem dL_republic_139 : decode cL_republic 139 = .ok (.iconst 0, 1) := by decide +kernel
theorem dL_republic_140 : decode cL_republic 140 = .ok (.istore_n 3, 1) := by decide +kernel
theorem dL_republic_141 : decode cL_republic 141 = .ok (.iload_n 3, 1) := by decide +kernel
theorem dL_republic_142 : decode cL_republic 142 = .ok (.iload_n 2, 1) := by decide +kernel
theorem dL_republic_143 : decode cL_republic 143 = .ok (.if_icmp .ge 48, 3) := by decide +kernel
theorem dL_republic_146 : decode cL_republic 146 = .ok (.aload_n 0, 1) := by decide +kernel
theorem dL_republic_147 : decode cL_republic 147 = .ok (.bipush 8, 2) := by decide +kernel
theorem dL_republic_149 : decode cL_republic 149 = .ok (.invokestatic 12, 3) := by decide +kernel
theorem dL_republic_152 : decode cL_republic 152 = .ok (.iconst 2, 1) := by decide +kernel
theorem dL_republic_153 : decode cL_republic 153 = .ok (.iload_n 3, 1) := by decide +kernel
theorem dL_republic_154 : decode cL_republic 154 = .ok (.imul, 1) := by decide +kernel
theorem dL_republic_155 : decode cL_republic 155 = .ok (.ishr, 1) := by decide +kernel
theorem dL_republic_156 : decode cL_republic 156 = .ok (.iconst 3, 1) := by decide +kernel
theorem dL_republic_157 : decode cL_republic 157 = .ok (.invokestatic 18, 3) := by decide +kernel
theorem dL_republic_160 : decode cL_republic 160 = .ok (.ifCond .le 25, 3) := by decide +kernel
theorem dL_republic_163 : decode cL_republic 163 = .ok (.aload_n 1, 1) := by decide +kernel
theorem dL_republic_164 : decode cL_republic 164 = .ok (.iload_n 3, 1) := by decide +kernel
theorem dL_republic_165 : decode cL_republic 165 = .ok (.iconst 1, 1) := by decide +kernel
theorem dL_republic_166 : decode cL_republic 166 = .ok (.aload_n 0, 1) := by decide +kernel
theorem dL_republic_167 : decode cL_republic 167 = .ok (.bipush 8, 2) := by decide +kernel
theorem dL_republic_169 : decode cL_republic 169 = .ok (.invokestatic 12, 3) := by decide +kernel
theorem dL_republic_172 : decode cL_republic 172 = .ok (.iconst 3, 1) := by decide +kernel
theorem dL_republic_173 : decode cL_republic 173 = .ok (.iload_n 3, 1) := by decide +kernel
theorem dL_republic_174 : decode cL_republic 174 = .ok (.imul, 1) := by decide +kernel
theorem dL_republic_175 : decode cL_republic 175 = .ok (.ishr, 1) := by decide +kernel
theorem dL_republic_176 : decode cL_republic 176 = .ok (.iconst 5, 1) := by decide +kernel
theorem dL_republic_177 : decode cL_republic 177 = .ok (.invokestatic 18, 3) := by decide +kernel
theorem dL_republic_180 : decode cL_republic 180 = .ok (.iadd, 1) := by decide +kernel
theorem dL_republic_181 : decode cL_republic 181 = .ok (.invokevirtual 28, 3) := by decide +kernel
theorem dL_republic_184 : decode cL_republic 184 = .ok (.pop, 1) := by decide +kernel
theorem dL_republic_185 : decode cL_republic 185 = .ok (.iinc 3 1, 3) := by decide +kernel
theorem dL_republic_188 : decode cL_republic 188 = .ok (.goto (-47), 3) := by decide +kernel
theorem dL_republic_191 : decode cL_republic 191 = .ok (.iconst 1, 1) := by decide +kernel
theorem dL_republic_192 : decode cL_republic 192 = .ok (.aload_n 0, 1) := by decide +kernel
theorem dL_republic_193 : decode cL_republic 193 = .ok (.bipush 9, 2) := by decide +kernel
theorem dL_republic_195 : decode cL_republic 195 = .ok (.invokestatic 12, 3) := by decide +kernel
theorem dL_republic_198 : decode cL_republic 198 = .ok (.bipush 10, 2) := by decide +kernel
theorem dL_republic_200 : decode cL_republic 200 = .ok (.invokestatic 18, 3) := by decide +kernel
theorem dL_republic_203 : decode cL_republic 203 = .ok (.iadd, 1) := by decide +kernel
theorem dL_republic_204 : decode cL_republic 204 = .ok (.istore_n 3, 1) := by decide +kernel
theorem dL_republic_205 : decode cL_republic 205 = .ok (.iconst 0, 1) := by decide +kernel
theorem dL_republic_206 : decode cL_republic 206 = .ok (.istore 4, 2) := by decide +kernel
theorem dL_republic_208 : decode cL_republic 208 = .ok (.iload 4, 2) := by decide +kernel
theorem dL_republic_210 : decode cL_republic 210 = .ok (.iload_n 3, 1) := by decide +kernel
theorem dL_republic_211 : decode cL_republic 211 = .ok (.if_icmp .ge 105, 3) := by decide +kernel
theorem dL_republic_214 : decode cL_republic 214 = .ok (.aload_n 0, 1) := by decide +kernel
theorem dL_republic_215 : decode cL_republic 215 = .ok (.bipush 10, 2) := by decide +kernel
theorem dL_republic_217 : decode cL_republic 217 = .ok (.iload 4, 2) := by decide +kernel
theorem dL_republic_219 : decode cL_republic 219 = .ok (.iconst 5, 1) := by decide +kernel
theorem dL_republic_220 : decode cL_republic 220 = .ok (.irem, 1) := by decide +kernel
theorem dL_republic_221 : decode cL_republic 221 = .ok (.iadd, 1) := by decide +kernel
theorem dL_republic_222 : decode cL_republic 222 = .ok (.invokestatic 12, 3) := by decide +kernel
theorem dL_republic_225 : decode cL_republic 225 = .ok (.iload 4, 2) := by decide +kernel
theorem dL_republic_227 : decode cL_republic 227 = .ok (.iconst 5, 1) := by decide +kernel
theorem dL_republic_228 : decode cL_republic 228 = .ok (.idiv, 1) := by decide +kernel
theorem dL_republic_229 : decode cL_republic 229 = .ok (.bipush 9, 2) := by decide +kernel
theorem dL_republic_231 : decode cL_republic 231 = .ok (.imul, 1) := by decide +kernel
theorem dL_republic_232 : decode cL_republic 232 = .ok (.ishr, 1) := by decide +kernel
theorem dL_republic_233 : decode cL_republic 233 = .ok (.istore 5, 2) := by decide +kernel
theorem dL_republic_235 : decode cL_republic 235 = .ok (.iload 5, 2) := by decide +kernel
theorem dL_republic_237 : decode cL_republic 237 = .ok (.iload_n 2, 1) := by decide +kernel
theorem dL_republic_238 : decode cL_republic 238 = .ok (.invokestatic 18, 3) := by decide +kernel
theorem dL_republic_241 : decode cL_republic 241 = .ok (.istore 6, 2) := by decide +kernel
theorem dL_republic_243 : decode cL_republic 243 = .ok (.iload 5, 2) := by decide +kernel
theorem dL_republic_245 : decode cL_republic 245 = .ok (.iconst 5, 1) := by decide +kernel
theorem dL_republic_246 : decode cL_republic 246 = .ok (.ishr, 1) := by decide +kernel
theorem dL_republic_247 : decode cL_republic 247 = .ok (.bipush 24, 2) := by decide +kernel
theorem dL_republic_249 : decode cL_republic 249 = .ok (.invokestatic 18, 3) := by decide +kernel
theorem dL_republic_252 : decode cL_republic 252 = .ok (.istore 7, 2) := by decide +kernel
theorem dL_republic_254 : decode cL_republic 254 = .ok (.aload_n 1, 1) := by decide +kernel
theorem dL_republic_255 : decode cL_republic 255 = .ok (.iload 6, 2) := by decide +kernel
theorem dL_republic_257 : decode cL_republic 257 = .ok (.iload 6, 2) := by decide +kernel
theorem dL_republic_259 : decode cL_republic 259 = .ok (.iconst 1, 1) := by decide +kernel
theorem dL_republic_260 : decode cL_republic 260 = .ok (.iadd, 1) := by decide +kernel
theorem dL_republic_261 : decode cL_republic 261 = .ok (.iload 5, 2) := by decide +kernel
theorem dL_republic_263 : decode cL_republic 263 = .ok (.iconst 3, 1) := by decide +kernel
theorem dL_republic_264 : decode cL_republic 264 = .ok (.ishr, 1) := by decide +kernel
theorem dL_republic_265 : decode cL_republic 265 = .ok (.iload_n 2, 1) := by decide +kernel
theorem dL_republic_266 : decode cL_republic 266 = .ok (.iconst 1, 1) := by decide +kernel
theorem dL_republic_267 : decode cL_republic 267 = .ok (.isub, 1) := by decide +kernel
theorem dL_republic_268 : decode cL_republic 268 = .ok (.invokestatic 18, 3) := by decide +kernel
theorem dL_republic_271 : decode cL_republic 271 = .ok (.iadd, 1) := by decide +kernel
theorem dL_republic_272 : decode cL_republic 272 = .ok (.iload_n 2, 1) := by decide +kernel
theorem dL_republic_273 : decode cL_republic 273 = .ok (.irem, 1) := by decide +kernel
theorem dL_republic_274 : decode cL_republic 274 = .ok (.iload 7, 2) := by decide +kernel
theorem dL_republic_276 : decode cL_republic 276 = .ok (.iload 7, 2) := by decide +kernel
theorem dL_republic_278 : decode cL_republic 278 = .ok (.iconst 1, 1) := by decide +kernel
theorem dL_republic_279 : decode cL_republic 279 = .ok (.iadd, 1) := by decide +kernel
theorem dL_republic_280 : decode cL_republic 280 = .ok (.iload 5, 2) := by decide +kernel
theorem dL_republic_282 : decode cL_republic 282 = .ok (.bipush 8, 2) := by decide +kernel
theorem dL_republic_284 : decode cL_republic 284 = .ok (.ishr, 1) := by decide +kernel
theorem dL_republic_285 : decode cL_republic 285 = .ok (.bipush 23, 2) := by decide +kernel
theorem dL_republic_287 : decode cL_republic 287 = .ok (.invokestatic 18, 3) := by decide +kernel
theorem dL_republic_290 : decode cL_republic 290 = .ok (.iadd, 1) := by decide +kernel
theorem dL_republic_291 : decode cL_republic 291 = .ok (.bipush 24, 2) := by decide +kernel
theorem dL_republic_293 : decode cL_republic 293 = .ok (.irem, 1) := by decide +kernel
theorem dL_republic_294 : decode cL_republic 294 = .ok (.iconst 1, 1) := by decide +kernel
theorem dL_republic_295 : decode cL_republic 295 = .ok (.iload 5, 2) := by decide +kernel
theorem dL_republic_297 : decode cL_republic 297 = .ok (.bipush 6, 2) := by decide +kernel
theorem dL_republic_299 : decode cL_republic 299 = .ok (.ishr, 1) := by decide +kernel
theorem dL_republic_300 : decode cL_republic 300 = .ok (.bipush 9, 2) := by decide +kernel
theorem dL_republic_302 : decode cL_republic 302 = .ok (.invokestatic 18, 3) := by decide +kernel
theorem dL_republic_305 : decode cL_republic 305 = .ok (.iadd, 1) := by decide +kernel
theorem dL_republic_306 : decode cL_republic 306 = .ok (.invokevirtual 31, 3) := by decide +kernel
theorem dL_republic_309 : decode cL_republic 309 = .ok (.pop, 1) := by decide +kernel
theorem dL_republic_310 : decode cL_republic 310 = .ok (.iinc 4 1, 3) := by decide +kernel
theorem dL_republic_313 : decode cL_republic 313 = .ok (.goto (-105), 3) := by decide +kernel
theorem dL_republic_316 : decode cL_republic 316 = .ok (.aload_n 1, 1) := by decide +kernel
theorem dL_republic_317 : decode cL_republic 317 = .ok (.areturn, 1) := by decide +kernel
set_option maxRecDepth 20000 in
theorem ggL_law_L_republic : GoodIn wsL_law wsL_republic := goodIn_ca (goodIn_ca (goodIn_ca (goodIn_r _ [4, 5, 6, 7, 8, 9, 10, 11, 12, 13, 14, 15, 16, 17, 18, 19, 20, 21, 22, 0, 23, 24, 25, 26, 27, 28, 29, 30, 31, 32, 33, 34, 35, 36, 37, 38, 39, 40, 41, 42, 43, 44, 45, 46, 3, 47, 48, 49, 50, 51, 52, 53, 54, 55, 56, 57, 58, 59, 60, 61, 62, 63, 64, 65, 66, 67, 68, 69, 70, 71, 72, 73, 74, 75, 76, 77, 78, 79, 80, 81, 82, 83, 84, 85, 86, 87, 88, 89, 90, 91, 92, 93, 94, 95, 96, 97, 98, 99, 100, 101, 102, 103, 104, 105, 106, 107, 108, 109, 110, 111, 112, 113, 114, 115, 116, 117, 118, 119, 120, 121, 122, 123, 124, 125, 126, 127, 128, 129, 130, 131, 132, 133, 134, 135, 136, 137, 138, 139, 140, 141, 142, 143, 144, 145, 146, 147, 148, 149, 150, 151, 152, 153, 154, 155, 156, 157, 158, 159, 160, 161, 429, 430, 431, 432, 433, 434, 435, 436, 437, 438, 439, 440, 441, 442, 443, 444, 445, 446, 447, 448, 449, 450, 451, 452, 453, 454, 455, 456, 457, 458, 459, 460, 461, 462, 463, 464, 465, 466, 467] (by decide +kernel) (by decide +kernel)) (goodIn_sub (fun _ h => List.mem_append_left _ (List.mem_append_left _ (List.mem_append_right _ h))) (by decide +kernel))) (goodIn_sub (fun _ h => List.mem_append_left _ (List.mem_append_right _ h)) (by decide +kernel))) (goodIn_sub (fun _ h => List.mem_append_right _ h) (by decide +kernel))
set_option maxRecDepth 20000 in
theorem gL_law_L_republic : GoodIn wsL_law (va_wsS RL 35 yL_republic wsL_republic) := goodIn_app (goodIn_of _ (by decide +kernel)) ggL_law_L_republic
set_option maxRecDepth 20000 in
theorem ggL_law_X4_count : GoodIn wsL_law wsX4_count := goodIn_ca (goodIn_r _ [165, 17, 166, 167, 7, 168, 63, 64, 68, 69, 70, 169, 170, 171, 16, 172, 173, 82, 111, 135, 174, 175, 176, 177, 178, 27, 179, 180, 181, 182, 183, 29, 184, 185, 186, 187, 188, 189, 429, 430, 431, 432, 433, 434, 435, 436, 437, 438, 439, 447, 448, 449, 450, 451, 452, 453, 454, 455, 456, 457, 458, 459, 460, 461, 462, 463, 464, 465, 466, 467] (by decide +kernel) (by decide +kernel)) (goodIn_sub (fun _ h => List.mem_append_left _ (List.mem_append_right _ h)) (by decide +kernel))
set_option maxRecDepth 20000 in
theorem gL_law_X4_count : GoodIn wsL_law (wsV RL 39 RX4 yX4_count wsX4_count) := goodIn_app (goodIn_of _ (by decide +kernel)) ggL_law_X4_count
set_option maxRecDepth 20000 in
theorem ggL_law_L_cell : GoodIn wsL_law wsL_cell := goodIn_r _ [47, 48] (by decide +kernel) (by decide +kernel)
set_option maxRecDepth 20000 in
theorem gL_law_L_cell : GoodIn wsL_law (va_wsS RL 12 yL_cell wsL_cell) := goodIn_app (goodIn_of _ (by decide +kernel)) ggL_law_L_cell
set_option maxRecDepth 20000 in
theorem ggL_law_L_below : GoodIn wsL_law wsL_below := goodIn_r _ [51, 52] (by decide +kernel) (by decide +kernel)
set_option maxRecDepth 20000 in
theorem gL_law_L_below : GoodIn wsL_law (va_wsS RL 18 yL_below wsL_below) := goodIn_app (goodIn_of _ (by decide +kernel)) ggL_law_L_below
set_option maxRecDepth 20000 in
theorem ggL_law_X4_bring : GoodIn wsL_law wsX4_bring := goodIn_ca (goodIn_ca (goodIn_ca (goodIn_r _ [97, 57, 58, 75, 76, 17, 98, 99, 100, 101, 7, 102, 63, 64, 103, 104, 105, 16, 106, 82, 68, 69, 70, 107, 108, 109, 110, 111, 27, 112, 113, 114, 33, 115, 116, 117, 118, 119, 120, 121, 122, 123, 124, 125, 429, 430, 431, 432, 433, 434, 435, 436, 437, 438, 439, 447, 448, 449, 450, 451, 452] (by decide +kernel) (by decide +kernel)) (goodIn_sub (fun _ h => List.mem_append_left _ (List.mem_append_left _ (List.mem_append_right _ h))) (by decide +kernel))) (goodIn_sub (fun _ h => List.mem_append_right _ h) (by decide +kernel))) (goodIn_sub (fun _ h => List.mem_append_left _ (List.mem_append_right _ h)) (by decide +kernel))
set_option maxRecDepth 20000 in
theorem gL_law_X4_bring : GoodIn wsL_law (wsV RL 28 RX4 yX4_bring wsX4_bring) := goodIn_app (goodIn_of _ (by decide +kernel)) ggL_law_X4_bring
set_option maxRecDepth 20000 in
theorem ggL_law_X4_setRain : GoodIn wsL_law wsX4_setRain := goodIn_ca (goodIn_ca (goodIn_r _ [56, 57, 58, 17, 59, 60, 61, 7, 62, 63, 64, 65, 66, 67, 68, 69, 70, 429, 430, 431, 432, 433, 434, 435, 436, 437, 438, 439] (by decide +kernel) (by decide +kernel)) (goodIn_sub (fun _ h => List.mem_append_left _ (List.mem_append_left _ (List.mem_append_right _ h))) (by decide +kernel))) (goodIn_sub (fun _ h => List.mem_append_left _ (List.mem_append_right _ h)) (by decide +kernel))
set_option maxRecDepth 20000 in
theorem gL_law_X4_setRain : GoodIn wsL_law (wsV RL 22 RX4 yX4_setRain wsX4_setRain) := goodIn_app (goodIn_of _ (by decide +kernel)) ggL_law_X4_setRain
set_option maxRecDepth 20000 in
theorem ggL_law_X4_setDemand : GoodIn wsL_law wsX4_setDemand := goodIn_ca (goodIn_ca (goodIn_r _ [193, 57, 58, 17, 194, 195, 99, 100, 101, 7, 102, 63, 64, 103, 104, 105, 16, 106, 82, 68, 69, 70, 429, 430, 431, 432, 433, 434, 435, 436, 437, 438, 439, 440, 441, 442, 443, 444, 445, 446] (by decide +kernel) (by decide +kernel)) (goodIn_sub (fun _ h => List.mem_append_left _ (List.mem_append_left _ (List.mem_append_right _ h))) (by decide +kernel))) (goodIn_sub (fun _ h => List.mem_append_left _ (List.mem_append_right _ h)) (by decide +kernel))
set_option maxRecDepth 20000 in
theorem gL_law_X4_setDemand : GoodIn wsL_law (wsV RL 43 RX4 yX4_setDemand wsX4_setDemand) := goodIn_app (goodIn_of _ (by decide +kernel)) ggL_law_X4_setDemand
set_option maxRecDepth 20000 in
theorem ggL_law_X4_digest : GoodIn wsL_law wsX4_digest := goodIn_r _ [199, 200, 201, 17, 59, 77, 98, 202, 130, 203, 169, 170, 171, 16, 172, 173, 82, 111, 135, 174, 175, 176, 177, 178, 27, 179, 180, 181, 182, 183, 29, 184, 185, 186, 187, 188, 189, 204, 205, 206, 207, 25, 83, 208, 209, 210, 211, 150, 104, 105, 106, 212, 213, 214, 215, 216, 217, 218, 33, 219, 123, 124, 220, 221, 222, 223, 224, 225, 226, 227, 228, 116, 125, 117, 118, 229, 230, 231, 35, 232, 155, 156, 158, 233, 160, 161, 234, 235, 236, 237, 429, 430, 431, 432, 433, 434, 435, 436, 437, 438, 439, 447, 448, 449, 450, 451, 452, 453, 454, 455, 456, 457, 458, 459, 460, 461, 462, 463, 464, 465, 466, 467, 440, 441, 442, 443, 444, 445, 446] (by decide +kernel) (by decide +kernel)
set_option maxRecDepth 20000 in
theorem gL_law_X4_digest : GoodIn wsL_law (wsV RL 46 RX4 yX4_digest wsX4_digest) := goodIn_app (goodIn_of _ (by decide +kernel)) ggL_law_X4_digest
set_option maxRecDepth 20000 in
theorem ggL_law_X4_foresee : GoodIn wsL_law wsX4_foresee := goodIn_ca (goodIn_ca (goodIn_r _ [241, 18, 17, 242, 243, 7, 244, 57, 58, 68, 69, 70, 166, 167, 168, 63, 64, 245, 246, 247, 16, 248, 23, 249, 250, 251, 252, 173, 82, 111, 135, 174, 25, 27, 29, 253, 254, 255, 31, 256, 92, 93, 257, 258, 259, 260, 261, 262, 263, 264, 33, 265, 123, 124, 116, 125, 117, 118, 266, 267, 268, 35, 269, 155, 156, 270, 271, 272, 157, 158, 159, 233, 160, 161, 234, 235, 236, 237, 273, 274, 275, 276, 277, 278, 279, 280, 281, 282, 283, 284, 285, 286, 287, 288, 119, 120, 121, 122, 289, 290, 291, 292, 293, 294, 295, 296, 297, 298, 299, 300, 184, 301, 208, 302, 303, 304, 209, 150, 104, 105, 106, 220, 221, 222, 223, 224, 216, 217, 218, 219, 305, 306, 307, 308, 309, 310, 311, 312, 313, 314, 315, 316, 317, 318, 319, 320, 321, 322, 323, 324, 325, 326, 327, 328, 329, 189, 330, 331, 332, 333, 334, 335, 336, 337, 338, 339, 340, 341, 342, 343, 344, 345, 346, 347, 348, 349, 350, 145, 351, 352, 353, 354, 355, 356, 148, 149, 357, 358, 359, 360, 361, 362, 363, 364, 212, 213, 214, 215, 365, 366, 367, 368, 369, 370, 371, 372, 373, 374, 375, 186, 187, 188, 376, 176, 177, 178, 179, 377, 378, 379, 380, 429, 430, 431, 432, 433, 434, 435, 436, 437, 438, 439, 440, 441, 442, 443, 444, 445, 446, 447, 448, 449, 450, 451, 452, 453, 454, 455, 456, 457, 458, 459, 460, 461, 462, 463, 464, 465, 466, 467] (by decide +kernel) (by decide +kernel)) (goodIn_sub (fun _ h => List.mem_append_left _ (List.mem_append_left _ (List.mem_append_right _ h))) (by decide +kernel))) (goodIn_sub (fun _ h => List.mem_append_left _ (List.mem_append_right _ h)) (by decide +kernel))
set_option maxRecDepth 20000 in
theorem gL_law_X4_foresee : GoodIn wsL_law (wsV RL 50 RX4 yX4_foresee wsX4_foresee) := goodIn_app (goodIn_of _ (by decide +kernel)) ggL_law_X4_foresee
set_option maxRecDepth 20000 in
theorem ggL_law_X4_advise : GoodIn wsL_law wsX4_advise := goodIn_ca (goodIn_ca (goodIn_r _ [384, 75, 76, 17, 98, 77, 242, 243, 7, 244, 57, 58, 68, 69, 70, 385, 386, 387, 388, 18, 245, 246, 247, 16, 248, 23, 249, 250, 251, 252, 173, 82, 111, 135, 174, 25, 27, 29, 253, 254, 255, 31, 256, 92, 93, 257, 258, 259, 260, 261, 262, 263, 264, 33, 265, 123, 124, 116, 125, 117, 118, 266, 267, 268, 35, 269, 155, 156, 270, 271, 272, 157, 158, 159, 233, 160, 161, 234, 235, 236, 237, 107, 108, 109, 110, 112, 113, 114, 115, 119, 120, 121, 122, 273, 274, 275, 276, 277, 278, 279, 280, 281, 282, 283, 284, 285, 286, 287, 288, 289, 290, 291, 292, 293, 294, 295, 296, 297, 298, 299, 300, 184, 301, 208, 302, 303, 304, 209, 150, 104, 105, 106, 220, 221, 222, 223, 224, 216, 217, 218, 219, 305, 306, 307, 308, 309, 310, 311, 312, 313, 314, 315, 316, 317, 318, 319, 320, 321, 322, 323, 324, 325, 326, 327, 328, 329, 189, 330, 331, 332, 333, 334, 335, 336, 337, 338, 339, 340, 341, 342, 343, 344, 345, 346, 347, 348, 349, 350, 145, 351, 352, 353, 354, 355, 356, 148, 149, 357, 358, 359, 360, 361, 362, 363, 364, 212, 213, 214, 215, 365, 366, 367, 368, 369, 370, 371, 372, 373, 374, 375, 186, 187, 188, 429, 430, 431, 432, 433, 434, 435, 436, 437, 438, 439, 440, 441, 442, 443, 444, 445, 446, 447, 448, 449, 450, 451, 452, 453, 454, 455, 456, 457, 458, 459, 460, 461, 462, 463, 464, 465, 466, 467] (by decide +kernel) (by decide +kernel)) (goodIn_sub (fun _ h => List.mem_append_right _ h) (by decide +kernel))) (goodIn_sub (fun _ h => List.mem_append_left _ (List.mem_append_left _ (List.mem_append_right _ h))) (by decide +kernel))
set_option maxRecDepth 20000 in
theorem gL_law_X4_advise : GoodIn wsL_law (wsV RL 53 RX4 yX4_advise wsX4_advise) := goodIn_app (goodIn_of _ (by decide +kernel)) ggL_law_X4_advise
set_option maxRecDepth 20000 in
theorem ggL_law_X4_lasts : GoodIn wsL_law wsX4_lasts := goodIn_ca (goodIn_r _ [392, 17, 202, 393, 394, 59, 395, 396, 397, 7, 398, 63, 64, 399, 306, 307, 16, 308, 111, 60, 61, 62, 65, 66, 67, 68, 69, 70, 400, 278, 279, 280, 429, 430, 431, 432, 433, 434, 435, 436, 437, 438, 439, 447, 448, 449, 450, 451, 452] (by decide +kernel) (by decide +kernel)) (goodIn_sub (fun _ h => List.mem_append_left _ (List.mem_append_right _ h)) (by decide +kernel))
set_option maxRecDepth 20000 in
theorem gL_law_X4_lasts : GoodIn wsL_law (wsV RL 56 RX4 yX4_lasts wsX4_lasts) := goodIn_app (goodIn_of _ (by decide +kernel)) ggL_law_X4_lasts
set_option maxRecDepth 20000 in
theorem ggL_law_X4_pass : GoodIn wsL_law wsX4_pass := goodIn_ca (goodIn_r _ [404, 17, 242, 243, 7, 244, 57, 58, 68, 69, 70, 273, 274, 275, 16, 276, 173, 23, 277, 278, 279, 280, 281, 282, 283, 284, 111, 27, 285, 286, 287, 33, 288, 125, 123, 116, 118, 119, 120, 121, 122, 124, 289, 290, 291, 292, 135, 29, 293, 294, 295, 35, 296, 158, 155, 270, 156, 271, 297, 298, 299, 300, 184, 25, 301, 208, 302, 303, 304, 209, 150, 104, 105, 106, 82, 220, 221, 222, 223, 224, 216, 217, 218, 219, 305, 306, 307, 308, 309, 310, 311, 31, 312, 259, 261, 313, 314, 315, 316, 117, 317, 318, 319, 320, 159, 157, 233, 321, 322, 323, 324, 325, 326, 327, 328, 329, 189, 330, 331, 332, 333, 334, 335, 336, 337, 338, 339, 340, 341, 342, 343, 272, 235, 344, 345, 346, 347, 348, 161, 349, 350, 145, 351, 352, 353, 354, 355, 236, 356, 148, 149, 357, 358, 359, 360, 258, 260, 361, 362, 363, 364, 174, 212, 213, 214, 215, 365, 366, 367, 368, 369, 370, 371, 372, 93, 373, 374, 429, 430, 431, 432, 433, 434, 435, 436, 437, 438, 439, 447, 448, 449, 450, 451, 452, 453, 454, 455, 456, 457, 458, 459, 460, 461, 462, 463, 464, 465, 466, 467, 440, 441, 442, 443, 444, 445, 446] (by decide +kernel) (by decide +kernel)) (goodIn_sub (fun _ h => List.mem_append_left _ (List.mem_append_left _ (List.mem_append_right _ h))) (by decide +kernel))
set_option maxRecDepth 20000 in
theorem gL_law_X4_pass : GoodIn wsL_law (wsV RL 59 RX4 yX4_pass wsX4_pass) := goodIn_app (goodIn_of _ (by decide +kernel)) ggL_law_X4_pass
set_option maxRecDepth 20000 in
theorem ggL_law_X4_umbrella : GoodIn wsL_law wsX4_umbrella := goodIn_ca (goodIn_r _ [408, 17, 202, 395, 396, 397, 7, 398, 63, 64, 399, 306, 307, 16, 308, 111, 166, 167, 168, 68, 69, 70, 225, 226, 227, 33, 228, 123, 124, 116, 125, 117, 118, 429, 430, 431, 432, 433, 434, 435, 436, 437, 438, 439, 447, 448, 449, 450, 451, 452] (by decide +kernel) (by decide +kernel)) (goodIn_sub (fun _ h => List.mem_append_left _ (List.mem_append_right _ h)) (by decide +kernel))
set_option maxRecDepth 20000 in
theorem gL_law_X4_umbrella : GoodIn wsL_law (wsV RL 62 RX4 yX4_umbrella wsX4_umbrella) := goodIn_app (goodIn_of _ (by decide +kernel)) ggL_law_X4_umbrella
set_option maxRecDepth 20000 in
theorem ggL_law_X4_citizen : GoodIn wsL_law wsX4_citizen := goodIn_ca (goodIn_r _ [412, 17, 203, 413, 414, 415, 7, 416, 63, 64, 417, 418, 419, 16, 420, 135, 166, 167, 168, 68, 69, 70, 229, 230, 231, 35, 232, 155, 156, 158, 233, 160, 161, 234, 235, 236, 237, 429, 430, 431, 432, 433, 434, 435, 436, 437, 438, 439, 453, 454, 455, 456, 457, 458, 459, 460, 461, 462, 463, 464, 465, 466, 467] (by decide +kernel) (by decide +kernel)) (goodIn_sub (fun _ h => List.mem_append_left _ (List.mem_append_right _ h)) (by decide +kernel))
set_option maxRecDepth 20000 in
theorem gL_law_X4_citizen : GoodIn wsL_law (wsV RL 65 RX4 yX4_citizen wsX4_citizen) := goodIn_app (goodIn_of _ (by decide +kernel)) ggL_law_X4_citizen
set_option maxRecDepth 20000 in
theorem ggL_law_X4_shelter : GoodIn wsL_law wsX4_shelter := goodIn_ca (goodIn_r _ [424, 17, 99, 100, 101, 7, 102, 63, 64, 103, 104, 105, 16, 106, 82, 166, 167, 168, 68, 69, 70, 204, 205, 206, 207, 25, 83, 208, 209, 210, 211, 150, 212, 213, 214, 215, 111, 27, 216, 217, 218, 33, 219, 123, 124, 180, 181, 182, 183, 135, 29, 184, 220, 221, 222, 223, 224, 429, 430, 431, 432, 433, 434, 435, 436, 437, 438, 439, 440, 441, 442, 443, 444, 445, 446, 447, 448, 449, 450, 451, 452, 453, 454, 455, 456, 457, 458, 459, 460, 461, 462, 463, 464, 465, 466, 467] (by decide +kernel) (by decide +kernel)) (goodIn_sub (fun _ h => List.mem_append_left _ (List.mem_append_right _ h)) (by decide +kernel))
set_option maxRecDepth 20000 in
theorem gL_law_X4_shelter : GoodIn wsL_law (wsV RL 68 RX4 yX4_shelter wsX4_shelter) := goodIn_app (goodIn_of _ (by decide +kernel)) ggL_law_X4_shelter
set_option maxRecDepth 20000 in
theorem ggL_law_X4_trust : GoodIn wsL_law wsX4_trust := goodIn_r _ [428, 17, 130, 377, 378, 379, 16, 380, 135, 29, 301, 429, 430, 431, 432, 433, 434, 435, 436, 437, 438, 439, 453, 454, 455, 456, 457, 458, 459, 460, 461, 462, 463, 464, 465, 466, 467] (by decide +kernel) (by decide +kernel)
set_option maxRecDepth 20000 in
theorem gL_law_X4_trust : GoodIn wsL_law (wsV RL 71 RX4 yX4_trust wsX4_trust) := goodIn_app (goodIn_of _ (by decide +kernel)) ggL_law_X4_trust
theorem dL_law_0 : decode cL_law 0 = .ok (.aload_n 0, 1) := by decide +kernel
theorem dL_law_1 : decode cL_law 1 = .ok (.invokestatic 35, 3) := by decide +kernel
theorem dL_law_4 : decode cL_law 4 = .ok (.astore_n 1, 1) := by decide +kernel
theorem dL_law_5 : decode cL_law 5 = .ok (.aload_n 1, 1) := by decide +kernel
theorem dL_law_6 : decode cL_law 6 = .ok (.iconst 1, 1) := by decide +kernel
theorem dL_law_7 : decode cL_law 7 = .ok (.invokevirtual 39, 3) := by decide +kernel
theorem dL_law_10 : decode cL_law 10 = .ok (.istore_n 2, 1) := by decide +kernel
theorem dL_law_11 : decode cL_law 11 = .ok (.iconst 0, 1) := by decide +kernel
theorem dL_law_12 : decode cL_law 12 = .ok (.istore_n 3, 1) := by decide +kernel
theorem dL_law_13 : decode cL_law 13 = .ok (.iload_n 3, 1) := by decide +kernel
theorem dL_law_14 : decode cL_law 14 = .ok (.bipush 60, 2) := by decide +kernel
theorem dL_law_16 : decode cL_law 16 = .ok (.if_icmp .ge 819, 3) := by decide +kernel
theorem dL_law_19 : decode cL_law 19 = .ok (.aload_n 0, 1) := by decide +kernel
theorem dL_law_20 : decode cL_law 20 = .ok (.iload_n 3, 1) := by decide +kernel
theorem dL_law_21 : decode cL_law 21 = .ok (.bipush 16, 2) := by decide +kernel
theorem dL_law_23 : decode cL_law 23 = .ok (.irem, 1) := by decide +kernel
theorem dL_law_24 : decode cL_law 24 = .ok (.invokestatic 12, 3) := by decide +kernel
theorem dL_law_27 : decode cL_law 27 = .ok (.iload_n 3, 1) := by decide +kernel
theorem dL_law_28 : decode cL_law 28 = .ok (.bipush 16, 2) := by decide +kernel
theorem dL_law_30 : decode cL_law 30 = .ok (.idiv, 1) := by decide +kernel
theorem dL_law_31 : decode cL_law 31 = .ok (.iconst 5, 1) := by decide +kernel
theorem dL_law_32 : decode cL_law 32 = .ok (.imul, 1) := by decide +kernel
theorem dL_law_33 : decode cL_law 33 = .ok (.ishr, 1) := by decide +kernel
theorem dL_law_34 : decode cL_law 34 = .ok (.istore 4, 2) := by decide +kernel
theorem dL_law_36 : decode cL_law 36 = .ok (.iload 4, 2) := by decide +kernel
theorem dL_law_38 : decode cL_law 38 = .ok (.bipush 11, 2) := by decide +kernel
theorem dL_law_40 : decode cL_law 40 = .ok (.invokestatic 18, 3) := by decide +kernel
theorem dL_law_43 : decode cL_law 43 = .ok (.ifCond .ne 37, 3) := by decide +kernel
theorem dL_law_46 : decode cL_law 46 = .ok (.aload_n 1, 1) := by decide +kernel
theorem dL_law_47 : decode cL_law 47 = .ok (.iconst 2, 1) := by decide +kernel
theorem dL_law_48 : decode cL_law 48 = .ok (.invokevirtual 39, 3) := by decide +kernel
theorem dL_law_51 : decode cL_law 51 = .ok (.bipush 38, 2) := by decide +kernel
theorem dL_law_53 : decode cL_law 53 = .ok (.if_icmp .ge 27, 3) := by decide +kernel
theorem dL_law_56 : decode cL_law 56 = .ok (.aload_n 1, 1) := by decide +kernel
theorem dL_law_57 : decode cL_law 57 = .ok (.iload 4, 2) := by decide +kernel
theorem dL_law_59 : decode cL_law 59 = .ok (.iconst 3, 1) := by decide +kernel
theorem dL_law_60 : decode cL_law 60 = .ok (.ishr, 1) := by decide +kernel
theorem dL_law_61 : decode cL_law 61 = .ok (.iload_n 2, 1) := by decide +kernel
theorem dL_law_62 : decode cL_law 62 = .ok (.invokestatic 18, 3) := by decide +kernel
theorem dL_law_65 : decode cL_law 65 = .ok (.iconst 1, 1) := by decide +kernel
theorem dL_law_66 : decode cL_law 66 = .ok (.iload 4, 2) := by decide +kernel
theorem dL_law_68 : decode cL_law 68 = .ok (.bipush 6, 2) := by decide +kernel
theorem dL_law_70 : decode cL_law 70 = .ok (.ishr, 1) := by decide +kernel
theorem dL_law_71 : decode cL_law 71 = .ok (.iconst 3, 1) := by decide +kernel
theorem dL_law_72 : decode cL_law 72 = .ok (.invokestatic 18, 3) := by decide +kernel
theorem dL_law_75 : decode cL_law 75 = .ok (.iadd, 1) := by decide +kernel
theorem dL_law_76 : decode cL_law 76 = .ok (.invokevirtual 28, 3) := by decide +kernel
theorem dL_law_79 : decode cL_law 79 = .ok (.pop, 1) := by decide +kernel
theorem dL_law_80 : decode cL_law 80 = .ok (.iload 4, 2) := by decide +kernel
theorem dL_law_82 : decode cL_law 82 = .ok (.bipush 11, 2) := by decide +kernel
theorem dL_law_84 : decode cL_law 84 = .ok (.invokestatic 18, 3) := by decide +kernel
theorem dL_law_87 : decode cL_law 87 = .ok (.iconst 1, 1) := by decide +kernel
theorem dL_law_88 : decode cL_law 88 = .ok (.if_icmp .ne 27, 3) := by decide +kernel
theorem dL_law_91 : decode cL_law 91 = .ok (.aload_n 1, 1) := by decide +kernel
theorem dL_law_92 : decode cL_law 92 = .ok (.iload 4, 2) := by decide +kernel
theorem dL_law_94 : decode cL_law 94 = .ok (.iconst 3, 1) := by decide +kernel
theorem dL_law_95 : decode cL_law 95 = .ok (.ishr, 1) := by decide +kernel
theorem dL_law_96 : decode cL_law 96 = .ok (.bipush 24, 2) := by decide +kernel
theorem dL_law_98 : decode cL_law 98 = .ok (.invokestatic 18, 3) := by decide +kernel
theorem dL_law_101 : decode cL_law 101 = .ok (.iload 4, 2) := by decide +kernel
theorem dL_law_103 : decode cL_law 103 = .ok (.bipush 8, 2) := by decide +kernel
theorem dL_law_105 : decode cL_law 105 = .ok (.ishr, 1) := by decide +kernel
theorem dL_law_106 : decode cL_law 106 = .ok (.bipush 10, 2) := by decide +kernel
theorem dL_law_108 : decode cL_law 108 = .ok (.invokestatic 18, 3) := by decide +kernel
theorem dL_law_111 : decode cL_law 111 = .ok (.invokevirtual 22, 3) := by decide +kernel
theorem dL_law_114 : decode cL_law 114 = .ok (.pop, 1) := by decide +kernel
theorem dL_law_115 : decode cL_law 115 = .ok (.iload 4, 2) := by decide +kernel
theorem dL_law_117 : decode cL_law 117 = .ok (.bipush 11, 2) := by decide +kernel
theorem dL_law_119 : decode cL_law 119 = .ok (.invokestatic 18, 3) := by decide +kernel
theorem dL_law_122 : decode cL_law 122 = .ok (.iconst 2, 1) := by decide +kernel
theorem dL_law_123 : decode cL_law 123 = .ok (.if_icmp .ne 26, 3) := by decide +kernel
theorem dL_law_126 : decode cL_law 126 = .ok (.aload_n 1, 1) := by decide +kernel
theorem dL_law_127 : decode cL_law 127 = .ok (.iload 4, 2) := by decide +kernel
theorem dL_law_129 : decode cL_law 129 = .ok (.iconst 3, 1) := by decide +kernel
theorem dL_law_130 : decode cL_law 130 = .ok (.ishr, 1) := by decide +kernel
theorem dL_law_131 : decode cL_law 131 = .ok (.iload_n 2, 1) := by decide +kernel
theorem dL_law_132 : decode cL_law 132 = .ok (.invokestatic 18, 3) := by decide +kernel
theorem dL_law_135 : decode cL_law 135 = .ok (.iload 4, 2) := by decide +kernel
theorem dL_law_137 : decode cL_law 137 = .ok (.bipush 6, 2) := by decide +kernel
theorem dL_law_139 : decode cL_law 139 = .ok (.ishr, 1) := by decide +kernel
theorem dL_law_140 : decode cL_law 140 = .ok (.bipush 11, 2) := by decide +kernel
theorem dL_law_142 : decode cL_law 142 = .ok (.invokestatic 18, 3) := by decide +kernel
theorem dL_law_145 : decode cL_law 145 = .ok (.invokevirtual 43, 3) := by decide +kernel
theorem dL_law_148 : decode cL_law 148 = .ok (.pop, 1) := by decide +kernel
theorem dL_law_149 : decode cL_law 149 = .ok (.iconst 1, 1) := by decide +kernel
theorem dL_law_150 : decode cL_law 150 = .ok (.iload 4, 2) := by decide +kernel
theorem dL_law_152 : decode cL_law 152 = .ok (.iconst 5, 1) := by decide +kernel
theorem dL_law_153 : decode cL_law 153 = .ok (.ishr, 1) := by decide +kernel
theorem dL_law_154 : decode cL_law 154 = .ok (.iconst 3, 1) := by decide +kernel
theorem dL_law_155 : decode cL_law 155 = .ok (.invokestatic 18, 3) := by decide +kernel
theorem dL_law_158 : decode cL_law 158 = .ok (.iadd, 1) := by decide +kernel
theorem dL_law_159 : decode cL_law 159 = .ok (.istore 5, 2) := by decide +kernel
theorem dL_law_161 : decode cL_law 161 = .ok (.aload_n 1, 1) := by decide +kernel
theorem dL_law_162 : decode cL_law 162 = .ok (.invokevirtual 46, 3) := by decide +kernel
theorem dL_law_165 : decode cL_law 165 = .ok (.lstore 6, 2) := by decide +kernel
theorem dL_law_167 : decode cL_law 167 = .ok (.aload_n 1, 1) := by decide +kernel
theorem dL_law_168 : decode cL_law 168 = .ok (.iload 5, 2) := by decide +kernel
theorem dL_law_170 : decode cL_law 170 = .ok (.iconst 0, 1) := by decide +kernel
theorem dL_law_171 : decode cL_law 171 = .ok (.invokevirtual 50, 3) := by decide +kernel
theorem dL_law_174 : decode cL_law 174 = .ok (.istore 8, 2) := by decide +kernel
theorem dL_law_176 : decode cL_law 176 = .ok (.aload_n 1, 1) := by decide +kernel
theorem dL_law_177 : decode cL_law 177 = .ok (.iload 5, 2) := by decide +kernel
theorem dL_law_179 : decode cL_law 179 = .ok (.iconst 1, 1) := by decide +kernel
theorem dL_law_180 : decode cL_law 180 = .ok (.invokevirtual 50, 3) := by decide +kernel
theorem dL_law_183 : decode cL_law 183 = .ok (.istore 9, 2) := by decide +kernel
theorem dL_law_185 : decode cL_law 185 = .ok (.iload_n 3, 1) := by decide +kernel
theorem dL_law_186 : decode cL_law 186 = .ok (.bipush 6, 2) := by decide +kernel
theorem dL_law_188 : decode cL_law 188 = .ok (.irem, 1) := by decide +kernel
theorem dL_law_189 : decode cL_law 189 = .ok (.ifCond .ne 20, 3) := by decide +kernel
theorem dL_law_192 : decode cL_law 192 = .ok (.aload_n 1, 1) := by decide +kernel
theorem dL_law_193 : decode cL_law 193 = .ok (.iconst 2, 1) := by decide +kernel
theorem dL_law_194 : decode cL_law 194 = .ok (.invokevirtual 39, 3) := by decide +kernel
theorem dL_law_197 : decode cL_law 197 = .ok (.bipush 40, 2) := by decide +kernel
theorem dL_law_199 : decode cL_law 199 = .ok (.if_icmp .ge 10, 3) := by decide +kernel
theorem dL_law_202 : decode cL_law 202 = .ok (.aload_n 1, 1) := by decide +kernel
theorem dL_law_203 : decode cL_law 203 = .ok (.iload 5, 2) := by decide +kernel
theorem dL_law_205 : decode cL_law 205 = .ok (.invokevirtual 53, 3) := by decide +kernel
theorem dL_law_208 : decode cL_law 208 = .ok (.pop, 1) := by decide +kernel
theorem dL_law_209 : decode cL_law 209 = .ok (.aload_n 1, 1) := by decide +kernel
theorem dL_law_210 : decode cL_law 210 = .ok (.iconst 2, 1) := by decide +kernel
theorem dL_law_211 : decode cL_law 211 = .ok (.invokevirtual 39, 3) := by decide +kernel
theorem dL_law_214 : decode cL_law 214 = .ok (.ifCond .le 18, 3) := by decide +kernel
theorem dL_law_217 : decode cL_law 217 = .ok (.aload_n 1, 1) := by decide +kernel
theorem dL_law_218 : decode cL_law 218 = .ok (.iconst 0, 1) := by decide +kernel
theorem dL_law_219 : decode cL_law 219 = .ok (.iload 4, 2) := by decide +kernel
theorem dL_law_221 : decode cL_law 221 = .ok (.iconst 4, 1) := by decide +kernel
theorem dL_law_222 : decode cL_law 222 = .ok (.ishr, 1) := by decide +kernel
theorem dL_law_223 : decode cL_law 223 = .ok (.bipush 24, 2) := by decide +kernel
theorem dL_law_225 : decode cL_law 225 = .ok (.invokestatic 18, 3) := by decide +kernel
theorem dL_law_228 : decode cL_law 228 = .ok (.invokevirtual 56, 3) := by decide +kernel
theorem dL_law_231 : decode cL_law 231 = .ok (.pop, 1) := by decide +kernel
theorem dL_law_232 : decode cL_law 232 = .ok (.aload_n 1, 1) := by decide +kernel
theorem dL_law_233 : decode cL_law 233 = .ok (.invokevirtual 46, 3) := by decide +kernel
theorem dL_law_236 : decode cL_law 236 = .ok (.lload 6, 2) := by decide +kernel
theorem dL_law_238 : decode cL_law 238 = .ok (.lcmp, 1) := by decide +kernel
theorem dL_law_239 : decode cL_law 239 = .ok (.ifCond .eq 5, 3) := by decide +kernel
theorem dL_law_242 : decode cL_law 242 = .ok (.iconst 0, 1) := by decide +kernel
theorem dL_law_243 : decode cL_law 243 = .ok (.ireturn, 1) := by decide +kernel
theorem dL_law_244 : decode cL_law 244 = .ok (.aload_n 1, 1) := by decide +kernel
theorem dL_law_245 : decode cL_law 245 = .ok (.bipush 9, 2) := by decide +kernel
theorem dL_law_247 : decode cL_law 247 = .ok (.invokevirtual 39, 3) := by decide +kernel
theorem dL_law_250 : decode cL_law 250 = .ok (.istore 10, 2) := by decide +kernel
theorem dL_law_252 : decode cL_law 252 = .ok (.aload_n 1, 1) := by decide +kernel
theorem dL_law_253 : decode cL_law 253 = .ok (.iload 5, 2) := by decide +kernel
theorem dL_law_255 : decode cL_law 255 = .ok (.invokevirtual 59, 3) := by decide +kernel
theorem dL_law_258 : decode cL_law 258 = .ok (.istore 11, 2) := by decide +kernel
theorem dL_law_260 : decode cL_law 260 = .ok (.aload_n 1, 1) := by decide +kernel
theorem dL_law_261 : decode cL_law 261 = .ok (.bipush 9, 2) := by decide +kernel
theorem dL_law_263 : decode cL_law 263 = .ok (.invokevirtual 39, 3) := by decide +kernel
theorem dL_law_266 : decode cL_law 266 = .ok (.iload 8, 2) := by decide +kernel
theorem dL_law_268 : decode cL_law 268 = .ok (.if_icmp .ne 38, 3) := by decide +kernel
theorem dL_law_271 : decode cL_law 271 = .ok (.aload_n 1, 1) := by decide +kernel
theorem dL_law_272 : decode cL_law 272 = .ok (.iconst 4, 1) := by decide +kernel
theorem dL_law_273 : decode cL_law 273 = .ok (.invokevirtual 39, 3) := by decide +kernel
theorem dL_law_276 : decode cL_law 276 = .ok (.iload 9, 2) := by decide +kernel
theorem dL_law_278 : decode cL_law 278 = .ok (.if_icmp .ne 28, 3) := by decide +kernel
theorem dL_law_281 : decode cL_law 281 = .ok (.iload 8, 2) := by decide +kernel
theorem dL_law_283 : decode cL_law 283 = .ok (.iload 10, 2) := by decide +kernel
theorem dL_law_285 : decode cL_law 285 = .ok (.if_icmp .lt 21, 3) := by decide +kernel
theorem dL_law_288 : decode cL_law 288 = .ok (.iload 11, 2) := by decide +kernel
theorem dL_law_290 : decode cL_law 290 = .ok (.ifCond .lt 16, 3) := by decide +kernel
theorem dL_law_293 : decode cL_law 293 = .ok (.iload 11, 2) := by decide +kernel
theorem dL_law_295 : decode cL_law 295 = .ok (.aload_n 1, 1) := by decide +kernel
theorem dL_law_296 : decode cL_law 296 = .ok (.iconst 3, 1) := by decide +kernel
theorem dL_law_297 : decode cL_law 297 = .ok (.invokevirtual 39, 3) := by decide +kernel
theorem dL_law_300 : decode cL_law 300 = .ok (.iload 5, 2) := by decide +kernel
theorem dL_law_302 : decode cL_law 302 = .ok (.imul, 1) := by decide +kernel
theorem dL_law_303 : decode cL_law 303 = .ok (.if_icmp .le 5, 3) := by decide +kernel
theorem dL_law_306 : decode cL_law 306 = .ok (.iconst 0, 1) := by decide +kernel
theorem dL_law_307 : decode cL_law 307 = .ok (.ireturn, 1) := by decide +kernel
theorem dL_law_308 : decode cL_law 308 = .ok (.bipush 10, 2) := by decide +kernel
theorem dL_law_310 : decode cL_law 310 = .ok (.newarray .int, 2) := by decide +kernel
theorem dL_law_312 : decode cL_law 312 = .ok (.astore 12, 2) := by decide +kernel
theorem dL_law_314 : decode cL_law 314 = .ok (.bipush 8, 2) := by decide +kernel
theorem dL_law_316 : decode cL_law 316 = .ok (.newarray .int, 2) := by decide +kernel
theorem dL_law_318 : decode cL_law 318 = .ok (.astore 13, 2) := by decide +kernel
theorem dL_law_320 : decode cL_law 320 = .ok (.iconst 4, 1) := by decide +kernel
theorem dL_law_321 : decode cL_law 321 = .ok (.newarray .int, 2) := by decide +kernel
theorem dL_law_323 : decode cL_law 323 = .ok (.astore 14, 2) := by decide +kernel
theorem dL_law_325 : decode cL_law 325 = .ok (.iconst 0, 1) := by decide +kernel
theorem dL_law_326 : decode cL_law 326 = .ok (.istore 15, 2) := by decide +kernel
theorem dL_law_328 : decode cL_law 328 = .ok (.iload 15, 2) := by decide +kernel
theorem dL_law_330 : decode cL_law 330 = .ok (.aload_n 1, 1) := by decide +kernel
theorem dL_law_331 : decode cL_law 331 = .ok (.iconst 2, 1) := by decide +kernel
theorem dL_law_332 : decode cL_law 332 = .ok (.invokevirtual 39, 3) := by decide +kernel
theorem dL_law_335 : decode cL_law 335 = .ok (.if_icmp .ge 158, 3) := by decide +kernel
theorem dL_law_338 : decode cL_law 338 = .ok (.aload_n 1, 1) := by decide +kernel
theorem dL_law_339 : decode cL_law 339 = .ok (.iload 15, 2) := by decide +kernel
theorem dL_law_341 : decode cL_law 341 = .ok (.iconst 0, 1) := by decide +kernel
theorem dL_law_342 : decode cL_law 342 = .ok (.invokevirtual 62, 3) := by decide +kernel
theorem dL_law_345 : decode cL_law 345 = .ok (.istore 16, 2) := by decide +kernel
theorem dL_law_347 : decode cL_law 347 = .ok (.aload_n 1, 1) := by decide +kernel
theorem dL_law_348 : decode cL_law 348 = .ok (.iload 15, 2) := by decide +kernel
theorem dL_law_350 : decode cL_law 350 = .ok (.iconst 1, 1) := by decide +kernel
theorem dL_law_351 : decode cL_law 351 = .ok (.invokevirtual 62, 3) := by decide +kernel
theorem dL_law_354 : decode cL_law 354 = .ok (.istore 17, 2) := by decide +kernel
theorem dL_law_356 : decode cL_law 356 = .ok (.aload 14, 2) := by decide +kernel
theorem dL_law_358 : decode cL_law 358 = .ok (.iload 16, 2) := by decide +kernel
theorem dL_law_360 : decode cL_law 360 = .ok (.dup2, 1) := by decide +kernel
theorem dL_law_361 : decode cL_law 361 = .ok (.iaload, 1) := by decide +kernel
theorem dL_law_362 : decode cL_law 362 = .ok (.iconst 1, 1) := by decide +kernel
theorem dL_law_363 : decode cL_law 363 = .ok (.iadd, 1) := by decide +kernel
theorem dL_law_364 : decode cL_law 364 = .ok (.iastore, 1) := by decide +kernel
theorem dL_law_365 : decode cL_law 365 = .ok (.iload 16, 2) := by decide +kernel
theorem dL_law_367 : decode cL_law 367 = .ok (.ifCond .ne 12, 3) := by decide +kernel
theorem dL_law_370 : decode cL_law 370 = .ok (.aload 13, 2) := by decide +kernel
theorem dL_law_372 : decode cL_law 372 = .ok (.iload 17, 2) := by decide +kernel
theorem dL_law_374 : decode cL_law 374 = .ok (.dup2, 1) := by decide +kernel
theorem dL_law_375 : decode cL_law 375 = .ok (.iaload, 1) := by decide +kernel
theorem dL_law_376 : decode cL_law 376 = .ok (.iconst 1, 1) := by decide +kernel
theorem dL_law_377 : decode cL_law 377 = .ok (.iadd, 1) := by decide +kernel
theorem dL_law_378 : decode cL_law 378 = .ok (.iastore, 1) := by decide +kernel
theorem dL_law_379 : decode cL_law 379 = .ok (.iload 16, 2) := by decide +kernel
theorem dL_law_381 : decode cL_law 381 = .ok (.iconst 1, 1) := by decide +kernel
theorem dL_law_382 : decode cL_law 382 = .ok (.if_icmp .ne 12, 3) := by decide +kernel
theorem dL_law_385 : decode cL_law 385 = .ok (.aload 12, 2) := by decide +kernel
theorem dL_law_387 : decode cL_law 387 = .ok (.iload 17, 2) := by decide +kernel
theorem dL_law_389 : decode cL_law 389 = .ok (.dup2, 1) := by decide +kernel
theorem dL_law_390 : decode cL_law 390 = .ok (.iaload, 1) := by decide +kernel
theorem dL_law_391 : decode cL_law 391 = .ok (.iconst 1, 1) := by decide +kernel
theorem dL_law_392 : decode cL_law 392 = .ok (.iadd, 1) := by decide +kernel
theorem dL_law_393 : decode cL_law 393 = .ok (.iastore, 1) := by decide +kernel
theorem dL_law_394 : decode cL_law 394 = .ok (.iload 16, 2) := by decide +kernel
theorem dL_law_396 : decode cL_law 396 = .ok (.iconst 1, 1) := by decide +kernel
theorem dL_law_397 : decode cL_law 397 = .ok (.if_icmp .le 32, 3) := by decide +kernel
theorem dL_law_400 : decode cL_law 400 = .ok (.iload 17, 2) := by decide +kernel
theorem dL_law_402 : decode cL_law 402 = .ok (.iconst (-1), 1) := by decide +kernel
theorem dL_law_403 : decode cL_law 403 = .ok (.if_icmp .ne 82, 3) := by decide +kernel
theorem dL_law_406 : decode cL_law 406 = .ok (.aload_n 1, 1) := by decide +kernel
theorem dL_law_407 : decode cL_law 407 = .ok (.iload 15, 2) := by decide +kernel
theorem dL_law_409 : decode cL_law 409 = .ok (.iconst 3, 1) := by decide +kernel
theorem dL_law_410 : decode cL_law 410 = .ok (.invokevirtual 62, 3) := by decide +kernel
theorem dL_law_413 : decode cL_law 413 = .ok (.iconst 1, 1) := by decide +kernel
theorem dL_law_414 : decode cL_law 414 = .ok (.if_icmp .lt 71, 3) := by decide +kernel
theorem dL_law_417 : decode cL_law 417 = .ok (.aload_n 1, 1) := by decide +kernel
theorem dL_law_418 : decode cL_law 418 = .ok (.iload 15, 2) := by decide +kernel
theorem dL_law_420 : decode cL_law 420 = .ok (.iconst 3, 1) := by decide +kernel
theorem dL_law_421 : decode cL_law 421 = .ok (.invokevirtual 62, 3) := by decide +kernel
theorem dL_law_424 : decode cL_law 424 = .ok (.bipush 24, 2) := by decide +kernel
theorem dL_law_426 : decode cL_law 426 = .ok (.if_icmp .gt 59, 3) := by decide +kernel
theorem dL_law_429 : decode cL_law 429 = .ok (.iload 16, 2) := by decide +kernel
theorem dL_law_431 : decode cL_law 431 = .ok (.iconst 2, 1) := by decide +kernel
theorem dL_law_432 : decode cL_law 432 = .ok (.if_icmp .ge 13, 3) := by decide +kernel
theorem dL_law_435 : decode cL_law 435 = .ok (.aload_n 1, 1) := by decide +kernel
theorem dL_law_436 : decode cL_law 436 = .ok (.iload 15, 2) := by decide +kernel
theorem dL_law_438 : decode cL_law 438 = .ok (.iconst 3, 1) := by decide +kernel
theorem dL_law_439 : decode cL_law 439 = .ok (.invokevirtual 62, 3) := by decide +kernel
theorem dL_law_442 : decode cL_law 442 = .ok (.ifCond .ne 43, 3) := by decide +kernel
theorem dL_law_445 : decode cL_law 445 = .ok (.aload_n 1, 1) := by decide +kernel
theorem dL_law_446 : decode cL_law 446 = .ok (.iload 15, 2) := by decide +kernel
theorem dL_law_448 : decode cL_law 448 = .ok (.iconst 2, 1) := by decide +kernel
theorem dL_law_449 : decode cL_law 449 = .ok (.invokevirtual 62, 3) := by decide +kernel
theorem dL_law_452 : decode cL_law 452 = .ok (.ifCond .lt 33, 3) := by decide +kernel
theorem dL_law_455 : decode cL_law 455 = .ok (.aload_n 1, 1) := by decide +kernel
theorem dL_law_456 : decode cL_law 456 = .ok (.iload 15, 2) := by decide +kernel
theorem dL_law_458 : decode cL_law 458 = .ok (.iconst 2, 1) := by decide +kernel
theorem dL_law_459 : decode cL_law 459 = .ok (.invokevirtual 62, 3) := by decide +kernel
theorem dL_law_462 : decode cL_law 462 = .ok (.bipush 38, 2) := by decide +kernel
theorem dL_law_464 : decode cL_law 464 = .ok (.if_icmp .gt 21, 3) := by decide +kernel
theorem dL_law_467 : decode cL_law 467 = .ok (.iload 16, 2) := by decide +kernel
theorem dL_law_469 : decode cL_law 469 = .ok (.iconst 3, 1) := by decide +kernel
theorem dL_law_470 : decode cL_law 470 = .ok (.if_icmp .eq 17, 3) := by decide +kernel
theorem dL_law_473 : decode cL_law 473 = .ok (.aload_n 1, 1) := by decide +kernel
theorem dL_law_474 : decode cL_law 474 = .ok (.iload 15, 2) := by decide +kernel
theorem dL_law_476 : decode cL_law 476 = .ok (.iconst 2, 1) := by decide +kernel
theorem dL_law_477 : decode cL_law 477 = .ok (.invokevirtual 62, 3) := by decide +kernel
theorem dL_law_480 : decode cL_law 480 = .ok (.bipush 29, 2) := by decide +kernel
theorem dL_law_482 : decode cL_law 482 = .ok (.if_icmp .le 5, 3) := by decide +kernel
