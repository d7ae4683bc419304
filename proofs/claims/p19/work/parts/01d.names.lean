theorem dX1_driveCart_66 : decode cX1_driveCart 66 = .ok (.invokevirtual 209, 3) := by decide +kernel
theorem dX1_driveCart_69 : decode cX1_driveCart 69 = .ok (.aload_n 0, 1) := by decide +kernel
theorem dX1_driveCart_70 : decode cX1_driveCart 70 = .ok (.iload_n 2, 1) := by decide +kernel
theorem dX1_driveCart_71 : decode cX1_driveCart 71 = .ok (.invokevirtual 209, 3) := by decide +kernel
theorem dX1_driveCart_74 : decode cX1_driveCart 74 = .ok (.isub, 1) := by decide +kernel
theorem dX1_driveCart_75 : decode cX1_driveCart 75 = .ok (.iconst 2, 1) := by decide +kernel
theorem dX1_driveCart_76 : decode cX1_driveCart 76 = .ok (.if_icmp .lt 23, 3) := by decide +kernel
theorem dX1_driveCart_79 : decode cX1_driveCart 79 = .ok (.aload_n 0, 1) := by decide +kernel
theorem dX1_driveCart_80 : decode cX1_driveCart 80 = .ok (.getfield 23, 3) := by decide +kernel
theorem dX1_driveCart_83 : decode cX1_driveCart 83 = .ok (.iload_n 3, 1) := by decide +kernel
theorem dX1_driveCart_84 : decode cX1_driveCart 84 = .ok (.aaload, 1) := by decide +kernel
theorem dX1_driveCart_85 : decode cX1_driveCart 85 = .ok (.iload_n 2, 1) := by decide +kernel
theorem dX1_driveCart_86 : decode cX1_driveCart 86 = .ok (.invokevirtual 196, 3) := by decide +kernel
theorem dX1_driveCart_89 : decode cX1_driveCart 89 = .ok (.aload_n 0, 1) := by decide +kernel
theorem dX1_driveCart_90 : decode cX1_driveCart 90 = .ok (.dup, 1) := by decide +kernel
theorem dX1_driveCart_91 : decode cX1_driveCart 91 = .ok (.getfield 55, 3) := by decide +kernel
theorem dX1_driveCart_94 : decode cX1_driveCart 94 = .ok (.iconst 1, 1) := by decide +kernel
theorem dX1_driveCart_95 : decode cX1_driveCart 95 = .ok (.iadd, 1) := by decide +kernel
theorem dX1_driveCart_96 : decode cX1_driveCart 96 = .ok (.putfield 55, 3) := by decide +kernel
theorem dX1_driveCart_99 : decode cX1_driveCart 99 = .ok (.return_, 1) := by decide +kernel
set_option maxRecDepth 20000 in
theorem ggX1_endDay_X2_endDay : GoodIn wsX1_endDay wsX2_endDay := goodIn_r _ [7, 8, 9, 10, 11, 12, 13, 14, 15, 16, 17, 27, 28, 29, 30, 31, 32, 33] (by decide +kernel) (by decide +kernel)
set_option maxRecDepth 20000 in
theorem gX1_endDay_X2_endDay : GoodIn wsX1_endDay (wsV RX1 212 RX2 yX2_endDay wsX2_endDay) := goodIn_app (goodIn_of _ (by decide +kernel)) ggX1_endDay_X2_endDay
theorem dX1_endDay_0 : decode cX1_endDay 0 = .ok (.iconst 0, 1) := by decide +kernel
theorem dX1_endDay_1 : decode cX1_endDay 1 = .ok (.istore_n 1, 1) := by decide +kernel
theorem dX1_endDay_2 : decode cX1_endDay 2 = .ok (.iload_n 1, 1) := by decide +kernel
theorem dX1_endDay_3 : decode cX1_endDay 3 = .ok (.aload_n 0, 1) := by decide +kernel
theorem dX1_endDay_4 : decode cX1_endDay 4 = .ok (.getfield 46, 3) := by decide +kernel
theorem dX1_endDay_7 : decode cX1_endDay 7 = .ok (.if_icmp .ge 18, 3) := by decide +kernel
theorem dX1_endDay_10 : decode cX1_endDay 10 = .ok (.aload_n 0, 1) := by decide +kernel
theorem dX1_endDay_11 : decode cX1_endDay 11 = .ok (.getfield 17, 3) := by decide +kernel
theorem dX1_endDay_14 : decode cX1_endDay 14 = .ok (.iload_n 1, 1) := by decide +kernel
theorem dX1_endDay_15 : decode cX1_endDay 15 = .ok (.aaload, 1) := by decide +kernel
theorem dX1_endDay_16 : decode cX1_endDay 16 = .ok (.invokevirtual 212, 3) := by decide +kernel
theorem dX1_endDay_19 : decode cX1_endDay 19 = .ok (.iinc 1 1, 3) := by decide +kernel
theorem dX1_endDay_22 : decode cX1_endDay 22 = .ok (.goto (-20), 3) := by decide +kernel
theorem dX1_endDay_25 : decode cX1_endDay 25 = .ok (.return_, 1) := by decide +kernel
set_option maxRecDepth 20000 in
theorem ggX1_firstUmbrellaIn_X3_standsIn : GoodIn wsX1_firstUmbrellaIn wsX3_standsIn := goodIn_r _ [8, 9, 10, 20, 21, 22, 23, 24, 25] (by decide +kernel) (by decide +kernel)
set_option maxRecDepth 20000 in
theorem gX1_firstUmbrellaIn_X3_standsIn : GoodIn wsX1_firstUmbrellaIn (wsV RX1 213 RX3 yX3_standsIn wsX3_standsIn) := goodIn_app (goodIn_of _ (by decide +kernel)) ggX1_firstUmbrellaIn_X3_standsIn
theorem dX1_firstUmbrellaIn_0 : decode cX1_firstUmbrellaIn 0 = .ok (.iconst (-1), 1) := by decide +kernel
theorem dX1_firstUmbrellaIn_1 : decode cX1_firstUmbrellaIn 1 = .ok (.istore_n 2, 1) := by decide +kernel
theorem dX1_firstUmbrellaIn_2 : decode cX1_firstUmbrellaIn 2 = .ok (.bipush 30, 2) := by decide +kernel
theorem dX1_firstUmbrellaIn_4 : decode cX1_firstUmbrellaIn 4 = .ok (.istore_n 3, 1) := by decide +kernel
theorem dX1_firstUmbrellaIn_5 : decode cX1_firstUmbrellaIn 5 = .ok (.iconst 0, 1) := by decide +kernel
theorem dX1_firstUmbrellaIn_6 : decode cX1_firstUmbrellaIn 6 = .ok (.istore 4, 2) := by decide +kernel
theorem dX1_firstUmbrellaIn_8 : decode cX1_firstUmbrellaIn 8 = .ok (.iload 4, 2) := by decide +kernel
theorem dX1_firstUmbrellaIn_10 : decode cX1_firstUmbrellaIn 10 = .ok (.aload_n 0, 1) := by decide +kernel
theorem dX1_firstUmbrellaIn_11 : decode cX1_firstUmbrellaIn 11 = .ok (.getfield 49, 3) := by decide +kernel
theorem dX1_firstUmbrellaIn_14 : decode cX1_firstUmbrellaIn 14 = .ok (.if_icmp .ge 51, 3) := by decide +kernel
theorem dX1_firstUmbrellaIn_17 : decode cX1_firstUmbrellaIn 17 = .ok (.aload_n 0, 1) := by decide +kernel
theorem dX1_firstUmbrellaIn_18 : decode cX1_firstUmbrellaIn 18 = .ok (.getfield 23, 3) := by decide +kernel
theorem dX1_firstUmbrellaIn_21 : decode cX1_firstUmbrellaIn 21 = .ok (.iload 4, 2) := by decide +kernel
theorem dX1_firstUmbrellaIn_23 : decode cX1_firstUmbrellaIn 23 = .ok (.aaload, 1) := by decide +kernel
theorem dX1_firstUmbrellaIn_24 : decode cX1_firstUmbrellaIn 24 = .ok (.iload_n 1, 1) := by decide +kernel
theorem dX1_firstUmbrellaIn_25 : decode cX1_firstUmbrellaIn 25 = .ok (.invokevirtual 213, 3) := by decide +kernel
theorem dX1_firstUmbrellaIn_28 : decode cX1_firstUmbrellaIn 28 = .ok (.ifCond .eq 31, 3) := by decide +kernel
theorem dX1_firstUmbrellaIn_31 : decode cX1_firstUmbrellaIn 31 = .ok (.aload_n 0, 1) := by decide +kernel
theorem dX1_firstUmbrellaIn_32 : decode cX1_firstUmbrellaIn 32 = .ok (.getfield 23, 3) := by decide +kernel
theorem dX1_firstUmbrellaIn_35 : decode cX1_firstUmbrellaIn 35 = .ok (.iload 4, 2) := by decide +kernel
theorem dX1_firstUmbrellaIn_37 : decode cX1_firstUmbrellaIn 37 = .ok (.aaload, 1) := by decide +kernel
theorem dX1_firstUmbrellaIn_38 : decode cX1_firstUmbrellaIn 38 = .ok (.getfield 183, 3) := by decide +kernel
theorem dX1_firstUmbrellaIn_41 : decode cX1_firstUmbrellaIn 41 = .ok (.iload_n 3, 1) := by decide +kernel
theorem dX1_firstUmbrellaIn_42 : decode cX1_firstUmbrellaIn 42 = .ok (.if_icmp .ge 17, 3) := by decide +kernel
theorem dX1_firstUmbrellaIn_45 : decode cX1_firstUmbrellaIn 45 = .ok (.iload 4, 2) := by decide +kernel
theorem dX1_firstUmbrellaIn_47 : decode cX1_firstUmbrellaIn 47 = .ok (.istore_n 2, 1) := by decide +kernel
theorem dX1_firstUmbrellaIn_48 : decode cX1_firstUmbrellaIn 48 = .ok (.aload_n 0, 1) := by decide +kernel
theorem dX1_firstUmbrellaIn_49 : decode cX1_firstUmbrellaIn 49 = .ok (.getfield 23, 3) := by decide +kernel
theorem dX1_firstUmbrellaIn_52 : decode cX1_firstUmbrellaIn 52 = .ok (.iload 4, 2) := by decide +kernel
theorem dX1_firstUmbrellaIn_54 : decode cX1_firstUmbrellaIn 54 = .ok (.aaload, 1) := by decide +kernel
theorem dX1_firstUmbrellaIn_55 : decode cX1_firstUmbrellaIn 55 = .ok (.getfield 183, 3) := by decide +kernel
theorem dX1_firstUmbrellaIn_58 : decode cX1_firstUmbrellaIn 58 = .ok (.istore_n 3, 1) := by decide +kernel
theorem dX1_firstUmbrellaIn_59 : decode cX1_firstUmbrellaIn 59 = .ok (.iinc 4 1, 3) := by decide +kernel
theorem dX1_firstUmbrellaIn_62 : decode cX1_firstUmbrellaIn 62 = .ok (.goto (-54), 3) := by decide +kernel
theorem dX1_firstUmbrellaIn_65 : decode cX1_firstUmbrellaIn 65 = .ok (.iload_n 2, 1) := by decide +kernel
theorem dX1_firstUmbrellaIn_66 : decode cX1_firstUmbrellaIn 66 = .ok (.ireturn, 1) := by decide +kernel
set_option maxRecDepth 20000 in
theorem ggX1_umbrellasIn_X3_standsIn : GoodIn wsX1_umbrellasIn wsX3_standsIn := goodIn_r _ [7, 8, 9, 19, 20, 21, 22, 23, 24] (by decide +kernel) (by decide +kernel)
set_option maxRecDepth 20000 in
theorem gX1_umbrellasIn_X3_standsIn : GoodIn wsX1_umbrellasIn (wsV RX1 213 RX3 yX3_standsIn wsX3_standsIn) := goodIn_app (goodIn_of _ (by decide +kernel)) ggX1_umbrellasIn_X3_standsIn
theorem dX1_umbrellasIn_0 : decode cX1_umbrellasIn 0 = .ok (.iconst 0, 1) := by decide +kernel
theorem dX1_umbrellasIn_1 : decode cX1_umbrellasIn 1 = .ok (.istore_n 2, 1) := by decide +kernel
theorem dX1_umbrellasIn_2 : decode cX1_umbrellasIn 2 = .ok (.iconst 0, 1) := by decide +kernel
theorem dX1_umbrellasIn_3 : decode cX1_umbrellasIn 3 = .ok (.istore_n 3, 1) := by decide +kernel
theorem dX1_umbrellasIn_4 : decode cX1_umbrellasIn 4 = .ok (.iload_n 3, 1) := by decide +kernel
theorem dX1_umbrellasIn_5 : decode cX1_umbrellasIn 5 = .ok (.aload_n 0, 1) := by decide +kernel
theorem dX1_umbrellasIn_6 : decode cX1_umbrellasIn 6 = .ok (.getfield 49, 3) := by decide +kernel
theorem dX1_umbrellasIn_9 : decode cX1_umbrellasIn 9 = .ok (.if_icmp .ge 25, 3) := by decide +kernel
theorem dX1_umbrellasIn_12 : decode cX1_umbrellasIn 12 = .ok (.aload_n 0, 1) := by decide +kernel
theorem dX1_umbrellasIn_13 : decode cX1_umbrellasIn 13 = .ok (.getfield 23, 3) := by decide +kernel
theorem dX1_umbrellasIn_16 : decode cX1_umbrellasIn 16 = .ok (.iload_n 3, 1) := by decide +kernel
theorem dX1_umbrellasIn_17 : decode cX1_umbrellasIn 17 = .ok (.aaload, 1) := by decide +kernel
theorem dX1_umbrellasIn_18 : decode cX1_umbrellasIn 18 = .ok (.iload_n 1, 1) := by decide +kernel
theorem dX1_umbrellasIn_19 : decode cX1_umbrellasIn 19 = .ok (.invokevirtual 213, 3) := by decide +kernel
theorem dX1_umbrellasIn_22 : decode cX1_umbrellasIn 22 = .ok (.ifCond .eq 6, 3) := by decide +kernel
theorem dX1_umbrellasIn_25 : decode cX1_umbrellasIn 25 = .ok (.iinc 2 1, 3) := by decide +kernel
theorem dX1_umbrellasIn_28 : decode cX1_umbrellasIn 28 = .ok (.iinc 3 1, 3) := by decide +kernel
theorem dX1_umbrellasIn_31 : decode cX1_umbrellasIn 31 = .ok (.goto (-27), 3) := by decide +kernel
theorem dX1_umbrellasIn_34 : decode cX1_umbrellasIn 34 = .ok (.iload_n 2, 1) := by decide +kernel
theorem dX1_umbrellasIn_35 : decode cX1_umbrellasIn 35 = .ok (.ireturn, 1) := by decide +kernel
theorem dX1_citizensIn_0 : decode cX1_citizensIn 0 = .ok (.iconst 0, 1) := by decide +kernel
theorem dX1_citizensIn_1 : decode cX1_citizensIn 1 = .ok (.istore_n 2, 1) := by decide +kernel
theorem dX1_citizensIn_2 : decode cX1_citizensIn 2 = .ok (.iconst 0, 1) := by decide +kernel
theorem dX1_citizensIn_3 : decode cX1_citizensIn 3 = .ok (.istore_n 3, 1) := by decide +kernel
theorem dX1_citizensIn_4 : decode cX1_citizensIn 4 = .ok (.iload_n 3, 1) := by decide +kernel
theorem dX1_citizensIn_5 : decode cX1_citizensIn 5 = .ok (.aload_n 0, 1) := by decide +kernel
theorem dX1_citizensIn_6 : decode cX1_citizensIn 6 = .ok (.getfield 52, 3) := by decide +kernel
theorem dX1_citizensIn_9 : decode cX1_citizensIn 9 = .ok (.if_icmp .ge 25, 3) := by decide +kernel
theorem dX1_citizensIn_12 : decode cX1_citizensIn 12 = .ok (.aload_n 0, 1) := by decide +kernel
theorem dX1_citizensIn_13 : decode cX1_citizensIn 13 = .ok (.getfield 29, 3) := by decide +kernel
theorem dX1_citizensIn_16 : decode cX1_citizensIn 16 = .ok (.iload_n 3, 1) := by decide +kernel
theorem dX1_citizensIn_17 : decode cX1_citizensIn 17 = .ok (.aaload, 1) := by decide +kernel
theorem dX1_citizensIn_18 : decode cX1_citizensIn 18 = .ok (.getfield 139, 3) := by decide +kernel
theorem dX1_citizensIn_21 : decode cX1_citizensIn 21 = .ok (.iload_n 1, 1) := by decide +kernel
theorem dX1_citizensIn_22 : decode cX1_citizensIn 22 = .ok (.if_icmp .ne 6, 3) := by decide +kernel
theorem dX1_citizensIn_25 : decode cX1_citizensIn 25 = .ok (.iinc 2 1, 3) := by decide +kernel
theorem dX1_citizensIn_28 : decode cX1_citizensIn 28 = .ok (.iinc 3 1, 3) := by decide +kernel
theorem dX1_citizensIn_31 : decode cX1_citizensIn 31 = .ok (.goto (-27), 3) := by decide +kernel
theorem dX1_citizensIn_34 : decode cX1_citizensIn 34 = .ok (.iload_n 2, 1) := by decide +kernel
theorem dX1_citizensIn_35 : decode cX1_citizensIn 35 = .ok (.ireturn, 1) := by decide +kernel
theorem dX1_umbrellasThatAre_0 : decode cX1_umbrellasThatAre 0 = .ok (.iconst 0, 1) := by decide +kernel
theorem dX1_umbrellasThatAre_1 : decode cX1_umbrellasThatAre 1 = .ok (.istore_n 2, 1) := by decide +kernel
theorem dX1_umbrellasThatAre_2 : decode cX1_umbrellasThatAre 2 = .ok (.iconst 0, 1) := by decide +kernel
theorem dX1_umbrellasThatAre_3 : decode cX1_umbrellasThatAre 3 = .ok (.istore_n 3, 1) := by decide +kernel
theorem dX1_umbrellasThatAre_4 : decode cX1_umbrellasThatAre 4 = .ok (.iload_n 3, 1) := by decide +kernel
theorem dX1_umbrellasThatAre_5 : decode cX1_umbrellasThatAre 5 = .ok (.aload_n 0, 1) := by decide +kernel
theorem dX1_umbrellasThatAre_6 : decode cX1_umbrellasThatAre 6 = .ok (.getfield 49, 3) := by decide +kernel
theorem dX1_umbrellasThatAre_9 : decode cX1_umbrellasThatAre 9 = .ok (.if_icmp .ge 25, 3) := by decide +kernel
theorem dX1_umbrellasThatAre_12 : decode cX1_umbrellasThatAre 12 = .ok (.aload_n 0, 1) := by decide +kernel
theorem dX1_umbrellasThatAre_13 : decode cX1_umbrellasThatAre 13 = .ok (.getfield 23, 3) := by decide +kernel
theorem dX1_umbrellasThatAre_16 : decode cX1_umbrellasThatAre 16 = .ok (.iload_n 3, 1) := by decide +kernel
theorem dX1_umbrellasThatAre_17 : decode cX1_umbrellasThatAre 17 = .ok (.aaload, 1) := by decide +kernel
theorem dX1_umbrellasThatAre_18 : decode cX1_umbrellasThatAre 18 = .ok (.getfield 216, 3) := by decide +kernel
theorem dX1_umbrellasThatAre_21 : decode cX1_umbrellasThatAre 21 = .ok (.iload_n 1, 1) := by decide +kernel
theorem dX1_umbrellasThatAre_22 : decode cX1_umbrellasThatAre 22 = .ok (.if_icmp .ne 6, 3) := by decide +kernel
theorem dX1_umbrellasThatAre_25 : decode cX1_umbrellasThatAre 25 = .ok (.iinc 2 1, 3) := by decide +kernel
theorem dX1_umbrellasThatAre_28 : decode cX1_umbrellasThatAre 28 = .ok (.iinc 3 1, 3) := by decide +kernel
theorem dX1_umbrellasThatAre_31 : decode cX1_umbrellasThatAre 31 = .ok (.goto (-27), 3) := by decide +kernel
theorem dX1_umbrellasThatAre_34 : decode cX1_umbrellasThatAre 34 = .ok (.iload_n 2, 1) := by decide +kernel
theorem dX1_umbrellasThatAre_35 : decode cX1_umbrellasThatAre 35 = .ok (.ireturn, 1) := by decide +kernel
theorem dX1_wetOfAll_0 : decode cX1_wetOfAll 0 = .ok (.iconst 0, 1) := by decide +kernel
theorem dX1_wetOfAll_1 : decode cX1_wetOfAll 1 = .ok (.istore_n 1, 1) := by decide +kernel
theorem dX1_wetOfAll_2 : decode cX1_wetOfAll 2 = .ok (.iconst 0, 1) := by decide +kernel
theorem dX1_wetOfAll_3 : decode cX1_wetOfAll 3 = .ok (.istore_n 2, 1) := by decide +kernel
theorem dX1_wetOfAll_4 : decode cX1_wetOfAll 4 = .ok (.iload_n 2, 1) := by decide +kernel
theorem dX1_wetOfAll_5 : decode cX1_wetOfAll 5 = .ok (.aload_n 0, 1) := by decide +kernel
theorem dX1_wetOfAll_6 : decode cX1_wetOfAll 6 = .ok (.getfield 52, 3) := by decide +kernel
theorem dX1_wetOfAll_9 : decode cX1_wetOfAll 9 = .ok (.if_icmp .ge 21, 3) := by decide +kernel
theorem dX1_wetOfAll_12 : decode cX1_wetOfAll 12 = .ok (.iload_n 1, 1) := by decide +kernel
theorem dX1_wetOfAll_13 : decode cX1_wetOfAll 13 = .ok (.aload_n 0, 1) := by decide +kernel
theorem dX1_wetOfAll_14 : decode cX1_wetOfAll 14 = .ok (.getfield 29, 3) := by decide +kernel
theorem dX1_wetOfAll_17 : decode cX1_wetOfAll 17 = .ok (.iload_n 2, 1) := by decide +kernel
theorem dX1_wetOfAll_18 : decode cX1_wetOfAll 18 = .ok (.aaload, 1) := by decide +kernel
theorem dX1_wetOfAll_19 : decode cX1_wetOfAll 19 = .ok (.getfield 180, 3) := by decide +kernel
theorem dX1_wetOfAll_22 : decode cX1_wetOfAll 22 = .ok (.iadd, 1) := by decide +kernel
theorem dX1_wetOfAll_23 : decode cX1_wetOfAll 23 = .ok (.istore_n 1, 1) := by decide +kernel
theorem dX1_wetOfAll_24 : decode cX1_wetOfAll 24 = .ok (.iinc 2 1, 3) := by decide +kernel
theorem dX1_wetOfAll_27 : decode cX1_wetOfAll 27 = .ok (.goto (-23), 3) := by decide +kernel
theorem dX1_wetOfAll_30 : decode cX1_wetOfAll 30 = .ok (.iload_n 1, 1) := by decide +kernel
theorem dX1_wetOfAll_31 : decode cX1_wetOfAll 31 = .ok (.ireturn, 1) := by decide +kernel
theorem dX1_trustOfAll_0 : decode cX1_trustOfAll 0 = .ok (.iconst 0, 1) := by decide +kernel
theorem dX1_trustOfAll_1 : decode cX1_trustOfAll 1 = .ok (.istore_n 1, 1) := by decide +kernel
theorem dX1_trustOfAll_2 : decode cX1_trustOfAll 2 = .ok (.iconst 0, 1) := by decide +kernel
theorem dX1_trustOfAll_3 : decode cX1_trustOfAll 3 = .ok (.istore_n 2, 1) := by decide +kernel
theorem dX1_trustOfAll_4 : decode cX1_trustOfAll 4 = .ok (.iload_n 2, 1) := by decide +kernel
theorem dX1_trustOfAll_5 : decode cX1_trustOfAll 5 = .ok (.aload_n 0, 1) := by decide +kernel
theorem dX1_trustOfAll_6 : decode cX1_trustOfAll 6 = .ok (.getfield 52, 3) := by decide +kernel
theorem dX1_trustOfAll_9 : decode cX1_trustOfAll 9 = .ok (.if_icmp .ge 21, 3) := by decide +kernel
theorem dX1_trustOfAll_12 : decode cX1_trustOfAll 12 = .ok (.iload_n 1, 1) := by decide +kernel
theorem dX1_trustOfAll_13 : decode cX1_trustOfAll 13 = .ok (.aload_n 0, 1) := by decide +kernel
theorem dX1_trustOfAll_14 : decode cX1_trustOfAll 14 = .ok (.getfield 29, 3) := by decide +kernel
theorem dX1_trustOfAll_17 : decode cX1_trustOfAll 17 = .ok (.iload_n 2, 1) := by decide +kernel
theorem dX1_trustOfAll_18 : decode cX1_trustOfAll 18 = .ok (.aaload, 1) := by decide +kernel
theorem dX1_trustOfAll_19 : decode cX1_trustOfAll 19 = .ok (.getfield 145, 3) := by decide +kernel
theorem dX1_trustOfAll_22 : decode cX1_trustOfAll 22 = .ok (.iadd, 1) := by decide +kernel
theorem dX1_trustOfAll_23 : decode cX1_trustOfAll 23 = .ok (.istore_n 1, 1) := by decide +kernel
theorem dX1_trustOfAll_24 : decode cX1_trustOfAll 24 = .ok (.iinc 2 1, 3) := by decide +kernel
theorem dX1_trustOfAll_27 : decode cX1_trustOfAll 27 = .ok (.goto (-23), 3) := by decide +kernel
theorem dX1_trustOfAll_30 : decode cX1_trustOfAll 30 = .ok (.iload_n 1, 1) := by decide +kernel
theorem dX1_trustOfAll_31 : decode cX1_trustOfAll 31 = .ok (.ireturn, 1) := by decide +kernel
set_option maxRecDepth 20000 in
theorem ggX1_tellShelter_X1_isShelter : GoodIn wsX1_tellShelter wsX1_isShelter := goodIn_r _ [11, 12, 38, 39, 40, 41, 42, 43, 44, 45, 46] (by decide +kernel) (by decide +kernel)
set_option maxRecDepth 20000 in
theorem gX1_tellShelter_X1_isShelter : GoodIn wsX1_tellShelter (wsV RX1 96 RX1 yX1_isShelter wsX1_isShelter) := goodIn_app (goodIn_of _ (by decide +kernel)) ggX1_tellShelter_X1_isShelter
set_option maxRecDepth 20000 in
theorem ggX1_tellShelter_X1_umbrellasIn : GoodIn wsX1_tellShelter wsX1_umbrellasIn := goodIn_r _ [16, 17, 18, 19, 20, 21, 22, 23, 24, 25, 38, 39, 40, 41, 42, 43, 44, 45, 46, 54, 55, 56, 57, 58, 59] (by decide +kernel) (by decide +kernel)
set_option maxRecDepth 20000 in
theorem gX1_tellShelter_X1_umbrellasIn : GoodIn wsX1_tellShelter (wsV RX1 209 RX1 yX1_umbrellasIn wsX1_umbrellasIn) := goodIn_app (goodIn_of _ (by decide +kernel)) ggX1_tellShelter_X1_umbrellasIn
set_option maxRecDepth 20000 in
theorem ggX1_tellShelter_X1_citizensIn : GoodIn wsX1_tellShelter wsX1_citizensIn := goodIn_r _ [29, 30, 31, 32, 38, 39, 40, 41, 42, 43, 44, 45, 46, 60, 61, 62, 63, 64, 65, 66, 67, 68, 69, 70, 71, 72, 73, 74] (by decide +kernel) (by decide +kernel)
set_option maxRecDepth 20000 in
theorem gX1_tellShelter_X1_citizensIn : GoodIn wsX1_tellShelter (wsV RX1 219 RX1 yX1_citizensIn wsX1_citizensIn) := goodIn_app (goodIn_of _ (by decide +kernel)) ggX1_tellShelter_X1_citizensIn
set_option maxRecDepth 20000 in
theorem ggX1_tellShelter_X1_firstUmbrellaIn : GoodIn wsX1_tellShelter wsX1_firstUmbrellaIn := goodIn_r _ [36, 17, 18, 37, 19, 20, 21, 22, 23, 24, 25, 38, 39, 40, 41, 42, 43, 44, 45, 46, 54, 55, 56, 57, 58, 59] (by decide +kernel) (by decide +kernel)
set_option maxRecDepth 20000 in
theorem gX1_tellShelter_X1_firstUmbrellaIn : GoodIn wsX1_tellShelter (wsV RX1 142 RX1 yX1_firstUmbrellaIn wsX1_firstUmbrellaIn) := goodIn_app (goodIn_of _ (by decide +kernel)) ggX1_tellShelter_X1_firstUmbrellaIn
theorem dX1_tellShelter_0 : decode cX1_tellShelter 0 = .ok (.aload_n 0, 1) := by decide +kernel
theorem dX1_tellShelter_1 : decode cX1_tellShelter 1 = .ok (.iload_n 1, 1) := by decide +kernel
theorem dX1_tellShelter_2 : decode cX1_tellShelter 2 = .ok (.invokevirtual 96, 3) := by decide +kernel
theorem dX1_tellShelter_5 : decode cX1_tellShelter 5 = .ok (.ifCond .ne 5, 3) := by decide +kernel
theorem dX1_tellShelter_8 : decode cX1_tellShelter 8 = .ok (.iconst (-1), 1) := by decide +kernel
theorem dX1_tellShelter_9 : decode cX1_tellShelter 9 = .ok (.ireturn, 1) := by decide +kernel
theorem dX1_tellShelter_10 : decode cX1_tellShelter 10 = .ok (.aload_n 0, 1) := by decide +kernel
theorem dX1_tellShelter_11 : decode cX1_tellShelter 11 = .ok (.getfield 17, 3) := by decide +kernel
theorem dX1_tellShelter_14 : decode cX1_tellShelter 14 = .ok (.iload_n 1, 1) := by decide +kernel
theorem dX1_tellShelter_15 : decode cX1_tellShelter 15 = .ok (.aaload, 1) := by decide +kernel
theorem dX1_tellShelter_16 : decode cX1_tellShelter 16 = .ok (.astore_n 3, 1) := by decide +kernel
theorem dX1_tellShelter_17 : decode cX1_tellShelter 17 = .ok (.iload_n 2, 1) := by decide +kernel
theorem dX1_tellShelter_18 : decode cX1_tellShelter 18 = .ok (.tableswitch 79 0 6 #[42, 47, 52, 58, 64, 69, 74], 42) := by decide +kernel
theorem dX1_tellShelter_60 : decode cX1_tellShelter 60 = .ok (.aload_n 3, 1) := by decide +kernel
theorem dX1_tellShelter_61 : decode cX1_tellShelter 61 = .ok (.getfield 68, 3) := by decide +kernel
theorem dX1_tellShelter_64 : decode cX1_tellShelter 64 = .ok (.ireturn, 1) := by decide +kernel
theorem dX1_tellShelter_65 : decode cX1_tellShelter 65 = .ok (.aload_n 3, 1) := by decide +kernel
theorem dX1_tellShelter_66 : decode cX1_tellShelter 66 = .ok (.getfield 148, 3) := by decide +kernel
theorem dX1_tellShelter_69 : decode cX1_tellShelter 69 = .ok (.ireturn, 1) := by decide +kernel
theorem dX1_tellShelter_70 : decode cX1_tellShelter 70 = .ok (.aload_n 0, 1) := by decide +kernel
theorem dX1_tellShelter_71 : decode cX1_tellShelter 71 = .ok (.iload_n 1, 1) := by decide +kernel
theorem dX1_tellShelter_72 : decode cX1_tellShelter 72 = .ok (.invokevirtual 209, 3) := by decide +kernel
theorem dX1_tellShelter_75 : decode cX1_tellShelter 75 = .ok (.ireturn, 1) := by decide +kernel
theorem dX1_tellShelter_76 : decode cX1_tellShelter 76 = .ok (.aload_n 0, 1) := by decide +kernel
theorem dX1_tellShelter_77 : decode cX1_tellShelter 77 = .ok (.iload_n 1, 1) := by decide +kernel
theorem dX1_tellShelter_78 : decode cX1_tellShelter 78 = .ok (.invokevirtual 219, 3) := by decide +kernel
theorem dX1_tellShelter_81 : decode cX1_tellShelter 81 = .ok (.ireturn, 1) := by decide +kernel
theorem dX1_tellShelter_82 : decode cX1_tellShelter 82 = .ok (.aload_n 3, 1) := by decide +kernel
theorem dX1_tellShelter_83 : decode cX1_tellShelter 83 = .ok (.getfield 169, 3) := by decide +kernel
theorem dX1_tellShelter_86 : decode cX1_tellShelter 86 = .ok (.ireturn, 1) := by decide +kernel
theorem dX1_tellShelter_87 : decode cX1_tellShelter 87 = .ok (.aload_n 3, 1) := by decide +kernel
theorem dX1_tellShelter_88 : decode cX1_tellShelter 88 = .ok (.getfield 222, 3) := by decide +kernel
theorem dX1_tellShelter_91 : decode cX1_tellShelter 91 = .ok (.ireturn, 1) := by decide +kernel
theorem dX1_tellShelter_92 : decode cX1_tellShelter 92 = .ok (.aload_n 3, 1) := by decide +kernel
theorem dX1_tellShelter_93 : decode cX1_tellShelter 93 = .ok (.getfield 225, 3) := by decide +kernel
theorem dX1_tellShelter_96 : decode cX1_tellShelter 96 = .ok (.ireturn, 1) := by decide +kernel
theorem dX1_tellShelter_97 : decode cX1_tellShelter 97 = .ok (.aload_n 0, 1) := by decide +kernel
theorem dX1_tellShelter_98 : decode cX1_tellShelter 98 = .ok (.iload_n 1, 1) := by decide +kernel
theorem dX1_tellShelter_99 : decode cX1_tellShelter 99 = .ok (.invokevirtual 142, 3) := by decide +kernel
theorem dX1_tellShelter_102 : decode cX1_tellShelter 102 = .ok (.ireturn, 1) := by decide +kernel
set_option maxRecDepth 20000 in
theorem ggX1_tellAll_X1_umbrellasThatAre : GoodIn wsX1_tellAll wsX1_umbrellasThatAre := goodIn_r _ [10, 3, 11, 12, 24, 25, 26, 27, 28, 29, 30, 31, 32, 33, 34, 35, 36, 37, 38] (by decide +kernel) (by decide +kernel)
set_option maxRecDepth 20000 in
theorem gX1_tellAll_X1_umbrellasThatAre : GoodIn wsX1_tellAll (wsV RX1 226 RX1 yX1_umbrellasThatAre wsX1_umbrellasThatAre) := goodIn_app (goodIn_of _ (by decide +kernel)) ggX1_tellAll_X1_umbrellasThatAre
set_option maxRecDepth 20000 in
theorem ggX1_tellAll_X1_citizensIn : GoodIn wsX1_tellAll wsX1_citizensIn := goodIn_r _ [16, 4, 17, 18, 24, 25, 26, 27, 28, 29, 30, 31, 32, 39, 40, 41, 42, 43, 44, 45, 46, 47, 48, 49, 50, 51, 52, 53] (by decide +kernel) (by decide +kernel)
set_option maxRecDepth 20000 in
theorem gX1_tellAll_X1_citizensIn : GoodIn wsX1_tellAll (wsV RX1 219 RX1 yX1_citizensIn wsX1_citizensIn) := goodIn_app (goodIn_of _ (by decide +kernel)) ggX1_tellAll_X1_citizensIn
set_option maxRecDepth 20000 in
theorem ggX1_tellAll_X1_wetOfAll : GoodIn wsX1_tellAll wsX1_wetOfAll := goodIn_r _ [22, 4, 17, 23, 24, 25, 26, 27, 28, 29, 30, 31, 32, 39, 40, 41, 42, 43, 44, 45, 46, 47, 48, 49, 50, 51, 52, 53] (by decide +kernel) (by decide +kernel)
set_option maxRecDepth 20000 in
theorem gX1_tellAll_X1_wetOfAll : GoodIn wsX1_tellAll (wsV RX1 229 RX1 yX1_wetOfAll wsX1_wetOfAll) := goodIn_app (goodIn_of _ (by decide +kernel)) ggX1_tellAll_X1_wetOfAll
theorem dX1_tellAll_0 : decode cX1_tellAll 0 = .ok (.iload_n 1, 1) := by decide +kernel
theorem dX1_tellAll_1 : decode cX1_tellAll 1 = .ok (.tableswitch 110 0 9 #[55, 60, 65, 70, 75, 81, 87, 93, 99, 105], 55) := by decide +kernel
theorem dX1_tellAll_56 : decode cX1_tellAll 56 = .ok (.aload_n 0, 1) := by decide +kernel
theorem dX1_tellAll_57 : decode cX1_tellAll 57 = .ok (.getfield 42, 3) := by decide +kernel
theorem dX1_tellAll_60 : decode cX1_tellAll 60 = .ok (.ireturn, 1) := by decide +kernel
theorem dX1_tellAll_61 : decode cX1_tellAll 61 = .ok (.aload_n 0, 1) := by decide +kernel
theorem dX1_tellAll_62 : decode cX1_tellAll 62 = .ok (.getfield 46, 3) := by decide +kernel
theorem dX1_tellAll_65 : decode cX1_tellAll 65 = .ok (.ireturn, 1) := by decide +kernel
theorem dX1_tellAll_66 : decode cX1_tellAll 66 = .ok (.aload_n 0, 1) := by decide +kernel
theorem dX1_tellAll_67 : decode cX1_tellAll 67 = .ok (.getfield 49, 3) := by decide +kernel
theorem dX1_tellAll_70 : decode cX1_tellAll 70 = .ok (.ireturn, 1) := by decide +kernel
theorem dX1_tellAll_71 : decode cX1_tellAll 71 = .ok (.aload_n 0, 1) := by decide +kernel
theorem dX1_tellAll_72 : decode cX1_tellAll 72 = .ok (.getfield 52, 3) := by decide +kernel
theorem dX1_tellAll_75 : decode cX1_tellAll 75 = .ok (.ireturn, 1) := by decide +kernel
theorem dX1_tellAll_76 : decode cX1_tellAll 76 = .ok (.aload_n 0, 1) := by decide +kernel
theorem dX1_tellAll_77 : decode cX1_tellAll 77 = .ok (.iconst 0, 1) := by decide +kernel
theorem dX1_tellAll_78 : decode cX1_tellAll 78 = .ok (.invokevirtual 226, 3) := by decide +kernel
theorem dX1_tellAll_81 : decode cX1_tellAll 81 = .ok (.ireturn, 1) := by decide +kernel
theorem dX1_tellAll_82 : decode cX1_tellAll 82 = .ok (.aload_n 0, 1) := by decide +kernel
theorem dX1_tellAll_83 : decode cX1_tellAll 83 = .ok (.iconst 1, 1) := by decide +kernel
theorem dX1_tellAll_84 : decode cX1_tellAll 84 = .ok (.invokevirtual 226, 3) := by decide +kernel
theorem dX1_tellAll_87 : decode cX1_tellAll 87 = .ok (.ireturn, 1) := by decide +kernel
theorem dX1_tellAll_88 : decode cX1_tellAll 88 = .ok (.aload_n 0, 1) := by decide +kernel
theorem dX1_tellAll_89 : decode cX1_tellAll 89 = .ok (.iconst 2, 1) := by decide +kernel
theorem dX1_tellAll_90 : decode cX1_tellAll 90 = .ok (.invokevirtual 226, 3) := by decide +kernel
theorem dX1_tellAll_93 : decode cX1_tellAll 93 = .ok (.ireturn, 1) := by decide +kernel
theorem dX1_tellAll_94 : decode cX1_tellAll 94 = .ok (.aload_n 0, 1) := by decide +kernel
theorem dX1_tellAll_95 : decode cX1_tellAll 95 = .ok (.iconst 3, 1) := by decide +kernel
theorem dX1_tellAll_96 : decode cX1_tellAll 96 = .ok (.invokevirtual 226, 3) := by decide +kernel
theorem dX1_tellAll_99 : decode cX1_tellAll 99 = .ok (.ireturn, 1) := by decide +kernel
theorem dX1_tellAll_100 : decode cX1_tellAll 100 = .ok (.aload_n 0, 1) := by decide +kernel
theorem dX1_tellAll_101 : decode cX1_tellAll 101 = .ok (.iconst (-1), 1) := by decide +kernel
theorem dX1_tellAll_102 : decode cX1_tellAll 102 = .ok (.invokevirtual 219, 3) := by decide +kernel
theorem dX1_tellAll_105 : decode cX1_tellAll 105 = .ok (.ireturn, 1) := by decide +kernel
theorem dX1_tellAll_106 : decode cX1_tellAll 106 = .ok (.aload_n 0, 1) := by decide +kernel
theorem dX1_tellAll_107 : decode cX1_tellAll 107 = .ok (.invokevirtual 229, 3) := by decide +kernel
theorem dX1_tellAll_110 : decode cX1_tellAll 110 = .ok (.ireturn, 1) := by decide +kernel
theorem dX1_tellAll_111 : decode cX1_tellAll 111 = .ok (.aload_n 0, 1) := by decide +kernel
theorem dX1_tellAll_112 : decode cX1_tellAll 112 = .ok (.getfield 55, 3) := by decide +kernel
theorem dX1_tellAll_115 : decode cX1_tellAll 115 = .ok (.ireturn, 1) := by decide +kernel
theorem dX2_init_0 : decode cX2_init 0 = .ok (.aload_n 0, 1) := by decide +kernel
theorem dX2_init_1 : decode cX2_init 1 = .ok (.invokespecial 3, 3) := by decide +kernel
theorem dX2_init_4 : decode cX2_init 4 = .ok (.return_, 1) := by decide +kernel
theorem dX2_open_0 : decode cX2_open 0 = .ok (.aload_n 0, 1) := by decide +kernel
theorem dX2_open_1 : decode cX2_open 1 = .ok (.iload_n 1, 1) := by decide +kernel
theorem dX2_open_2 : decode cX2_open 2 = .ok (.putfield 9, 3) := by decide +kernel
theorem dX2_open_5 : decode cX2_open 5 = .ok (.aload_n 0, 1) := by decide +kernel
theorem dX2_open_6 : decode cX2_open 6 = .ok (.iload_n 2, 1) := by decide +kernel
theorem dX2_open_7 : decode cX2_open 7 = .ok (.putfield 15, 3) := by decide +kernel
theorem dX2_open_10 : decode cX2_open 10 = .ok (.return_, 1) := by decide +kernel
theorem dX2_becomeLike_0 : decode cX2_becomeLike 0 = .ok (.aload_n 0, 1) := by decide +kernel
theorem dX2_becomeLike_1 : decode cX2_becomeLike 1 = .ok (.aload_n 1, 1) := by decide +kernel
theorem dX2_becomeLike_2 : decode cX2_becomeLike 2 = .ok (.getfield 9, 3) := by decide +kernel
theorem dX2_becomeLike_5 : decode cX2_becomeLike 5 = .ok (.putfield 9, 3) := by decide +kernel
theorem dX2_becomeLike_8 : decode cX2_becomeLike 8 = .ok (.aload_n 0, 1) := by decide +kernel
theorem dX2_becomeLike_9 : decode cX2_becomeLike 9 = .ok (.aload_n 1, 1) := by decide +kernel
theorem dX2_becomeLike_10 : decode cX2_becomeLike 10 = .ok (.getfield 15, 3) := by decide +kernel
theorem dX2_becomeLike_13 : decode cX2_becomeLike 13 = .ok (.putfield 15, 3) := by decide +kernel
theorem dX2_becomeLike_16 : decode cX2_becomeLike 16 = .ok (.aload_n 0, 1) := by decide +kernel
theorem dX2_becomeLike_17 : decode cX2_becomeLike 17 = .ok (.aload_n 1, 1) := by decide +kernel
theorem dX2_becomeLike_18 : decode cX2_becomeLike 18 = .ok (.getfield 18, 3) := by decide +kernel
theorem dX2_becomeLike_21 : decode cX2_becomeLike 21 = .ok (.putfield 18, 3) := by decide +kernel
theorem dX2_becomeLike_24 : decode cX2_becomeLike 24 = .ok (.aload_n 0, 1) := by decide +kernel
theorem dX2_becomeLike_25 : decode cX2_becomeLike 25 = .ok (.aload_n 1, 1) := by decide +kernel
theorem dX2_becomeLike_26 : decode cX2_becomeLike 26 = .ok (.getfield 21, 3) := by decide +kernel
theorem dX2_becomeLike_29 : decode cX2_becomeLike 29 = .ok (.putfield 21, 3) := by decide +kernel
theorem dX2_becomeLike_32 : decode cX2_becomeLike 32 = .ok (.aload_n 0, 1) := by decide +kernel
theorem dX2_becomeLike_33 : decode cX2_becomeLike 33 = .ok (.aload_n 1, 1) := by decide +kernel
theorem dX2_becomeLike_34 : decode cX2_becomeLike 34 = .ok (.getfield 24, 3) := by decide +kernel
theorem dX2_becomeLike_37 : decode cX2_becomeLike 37 = .ok (.putfield 24, 3) := by decide +kernel
theorem dX2_becomeLike_40 : decode cX2_becomeLike 40 = .ok (.aload_n 0, 1) := by decide +kernel
theorem dX2_becomeLike_41 : decode cX2_becomeLike 41 = .ok (.aload_n 1, 1) := by decide +kernel
theorem dX2_becomeLike_42 : decode cX2_becomeLike 42 = .ok (.getfield 27, 3) := by decide +kernel
theorem dX2_becomeLike_45 : decode cX2_becomeLike 45 = .ok (.putfield 27, 3) := by decide +kernel
theorem dX2_becomeLike_48 : decode cX2_becomeLike 48 = .ok (.aload_n 0, 1) := by decide +kernel
theorem dX2_becomeLike_49 : decode cX2_becomeLike 49 = .ok (.aload_n 1, 1) := by decide +kernel
theorem dX2_becomeLike_50 : decode cX2_becomeLike 50 = .ok (.getfield 30, 3) := by decide +kernel
theorem dX2_becomeLike_53 : decode cX2_becomeLike 53 = .ok (.putfield 30, 3) := by decide +kernel
theorem dX2_becomeLike_56 : decode cX2_becomeLike 56 = .ok (.return_, 1) := by decide +kernel
theorem dX2_noteRefusal_0 : decode cX2_noteRefusal 0 = .ok (.aload_n 0, 1) := by decide +kernel
theorem dX2_noteRefusal_1 : decode cX2_noteRefusal 1 = .ok (.dup, 1) := by decide +kernel
theorem dX2_noteRefusal_2 : decode cX2_noteRefusal 2 = .ok (.getfield 24, 3) := by decide +kernel
theorem dX2_noteRefusal_5 : decode cX2_noteRefusal 5 = .ok (.iconst 1, 1) := by decide +kernel
theorem dX2_noteRefusal_6 : decode cX2_noteRefusal 6 = .ok (.iadd, 1) := by decide +kernel
theorem dX2_noteRefusal_7 : decode cX2_noteRefusal 7 = .ok (.putfield 24, 3) := by decide +kernel
theorem dX2_noteRefusal_10 : decode cX2_noteRefusal 10 = .ok (.aload_n 0, 1) := by decide +kernel
theorem dX2_noteRefusal_11 : decode cX2_noteRefusal 11 = .ok (.dup, 1) := by decide +kernel
theorem dX2_noteRefusal_12 : decode cX2_noteRefusal 12 = .ok (.getfield 30, 3) := by decide +kernel
theorem dX2_noteRefusal_15 : decode cX2_noteRefusal 15 = .ok (.iconst 1, 1) := by decide +kernel
theorem dX2_noteRefusal_16 : decode cX2_noteRefusal 16 = .ok (.iadd, 1) := by decide +kernel
theorem dX2_noteRefusal_17 : decode cX2_noteRefusal 17 = .ok (.putfield 30, 3) := by decide +kernel
theorem dX2_noteRefusal_20 : decode cX2_noteRefusal 20 = .ok (.return_, 1) := by decide +kernel
theorem dX2_noteForgotten_0 : decode cX2_noteForgotten 0 = .ok (.aload_n 0, 1) := by decide +kernel
theorem dX2_noteForgotten_1 : decode cX2_noteForgotten 1 = .ok (.dup, 1) := by decide +kernel
theorem dX2_noteForgotten_2 : decode cX2_noteForgotten 2 = .ok (.getfield 21, 3) := by decide +kernel
theorem dX2_noteForgotten_5 : decode cX2_noteForgotten 5 = .ok (.iconst 1, 1) := by decide +kernel
theorem dX2_noteForgotten_6 : decode cX2_noteForgotten 6 = .ok (.iadd, 1) := by decide +kernel
theorem dX2_noteForgotten_7 : decode cX2_noteForgotten 7 = .ok (.putfield 21, 3) := by decide +kernel
theorem dX2_noteForgotten_10 : decode cX2_noteForgotten 10 = .ok (.aload_n 0, 1) := by decide +kernel
theorem dX2_noteForgotten_11 : decode cX2_noteForgotten 11 = .ok (.dup, 1) := by decide +kernel
theorem dX2_noteForgotten_12 : decode cX2_noteForgotten 12 = .ok (.getfield 27, 3) := by decide +kernel
theorem dX2_noteForgotten_15 : decode cX2_noteForgotten 15 = .ok (.iconst 1, 1) := by decide +kernel
theorem dX2_noteForgotten_16 : decode cX2_noteForgotten 16 = .ok (.iadd, 1) := by decide +kernel
theorem dX2_noteForgotten_17 : decode cX2_noteForgotten 17 = .ok (.putfield 27, 3) := by decide +kernel
theorem dX2_noteForgotten_20 : decode cX2_noteForgotten 20 = .ok (.return_, 1) := by decide +kernel
theorem dX2_endDay_0 : decode cX2_endDay 0 = .ok (.aload_n 0, 1) := by decide +kernel
theorem dX2_endDay_1 : decode cX2_endDay 1 = .ok (.getfield 27, 3) := by decide +kernel
theorem dX2_endDay_4 : decode cX2_endDay 4 = .ok (.iconst 2, 1) := by decide +kernel
theorem dX2_endDay_5 : decode cX2_endDay 5 = .ok (.if_icmp .lt 21, 3) := by decide +kernel
theorem dX2_endDay_8 : decode cX2_endDay 8 = .ok (.aload_n 0, 1) := by decide +kernel
theorem dX2_endDay_9 : decode cX2_endDay 9 = .ok (.bipush 10, 2) := by decide +kernel
theorem dX2_endDay_11 : decode cX2_endDay 11 = .ok (.aload_n 0, 1) := by decide +kernel
theorem dX2_endDay_12 : decode cX2_endDay 12 = .ok (.getfield 15, 3) := by decide +kernel
theorem dX2_endDay_15 : decode cX2_endDay 15 = .ok (.iconst 1, 1) := by decide +kernel
theorem dX2_endDay_16 : decode cX2_endDay 16 = .ok (.iadd, 1) := by decide +kernel
theorem dX2_endDay_17 : decode cX2_endDay 17 = .ok (.invokestatic 33, 3) := by decide +kernel
theorem dX2_endDay_20 : decode cX2_endDay 20 = .ok (.putfield 15, 3) := by decide +kernel
theorem dX2_endDay_23 : decode cX2_endDay 23 = .ok (.goto 31, 3) := by decide +kernel
theorem dX2_endDay_26 : decode cX2_endDay 26 = .ok (.aload_n 0, 1) := by decide +kernel
theorem dX2_endDay_27 : decode cX2_endDay 27 = .ok (.getfield 27, 3) := by decide +kernel
theorem dX2_endDay_30 : decode cX2_endDay 30 = .ok (.ifCond .ne 24, 3) := by decide +kernel
theorem dX2_endDay_33 : decode cX2_endDay 33 = .ok (.aload_n 0, 1) := by decide +kernel
theorem dX2_endDay_34 : decode cX2_endDay 34 = .ok (.getfield 30, 3) := by decide +kernel
theorem dX2_endDay_37 : decode cX2_endDay 37 = .ok (.ifCond .le 17, 3) := by decide +kernel
theorem dX2_endDay_40 : decode cX2_endDay 40 = .ok (.aload_n 0, 1) := by decide +kernel
theorem dX2_endDay_41 : decode cX2_endDay 41 = .ok (.iconst 0, 1) := by decide +kernel
theorem dX2_endDay_42 : decode cX2_endDay 42 = .ok (.aload_n 0, 1) := by decide +kernel
theorem dX2_endDay_43 : decode cX2_endDay 43 = .ok (.getfield 15, 3) := by decide +kernel
theorem dX2_endDay_46 : decode cX2_endDay 46 = .ok (.iconst 1, 1) := by decide +kernel
theorem dX2_endDay_47 : decode cX2_endDay 47 = .ok (.isub, 1) := by decide +kernel
theorem dX2_endDay_48 : decode cX2_endDay 48 = .ok (.invokestatic 39, 3) := by decide +kernel
theorem dX2_endDay_51 : decode cX2_endDay 51 = .ok (.putfield 15, 3) := by decide +kernel
theorem dX2_endDay_54 : decode cX2_endDay 54 = .ok (.aload_n 0, 1) := by decide +kernel
theorem dX2_endDay_55 : decode cX2_endDay 55 = .ok (.iconst 0, 1) := by decide +kernel
theorem dX2_endDay_56 : decode cX2_endDay 56 = .ok (.putfield 27, 3) := by decide +kernel
theorem dX2_endDay_59 : decode cX2_endDay 59 = .ok (.aload_n 0, 1) := by decide +kernel
theorem dX2_endDay_60 : decode cX2_endDay 60 = .ok (.iconst 0, 1) := by decide +kernel
theorem dX2_endDay_61 : decode cX2_endDay 61 = .ok (.putfield 30, 3) := by decide +kernel
theorem dX2_endDay_64 : decode cX2_endDay 64 = .ok (.return_, 1) := by decide +kernel
theorem dX3_init_0 : decode cX3_init 0 = .ok (.aload_n 0, 1) := by decide +kernel
theorem dX3_init_1 : decode cX3_init 1 = .ok (.invokespecial 3, 3) := by decide +kernel
theorem dX3_init_4 : decode cX3_init 4 = .ok (.return_, 1) := by decide +kernel
set_option maxRecDepth 20000 in
theorem ggX3_beNewIn_X3_standIn : GoodIn wsX3_beNewIn wsX3_standIn := goodIn_r _ [8, 9, 10, 11, 12, 13, 14, 15, 16, 17] (by decide +kernel) (by decide +kernel)
set_option maxRecDepth 20000 in
theorem gX3_beNewIn_X3_standIn : GoodIn wsX3_beNewIn (wsV RX3 21 RX3 yX3_standIn wsX3_standIn) := goodIn_app (goodIn_of _ (by decide +kernel)) ggX3_beNewIn_X3_standIn
theorem dX3_beNewIn_0 : decode cX3_beNewIn 0 = .ok (.aload_n 0, 1) := by decide +kernel
theorem dX3_beNewIn_1 : decode cX3_beNewIn 1 = .ok (.iconst 0, 1) := by decide +kernel
theorem dX3_beNewIn_2 : decode cX3_beNewIn 2 = .ok (.putfield 9, 3) := by decide +kernel
theorem dX3_beNewIn_5 : decode cX3_beNewIn 5 = .ok (.aload_n 0, 1) := by decide +kernel
theorem dX3_beNewIn_6 : decode cX3_beNewIn 6 = .ok (.iconst 0, 1) := by decide +kernel
theorem dX3_beNewIn_7 : decode cX3_beNewIn 7 = .ok (.putfield 15, 3) := by decide +kernel
theorem dX3_beNewIn_10 : decode cX3_beNewIn 10 = .ok (.aload_n 0, 1) := by decide +kernel
theorem dX3_beNewIn_11 : decode cX3_beNewIn 11 = .ok (.iconst (-1), 1) := by decide +kernel
theorem dX3_beNewIn_12 : decode cX3_beNewIn 12 = .ok (.putfield 18, 3) := by decide +kernel
theorem dX3_beNewIn_15 : decode cX3_beNewIn 15 = .ok (.aload_n 0, 1) := by decide +kernel
theorem dX3_beNewIn_16 : decode cX3_beNewIn 16 = .ok (.iload_n 1, 1) := by decide +kernel
theorem dX3_beNewIn_17 : decode cX3_beNewIn 17 = .ok (.invokevirtual 21, 3) := by decide +kernel
theorem dX3_beNewIn_20 : decode cX3_beNewIn 20 = .ok (.return_, 1) := by decide +kernel
theorem dX3_becomeLike_0 : decode cX3_becomeLike 0 = .ok (.aload_n 0, 1) := by decide +kernel
theorem dX3_becomeLike_1 : decode cX3_becomeLike 1 = .ok (.aload_n 1, 1) := by decide +kernel
theorem dX3_becomeLike_2 : decode cX3_becomeLike 2 = .ok (.getfield 25, 3) := by decide +kernel
theorem dX3_becomeLike_5 : decode cX3_becomeLike 5 = .ok (.putfield 25, 3) := by decide +kernel
theorem dX3_becomeLike_8 : decode cX3_becomeLike 8 = .ok (.aload_n 0, 1) := by decide +kernel
theorem dX3_becomeLike_9 : decode cX3_becomeLike 9 = .ok (.aload_n 1, 1) := by decide +kernel
theorem dX3_becomeLike_10 : decode cX3_becomeLike 10 = .ok (.getfield 28, 3) := by decide +kernel
theorem dX3_becomeLike_13 : decode cX3_becomeLike 13 = .ok (.putfield 28, 3) := by decide +kernel
theorem dX3_becomeLike_16 : decode cX3_becomeLike 16 = .ok (.aload_n 0, 1) := by decide +kernel
theorem dX3_becomeLike_17 : decode cX3_becomeLike 17 = .ok (.aload_n 1, 1) := by decide +kernel
theorem dX3_becomeLike_18 : decode cX3_becomeLike 18 = .ok (.getfield 9, 3) := by decide +kernel
theorem dX3_becomeLike_21 : decode cX3_becomeLike 21 = .ok (.putfield 9, 3) := by decide +kernel
theorem dX3_becomeLike_24 : decode cX3_becomeLike 24 = .ok (.aload_n 0, 1) := by decide +kernel
theorem dX3_becomeLike_25 : decode cX3_becomeLike 25 = .ok (.aload_n 1, 1) := by decide +kernel
theorem dX3_becomeLike_26 : decode cX3_becomeLike 26 = .ok (.getfield 31, 3) := by decide +kernel
theorem dX3_becomeLike_29 : decode cX3_becomeLike 29 = .ok (.putfield 31, 3) := by decide +kernel
theorem dX3_becomeLike_32 : decode cX3_becomeLike 32 = .ok (.aload_n 0, 1) := by decide +kernel
theorem dX3_becomeLike_33 : decode cX3_becomeLike 33 = .ok (.aload_n 1, 1) := by decide +kernel
theorem dX3_becomeLike_34 : decode cX3_becomeLike 34 = .ok (.getfield 15, 3) := by decide +kernel
theorem dX3_becomeLike_37 : decode cX3_becomeLike 37 = .ok (.putfield 15, 3) := by decide +kernel
theorem dX3_becomeLike_40 : decode cX3_becomeLike 40 = .ok (.aload_n 0, 1) := by decide +kernel
theorem dX3_becomeLike_41 : decode cX3_becomeLike 41 = .ok (.aload_n 1, 1) := by decide +kernel
theorem dX3_becomeLike_42 : decode cX3_becomeLike 42 = .ok (.getfield 18, 3) := by decide +kernel
theorem dX3_becomeLike_45 : decode cX3_becomeLike 45 = .ok (.putfield 18, 3) := by decide +kernel
theorem dX3_becomeLike_48 : decode cX3_becomeLike 48 = .ok (.return_, 1) := by decide +kernel
theorem dX3_standsIn_0 : decode cX3_standsIn 0 = .ok (.aload_n 0, 1) := by decide +kernel
theorem dX3_standsIn_1 : decode cX3_standsIn 1 = .ok (.getfield 25, 3) := by decide +kernel
theorem dX3_standsIn_4 : decode cX3_standsIn 4 = .ok (.ifCond .ne 15, 3) := by decide +kernel
theorem dX3_standsIn_7 : decode cX3_standsIn 7 = .ok (.aload_n 0, 1) := by decide +kernel
theorem dX3_standsIn_8 : decode cX3_standsIn 8 = .ok (.getfield 28, 3) := by decide +kernel
theorem dX3_standsIn_11 : decode cX3_standsIn 11 = .ok (.iload_n 1, 1) := by decide +kernel
theorem dX3_standsIn_12 : decode cX3_standsIn 12 = .ok (.if_icmp .ne 7, 3) := by decide +kernel
theorem dX3_standsIn_15 : decode cX3_standsIn 15 = .ok (.iconst 1, 1) := by decide +kernel
theorem dX3_standsIn_16 : decode cX3_standsIn 16 = .ok (.goto 4, 3) := by decide +kernel
theorem dX3_standsIn_19 : decode cX3_standsIn 19 = .ok (.iconst 0, 1) := by decide +kernel
theorem dX3_standsIn_20 : decode cX3_standsIn 20 = .ok (.ireturn, 1) := by decide +kernel
theorem dX3_standIn_0 : decode cX3_standIn 0 = .ok (.aload_n 0, 1) := by decide +kernel
theorem dX3_standIn_1 : decode cX3_standIn 1 = .ok (.iconst 0, 1) := by decide +kernel
theorem dX3_standIn_2 : decode cX3_standIn 2 = .ok (.putfield 25, 3) := by decide +kernel
theorem dX3_standIn_5 : decode cX3_standIn 5 = .ok (.aload_n 0, 1) := by decide +kernel
theorem dX3_standIn_6 : decode cX3_standIn 6 = .ok (.iload_n 1, 1) := by decide +kernel
theorem dX3_standIn_7 : decode cX3_standIn 7 = .ok (.putfield 28, 3) := by decide +kernel
theorem dX3_standIn_10 : decode cX3_standIn 10 = .ok (.aload_n 0, 1) := by decide +kernel
theorem dX3_standIn_11 : decode cX3_standIn 11 = .ok (.iconst 0, 1) := by decide +kernel
theorem dX3_standIn_12 : decode cX3_standIn 12 = .ok (.putfield 31, 3) := by decide +kernel
theorem dX3_standIn_15 : decode cX3_standIn 15 = .ok (.return_, 1) := by decide +kernel
theorem dX3_goWith_0 : decode cX3_goWith 0 = .ok (.aload_n 0, 1) := by decide +kernel
theorem dX3_goWith_1 : decode cX3_goWith 1 = .ok (.aload_n 0, 1) := by decide +kernel
theorem dX3_goWith_2 : decode cX3_goWith 2 = .ok (.getfield 28, 3) := by decide +kernel
theorem dX3_goWith_5 : decode cX3_goWith 5 = .ok (.putfield 18, 3) := by decide +kernel
theorem dX3_goWith_8 : decode cX3_goWith 8 = .ok (.aload_n 0, 1) := by decide +kernel
theorem dX3_goWith_9 : decode cX3_goWith 9 = .ok (.dup, 1) := by decide +kernel
theorem dX3_goWith_10 : decode cX3_goWith 10 = .ok (.getfield 15, 3) := by decide +kernel
theorem dX3_goWith_13 : decode cX3_goWith 13 = .ok (.iconst 1, 1) := by decide +kernel
theorem dX3_goWith_14 : decode cX3_goWith 14 = .ok (.iadd, 1) := by decide +kernel
theorem dX3_goWith_15 : decode cX3_goWith 15 = .ok (.putfield 15, 3) := by decide +kernel
theorem dX3_goWith_18 : decode cX3_goWith 18 = .ok (.aload_n 0, 1) := by decide +kernel
theorem dX3_goWith_19 : decode cX3_goWith 19 = .ok (.iconst 1, 1) := by decide +kernel
theorem dX3_goWith_20 : decode cX3_goWith 20 = .ok (.putfield 25, 3) := by decide +kernel
theorem dX3_goWith_23 : decode cX3_goWith 23 = .ok (.aload_n 0, 1) := by decide +kernel
theorem dX3_goWith_24 : decode cX3_goWith 24 = .ok (.iload_n 1, 1) := by decide +kernel
theorem dX3_goWith_25 : decode cX3_goWith 25 = .ok (.putfield 28, 3) := by decide +kernel
theorem dX3_goWith_28 : decode cX3_goWith 28 = .ok (.return_, 1) := by decide +kernel
theorem dX3_stayAway_0 : decode cX3_stayAway 0 = .ok (.aload_n 0, 1) := by decide +kernel
theorem dX3_stayAway_1 : decode cX3_stayAway 1 = .ok (.iload_n 1, 1) := by decide +kernel
theorem dX3_stayAway_2 : decode cX3_stayAway 2 = .ok (.putfield 25, 3) := by decide +kernel
theorem dX3_stayAway_5 : decode cX3_stayAway 5 = .ok (.aload_n 0, 1) := by decide +kernel
theorem dX3_stayAway_6 : decode cX3_stayAway 6 = .ok (.iconst (-1), 1) := by decide +kernel
theorem dX3_stayAway_7 : decode cX3_stayAway 7 = .ok (.putfield 28, 3) := by decide +kernel
theorem dX3_stayAway_10 : decode cX3_stayAway 10 = .ok (.aload_n 0, 1) := by decide +kernel
theorem dX3_stayAway_11 : decode cX3_stayAway 11 = .ok (.iload_n 2, 1) := by decide +kernel
theorem dX3_stayAway_12 : decode cX3_stayAway 12 = .ok (.putfield 31, 3) := by decide +kernel
theorem dX3_stayAway_15 : decode cX3_stayAway 15 = .ok (.return_, 1) := by decide +kernel
set_option maxRecDepth 20000 in
theorem ggX3_waitAnHour_X3_standIn : GoodIn wsX3_waitAnHour wsX3_standIn := goodIn_r _ [9, 2, 10, 1, 11, 12, 13, 14, 15, 16] (by decide +kernel) (by decide +kernel)
set_option maxRecDepth 20000 in
theorem gX3_waitAnHour_X3_standIn : GoodIn wsX3_waitAnHour (wsV RX3 21 RX3 yX3_standIn wsX3_standIn) := goodIn_app (goodIn_of _ (by decide +kernel)) ggX3_waitAnHour_X3_standIn
theorem dX3_waitAnHour_0 : decode cX3_waitAnHour 0 = .ok (.aload_n 0, 1) := by decide +kernel
theorem dX3_waitAnHour_1 : decode cX3_waitAnHour 1 = .ok (.getfield 31, 3) := by decide +kernel
theorem dX3_waitAnHour_4 : decode cX3_waitAnHour 4 = .ok (.ifCond .ne 4, 3) := by decide +kernel
theorem dX3_waitAnHour_7 : decode cX3_waitAnHour 7 = .ok (.return_, 1) := by decide +kernel
theorem dX3_waitAnHour_8 : decode cX3_waitAnHour 8 = .ok (.aload_n 0, 1) := by decide +kernel
theorem dX3_waitAnHour_9 : decode cX3_waitAnHour 9 = .ok (.dup, 1) := by decide +kernel
theorem dX3_waitAnHour_10 : decode cX3_waitAnHour 10 = .ok (.getfield 31, 3) := by decide +kernel
theorem dX3_waitAnHour_13 : decode cX3_waitAnHour 13 = .ok (.iconst 1, 1) := by decide +kernel
theorem dX3_waitAnHour_14 : decode cX3_waitAnHour 14 = .ok (.isub, 1) := by decide +kernel
theorem dX3_waitAnHour_15 : decode cX3_waitAnHour 15 = .ok (.putfield 31, 3) := by decide +kernel
theorem dX3_waitAnHour_18 : decode cX3_waitAnHour 18 = .ok (.aload_n 0, 1) := by decide +kernel
theorem dX3_waitAnHour_19 : decode cX3_waitAnHour 19 = .ok (.getfield 31, 3) := by decide +kernel
theorem dX3_waitAnHour_22 : decode cX3_waitAnHour 22 = .ok (.ifCond .le 4, 3) := by decide +kernel
theorem dX3_waitAnHour_25 : decode cX3_waitAnHour 25 = .ok (.return_, 1) := by decide +kernel
theorem dX3_waitAnHour_26 : decode cX3_waitAnHour 26 = .ok (.aload_n 0, 1) := by decide +kernel
theorem dX3_waitAnHour_27 : decode cX3_waitAnHour 27 = .ok (.getfield 25, 3) := by decide +kernel
theorem dX3_waitAnHour_30 : decode cX3_waitAnHour 30 = .ok (.iconst 3, 1) := by decide +kernel
theorem dX3_waitAnHour_31 : decode cX3_waitAnHour 31 = .ok (.if_icmp .ne 16, 3) := by decide +kernel
theorem dX3_waitAnHour_34 : decode cX3_waitAnHour 34 = .ok (.aload_n 0, 1) := by decide +kernel
theorem dX3_waitAnHour_35 : decode cX3_waitAnHour 35 = .ok (.iconst 0, 1) := by decide +kernel
theorem dX3_waitAnHour_36 : decode cX3_waitAnHour 36 = .ok (.putfield 9, 3) := by decide +kernel
theorem dX3_waitAnHour_39 : decode cX3_waitAnHour 39 = .ok (.aload_n 0, 1) := by decide +kernel
theorem dX3_waitAnHour_40 : decode cX3_waitAnHour 40 = .ok (.iconst 0, 1) := by decide +kernel
theorem dX3_waitAnHour_41 : decode cX3_waitAnHour 41 = .ok (.invokevirtual 21, 3) := by decide +kernel
theorem dX3_waitAnHour_44 : decode cX3_waitAnHour 44 = .ok (.goto 11, 3) := by decide +kernel
theorem dX3_waitAnHour_47 : decode cX3_waitAnHour 47 = .ok (.aload_n 0, 1) := by decide +kernel
theorem dX3_waitAnHour_48 : decode cX3_waitAnHour 48 = .ok (.aload_n 0, 1) := by decide +kernel
theorem dX3_waitAnHour_49 : decode cX3_waitAnHour 49 = .ok (.getfield 18, 3) := by decide +kernel
theorem dX3_waitAnHour_52 : decode cX3_waitAnHour 52 = .ok (.invokevirtual 21, 3) := by decide +kernel
theorem dX3_waitAnHour_55 : decode cX3_waitAnHour 55 = .ok (.return_, 1) := by decide +kernel
theorem dX3_tell_0 : decode cX3_tell 0 = .ok (.iload_n 1, 1) := by decide +kernel
theorem dX3_tell_1 : decode cX3_tell 1 = .ok (.tableswitch 60 0 4 #[35, 40, 45, 50, 55], 35) := by decide +kernel
theorem dX3_tell_36 : decode cX3_tell 36 = .ok (.aload_n 0, 1) := by decide +kernel
theorem dX3_tell_37 : decode cX3_tell 37 = .ok (.getfield 25, 3) := by decide +kernel
theorem dX3_tell_40 : decode cX3_tell 40 = .ok (.ireturn, 1) := by decide +kernel
theorem dX3_tell_41 : decode cX3_tell 41 = .ok (.aload_n 0, 1) := by decide +kernel
theorem dX3_tell_42 : decode cX3_tell 42 = .ok (.getfield 28, 3) := by decide +kernel
theorem dX3_tell_45 : decode cX3_tell 45 = .ok (.ireturn, 1) := by decide +kernel
theorem dX3_tell_46 : decode cX3_tell 46 = .ok (.aload_n 0, 1) := by decide +kernel
theorem dX3_tell_47 : decode cX3_tell 47 = .ok (.getfield 9, 3) := by decide +kernel
theorem dX3_tell_50 : decode cX3_tell 50 = .ok (.ireturn, 1) := by decide +kernel
theorem dX3_tell_51 : decode cX3_tell 51 = .ok (.aload_n 0, 1) := by decide +kernel
theorem dX3_tell_52 : decode cX3_tell 52 = .ok (.getfield 31, 3) := by decide +kernel
theorem dX3_tell_55 : decode cX3_tell 55 = .ok (.ireturn, 1) := by decide +kernel
theorem dX3_tell_56 : decode cX3_tell 56 = .ok (.aload_n 0, 1) := by decide +kernel
theorem dX3_tell_57 : decode cX3_tell 57 = .ok (.getfield 15, 3) := by decide +kernel
theorem dX3_tell_60 : decode cX3_tell 60 = .ok (.ireturn, 1) := by decide +kernel
theorem dX3_tell_61 : decode cX3_tell 61 = .ok (.aload_n 0, 1) := by decide +kernel
theorem dX3_tell_62 : decode cX3_tell 62 = .ok (.getfield 18, 3) := by decide +kernel
theorem dX3_tell_65 : decode cX3_tell 65 = .ok (.ireturn, 1) := by decide +kernel
set_option maxRecDepth 20000 in
theorem ggX4_init_X1_init : GoodIn wsX4_init wsX1_init := goodIn_r _ [11, 12, 2, 3, 13, 14, 15, 16, 17, 18, 19, 20, 21, 22, 23, 24, 25, 26, 27, 28, 29, 30, 31, 32, 33, 34, 35, 36, 37, 38, 39, 40, 41, 42, 43, 44, 47, 48, 49, 50, 51, 52, 53, 54, 55, 56, 57, 58, 59, 60, 61, 62, 63, 64, 65, 66, 67, 68, 69, 70, 71, 72, 73, 74] (by decide +kernel) (by decide +kernel)
set_option maxRecDepth 20000 in
theorem gX4_init_X1_init : GoodIn wsX4_init (wsX1_init) := ggX4_init_X1_init
theorem dX4_init_0 : decode cX4_init 0 = .ok (.aload_n 0, 1) := by decide +kernel
theorem dX4_init_1 : decode cX4_init 1 = .ok (.invokespecial 1, 3) := by decide +kernel
theorem dX4_init_4 : decode cX4_init 4 = .ok (.aload_n 0, 1) := by decide +kernel
theorem dX4_init_5 : decode cX4_init 5 = .ok (.new 7, 3) := by decide +kernel
theorem dX4_init_8 : decode cX4_init 8 = .ok (.dup, 1) := by decide +kernel
theorem dX4_init_9 : decode cX4_init 9 = .ok (.invokespecial 9, 3) := by decide +kernel
theorem dX4_init_12 : decode cX4_init 12 = .ok (.putfield 10, 3) := by decide +kernel
theorem dX4_init_15 : decode cX4_init 15 = .ok (.aload_n 0, 1) := by decide +kernel
theorem dX4_init_16 : decode cX4_init 16 = .ok (.new 7, 3) := by decide +kernel
theorem dX4_init_19 : decode cX4_init 19 = .ok (.dup, 1) := by decide +kernel
theorem dX4_init_20 : decode cX4_init 20 = .ok (.invokespecial 9, 3) := by decide +kernel
theorem dX4_init_23 : decode cX4_init 23 = .ok (.putfield 16, 3) := by decide +kernel
theorem dX4_init_26 : decode cX4_init 26 = .ok (.return_, 1) := by decide +kernel
set_option maxRecDepth 20000 in
theorem ggX4_build_X4_isWithin : GoodIn wsX4_build wsX4_isWithin := goodIn_r _ [10] (by decide +kernel) (by decide +kernel)
set_option maxRecDepth 20000 in
theorem gX4_build_X4_isWithin : GoodIn wsX4_build (va_wsS RX4 19 yX4_isWithin wsX4_isWithin) := goodIn_app (goodIn_of _ (by decide +kernel)) ggX4_build_X4_isWithin
set_option maxRecDepth 20000 in
theorem ggX4_build_X1_isBuiltOn : GoodIn wsX4_build wsX1_isBuiltOn := goodIn_r _ [15, 16, 17, 18, 32, 33, 34, 35, 36, 37, 38, 39, 40, 41, 42, 43, 44, 45, 46, 47] (by decide +kernel) (by decide +kernel)
set_option maxRecDepth 20000 in
theorem gX4_build_X1_isBuiltOn : GoodIn wsX4_build (wsV RX4 34 RX1 yX1_isBuiltOn wsX1_isBuiltOn) := goodIn_app (goodIn_of _ (by decide +kernel)) ggX4_build_X1_isBuiltOn
set_option maxRecDepth 20000 in
theorem ggX4_build_X1_addShelter : GoodIn wsX4_build wsX1_addShelter := goodIn_r _ [22, 16, 17, 23, 24, 25, 26, 27, 28, 29, 32, 33, 34, 35, 36, 37, 38, 39, 40, 41, 42, 43, 44, 45, 46, 47] (by decide +kernel) (by decide +kernel)
set_option maxRecDepth 20000 in
theorem gX4_build_X1_addShelter : GoodIn wsX4_build (wsV RX4 43 RX1 yX1_addShelter wsX1_addShelter) := goodIn_app (goodIn_of _ (by decide +kernel)) ggX4_build_X1_addShelter
theorem dX4_build_0 : decode cX4_build 0 = .ok (.iload_n 1, 1) := by decide +kernel
theorem dX4_build_1 : decode cX4_build 1 = .ok (.iconst 0, 1) := by decide +kernel
theorem dX4_build_2 : decode cX4_build 2 = .ok (.bipush 99, 2) := by decide +kernel
theorem dX4_build_4 : decode cX4_build 4 = .ok (.invokestatic 19, 3) := by decide +kernel
theorem dX4_build_7 : decode cX4_build 7 = .ok (.ifCond .eq 13, 3) := by decide +kernel
theorem dX4_build_10 : decode cX4_build 10 = .ok (.iload_n 2, 1) := by decide +kernel
theorem dX4_build_11 : decode cX4_build 11 = .ok (.iconst 0, 1) := by decide +kernel
theorem dX4_build_12 : decode cX4_build 12 = .ok (.bipush 10, 2) := by decide +kernel
theorem dX4_build_14 : decode cX4_build 14 = .ok (.invokestatic 19, 3) := by decide +kernel
theorem dX4_build_17 : decode cX4_build 17 = .ok (.ifCond .ne 13, 3) := by decide +kernel
theorem dX4_build_20 : decode cX4_build 20 = .ok (.new 23, 3) := by decide +kernel
theorem dX4_build_23 : decode cX4_build 23 = .ok (.dup, 1) := by decide +kernel
theorem dX4_build_24 : decode cX4_build 24 = .ok (.ldc 25, 2) := by decide +kernel
theorem dX4_build_26 : decode cX4_build 26 = .ok (.invokespecial 27, 3) := by decide +kernel
theorem dX4_build_29 : decode cX4_build 29 = .ok (.athrow, 1) := by decide +kernel
theorem dX4_build_30 : decode cX4_build 30 = .ok (.aload_n 0, 1) := by decide +kernel
theorem dX4_build_31 : decode cX4_build 31 = .ok (.getfield 10, 3) := by decide +kernel
theorem dX4_build_34 : decode cX4_build 34 = .ok (.getfield 30, 3) := by decide +kernel
theorem dX4_build_37 : decode cX4_build 37 = .ok (.bipush 8, 2) := by decide +kernel
theorem dX4_build_39 : decode cX4_build 39 = .ok (.if_icmp .ge 14, 3) := by decide +kernel
theorem dX4_build_42 : decode cX4_build 42 = .ok (.aload_n 0, 1) := by decide +kernel
theorem dX4_build_43 : decode cX4_build 43 = .ok (.getfield 10, 3) := by decide +kernel
theorem dX4_build_46 : decode cX4_build 46 = .ok (.iload_n 1, 1) := by decide +kernel
theorem dX4_build_47 : decode cX4_build 47 = .ok (.invokevirtual 34, 3) := by decide +kernel
theorem dX4_build_50 : decode cX4_build 50 = .ok (.ifCond .eq 13, 3) := by decide +kernel
theorem dX4_build_53 : decode cX4_build 53 = .ok (.new 38, 3) := by decide +kernel
theorem dX4_build_56 : decode cX4_build 56 = .ok (.dup, 1) := by decide +kernel
theorem dX4_build_57 : decode cX4_build 57 = .ok (.ldc 40, 2) := by decide +kernel
theorem dX4_build_59 : decode cX4_build 59 = .ok (.invokespecial 42, 3) := by decide +kernel
theorem dX4_build_62 : decode cX4_build 62 = .ok (.athrow, 1) := by decide +kernel
theorem dX4_build_63 : decode cX4_build 63 = .ok (.aload_n 0, 1) := by decide +kernel
theorem dX4_build_64 : decode cX4_build 64 = .ok (.getfield 10, 3) := by decide +kernel
theorem dX4_build_67 : decode cX4_build 67 = .ok (.iload_n 1, 1) := by decide +kernel
theorem dX4_build_68 : decode cX4_build 68 = .ok (.iload_n 2, 1) := by decide +kernel
theorem dX4_build_69 : decode cX4_build 69 = .ok (.invokevirtual 43, 3) := by decide +kernel
theorem dX4_build_72 : decode cX4_build 72 = .ok (.ireturn, 1) := by decide +kernel
set_option maxRecDepth 20000 in
theorem ggX4_bring_X4_checkShelter : GoodIn wsX4_bring wsX4_checkShelter := goodIn_ca (goodIn_r _ [11, 12, 13, 5, 14, 15, 16, 17, 18, 19, 44, 45, 46, 47, 48, 49, 50, 51, 52, 53, 54] (by decide +kernel) (by decide +kernel)) (goodIn_sub (fun _ h => List.mem_cons_of_mem _ (List.mem_append_right _ h)) (by decide +kernel))
set_option maxRecDepth 20000 in
theorem gX4_bring_X4_checkShelter : GoodIn wsX4_bring (wsV RX4 47 RX4 yX4_checkShelter wsX4_checkShelter) := goodIn_app (goodIn_of _ (by decide +kernel)) ggX4_bring_X4_checkShelter
set_option maxRecDepth 20000 in
theorem ggX4_bring_X4_isWithin : GoodIn wsX4_bring wsX4_isWithin := goodIn_r _ [22] (by decide +kernel) (by decide +kernel)
set_option maxRecDepth 20000 in
theorem gX4_bring_X4_isWithin : GoodIn wsX4_bring (va_wsS RX4 19 yX4_isWithin wsX4_isWithin) := goodIn_app (goodIn_of _ (by decide +kernel)) ggX4_bring_X4_isWithin
set_option maxRecDepth 20000 in
theorem ggX4_bring_X1_addUmbrella : GoodIn wsX4_bring wsX1_addUmbrella := goodIn_r _ [26, 27, 28, 29, 30, 31, 32, 33, 34, 35, 36, 37, 38, 39, 40, 41, 42, 43, 46, 47, 48, 49, 50, 51, 52, 53, 54, 55, 56, 57, 58, 59, 60] (by decide +kernel) (by decide +kernel)
set_option maxRecDepth 20000 in
theorem gX4_bring_X1_addUmbrella : GoodIn wsX4_bring (wsV RX4 58 RX1 yX1_addUmbrella wsX1_addUmbrella) := goodIn_app (goodIn_of _ (by decide +kernel)) ggX4_bring_X1_addUmbrella
theorem dX4_bring_0 : decode cX4_bring 0 = .ok (.aload_n 0, 1) := by decide +kernel
theorem dX4_bring_1 : decode cX4_bring 1 = .ok (.iload_n 1, 1) := by decide +kernel
theorem dX4_bring_2 : decode cX4_bring 2 = .ok (.invokevirtual 47, 3) := by decide +kernel
theorem dX4_bring_5 : decode cX4_bring 5 = .ok (.iload_n 2, 1) := by decide +kernel
theorem dX4_bring_6 : decode cX4_bring 6 = .ok (.iconst 1, 1) := by decide +kernel
theorem dX4_bring_7 : decode cX4_bring 7 = .ok (.bipush 10, 2) := by decide +kernel
theorem dX4_bring_9 : decode cX4_bring 9 = .ok (.invokestatic 19, 3) := by decide +kernel
theorem dX4_bring_12 : decode cX4_bring 12 = .ok (.ifCond .ne 13, 3) := by decide +kernel
theorem dX4_bring_15 : decode cX4_bring 15 = .ok (.new 23, 3) := by decide +kernel
theorem dX4_bring_18 : decode cX4_bring 18 = .ok (.dup, 1) := by decide +kernel
theorem dX4_bring_19 : decode cX4_bring 19 = .ok (.ldc 51, 2) := by decide +kernel
theorem dX4_bring_21 : decode cX4_bring 21 = .ok (.invokespecial 27, 3) := by decide +kernel
theorem dX4_bring_24 : decode cX4_bring 24 = .ok (.athrow, 1) := by decide +kernel
theorem dX4_bring_25 : decode cX4_bring 25 = .ok (.iload_n 2, 1) := by decide +kernel
theorem dX4_bring_26 : decode cX4_bring 26 = .ok (.bipush 40, 2) := by decide +kernel
theorem dX4_bring_28 : decode cX4_bring 28 = .ok (.aload_n 0, 1) := by decide +kernel
theorem dX4_bring_29 : decode cX4_bring 29 = .ok (.getfield 10, 3) := by decide +kernel
theorem dX4_bring_32 : decode cX4_bring 32 = .ok (.getfield 53, 3) := by decide +kernel
theorem dX4_bring_35 : decode cX4_bring 35 = .ok (.isub, 1) := by decide +kernel
theorem dX4_bring_36 : decode cX4_bring 36 = .ok (.if_icmp .le 13, 3) := by decide +kernel
theorem dX4_bring_39 : decode cX4_bring 39 = .ok (.new 38, 3) := by decide +kernel
theorem dX4_bring_42 : decode cX4_bring 42 = .ok (.dup, 1) := by decide +kernel
theorem dX4_bring_43 : decode cX4_bring 43 = .ok (.ldc 56, 2) := by decide +kernel
theorem dX4_bring_45 : decode cX4_bring 45 = .ok (.invokespecial 42, 3) := by decide +kernel
theorem dX4_bring_48 : decode cX4_bring 48 = .ok (.athrow, 1) := by decide +kernel
theorem dX4_bring_49 : decode cX4_bring 49 = .ok (.iconst 0, 1) := by decide +kernel
theorem dX4_bring_50 : decode cX4_bring 50 = .ok (.istore_n 3, 1) := by decide +kernel
theorem dX4_bring_51 : decode cX4_bring 51 = .ok (.iload_n 3, 1) := by decide +kernel
theorem dX4_bring_52 : decode cX4_bring 52 = .ok (.iload_n 2, 1) := by decide +kernel
theorem dX4_bring_53 : decode cX4_bring 53 = .ok (.if_icmp .ge 17, 3) := by decide +kernel
theorem dX4_bring_56 : decode cX4_bring 56 = .ok (.aload_n 0, 1) := by decide +kernel
theorem dX4_bring_57 : decode cX4_bring 57 = .ok (.getfield 10, 3) := by decide +kernel
theorem dX4_bring_60 : decode cX4_bring 60 = .ok (.iload_n 1, 1) := by decide +kernel
theorem dX4_bring_61 : decode cX4_bring 61 = .ok (.invokevirtual 58, 3) := by decide +kernel
theorem dX4_bring_64 : decode cX4_bring 64 = .ok (.iinc 3 1, 3) := by decide +kernel
theorem dX4_bring_67 : decode cX4_bring 67 = .ok (.goto (-16), 3) := by decide +kernel
theorem dX4_bring_70 : decode cX4_bring 70 = .ok (.aload_n 0, 1) := by decide +kernel
theorem dX4_bring_71 : decode cX4_bring 71 = .ok (.getfield 10, 3) := by decide +kernel
theorem dX4_bring_74 : decode cX4_bring 74 = .ok (.getfield 53, 3) := by decide +kernel
theorem dX4_bring_77 : decode cX4_bring 77 = .ok (.ireturn, 1) := by decide +kernel
set_option maxRecDepth 20000 in
theorem ggX4_addCitizen_X4_checkShelter : GoodIn wsX4_addCitizen wsX4_checkShelter := goodIn_ca (goodIn_r _ [11, 12, 13, 5, 14, 15, 16, 17, 18, 19, 61, 62, 63, 64, 65, 66, 67, 68, 69, 70, 71] (by decide +kernel) (by decide +kernel)) (goodIn_sub (fun _ h => List.mem_cons_of_mem _ (List.mem_append_right _ h)) (by decide +kernel))
set_option maxRecDepth 20000 in
theorem gX4_addCitizen_X4_checkShelter : GoodIn wsX4_addCitizen (wsV RX4 47 RX4 yX4_checkShelter wsX4_checkShelter) := goodIn_app (goodIn_of _ (by decide +kernel)) ggX4_addCitizen_X4_checkShelter
set_option maxRecDepth 20000 in
theorem ggX4_addCitizen_X4_isHourOfDay : GoodIn wsX4_addCitizen wsX4_isHourOfDay := goodIn_r _ [22, 23, 24, 10, 25] (by decide +kernel) (by decide +kernel)
set_option maxRecDepth 20000 in
theorem gX4_addCitizen_X4_isHourOfDay : GoodIn wsX4_addCitizen (va_wsS RX4 63 yX4_isHourOfDay wsX4_isHourOfDay) := goodIn_app (goodIn_of _ (by decide +kernel)) ggX4_addCitizen_X4_isHourOfDay
set_option maxRecDepth 20000 in
theorem ggX4_addCitizen_X4_isWithin : GoodIn wsX4_addCitizen wsX4_isWithin := goodIn_r _ [25] (by decide +kernel) (by decide +kernel)
set_option maxRecDepth 20000 in
theorem gX4_addCitizen_X4_isWithin : GoodIn wsX4_addCitizen (va_wsS RX4 19 yX4_isWithin wsX4_isWithin) := goodIn_app (goodIn_of _ (by decide +kernel)) ggX4_addCitizen_X4_isWithin
set_option maxRecDepth 20000 in
theorem ggX4_addCitizen_X1_addPerson : GoodIn wsX4_addCitizen wsX1_addPerson := goodIn_r _ [29, 30, 31, 32, 33, 34, 35, 36, 37, 17, 38, 39, 40, 41, 42, 43, 44, 45, 46, 47, 48, 15, 16, 18, 19, 49, 50, 51, 52, 53, 54, 55, 56, 57, 58, 59, 60, 63, 64, 65, 66, 67, 68, 69, 70, 71, 72, 73, 74, 75, 76, 77, 78, 79, 80, 81, 82, 83, 84, 85, 86, 87, 88, 89, 90, 91, 92, 93] (by decide +kernel) (by decide +kernel)
set_option maxRecDepth 20000 in
theorem gX4_addCitizen_X1_addPerson : GoodIn wsX4_addCitizen (wsV RX4 73 RX1 yX1_addPerson wsX1_addPerson) := goodIn_app (goodIn_of _ (by decide +kernel)) ggX4_addCitizen_X1_addPerson
theorem dX4_addCitizen_0 : decode cX4_addCitizen 0 = .ok (.aload_n 0, 1) := by decide +kernel
theorem dX4_addCitizen_1 : decode cX4_addCitizen 1 = .ok (.iload_n 1, 1) := by decide +kernel
theorem dX4_addCitizen_2 : decode cX4_addCitizen 2 = .ok (.invokevirtual 47, 3) := by decide +kernel
theorem dX4_addCitizen_5 : decode cX4_addCitizen 5 = .ok (.aload_n 0, 1) := by decide +kernel
theorem dX4_addCitizen_6 : decode cX4_addCitizen 6 = .ok (.iload_n 2, 1) := by decide +kernel
theorem dX4_addCitizen_7 : decode cX4_addCitizen 7 = .ok (.invokevirtual 47, 3) := by decide +kernel
theorem dX4_addCitizen_10 : decode cX4_addCitizen 10 = .ok (.iload_n 1, 1) := by decide +kernel
theorem dX4_addCitizen_11 : decode cX4_addCitizen 11 = .ok (.iload_n 2, 1) := by decide +kernel
theorem dX4_addCitizen_12 : decode cX4_addCitizen 12 = .ok (.if_icmp .eq 9, 3) := by decide +kernel
theorem dX4_addCitizen_15 : decode cX4_addCitizen 15 = .ok (.iload_n 3, 1) := by decide +kernel
theorem dX4_addCitizen_16 : decode cX4_addCitizen 16 = .ok (.iload 4, 2) := by decide +kernel
theorem dX4_addCitizen_18 : decode cX4_addCitizen 18 = .ok (.if_icmp .ne 13, 3) := by decide +kernel
theorem dX4_addCitizen_21 : decode cX4_addCitizen 21 = .ok (.new 23, 3) := by decide +kernel
theorem dX4_addCitizen_24 : decode cX4_addCitizen 24 = .ok (.dup, 1) := by decide +kernel
theorem dX4_addCitizen_25 : decode cX4_addCitizen 25 = .ok (.ldc 61, 2) := by decide +kernel
theorem dX4_addCitizen_27 : decode cX4_addCitizen 27 = .ok (.invokespecial 27, 3) := by decide +kernel
theorem dX4_addCitizen_30 : decode cX4_addCitizen 30 = .ok (.athrow, 1) := by decide +kernel
theorem dX4_addCitizen_31 : decode cX4_addCitizen 31 = .ok (.iload_n 3, 1) := by decide +kernel
theorem dX4_addCitizen_32 : decode cX4_addCitizen 32 = .ok (.invokestatic 63, 3) := by decide +kernel
theorem dX4_addCitizen_35 : decode cX4_addCitizen 35 = .ok (.ifCond .eq 22, 3) := by decide +kernel
theorem dX4_addCitizen_38 : decode cX4_addCitizen 38 = .ok (.iload 4, 2) := by decide +kernel
theorem dX4_addCitizen_40 : decode cX4_addCitizen 40 = .ok (.invokestatic 63, 3) := by decide +kernel
theorem dX4_addCitizen_43 : decode cX4_addCitizen 43 = .ok (.ifCond .eq 14, 3) := by decide +kernel
theorem dX4_addCitizen_46 : decode cX4_addCitizen 46 = .ok (.iload 5, 2) := by decide +kernel
theorem dX4_addCitizen_48 : decode cX4_addCitizen 48 = .ok (.iconst 1, 1) := by decide +kernel
theorem dX4_addCitizen_49 : decode cX4_addCitizen 49 = .ok (.bipush 9, 2) := by decide +kernel
theorem dX4_addCitizen_51 : decode cX4_addCitizen 51 = .ok (.invokestatic 19, 3) := by decide +kernel
theorem dX4_addCitizen_54 : decode cX4_addCitizen 54 = .ok (.ifCond .ne 13, 3) := by decide +kernel
theorem dX4_addCitizen_57 : decode cX4_addCitizen 57 = .ok (.new 23, 3) := by decide +kernel
theorem dX4_addCitizen_60 : decode cX4_addCitizen 60 = .ok (.dup, 1) := by decide +kernel
theorem dX4_addCitizen_61 : decode cX4_addCitizen 61 = .ok (.ldc 66, 2) := by decide +kernel
theorem dX4_addCitizen_63 : decode cX4_addCitizen 63 = .ok (.invokespecial 27, 3) := by decide +kernel
theorem dX4_addCitizen_66 : decode cX4_addCitizen 66 = .ok (.athrow, 1) := by decide +kernel
theorem dX4_addCitizen_67 : decode cX4_addCitizen 67 = .ok (.aload_n 0, 1) := by decide +kernel
theorem dX4_addCitizen_68 : decode cX4_addCitizen 68 = .ok (.getfield 10, 3) := by decide +kernel
theorem dX4_addCitizen_71 : decode cX4_addCitizen 71 = .ok (.getfield 68, 3) := by decide +kernel
theorem dX4_addCitizen_74 : decode cX4_addCitizen 74 = .ok (.bipush 10, 2) := by decide +kernel
theorem dX4_addCitizen_76 : decode cX4_addCitizen 76 = .ok (.if_icmp .lt 13, 3) := by decide +kernel
theorem dX4_addCitizen_79 : decode cX4_addCitizen 79 = .ok (.new 38, 3) := by decide +kernel
theorem dX4_addCitizen_82 : decode cX4_addCitizen 82 = .ok (.dup, 1) := by decide +kernel
theorem dX4_addCitizen_83 : decode cX4_addCitizen 83 = .ok (.ldc 71, 2) := by decide +kernel
theorem dX4_addCitizen_85 : decode cX4_addCitizen 85 = .ok (.invokespecial 42, 3) := by decide +kernel
theorem dX4_addCitizen_88 : decode cX4_addCitizen 88 = .ok (.athrow, 1) := by decide +kernel
theorem dX4_addCitizen_89 : decode cX4_addCitizen 89 = .ok (.aload_n 0, 1) := by decide +kernel
theorem dX4_addCitizen_90 : decode cX4_addCitizen 90 = .ok (.getfield 10, 3) := by decide +kernel
theorem dX4_addCitizen_93 : decode cX4_addCitizen 93 = .ok (.iload_n 1, 1) := by decide +kernel
theorem dX4_addCitizen_94 : decode cX4_addCitizen 94 = .ok (.iload_n 2, 1) := by decide +kernel
theorem dX4_addCitizen_95 : decode cX4_addCitizen 95 = .ok (.iload_n 3, 1) := by decide +kernel
theorem dX4_addCitizen_96 : decode cX4_addCitizen 96 = .ok (.iload 4, 2) := by decide +kernel
theorem dX4_addCitizen_98 : decode cX4_addCitizen 98 = .ok (.iload 5, 2) := by decide +kernel
theorem dX4_addCitizen_100 : decode cX4_addCitizen 100 = .ok (.invokevirtual 73, 3) := by decide +kernel
theorem dX4_addCitizen_103 : decode cX4_addCitizen 103 = .ok (.ireturn, 1) := by decide +kernel
set_option maxRecDepth 20000 in
theorem ggX4_setRain_X4_checkHourOfDay : GoodIn wsX4_setRain wsX4_checkHourOfDay := goodIn_ca (goodIn_r _ [8, 9, 10, 11, 12, 7, 13, 14, 15, 16] (by decide +kernel) (by decide +kernel)) (goodIn_sub (fun _ h => List.mem_cons_of_mem _ (List.mem_append_right _ h)) (by decide +kernel))
set_option maxRecDepth 20000 in
theorem gX4_setRain_X4_checkHourOfDay : GoodIn wsX4_setRain (va_wsS RX4 77 yX4_checkHourOfDay wsX4_checkHourOfDay) := goodIn_app (goodIn_of _ (by decide +kernel)) ggX4_setRain_X4_checkHourOfDay
set_option maxRecDepth 20000 in
theorem ggX4_setRain_X4_isWithin : GoodIn wsX4_setRain wsX4_isWithin := goodIn_r _ [16] (by decide +kernel) (by decide +kernel)
set_option maxRecDepth 20000 in
theorem gX4_setRain_X4_isWithin : GoodIn wsX4_setRain (va_wsS RX4 19 yX4_isWithin wsX4_isWithin) := goodIn_app (goodIn_of _ (by decide +kernel)) ggX4_setRain_X4_isWithin
theorem dX4_setRain_0 : decode cX4_setRain 0 = .ok (.iload_n 1, 1) := by decide +kernel
theorem dX4_setRain_1 : decode cX4_setRain 1 = .ok (.invokestatic 77, 3) := by decide +kernel
theorem dX4_setRain_4 : decode cX4_setRain 4 = .ok (.iload_n 2, 1) := by decide +kernel
theorem dX4_setRain_5 : decode cX4_setRain 5 = .ok (.iconst 0, 1) := by decide +kernel
theorem dX4_setRain_6 : decode cX4_setRain 6 = .ok (.bipush 9, 2) := by decide +kernel
theorem dX4_setRain_8 : decode cX4_setRain 8 = .ok (.invokestatic 19, 3) := by decide +kernel
theorem dX4_setRain_11 : decode cX4_setRain 11 = .ok (.ifCond .ne 13, 3) := by decide +kernel
theorem dX4_setRain_14 : decode cX4_setRain 14 = .ok (.new 23, 3) := by decide +kernel
theorem dX4_setRain_17 : decode cX4_setRain 17 = .ok (.dup, 1) := by decide +kernel
theorem dX4_setRain_18 : decode cX4_setRain 18 = .ok (.ldc 80, 2) := by decide +kernel
theorem dX4_setRain_20 : decode cX4_setRain 20 = .ok (.invokespecial 27, 3) := by decide +kernel
theorem dX4_setRain_23 : decode cX4_setRain 23 = .ok (.athrow, 1) := by decide +kernel
theorem dX4_setRain_24 : decode cX4_setRain 24 = .ok (.aload_n 0, 1) := by decide +kernel
theorem dX4_setRain_25 : decode cX4_setRain 25 = .ok (.getfield 10, 3) := by decide +kernel
theorem dX4_setRain_28 : decode cX4_setRain 28 = .ok (.getfield 82, 3) := by decide +kernel
theorem dX4_setRain_31 : decode cX4_setRain 31 = .ok (.iload_n 1, 1) := by decide +kernel
theorem dX4_setRain_32 : decode cX4_setRain 32 = .ok (.iaload, 1) := by decide +kernel
theorem dX4_setRain_33 : decode cX4_setRain 33 = .ok (.istore_n 3, 1) := by decide +kernel
theorem dX4_setRain_34 : decode cX4_setRain 34 = .ok (.aload_n 0, 1) := by decide +kernel
theorem dX4_setRain_35 : decode cX4_setRain 35 = .ok (.getfield 10, 3) := by decide +kernel
theorem dX4_setRain_38 : decode cX4_setRain 38 = .ok (.getfield 82, 3) := by decide +kernel
theorem dX4_setRain_41 : decode cX4_setRain 41 = .ok (.iload_n 1, 1) := by decide +kernel
theorem dX4_setRain_42 : decode cX4_setRain 42 = .ok (.iload_n 2, 1) := by decide +kernel
theorem dX4_setRain_43 : decode cX4_setRain 43 = .ok (.iastore, 1) := by decide +kernel
theorem dX4_setRain_44 : decode cX4_setRain 44 = .ok (.iload_n 3, 1) := by decide +kernel
theorem dX4_setRain_45 : decode cX4_setRain 45 = .ok (.ireturn, 1) := by decide +kernel
set_option maxRecDepth 20000 in
theorem ggX4_setDemand_X4_checkShelter : GoodIn wsX4_setDemand wsX4_checkShelter := goodIn_ca (goodIn_r _ [10, 11, 12, 3, 13, 14, 15, 16, 17, 18, 22, 23, 24, 25, 26, 27, 28, 29, 30, 31, 32] (by decide +kernel) (by decide +kernel)) (goodIn_sub (fun _ h => List.mem_cons_of_mem _ (List.mem_append_right _ h)) (by decide +kernel))
set_option maxRecDepth 20000 in
theorem gX4_setDemand_X4_checkShelter : GoodIn wsX4_setDemand (wsV RX4 47 RX4 yX4_checkShelter wsX4_checkShelter) := goodIn_app (goodIn_of _ (by decide +kernel)) ggX4_setDemand_X4_checkShelter
set_option maxRecDepth 20000 in
theorem ggX4_setDemand_X4_isWithin : GoodIn wsX4_setDemand wsX4_isWithin := goodIn_r _ [21] (by decide +kernel) (by decide +kernel)
set_option maxRecDepth 20000 in
theorem gX4_setDemand_X4_isWithin : GoodIn wsX4_setDemand (va_wsS RX4 19 yX4_isWithin wsX4_isWithin) := goodIn_app (goodIn_of _ (by decide +kernel)) ggX4_setDemand_X4_isWithin
theorem dX4_setDemand_0 : decode cX4_setDemand 0 = .ok (.aload_n 0, 1) := by decide +kernel
theorem dX4_setDemand_1 : decode cX4_setDemand 1 = .ok (.iload_n 1, 1) := by decide +kernel
theorem dX4_setDemand_2 : decode cX4_setDemand 2 = .ok (.invokevirtual 47, 3) := by decide +kernel
theorem dX4_setDemand_5 : decode cX4_setDemand 5 = .ok (.iload_n 2, 1) := by decide +kernel
theorem dX4_setDemand_6 : decode cX4_setDemand 6 = .ok (.iconst 0, 1) := by decide +kernel
theorem dX4_setDemand_7 : decode cX4_setDemand 7 = .ok (.bipush 10, 2) := by decide +kernel
theorem dX4_setDemand_9 : decode cX4_setDemand 9 = .ok (.invokestatic 19, 3) := by decide +kernel
theorem dX4_setDemand_12 : decode cX4_setDemand 12 = .ok (.ifCond .ne 13, 3) := by decide +kernel
theorem dX4_setDemand_15 : decode cX4_setDemand 15 = .ok (.new 23, 3) := by decide +kernel
theorem dX4_setDemand_18 : decode cX4_setDemand 18 = .ok (.dup, 1) := by decide +kernel
theorem dX4_setDemand_19 : decode cX4_setDemand 19 = .ok (.ldc 86, 2) := by decide +kernel
theorem dX4_setDemand_21 : decode cX4_setDemand 21 = .ok (.invokespecial 27, 3) := by decide +kernel
theorem dX4_setDemand_24 : decode cX4_setDemand 24 = .ok (.athrow, 1) := by decide +kernel
theorem dX4_setDemand_25 : decode cX4_setDemand 25 = .ok (.aload_n 0, 1) := by decide +kernel
theorem dX4_setDemand_26 : decode cX4_setDemand 26 = .ok (.getfield 10, 3) := by decide +kernel
theorem dX4_setDemand_29 : decode cX4_setDemand 29 = .ok (.getfield 88, 3) := by decide +kernel
theorem dX4_setDemand_32 : decode cX4_setDemand 32 = .ok (.iload_n 1, 1) := by decide +kernel
theorem dX4_setDemand_33 : decode cX4_setDemand 33 = .ok (.aaload, 1) := by decide +kernel
theorem dX4_setDemand_34 : decode cX4_setDemand 34 = .ok (.getfield 92, 3) := by decide +kernel
theorem dX4_setDemand_37 : decode cX4_setDemand 37 = .ok (.istore_n 3, 1) := by decide +kernel
theorem dX4_setDemand_38 : decode cX4_setDemand 38 = .ok (.aload_n 0, 1) := by decide +kernel
theorem dX4_setDemand_39 : decode cX4_setDemand 39 = .ok (.getfield 10, 3) := by decide +kernel
theorem dX4_setDemand_42 : decode cX4_setDemand 42 = .ok (.getfield 88, 3) := by decide +kernel
theorem dX4_setDemand_45 : decode cX4_setDemand 45 = .ok (.iload_n 1, 1) := by decide +kernel
theorem dX4_setDemand_46 : decode cX4_setDemand 46 = .ok (.aaload, 1) := by decide +kernel
theorem dX4_setDemand_47 : decode cX4_setDemand 47 = .ok (.iload_n 2, 1) := by decide +kernel
theorem dX4_setDemand_48 : decode cX4_setDemand 48 = .ok (.putfield 92, 3) := by decide +kernel
theorem dX4_setDemand_51 : decode cX4_setDemand 51 = .ok (.iload_n 3, 1) := by decide +kernel
theorem dX4_setDemand_52 : decode cX4_setDemand 52 = .ok (.ireturn, 1) := by decide +kernel
set_option maxRecDepth 20000 in
theorem ggX4_shelter_X4_checkShelter : GoodIn wsX4_shelter wsX4_checkShelter := goodIn_ca (goodIn_r _ [6, 7, 8, 1, 9, 10, 11, 12, 13, 14, 57, 58, 59, 60, 61, 62, 63, 64, 65, 66, 67] (by decide +kernel) (by decide +kernel)) (goodIn_sub (fun _ h => List.mem_cons_of_mem _ (List.mem_append_right _ h)) (by decide +kernel))
set_option maxRecDepth 20000 in
theorem gX4_shelter_X4_checkShelter : GoodIn wsX4_shelter (wsV RX4 47 RX4 yX4_checkShelter wsX4_checkShelter) := goodIn_app (goodIn_of _ (by decide +kernel)) ggX4_shelter_X4_checkShelter
set_option maxRecDepth 20000 in
theorem ggX4_shelter_X4_checkWhat : GoodIn wsX4_shelter wsX4_checkWhat := goodIn_ca (goodIn_r _ [17, 7, 8, 18, 19, 5, 20] (by decide +kernel) (by decide +kernel)) (goodIn_sub (fun _ h => List.mem_cons_of_mem _ (List.mem_append_right _ h)) (by decide +kernel))
set_option maxRecDepth 20000 in
theorem gX4_shelter_X4_checkWhat : GoodIn wsX4_shelter (va_wsS RX4 97 yX4_checkWhat wsX4_checkWhat) := goodIn_app (goodIn_of _ (by decide +kernel)) ggX4_shelter_X4_checkWhat
set_option maxRecDepth 20000 in
theorem ggX4_shelter_X1_tellShelter : GoodIn wsX4_shelter wsX1_tellShelter := goodIn_r _ [24, 25, 26, 27, 28, 29, 30, 31, 10, 11, 12, 13, 14, 32, 33, 34, 35, 36, 37, 38, 39, 40, 41, 42, 43, 44, 45, 46, 47, 48, 49, 50, 51, 52, 53, 54, 55, 56, 59, 60, 61, 62, 63, 64, 65, 66, 67, 68, 69, 70, 71, 72, 73, 74, 75, 76, 77, 78, 79, 80, 81, 82, 83, 84, 85, 86, 87, 88, 89, 90, 91, 92, 93, 94, 95] (by decide +kernel) (by decide +kernel)
set_option maxRecDepth 20000 in
theorem gX4_shelter_X1_tellShelter : GoodIn wsX4_shelter (wsV RX4 101 RX1 yX1_tellShelter wsX1_tellShelter) := goodIn_app (goodIn_of _ (by decide +kernel)) ggX4_shelter_X1_tellShelter
theorem dX4_shelter_0 : decode cX4_shelter 0 = .ok (.aload_n 0, 1) := by decide +kernel
theorem dX4_shelter_1 : decode cX4_shelter 1 = .ok (.iload_n 1, 1) := by decide +kernel
theorem dX4_shelter_2 : decode cX4_shelter 2 = .ok (.invokevirtual 47, 3) := by decide +kernel
theorem dX4_shelter_5 : decode cX4_shelter 5 = .ok (.iload_n 2, 1) := by decide +kernel
theorem dX4_shelter_6 : decode cX4_shelter 6 = .ok (.bipush 8, 2) := by decide +kernel
theorem dX4_shelter_8 : decode cX4_shelter 8 = .ok (.invokestatic 97, 3) := by decide +kernel
theorem dX4_shelter_11 : decode cX4_shelter 11 = .ok (.aload_n 0, 1) := by decide +kernel
theorem dX4_shelter_12 : decode cX4_shelter 12 = .ok (.getfield 10, 3) := by decide +kernel
theorem dX4_shelter_15 : decode cX4_shelter 15 = .ok (.iload_n 1, 1) := by decide +kernel
theorem dX4_shelter_16 : decode cX4_shelter 16 = .ok (.iload_n 2, 1) := by decide +kernel
theorem dX4_shelter_17 : decode cX4_shelter 17 = .ok (.invokevirtual 101, 3) := by decide +kernel
theorem dX4_shelter_20 : decode cX4_shelter 20 = .ok (.ireturn, 1) := by decide +kernel
set_option maxRecDepth 20000 in
theorem ggX4_umbrella_X4_checkUmbrella : GoodIn wsX4_umbrella wsX4_checkUmbrella := goodIn_ca (goodIn_r _ [7, 8, 9, 1, 10, 11, 12, 13, 14, 15, 33, 34, 35, 36, 37, 38, 39, 40, 41, 42, 43] (by decide +kernel) (by decide +kernel)) (goodIn_sub (fun _ h => List.mem_cons_of_mem _ (List.mem_append_right _ h)) (by decide +kernel))
set_option maxRecDepth 20000 in
theorem gX4_umbrella_X4_checkUmbrella : GoodIn wsX4_umbrella (wsV RX4 104 RX4 yX4_checkUmbrella wsX4_checkUmbrella) := goodIn_app (goodIn_of _ (by decide +kernel)) ggX4_umbrella_X4_checkUmbrella
set_option maxRecDepth 20000 in
theorem ggX4_umbrella_X4_checkWhat : GoodIn wsX4_umbrella wsX4_checkWhat := goodIn_ca (goodIn_r _ [18, 8, 9, 19, 20, 6, 21] (by decide +kernel) (by decide +kernel)) (goodIn_sub (fun _ h => List.mem_cons_of_mem _ (List.mem_append_right _ h)) (by decide +kernel))
set_option maxRecDepth 20000 in
theorem gX4_umbrella_X4_checkWhat : GoodIn wsX4_umbrella (va_wsS RX4 97 yX4_checkWhat wsX4_checkWhat) := goodIn_app (goodIn_of _ (by decide +kernel)) ggX4_umbrella_X4_checkWhat
set_option maxRecDepth 20000 in
theorem ggX4_umbrella_X3_tell : GoodIn wsX4_umbrella wsX3_tell := goodIn_r _ [26, 27, 28, 29, 30, 31, 32, 44, 45, 46, 47, 48, 49] (by decide +kernel) (by decide +kernel)
set_option maxRecDepth 20000 in
theorem gX4_umbrella_X3_tell : GoodIn wsX4_umbrella (wsV RX4 111 RX3 yX3_tell wsX3_tell) := goodIn_app (goodIn_of _ (by decide +kernel)) ggX4_umbrella_X3_tell
theorem dX4_umbrella_0 : decode cX4_umbrella 0 = .ok (.aload_n 0, 1) := by decide +kernel
theorem dX4_umbrella_1 : decode cX4_umbrella 1 = .ok (.iload_n 1, 1) := by decide +kernel
theorem dX4_umbrella_2 : decode cX4_umbrella 2 = .ok (.invokevirtual 104, 3) := by decide +kernel
theorem dX4_umbrella_5 : decode cX4_umbrella 5 = .ok (.iload_n 2, 1) := by decide +kernel
theorem dX4_umbrella_6 : decode cX4_umbrella 6 = .ok (.bipush 6, 2) := by decide +kernel
theorem dX4_umbrella_8 : decode cX4_umbrella 8 = .ok (.invokestatic 97, 3) := by decide +kernel
theorem dX4_umbrella_11 : decode cX4_umbrella 11 = .ok (.aload_n 0, 1) := by decide +kernel
theorem dX4_umbrella_12 : decode cX4_umbrella 12 = .ok (.getfield 10, 3) := by decide +kernel
theorem dX4_umbrella_15 : decode cX4_umbrella 15 = .ok (.getfield 107, 3) := by decide +kernel
theorem dX4_umbrella_18 : decode cX4_umbrella 18 = .ok (.iload_n 1, 1) := by decide +kernel
theorem dX4_umbrella_19 : decode cX4_umbrella 19 = .ok (.aaload, 1) := by decide +kernel
theorem dX4_umbrella_20 : decode cX4_umbrella 20 = .ok (.iload_n 2, 1) := by decide +kernel
theorem dX4_umbrella_21 : decode cX4_umbrella 21 = .ok (.invokevirtual 111, 3) := by decide +kernel
theorem dX4_umbrella_24 : decode cX4_umbrella 24 = .ok (.ireturn, 1) := by decide +kernel
set_option maxRecDepth 20000 in
theorem ggX4_citizen_X4_checkCitizen : GoodIn wsX4_citizen wsX4_checkCitizen := goodIn_ca (goodIn_r _ [7, 8, 9, 1, 10, 11, 12, 13, 14, 15, 37, 38, 39, 40, 41, 42, 43, 44, 45, 46, 47] (by decide +kernel) (by decide +kernel)) (goodIn_sub (fun _ h => List.mem_cons_of_mem _ (List.mem_append_right _ h)) (by decide +kernel))
set_option maxRecDepth 20000 in
theorem gX4_citizen_X4_checkCitizen : GoodIn wsX4_citizen (wsV RX4 117 RX4 yX4_checkCitizen wsX4_checkCitizen) := goodIn_app (goodIn_of _ (by decide +kernel)) ggX4_citizen_X4_checkCitizen
set_option maxRecDepth 20000 in
theorem ggX4_citizen_X4_checkWhat : GoodIn wsX4_citizen wsX4_checkWhat := goodIn_ca (goodIn_r _ [18, 8, 9, 19, 20, 6, 21] (by decide +kernel) (by decide +kernel)) (goodIn_sub (fun _ h => List.mem_cons_of_mem _ (List.mem_append_right _ h)) (by decide +kernel))
set_option maxRecDepth 20000 in
theorem gX4_citizen_X4_checkWhat : GoodIn wsX4_citizen (va_wsS RX4 97 yX4_checkWhat wsX4_checkWhat) := goodIn_app (goodIn_of _ (by decide +kernel)) ggX4_citizen_X4_checkWhat
set_option maxRecDepth 20000 in
theorem ggX4_citizen_X0_tell : GoodIn wsX4_citizen wsX0_tell := goodIn_r _ [26, 27, 28, 29, 30, 31, 32, 33, 34, 35, 36, 48, 49, 50, 51, 52, 53, 54, 55, 56, 57, 58, 59, 60, 61, 62] (by decide +kernel) (by decide +kernel)
set_option maxRecDepth 20000 in
theorem gX4_citizen_X0_tell : GoodIn wsX4_citizen (wsV RX4 124 RX0 yX0_tell wsX0_tell) := goodIn_app (goodIn_of _ (by decide +kernel)) ggX4_citizen_X0_tell
theorem dX4_citizen_0 : decode cX4_citizen 0 = .ok (.aload_n 0, 1) := by decide +kernel
theorem dX4_citizen_1 : decode cX4_citizen 1 = .ok (.iload_n 1, 1) := by decide +kernel
theorem dX4_citizen_2 : decode cX4_citizen 2 = .ok (.invokevirtual 117, 3) := by decide +kernel
theorem dX4_citizen_5 : decode cX4_citizen 5 = .ok (.iload_n 2, 1) := by decide +kernel
theorem dX4_citizen_6 : decode cX4_citizen 6 = .ok (.bipush 10, 2) := by decide +kernel
theorem dX4_citizen_8 : decode cX4_citizen 8 = .ok (.invokestatic 97, 3) := by decide +kernel
theorem dX4_citizen_11 : decode cX4_citizen 11 = .ok (.aload_n 0, 1) := by decide +kernel
theorem dX4_citizen_12 : decode cX4_citizen 12 = .ok (.getfield 10, 3) := by decide +kernel
theorem dX4_citizen_15 : decode cX4_citizen 15 = .ok (.getfield 120, 3) := by decide +kernel
theorem dX4_citizen_18 : decode cX4_citizen 18 = .ok (.iload_n 1, 1) := by decide +kernel
theorem dX4_citizen_19 : decode cX4_citizen 19 = .ok (.aaload, 1) := by decide +kernel
theorem dX4_citizen_20 : decode cX4_citizen 20 = .ok (.iload_n 2, 1) := by decide +kernel
theorem dX4_citizen_21 : decode cX4_citizen 21 = .ok (.invokevirtual 124, 3) := by decide +kernel
theorem dX4_citizen_24 : decode cX4_citizen 24 = .ok (.ireturn, 1) := by decide +kernel
set_option maxRecDepth 20000 in
theorem ggX4_count_X4_checkWhat : GoodIn wsX4_count wsX4_checkWhat := goodIn_ca (goodIn_r _ [5, 6, 7, 8, 9, 4, 10] (by decide +kernel) (by decide +kernel)) (goodIn_sub (fun _ h => List.mem_cons_of_mem _ (List.mem_append_right _ h)) (by decide +kernel))
set_option maxRecDepth 20000 in
theorem gX4_count_X4_checkWhat : GoodIn wsX4_count (va_wsS RX4 97 yX4_checkWhat wsX4_checkWhat) := goodIn_app (goodIn_of _ (by decide +kernel)) ggX4_count_X4_checkWhat
set_option maxRecDepth 20000 in
theorem ggX4_count_X1_tellAll : GoodIn wsX4_count wsX1_tellAll := goodIn_r _ [15, 16, 17, 18, 19, 20, 21, 22, 23, 14, 24, 25, 26, 27, 28, 29, 30, 31, 32, 33, 34, 35, 36, 37, 40, 41, 42, 43, 44, 45, 46, 47, 48, 49, 50, 51, 52, 53, 54, 55, 56, 57, 58, 59, 60, 61, 62, 63, 64, 65, 66, 67, 68, 69] (by decide +kernel) (by decide +kernel)
set_option maxRecDepth 20000 in
theorem gX4_count_X1_tellAll : GoodIn wsX4_count (wsV RX4 127 RX1 yX1_tellAll wsX1_tellAll) := goodIn_app (goodIn_of _ (by decide +kernel)) ggX4_count_X1_tellAll
theorem dX4_count_0 : decode cX4_count 0 = .ok (.iload_n 1, 1) := by decide +kernel
theorem dX4_count_1 : decode cX4_count 1 = .ok (.bipush 11, 2) := by decide +kernel
theorem dX4_count_3 : decode cX4_count 3 = .ok (.invokestatic 97, 3) := by decide +kernel
theorem dX4_count_6 : decode cX4_count 6 = .ok (.aload_n 0, 1) := by decide +kernel
theorem dX4_count_7 : decode cX4_count 7 = .ok (.getfield 10, 3) := by decide +kernel
theorem dX4_count_10 : decode cX4_count 10 = .ok (.iload_n 1, 1) := by decide +kernel
theorem dX4_count_11 : decode cX4_count 11 = .ok (.invokevirtual 127, 3) := by decide +kernel
theorem dX4_count_14 : decode cX4_count 14 = .ok (.ireturn, 1) := by decide +kernel
set_option maxRecDepth 20000 in
theorem ggX4_pass_X4_checkHours : GoodIn wsX4_pass wsX4_checkHours := goodIn_ca (goodIn_r _ [5, 6, 7, 8, 9, 4, 10] (by decide +kernel) (by decide +kernel)) (goodIn_sub (fun _ h => List.mem_cons_of_mem _ (List.mem_append_right _ h)) (by decide +kernel))
set_option maxRecDepth 20000 in
theorem gX4_pass_X4_checkHours : GoodIn wsX4_pass (va_wsS RX4 130 yX4_checkHours wsX4_checkHours) := goodIn_app (goodIn_of _ (by decide +kernel)) ggX4_pass_X4_checkHours
set_option maxRecDepth 20000 in
theorem ggX4_pass_X1_letGoBy : GoodIn wsX4_pass wsX1_letGoBy := goodIn_r _ [15, 16, 17, 18, 19, 20, 21, 22, 23, 24, 14, 25, 26, 27, 28, 29, 30, 31, 32, 33, 34, 35, 36, 37, 38, 39, 40, 41, 42, 43, 44, 45, 46, 47, 48, 49, 50, 51, 52, 53, 54, 55, 56, 57, 58, 59, 60, 61, 62, 63, 64, 65, 66, 67, 68, 69, 70, 71, 72, 73, 74, 75, 76, 77, 78, 79, 80, 81, 82, 83, 84, 85, 86, 87, 88, 89, 90, 91, 92, 93, 94, 95, 96, 97, 98, 99, 100, 101, 102, 103, 104, 105, 106, 107, 108, 109, 110, 111, 112, 113, 114, 115, 116, 117, 118, 119, 120, 121, 122, 123, 124, 125, 126, 127, 128, 129, 130, 131, 132, 133, 134, 135, 136, 137, 138, 139, 140, 141, 142, 143, 144, 145, 146, 147, 148, 149, 150, 151, 152, 153, 154, 155, 156, 157, 158, 159, 160, 161, 162, 163, 164, 165, 166, 167, 168, 169, 170, 171, 172, 173, 174, 175, 176, 179, 180, 181, 182, 183, 184, 185, 186, 187, 188, 189, 190, 191, 192, 193, 194, 195, 196, 197, 198, 199, 200, 201, 202, 203, 204, 205, 206, 207, 208, 209, 210, 211, 212, 213, 214, 215] (by decide +kernel) (by decide +kernel)
set_option maxRecDepth 20000 in
theorem gX4_pass_X1_letGoBy : GoodIn wsX4_pass (wsV RX4 133 RX1 yX1_letGoBy wsX1_letGoBy) := goodIn_app (goodIn_of _ (by decide +kernel)) ggX4_pass_X1_letGoBy
theorem dX4_pass_0 : decode cX4_pass 0 = .ok (.iload_n 1, 1) := by decide +kernel
theorem dX4_pass_1 : decode cX4_pass 1 = .ok (.bipush 100, 2) := by decide +kernel
theorem dX4_pass_3 : decode cX4_pass 3 = .ok (.invokestatic 130, 3) := by decide +kernel
theorem dX4_pass_6 : decode cX4_pass 6 = .ok (.aload_n 0, 1) := by decide +kernel
theorem dX4_pass_7 : decode cX4_pass 7 = .ok (.getfield 10, 3) := by decide +kernel
theorem dX4_pass_10 : decode cX4_pass 10 = .ok (.iload_n 1, 1) := by decide +kernel
theorem dX4_pass_11 : decode cX4_pass 11 = .ok (.invokevirtual 133, 3) := by decide +kernel
theorem dX4_pass_14 : decode cX4_pass 14 = .ok (.ireturn, 1) := by decide +kernel
set_option maxRecDepth 20000 in
theorem ggX4_foresee_X4_checkHours : GoodIn wsX4_foresee wsX4_checkHours := goodIn_ca (goodIn_r _ [6, 7, 8, 9, 10, 5, 11] (by decide +kernel) (by decide +kernel)) (goodIn_sub (fun _ h => List.mem_cons_of_mem _ (List.mem_append_left _ (List.mem_append_right _ h))) (by decide +kernel))
set_option maxRecDepth 20000 in
theorem gX4_foresee_X4_checkHours : GoodIn wsX4_foresee (va_wsS RX4 130 yX4_checkHours wsX4_checkHours) := goodIn_app (goodIn_of _ (by decide +kernel)) ggX4_foresee_X4_checkHours
set_option maxRecDepth 20000 in
theorem ggX4_foresee_X4_checkWhat : GoodIn wsX4_foresee wsX4_checkWhat := goodIn_ca (goodIn_r _ [14, 15, 16, 9, 10, 5, 11] (by decide +kernel) (by decide +kernel)) (goodIn_sub (fun _ h => List.mem_cons_of_mem _ (List.mem_append_right _ h)) (by decide +kernel))
set_option maxRecDepth 20000 in
theorem gX4_foresee_X4_checkWhat : GoodIn wsX4_foresee (va_wsS RX4 97 yX4_checkWhat wsX4_checkWhat) := goodIn_app (goodIn_of _ (by decide +kernel)) ggX4_foresee_X4_checkWhat
set_option maxRecDepth 20000 in
theorem ggX4_foresee_X1_becomeLike : GoodIn wsX4_foresee wsX1_becomeLike := goodIn_r _ [21, 22, 23, 24, 25, 26, 27, 28, 29, 30, 31, 32, 33, 34, 35, 36, 37, 38, 39, 40, 41, 42, 43, 44, 45, 46, 47, 48, 49, 50, 51, 52, 53, 54, 55, 56, 57, 58, 59, 60, 61, 62, 63, 64, 65, 66, 67, 68, 69, 70, 71, 72, 73, 74, 75, 76, 77, 223, 224, 225, 226, 227, 228, 229, 230, 231, 232, 233, 234, 235, 236, 237, 238, 239, 240, 241, 242, 243, 244, 245, 246, 247, 248, 249, 250, 251, 252, 253, 254, 255, 256, 257, 258, 259] (by decide +kernel) (by decide +kernel)
set_option maxRecDepth 20000 in
theorem gX4_foresee_X1_becomeLike : GoodIn wsX4_foresee (wsV RX4 136 RX1 yX1_becomeLike wsX1_becomeLike) := goodIn_app (goodIn_of _ (by decide +kernel)) ggX4_foresee_X1_becomeLike
set_option maxRecDepth 20000 in
theorem ggX4_foresee_X1_letGoBy : GoodIn wsX4_foresee wsX1_letGoBy := goodIn_r _ [81, 27, 22, 82, 83, 84, 85, 86, 87, 88, 20, 89, 29, 33, 90, 91, 92, 50, 93, 55, 52, 54, 57, 94, 95, 96, 97, 53, 98, 99, 100, 101, 30, 34, 102, 103, 104, 61, 105, 69, 63, 65, 64, 66, 106, 107, 108, 109, 110, 32, 111, 112, 113, 114, 115, 116, 117, 118, 119, 120, 28, 121, 122, 123, 124, 125, 126, 127, 128, 129, 130, 131, 132, 133, 134, 135, 136, 38, 137, 44, 46, 138, 139, 140, 141, 56, 142, 143, 144, 145, 70, 68, 71, 146, 147, 148, 149, 150, 151, 152, 153, 154, 155, 156, 157, 158, 159, 160, 161, 162, 163, 164, 165, 166, 167, 168, 169, 67, 75, 170, 171, 172, 173, 174, 73, 175, 176, 177, 178, 179, 180, 181, 182, 76, 183, 184, 185, 186, 187, 188, 189, 43, 45, 190, 191, 192, 193, 31, 194, 195, 196, 197, 198, 199, 200, 201, 202, 203, 204, 205, 41, 206, 207, 223, 224, 225, 226, 227, 228, 229, 230, 231, 239, 240, 241, 242, 243, 244, 245, 246, 247, 248, 249, 250, 251, 252, 253, 254, 255, 256, 257, 258, 259, 232, 233, 234, 235, 236, 237, 238] (by decide +kernel) (by decide +kernel)
set_option maxRecDepth 20000 in
theorem gX4_foresee_X1_letGoBy : GoodIn wsX4_foresee (wsV RX4 133 RX1 yX1_letGoBy wsX1_letGoBy) := goodIn_app (goodIn_of _ (by decide +kernel)) ggX4_foresee_X1_letGoBy
set_option maxRecDepth 20000 in
theorem ggX4_foresee_X1_wetOfAll : GoodIn wsX4_foresee wsX1_wetOfAll := goodIn_r _ [211, 30, 34, 155, 223, 224, 225, 226, 227, 228, 229, 230, 231, 245, 246, 247, 248, 249, 250, 251, 252, 253, 254, 255, 256, 257, 258, 259] (by decide +kernel) (by decide +kernel)
set_option maxRecDepth 20000 in
theorem gX4_foresee_X1_wetOfAll : GoodIn wsX4_foresee (wsV RX4 140 RX1 yX1_wetOfAll wsX1_wetOfAll) := goodIn_app (goodIn_of _ (by decide +kernel)) ggX4_foresee_X1_wetOfAll
set_option maxRecDepth 20000 in
theorem ggX4_foresee_X1_umbrellasThatAre : GoodIn wsX4_foresee wsX1_umbrellasThatAre := goodIn_r _ [215, 29, 33, 216, 223, 224, 225, 226, 227, 228, 229, 230, 231, 239, 240, 241, 242, 243, 244] (by decide +kernel) (by decide +kernel)
set_option maxRecDepth 20000 in
theorem gX4_foresee_X1_umbrellasThatAre : GoodIn wsX4_foresee (wsV RX4 144 RX1 yX1_umbrellasThatAre wsX1_umbrellasThatAre) := goodIn_app (goodIn_of _ (by decide +kernel)) ggX4_foresee_X1_umbrellasThatAre
set_option maxRecDepth 20000 in
theorem ggX4_foresee_X1_trustOfAll : GoodIn wsX4_foresee wsX1_trustOfAll := goodIn_r _ [220, 30, 34, 111, 223, 224, 225, 226, 227, 228, 229, 230, 231, 245, 246, 247, 248, 249, 250, 251, 252, 253, 254, 255, 256, 257, 258, 259] (by decide +kernel) (by decide +kernel)
set_option maxRecDepth 20000 in
theorem gX4_foresee_X1_trustOfAll : GoodIn wsX4_foresee (wsV RX4 147 RX1 yX1_trustOfAll wsX1_trustOfAll) := goodIn_app (goodIn_of _ (by decide +kernel)) ggX4_foresee_X1_trustOfAll
theorem dX4_foresee_0 : decode cX4_foresee 0 = .ok (.iload_n 1, 1) := by decide +kernel
theorem dX4_foresee_1 : decode cX4_foresee 1 = .ok (.bipush 100, 2) := by decide +kernel
theorem dX4_foresee_3 : decode cX4_foresee 3 = .ok (.invokestatic 130, 3) := by decide +kernel
theorem dX4_foresee_6 : decode cX4_foresee 6 = .ok (.iload_n 2, 1) := by decide +kernel
theorem dX4_foresee_7 : decode cX4_foresee 7 = .ok (.iconst 5, 1) := by decide +kernel
theorem dX4_foresee_8 : decode cX4_foresee 8 = .ok (.invokestatic 97, 3) := by decide +kernel
theorem dX4_foresee_11 : decode cX4_foresee 11 = .ok (.aload_n 0, 1) := by decide +kernel
theorem dX4_foresee_12 : decode cX4_foresee 12 = .ok (.getfield 16, 3) := by decide +kernel
theorem dX4_foresee_15 : decode cX4_foresee 15 = .ok (.aload_n 0, 1) := by decide +kernel
theorem dX4_foresee_16 : decode cX4_foresee 16 = .ok (.getfield 10, 3) := by decide +kernel
theorem dX4_foresee_19 : decode cX4_foresee 19 = .ok (.invokevirtual 136, 3) := by decide +kernel
theorem dX4_foresee_22 : decode cX4_foresee 22 = .ok (.aload_n 0, 1) := by decide +kernel
theorem dX4_foresee_23 : decode cX4_foresee 23 = .ok (.getfield 16, 3) := by decide +kernel
theorem dX4_foresee_26 : decode cX4_foresee 26 = .ok (.iload_n 1, 1) := by decide +kernel
theorem dX4_foresee_27 : decode cX4_foresee 27 = .ok (.invokevirtual 133, 3) := by decide +kernel
theorem dX4_foresee_30 : decode cX4_foresee 30 = .ok (.pop, 1) := by decide +kernel
theorem dX4_foresee_31 : decode cX4_foresee 31 = .ok (.iload_n 2, 1) := by decide +kernel
theorem dX4_foresee_32 : decode cX4_foresee 32 = .ok (.tableswitch 67 0 3 #[32, 40, 49, 58], 32) := by decide +kernel
theorem dX4_foresee_64 : decode cX4_foresee 64 = .ok (.aload_n 0, 1) := by decide +kernel
theorem dX4_foresee_65 : decode cX4_foresee 65 = .ok (.getfield 16, 3) := by decide +kernel
theorem dX4_foresee_68 : decode cX4_foresee 68 = .ok (.invokevirtual 140, 3) := by decide +kernel
theorem dX4_foresee_71 : decode cX4_foresee 71 = .ok (.ireturn, 1) := by decide +kernel
theorem dX4_foresee_72 : decode cX4_foresee 72 = .ok (.aload_n 0, 1) := by decide +kernel
theorem dX4_foresee_73 : decode cX4_foresee 73 = .ok (.getfield 16, 3) := by decide +kernel
theorem dX4_foresee_76 : decode cX4_foresee 76 = .ok (.iconst 0, 1) := by decide +kernel
theorem dX4_foresee_77 : decode cX4_foresee 77 = .ok (.invokevirtual 144, 3) := by decide +kernel
theorem dX4_foresee_80 : decode cX4_foresee 80 = .ok (.ireturn, 1) := by decide +kernel
theorem dX4_foresee_81 : decode cX4_foresee 81 = .ok (.aload_n 0, 1) := by decide +kernel
theorem dX4_foresee_82 : decode cX4_foresee 82 = .ok (.getfield 16, 3) := by decide +kernel
theorem dX4_foresee_85 : decode cX4_foresee 85 = .ok (.iconst 2, 1) := by decide +kernel
theorem dX4_foresee_86 : decode cX4_foresee 86 = .ok (.invokevirtual 144, 3) := by decide +kernel
theorem dX4_foresee_89 : decode cX4_foresee 89 = .ok (.ireturn, 1) := by decide +kernel
theorem dX4_foresee_90 : decode cX4_foresee 90 = .ok (.aload_n 0, 1) := by decide +kernel
theorem dX4_foresee_91 : decode cX4_foresee 91 = .ok (.getfield 16, 3) := by decide +kernel
theorem dX4_foresee_94 : decode cX4_foresee 94 = .ok (.iconst 3, 1) := by decide +kernel
theorem dX4_foresee_95 : decode cX4_foresee 95 = .ok (.invokevirtual 144, 3) := by decide +kernel
theorem dX4_foresee_98 : decode cX4_foresee 98 = .ok (.ireturn, 1) := by decide +kernel
theorem dX4_foresee_99 : decode cX4_foresee 99 = .ok (.aload_n 0, 1) := by decide +kernel
theorem dX4_foresee_100 : decode cX4_foresee 100 = .ok (.getfield 16, 3) := by decide +kernel
theorem dX4_foresee_103 : decode cX4_foresee 103 = .ok (.invokevirtual 147, 3) := by decide +kernel
theorem dX4_foresee_106 : decode cX4_foresee 106 = .ok (.ireturn, 1) := by decide +kernel
set_option maxRecDepth 20000 in
theorem ggX4_advise_X4_checkHours : GoodIn wsX4_advise wsX4_checkHours := goodIn_ca (goodIn_r _ [9, 10, 11, 12, 13, 8, 14] (by decide +kernel) (by decide +kernel)) (goodIn_sub (fun _ h => List.mem_cons_of_mem _ (List.mem_append_right _ h)) (by decide +kernel))
set_option maxRecDepth 20000 in
theorem gX4_advise_X4_checkHours : GoodIn wsX4_advise (va_wsS RX4 130 yX4_checkHours wsX4_checkHours) := goodIn_app (goodIn_of _ (by decide +kernel)) ggX4_advise_X4_checkHours
set_option maxRecDepth 20000 in
theorem ggX4_advise_X4_wetAfter : GoodIn wsX4_advise wsX4_wetAfter := goodIn_r _ [18, 19, 3, 20, 21, 22, 23, 24, 25, 26, 27, 28, 29, 30, 31, 32, 33, 34, 35, 36, 37, 38, 39, 40, 41, 42, 43, 44, 45, 46, 47, 48, 49, 50, 51, 52, 53, 54, 55, 56, 57, 58, 59, 60, 61, 62, 63, 64, 65, 66, 67, 68, 69, 70, 71, 72, 73, 74, 75, 76, 77, 78, 79, 80, 81, 82, 83, 84, 85, 86, 87, 88, 89, 90, 91, 92, 93, 94, 95, 96, 97, 98, 99, 100, 101, 102, 103, 104, 105, 106, 107, 108, 109, 110, 111, 112, 113, 114, 115, 116, 117, 118, 119, 120, 121, 122, 123, 124, 125, 126, 127, 128, 129, 130, 131, 132, 133, 134, 135, 136, 137, 138, 139, 140, 141, 142, 143, 144, 145, 146, 147, 148, 149, 150, 151, 152, 153, 154, 155, 156, 157, 158, 159, 160, 161, 162, 163, 164, 165, 166, 167, 168, 169, 170, 171, 172, 173, 174, 175, 176, 177, 178, 179, 180, 181, 182, 183, 184, 185, 186, 187, 188, 189, 190, 191, 192, 193, 194, 195, 196, 197, 198, 199, 200, 201, 202, 203, 204, 205, 206, 207, 208, 209, 210, 211, 212, 213, 214, 215, 216, 217, 218, 219, 220, 221, 222, 223, 224, 225, 226, 227, 228, 229, 230, 231, 232, 233, 234, 235, 236, 237, 238, 239, 240, 241, 242, 243, 244, 245, 246, 247, 248, 249, 250, 251, 252, 253, 254, 255, 256, 257, 258, 259, 260, 261] (by decide +kernel) (by decide +kernel)
set_option maxRecDepth 20000 in
theorem gX4_advise_X4_wetAfter : GoodIn wsX4_advise (wsV RX4 152 RX4 yX4_wetAfter wsX4_wetAfter) := goodIn_app (goodIn_of _ (by decide +kernel)) ggX4_advise_X4_wetAfter
theorem dX4_advise_0 : decode cX4_advise 0 = .ok (.iload_n 1, 1) := by decide +kernel
theorem dX4_advise_1 : decode cX4_advise 1 = .ok (.bipush 24, 2) := by decide +kernel
theorem dX4_advise_3 : decode cX4_advise 3 = .ok (.invokestatic 130, 3) := by decide +kernel
theorem dX4_advise_6 : decode cX4_advise 6 = .ok (.aload_n 0, 1) := by decide +kernel
theorem dX4_advise_7 : decode cX4_advise 7 = .ok (.getfield 10, 3) := by decide +kernel
theorem dX4_advise_10 : decode cX4_advise 10 = .ok (.getfield 53, 3) := by decide +kernel
theorem dX4_advise_13 : decode cX4_advise 13 = .ok (.bipush 40, 2) := by decide +kernel
theorem dX4_advise_15 : decode cX4_advise 15 = .ok (.if_icmp .lt 13, 3) := by decide +kernel
theorem dX4_advise_18 : decode cX4_advise 18 = .ok (.new 38, 3) := by decide +kernel
theorem dX4_advise_21 : decode cX4_advise 21 = .ok (.dup, 1) := by decide +kernel
theorem dX4_advise_22 : decode cX4_advise 22 = .ok (.ldc 150, 2) := by decide +kernel
theorem dX4_advise_24 : decode cX4_advise 24 = .ok (.invokespecial 42, 3) := by decide +kernel
theorem dX4_advise_27 : decode cX4_advise 27 = .ok (.athrow, 1) := by decide +kernel
theorem dX4_advise_28 : decode cX4_advise 28 = .ok (.iconst (-1), 1) := by decide +kernel
theorem dX4_advise_29 : decode cX4_advise 29 = .ok (.istore_n 2, 1) := by decide +kernel
theorem dX4_advise_30 : decode cX4_advise 30 = .ok (.aload_n 0, 1) := by decide +kernel
theorem dX4_advise_31 : decode cX4_advise 31 = .ok (.iload_n 1, 1) := by decide +kernel
theorem dX4_advise_32 : decode cX4_advise 32 = .ok (.iconst (-1), 1) := by decide +kernel
theorem dX4_advise_33 : decode cX4_advise 33 = .ok (.invokevirtual 152, 3) := by decide +kernel
theorem dX4_advise_36 : decode cX4_advise 36 = .ok (.istore_n 3, 1) := by decide +kernel
theorem dX4_advise_37 : decode cX4_advise 37 = .ok (.iconst 0, 1) := by decide +kernel
theorem dX4_advise_38 : decode cX4_advise 38 = .ok (.istore 4, 2) := by decide +kernel
theorem dX4_advise_40 : decode cX4_advise 40 = .ok (.iload 4, 2) := by decide +kernel
