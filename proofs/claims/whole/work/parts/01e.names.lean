theorem dX5_copy_1 : decode cX5_copy 1 = .ok (.iconst 0, 1) := by decide +kernel
theorem dX5_copy_2 : decode cX5_copy 2 = .ok (.aload_n 2, 1) := by decide +kernel
theorem dX5_copy_3 : decode cX5_copy 3 = .ok (.iconst 0, 1) := by decide +kernel
theorem dX5_copy_4 : decode cX5_copy 4 = .ok (.aload_n 1, 1) := by decide +kernel
theorem dX5_copy_5 : decode cX5_copy 5 = .ok (.arraylength, 1) := by decide +kernel
theorem dX5_copy_6 : decode cX5_copy 6 = .ok (.invokestatic 64, 3) := by decide +kernel
theorem dX5_copy_9 : decode cX5_copy 9 = .ok (.return_, 1) := by decide +kernel
set_option maxRecDepth 20000 in
theorem ggX5_become_X5_copy : GoodIn wsX5_become wsX5_copy := goodIn_r _ [26, 27, 28, 29, 30] (by decide +kernel) (by decide +kernel)
set_option maxRecDepth 20000 in
theorem gX5_become_X5_copy : GoodIn wsX5_become (wsV RX5 86 RX5 yX5_copy wsX5_copy) := goodIn_app (goodIn_of _ (by decide +kernel)) ggX5_become_X5_copy
theorem dX5_become_0 : decode cX5_become 0 = .ok (.aload_n 0, 1) := by decide +kernel
theorem dX5_become_1 : decode cX5_become 1 = .ok (.aload_n 1, 1) := by decide +kernel
theorem dX5_become_2 : decode cX5_become 2 = .ok (.getfield 70, 3) := by decide +kernel
theorem dX5_become_5 : decode cX5_become 5 = .ok (.putfield 70, 3) := by decide +kernel
theorem dX5_become_8 : decode cX5_become 8 = .ok (.aload_n 0, 1) := by decide +kernel
theorem dX5_become_9 : decode cX5_become 9 = .ok (.aload_n 1, 1) := by decide +kernel
theorem dX5_become_10 : decode cX5_become 10 = .ok (.getfield 74, 3) := by decide +kernel
theorem dX5_become_13 : decode cX5_become 13 = .ok (.putfield 74, 3) := by decide +kernel
theorem dX5_become_16 : decode cX5_become 16 = .ok (.aload_n 0, 1) := by decide +kernel
theorem dX5_become_17 : decode cX5_become 17 = .ok (.aload_n 1, 1) := by decide +kernel
theorem dX5_become_18 : decode cX5_become 18 = .ok (.getfield 77, 3) := by decide +kernel
theorem dX5_become_21 : decode cX5_become 21 = .ok (.putfield 77, 3) := by decide +kernel
theorem dX5_become_24 : decode cX5_become 24 = .ok (.aload_n 0, 1) := by decide +kernel
theorem dX5_become_25 : decode cX5_become 25 = .ok (.aload_n 1, 1) := by decide +kernel
theorem dX5_become_26 : decode cX5_become 26 = .ok (.getfield 80, 3) := by decide +kernel
theorem dX5_become_29 : decode cX5_become 29 = .ok (.putfield 80, 3) := by decide +kernel
theorem dX5_become_32 : decode cX5_become 32 = .ok (.aload_n 0, 1) := by decide +kernel
theorem dX5_become_33 : decode cX5_become 33 = .ok (.aload_n 1, 1) := by decide +kernel
theorem dX5_become_34 : decode cX5_become 34 = .ok (.getfield 83, 3) := by decide +kernel
theorem dX5_become_37 : decode cX5_become 37 = .ok (.putfield 83, 3) := by decide +kernel
theorem dX5_become_40 : decode cX5_become 40 = .ok (.aload_n 0, 1) := by decide +kernel
theorem dX5_become_41 : decode cX5_become 41 = .ok (.aload_n 1, 1) := by decide +kernel
theorem dX5_become_42 : decode cX5_become 42 = .ok (.getfield 15, 3) := by decide +kernel
theorem dX5_become_45 : decode cX5_become 45 = .ok (.aload_n 0, 1) := by decide +kernel
theorem dX5_become_46 : decode cX5_become 46 = .ok (.getfield 15, 3) := by decide +kernel
theorem dX5_become_49 : decode cX5_become 49 = .ok (.invokevirtual 86, 3) := by decide +kernel
theorem dX5_become_52 : decode cX5_become 52 = .ok (.aload_n 0, 1) := by decide +kernel
theorem dX5_become_53 : decode cX5_become 53 = .ok (.aload_n 1, 1) := by decide +kernel
theorem dX5_become_54 : decode cX5_become 54 = .ok (.getfield 19, 3) := by decide +kernel
theorem dX5_become_57 : decode cX5_become 57 = .ok (.aload_n 0, 1) := by decide +kernel
theorem dX5_become_58 : decode cX5_become 58 = .ok (.getfield 19, 3) := by decide +kernel
theorem dX5_become_61 : decode cX5_become 61 = .ok (.invokevirtual 86, 3) := by decide +kernel
theorem dX5_become_64 : decode cX5_become 64 = .ok (.aload_n 0, 1) := by decide +kernel
theorem dX5_become_65 : decode cX5_become 65 = .ok (.aload_n 1, 1) := by decide +kernel
theorem dX5_become_66 : decode cX5_become 66 = .ok (.getfield 22, 3) := by decide +kernel
theorem dX5_become_69 : decode cX5_become 69 = .ok (.aload_n 0, 1) := by decide +kernel
theorem dX5_become_70 : decode cX5_become 70 = .ok (.getfield 22, 3) := by decide +kernel
theorem dX5_become_73 : decode cX5_become 73 = .ok (.invokevirtual 86, 3) := by decide +kernel
theorem dX5_become_76 : decode cX5_become 76 = .ok (.aload_n 0, 1) := by decide +kernel
theorem dX5_become_77 : decode cX5_become 77 = .ok (.aload_n 1, 1) := by decide +kernel
theorem dX5_become_78 : decode cX5_become 78 = .ok (.getfield 25, 3) := by decide +kernel
theorem dX5_become_81 : decode cX5_become 81 = .ok (.aload_n 0, 1) := by decide +kernel
theorem dX5_become_82 : decode cX5_become 82 = .ok (.getfield 25, 3) := by decide +kernel
theorem dX5_become_85 : decode cX5_become 85 = .ok (.invokevirtual 86, 3) := by decide +kernel
theorem dX5_become_88 : decode cX5_become 88 = .ok (.aload_n 0, 1) := by decide +kernel
theorem dX5_become_89 : decode cX5_become 89 = .ok (.aload_n 1, 1) := by decide +kernel
theorem dX5_become_90 : decode cX5_become 90 = .ok (.getfield 28, 3) := by decide +kernel
theorem dX5_become_93 : decode cX5_become 93 = .ok (.aload_n 0, 1) := by decide +kernel
theorem dX5_become_94 : decode cX5_become 94 = .ok (.getfield 28, 3) := by decide +kernel
theorem dX5_become_97 : decode cX5_become 97 = .ok (.invokevirtual 86, 3) := by decide +kernel
theorem dX5_become_100 : decode cX5_become 100 = .ok (.aload_n 0, 1) := by decide +kernel
theorem dX5_become_101 : decode cX5_become 101 = .ok (.aload_n 1, 1) := by decide +kernel
theorem dX5_become_102 : decode cX5_become 102 = .ok (.getfield 31, 3) := by decide +kernel
theorem dX5_become_105 : decode cX5_become 105 = .ok (.aload_n 0, 1) := by decide +kernel
theorem dX5_become_106 : decode cX5_become 106 = .ok (.getfield 31, 3) := by decide +kernel
theorem dX5_become_109 : decode cX5_become 109 = .ok (.invokevirtual 86, 3) := by decide +kernel
theorem dX5_become_112 : decode cX5_become 112 = .ok (.aload_n 0, 1) := by decide +kernel
theorem dX5_become_113 : decode cX5_become 113 = .ok (.aload_n 1, 1) := by decide +kernel
theorem dX5_become_114 : decode cX5_become 114 = .ok (.getfield 34, 3) := by decide +kernel
theorem dX5_become_117 : decode cX5_become 117 = .ok (.aload_n 0, 1) := by decide +kernel
theorem dX5_become_118 : decode cX5_become 118 = .ok (.getfield 34, 3) := by decide +kernel
theorem dX5_become_121 : decode cX5_become 121 = .ok (.invokevirtual 86, 3) := by decide +kernel
theorem dX5_become_124 : decode cX5_become 124 = .ok (.aload_n 0, 1) := by decide +kernel
theorem dX5_become_125 : decode cX5_become 125 = .ok (.aload_n 1, 1) := by decide +kernel
theorem dX5_become_126 : decode cX5_become 126 = .ok (.getfield 37, 3) := by decide +kernel
theorem dX5_become_129 : decode cX5_become 129 = .ok (.aload_n 0, 1) := by decide +kernel
theorem dX5_become_130 : decode cX5_become 130 = .ok (.getfield 37, 3) := by decide +kernel
theorem dX5_become_133 : decode cX5_become 133 = .ok (.invokevirtual 86, 3) := by decide +kernel
theorem dX5_become_136 : decode cX5_become 136 = .ok (.aload_n 0, 1) := by decide +kernel
theorem dX5_become_137 : decode cX5_become 137 = .ok (.aload_n 1, 1) := by decide +kernel
theorem dX5_become_138 : decode cX5_become 138 = .ok (.getfield 40, 3) := by decide +kernel
theorem dX5_become_141 : decode cX5_become 141 = .ok (.aload_n 0, 1) := by decide +kernel
theorem dX5_become_142 : decode cX5_become 142 = .ok (.getfield 40, 3) := by decide +kernel
theorem dX5_become_145 : decode cX5_become 145 = .ok (.invokevirtual 86, 3) := by decide +kernel
theorem dX5_become_148 : decode cX5_become 148 = .ok (.aload_n 0, 1) := by decide +kernel
theorem dX5_become_149 : decode cX5_become 149 = .ok (.aload_n 1, 1) := by decide +kernel
theorem dX5_become_150 : decode cX5_become 150 = .ok (.getfield 43, 3) := by decide +kernel
theorem dX5_become_153 : decode cX5_become 153 = .ok (.aload_n 0, 1) := by decide +kernel
theorem dX5_become_154 : decode cX5_become 154 = .ok (.getfield 43, 3) := by decide +kernel
theorem dX5_become_157 : decode cX5_become 157 = .ok (.invokevirtual 86, 3) := by decide +kernel
theorem dX5_become_160 : decode cX5_become 160 = .ok (.aload_n 0, 1) := by decide +kernel
theorem dX5_become_161 : decode cX5_become 161 = .ok (.aload_n 1, 1) := by decide +kernel
theorem dX5_become_162 : decode cX5_become 162 = .ok (.getfield 46, 3) := by decide +kernel
theorem dX5_become_165 : decode cX5_become 165 = .ok (.aload_n 0, 1) := by decide +kernel
theorem dX5_become_166 : decode cX5_become 166 = .ok (.getfield 46, 3) := by decide +kernel
theorem dX5_become_169 : decode cX5_become 169 = .ok (.invokevirtual 86, 3) := by decide +kernel
theorem dX5_become_172 : decode cX5_become 172 = .ok (.aload_n 0, 1) := by decide +kernel
theorem dX5_become_173 : decode cX5_become 173 = .ok (.aload_n 1, 1) := by decide +kernel
theorem dX5_become_174 : decode cX5_become 174 = .ok (.getfield 49, 3) := by decide +kernel
theorem dX5_become_177 : decode cX5_become 177 = .ok (.aload_n 0, 1) := by decide +kernel
theorem dX5_become_178 : decode cX5_become 178 = .ok (.getfield 49, 3) := by decide +kernel
theorem dX5_become_181 : decode cX5_become 181 = .ok (.invokevirtual 86, 3) := by decide +kernel
theorem dX5_become_184 : decode cX5_become 184 = .ok (.aload_n 0, 1) := by decide +kernel
theorem dX5_become_185 : decode cX5_become 185 = .ok (.aload_n 1, 1) := by decide +kernel
theorem dX5_become_186 : decode cX5_become 186 = .ok (.getfield 52, 3) := by decide +kernel
theorem dX5_become_189 : decode cX5_become 189 = .ok (.aload_n 0, 1) := by decide +kernel
theorem dX5_become_190 : decode cX5_become 190 = .ok (.getfield 52, 3) := by decide +kernel
theorem dX5_become_193 : decode cX5_become 193 = .ok (.invokevirtual 86, 3) := by decide +kernel
theorem dX5_become_196 : decode cX5_become 196 = .ok (.aload_n 0, 1) := by decide +kernel
theorem dX5_become_197 : decode cX5_become 197 = .ok (.aload_n 1, 1) := by decide +kernel
theorem dX5_become_198 : decode cX5_become 198 = .ok (.getfield 55, 3) := by decide +kernel
theorem dX5_become_201 : decode cX5_become 201 = .ok (.aload_n 0, 1) := by decide +kernel
theorem dX5_become_202 : decode cX5_become 202 = .ok (.getfield 55, 3) := by decide +kernel
theorem dX5_become_205 : decode cX5_become 205 = .ok (.invokevirtual 86, 3) := by decide +kernel
theorem dX5_become_208 : decode cX5_become 208 = .ok (.aload_n 0, 1) := by decide +kernel
theorem dX5_become_209 : decode cX5_become 209 = .ok (.aload_n 1, 1) := by decide +kernel
theorem dX5_become_210 : decode cX5_become 210 = .ok (.getfield 58, 3) := by decide +kernel
theorem dX5_become_213 : decode cX5_become 213 = .ok (.aload_n 0, 1) := by decide +kernel
theorem dX5_become_214 : decode cX5_become 214 = .ok (.getfield 58, 3) := by decide +kernel
theorem dX5_become_217 : decode cX5_become 217 = .ok (.invokevirtual 86, 3) := by decide +kernel
theorem dX5_become_220 : decode cX5_become 220 = .ok (.aload_n 0, 1) := by decide +kernel
theorem dX5_become_221 : decode cX5_become 221 = .ok (.aload_n 1, 1) := by decide +kernel
theorem dX5_become_222 : decode cX5_become 222 = .ok (.getfield 61, 3) := by decide +kernel
theorem dX5_become_225 : decode cX5_become 225 = .ok (.aload_n 0, 1) := by decide +kernel
theorem dX5_become_226 : decode cX5_become 226 = .ok (.getfield 61, 3) := by decide +kernel
theorem dX5_become_229 : decode cX5_become 229 = .ok (.invokevirtual 86, 3) := by decide +kernel
theorem dX5_become_232 : decode cX5_become 232 = .ok (.return_, 1) := by decide +kernel
theorem dX5_bring_0 : decode cX5_bring 0 = .ok (.aload_n 0, 1) := by decide +kernel
theorem dX5_bring_1 : decode cX5_bring 1 = .ok (.getfield 25, 3) := by decide +kernel
theorem dX5_bring_4 : decode cX5_bring 4 = .ok (.aload_n 0, 1) := by decide +kernel
theorem dX5_bring_5 : decode cX5_bring 5 = .ok (.getfield 77, 3) := by decide +kernel
theorem dX5_bring_8 : decode cX5_bring 8 = .ok (.iconst 0, 1) := by decide +kernel
theorem dX5_bring_9 : decode cX5_bring 9 = .ok (.iastore, 1) := by decide +kernel
theorem dX5_bring_10 : decode cX5_bring 10 = .ok (.aload_n 0, 1) := by decide +kernel
theorem dX5_bring_11 : decode cX5_bring 11 = .ok (.getfield 28, 3) := by decide +kernel
theorem dX5_bring_14 : decode cX5_bring 14 = .ok (.aload_n 0, 1) := by decide +kernel
theorem dX5_bring_15 : decode cX5_bring 15 = .ok (.getfield 77, 3) := by decide +kernel
theorem dX5_bring_18 : decode cX5_bring 18 = .ok (.iload_n 1, 1) := by decide +kernel
theorem dX5_bring_19 : decode cX5_bring 19 = .ok (.iastore, 1) := by decide +kernel
theorem dX5_bring_20 : decode cX5_bring 20 = .ok (.aload_n 0, 1) := by decide +kernel
theorem dX5_bring_21 : decode cX5_bring 21 = .ok (.getfield 31, 3) := by decide +kernel
theorem dX5_bring_24 : decode cX5_bring 24 = .ok (.aload_n 0, 1) := by decide +kernel
theorem dX5_bring_25 : decode cX5_bring 25 = .ok (.getfield 77, 3) := by decide +kernel
theorem dX5_bring_28 : decode cX5_bring 28 = .ok (.iconst 0, 1) := by decide +kernel
theorem dX5_bring_29 : decode cX5_bring 29 = .ok (.iastore, 1) := by decide +kernel
theorem dX5_bring_30 : decode cX5_bring 30 = .ok (.aload_n 0, 1) := by decide +kernel
theorem dX5_bring_31 : decode cX5_bring 31 = .ok (.getfield 34, 3) := by decide +kernel
theorem dX5_bring_34 : decode cX5_bring 34 = .ok (.aload_n 0, 1) := by decide +kernel
theorem dX5_bring_35 : decode cX5_bring 35 = .ok (.getfield 77, 3) := by decide +kernel
theorem dX5_bring_38 : decode cX5_bring 38 = .ok (.iconst 0, 1) := by decide +kernel
theorem dX5_bring_39 : decode cX5_bring 39 = .ok (.iastore, 1) := by decide +kernel
theorem dX5_bring_40 : decode cX5_bring 40 = .ok (.aload_n 0, 1) := by decide +kernel
theorem dX5_bring_41 : decode cX5_bring 41 = .ok (.getfield 37, 3) := by decide +kernel
theorem dX5_bring_44 : decode cX5_bring 44 = .ok (.aload_n 0, 1) := by decide +kernel
theorem dX5_bring_45 : decode cX5_bring 45 = .ok (.getfield 77, 3) := by decide +kernel
theorem dX5_bring_48 : decode cX5_bring 48 = .ok (.iconst 0, 1) := by decide +kernel
theorem dX5_bring_49 : decode cX5_bring 49 = .ok (.iastore, 1) := by decide +kernel
theorem dX5_bring_50 : decode cX5_bring 50 = .ok (.aload_n 0, 1) := by decide +kernel
theorem dX5_bring_51 : decode cX5_bring 51 = .ok (.getfield 40, 3) := by decide +kernel
theorem dX5_bring_54 : decode cX5_bring 54 = .ok (.aload_n 0, 1) := by decide +kernel
theorem dX5_bring_55 : decode cX5_bring 55 = .ok (.getfield 77, 3) := by decide +kernel
theorem dX5_bring_58 : decode cX5_bring 58 = .ok (.iconst (-1), 1) := by decide +kernel
theorem dX5_bring_59 : decode cX5_bring 59 = .ok (.iastore, 1) := by decide +kernel
theorem dX5_bring_60 : decode cX5_bring 60 = .ok (.aload_n 0, 1) := by decide +kernel
theorem dX5_bring_61 : decode cX5_bring 61 = .ok (.dup, 1) := by decide +kernel
theorem dX5_bring_62 : decode cX5_bring 62 = .ok (.getfield 77, 3) := by decide +kernel
theorem dX5_bring_65 : decode cX5_bring 65 = .ok (.iconst 1, 1) := by decide +kernel
theorem dX5_bring_66 : decode cX5_bring 66 = .ok (.iadd, 1) := by decide +kernel
theorem dX5_bring_67 : decode cX5_bring 67 = .ok (.putfield 77, 3) := by decide +kernel
theorem dX5_bring_70 : decode cX5_bring 70 = .ok (.return_, 1) := by decide +kernel
theorem dX5_first_0 : decode cX5_first 0 = .ok (.iconst (-1), 1) := by decide +kernel
theorem dX5_first_1 : decode cX5_first 1 = .ok (.istore_n 2, 1) := by decide +kernel
theorem dX5_first_2 : decode cX5_first 2 = .ok (.iconst 0, 1) := by decide +kernel
theorem dX5_first_3 : decode cX5_first 3 = .ok (.istore_n 3, 1) := by decide +kernel
theorem dX5_first_4 : decode cX5_first 4 = .ok (.iload_n 3, 1) := by decide +kernel
theorem dX5_first_5 : decode cX5_first 5 = .ok (.aload_n 0, 1) := by decide +kernel
theorem dX5_first_6 : decode cX5_first 6 = .ok (.getfield 77, 3) := by decide +kernel
theorem dX5_first_9 : decode cX5_first 9 = .ok (.if_icmp .ge 50, 3) := by decide +kernel
theorem dX5_first_12 : decode cX5_first 12 = .ok (.aload_n 0, 1) := by decide +kernel
theorem dX5_first_13 : decode cX5_first 13 = .ok (.getfield 25, 3) := by decide +kernel
theorem dX5_first_16 : decode cX5_first 16 = .ok (.iload_n 3, 1) := by decide +kernel
theorem dX5_first_17 : decode cX5_first 17 = .ok (.iaload, 1) := by decide +kernel
theorem dX5_first_18 : decode cX5_first 18 = .ok (.ifCond .ne 35, 3) := by decide +kernel
theorem dX5_first_21 : decode cX5_first 21 = .ok (.aload_n 0, 1) := by decide +kernel
theorem dX5_first_22 : decode cX5_first 22 = .ok (.getfield 28, 3) := by decide +kernel
theorem dX5_first_25 : decode cX5_first 25 = .ok (.iload_n 3, 1) := by decide +kernel
theorem dX5_first_26 : decode cX5_first 26 = .ok (.iaload, 1) := by decide +kernel
theorem dX5_first_27 : decode cX5_first 27 = .ok (.iload_n 1, 1) := by decide +kernel
theorem dX5_first_28 : decode cX5_first 28 = .ok (.if_icmp .ne 25, 3) := by decide +kernel
theorem dX5_first_31 : decode cX5_first 31 = .ok (.iload_n 2, 1) := by decide +kernel
theorem dX5_first_32 : decode cX5_first 32 = .ok (.iconst (-1), 1) := by decide +kernel
theorem dX5_first_33 : decode cX5_first 33 = .ok (.if_icmp .eq 18, 3) := by decide +kernel
theorem dX5_first_36 : decode cX5_first 36 = .ok (.aload_n 0, 1) := by decide +kernel
theorem dX5_first_37 : decode cX5_first 37 = .ok (.getfield 31, 3) := by decide +kernel
theorem dX5_first_40 : decode cX5_first 40 = .ok (.iload_n 3, 1) := by decide +kernel
theorem dX5_first_41 : decode cX5_first 41 = .ok (.iaload, 1) := by decide +kernel
theorem dX5_first_42 : decode cX5_first 42 = .ok (.aload_n 0, 1) := by decide +kernel
theorem dX5_first_43 : decode cX5_first 43 = .ok (.getfield 31, 3) := by decide +kernel
theorem dX5_first_46 : decode cX5_first 46 = .ok (.iload_n 2, 1) := by decide +kernel
theorem dX5_first_47 : decode cX5_first 47 = .ok (.iaload, 1) := by decide +kernel
theorem dX5_first_48 : decode cX5_first 48 = .ok (.if_icmp .ge 5, 3) := by decide +kernel
theorem dX5_first_51 : decode cX5_first 51 = .ok (.iload_n 3, 1) := by decide +kernel
theorem dX5_first_52 : decode cX5_first 52 = .ok (.istore_n 2, 1) := by decide +kernel
theorem dX5_first_53 : decode cX5_first 53 = .ok (.iinc 3 1, 3) := by decide +kernel
theorem dX5_first_56 : decode cX5_first 56 = .ok (.goto (-52), 3) := by decide +kernel
theorem dX5_first_59 : decode cX5_first 59 = .ok (.iload_n 2, 1) := by decide +kernel
theorem dX5_first_60 : decode cX5_first 60 = .ok (.ireturn, 1) := by decide +kernel
theorem dX5_there_0 : decode cX5_there 0 = .ok (.iconst 0, 1) := by decide +kernel
theorem dX5_there_1 : decode cX5_there 1 = .ok (.istore_n 2, 1) := by decide +kernel
theorem dX5_there_2 : decode cX5_there 2 = .ok (.iconst 0, 1) := by decide +kernel
theorem dX5_there_3 : decode cX5_there 3 = .ok (.istore_n 3, 1) := by decide +kernel
theorem dX5_there_4 : decode cX5_there 4 = .ok (.iload_n 3, 1) := by decide +kernel
theorem dX5_there_5 : decode cX5_there 5 = .ok (.aload_n 0, 1) := by decide +kernel
theorem dX5_there_6 : decode cX5_there 6 = .ok (.getfield 77, 3) := by decide +kernel
theorem dX5_there_9 : decode cX5_there 9 = .ok (.if_icmp .ge 36, 3) := by decide +kernel
theorem dX5_there_12 : decode cX5_there 12 = .ok (.iload_n 2, 1) := by decide +kernel
theorem dX5_there_13 : decode cX5_there 13 = .ok (.aload_n 0, 1) := by decide +kernel
theorem dX5_there_14 : decode cX5_there 14 = .ok (.getfield 25, 3) := by decide +kernel
theorem dX5_there_17 : decode cX5_there 17 = .ok (.iload_n 3, 1) := by decide +kernel
theorem dX5_there_18 : decode cX5_there 18 = .ok (.iaload, 1) := by decide +kernel
theorem dX5_there_19 : decode cX5_there 19 = .ok (.ifCond .ne 17, 3) := by decide +kernel
theorem dX5_there_22 : decode cX5_there 22 = .ok (.aload_n 0, 1) := by decide +kernel
theorem dX5_there_23 : decode cX5_there 23 = .ok (.getfield 28, 3) := by decide +kernel
theorem dX5_there_26 : decode cX5_there 26 = .ok (.iload_n 3, 1) := by decide +kernel
theorem dX5_there_27 : decode cX5_there 27 = .ok (.iaload, 1) := by decide +kernel
theorem dX5_there_28 : decode cX5_there 28 = .ok (.iload_n 1, 1) := by decide +kernel
theorem dX5_there_29 : decode cX5_there 29 = .ok (.if_icmp .ne 7, 3) := by decide +kernel
theorem dX5_there_32 : decode cX5_there 32 = .ok (.iconst 1, 1) := by decide +kernel
theorem dX5_there_33 : decode cX5_there 33 = .ok (.goto 4, 3) := by decide +kernel
theorem dX5_there_36 : decode cX5_there 36 = .ok (.iconst 0, 1) := by decide +kernel
theorem dX5_there_37 : decode cX5_there 37 = .ok (.iadd, 1) := by decide +kernel
theorem dX5_there_38 : decode cX5_there 38 = .ok (.istore_n 2, 1) := by decide +kernel
theorem dX5_there_39 : decode cX5_there 39 = .ok (.iinc 3 1, 3) := by decide +kernel
theorem dX5_there_42 : decode cX5_there 42 = .ok (.goto (-38), 3) := by decide +kernel
theorem dX5_there_45 : decode cX5_there 45 = .ok (.iload_n 2, 1) := by decide +kernel
theorem dX5_there_46 : decode cX5_there 46 = .ok (.ireturn, 1) := by decide +kernel
set_option maxRecDepth 20000 in
theorem ggX5_wouldGet_X5_first : GoodIn wsX5_wouldGet wsX5_first := goodIn_r _ [7, 8, 9, 10, 11, 12, 13, 14, 15, 16, 17, 18, 19, 20, 21, 22, 23, 24, 25, 26, 27, 28, 29, 30, 31, 32, 33] (by decide +kernel) (by decide +kernel)
set_option maxRecDepth 20000 in
theorem gX5_wouldGet_X5_first : GoodIn wsX5_wouldGet (wsV RX5 90 RX5 yX5_first wsX5_first) := goodIn_app (goodIn_of _ (by decide +kernel)) ggX5_wouldGet_X5_first
theorem dX5_wouldGet_0 : decode cX5_wouldGet 0 = .ok (.aload_n 0, 1) := by decide +kernel
theorem dX5_wouldGet_1 : decode cX5_wouldGet 1 = .ok (.getfield 58, 3) := by decide +kernel
theorem dX5_wouldGet_4 : decode cX5_wouldGet 4 = .ok (.iload_n 1, 1) := by decide +kernel
theorem dX5_wouldGet_5 : decode cX5_wouldGet 5 = .ok (.iaload, 1) := by decide +kernel
theorem dX5_wouldGet_6 : decode cX5_wouldGet 6 = .ok (.aload_n 0, 1) := by decide +kernel
theorem dX5_wouldGet_7 : decode cX5_wouldGet 7 = .ok (.getfield 19, 3) := by decide +kernel
theorem dX5_wouldGet_10 : decode cX5_wouldGet 10 = .ok (.iload_n 2, 1) := by decide +kernel
theorem dX5_wouldGet_11 : decode cX5_wouldGet 11 = .ok (.iaload, 1) := by decide +kernel
theorem dX5_wouldGet_12 : decode cX5_wouldGet 12 = .ok (.if_icmp .lt 16, 3) := by decide +kernel
theorem dX5_wouldGet_15 : decode cX5_wouldGet 15 = .ok (.aload_n 0, 1) := by decide +kernel
theorem dX5_wouldGet_16 : decode cX5_wouldGet 16 = .ok (.iload_n 2, 1) := by decide +kernel
theorem dX5_wouldGet_17 : decode cX5_wouldGet 17 = .ok (.invokevirtual 90, 3) := by decide +kernel
theorem dX5_wouldGet_20 : decode cX5_wouldGet 20 = .ok (.iconst (-1), 1) := by decide +kernel
theorem dX5_wouldGet_21 : decode cX5_wouldGet 21 = .ok (.if_icmp .eq 7, 3) := by decide +kernel
theorem dX5_wouldGet_24 : decode cX5_wouldGet 24 = .ok (.iconst 1, 1) := by decide +kernel
theorem dX5_wouldGet_25 : decode cX5_wouldGet 25 = .ok (.goto 4, 3) := by decide +kernel
theorem dX5_wouldGet_28 : decode cX5_wouldGet 28 = .ok (.iconst 0, 1) := by decide +kernel
theorem dX5_wouldGet_29 : decode cX5_wouldGet 29 = .ok (.ireturn, 1) := by decide +kernel
set_option maxRecDepth 20000 in
theorem ggX5_pass_X5_comeBack : GoodIn wsX5_pass wsX5_comeBack := goodIn_r _ [12, 3, 13, 14, 15, 16, 70, 71, 72, 73, 74, 75, 76, 77, 78, 79, 80, 81, 82, 83, 84, 85, 86, 87, 88, 89, 90, 91] (by decide +kernel) (by decide +kernel)
set_option maxRecDepth 20000 in
theorem gX5_pass_X5_comeBack : GoodIn wsX5_pass (wsV RX5 94 RX5 yX5_comeBack wsX5_comeBack) := goodIn_app (goodIn_of _ (by decide +kernel)) ggX5_pass_X5_comeBack
set_option maxRecDepth 20000 in
theorem ggX5_pass_X5_leave : GoodIn wsX5_pass wsX5_leave := goodIn_r _ [20, 5, 7, 14, 13, 15, 21, 22, 23, 24, 25, 6, 26, 27, 28, 29, 30, 31, 32, 33, 34, 35, 36, 37, 11, 38, 39, 40, 41, 42, 43, 44, 2, 16, 70, 71, 72, 73, 74, 75, 76, 77, 78, 79, 80, 81, 82, 83, 84, 85, 86, 87, 88, 89, 90, 91, 92, 93, 94, 95] (by decide +kernel) (by decide +kernel)
set_option maxRecDepth 20000 in
theorem gX5_pass_X5_leave : GoodIn wsX5_pass (wsV RX5 98 RX5 yX5_leave wsX5_leave) := goodIn_app (goodIn_of _ (by decide +kernel)) ggX5_pass_X5_leave
set_option maxRecDepth 20000 in
theorem ggX5_pass_X5_walk : GoodIn wsX5_pass wsX5_walk := goodIn_r _ [48, 26, 22, 23, 16, 14, 13, 3, 5, 25, 49, 50, 51, 11, 52, 6, 39, 32, 33, 30, 34, 53, 54, 55, 24, 15, 70, 71, 72, 73, 74, 75, 76, 77, 78, 79, 80, 81, 82, 83, 84, 85, 86, 87, 88, 89, 90, 91] (by decide +kernel) (by decide +kernel)
set_option maxRecDepth 20000 in
theorem gX5_pass_X5_walk : GoodIn wsX5_pass (wsV RX5 105 RX5 yX5_walk wsX5_walk) := goodIn_app (goodIn_of _ (by decide +kernel)) ggX5_pass_X5_walk
set_option maxRecDepth 20000 in
theorem ggX5_pass_X5_cart : GoodIn wsX5_pass wsX5_cart := goodIn_r _ [59, 60, 13, 61, 62, 63, 64, 11, 65, 2, 14, 41, 42, 43, 44, 16, 70, 71, 72, 73, 74, 75, 76, 77, 78, 79, 80, 81, 82, 83, 84, 85, 86, 87, 88, 89, 90, 91] (by decide +kernel) (by decide +kernel)
set_option maxRecDepth 20000 in
theorem gX5_pass_X5_cart : GoodIn wsX5_pass (wsV RX5 109 RX5 yX5_cart wsX5_cart) := goodIn_app (goodIn_of _ (by decide +kernel)) ggX5_pass_X5_cart
set_option maxRecDepth 20000 in
theorem ggX5_pass_X5_decree : GoodIn wsX5_pass wsX5_decree := goodIn_r _ [69, 60, 24, 40, 53, 54, 30, 55, 32, 33, 34, 70, 71, 72, 73, 74, 75, 76, 77, 78, 79, 80, 81, 82, 83, 84, 85, 86, 87, 88, 89, 90, 91] (by decide +kernel) (by decide +kernel)
set_option maxRecDepth 20000 in
theorem gX5_pass_X5_decree : GoodIn wsX5_pass (wsV RX5 112 RX5 yX5_decree wsX5_decree) := goodIn_app (goodIn_of _ (by decide +kernel)) ggX5_pass_X5_decree
theorem dX5_pass_0 : decode cX5_pass 0 = .ok (.aload_n 0, 1) := by decide +kernel
theorem dX5_pass_1 : decode cX5_pass 1 = .ok (.getfield 70, 3) := by decide +kernel
theorem dX5_pass_4 : decode cX5_pass 4 = .ok (.bipush 24, 2) := by decide +kernel
theorem dX5_pass_6 : decode cX5_pass 6 = .ok (.irem, 1) := by decide +kernel
theorem dX5_pass_7 : decode cX5_pass 7 = .ok (.istore_n 1, 1) := by decide +kernel
theorem dX5_pass_8 : decode cX5_pass 8 = .ok (.iconst 0, 1) := by decide +kernel
theorem dX5_pass_9 : decode cX5_pass 9 = .ok (.istore_n 2, 1) := by decide +kernel
theorem dX5_pass_10 : decode cX5_pass 10 = .ok (.iload_n 2, 1) := by decide +kernel
theorem dX5_pass_11 : decode cX5_pass 11 = .ok (.aload_n 0, 1) := by decide +kernel
theorem dX5_pass_12 : decode cX5_pass 12 = .ok (.getfield 77, 3) := by decide +kernel
theorem dX5_pass_15 : decode cX5_pass 15 = .ok (.if_icmp .ge 23, 3) := by decide +kernel
theorem dX5_pass_18 : decode cX5_pass 18 = .ok (.aload_n 0, 1) := by decide +kernel
theorem dX5_pass_19 : decode cX5_pass 19 = .ok (.getfield 34, 3) := by decide +kernel
theorem dX5_pass_22 : decode cX5_pass 22 = .ok (.iload_n 2, 1) := by decide +kernel
theorem dX5_pass_23 : decode cX5_pass 23 = .ok (.iaload, 1) := by decide +kernel
theorem dX5_pass_24 : decode cX5_pass 24 = .ok (.ifCond .le 8, 3) := by decide +kernel
theorem dX5_pass_27 : decode cX5_pass 27 = .ok (.aload_n 0, 1) := by decide +kernel
theorem dX5_pass_28 : decode cX5_pass 28 = .ok (.iload_n 2, 1) := by decide +kernel
theorem dX5_pass_29 : decode cX5_pass 29 = .ok (.invokevirtual 94, 3) := by decide +kernel
theorem dX5_pass_32 : decode cX5_pass 32 = .ok (.iinc 2 1, 3) := by decide +kernel
theorem dX5_pass_35 : decode cX5_pass 35 = .ok (.goto (-25), 3) := by decide +kernel
theorem dX5_pass_38 : decode cX5_pass 38 = .ok (.iconst 0, 1) := by decide +kernel
theorem dX5_pass_39 : decode cX5_pass 39 = .ok (.istore_n 2, 1) := by decide +kernel
theorem dX5_pass_40 : decode cX5_pass 40 = .ok (.iconst 0, 1) := by decide +kernel
theorem dX5_pass_41 : decode cX5_pass 41 = .ok (.istore_n 3, 1) := by decide +kernel
theorem dX5_pass_42 : decode cX5_pass 42 = .ok (.iload_n 3, 1) := by decide +kernel
theorem dX5_pass_43 : decode cX5_pass 43 = .ok (.aload_n 0, 1) := by decide +kernel
theorem dX5_pass_44 : decode cX5_pass 44 = .ok (.getfield 80, 3) := by decide +kernel
theorem dX5_pass_47 : decode cX5_pass 47 = .ok (.if_icmp .ge 75, 3) := by decide +kernel
theorem dX5_pass_50 : decode cX5_pass 50 = .ok (.aload_n 0, 1) := by decide +kernel
theorem dX5_pass_51 : decode cX5_pass 51 = .ok (.getfield 46, 3) := by decide +kernel
theorem dX5_pass_54 : decode cX5_pass 54 = .ok (.iload_n 3, 1) := by decide +kernel
theorem dX5_pass_55 : decode cX5_pass 55 = .ok (.iaload, 1) := by decide +kernel
theorem dX5_pass_56 : decode cX5_pass 56 = .ok (.aload_n 0, 1) := by decide +kernel
theorem dX5_pass_57 : decode cX5_pass 57 = .ok (.getfield 43, 3) := by decide +kernel
theorem dX5_pass_60 : decode cX5_pass 60 = .ok (.iconst 5, 1) := by decide +kernel
theorem dX5_pass_61 : decode cX5_pass 61 = .ok (.iload_n 3, 1) := by decide +kernel
theorem dX5_pass_62 : decode cX5_pass 62 = .ok (.imul, 1) := by decide +kernel
theorem dX5_pass_63 : decode cX5_pass 63 = .ok (.iaload, 1) := by decide +kernel
theorem dX5_pass_64 : decode cX5_pass 64 = .ok (.if_icmp .ne 7, 3) := by decide +kernel
theorem dX5_pass_67 : decode cX5_pass 67 = .ok (.iconst 1, 1) := by decide +kernel
theorem dX5_pass_68 : decode cX5_pass 68 = .ok (.goto 4, 3) := by decide +kernel
theorem dX5_pass_71 : decode cX5_pass 71 = .ok (.iconst 0, 1) := by decide +kernel
theorem dX5_pass_72 : decode cX5_pass 72 = .ok (.istore 4, 2) := by decide +kernel
theorem dX5_pass_74 : decode cX5_pass 74 = .ok (.aload_n 0, 1) := by decide +kernel
theorem dX5_pass_75 : decode cX5_pass 75 = .ok (.getfield 46, 3) := by decide +kernel
theorem dX5_pass_78 : decode cX5_pass 78 = .ok (.iload_n 3, 1) := by decide +kernel
theorem dX5_pass_79 : decode cX5_pass 79 = .ok (.iaload, 1) := by decide +kernel
theorem dX5_pass_80 : decode cX5_pass 80 = .ok (.iconst (-1), 1) := by decide +kernel
theorem dX5_pass_81 : decode cX5_pass 81 = .ok (.if_icmp .eq 35, 3) := by decide +kernel
theorem dX5_pass_84 : decode cX5_pass 84 = .ok (.iload_n 1, 1) := by decide +kernel
theorem dX5_pass_85 : decode cX5_pass 85 = .ok (.aload_n 0, 1) := by decide +kernel
theorem dX5_pass_86 : decode cX5_pass 86 = .ok (.getfield 43, 3) := by decide +kernel
theorem dX5_pass_89 : decode cX5_pass 89 = .ok (.iconst 5, 1) := by decide +kernel
theorem dX5_pass_90 : decode cX5_pass 90 = .ok (.iload_n 3, 1) := by decide +kernel
theorem dX5_pass_91 : decode cX5_pass 91 = .ok (.imul, 1) := by decide +kernel
theorem dX5_pass_92 : decode cX5_pass 92 = .ok (.iload 4, 2) := by decide +kernel
theorem dX5_pass_94 : decode cX5_pass 94 = .ok (.ifCond .eq 7, 3) := by decide +kernel
theorem dX5_pass_97 : decode cX5_pass 97 = .ok (.iconst 2, 1) := by decide +kernel
theorem dX5_pass_98 : decode cX5_pass 98 = .ok (.goto 4, 3) := by decide +kernel
theorem dX5_pass_101 : decode cX5_pass 101 = .ok (.iconst 3, 1) := by decide +kernel
theorem dX5_pass_102 : decode cX5_pass 102 = .ok (.iadd, 1) := by decide +kernel
theorem dX5_pass_103 : decode cX5_pass 103 = .ok (.iaload, 1) := by decide +kernel
theorem dX5_pass_104 : decode cX5_pass 104 = .ok (.if_icmp .ne 12, 3) := by decide +kernel
theorem dX5_pass_107 : decode cX5_pass 107 = .ok (.iload_n 2, 1) := by decide +kernel
theorem dX5_pass_108 : decode cX5_pass 108 = .ok (.aload_n 0, 1) := by decide +kernel
theorem dX5_pass_109 : decode cX5_pass 109 = .ok (.iload_n 3, 1) := by decide +kernel
theorem dX5_pass_110 : decode cX5_pass 110 = .ok (.iload_n 1, 1) := by decide +kernel
theorem dX5_pass_111 : decode cX5_pass 111 = .ok (.invokevirtual 98, 3) := by decide +kernel
theorem dX5_pass_114 : decode cX5_pass 114 = .ok (.iadd, 1) := by decide +kernel
theorem dX5_pass_115 : decode cX5_pass 115 = .ok (.istore_n 2, 1) := by decide +kernel
theorem dX5_pass_116 : decode cX5_pass 116 = .ok (.iinc 3 1, 3) := by decide +kernel
theorem dX5_pass_119 : decode cX5_pass 119 = .ok (.goto (-77), 3) := by decide +kernel
theorem dX5_pass_122 : decode cX5_pass 122 = .ok (.iconst 0, 1) := by decide +kernel
theorem dX5_pass_123 : decode cX5_pass 123 = .ok (.istore_n 3, 1) := by decide +kernel
theorem dX5_pass_124 : decode cX5_pass 124 = .ok (.iload_n 3, 1) := by decide +kernel
theorem dX5_pass_125 : decode cX5_pass 125 = .ok (.aload_n 0, 1) := by decide +kernel
theorem dX5_pass_126 : decode cX5_pass 126 = .ok (.getfield 80, 3) := by decide +kernel
theorem dX5_pass_129 : decode cX5_pass 129 = .ok (.if_icmp .ge 33, 3) := by decide +kernel
theorem dX5_pass_132 : decode cX5_pass 132 = .ok (.aload_n 0, 1) := by decide +kernel
theorem dX5_pass_133 : decode cX5_pass 133 = .ok (.getfield 46, 3) := by decide +kernel
theorem dX5_pass_136 : decode cX5_pass 136 = .ok (.iload_n 3, 1) := by decide +kernel
theorem dX5_pass_137 : decode cX5_pass 137 = .ok (.iaload, 1) := by decide +kernel
theorem dX5_pass_138 : decode cX5_pass 138 = .ok (.iconst (-1), 1) := by decide +kernel
theorem dX5_pass_139 : decode cX5_pass 139 = .ok (.if_icmp .ne 17, 3) := by decide +kernel
theorem dX5_pass_142 : decode cX5_pass 142 = .ok (.aload_n 0, 1) := by decide +kernel
theorem dX5_pass_143 : decode cX5_pass 143 = .ok (.iload_n 3, 1) := by decide +kernel
theorem dX5_pass_144 : decode cX5_pass 144 = .ok (.aload_n 0, 1) := by decide +kernel
theorem dX5_pass_145 : decode cX5_pass 145 = .ok (.getfield 3, 3) := by decide +kernel
theorem dX5_pass_148 : decode cX5_pass 148 = .ok (.getfield 102, 3) := by decide +kernel
theorem dX5_pass_151 : decode cX5_pass 151 = .ok (.iload_n 1, 1) := by decide +kernel
theorem dX5_pass_152 : decode cX5_pass 152 = .ok (.iaload, 1) := by decide +kernel
theorem dX5_pass_153 : decode cX5_pass 153 = .ok (.invokevirtual 105, 3) := by decide +kernel
theorem dX5_pass_156 : decode cX5_pass 156 = .ok (.iinc 3 1, 3) := by decide +kernel
theorem dX5_pass_159 : decode cX5_pass 159 = .ok (.goto (-35), 3) := by decide +kernel
theorem dX5_pass_162 : decode cX5_pass 162 = .ok (.iload_n 1, 1) := by decide +kernel
theorem dX5_pass_163 : decode cX5_pass 163 = .ok (.bipush 6, 2) := by decide +kernel
theorem dX5_pass_165 : decode cX5_pass 165 = .ok (.irem, 1) := by decide +kernel
theorem dX5_pass_166 : decode cX5_pass 166 = .ok (.ifCond .ne 7, 3) := by decide +kernel
theorem dX5_pass_169 : decode cX5_pass 169 = .ok (.aload_n 0, 1) := by decide +kernel
theorem dX5_pass_170 : decode cX5_pass 170 = .ok (.invokevirtual 109, 3) := by decide +kernel
theorem dX5_pass_173 : decode cX5_pass 173 = .ok (.iload_n 1, 1) := by decide +kernel
theorem dX5_pass_174 : decode cX5_pass 174 = .ok (.bipush 23, 2) := by decide +kernel
theorem dX5_pass_176 : decode cX5_pass 176 = .ok (.if_icmp .ne 7, 3) := by decide +kernel
theorem dX5_pass_179 : decode cX5_pass 179 = .ok (.aload_n 0, 1) := by decide +kernel
theorem dX5_pass_180 : decode cX5_pass 180 = .ok (.invokevirtual 112, 3) := by decide +kernel
theorem dX5_pass_183 : decode cX5_pass 183 = .ok (.aload_n 0, 1) := by decide +kernel
theorem dX5_pass_184 : decode cX5_pass 184 = .ok (.dup, 1) := by decide +kernel
theorem dX5_pass_185 : decode cX5_pass 185 = .ok (.getfield 70, 3) := by decide +kernel
theorem dX5_pass_188 : decode cX5_pass 188 = .ok (.iconst 1, 1) := by decide +kernel
theorem dX5_pass_189 : decode cX5_pass 189 = .ok (.iadd, 1) := by decide +kernel
theorem dX5_pass_190 : decode cX5_pass 190 = .ok (.putfield 70, 3) := by decide +kernel
theorem dX5_pass_193 : decode cX5_pass 193 = .ok (.iload_n 2, 1) := by decide +kernel
theorem dX5_pass_194 : decode cX5_pass 194 = .ok (.ireturn, 1) := by decide +kernel
theorem dX5_comeBack_0 : decode cX5_comeBack 0 = .ok (.aload_n 0, 1) := by decide +kernel
theorem dX5_comeBack_1 : decode cX5_comeBack 1 = .ok (.getfield 34, 3) := by decide +kernel
theorem dX5_comeBack_4 : decode cX5_comeBack 4 = .ok (.iload_n 1, 1) := by decide +kernel
theorem dX5_comeBack_5 : decode cX5_comeBack 5 = .ok (.dup2, 1) := by decide +kernel
theorem dX5_comeBack_6 : decode cX5_comeBack 6 = .ok (.iaload, 1) := by decide +kernel
theorem dX5_comeBack_7 : decode cX5_comeBack 7 = .ok (.iconst 1, 1) := by decide +kernel
theorem dX5_comeBack_8 : decode cX5_comeBack 8 = .ok (.isub, 1) := by decide +kernel
theorem dX5_comeBack_9 : decode cX5_comeBack 9 = .ok (.iastore, 1) := by decide +kernel
theorem dX5_comeBack_10 : decode cX5_comeBack 10 = .ok (.aload_n 0, 1) := by decide +kernel
theorem dX5_comeBack_11 : decode cX5_comeBack 11 = .ok (.getfield 34, 3) := by decide +kernel
theorem dX5_comeBack_14 : decode cX5_comeBack 14 = .ok (.iload_n 1, 1) := by decide +kernel
theorem dX5_comeBack_15 : decode cX5_comeBack 15 = .ok (.iaload, 1) := by decide +kernel
theorem dX5_comeBack_16 : decode cX5_comeBack 16 = .ok (.ifCond .le 4, 3) := by decide +kernel
theorem dX5_comeBack_19 : decode cX5_comeBack 19 = .ok (.return_, 1) := by decide +kernel
theorem dX5_comeBack_20 : decode cX5_comeBack 20 = .ok (.aload_n 0, 1) := by decide +kernel
theorem dX5_comeBack_21 : decode cX5_comeBack 21 = .ok (.getfield 28, 3) := by decide +kernel
theorem dX5_comeBack_24 : decode cX5_comeBack 24 = .ok (.iload_n 1, 1) := by decide +kernel
theorem dX5_comeBack_25 : decode cX5_comeBack 25 = .ok (.aload_n 0, 1) := by decide +kernel
theorem dX5_comeBack_26 : decode cX5_comeBack 26 = .ok (.getfield 25, 3) := by decide +kernel
theorem dX5_comeBack_29 : decode cX5_comeBack 29 = .ok (.iload_n 1, 1) := by decide +kernel
theorem dX5_comeBack_30 : decode cX5_comeBack 30 = .ok (.iaload, 1) := by decide +kernel
theorem dX5_comeBack_31 : decode cX5_comeBack 31 = .ok (.iconst 2, 1) := by decide +kernel
theorem dX5_comeBack_32 : decode cX5_comeBack 32 = .ok (.if_icmp .ne 12, 3) := by decide +kernel
theorem dX5_comeBack_35 : decode cX5_comeBack 35 = .ok (.aload_n 0, 1) := by decide +kernel
theorem dX5_comeBack_36 : decode cX5_comeBack 36 = .ok (.getfield 40, 3) := by decide +kernel
theorem dX5_comeBack_39 : decode cX5_comeBack 39 = .ok (.iload_n 1, 1) := by decide +kernel
theorem dX5_comeBack_40 : decode cX5_comeBack 40 = .ok (.iaload, 1) := by decide +kernel
theorem dX5_comeBack_41 : decode cX5_comeBack 41 = .ok (.goto 4, 3) := by decide +kernel
theorem dX5_comeBack_44 : decode cX5_comeBack 44 = .ok (.iconst 0, 1) := by decide +kernel
theorem dX5_comeBack_45 : decode cX5_comeBack 45 = .ok (.iastore, 1) := by decide +kernel
theorem dX5_comeBack_46 : decode cX5_comeBack 46 = .ok (.aload_n 0, 1) := by decide +kernel
theorem dX5_comeBack_47 : decode cX5_comeBack 47 = .ok (.getfield 25, 3) := by decide +kernel
theorem dX5_comeBack_50 : decode cX5_comeBack 50 = .ok (.iload_n 1, 1) := by decide +kernel
theorem dX5_comeBack_51 : decode cX5_comeBack 51 = .ok (.iaload, 1) := by decide +kernel
theorem dX5_comeBack_52 : decode cX5_comeBack 52 = .ok (.iconst 3, 1) := by decide +kernel
theorem dX5_comeBack_53 : decode cX5_comeBack 53 = .ok (.if_icmp .ne 10, 3) := by decide +kernel
theorem dX5_comeBack_56 : decode cX5_comeBack 56 = .ok (.aload_n 0, 1) := by decide +kernel
theorem dX5_comeBack_57 : decode cX5_comeBack 57 = .ok (.getfield 31, 3) := by decide +kernel
theorem dX5_comeBack_60 : decode cX5_comeBack 60 = .ok (.iload_n 1, 1) := by decide +kernel
theorem dX5_comeBack_61 : decode cX5_comeBack 61 = .ok (.iconst 0, 1) := by decide +kernel
theorem dX5_comeBack_62 : decode cX5_comeBack 62 = .ok (.iastore, 1) := by decide +kernel
theorem dX5_comeBack_63 : decode cX5_comeBack 63 = .ok (.aload_n 0, 1) := by decide +kernel
theorem dX5_comeBack_64 : decode cX5_comeBack 64 = .ok (.getfield 25, 3) := by decide +kernel
theorem dX5_comeBack_67 : decode cX5_comeBack 67 = .ok (.iload_n 1, 1) := by decide +kernel
theorem dX5_comeBack_68 : decode cX5_comeBack 68 = .ok (.iconst 0, 1) := by decide +kernel
theorem dX5_comeBack_69 : decode cX5_comeBack 69 = .ok (.iastore, 1) := by decide +kernel
theorem dX5_comeBack_70 : decode cX5_comeBack 70 = .ok (.return_, 1) := by decide +kernel
set_option maxRecDepth 20000 in
theorem ggX5_leave_X5_wouldGet : GoodIn wsX5_leave wsX5_wouldGet := goodIn_r _ [25, 26, 27, 28, 29, 30, 24, 31, 32, 3, 4, 33, 34, 35, 36, 37, 38, 39, 40, 41, 42, 43, 44, 45, 46, 47, 48, 49, 50, 51, 52, 53, 54, 55] (by decide +kernel) (by decide +kernel)
set_option maxRecDepth 20000 in
theorem gX5_leave_X5_wouldGet : GoodIn wsX5_leave (wsV RX5 115 RX5 yX5_wouldGet wsX5_wouldGet) := goodIn_app (goodIn_of _ (by decide +kernel)) ggX5_leave_X5_wouldGet
set_option maxRecDepth 20000 in
theorem ggX5_leave_X5_first : GoodIn wsX5_leave wsX5_first := goodIn_r _ [31, 32, 3, 4, 33, 34, 35, 36, 37, 38, 39, 40, 41, 42, 43, 44, 45, 46, 47, 48, 49, 50, 51, 52, 53, 54, 55] (by decide +kernel) (by decide +kernel)
set_option maxRecDepth 20000 in
theorem gX5_leave_X5_first : GoodIn wsX5_leave (wsV RX5 90 RX5 yX5_first wsX5_first) := goodIn_app (goodIn_of _ (by decide +kernel)) ggX5_leave_X5_first
theorem dX5_leave_0 : decode cX5_leave 0 = .ok (.aload_n 0, 1) := by decide +kernel
theorem dX5_leave_1 : decode cX5_leave 1 = .ok (.getfield 46, 3) := by decide +kernel
theorem dX5_leave_4 : decode cX5_leave 4 = .ok (.iload_n 1, 1) := by decide +kernel
theorem dX5_leave_5 : decode cX5_leave 5 = .ok (.iaload, 1) := by decide +kernel
theorem dX5_leave_6 : decode cX5_leave 6 = .ok (.istore_n 3, 1) := by decide +kernel
theorem dX5_leave_7 : decode cX5_leave 7 = .ok (.iconst 0, 1) := by decide +kernel
theorem dX5_leave_8 : decode cX5_leave 8 = .ok (.istore 4, 2) := by decide +kernel
theorem dX5_leave_10 : decode cX5_leave 10 = .ok (.aload_n 0, 1) := by decide +kernel
theorem dX5_leave_11 : decode cX5_leave 11 = .ok (.getfield 3, 3) := by decide +kernel
theorem dX5_leave_14 : decode cX5_leave 14 = .ok (.getfield 102, 3) := by decide +kernel
theorem dX5_leave_17 : decode cX5_leave 17 = .ok (.iload_n 2, 1) := by decide +kernel
theorem dX5_leave_18 : decode cX5_leave 18 = .ok (.iaload, 1) := by decide +kernel
theorem dX5_leave_19 : decode cX5_leave 19 = .ok (.ifCond .gt 20, 3) := by decide +kernel
theorem dX5_leave_22 : decode cX5_leave 22 = .ok (.aload_n 0, 1) := by decide +kernel
theorem dX5_leave_23 : decode cX5_leave 23 = .ok (.getfield 3, 3) := by decide +kernel
theorem dX5_leave_26 : decode cX5_leave 26 = .ok (.getfield 102, 3) := by decide +kernel
theorem dX5_leave_29 : decode cX5_leave 29 = .ok (.iload_n 2, 1) := by decide +kernel
theorem dX5_leave_30 : decode cX5_leave 30 = .ok (.iconst 1, 1) := by decide +kernel
theorem dX5_leave_31 : decode cX5_leave 31 = .ok (.iadd, 1) := by decide +kernel
theorem dX5_leave_32 : decode cX5_leave 32 = .ok (.bipush 24, 2) := by decide +kernel
theorem dX5_leave_34 : decode cX5_leave 34 = .ok (.irem, 1) := by decide +kernel
theorem dX5_leave_35 : decode cX5_leave 35 = .ok (.iaload, 1) := by decide +kernel
theorem dX5_leave_36 : decode cX5_leave 36 = .ok (.ifCond .le 136, 3) := by decide +kernel
theorem dX5_leave_39 : decode cX5_leave 39 = .ok (.aload_n 0, 1) := by decide +kernel
theorem dX5_leave_40 : decode cX5_leave 40 = .ok (.iload_n 1, 1) := by decide +kernel
theorem dX5_leave_41 : decode cX5_leave 41 = .ok (.iload_n 3, 1) := by decide +kernel
theorem dX5_leave_42 : decode cX5_leave 42 = .ok (.invokevirtual 115, 3) := by decide +kernel
theorem dX5_leave_45 : decode cX5_leave 45 = .ok (.ifCond .eq 85, 3) := by decide +kernel
theorem dX5_leave_48 : decode cX5_leave 48 = .ok (.aload_n 0, 1) := by decide +kernel
theorem dX5_leave_49 : decode cX5_leave 49 = .ok (.iload_n 3, 1) := by decide +kernel
theorem dX5_leave_50 : decode cX5_leave 50 = .ok (.invokevirtual 90, 3) := by decide +kernel
theorem dX5_leave_53 : decode cX5_leave 53 = .ok (.istore 5, 2) := by decide +kernel
theorem dX5_leave_55 : decode cX5_leave 55 = .ok (.aload_n 0, 1) := by decide +kernel
theorem dX5_leave_56 : decode cX5_leave 56 = .ok (.getfield 25, 3) := by decide +kernel
theorem dX5_leave_59 : decode cX5_leave 59 = .ok (.iload 5, 2) := by decide +kernel
theorem dX5_leave_61 : decode cX5_leave 61 = .ok (.iconst 1, 1) := by decide +kernel
theorem dX5_leave_62 : decode cX5_leave 62 = .ok (.iastore, 1) := by decide +kernel
theorem dX5_leave_63 : decode cX5_leave 63 = .ok (.aload_n 0, 1) := by decide +kernel
theorem dX5_leave_64 : decode cX5_leave 64 = .ok (.getfield 28, 3) := by decide +kernel
theorem dX5_leave_67 : decode cX5_leave 67 = .ok (.iload 5, 2) := by decide +kernel
theorem dX5_leave_69 : decode cX5_leave 69 = .ok (.iload_n 1, 1) := by decide +kernel
theorem dX5_leave_70 : decode cX5_leave 70 = .ok (.iastore, 1) := by decide +kernel
theorem dX5_leave_71 : decode cX5_leave 71 = .ok (.aload_n 0, 1) := by decide +kernel
theorem dX5_leave_72 : decode cX5_leave 72 = .ok (.getfield 40, 3) := by decide +kernel
theorem dX5_leave_75 : decode cX5_leave 75 = .ok (.iload 5, 2) := by decide +kernel
theorem dX5_leave_77 : decode cX5_leave 77 = .ok (.iload_n 3, 1) := by decide +kernel
theorem dX5_leave_78 : decode cX5_leave 78 = .ok (.iastore, 1) := by decide +kernel
theorem dX5_leave_79 : decode cX5_leave 79 = .ok (.aload_n 0, 1) := by decide +kernel
theorem dX5_leave_80 : decode cX5_leave 80 = .ok (.getfield 37, 3) := by decide +kernel
theorem dX5_leave_83 : decode cX5_leave 83 = .ok (.iload 5, 2) := by decide +kernel
theorem dX5_leave_85 : decode cX5_leave 85 = .ok (.dup2, 1) := by decide +kernel
theorem dX5_leave_86 : decode cX5_leave 86 = .ok (.iaload, 1) := by decide +kernel
theorem dX5_leave_87 : decode cX5_leave 87 = .ok (.iconst 1, 1) := by decide +kernel
theorem dX5_leave_88 : decode cX5_leave 88 = .ok (.iadd, 1) := by decide +kernel
theorem dX5_leave_89 : decode cX5_leave 89 = .ok (.iastore, 1) := by decide +kernel
theorem dX5_leave_90 : decode cX5_leave 90 = .ok (.aload_n 0, 1) := by decide +kernel
theorem dX5_leave_91 : decode cX5_leave 91 = .ok (.getfield 55, 3) := by decide +kernel
theorem dX5_leave_94 : decode cX5_leave 94 = .ok (.iload_n 1, 1) := by decide +kernel
theorem dX5_leave_95 : decode cX5_leave 95 = .ok (.iload 5, 2) := by decide +kernel
theorem dX5_leave_97 : decode cX5_leave 97 = .ok (.iastore, 1) := by decide +kernel
theorem dX5_leave_98 : decode cX5_leave 98 = .ok (.aload_n 0, 1) := by decide +kernel
theorem dX5_leave_99 : decode cX5_leave 99 = .ok (.getfield 61, 3) := by decide +kernel
theorem dX5_leave_102 : decode cX5_leave 102 = .ok (.iconst 4, 1) := by decide +kernel
theorem dX5_leave_103 : decode cX5_leave 103 = .ok (.iload_n 1, 1) := by decide +kernel
theorem dX5_leave_104 : decode cX5_leave 104 = .ok (.imul, 1) := by decide +kernel
theorem dX5_leave_105 : decode cX5_leave 105 = .ok (.iconst 1, 1) := by decide +kernel
theorem dX5_leave_106 : decode cX5_leave 106 = .ok (.iadd, 1) := by decide +kernel
theorem dX5_leave_107 : decode cX5_leave 107 = .ok (.dup2, 1) := by decide +kernel
theorem dX5_leave_108 : decode cX5_leave 108 = .ok (.iaload, 1) := by decide +kernel
theorem dX5_leave_109 : decode cX5_leave 109 = .ok (.iconst 1, 1) := by decide +kernel
theorem dX5_leave_110 : decode cX5_leave 110 = .ok (.iadd, 1) := by decide +kernel
theorem dX5_leave_111 : decode cX5_leave 111 = .ok (.iastore, 1) := by decide +kernel
theorem dX5_leave_112 : decode cX5_leave 112 = .ok (.aload_n 0, 1) := by decide +kernel
theorem dX5_leave_113 : decode cX5_leave 113 = .ok (.getfield 22, 3) := by decide +kernel
theorem dX5_leave_116 : decode cX5_leave 116 = .ok (.iconst 5, 1) := by decide +kernel
theorem dX5_leave_117 : decode cX5_leave 117 = .ok (.iload_n 3, 1) := by decide +kernel
theorem dX5_leave_118 : decode cX5_leave 118 = .ok (.imul, 1) := by decide +kernel
theorem dX5_leave_119 : decode cX5_leave 119 = .ok (.dup2, 1) := by decide +kernel
theorem dX5_leave_120 : decode cX5_leave 120 = .ok (.iaload, 1) := by decide +kernel
theorem dX5_leave_121 : decode cX5_leave 121 = .ok (.iconst 1, 1) := by decide +kernel
theorem dX5_leave_122 : decode cX5_leave 122 = .ok (.iadd, 1) := by decide +kernel
theorem dX5_leave_123 : decode cX5_leave 123 = .ok (.iastore, 1) := by decide +kernel
theorem dX5_leave_124 : decode cX5_leave 124 = .ok (.iconst 1, 1) := by decide +kernel
theorem dX5_leave_125 : decode cX5_leave 125 = .ok (.istore 4, 2) := by decide +kernel
theorem dX5_leave_127 : decode cX5_leave 127 = .ok (.goto 45, 3) := by decide +kernel
theorem dX5_leave_130 : decode cX5_leave 130 = .ok (.aload_n 0, 1) := by decide +kernel
theorem dX5_leave_131 : decode cX5_leave 131 = .ok (.getfield 61, 3) := by decide +kernel
theorem dX5_leave_134 : decode cX5_leave 134 = .ok (.iconst 4, 1) := by decide +kernel
theorem dX5_leave_135 : decode cX5_leave 135 = .ok (.iload_n 1, 1) := by decide +kernel
theorem dX5_leave_136 : decode cX5_leave 136 = .ok (.imul, 1) := by decide +kernel
theorem dX5_leave_137 : decode cX5_leave 137 = .ok (.iconst 3, 1) := by decide +kernel
theorem dX5_leave_138 : decode cX5_leave 138 = .ok (.iadd, 1) := by decide +kernel
theorem dX5_leave_139 : decode cX5_leave 139 = .ok (.dup2, 1) := by decide +kernel
theorem dX5_leave_140 : decode cX5_leave 140 = .ok (.iaload, 1) := by decide +kernel
theorem dX5_leave_141 : decode cX5_leave 141 = .ok (.iconst 1, 1) := by decide +kernel
theorem dX5_leave_142 : decode cX5_leave 142 = .ok (.iadd, 1) := by decide +kernel
theorem dX5_leave_143 : decode cX5_leave 143 = .ok (.iastore, 1) := by decide +kernel
theorem dX5_leave_144 : decode cX5_leave 144 = .ok (.aload_n 0, 1) := by decide +kernel
theorem dX5_leave_145 : decode cX5_leave 145 = .ok (.getfield 22, 3) := by decide +kernel
theorem dX5_leave_148 : decode cX5_leave 148 = .ok (.iconst 5, 1) := by decide +kernel
theorem dX5_leave_149 : decode cX5_leave 149 = .ok (.iload_n 3, 1) := by decide +kernel
theorem dX5_leave_150 : decode cX5_leave 150 = .ok (.imul, 1) := by decide +kernel
theorem dX5_leave_151 : decode cX5_leave 151 = .ok (.iconst 2, 1) := by decide +kernel
theorem dX5_leave_152 : decode cX5_leave 152 = .ok (.iadd, 1) := by decide +kernel
theorem dX5_leave_153 : decode cX5_leave 153 = .ok (.dup2, 1) := by decide +kernel
theorem dX5_leave_154 : decode cX5_leave 154 = .ok (.iaload, 1) := by decide +kernel
theorem dX5_leave_155 : decode cX5_leave 155 = .ok (.iconst 1, 1) := by decide +kernel
theorem dX5_leave_156 : decode cX5_leave 156 = .ok (.iadd, 1) := by decide +kernel
theorem dX5_leave_157 : decode cX5_leave 157 = .ok (.iastore, 1) := by decide +kernel
theorem dX5_leave_158 : decode cX5_leave 158 = .ok (.aload_n 0, 1) := by decide +kernel
theorem dX5_leave_159 : decode cX5_leave 159 = .ok (.getfield 22, 3) := by decide +kernel
theorem dX5_leave_162 : decode cX5_leave 162 = .ok (.iconst 5, 1) := by decide +kernel
theorem dX5_leave_163 : decode cX5_leave 163 = .ok (.iload_n 3, 1) := by decide +kernel
theorem dX5_leave_164 : decode cX5_leave 164 = .ok (.imul, 1) := by decide +kernel
theorem dX5_leave_165 : decode cX5_leave 165 = .ok (.iconst 4, 1) := by decide +kernel
theorem dX5_leave_166 : decode cX5_leave 166 = .ok (.iadd, 1) := by decide +kernel
theorem dX5_leave_167 : decode cX5_leave 167 = .ok (.dup2, 1) := by decide +kernel
theorem dX5_leave_168 : decode cX5_leave 168 = .ok (.iaload, 1) := by decide +kernel
theorem dX5_leave_169 : decode cX5_leave 169 = .ok (.iconst 1, 1) := by decide +kernel
theorem dX5_leave_170 : decode cX5_leave 170 = .ok (.iadd, 1) := by decide +kernel
theorem dX5_leave_171 : decode cX5_leave 171 = .ok (.iastore, 1) := by decide +kernel
theorem dX5_leave_172 : decode cX5_leave 172 = .ok (.aload_n 0, 1) := by decide +kernel
theorem dX5_leave_173 : decode cX5_leave 173 = .ok (.getfield 49, 3) := by decide +kernel
theorem dX5_leave_176 : decode cX5_leave 176 = .ok (.iload_n 1, 1) := by decide +kernel
theorem dX5_leave_177 : decode cX5_leave 177 = .ok (.iload_n 3, 1) := by decide +kernel
theorem dX5_leave_178 : decode cX5_leave 178 = .ok (.aload_n 0, 1) := by decide +kernel
theorem dX5_leave_179 : decode cX5_leave 179 = .ok (.getfield 43, 3) := by decide +kernel
theorem dX5_leave_182 : decode cX5_leave 182 = .ok (.iconst 5, 1) := by decide +kernel
theorem dX5_leave_183 : decode cX5_leave 183 = .ok (.iload_n 1, 1) := by decide +kernel
theorem dX5_leave_184 : decode cX5_leave 184 = .ok (.imul, 1) := by decide +kernel
theorem dX5_leave_185 : decode cX5_leave 185 = .ok (.iaload, 1) := by decide +kernel
theorem dX5_leave_186 : decode cX5_leave 186 = .ok (.if_icmp .ne 16, 3) := by decide +kernel
theorem dX5_leave_189 : decode cX5_leave 189 = .ok (.aload_n 0, 1) := by decide +kernel
theorem dX5_leave_190 : decode cX5_leave 190 = .ok (.getfield 43, 3) := by decide +kernel
theorem dX5_leave_193 : decode cX5_leave 193 = .ok (.iconst 5, 1) := by decide +kernel
theorem dX5_leave_194 : decode cX5_leave 194 = .ok (.iload_n 1, 1) := by decide +kernel
theorem dX5_leave_195 : decode cX5_leave 195 = .ok (.imul, 1) := by decide +kernel
theorem dX5_leave_196 : decode cX5_leave 196 = .ok (.iconst 1, 1) := by decide +kernel
theorem dX5_leave_197 : decode cX5_leave 197 = .ok (.iadd, 1) := by decide +kernel
theorem dX5_leave_198 : decode cX5_leave 198 = .ok (.iaload, 1) := by decide +kernel
theorem dX5_leave_199 : decode cX5_leave 199 = .ok (.goto 11, 3) := by decide +kernel
theorem dX5_leave_202 : decode cX5_leave 202 = .ok (.aload_n 0, 1) := by decide +kernel
theorem dX5_leave_203 : decode cX5_leave 203 = .ok (.getfield 43, 3) := by decide +kernel
theorem dX5_leave_206 : decode cX5_leave 206 = .ok (.iconst 5, 1) := by decide +kernel
theorem dX5_leave_207 : decode cX5_leave 207 = .ok (.iload_n 1, 1) := by decide +kernel
theorem dX5_leave_208 : decode cX5_leave 208 = .ok (.imul, 1) := by decide +kernel
theorem dX5_leave_209 : decode cX5_leave 209 = .ok (.iaload, 1) := by decide +kernel
theorem dX5_leave_210 : decode cX5_leave 210 = .ok (.iastore, 1) := by decide +kernel
theorem dX5_leave_211 : decode cX5_leave 211 = .ok (.aload_n 0, 1) := by decide +kernel
theorem dX5_leave_212 : decode cX5_leave 212 = .ok (.getfield 52, 3) := by decide +kernel
theorem dX5_leave_215 : decode cX5_leave 215 = .ok (.iload_n 1, 1) := by decide +kernel
theorem dX5_leave_216 : decode cX5_leave 216 = .ok (.iconst 1, 1) := by decide +kernel
theorem dX5_leave_217 : decode cX5_leave 217 = .ok (.aload_n 0, 1) := by decide +kernel
theorem dX5_leave_218 : decode cX5_leave 218 = .ok (.getfield 15, 3) := by decide +kernel
theorem dX5_leave_221 : decode cX5_leave 221 = .ok (.iload_n 3, 1) := by decide +kernel
theorem dX5_leave_222 : decode cX5_leave 222 = .ok (.iaload, 1) := by decide +kernel
theorem dX5_leave_223 : decode cX5_leave 223 = .ok (.aload_n 0, 1) := by decide +kernel
theorem dX5_leave_224 : decode cX5_leave 224 = .ok (.getfield 15, 3) := by decide +kernel
theorem dX5_leave_227 : decode cX5_leave 227 = .ok (.aload_n 0, 1) := by decide +kernel
theorem dX5_leave_228 : decode cX5_leave 228 = .ok (.getfield 49, 3) := by decide +kernel
theorem dX5_leave_231 : decode cX5_leave 231 = .ok (.iload_n 1, 1) := by decide +kernel
theorem dX5_leave_232 : decode cX5_leave 232 = .ok (.iaload, 1) := by decide +kernel
theorem dX5_leave_233 : decode cX5_leave 233 = .ok (.iaload, 1) := by decide +kernel
theorem dX5_leave_234 : decode cX5_leave 234 = .ok (.isub, 1) := by decide +kernel
theorem dX5_leave_235 : decode cX5_leave 235 = .ok (.invokestatic 119, 3) := by decide +kernel
theorem dX5_leave_238 : decode cX5_leave 238 = .ok (.bipush 10, 2) := by decide +kernel
theorem dX5_leave_240 : decode cX5_leave 240 = .ok (.idiv, 1) := by decide +kernel
theorem dX5_leave_241 : decode cX5_leave 241 = .ok (.invokestatic 124, 3) := by decide +kernel
theorem dX5_leave_244 : decode cX5_leave 244 = .ok (.iastore, 1) := by decide +kernel
theorem dX5_leave_245 : decode cX5_leave 245 = .ok (.aload_n 0, 1) := by decide +kernel
theorem dX5_leave_246 : decode cX5_leave 246 = .ok (.getfield 46, 3) := by decide +kernel
theorem dX5_leave_249 : decode cX5_leave 249 = .ok (.iload_n 1, 1) := by decide +kernel
theorem dX5_leave_250 : decode cX5_leave 250 = .ok (.iconst (-1), 1) := by decide +kernel
theorem dX5_leave_251 : decode cX5_leave 251 = .ok (.iastore, 1) := by decide +kernel
theorem dX5_leave_252 : decode cX5_leave 252 = .ok (.iload 4, 2) := by decide +kernel
theorem dX5_leave_254 : decode cX5_leave 254 = .ok (.ireturn, 1) := by decide +kernel
set_option maxRecDepth 20000 in
theorem ggX5_walk_X5_lay : GoodIn wsX5_walk wsX5_lay := goodIn_r _ [14, 3, 15, 5, 6, 8, 16, 17, 18, 19, 20, 21, 22, 23, 7, 24, 25, 26, 27, 28, 29, 30, 31, 32, 33, 34, 35, 36, 37, 38, 39, 40, 41, 42, 43, 44, 45, 46, 47] (by decide +kernel) (by decide +kernel)
set_option maxRecDepth 20000 in
theorem gX5_walk_X5_lay : GoodIn wsX5_walk (wsV RX5 127 RX5 yX5_lay wsX5_lay) := goodIn_app (goodIn_of _ (by decide +kernel)) ggX5_walk_X5_lay
theorem dX5_walk_0 : decode cX5_walk 0 = .ok (.aload_n 0, 1) := by decide +kernel
theorem dX5_walk_1 : decode cX5_walk 1 = .ok (.getfield 52, 3) := by decide +kernel
theorem dX5_walk_4 : decode cX5_walk 4 = .ok (.iload_n 1, 1) := by decide +kernel
theorem dX5_walk_5 : decode cX5_walk 5 = .ok (.dup2, 1) := by decide +kernel
theorem dX5_walk_6 : decode cX5_walk 6 = .ok (.iaload, 1) := by decide +kernel
theorem dX5_walk_7 : decode cX5_walk 7 = .ok (.iconst 1, 1) := by decide +kernel
theorem dX5_walk_8 : decode cX5_walk 8 = .ok (.isub, 1) := by decide +kernel
theorem dX5_walk_9 : decode cX5_walk 9 = .ok (.iastore, 1) := by decide +kernel
theorem dX5_walk_10 : decode cX5_walk 10 = .ok (.aload_n 0, 1) := by decide +kernel
theorem dX5_walk_11 : decode cX5_walk 11 = .ok (.getfield 55, 3) := by decide +kernel
theorem dX5_walk_14 : decode cX5_walk 14 = .ok (.iload_n 1, 1) := by decide +kernel
theorem dX5_walk_15 : decode cX5_walk 15 = .ok (.iaload, 1) := by decide +kernel
theorem dX5_walk_16 : decode cX5_walk 16 = .ok (.istore_n 3, 1) := by decide +kernel
theorem dX5_walk_17 : decode cX5_walk 17 = .ok (.iload_n 3, 1) := by decide +kernel
theorem dX5_walk_18 : decode cX5_walk 18 = .ok (.iconst (-1), 1) := by decide +kernel
theorem dX5_walk_19 : decode cX5_walk 19 = .ok (.if_icmp .ne 18, 3) := by decide +kernel
theorem dX5_walk_22 : decode cX5_walk 22 = .ok (.aload_n 0, 1) := by decide +kernel
theorem dX5_walk_23 : decode cX5_walk 23 = .ok (.getfield 61, 3) := by decide +kernel
theorem dX5_walk_26 : decode cX5_walk 26 = .ok (.iconst 4, 1) := by decide +kernel
theorem dX5_walk_27 : decode cX5_walk 27 = .ok (.iload_n 1, 1) := by decide +kernel
theorem dX5_walk_28 : decode cX5_walk 28 = .ok (.imul, 1) := by decide +kernel
theorem dX5_walk_29 : decode cX5_walk 29 = .ok (.dup2, 1) := by decide +kernel
theorem dX5_walk_30 : decode cX5_walk 30 = .ok (.iaload, 1) := by decide +kernel
theorem dX5_walk_31 : decode cX5_walk 31 = .ok (.iload_n 2, 1) := by decide +kernel
theorem dX5_walk_32 : decode cX5_walk 32 = .ok (.iadd, 1) := by decide +kernel
theorem dX5_walk_33 : decode cX5_walk 33 = .ok (.iastore, 1) := by decide +kernel
theorem dX5_walk_34 : decode cX5_walk 34 = .ok (.goto 57, 3) := by decide +kernel
theorem dX5_walk_37 : decode cX5_walk 37 = .ok (.iload_n 2, 1) := by decide +kernel
theorem dX5_walk_38 : decode cX5_walk 38 = .ok (.ifCond .le 53, 3) := by decide +kernel
theorem dX5_walk_41 : decode cX5_walk 41 = .ok (.aload_n 0, 1) := by decide +kernel
theorem dX5_walk_42 : decode cX5_walk 42 = .ok (.getfield 31, 3) := by decide +kernel
theorem dX5_walk_45 : decode cX5_walk 45 = .ok (.iload_n 3, 1) := by decide +kernel
theorem dX5_walk_46 : decode cX5_walk 46 = .ok (.dup2, 1) := by decide +kernel
theorem dX5_walk_47 : decode cX5_walk 47 = .ok (.iaload, 1) := by decide +kernel
theorem dX5_walk_48 : decode cX5_walk 48 = .ok (.iload_n 2, 1) := by decide +kernel
theorem dX5_walk_49 : decode cX5_walk 49 = .ok (.iadd, 1) := by decide +kernel
theorem dX5_walk_50 : decode cX5_walk 50 = .ok (.iastore, 1) := by decide +kernel
theorem dX5_walk_51 : decode cX5_walk 51 = .ok (.aload_n 0, 1) := by decide +kernel
theorem dX5_walk_52 : decode cX5_walk 52 = .ok (.getfield 31, 3) := by decide +kernel
theorem dX5_walk_55 : decode cX5_walk 55 = .ok (.iload_n 3, 1) := by decide +kernel
theorem dX5_walk_56 : decode cX5_walk 56 = .ok (.iaload, 1) := by decide +kernel
theorem dX5_walk_57 : decode cX5_walk 57 = .ok (.bipush 30, 2) := by decide +kernel
theorem dX5_walk_59 : decode cX5_walk 59 = .ok (.if_icmp .lt 32, 3) := by decide +kernel
theorem dX5_walk_62 : decode cX5_walk 62 = .ok (.aload_n 0, 1) := by decide +kernel
theorem dX5_walk_63 : decode cX5_walk 63 = .ok (.getfield 25, 3) := by decide +kernel
theorem dX5_walk_66 : decode cX5_walk 66 = .ok (.iload_n 3, 1) := by decide +kernel
theorem dX5_walk_67 : decode cX5_walk 67 = .ok (.iconst 3, 1) := by decide +kernel
theorem dX5_walk_68 : decode cX5_walk 68 = .ok (.iastore, 1) := by decide +kernel
theorem dX5_walk_69 : decode cX5_walk 69 = .ok (.aload_n 0, 1) := by decide +kernel
theorem dX5_walk_70 : decode cX5_walk 70 = .ok (.getfield 28, 3) := by decide +kernel
theorem dX5_walk_73 : decode cX5_walk 73 = .ok (.iload_n 3, 1) := by decide +kernel
theorem dX5_walk_74 : decode cX5_walk 74 = .ok (.iconst (-1), 1) := by decide +kernel
theorem dX5_walk_75 : decode cX5_walk 75 = .ok (.iastore, 1) := by decide +kernel
theorem dX5_walk_76 : decode cX5_walk 76 = .ok (.aload_n 0, 1) := by decide +kernel
theorem dX5_walk_77 : decode cX5_walk 77 = .ok (.getfield 34, 3) := by decide +kernel
theorem dX5_walk_80 : decode cX5_walk 80 = .ok (.iload_n 3, 1) := by decide +kernel
theorem dX5_walk_81 : decode cX5_walk 81 = .ok (.bipush 12, 2) := by decide +kernel
theorem dX5_walk_83 : decode cX5_walk 83 = .ok (.iastore, 1) := by decide +kernel
theorem dX5_walk_84 : decode cX5_walk 84 = .ok (.aload_n 0, 1) := by decide +kernel
theorem dX5_walk_85 : decode cX5_walk 85 = .ok (.getfield 55, 3) := by decide +kernel
theorem dX5_walk_88 : decode cX5_walk 88 = .ok (.iload_n 1, 1) := by decide +kernel
theorem dX5_walk_89 : decode cX5_walk 89 = .ok (.iconst (-1), 1) := by decide +kernel
theorem dX5_walk_90 : decode cX5_walk 90 = .ok (.iastore, 1) := by decide +kernel
theorem dX5_walk_91 : decode cX5_walk 91 = .ok (.aload_n 0, 1) := by decide +kernel
theorem dX5_walk_92 : decode cX5_walk 92 = .ok (.getfield 52, 3) := by decide +kernel
theorem dX5_walk_95 : decode cX5_walk 95 = .ok (.iload_n 1, 1) := by decide +kernel
theorem dX5_walk_96 : decode cX5_walk 96 = .ok (.iaload, 1) := by decide +kernel
theorem dX5_walk_97 : decode cX5_walk 97 = .ok (.ifCond .le 4, 3) := by decide +kernel
theorem dX5_walk_100 : decode cX5_walk 100 = .ok (.return_, 1) := by decide +kernel
theorem dX5_walk_101 : decode cX5_walk 101 = .ok (.aload_n 0, 1) := by decide +kernel
theorem dX5_walk_102 : decode cX5_walk 102 = .ok (.getfield 46, 3) := by decide +kernel
theorem dX5_walk_105 : decode cX5_walk 105 = .ok (.iload_n 1, 1) := by decide +kernel
theorem dX5_walk_106 : decode cX5_walk 106 = .ok (.aload_n 0, 1) := by decide +kernel
theorem dX5_walk_107 : decode cX5_walk 107 = .ok (.getfield 49, 3) := by decide +kernel
theorem dX5_walk_110 : decode cX5_walk 110 = .ok (.iload_n 1, 1) := by decide +kernel
theorem dX5_walk_111 : decode cX5_walk 111 = .ok (.iaload, 1) := by decide +kernel
theorem dX5_walk_112 : decode cX5_walk 112 = .ok (.iastore, 1) := by decide +kernel
theorem dX5_walk_113 : decode cX5_walk 113 = .ok (.aload_n 0, 1) := by decide +kernel
theorem dX5_walk_114 : decode cX5_walk 114 = .ok (.getfield 55, 3) := by decide +kernel
theorem dX5_walk_117 : decode cX5_walk 117 = .ok (.iload_n 1, 1) := by decide +kernel
theorem dX5_walk_118 : decode cX5_walk 118 = .ok (.iaload, 1) := by decide +kernel
theorem dX5_walk_119 : decode cX5_walk 119 = .ok (.iconst (-1), 1) := by decide +kernel
theorem dX5_walk_120 : decode cX5_walk 120 = .ok (.if_icmp .eq 14, 3) := by decide +kernel
theorem dX5_walk_123 : decode cX5_walk 123 = .ok (.aload_n 0, 1) := by decide +kernel
theorem dX5_walk_124 : decode cX5_walk 124 = .ok (.iload_n 1, 1) := by decide +kernel
theorem dX5_walk_125 : decode cX5_walk 125 = .ok (.aload_n 0, 1) := by decide +kernel
theorem dX5_walk_126 : decode cX5_walk 126 = .ok (.getfield 55, 3) := by decide +kernel
theorem dX5_walk_129 : decode cX5_walk 129 = .ok (.iload_n 1, 1) := by decide +kernel
theorem dX5_walk_130 : decode cX5_walk 130 = .ok (.iaload, 1) := by decide +kernel
theorem dX5_walk_131 : decode cX5_walk 131 = .ok (.invokevirtual 127, 3) := by decide +kernel
theorem dX5_walk_134 : decode cX5_walk 134 = .ok (.aload_n 0, 1) := by decide +kernel
theorem dX5_walk_135 : decode cX5_walk 135 = .ok (.getfield 55, 3) := by decide +kernel
theorem dX5_walk_138 : decode cX5_walk 138 = .ok (.iload_n 1, 1) := by decide +kernel
theorem dX5_walk_139 : decode cX5_walk 139 = .ok (.iconst (-1), 1) := by decide +kernel
theorem dX5_walk_140 : decode cX5_walk 140 = .ok (.iastore, 1) := by decide +kernel
theorem dX5_walk_141 : decode cX5_walk 141 = .ok (.return_, 1) := by decide +kernel
theorem dX5_lay_0 : decode cX5_lay 0 = .ok (.aload_n 0, 1) := by decide +kernel
theorem dX5_lay_1 : decode cX5_lay 1 = .ok (.getfield 61, 3) := by decide +kernel
theorem dX5_lay_4 : decode cX5_lay 4 = .ok (.iconst 4, 1) := by decide +kernel
theorem dX5_lay_5 : decode cX5_lay 5 = .ok (.iload_n 1, 1) := by decide +kernel
theorem dX5_lay_6 : decode cX5_lay 6 = .ok (.imul, 1) := by decide +kernel
theorem dX5_lay_7 : decode cX5_lay 7 = .ok (.iconst 1, 1) := by decide +kernel
theorem dX5_lay_8 : decode cX5_lay 8 = .ok (.iadd, 1) := by decide +kernel
theorem dX5_lay_9 : decode cX5_lay 9 = .ok (.iaload, 1) := by decide +kernel
theorem dX5_lay_10 : decode cX5_lay 10 = .ok (.aload_n 0, 1) := by decide +kernel
theorem dX5_lay_11 : decode cX5_lay 11 = .ok (.getfield 43, 3) := by decide +kernel
theorem dX5_lay_14 : decode cX5_lay 14 = .ok (.iconst 5, 1) := by decide +kernel
theorem dX5_lay_15 : decode cX5_lay 15 = .ok (.iload_n 1, 1) := by decide +kernel
theorem dX5_lay_16 : decode cX5_lay 16 = .ok (.imul, 1) := by decide +kernel
theorem dX5_lay_17 : decode cX5_lay 17 = .ok (.iconst 4, 1) := by decide +kernel
theorem dX5_lay_18 : decode cX5_lay 18 = .ok (.iadd, 1) := by decide +kernel
theorem dX5_lay_19 : decode cX5_lay 19 = .ok (.iaload, 1) := by decide +kernel
theorem dX5_lay_20 : decode cX5_lay 20 = .ok (.irem, 1) := by decide +kernel
theorem dX5_lay_21 : decode cX5_lay 21 = .ok (.ifCond .ne 7, 3) := by decide +kernel
theorem dX5_lay_24 : decode cX5_lay 24 = .ok (.iconst 1, 1) := by decide +kernel
theorem dX5_lay_25 : decode cX5_lay 25 = .ok (.goto 4, 3) := by decide +kernel
theorem dX5_lay_28 : decode cX5_lay 28 = .ok (.iconst 0, 1) := by decide +kernel
theorem dX5_lay_29 : decode cX5_lay 29 = .ok (.istore_n 3, 1) := by decide +kernel
theorem dX5_lay_30 : decode cX5_lay 30 = .ok (.aload_n 0, 1) := by decide +kernel
theorem dX5_lay_31 : decode cX5_lay 31 = .ok (.getfield 25, 3) := by decide +kernel
theorem dX5_lay_34 : decode cX5_lay 34 = .ok (.iload_n 2, 1) := by decide +kernel
theorem dX5_lay_35 : decode cX5_lay 35 = .ok (.iload_n 3, 1) := by decide +kernel
theorem dX5_lay_36 : decode cX5_lay 36 = .ok (.ifCond .eq 7, 3) := by decide +kernel
theorem dX5_lay_39 : decode cX5_lay 39 = .ok (.iconst 2, 1) := by decide +kernel
theorem dX5_lay_40 : decode cX5_lay 40 = .ok (.goto 4, 3) := by decide +kernel
theorem dX5_lay_43 : decode cX5_lay 43 = .ok (.iconst 0, 1) := by decide +kernel
theorem dX5_lay_44 : decode cX5_lay 44 = .ok (.iastore, 1) := by decide +kernel
theorem dX5_lay_45 : decode cX5_lay 45 = .ok (.aload_n 0, 1) := by decide +kernel
theorem dX5_lay_46 : decode cX5_lay 46 = .ok (.getfield 28, 3) := by decide +kernel
theorem dX5_lay_49 : decode cX5_lay 49 = .ok (.iload_n 2, 1) := by decide +kernel
theorem dX5_lay_50 : decode cX5_lay 50 = .ok (.iload_n 3, 1) := by decide +kernel
theorem dX5_lay_51 : decode cX5_lay 51 = .ok (.ifCond .eq 7, 3) := by decide +kernel
theorem dX5_lay_54 : decode cX5_lay 54 = .ok (.iconst (-1), 1) := by decide +kernel
theorem dX5_lay_55 : decode cX5_lay 55 = .ok (.goto 9, 3) := by decide +kernel
theorem dX5_lay_58 : decode cX5_lay 58 = .ok (.aload_n 0, 1) := by decide +kernel
theorem dX5_lay_59 : decode cX5_lay 59 = .ok (.getfield 46, 3) := by decide +kernel
theorem dX5_lay_62 : decode cX5_lay 62 = .ok (.iload_n 1, 1) := by decide +kernel
theorem dX5_lay_63 : decode cX5_lay 63 = .ok (.iaload, 1) := by decide +kernel
theorem dX5_lay_64 : decode cX5_lay 64 = .ok (.iastore, 1) := by decide +kernel
theorem dX5_lay_65 : decode cX5_lay 65 = .ok (.aload_n 0, 1) := by decide +kernel
theorem dX5_lay_66 : decode cX5_lay 66 = .ok (.getfield 58, 3) := by decide +kernel
theorem dX5_lay_69 : decode cX5_lay 69 = .ok (.iload_n 1, 1) := by decide +kernel
theorem dX5_lay_70 : decode cX5_lay 70 = .ok (.iload_n 3, 1) := by decide +kernel
theorem dX5_lay_71 : decode cX5_lay 71 = .ok (.ifCond .eq 18, 3) := by decide +kernel
theorem dX5_lay_74 : decode cX5_lay 74 = .ok (.iconst 0, 1) := by decide +kernel
theorem dX5_lay_75 : decode cX5_lay 75 = .ok (.aload_n 0, 1) := by decide +kernel
theorem dX5_lay_76 : decode cX5_lay 76 = .ok (.getfield 58, 3) := by decide +kernel
theorem dX5_lay_79 : decode cX5_lay 79 = .ok (.iload_n 1, 1) := by decide +kernel
theorem dX5_lay_80 : decode cX5_lay 80 = .ok (.iaload, 1) := by decide +kernel
theorem dX5_lay_81 : decode cX5_lay 81 = .ok (.iconst 2, 1) := by decide +kernel
theorem dX5_lay_82 : decode cX5_lay 82 = .ok (.isub, 1) := by decide +kernel
theorem dX5_lay_83 : decode cX5_lay 83 = .ok (.invokestatic 124, 3) := by decide +kernel
theorem dX5_lay_86 : decode cX5_lay 86 = .ok (.goto 16, 3) := by decide +kernel
theorem dX5_lay_89 : decode cX5_lay 89 = .ok (.bipush 10, 2) := by decide +kernel
theorem dX5_lay_91 : decode cX5_lay 91 = .ok (.aload_n 0, 1) := by decide +kernel
theorem dX5_lay_92 : decode cX5_lay 92 = .ok (.getfield 58, 3) := by decide +kernel
theorem dX5_lay_95 : decode cX5_lay 95 = .ok (.iload_n 1, 1) := by decide +kernel
theorem dX5_lay_96 : decode cX5_lay 96 = .ok (.iaload, 1) := by decide +kernel
theorem dX5_lay_97 : decode cX5_lay 97 = .ok (.iconst 1, 1) := by decide +kernel
theorem dX5_lay_98 : decode cX5_lay 98 = .ok (.iadd, 1) := by decide +kernel
theorem dX5_lay_99 : decode cX5_lay 99 = .ok (.invokestatic 130, 3) := by decide +kernel
theorem dX5_lay_102 : decode cX5_lay 102 = .ok (.iastore, 1) := by decide +kernel
theorem dX5_lay_103 : decode cX5_lay 103 = .ok (.iload_n 3, 1) := by decide +kernel
theorem dX5_lay_104 : decode cX5_lay 104 = .ok (.ifCond .ne 4, 3) := by decide +kernel
theorem dX5_lay_107 : decode cX5_lay 107 = .ok (.return_, 1) := by decide +kernel
theorem dX5_lay_108 : decode cX5_lay 108 = .ok (.aload_n 0, 1) := by decide +kernel
theorem dX5_lay_109 : decode cX5_lay 109 = .ok (.getfield 34, 3) := by decide +kernel
theorem dX5_lay_112 : decode cX5_lay 112 = .ok (.iload_n 2, 1) := by decide +kernel
theorem dX5_lay_113 : decode cX5_lay 113 = .ok (.bipush 24, 2) := by decide +kernel
theorem dX5_lay_115 : decode cX5_lay 115 = .ok (.iastore, 1) := by decide +kernel
theorem dX5_lay_116 : decode cX5_lay 116 = .ok (.aload_n 0, 1) := by decide +kernel
theorem dX5_lay_117 : decode cX5_lay 117 = .ok (.getfield 61, 3) := by decide +kernel
theorem dX5_lay_120 : decode cX5_lay 120 = .ok (.iconst 4, 1) := by decide +kernel
theorem dX5_lay_121 : decode cX5_lay 121 = .ok (.iload_n 1, 1) := by decide +kernel
theorem dX5_lay_122 : decode cX5_lay 122 = .ok (.imul, 1) := by decide +kernel
theorem dX5_lay_123 : decode cX5_lay 123 = .ok (.iconst 2, 1) := by decide +kernel
theorem dX5_lay_124 : decode cX5_lay 124 = .ok (.iadd, 1) := by decide +kernel
theorem dX5_lay_125 : decode cX5_lay 125 = .ok (.dup2, 1) := by decide +kernel
theorem dX5_lay_126 : decode cX5_lay 126 = .ok (.iaload, 1) := by decide +kernel
theorem dX5_lay_127 : decode cX5_lay 127 = .ok (.iconst 1, 1) := by decide +kernel
theorem dX5_lay_128 : decode cX5_lay 128 = .ok (.iadd, 1) := by decide +kernel
theorem dX5_lay_129 : decode cX5_lay 129 = .ok (.iastore, 1) := by decide +kernel
theorem dX5_lay_130 : decode cX5_lay 130 = .ok (.aload_n 0, 1) := by decide +kernel
theorem dX5_lay_131 : decode cX5_lay 131 = .ok (.getfield 22, 3) := by decide +kernel
theorem dX5_lay_134 : decode cX5_lay 134 = .ok (.iconst 5, 1) := by decide +kernel
theorem dX5_lay_135 : decode cX5_lay 135 = .ok (.aload_n 0, 1) := by decide +kernel
theorem dX5_lay_136 : decode cX5_lay 136 = .ok (.getfield 40, 3) := by decide +kernel
theorem dX5_lay_139 : decode cX5_lay 139 = .ok (.iload_n 2, 1) := by decide +kernel
theorem dX5_lay_140 : decode cX5_lay 140 = .ok (.iaload, 1) := by decide +kernel
theorem dX5_lay_141 : decode cX5_lay 141 = .ok (.imul, 1) := by decide +kernel
theorem dX5_lay_142 : decode cX5_lay 142 = .ok (.iconst 1, 1) := by decide +kernel
theorem dX5_lay_143 : decode cX5_lay 143 = .ok (.iadd, 1) := by decide +kernel
theorem dX5_lay_144 : decode cX5_lay 144 = .ok (.dup2, 1) := by decide +kernel
theorem dX5_lay_145 : decode cX5_lay 145 = .ok (.iaload, 1) := by decide +kernel
theorem dX5_lay_146 : decode cX5_lay 146 = .ok (.iconst 1, 1) := by decide +kernel
theorem dX5_lay_147 : decode cX5_lay 147 = .ok (.iadd, 1) := by decide +kernel
theorem dX5_lay_148 : decode cX5_lay 148 = .ok (.iastore, 1) := by decide +kernel
theorem dX5_lay_149 : decode cX5_lay 149 = .ok (.aload_n 0, 1) := by decide +kernel
theorem dX5_lay_150 : decode cX5_lay 150 = .ok (.getfield 22, 3) := by decide +kernel
theorem dX5_lay_153 : decode cX5_lay 153 = .ok (.iconst 5, 1) := by decide +kernel
theorem dX5_lay_154 : decode cX5_lay 154 = .ok (.aload_n 0, 1) := by decide +kernel
theorem dX5_lay_155 : decode cX5_lay 155 = .ok (.getfield 40, 3) := by decide +kernel
theorem dX5_lay_158 : decode cX5_lay 158 = .ok (.iload_n 2, 1) := by decide +kernel
theorem dX5_lay_159 : decode cX5_lay 159 = .ok (.iaload, 1) := by decide +kernel
theorem dX5_lay_160 : decode cX5_lay 160 = .ok (.imul, 1) := by decide +kernel
theorem dX5_lay_161 : decode cX5_lay 161 = .ok (.iconst 3, 1) := by decide +kernel
theorem dX5_lay_162 : decode cX5_lay 162 = .ok (.iadd, 1) := by decide +kernel
theorem dX5_lay_163 : decode cX5_lay 163 = .ok (.dup2, 1) := by decide +kernel
theorem dX5_lay_164 : decode cX5_lay 164 = .ok (.iaload, 1) := by decide +kernel
theorem dX5_lay_165 : decode cX5_lay 165 = .ok (.iconst 1, 1) := by decide +kernel
theorem dX5_lay_166 : decode cX5_lay 166 = .ok (.iadd, 1) := by decide +kernel
theorem dX5_lay_167 : decode cX5_lay 167 = .ok (.iastore, 1) := by decide +kernel
theorem dX5_lay_168 : decode cX5_lay 168 = .ok (.return_, 1) := by decide +kernel
set_option maxRecDepth 20000 in
theorem ggX5_cart_X5_there : GoodIn wsX5_cart wsX5_there := goodIn_r _ [8, 9, 10, 2, 16, 17, 18, 19, 20, 21, 22, 23, 24, 25, 26, 27, 28, 29, 30, 31, 32, 33, 34, 35, 36, 37] (by decide +kernel) (by decide +kernel)
set_option maxRecDepth 20000 in
theorem gX5_cart_X5_there : GoodIn wsX5_cart (wsV RX5 133 RX5 yX5_there wsX5_there) := goodIn_app (goodIn_of _ (by decide +kernel)) ggX5_cart_X5_there
set_option maxRecDepth 20000 in
theorem ggX5_cart_X5_first : GoodIn wsX5_cart wsX5_first := goodIn_r _ [14, 9, 10, 2, 15, 16, 17, 18, 19, 20, 21, 22, 23, 24, 25, 26, 27, 28, 29, 30, 31, 32, 33, 34, 35, 36, 37] (by decide +kernel) (by decide +kernel)
set_option maxRecDepth 20000 in
theorem gX5_cart_X5_first : GoodIn wsX5_cart (wsV RX5 90 RX5 yX5_first wsX5_first) := goodIn_app (goodIn_of _ (by decide +kernel)) ggX5_cart_X5_first
theorem dX5_cart_0 : decode cX5_cart 0 = .ok (.iconst 0, 1) := by decide +kernel
theorem dX5_cart_1 : decode cX5_cart 1 = .ok (.istore_n 1, 1) := by decide +kernel
theorem dX5_cart_2 : decode cX5_cart 2 = .ok (.iconst 0, 1) := by decide +kernel
theorem dX5_cart_3 : decode cX5_cart 3 = .ok (.istore_n 2, 1) := by decide +kernel
theorem dX5_cart_4 : decode cX5_cart 4 = .ok (.iconst 1, 1) := by decide +kernel
theorem dX5_cart_5 : decode cX5_cart 5 = .ok (.istore_n 3, 1) := by decide +kernel
theorem dX5_cart_6 : decode cX5_cart 6 = .ok (.iload_n 3, 1) := by decide +kernel
theorem dX5_cart_7 : decode cX5_cart 7 = .ok (.aload_n 0, 1) := by decide +kernel
theorem dX5_cart_8 : decode cX5_cart 8 = .ok (.getfield 74, 3) := by decide +kernel
theorem dX5_cart_11 : decode cX5_cart 11 = .ok (.if_icmp .ge 39, 3) := by decide +kernel
theorem dX5_cart_14 : decode cX5_cart 14 = .ok (.aload_n 0, 1) := by decide +kernel
theorem dX5_cart_15 : decode cX5_cart 15 = .ok (.iload_n 3, 1) := by decide +kernel
theorem dX5_cart_16 : decode cX5_cart 16 = .ok (.invokevirtual 133, 3) := by decide +kernel
theorem dX5_cart_19 : decode cX5_cart 19 = .ok (.aload_n 0, 1) := by decide +kernel
theorem dX5_cart_20 : decode cX5_cart 20 = .ok (.iload_n 1, 1) := by decide +kernel
theorem dX5_cart_21 : decode cX5_cart 21 = .ok (.invokevirtual 133, 3) := by decide +kernel
theorem dX5_cart_24 : decode cX5_cart 24 = .ok (.if_icmp .le 5, 3) := by decide +kernel
theorem dX5_cart_27 : decode cX5_cart 27 = .ok (.iload_n 3, 1) := by decide +kernel
theorem dX5_cart_28 : decode cX5_cart 28 = .ok (.istore_n 1, 1) := by decide +kernel
theorem dX5_cart_29 : decode cX5_cart 29 = .ok (.aload_n 0, 1) := by decide +kernel
theorem dX5_cart_30 : decode cX5_cart 30 = .ok (.iload_n 3, 1) := by decide +kernel
theorem dX5_cart_31 : decode cX5_cart 31 = .ok (.invokevirtual 133, 3) := by decide +kernel
theorem dX5_cart_34 : decode cX5_cart 34 = .ok (.aload_n 0, 1) := by decide +kernel
theorem dX5_cart_35 : decode cX5_cart 35 = .ok (.iload_n 2, 1) := by decide +kernel
theorem dX5_cart_36 : decode cX5_cart 36 = .ok (.invokevirtual 133, 3) := by decide +kernel
theorem dX5_cart_39 : decode cX5_cart 39 = .ok (.if_icmp .ge 5, 3) := by decide +kernel
theorem dX5_cart_42 : decode cX5_cart 42 = .ok (.iload_n 3, 1) := by decide +kernel
theorem dX5_cart_43 : decode cX5_cart 43 = .ok (.istore_n 2, 1) := by decide +kernel
theorem dX5_cart_44 : decode cX5_cart 44 = .ok (.iinc 3 1, 3) := by decide +kernel
theorem dX5_cart_47 : decode cX5_cart 47 = .ok (.goto (-41), 3) := by decide +kernel
theorem dX5_cart_50 : decode cX5_cart 50 = .ok (.aload_n 0, 1) := by decide +kernel
theorem dX5_cart_51 : decode cX5_cart 51 = .ok (.getfield 74, 3) := by decide +kernel
theorem dX5_cart_54 : decode cX5_cart 54 = .ok (.ifCond .eq 18, 3) := by decide +kernel
theorem dX5_cart_57 : decode cX5_cart 57 = .ok (.aload_n 0, 1) := by decide +kernel
theorem dX5_cart_58 : decode cX5_cart 58 = .ok (.iload_n 1, 1) := by decide +kernel
theorem dX5_cart_59 : decode cX5_cart 59 = .ok (.invokevirtual 133, 3) := by decide +kernel
theorem dX5_cart_62 : decode cX5_cart 62 = .ok (.aload_n 0, 1) := by decide +kernel
theorem dX5_cart_63 : decode cX5_cart 63 = .ok (.iload_n 2, 1) := by decide +kernel
theorem dX5_cart_64 : decode cX5_cart 64 = .ok (.invokevirtual 133, 3) := by decide +kernel
theorem dX5_cart_67 : decode cX5_cart 67 = .ok (.isub, 1) := by decide +kernel
theorem dX5_cart_68 : decode cX5_cart 68 = .ok (.iconst 2, 1) := by decide +kernel
theorem dX5_cart_69 : decode cX5_cart 69 = .ok (.if_icmp .ge 4, 3) := by decide +kernel
theorem dX5_cart_72 : decode cX5_cart 72 = .ok (.return_, 1) := by decide +kernel
theorem dX5_cart_73 : decode cX5_cart 73 = .ok (.aload_n 0, 1) := by decide +kernel
theorem dX5_cart_74 : decode cX5_cart 74 = .ok (.getfield 28, 3) := by decide +kernel
theorem dX5_cart_77 : decode cX5_cart 77 = .ok (.aload_n 0, 1) := by decide +kernel
theorem dX5_cart_78 : decode cX5_cart 78 = .ok (.iload_n 1, 1) := by decide +kernel
theorem dX5_cart_79 : decode cX5_cart 79 = .ok (.invokevirtual 90, 3) := by decide +kernel
theorem dX5_cart_82 : decode cX5_cart 82 = .ok (.iload_n 2, 1) := by decide +kernel
theorem dX5_cart_83 : decode cX5_cart 83 = .ok (.iastore, 1) := by decide +kernel
theorem dX5_cart_84 : decode cX5_cart 84 = .ok (.aload_n 0, 1) := by decide +kernel
theorem dX5_cart_85 : decode cX5_cart 85 = .ok (.dup, 1) := by decide +kernel
theorem dX5_cart_86 : decode cX5_cart 86 = .ok (.getfield 83, 3) := by decide +kernel
theorem dX5_cart_89 : decode cX5_cart 89 = .ok (.iconst 1, 1) := by decide +kernel
theorem dX5_cart_90 : decode cX5_cart 90 = .ok (.iadd, 1) := by decide +kernel
theorem dX5_cart_91 : decode cX5_cart 91 = .ok (.putfield 83, 3) := by decide +kernel
theorem dX5_cart_94 : decode cX5_cart 94 = .ok (.return_, 1) := by decide +kernel
theorem dX5_decree_0 : decode cX5_decree 0 = .ok (.iconst 0, 1) := by decide +kernel
theorem dX5_decree_1 : decode cX5_decree 1 = .ok (.istore_n 1, 1) := by decide +kernel
theorem dX5_decree_2 : decode cX5_decree 2 = .ok (.iload_n 1, 1) := by decide +kernel
theorem dX5_decree_3 : decode cX5_decree 3 = .ok (.aload_n 0, 1) := by decide +kernel
theorem dX5_decree_4 : decode cX5_decree 4 = .ok (.getfield 74, 3) := by decide +kernel
theorem dX5_decree_7 : decode cX5_decree 7 = .ok (.if_icmp .ge 111, 3) := by decide +kernel
theorem dX5_decree_10 : decode cX5_decree 10 = .ok (.aload_n 0, 1) := by decide +kernel
theorem dX5_decree_11 : decode cX5_decree 11 = .ok (.getfield 22, 3) := by decide +kernel
theorem dX5_decree_14 : decode cX5_decree 14 = .ok (.iconst 5, 1) := by decide +kernel
theorem dX5_decree_15 : decode cX5_decree 15 = .ok (.iload_n 1, 1) := by decide +kernel
theorem dX5_decree_16 : decode cX5_decree 16 = .ok (.imul, 1) := by decide +kernel
theorem dX5_decree_17 : decode cX5_decree 17 = .ok (.iconst 3, 1) := by decide +kernel
theorem dX5_decree_18 : decode cX5_decree 18 = .ok (.iadd, 1) := by decide +kernel
theorem dX5_decree_19 : decode cX5_decree 19 = .ok (.iaload, 1) := by decide +kernel
theorem dX5_decree_20 : decode cX5_decree 20 = .ok (.iconst 1, 1) := by decide +kernel
theorem dX5_decree_21 : decode cX5_decree 21 = .ok (.if_icmp .le 25, 3) := by decide +kernel
theorem dX5_decree_24 : decode cX5_decree 24 = .ok (.aload_n 0, 1) := by decide +kernel
theorem dX5_decree_25 : decode cX5_decree 25 = .ok (.getfield 19, 3) := by decide +kernel
theorem dX5_decree_28 : decode cX5_decree 28 = .ok (.iload_n 1, 1) := by decide +kernel
theorem dX5_decree_29 : decode cX5_decree 29 = .ok (.bipush 10, 2) := by decide +kernel
theorem dX5_decree_31 : decode cX5_decree 31 = .ok (.aload_n 0, 1) := by decide +kernel
theorem dX5_decree_32 : decode cX5_decree 32 = .ok (.getfield 19, 3) := by decide +kernel
theorem dX5_decree_35 : decode cX5_decree 35 = .ok (.iload_n 1, 1) := by decide +kernel
theorem dX5_decree_36 : decode cX5_decree 36 = .ok (.iaload, 1) := by decide +kernel
theorem dX5_decree_37 : decode cX5_decree 37 = .ok (.iconst 1, 1) := by decide +kernel
theorem dX5_decree_38 : decode cX5_decree 38 = .ok (.iadd, 1) := by decide +kernel
theorem dX5_decree_39 : decode cX5_decree 39 = .ok (.invokestatic 130, 3) := by decide +kernel
theorem dX5_decree_42 : decode cX5_decree 42 = .ok (.iastore, 1) := by decide +kernel
theorem dX5_decree_43 : decode cX5_decree 43 = .ok (.goto 47, 3) := by decide +kernel
theorem dX5_decree_46 : decode cX5_decree 46 = .ok (.aload_n 0, 1) := by decide +kernel
theorem dX5_decree_47 : decode cX5_decree 47 = .ok (.getfield 22, 3) := by decide +kernel
theorem dX5_decree_50 : decode cX5_decree 50 = .ok (.iconst 5, 1) := by decide +kernel
theorem dX5_decree_51 : decode cX5_decree 51 = .ok (.iload_n 1, 1) := by decide +kernel
theorem dX5_decree_52 : decode cX5_decree 52 = .ok (.imul, 1) := by decide +kernel
theorem dX5_decree_53 : decode cX5_decree 53 = .ok (.iconst 3, 1) := by decide +kernel
theorem dX5_decree_54 : decode cX5_decree 54 = .ok (.iadd, 1) := by decide +kernel
theorem dX5_decree_55 : decode cX5_decree 55 = .ok (.iaload, 1) := by decide +kernel
theorem dX5_decree_56 : decode cX5_decree 56 = .ok (.ifCond .ne 34, 3) := by decide +kernel
theorem dX5_decree_59 : decode cX5_decree 59 = .ok (.aload_n 0, 1) := by decide +kernel
theorem dX5_decree_60 : decode cX5_decree 60 = .ok (.getfield 22, 3) := by decide +kernel
theorem dX5_decree_63 : decode cX5_decree 63 = .ok (.iconst 5, 1) := by decide +kernel
theorem dX5_decree_64 : decode cX5_decree 64 = .ok (.iload_n 1, 1) := by decide +kernel
theorem dX5_decree_65 : decode cX5_decree 65 = .ok (.imul, 1) := by decide +kernel
theorem dX5_decree_66 : decode cX5_decree 66 = .ok (.iconst 4, 1) := by decide +kernel
theorem dX5_decree_67 : decode cX5_decree 67 = .ok (.iadd, 1) := by decide +kernel
theorem dX5_decree_68 : decode cX5_decree 68 = .ok (.iaload, 1) := by decide +kernel
theorem dX5_decree_69 : decode cX5_decree 69 = .ok (.ifCond .le 21, 3) := by decide +kernel
theorem dX5_decree_72 : decode cX5_decree 72 = .ok (.aload_n 0, 1) := by decide +kernel
theorem dX5_decree_73 : decode cX5_decree 73 = .ok (.getfield 19, 3) := by decide +kernel
theorem dX5_decree_76 : decode cX5_decree 76 = .ok (.iload_n 1, 1) := by decide +kernel
theorem dX5_decree_77 : decode cX5_decree 77 = .ok (.iconst 0, 1) := by decide +kernel
theorem dX5_decree_78 : decode cX5_decree 78 = .ok (.aload_n 0, 1) := by decide +kernel
theorem dX5_decree_79 : decode cX5_decree 79 = .ok (.getfield 19, 3) := by decide +kernel
theorem dX5_decree_82 : decode cX5_decree 82 = .ok (.iload_n 1, 1) := by decide +kernel
theorem dX5_decree_83 : decode cX5_decree 83 = .ok (.iaload, 1) := by decide +kernel
theorem dX5_decree_84 : decode cX5_decree 84 = .ok (.iconst 1, 1) := by decide +kernel
theorem dX5_decree_85 : decode cX5_decree 85 = .ok (.isub, 1) := by decide +kernel
theorem dX5_decree_86 : decode cX5_decree 86 = .ok (.invokestatic 124, 3) := by decide +kernel
theorem dX5_decree_89 : decode cX5_decree 89 = .ok (.iastore, 1) := by decide +kernel
theorem dX5_decree_90 : decode cX5_decree 90 = .ok (.aload_n 0, 1) := by decide +kernel
theorem dX5_decree_91 : decode cX5_decree 91 = .ok (.getfield 22, 3) := by decide +kernel
theorem dX5_decree_94 : decode cX5_decree 94 = .ok (.iconst 5, 1) := by decide +kernel
theorem dX5_decree_95 : decode cX5_decree 95 = .ok (.iload_n 1, 1) := by decide +kernel
theorem dX5_decree_96 : decode cX5_decree 96 = .ok (.imul, 1) := by decide +kernel
theorem dX5_decree_97 : decode cX5_decree 97 = .ok (.iconst 3, 1) := by decide +kernel
theorem dX5_decree_98 : decode cX5_decree 98 = .ok (.iadd, 1) := by decide +kernel
theorem dX5_decree_99 : decode cX5_decree 99 = .ok (.iconst 0, 1) := by decide +kernel
theorem dX5_decree_100 : decode cX5_decree 100 = .ok (.iastore, 1) := by decide +kernel
theorem dX5_decree_101 : decode cX5_decree 101 = .ok (.aload_n 0, 1) := by decide +kernel
theorem dX5_decree_102 : decode cX5_decree 102 = .ok (.getfield 22, 3) := by decide +kernel
theorem dX5_decree_105 : decode cX5_decree 105 = .ok (.iconst 5, 1) := by decide +kernel
theorem dX5_decree_106 : decode cX5_decree 106 = .ok (.iload_n 1, 1) := by decide +kernel
theorem dX5_decree_107 : decode cX5_decree 107 = .ok (.imul, 1) := by decide +kernel
theorem dX5_decree_108 : decode cX5_decree 108 = .ok (.iconst 4, 1) := by decide +kernel
theorem dX5_decree_109 : decode cX5_decree 109 = .ok (.iadd, 1) := by decide +kernel
theorem dX5_decree_110 : decode cX5_decree 110 = .ok (.iconst 0, 1) := by decide +kernel
theorem dX5_decree_111 : decode cX5_decree 111 = .ok (.iastore, 1) := by decide +kernel
theorem dX5_decree_112 : decode cX5_decree 112 = .ok (.iinc 1 1, 3) := by decide +kernel
theorem dX5_decree_115 : decode cX5_decree 115 = .ok (.goto (-113), 3) := by decide +kernel
theorem dX5_decree_118 : decode cX5_decree 118 = .ok (.return_, 1) := by decide +kernel
theorem dX5_of_0 : decode cX5_of 0 = .ok (.iconst 0, 1) := by decide +kernel
theorem dX5_of_1 : decode cX5_of 1 = .ok (.istore_n 2, 1) := by decide +kernel
theorem dX5_of_2 : decode cX5_of 2 = .ok (.iconst 0, 1) := by decide +kernel
theorem dX5_of_3 : decode cX5_of 3 = .ok (.istore_n 3, 1) := by decide +kernel
theorem dX5_of_4 : decode cX5_of 4 = .ok (.iload_n 3, 1) := by decide +kernel
theorem dX5_of_5 : decode cX5_of 5 = .ok (.aload_n 0, 1) := by decide +kernel
theorem dX5_of_6 : decode cX5_of 6 = .ok (.getfield 77, 3) := by decide +kernel
theorem dX5_of_9 : decode cX5_of 9 = .ok (.if_icmp .ge 27, 3) := by decide +kernel
theorem dX5_of_12 : decode cX5_of 12 = .ok (.iload_n 2, 1) := by decide +kernel
theorem dX5_of_13 : decode cX5_of 13 = .ok (.aload_n 0, 1) := by decide +kernel
theorem dX5_of_14 : decode cX5_of 14 = .ok (.getfield 25, 3) := by decide +kernel
theorem dX5_of_17 : decode cX5_of 17 = .ok (.iload_n 3, 1) := by decide +kernel
theorem dX5_of_18 : decode cX5_of 18 = .ok (.iaload, 1) := by decide +kernel
theorem dX5_of_19 : decode cX5_of 19 = .ok (.iload_n 1, 1) := by decide +kernel
theorem dX5_of_20 : decode cX5_of 20 = .ok (.if_icmp .ne 7, 3) := by decide +kernel
theorem dX5_of_23 : decode cX5_of 23 = .ok (.iconst 1, 1) := by decide +kernel
theorem dX5_of_24 : decode cX5_of 24 = .ok (.goto 4, 3) := by decide +kernel
theorem dX5_of_27 : decode cX5_of 27 = .ok (.iconst 0, 1) := by decide +kernel
theorem dX5_of_28 : decode cX5_of 28 = .ok (.iadd, 1) := by decide +kernel
theorem dX5_of_29 : decode cX5_of 29 = .ok (.istore_n 2, 1) := by decide +kernel
theorem dX5_of_30 : decode cX5_of 30 = .ok (.iinc 3 1, 3) := by decide +kernel
theorem dX5_of_33 : decode cX5_of 33 = .ok (.goto (-29), 3) := by decide +kernel
theorem dX5_of_36 : decode cX5_of 36 = .ok (.iload_n 2, 1) := by decide +kernel
theorem dX5_of_37 : decode cX5_of 37 = .ok (.ireturn, 1) := by decide +kernel
theorem dX5_over_0 : decode cX5_over 0 = .ok (.iconst 0, 1) := by decide +kernel
theorem dX5_over_1 : decode cX5_over 1 = .ok (.istore_n 2, 1) := by decide +kernel
theorem dX5_over_2 : decode cX5_over 2 = .ok (.iconst 0, 1) := by decide +kernel
theorem dX5_over_3 : decode cX5_over 3 = .ok (.istore_n 3, 1) := by decide +kernel
theorem dX5_over_4 : decode cX5_over 4 = .ok (.iload_n 3, 1) := by decide +kernel
theorem dX5_over_5 : decode cX5_over 5 = .ok (.aload_n 0, 1) := by decide +kernel
theorem dX5_over_6 : decode cX5_over 6 = .ok (.getfield 80, 3) := by decide +kernel
theorem dX5_over_9 : decode cX5_over 9 = .ok (.if_icmp .ge 56, 3) := by decide +kernel
theorem dX5_over_12 : decode cX5_over 12 = .ok (.iload_n 2, 1) := by decide +kernel
theorem dX5_over_13 : decode cX5_over 13 = .ok (.iload_n 1, 1) := by decide +kernel
theorem dX5_over_14 : decode cX5_over 14 = .ok (.ifCond .ne 14, 3) := by decide +kernel
theorem dX5_over_17 : decode cX5_over 17 = .ok (.aload_n 0, 1) := by decide +kernel
theorem dX5_over_18 : decode cX5_over 18 = .ok (.getfield 61, 3) := by decide +kernel
theorem dX5_over_21 : decode cX5_over 21 = .ok (.iconst 4, 1) := by decide +kernel
theorem dX5_over_22 : decode cX5_over 22 = .ok (.iload_n 3, 1) := by decide +kernel
theorem dX5_over_23 : decode cX5_over 23 = .ok (.imul, 1) := by decide +kernel
theorem dX5_over_24 : decode cX5_over 24 = .ok (.iaload, 1) := by decide +kernel
theorem dX5_over_25 : decode cX5_over 25 = .ok (.goto 32, 3) := by decide +kernel
theorem dX5_over_28 : decode cX5_over 28 = .ok (.iload_n 1, 1) := by decide +kernel
theorem dX5_over_29 : decode cX5_over 29 = .ok (.iconst 1, 1) := by decide +kernel
theorem dX5_over_30 : decode cX5_over 30 = .ok (.if_icmp .ne 12, 3) := by decide +kernel
theorem dX5_over_33 : decode cX5_over 33 = .ok (.aload_n 0, 1) := by decide +kernel
theorem dX5_over_34 : decode cX5_over 34 = .ok (.getfield 58, 3) := by decide +kernel
theorem dX5_over_37 : decode cX5_over 37 = .ok (.iload_n 3, 1) := by decide +kernel
theorem dX5_over_38 : decode cX5_over 38 = .ok (.iaload, 1) := by decide +kernel
theorem dX5_over_39 : decode cX5_over 39 = .ok (.goto 18, 3) := by decide +kernel
theorem dX5_over_42 : decode cX5_over 42 = .ok (.aload_n 0, 1) := by decide +kernel
theorem dX5_over_43 : decode cX5_over 43 = .ok (.getfield 46, 3) := by decide +kernel
theorem dX5_over_46 : decode cX5_over 46 = .ok (.iload_n 3, 1) := by decide +kernel
theorem dX5_over_47 : decode cX5_over 47 = .ok (.iaload, 1) := by decide +kernel
theorem dX5_over_48 : decode cX5_over 48 = .ok (.iconst (-1), 1) := by decide +kernel
theorem dX5_over_49 : decode cX5_over 49 = .ok (.if_icmp .ne 7, 3) := by decide +kernel
theorem dX5_over_52 : decode cX5_over 52 = .ok (.iconst 1, 1) := by decide +kernel
theorem dX5_over_53 : decode cX5_over 53 = .ok (.goto 4, 3) := by decide +kernel
theorem dX5_over_56 : decode cX5_over 56 = .ok (.iconst 0, 1) := by decide +kernel
theorem dX5_over_57 : decode cX5_over 57 = .ok (.iadd, 1) := by decide +kernel
theorem dX5_over_58 : decode cX5_over 58 = .ok (.istore_n 2, 1) := by decide +kernel
theorem dX5_over_59 : decode cX5_over 59 = .ok (.iinc 3 1, 3) := by decide +kernel
theorem dX5_over_62 : decode cX5_over 62 = .ok (.goto (-58), 3) := by decide +kernel
theorem dX5_over_65 : decode cX5_over 65 = .ok (.iload_n 2, 1) := by decide +kernel
theorem dX5_over_66 : decode cX5_over 66 = .ok (.ireturn, 1) := by decide +kernel
set_option maxRecDepth 20000 in
theorem ggX6_init_X5_init : GoodIn wsX6_init wsX5_init := goodIn_r _ [12, 13, 14, 2, 3, 4, 15, 16, 17, 18, 19, 20, 21, 22, 23, 24, 25, 26, 27, 28, 29, 30, 35, 36, 37, 38, 39, 40, 41, 42, 43, 44, 45, 46, 47, 48, 49, 50, 51, 52, 53, 54, 55, 56] (by decide +kernel) (by decide +kernel)
set_option maxRecDepth 20000 in
theorem gX6_init_X5_init_n15 : GoodIn wsX6_init (wsX5_init) := ggX6_init_X5_init
theorem dX6_init_0 : decode cX6_init 0 = .ok (.aload_n 0, 1) := by decide +kernel
theorem dX6_init_1 : decode cX6_init 1 = .ok (.invokespecial 1, 3) := by decide +kernel
theorem dX6_init_4 : decode cX6_init 4 = .ok (.aload_n 0, 1) := by decide +kernel
theorem dX6_init_5 : decode cX6_init 5 = .ok (.bipush 24, 2) := by decide +kernel
theorem dX6_init_7 : decode cX6_init 7 = .ok (.newarray .int, 2) := by decide +kernel
theorem dX6_init_9 : decode cX6_init 9 = .ok (.putfield 9, 3) := by decide +kernel
theorem dX6_init_12 : decode cX6_init 12 = .ok (.aload_n 0, 1) := by decide +kernel
theorem dX6_init_13 : decode cX6_init 13 = .ok (.new 13, 3) := by decide +kernel
theorem dX6_init_16 : decode cX6_init 16 = .ok (.dup, 1) := by decide +kernel
theorem dX6_init_17 : decode cX6_init 17 = .ok (.aload_n 0, 1) := by decide +kernel
theorem dX6_init_18 : decode cX6_init 18 = .ok (.invokespecial 15, 3) := by decide +kernel
theorem dX6_init_21 : decode cX6_init 21 = .ok (.putfield 18, 3) := by decide +kernel
theorem dX6_init_24 : decode cX6_init 24 = .ok (.aload_n 0, 1) := by decide +kernel
theorem dX6_init_25 : decode cX6_init 25 = .ok (.new 13, 3) := by decide +kernel
theorem dX6_init_28 : decode cX6_init 28 = .ok (.dup, 1) := by decide +kernel
theorem dX6_init_29 : decode cX6_init 29 = .ok (.aload_n 0, 1) := by decide +kernel
theorem dX6_init_30 : decode cX6_init 30 = .ok (.invokespecial 15, 3) := by decide +kernel
theorem dX6_init_33 : decode cX6_init 33 = .ok (.putfield 22, 3) := by decide +kernel
theorem dX6_init_36 : decode cX6_init 36 = .ok (.return_, 1) := by decide +kernel
theorem dX6_thrown_0 : decode cX6_thrown 0 = .ok (.aload_n 0, 1) := by decide +kernel
theorem dX6_thrown_1 : decode cX6_thrown 1 = .ok (.getfield 25, 3) := by decide +kernel
theorem dX6_thrown_4 : decode cX6_thrown 4 = .ok (.ireturn, 1) := by decide +kernel
theorem dX6_no_0 : decode cX6_no 0 = .ok (.aload_n 0, 1) := by decide +kernel
theorem dX6_no_1 : decode cX6_no 1 = .ok (.iload_n 1, 1) := by decide +kernel
theorem dX6_no_2 : decode cX6_no 2 = .ok (.putfield 25, 3) := by decide +kernel
theorem dX6_no_5 : decode cX6_no 5 = .ok (.iconst 0, 1) := by decide +kernel
theorem dX6_no_6 : decode cX6_no 6 = .ok (.ireturn, 1) := by decide +kernel
theorem dX6_isIn_0 : decode cX6_isIn 0 = .ok (.iload_n 0, 1) := by decide +kernel
theorem dX6_isIn_1 : decode cX6_isIn 1 = .ok (.iload_n 1, 1) := by decide +kernel
theorem dX6_isIn_2 : decode cX6_isIn 2 = .ok (.if_icmp .lt 12, 3) := by decide +kernel
theorem dX6_isIn_5 : decode cX6_isIn 5 = .ok (.iload_n 0, 1) := by decide +kernel
theorem dX6_isIn_6 : decode cX6_isIn 6 = .ok (.iload_n 2, 1) := by decide +kernel
theorem dX6_isIn_7 : decode cX6_isIn 7 = .ok (.if_icmp .gt 7, 3) := by decide +kernel
theorem dX6_isIn_10 : decode cX6_isIn 10 = .ok (.iconst 1, 1) := by decide +kernel
theorem dX6_isIn_11 : decode cX6_isIn 11 = .ok (.goto 4, 3) := by decide +kernel
theorem dX6_isIn_14 : decode cX6_isIn 14 = .ok (.iconst 0, 1) := by decide +kernel
theorem dX6_isIn_15 : decode cX6_isIn 15 = .ok (.ireturn, 1) := by decide +kernel
set_option maxRecDepth 20000 in
theorem ggX6_isShelter_X6_isIn : GoodIn wsX6_isShelter wsX6_isIn := goodIn_r _ [5] (by decide +kernel) (by decide +kernel)
set_option maxRecDepth 20000 in
theorem gX6_isShelter_X6_isIn : GoodIn wsX6_isShelter (va_wsS RX6 32 yX6_isIn wsX6_isIn) := goodIn_app (goodIn_of _ (by decide +kernel)) ggX6_isShelter_X6_isIn
theorem dX6_isShelter_0 : decode cX6_isShelter 0 = .ok (.iload_n 1, 1) := by decide +kernel
theorem dX6_isShelter_1 : decode cX6_isShelter 1 = .ok (.iconst 0, 1) := by decide +kernel
theorem dX6_isShelter_2 : decode cX6_isShelter 2 = .ok (.aload_n 0, 1) := by decide +kernel
theorem dX6_isShelter_3 : decode cX6_isShelter 3 = .ok (.getfield 18, 3) := by decide +kernel
theorem dX6_isShelter_6 : decode cX6_isShelter 6 = .ok (.getfield 29, 3) := by decide +kernel
theorem dX6_isShelter_9 : decode cX6_isShelter 9 = .ok (.iconst 1, 1) := by decide +kernel
theorem dX6_isShelter_10 : decode cX6_isShelter 10 = .ok (.isub, 1) := by decide +kernel
theorem dX6_isShelter_11 : decode cX6_isShelter 11 = .ok (.invokestatic 32, 3) := by decide +kernel
theorem dX6_isShelter_14 : decode cX6_isShelter 14 = .ok (.ireturn, 1) := by decide +kernel
set_option maxRecDepth 20000 in
theorem ggX6_isCitizen_X6_isIn : GoodIn wsX6_isCitizen wsX6_isIn := goodIn_r _ [5] (by decide +kernel) (by decide +kernel)
set_option maxRecDepth 20000 in
theorem gX6_isCitizen_X6_isIn : GoodIn wsX6_isCitizen (va_wsS RX6 32 yX6_isIn wsX6_isIn) := goodIn_app (goodIn_of _ (by decide +kernel)) ggX6_isCitizen_X6_isIn
theorem dX6_isCitizen_0 : decode cX6_isCitizen 0 = .ok (.iload_n 1, 1) := by decide +kernel
theorem dX6_isCitizen_1 : decode cX6_isCitizen 1 = .ok (.iconst 0, 1) := by decide +kernel
theorem dX6_isCitizen_2 : decode cX6_isCitizen 2 = .ok (.aload_n 0, 1) := by decide +kernel
theorem dX6_isCitizen_3 : decode cX6_isCitizen 3 = .ok (.getfield 18, 3) := by decide +kernel
theorem dX6_isCitizen_6 : decode cX6_isCitizen 6 = .ok (.getfield 36, 3) := by decide +kernel
theorem dX6_isCitizen_9 : decode cX6_isCitizen 9 = .ok (.iconst 1, 1) := by decide +kernel
theorem dX6_isCitizen_10 : decode cX6_isCitizen 10 = .ok (.isub, 1) := by decide +kernel
theorem dX6_isCitizen_11 : decode cX6_isCitizen 11 = .ok (.invokestatic 32, 3) := by decide +kernel
theorem dX6_isCitizen_14 : decode cX6_isCitizen 14 = .ok (.ireturn, 1) := by decide +kernel
set_option maxRecDepth 20000 in
theorem ggX6_build_X6_isIn : GoodIn wsX6_build wsX6_isIn := goodIn_r _ [6] (by decide +kernel) (by decide +kernel)
set_option maxRecDepth 20000 in
theorem gX6_build_X6_isIn : GoodIn wsX6_build (va_wsS RX6 32 yX6_isIn wsX6_isIn) := goodIn_app (goodIn_of _ (by decide +kernel)) ggX6_build_X6_isIn
set_option maxRecDepth 20000 in
theorem ggX6_build_X6_no : GoodIn wsX6_build wsX6_no := goodIn_r _ [10, 1, 11, 12, 13, 14] (by decide +kernel) (by decide +kernel)
set_option maxRecDepth 20000 in
theorem gX6_build_X6_no : GoodIn wsX6_build (wsV RX6 39 RX6 yX6_no wsX6_no) := goodIn_app (goodIn_of _ (by decide +kernel)) ggX6_build_X6_no
theorem dX6_build_0 : decode cX6_build 0 = .ok (.aload_n 0, 1) := by decide +kernel
theorem dX6_build_1 : decode cX6_build 1 = .ok (.iconst 0, 1) := by decide +kernel
theorem dX6_build_2 : decode cX6_build 2 = .ok (.putfield 25, 3) := by decide +kernel
theorem dX6_build_5 : decode cX6_build 5 = .ok (.iload_n 1, 1) := by decide +kernel
theorem dX6_build_6 : decode cX6_build 6 = .ok (.iconst 0, 1) := by decide +kernel
theorem dX6_build_7 : decode cX6_build 7 = .ok (.bipush 99, 2) := by decide +kernel
theorem dX6_build_9 : decode cX6_build 9 = .ok (.invokestatic 32, 3) := by decide +kernel
theorem dX6_build_12 : decode cX6_build 12 = .ok (.ifCond .eq 13, 3) := by decide +kernel
theorem dX6_build_15 : decode cX6_build 15 = .ok (.iload_n 2, 1) := by decide +kernel
theorem dX6_build_16 : decode cX6_build 16 = .ok (.iconst 0, 1) := by decide +kernel
theorem dX6_build_17 : decode cX6_build 17 = .ok (.bipush 10, 2) := by decide +kernel
theorem dX6_build_19 : decode cX6_build 19 = .ok (.invokestatic 32, 3) := by decide +kernel
theorem dX6_build_22 : decode cX6_build 22 = .ok (.ifCond .ne 9, 3) := by decide +kernel
theorem dX6_build_25 : decode cX6_build 25 = .ok (.aload_n 0, 1) := by decide +kernel
theorem dX6_build_26 : decode cX6_build 26 = .ok (.iconst 1, 1) := by decide +kernel
theorem dX6_build_27 : decode cX6_build 27 = .ok (.invokevirtual 39, 3) := by decide +kernel
theorem dX6_build_30 : decode cX6_build 30 = .ok (.ireturn, 1) := by decide +kernel
theorem dX6_build_31 : decode cX6_build 31 = .ok (.aload_n 0, 1) := by decide +kernel
theorem dX6_build_32 : decode cX6_build 32 = .ok (.getfield 18, 3) := by decide +kernel
theorem dX6_build_35 : decode cX6_build 35 = .ok (.getfield 29, 3) := by decide +kernel
theorem dX6_build_38 : decode cX6_build 38 = .ok (.bipush 8, 2) := by decide +kernel
theorem dX6_build_40 : decode cX6_build 40 = .ok (.if_icmp .ge 7, 3) := by decide +kernel
theorem dX6_build_43 : decode cX6_build 43 = .ok (.iconst 1, 1) := by decide +kernel
theorem dX6_build_44 : decode cX6_build 44 = .ok (.goto 4, 3) := by decide +kernel
theorem dX6_build_47 : decode cX6_build 47 = .ok (.iconst 0, 1) := by decide +kernel
theorem dX6_build_48 : decode cX6_build 48 = .ok (.istore_n 3, 1) := by decide +kernel
theorem dX6_build_49 : decode cX6_build 49 = .ok (.iconst 0, 1) := by decide +kernel
theorem dX6_build_50 : decode cX6_build 50 = .ok (.istore 4, 2) := by decide +kernel
theorem dX6_build_52 : decode cX6_build 52 = .ok (.iload 4, 2) := by decide +kernel
theorem dX6_build_54 : decode cX6_build 54 = .ok (.aload_n 0, 1) := by decide +kernel
theorem dX6_build_55 : decode cX6_build 55 = .ok (.getfield 18, 3) := by decide +kernel
theorem dX6_build_58 : decode cX6_build 58 = .ok (.getfield 29, 3) := by decide +kernel
theorem dX6_build_61 : decode cX6_build 61 = .ok (.if_icmp .ge 33, 3) := by decide +kernel
theorem dX6_build_64 : decode cX6_build 64 = .ok (.iload_n 3, 1) := by decide +kernel
theorem dX6_build_65 : decode cX6_build 65 = .ok (.ifCond .eq 21, 3) := by decide +kernel
theorem dX6_build_68 : decode cX6_build 68 = .ok (.aload_n 0, 1) := by decide +kernel
theorem dX6_build_69 : decode cX6_build 69 = .ok (.getfield 18, 3) := by decide +kernel
theorem dX6_build_72 : decode cX6_build 72 = .ok (.getfield 43, 3) := by decide +kernel
theorem dX6_build_75 : decode cX6_build 75 = .ok (.iload 4, 2) := by decide +kernel
theorem dX6_build_77 : decode cX6_build 77 = .ok (.iaload, 1) := by decide +kernel
theorem dX6_build_78 : decode cX6_build 78 = .ok (.iload_n 1, 1) := by decide +kernel
theorem dX6_build_79 : decode cX6_build 79 = .ok (.if_icmp .eq 7, 3) := by decide +kernel
theorem dX6_build_82 : decode cX6_build 82 = .ok (.iconst 1, 1) := by decide +kernel
theorem dX6_build_83 : decode cX6_build 83 = .ok (.goto 4, 3) := by decide +kernel
theorem dX6_build_86 : decode cX6_build 86 = .ok (.iconst 0, 1) := by decide +kernel
theorem dX6_build_87 : decode cX6_build 87 = .ok (.istore_n 3, 1) := by decide +kernel
theorem dX6_build_88 : decode cX6_build 88 = .ok (.iinc 4 1, 3) := by decide +kernel
theorem dX6_build_91 : decode cX6_build 91 = .ok (.goto (-39), 3) := by decide +kernel
theorem dX6_build_94 : decode cX6_build 94 = .ok (.iload_n 3, 1) := by decide +kernel
theorem dX6_build_95 : decode cX6_build 95 = .ok (.ifCond .ne 9, 3) := by decide +kernel
theorem dX6_build_98 : decode cX6_build 98 = .ok (.aload_n 0, 1) := by decide +kernel
theorem dX6_build_99 : decode cX6_build 99 = .ok (.iconst 2, 1) := by decide +kernel
theorem dX6_build_100 : decode cX6_build 100 = .ok (.invokevirtual 39, 3) := by decide +kernel
theorem dX6_build_103 : decode cX6_build 103 = .ok (.ireturn, 1) := by decide +kernel
theorem dX6_build_104 : decode cX6_build 104 = .ok (.aload_n 0, 1) := by decide +kernel
theorem dX6_build_105 : decode cX6_build 105 = .ok (.getfield 18, 3) := by decide +kernel
theorem dX6_build_108 : decode cX6_build 108 = .ok (.getfield 43, 3) := by decide +kernel
theorem dX6_build_111 : decode cX6_build 111 = .ok (.aload_n 0, 1) := by decide +kernel
theorem dX6_build_112 : decode cX6_build 112 = .ok (.getfield 18, 3) := by decide +kernel
theorem dX6_build_115 : decode cX6_build 115 = .ok (.getfield 29, 3) := by decide +kernel
theorem dX6_build_118 : decode cX6_build 118 = .ok (.iload_n 1, 1) := by decide +kernel
theorem dX6_build_119 : decode cX6_build 119 = .ok (.iastore, 1) := by decide +kernel
theorem dX6_build_120 : decode cX6_build 120 = .ok (.aload_n 0, 1) := by decide +kernel
theorem dX6_build_121 : decode cX6_build 121 = .ok (.getfield 18, 3) := by decide +kernel
theorem dX6_build_124 : decode cX6_build 124 = .ok (.getfield 46, 3) := by decide +kernel
theorem dX6_build_127 : decode cX6_build 127 = .ok (.aload_n 0, 1) := by decide +kernel
theorem dX6_build_128 : decode cX6_build 128 = .ok (.getfield 18, 3) := by decide +kernel
theorem dX6_build_131 : decode cX6_build 131 = .ok (.getfield 29, 3) := by decide +kernel
theorem dX6_build_134 : decode cX6_build 134 = .ok (.iload_n 2, 1) := by decide +kernel
theorem dX6_build_135 : decode cX6_build 135 = .ok (.iastore, 1) := by decide +kernel
theorem dX6_build_136 : decode cX6_build 136 = .ok (.aload_n 0, 1) := by decide +kernel
theorem dX6_build_137 : decode cX6_build 137 = .ok (.getfield 18, 3) := by decide +kernel
theorem dX6_build_140 : decode cX6_build 140 = .ok (.dup, 1) := by decide +kernel
theorem dX6_build_141 : decode cX6_build 141 = .ok (.getfield 29, 3) := by decide +kernel
theorem dX6_build_144 : decode cX6_build 144 = .ok (.iconst 1, 1) := by decide +kernel
theorem dX6_build_145 : decode cX6_build 145 = .ok (.iadd, 1) := by decide +kernel
theorem dX6_build_146 : decode cX6_build 146 = .ok (.putfield 29, 3) := by decide +kernel
theorem dX6_build_149 : decode cX6_build 149 = .ok (.aload_n 0, 1) := by decide +kernel
theorem dX6_build_150 : decode cX6_build 150 = .ok (.getfield 18, 3) := by decide +kernel
theorem dX6_build_153 : decode cX6_build 153 = .ok (.getfield 29, 3) := by decide +kernel
theorem dX6_build_156 : decode cX6_build 156 = .ok (.iconst 1, 1) := by decide +kernel
theorem dX6_build_157 : decode cX6_build 157 = .ok (.isub, 1) := by decide +kernel
theorem dX6_build_158 : decode cX6_build 158 = .ok (.ireturn, 1) := by decide +kernel
set_option maxRecDepth 20000 in
theorem ggX6_bring_X6_isShelter : GoodIn wsX6_bring wsX6_isShelter := goodIn_r _ [7, 2, 8, 9, 6, 10, 27, 28, 29, 30, 31, 32, 33, 34, 35, 36, 37, 38, 39, 40, 41, 42, 43, 44, 45, 46, 47, 48, 49, 50, 51, 52] (by decide +kernel) (by decide +kernel)
set_option maxRecDepth 20000 in
theorem gX6_bring_X6_isShelter : GoodIn wsX6_bring (wsV RX6 49 RX6 yX6_isShelter wsX6_isShelter) := goodIn_app (goodIn_of _ (by decide +kernel)) ggX6_bring_X6_isShelter
set_option maxRecDepth 20000 in
theorem ggX6_bring_X6_no : GoodIn wsX6_bring wsX6_no := goodIn_r _ [14, 1, 27, 28, 29, 30] (by decide +kernel) (by decide +kernel)
set_option maxRecDepth 20000 in
theorem gX6_bring_X6_no : GoodIn wsX6_bring (wsV RX6 39 RX6 yX6_no wsX6_no) := goodIn_app (goodIn_of _ (by decide +kernel)) ggX6_bring_X6_no
set_option maxRecDepth 20000 in
theorem ggX6_bring_X6_isIn : GoodIn wsX6_bring wsX6_isIn := goodIn_r _ [10] (by decide +kernel) (by decide +kernel)
set_option maxRecDepth 20000 in
theorem gX6_bring_X6_isIn : GoodIn wsX6_bring (va_wsS RX6 32 yX6_isIn wsX6_isIn) := goodIn_app (goodIn_of _ (by decide +kernel)) ggX6_bring_X6_isIn
set_option maxRecDepth 20000 in
theorem ggX6_bring_X5_bring : GoodIn wsX6_bring wsX5_bring := goodIn_r _ [19, 20, 21, 22, 23, 24, 25, 26, 31, 32, 33, 34, 35, 36, 37, 38, 39, 40, 41, 42, 43, 44, 45, 46, 47, 48, 49, 50, 51, 52] (by decide +kernel) (by decide +kernel)
set_option maxRecDepth 20000 in
theorem gX6_bring_X5_bring : GoodIn wsX6_bring (wsV RX6 56 RX5 yX5_bring wsX5_bring) := goodIn_app (goodIn_of _ (by decide +kernel)) ggX6_bring_X5_bring
theorem dX6_bring_0 : decode cX6_bring 0 = .ok (.aload_n 0, 1) := by decide +kernel
theorem dX6_bring_1 : decode cX6_bring 1 = .ok (.iconst 0, 1) := by decide +kernel
theorem dX6_bring_2 : decode cX6_bring 2 = .ok (.putfield 25, 3) := by decide +kernel
theorem dX6_bring_5 : decode cX6_bring 5 = .ok (.aload_n 0, 1) := by decide +kernel
theorem dX6_bring_6 : decode cX6_bring 6 = .ok (.iload_n 1, 1) := by decide +kernel
theorem dX6_bring_7 : decode cX6_bring 7 = .ok (.invokevirtual 49, 3) := by decide +kernel
theorem dX6_bring_10 : decode cX6_bring 10 = .ok (.ifCond .ne 9, 3) := by decide +kernel
theorem dX6_bring_13 : decode cX6_bring 13 = .ok (.aload_n 0, 1) := by decide +kernel
theorem dX6_bring_14 : decode cX6_bring 14 = .ok (.iconst 1, 1) := by decide +kernel
theorem dX6_bring_15 : decode cX6_bring 15 = .ok (.invokevirtual 39, 3) := by decide +kernel
theorem dX6_bring_18 : decode cX6_bring 18 = .ok (.ireturn, 1) := by decide +kernel
theorem dX6_bring_19 : decode cX6_bring 19 = .ok (.iload_n 2, 1) := by decide +kernel
theorem dX6_bring_20 : decode cX6_bring 20 = .ok (.iconst 1, 1) := by decide +kernel
theorem dX6_bring_21 : decode cX6_bring 21 = .ok (.bipush 10, 2) := by decide +kernel
theorem dX6_bring_23 : decode cX6_bring 23 = .ok (.invokestatic 32, 3) := by decide +kernel
theorem dX6_bring_26 : decode cX6_bring 26 = .ok (.ifCond .ne 9, 3) := by decide +kernel
theorem dX6_bring_29 : decode cX6_bring 29 = .ok (.aload_n 0, 1) := by decide +kernel
theorem dX6_bring_30 : decode cX6_bring 30 = .ok (.iconst 2, 1) := by decide +kernel
theorem dX6_bring_31 : decode cX6_bring 31 = .ok (.invokevirtual 39, 3) := by decide +kernel
theorem dX6_bring_34 : decode cX6_bring 34 = .ok (.ireturn, 1) := by decide +kernel
theorem dX6_bring_35 : decode cX6_bring 35 = .ok (.aload_n 0, 1) := by decide +kernel
theorem dX6_bring_36 : decode cX6_bring 36 = .ok (.getfield 18, 3) := by decide +kernel
theorem dX6_bring_39 : decode cX6_bring 39 = .ok (.getfield 53, 3) := by decide +kernel
theorem dX6_bring_42 : decode cX6_bring 42 = .ok (.iload_n 2, 1) := by decide +kernel
theorem dX6_bring_43 : decode cX6_bring 43 = .ok (.iadd, 1) := by decide +kernel
