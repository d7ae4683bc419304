theorem dX6_bring_44 : decode cX6_bring 44 = .ok (.bipush 40, 2) := by decide +kernel
theorem dX6_bring_46 : decode cX6_bring 46 = .ok (.if_icmp .le 9, 3) := by decide +kernel
theorem dX6_bring_49 : decode cX6_bring 49 = .ok (.aload_n 0, 1) := by decide +kernel
theorem dX6_bring_50 : decode cX6_bring 50 = .ok (.iconst 3, 1) := by decide +kernel
theorem dX6_bring_51 : decode cX6_bring 51 = .ok (.invokevirtual 39, 3) := by decide +kernel
theorem dX6_bring_54 : decode cX6_bring 54 = .ok (.ireturn, 1) := by decide +kernel
theorem dX6_bring_55 : decode cX6_bring 55 = .ok (.iconst 0, 1) := by decide +kernel
theorem dX6_bring_56 : decode cX6_bring 56 = .ok (.istore_n 3, 1) := by decide +kernel
theorem dX6_bring_57 : decode cX6_bring 57 = .ok (.iload_n 3, 1) := by decide +kernel
theorem dX6_bring_58 : decode cX6_bring 58 = .ok (.iload_n 2, 1) := by decide +kernel
theorem dX6_bring_59 : decode cX6_bring 59 = .ok (.if_icmp .ge 17, 3) := by decide +kernel
theorem dX6_bring_62 : decode cX6_bring 62 = .ok (.aload_n 0, 1) := by decide +kernel
theorem dX6_bring_63 : decode cX6_bring 63 = .ok (.getfield 18, 3) := by decide +kernel
theorem dX6_bring_66 : decode cX6_bring 66 = .ok (.iload_n 1, 1) := by decide +kernel
theorem dX6_bring_67 : decode cX6_bring 67 = .ok (.invokevirtual 56, 3) := by decide +kernel
theorem dX6_bring_70 : decode cX6_bring 70 = .ok (.iinc 3 1, 3) := by decide +kernel
theorem dX6_bring_73 : decode cX6_bring 73 = .ok (.goto (-16), 3) := by decide +kernel
theorem dX6_bring_76 : decode cX6_bring 76 = .ok (.aload_n 0, 1) := by decide +kernel
theorem dX6_bring_77 : decode cX6_bring 77 = .ok (.getfield 18, 3) := by decide +kernel
theorem dX6_bring_80 : decode cX6_bring 80 = .ok (.getfield 53, 3) := by decide +kernel
theorem dX6_bring_83 : decode cX6_bring 83 = .ok (.ireturn, 1) := by decide +kernel
set_option maxRecDepth 20000 in
theorem ggX6_addCitizen_X6_isShelter : GoodIn wsX6_addCitizen wsX6_isShelter := goodIn_r _ [12, 2, 13, 14, 11, 15, 20, 21, 22, 23, 24, 25, 26, 27, 28, 29, 30, 31, 32, 33, 34, 35, 36, 37, 38, 39, 40, 41, 42, 43, 44, 45] (by decide +kernel) (by decide +kernel)
set_option maxRecDepth 20000 in
theorem gX6_addCitizen_X6_isShelter : GoodIn wsX6_addCitizen (wsV RX6 49 RX6 yX6_isShelter wsX6_isShelter) := goodIn_app (goodIn_of _ (by decide +kernel)) ggX6_addCitizen_X6_isShelter
set_option maxRecDepth 20000 in
theorem ggX6_addCitizen_X6_no : GoodIn wsX6_addCitizen wsX6_no := goodIn_r _ [19, 1, 20, 21, 22, 23] (by decide +kernel) (by decide +kernel)
set_option maxRecDepth 20000 in
theorem gX6_addCitizen_X6_no : GoodIn wsX6_addCitizen (wsV RX6 39 RX6 yX6_no wsX6_no) := goodIn_app (goodIn_of _ (by decide +kernel)) ggX6_addCitizen_X6_no
set_option maxRecDepth 20000 in
theorem ggX6_addCitizen_X6_isIn : GoodIn wsX6_addCitizen wsX6_isIn := goodIn_r _ [15] (by decide +kernel) (by decide +kernel)
set_option maxRecDepth 20000 in
theorem gX6_addCitizen_X6_isIn : GoodIn wsX6_addCitizen (va_wsS RX6 32 yX6_isIn wsX6_isIn) := goodIn_app (goodIn_of _ (by decide +kernel)) ggX6_addCitizen_X6_isIn
theorem dX6_addCitizen_0 : decode cX6_addCitizen 0 = .ok (.aload_n 0, 1) := by decide +kernel
theorem dX6_addCitizen_1 : decode cX6_addCitizen 1 = .ok (.iconst 0, 1) := by decide +kernel
theorem dX6_addCitizen_2 : decode cX6_addCitizen 2 = .ok (.putfield 25, 3) := by decide +kernel
theorem dX6_addCitizen_5 : decode cX6_addCitizen 5 = .ok (.aload_n 0, 1) := by decide +kernel
theorem dX6_addCitizen_6 : decode cX6_addCitizen 6 = .ok (.iload_n 1, 1) := by decide +kernel
theorem dX6_addCitizen_7 : decode cX6_addCitizen 7 = .ok (.invokevirtual 49, 3) := by decide +kernel
theorem dX6_addCitizen_10 : decode cX6_addCitizen 10 = .ok (.ifCond .eq 11, 3) := by decide +kernel
theorem dX6_addCitizen_13 : decode cX6_addCitizen 13 = .ok (.aload_n 0, 1) := by decide +kernel
theorem dX6_addCitizen_14 : decode cX6_addCitizen 14 = .ok (.iload_n 2, 1) := by decide +kernel
theorem dX6_addCitizen_15 : decode cX6_addCitizen 15 = .ok (.invokevirtual 49, 3) := by decide +kernel
theorem dX6_addCitizen_18 : decode cX6_addCitizen 18 = .ok (.ifCond .ne 9, 3) := by decide +kernel
theorem dX6_addCitizen_21 : decode cX6_addCitizen 21 = .ok (.aload_n 0, 1) := by decide +kernel
theorem dX6_addCitizen_22 : decode cX6_addCitizen 22 = .ok (.iconst 1, 1) := by decide +kernel
theorem dX6_addCitizen_23 : decode cX6_addCitizen 23 = .ok (.invokevirtual 39, 3) := by decide +kernel
theorem dX6_addCitizen_26 : decode cX6_addCitizen 26 = .ok (.ireturn, 1) := by decide +kernel
theorem dX6_addCitizen_27 : decode cX6_addCitizen 27 = .ok (.iload_n 1, 1) := by decide +kernel
theorem dX6_addCitizen_28 : decode cX6_addCitizen 28 = .ok (.iload_n 2, 1) := by decide +kernel
theorem dX6_addCitizen_29 : decode cX6_addCitizen 29 = .ok (.if_icmp .eq 41, 3) := by decide +kernel
theorem dX6_addCitizen_32 : decode cX6_addCitizen 32 = .ok (.iload_n 3, 1) := by decide +kernel
theorem dX6_addCitizen_33 : decode cX6_addCitizen 33 = .ok (.iconst 0, 1) := by decide +kernel
theorem dX6_addCitizen_34 : decode cX6_addCitizen 34 = .ok (.bipush 23, 2) := by decide +kernel
theorem dX6_addCitizen_36 : decode cX6_addCitizen 36 = .ok (.invokestatic 32, 3) := by decide +kernel
theorem dX6_addCitizen_39 : decode cX6_addCitizen 39 = .ok (.ifCond .eq 31, 3) := by decide +kernel
theorem dX6_addCitizen_42 : decode cX6_addCitizen 42 = .ok (.iload 4, 2) := by decide +kernel
theorem dX6_addCitizen_44 : decode cX6_addCitizen 44 = .ok (.iconst 0, 1) := by decide +kernel
theorem dX6_addCitizen_45 : decode cX6_addCitizen 45 = .ok (.bipush 23, 2) := by decide +kernel
theorem dX6_addCitizen_47 : decode cX6_addCitizen 47 = .ok (.invokestatic 32, 3) := by decide +kernel
theorem dX6_addCitizen_50 : decode cX6_addCitizen 50 = .ok (.ifCond .eq 20, 3) := by decide +kernel
theorem dX6_addCitizen_53 : decode cX6_addCitizen 53 = .ok (.iload_n 3, 1) := by decide +kernel
theorem dX6_addCitizen_54 : decode cX6_addCitizen 54 = .ok (.iload 4, 2) := by decide +kernel
theorem dX6_addCitizen_56 : decode cX6_addCitizen 56 = .ok (.if_icmp .eq 14, 3) := by decide +kernel
theorem dX6_addCitizen_59 : decode cX6_addCitizen 59 = .ok (.iload 5, 2) := by decide +kernel
theorem dX6_addCitizen_61 : decode cX6_addCitizen 61 = .ok (.iconst 1, 1) := by decide +kernel
theorem dX6_addCitizen_62 : decode cX6_addCitizen 62 = .ok (.bipush 9, 2) := by decide +kernel
theorem dX6_addCitizen_64 : decode cX6_addCitizen 64 = .ok (.invokestatic 32, 3) := by decide +kernel
theorem dX6_addCitizen_67 : decode cX6_addCitizen 67 = .ok (.ifCond .ne 9, 3) := by decide +kernel
theorem dX6_addCitizen_70 : decode cX6_addCitizen 70 = .ok (.aload_n 0, 1) := by decide +kernel
theorem dX6_addCitizen_71 : decode cX6_addCitizen 71 = .ok (.iconst 2, 1) := by decide +kernel
theorem dX6_addCitizen_72 : decode cX6_addCitizen 72 = .ok (.invokevirtual 39, 3) := by decide +kernel
theorem dX6_addCitizen_75 : decode cX6_addCitizen 75 = .ok (.ireturn, 1) := by decide +kernel
theorem dX6_addCitizen_76 : decode cX6_addCitizen 76 = .ok (.aload_n 0, 1) := by decide +kernel
theorem dX6_addCitizen_77 : decode cX6_addCitizen 77 = .ok (.getfield 18, 3) := by decide +kernel
theorem dX6_addCitizen_80 : decode cX6_addCitizen 80 = .ok (.getfield 36, 3) := by decide +kernel
theorem dX6_addCitizen_83 : decode cX6_addCitizen 83 = .ok (.bipush 10, 2) := by decide +kernel
theorem dX6_addCitizen_85 : decode cX6_addCitizen 85 = .ok (.if_icmp .ne 9, 3) := by decide +kernel
theorem dX6_addCitizen_88 : decode cX6_addCitizen 88 = .ok (.aload_n 0, 1) := by decide +kernel
theorem dX6_addCitizen_89 : decode cX6_addCitizen 89 = .ok (.iconst 3, 1) := by decide +kernel
theorem dX6_addCitizen_90 : decode cX6_addCitizen 90 = .ok (.invokevirtual 39, 3) := by decide +kernel
theorem dX6_addCitizen_93 : decode cX6_addCitizen 93 = .ok (.ireturn, 1) := by decide +kernel
theorem dX6_addCitizen_94 : decode cX6_addCitizen 94 = .ok (.iconst 5, 1) := by decide +kernel
theorem dX6_addCitizen_95 : decode cX6_addCitizen 95 = .ok (.newarray .int, 2) := by decide +kernel
theorem dX6_addCitizen_97 : decode cX6_addCitizen 97 = .ok (.dup, 1) := by decide +kernel
theorem dX6_addCitizen_98 : decode cX6_addCitizen 98 = .ok (.iconst 0, 1) := by decide +kernel
theorem dX6_addCitizen_99 : decode cX6_addCitizen 99 = .ok (.iload_n 1, 1) := by decide +kernel
theorem dX6_addCitizen_100 : decode cX6_addCitizen 100 = .ok (.iastore, 1) := by decide +kernel
theorem dX6_addCitizen_101 : decode cX6_addCitizen 101 = .ok (.dup, 1) := by decide +kernel
theorem dX6_addCitizen_102 : decode cX6_addCitizen 102 = .ok (.iconst 1, 1) := by decide +kernel
theorem dX6_addCitizen_103 : decode cX6_addCitizen 103 = .ok (.iload_n 2, 1) := by decide +kernel
theorem dX6_addCitizen_104 : decode cX6_addCitizen 104 = .ok (.iastore, 1) := by decide +kernel
theorem dX6_addCitizen_105 : decode cX6_addCitizen 105 = .ok (.dup, 1) := by decide +kernel
theorem dX6_addCitizen_106 : decode cX6_addCitizen 106 = .ok (.iconst 2, 1) := by decide +kernel
theorem dX6_addCitizen_107 : decode cX6_addCitizen 107 = .ok (.iload_n 3, 1) := by decide +kernel
theorem dX6_addCitizen_108 : decode cX6_addCitizen 108 = .ok (.iastore, 1) := by decide +kernel
theorem dX6_addCitizen_109 : decode cX6_addCitizen 109 = .ok (.dup, 1) := by decide +kernel
theorem dX6_addCitizen_110 : decode cX6_addCitizen 110 = .ok (.iconst 3, 1) := by decide +kernel
theorem dX6_addCitizen_111 : decode cX6_addCitizen 111 = .ok (.iload 4, 2) := by decide +kernel
theorem dX6_addCitizen_113 : decode cX6_addCitizen 113 = .ok (.iastore, 1) := by decide +kernel
theorem dX6_addCitizen_114 : decode cX6_addCitizen 114 = .ok (.dup, 1) := by decide +kernel
theorem dX6_addCitizen_115 : decode cX6_addCitizen 115 = .ok (.iconst 4, 1) := by decide +kernel
theorem dX6_addCitizen_116 : decode cX6_addCitizen 116 = .ok (.iload 5, 2) := by decide +kernel
theorem dX6_addCitizen_118 : decode cX6_addCitizen 118 = .ok (.iastore, 1) := by decide +kernel
theorem dX6_addCitizen_119 : decode cX6_addCitizen 119 = .ok (.astore 6, 2) := by decide +kernel
theorem dX6_addCitizen_121 : decode cX6_addCitizen 121 = .ok (.aload 6, 2) := by decide +kernel
theorem dX6_addCitizen_123 : decode cX6_addCitizen 123 = .ok (.iconst 0, 1) := by decide +kernel
theorem dX6_addCitizen_124 : decode cX6_addCitizen 124 = .ok (.aload_n 0, 1) := by decide +kernel
theorem dX6_addCitizen_125 : decode cX6_addCitizen 125 = .ok (.getfield 18, 3) := by decide +kernel
theorem dX6_addCitizen_128 : decode cX6_addCitizen 128 = .ok (.getfield 60, 3) := by decide +kernel
theorem dX6_addCitizen_131 : decode cX6_addCitizen 131 = .ok (.iconst 5, 1) := by decide +kernel
theorem dX6_addCitizen_132 : decode cX6_addCitizen 132 = .ok (.aload_n 0, 1) := by decide +kernel
theorem dX6_addCitizen_133 : decode cX6_addCitizen 133 = .ok (.getfield 18, 3) := by decide +kernel
theorem dX6_addCitizen_136 : decode cX6_addCitizen 136 = .ok (.getfield 36, 3) := by decide +kernel
theorem dX6_addCitizen_139 : decode cX6_addCitizen 139 = .ok (.imul, 1) := by decide +kernel
theorem dX6_addCitizen_140 : decode cX6_addCitizen 140 = .ok (.iconst 5, 1) := by decide +kernel
theorem dX6_addCitizen_141 : decode cX6_addCitizen 141 = .ok (.invokestatic 63, 3) := by decide +kernel
theorem dX6_addCitizen_144 : decode cX6_addCitizen 144 = .ok (.aload_n 0, 1) := by decide +kernel
theorem dX6_addCitizen_145 : decode cX6_addCitizen 145 = .ok (.getfield 18, 3) := by decide +kernel
theorem dX6_addCitizen_148 : decode cX6_addCitizen 148 = .ok (.getfield 69, 3) := by decide +kernel
theorem dX6_addCitizen_151 : decode cX6_addCitizen 151 = .ok (.aload_n 0, 1) := by decide +kernel
theorem dX6_addCitizen_152 : decode cX6_addCitizen 152 = .ok (.getfield 18, 3) := by decide +kernel
theorem dX6_addCitizen_155 : decode cX6_addCitizen 155 = .ok (.getfield 36, 3) := by decide +kernel
theorem dX6_addCitizen_158 : decode cX6_addCitizen 158 = .ok (.iload_n 1, 1) := by decide +kernel
theorem dX6_addCitizen_159 : decode cX6_addCitizen 159 = .ok (.iastore, 1) := by decide +kernel
theorem dX6_addCitizen_160 : decode cX6_addCitizen 160 = .ok (.aload_n 0, 1) := by decide +kernel
theorem dX6_addCitizen_161 : decode cX6_addCitizen 161 = .ok (.getfield 18, 3) := by decide +kernel
theorem dX6_addCitizen_164 : decode cX6_addCitizen 164 = .ok (.getfield 72, 3) := by decide +kernel
theorem dX6_addCitizen_167 : decode cX6_addCitizen 167 = .ok (.aload_n 0, 1) := by decide +kernel
theorem dX6_addCitizen_168 : decode cX6_addCitizen 168 = .ok (.getfield 18, 3) := by decide +kernel
theorem dX6_addCitizen_171 : decode cX6_addCitizen 171 = .ok (.getfield 36, 3) := by decide +kernel
theorem dX6_addCitizen_174 : decode cX6_addCitizen 174 = .ok (.iconst (-1), 1) := by decide +kernel
theorem dX6_addCitizen_175 : decode cX6_addCitizen 175 = .ok (.iastore, 1) := by decide +kernel
theorem dX6_addCitizen_176 : decode cX6_addCitizen 176 = .ok (.aload_n 0, 1) := by decide +kernel
theorem dX6_addCitizen_177 : decode cX6_addCitizen 177 = .ok (.getfield 18, 3) := by decide +kernel
theorem dX6_addCitizen_180 : decode cX6_addCitizen 180 = .ok (.getfield 75, 3) := by decide +kernel
theorem dX6_addCitizen_183 : decode cX6_addCitizen 183 = .ok (.aload_n 0, 1) := by decide +kernel
theorem dX6_addCitizen_184 : decode cX6_addCitizen 184 = .ok (.getfield 18, 3) := by decide +kernel
theorem dX6_addCitizen_187 : decode cX6_addCitizen 187 = .ok (.getfield 36, 3) := by decide +kernel
theorem dX6_addCitizen_190 : decode cX6_addCitizen 190 = .ok (.iconst 5, 1) := by decide +kernel
theorem dX6_addCitizen_191 : decode cX6_addCitizen 191 = .ok (.iastore, 1) := by decide +kernel
theorem dX6_addCitizen_192 : decode cX6_addCitizen 192 = .ok (.aload_n 0, 1) := by decide +kernel
theorem dX6_addCitizen_193 : decode cX6_addCitizen 193 = .ok (.getfield 18, 3) := by decide +kernel
theorem dX6_addCitizen_196 : decode cX6_addCitizen 196 = .ok (.dup, 1) := by decide +kernel
theorem dX6_addCitizen_197 : decode cX6_addCitizen 197 = .ok (.getfield 36, 3) := by decide +kernel
theorem dX6_addCitizen_200 : decode cX6_addCitizen 200 = .ok (.iconst 1, 1) := by decide +kernel
theorem dX6_addCitizen_201 : decode cX6_addCitizen 201 = .ok (.iadd, 1) := by decide +kernel
theorem dX6_addCitizen_202 : decode cX6_addCitizen 202 = .ok (.putfield 36, 3) := by decide +kernel
theorem dX6_addCitizen_205 : decode cX6_addCitizen 205 = .ok (.aload_n 0, 1) := by decide +kernel
theorem dX6_addCitizen_206 : decode cX6_addCitizen 206 = .ok (.getfield 18, 3) := by decide +kernel
theorem dX6_addCitizen_209 : decode cX6_addCitizen 209 = .ok (.getfield 36, 3) := by decide +kernel
theorem dX6_addCitizen_212 : decode cX6_addCitizen 212 = .ok (.iconst 1, 1) := by decide +kernel
theorem dX6_addCitizen_213 : decode cX6_addCitizen 213 = .ok (.isub, 1) := by decide +kernel
theorem dX6_addCitizen_214 : decode cX6_addCitizen 214 = .ok (.ireturn, 1) := by decide +kernel
set_option maxRecDepth 20000 in
theorem ggX6_setRain_X6_isIn : GoodIn wsX6_setRain wsX6_isIn := goodIn_r _ [6] (by decide +kernel) (by decide +kernel)
set_option maxRecDepth 20000 in
theorem gX6_setRain_X6_isIn : GoodIn wsX6_setRain (va_wsS RX6 32 yX6_isIn wsX6_isIn) := goodIn_app (goodIn_of _ (by decide +kernel)) ggX6_setRain_X6_isIn
set_option maxRecDepth 20000 in
theorem ggX6_setRain_X6_no : GoodIn wsX6_setRain wsX6_no := goodIn_r _ [10, 1, 11, 12, 13, 14] (by decide +kernel) (by decide +kernel)
set_option maxRecDepth 20000 in
theorem gX6_setRain_X6_no : GoodIn wsX6_setRain (wsV RX6 39 RX6 yX6_no wsX6_no) := goodIn_app (goodIn_of _ (by decide +kernel)) ggX6_setRain_X6_no
theorem dX6_setRain_0 : decode cX6_setRain 0 = .ok (.aload_n 0, 1) := by decide +kernel
theorem dX6_setRain_1 : decode cX6_setRain 1 = .ok (.iconst 0, 1) := by decide +kernel
theorem dX6_setRain_2 : decode cX6_setRain 2 = .ok (.putfield 25, 3) := by decide +kernel
theorem dX6_setRain_5 : decode cX6_setRain 5 = .ok (.iload_n 1, 1) := by decide +kernel
theorem dX6_setRain_6 : decode cX6_setRain 6 = .ok (.iconst 0, 1) := by decide +kernel
theorem dX6_setRain_7 : decode cX6_setRain 7 = .ok (.bipush 23, 2) := by decide +kernel
theorem dX6_setRain_9 : decode cX6_setRain 9 = .ok (.invokestatic 32, 3) := by decide +kernel
theorem dX6_setRain_12 : decode cX6_setRain 12 = .ok (.ifCond .ne 9, 3) := by decide +kernel
theorem dX6_setRain_15 : decode cX6_setRain 15 = .ok (.aload_n 0, 1) := by decide +kernel
theorem dX6_setRain_16 : decode cX6_setRain 16 = .ok (.iconst 1, 1) := by decide +kernel
theorem dX6_setRain_17 : decode cX6_setRain 17 = .ok (.invokevirtual 39, 3) := by decide +kernel
theorem dX6_setRain_20 : decode cX6_setRain 20 = .ok (.ireturn, 1) := by decide +kernel
theorem dX6_setRain_21 : decode cX6_setRain 21 = .ok (.iload_n 2, 1) := by decide +kernel
theorem dX6_setRain_22 : decode cX6_setRain 22 = .ok (.iconst 0, 1) := by decide +kernel
theorem dX6_setRain_23 : decode cX6_setRain 23 = .ok (.bipush 9, 2) := by decide +kernel
theorem dX6_setRain_25 : decode cX6_setRain 25 = .ok (.invokestatic 32, 3) := by decide +kernel
theorem dX6_setRain_28 : decode cX6_setRain 28 = .ok (.ifCond .ne 9, 3) := by decide +kernel
theorem dX6_setRain_31 : decode cX6_setRain 31 = .ok (.aload_n 0, 1) := by decide +kernel
theorem dX6_setRain_32 : decode cX6_setRain 32 = .ok (.iconst 2, 1) := by decide +kernel
theorem dX6_setRain_33 : decode cX6_setRain 33 = .ok (.invokevirtual 39, 3) := by decide +kernel
theorem dX6_setRain_36 : decode cX6_setRain 36 = .ok (.ireturn, 1) := by decide +kernel
theorem dX6_setRain_37 : decode cX6_setRain 37 = .ok (.aload_n 0, 1) := by decide +kernel
theorem dX6_setRain_38 : decode cX6_setRain 38 = .ok (.getfield 9, 3) := by decide +kernel
theorem dX6_setRain_41 : decode cX6_setRain 41 = .ok (.iload_n 1, 1) := by decide +kernel
theorem dX6_setRain_42 : decode cX6_setRain 42 = .ok (.iaload, 1) := by decide +kernel
theorem dX6_setRain_43 : decode cX6_setRain 43 = .ok (.istore_n 3, 1) := by decide +kernel
theorem dX6_setRain_44 : decode cX6_setRain 44 = .ok (.aload_n 0, 1) := by decide +kernel
theorem dX6_setRain_45 : decode cX6_setRain 45 = .ok (.getfield 9, 3) := by decide +kernel
theorem dX6_setRain_48 : decode cX6_setRain 48 = .ok (.iload_n 1, 1) := by decide +kernel
theorem dX6_setRain_49 : decode cX6_setRain 49 = .ok (.iload_n 2, 1) := by decide +kernel
theorem dX6_setRain_50 : decode cX6_setRain 50 = .ok (.iastore, 1) := by decide +kernel
theorem dX6_setRain_51 : decode cX6_setRain 51 = .ok (.iload_n 3, 1) := by decide +kernel
theorem dX6_setRain_52 : decode cX6_setRain 52 = .ok (.ireturn, 1) := by decide +kernel
set_option maxRecDepth 20000 in
theorem ggX6_setDemand_X6_isShelter : GoodIn wsX6_setDemand wsX6_isShelter := goodIn_r _ [7, 2, 8, 9, 6, 10, 15, 16, 17, 18, 19, 20, 21, 22, 23, 24, 25, 26, 27, 28, 29, 30, 31, 32, 33, 34, 35, 36, 37, 38, 39, 40] (by decide +kernel) (by decide +kernel)
set_option maxRecDepth 20000 in
theorem gX6_setDemand_X6_isShelter : GoodIn wsX6_setDemand (wsV RX6 49 RX6 yX6_isShelter wsX6_isShelter) := goodIn_app (goodIn_of _ (by decide +kernel)) ggX6_setDemand_X6_isShelter
set_option maxRecDepth 20000 in
theorem ggX6_setDemand_X6_no : GoodIn wsX6_setDemand wsX6_no := goodIn_r _ [14, 1, 15, 16, 17, 18] (by decide +kernel) (by decide +kernel)
set_option maxRecDepth 20000 in
theorem gX6_setDemand_X6_no : GoodIn wsX6_setDemand (wsV RX6 39 RX6 yX6_no wsX6_no) := goodIn_app (goodIn_of _ (by decide +kernel)) ggX6_setDemand_X6_no
set_option maxRecDepth 20000 in
theorem ggX6_setDemand_X6_isIn : GoodIn wsX6_setDemand wsX6_isIn := goodIn_r _ [10] (by decide +kernel) (by decide +kernel)
set_option maxRecDepth 20000 in
theorem gX6_setDemand_X6_isIn : GoodIn wsX6_setDemand (va_wsS RX6 32 yX6_isIn wsX6_isIn) := goodIn_app (goodIn_of _ (by decide +kernel)) ggX6_setDemand_X6_isIn
theorem dX6_setDemand_0 : decode cX6_setDemand 0 = .ok (.aload_n 0, 1) := by decide +kernel
theorem dX6_setDemand_1 : decode cX6_setDemand 1 = .ok (.iconst 0, 1) := by decide +kernel
theorem dX6_setDemand_2 : decode cX6_setDemand 2 = .ok (.putfield 25, 3) := by decide +kernel
theorem dX6_setDemand_5 : decode cX6_setDemand 5 = .ok (.aload_n 0, 1) := by decide +kernel
theorem dX6_setDemand_6 : decode cX6_setDemand 6 = .ok (.iload_n 1, 1) := by decide +kernel
theorem dX6_setDemand_7 : decode cX6_setDemand 7 = .ok (.invokevirtual 49, 3) := by decide +kernel
theorem dX6_setDemand_10 : decode cX6_setDemand 10 = .ok (.ifCond .ne 9, 3) := by decide +kernel
theorem dX6_setDemand_13 : decode cX6_setDemand 13 = .ok (.aload_n 0, 1) := by decide +kernel
theorem dX6_setDemand_14 : decode cX6_setDemand 14 = .ok (.iconst 1, 1) := by decide +kernel
theorem dX6_setDemand_15 : decode cX6_setDemand 15 = .ok (.invokevirtual 39, 3) := by decide +kernel
theorem dX6_setDemand_18 : decode cX6_setDemand 18 = .ok (.ireturn, 1) := by decide +kernel
theorem dX6_setDemand_19 : decode cX6_setDemand 19 = .ok (.iload_n 2, 1) := by decide +kernel
theorem dX6_setDemand_20 : decode cX6_setDemand 20 = .ok (.iconst 0, 1) := by decide +kernel
theorem dX6_setDemand_21 : decode cX6_setDemand 21 = .ok (.bipush 10, 2) := by decide +kernel
theorem dX6_setDemand_23 : decode cX6_setDemand 23 = .ok (.invokestatic 32, 3) := by decide +kernel
theorem dX6_setDemand_26 : decode cX6_setDemand 26 = .ok (.ifCond .ne 9, 3) := by decide +kernel
theorem dX6_setDemand_29 : decode cX6_setDemand 29 = .ok (.aload_n 0, 1) := by decide +kernel
theorem dX6_setDemand_30 : decode cX6_setDemand 30 = .ok (.iconst 2, 1) := by decide +kernel
theorem dX6_setDemand_31 : decode cX6_setDemand 31 = .ok (.invokevirtual 39, 3) := by decide +kernel
theorem dX6_setDemand_34 : decode cX6_setDemand 34 = .ok (.ireturn, 1) := by decide +kernel
theorem dX6_setDemand_35 : decode cX6_setDemand 35 = .ok (.aload_n 0, 1) := by decide +kernel
theorem dX6_setDemand_36 : decode cX6_setDemand 36 = .ok (.getfield 18, 3) := by decide +kernel
theorem dX6_setDemand_39 : decode cX6_setDemand 39 = .ok (.getfield 46, 3) := by decide +kernel
theorem dX6_setDemand_42 : decode cX6_setDemand 42 = .ok (.iload_n 1, 1) := by decide +kernel
theorem dX6_setDemand_43 : decode cX6_setDemand 43 = .ok (.iaload, 1) := by decide +kernel
theorem dX6_setDemand_44 : decode cX6_setDemand 44 = .ok (.istore_n 3, 1) := by decide +kernel
theorem dX6_setDemand_45 : decode cX6_setDemand 45 = .ok (.aload_n 0, 1) := by decide +kernel
theorem dX6_setDemand_46 : decode cX6_setDemand 46 = .ok (.getfield 18, 3) := by decide +kernel
theorem dX6_setDemand_49 : decode cX6_setDemand 49 = .ok (.getfield 46, 3) := by decide +kernel
theorem dX6_setDemand_52 : decode cX6_setDemand 52 = .ok (.iload_n 1, 1) := by decide +kernel
theorem dX6_setDemand_53 : decode cX6_setDemand 53 = .ok (.iload_n 2, 1) := by decide +kernel
theorem dX6_setDemand_54 : decode cX6_setDemand 54 = .ok (.iastore, 1) := by decide +kernel
theorem dX6_setDemand_55 : decode cX6_setDemand 55 = .ok (.iload_n 3, 1) := by decide +kernel
theorem dX6_setDemand_56 : decode cX6_setDemand 56 = .ok (.ireturn, 1) := by decide +kernel
set_option maxRecDepth 20000 in
theorem ggX6_shelterTold_X5_there : GoodIn wsX6_shelterTold wsX5_there := goodIn_r _ [7, 8, 9, 10, 20, 21, 22, 23, 24, 25, 26, 27, 28, 29, 30, 31, 32, 33, 34, 35, 36, 37, 38, 39, 40, 41] (by decide +kernel) (by decide +kernel)
set_option maxRecDepth 20000 in
theorem gX6_shelterTold_X5_there : GoodIn wsX6_shelterTold (wsV RX6 78 RX5 yX5_there wsX5_there) := goodIn_app (goodIn_of _ (by decide +kernel)) ggX6_shelterTold_X5_there
set_option maxRecDepth 20000 in
theorem ggX6_shelterTold_X5_first : GoodIn wsX6_shelterTold wsX5_first := goodIn_r _ [14, 8, 9, 10, 15, 20, 21, 22, 23, 24, 25, 26, 27, 28, 29, 30, 31, 32, 33, 34, 35, 36, 37, 38, 39, 40, 41] (by decide +kernel) (by decide +kernel)
set_option maxRecDepth 20000 in
theorem gX6_shelterTold_X5_first : GoodIn wsX6_shelterTold (wsV RX6 84 RX5 yX5_first wsX5_first) := goodIn_app (goodIn_of _ (by decide +kernel)) ggX6_shelterTold_X5_first
theorem dX6_shelterTold_0 : decode cX6_shelterTold 0 = .ok (.iconst 0, 1) := by decide +kernel
theorem dX6_shelterTold_1 : decode cX6_shelterTold 1 = .ok (.istore_n 3, 1) := by decide +kernel
theorem dX6_shelterTold_2 : decode cX6_shelterTold 2 = .ok (.iconst 0, 1) := by decide +kernel
theorem dX6_shelterTold_3 : decode cX6_shelterTold 3 = .ok (.istore 4, 2) := by decide +kernel
theorem dX6_shelterTold_5 : decode cX6_shelterTold 5 = .ok (.iload 4, 2) := by decide +kernel
theorem dX6_shelterTold_7 : decode cX6_shelterTold 7 = .ok (.aload_n 0, 1) := by decide +kernel
theorem dX6_shelterTold_8 : decode cX6_shelterTold 8 = .ok (.getfield 18, 3) := by decide +kernel
theorem dX6_shelterTold_11 : decode cX6_shelterTold 11 = .ok (.getfield 36, 3) := by decide +kernel
theorem dX6_shelterTold_14 : decode cX6_shelterTold 14 = .ok (.if_icmp .ge 31, 3) := by decide +kernel
theorem dX6_shelterTold_17 : decode cX6_shelterTold 17 = .ok (.iload_n 3, 1) := by decide +kernel
theorem dX6_shelterTold_18 : decode cX6_shelterTold 18 = .ok (.aload_n 0, 1) := by decide +kernel
theorem dX6_shelterTold_19 : decode cX6_shelterTold 19 = .ok (.getfield 18, 3) := by decide +kernel
theorem dX6_shelterTold_22 : decode cX6_shelterTold 22 = .ok (.getfield 69, 3) := by decide +kernel
theorem dX6_shelterTold_25 : decode cX6_shelterTold 25 = .ok (.iload 4, 2) := by decide +kernel
theorem dX6_shelterTold_27 : decode cX6_shelterTold 27 = .ok (.iaload, 1) := by decide +kernel
theorem dX6_shelterTold_28 : decode cX6_shelterTold 28 = .ok (.iload_n 1, 1) := by decide +kernel
theorem dX6_shelterTold_29 : decode cX6_shelterTold 29 = .ok (.if_icmp .ne 7, 3) := by decide +kernel
theorem dX6_shelterTold_32 : decode cX6_shelterTold 32 = .ok (.iconst 1, 1) := by decide +kernel
theorem dX6_shelterTold_33 : decode cX6_shelterTold 33 = .ok (.goto 4, 3) := by decide +kernel
theorem dX6_shelterTold_36 : decode cX6_shelterTold 36 = .ok (.iconst 0, 1) := by decide +kernel
theorem dX6_shelterTold_37 : decode cX6_shelterTold 37 = .ok (.iadd, 1) := by decide +kernel
theorem dX6_shelterTold_38 : decode cX6_shelterTold 38 = .ok (.istore_n 3, 1) := by decide +kernel
theorem dX6_shelterTold_39 : decode cX6_shelterTold 39 = .ok (.iinc 4 1, 3) := by decide +kernel
theorem dX6_shelterTold_42 : decode cX6_shelterTold 42 = .ok (.goto (-37), 3) := by decide +kernel
theorem dX6_shelterTold_45 : decode cX6_shelterTold 45 = .ok (.bipush 8, 2) := by decide +kernel
theorem dX6_shelterTold_47 : decode cX6_shelterTold 47 = .ok (.newarray .int, 2) := by decide +kernel
theorem dX6_shelterTold_49 : decode cX6_shelterTold 49 = .ok (.dup, 1) := by decide +kernel
theorem dX6_shelterTold_50 : decode cX6_shelterTold 50 = .ok (.iconst 0, 1) := by decide +kernel
theorem dX6_shelterTold_51 : decode cX6_shelterTold 51 = .ok (.aload_n 0, 1) := by decide +kernel
theorem dX6_shelterTold_52 : decode cX6_shelterTold 52 = .ok (.getfield 18, 3) := by decide +kernel
theorem dX6_shelterTold_55 : decode cX6_shelterTold 55 = .ok (.getfield 43, 3) := by decide +kernel
theorem dX6_shelterTold_58 : decode cX6_shelterTold 58 = .ok (.iload_n 1, 1) := by decide +kernel
theorem dX6_shelterTold_59 : decode cX6_shelterTold 59 = .ok (.iaload, 1) := by decide +kernel
theorem dX6_shelterTold_60 : decode cX6_shelterTold 60 = .ok (.iastore, 1) := by decide +kernel
theorem dX6_shelterTold_61 : decode cX6_shelterTold 61 = .ok (.dup, 1) := by decide +kernel
theorem dX6_shelterTold_62 : decode cX6_shelterTold 62 = .ok (.iconst 1, 1) := by decide +kernel
theorem dX6_shelterTold_63 : decode cX6_shelterTold 63 = .ok (.aload_n 0, 1) := by decide +kernel
theorem dX6_shelterTold_64 : decode cX6_shelterTold 64 = .ok (.getfield 18, 3) := by decide +kernel
theorem dX6_shelterTold_67 : decode cX6_shelterTold 67 = .ok (.getfield 46, 3) := by decide +kernel
theorem dX6_shelterTold_70 : decode cX6_shelterTold 70 = .ok (.iload_n 1, 1) := by decide +kernel
theorem dX6_shelterTold_71 : decode cX6_shelterTold 71 = .ok (.iaload, 1) := by decide +kernel
theorem dX6_shelterTold_72 : decode cX6_shelterTold 72 = .ok (.iastore, 1) := by decide +kernel
theorem dX6_shelterTold_73 : decode cX6_shelterTold 73 = .ok (.dup, 1) := by decide +kernel
theorem dX6_shelterTold_74 : decode cX6_shelterTold 74 = .ok (.iconst 2, 1) := by decide +kernel
theorem dX6_shelterTold_75 : decode cX6_shelterTold 75 = .ok (.aload_n 0, 1) := by decide +kernel
theorem dX6_shelterTold_76 : decode cX6_shelterTold 76 = .ok (.getfield 18, 3) := by decide +kernel
theorem dX6_shelterTold_79 : decode cX6_shelterTold 79 = .ok (.iload_n 1, 1) := by decide +kernel
theorem dX6_shelterTold_80 : decode cX6_shelterTold 80 = .ok (.invokevirtual 78, 3) := by decide +kernel
theorem dX6_shelterTold_83 : decode cX6_shelterTold 83 = .ok (.iastore, 1) := by decide +kernel
theorem dX6_shelterTold_84 : decode cX6_shelterTold 84 = .ok (.dup, 1) := by decide +kernel
theorem dX6_shelterTold_85 : decode cX6_shelterTold 85 = .ok (.iconst 3, 1) := by decide +kernel
theorem dX6_shelterTold_86 : decode cX6_shelterTold 86 = .ok (.iload_n 3, 1) := by decide +kernel
theorem dX6_shelterTold_87 : decode cX6_shelterTold 87 = .ok (.iastore, 1) := by decide +kernel
theorem dX6_shelterTold_88 : decode cX6_shelterTold 88 = .ok (.dup, 1) := by decide +kernel
theorem dX6_shelterTold_89 : decode cX6_shelterTold 89 = .ok (.iconst 4, 1) := by decide +kernel
theorem dX6_shelterTold_90 : decode cX6_shelterTold 90 = .ok (.aload_n 0, 1) := by decide +kernel
theorem dX6_shelterTold_91 : decode cX6_shelterTold 91 = .ok (.getfield 18, 3) := by decide +kernel
theorem dX6_shelterTold_94 : decode cX6_shelterTold 94 = .ok (.getfield 81, 3) := by decide +kernel
theorem dX6_shelterTold_97 : decode cX6_shelterTold 97 = .ok (.iconst 5, 1) := by decide +kernel
theorem dX6_shelterTold_98 : decode cX6_shelterTold 98 = .ok (.iload_n 1, 1) := by decide +kernel
theorem dX6_shelterTold_99 : decode cX6_shelterTold 99 = .ok (.imul, 1) := by decide +kernel
theorem dX6_shelterTold_100 : decode cX6_shelterTold 100 = .ok (.iaload, 1) := by decide +kernel
theorem dX6_shelterTold_101 : decode cX6_shelterTold 101 = .ok (.iastore, 1) := by decide +kernel
theorem dX6_shelterTold_102 : decode cX6_shelterTold 102 = .ok (.dup, 1) := by decide +kernel
theorem dX6_shelterTold_103 : decode cX6_shelterTold 103 = .ok (.iconst 5, 1) := by decide +kernel
theorem dX6_shelterTold_104 : decode cX6_shelterTold 104 = .ok (.aload_n 0, 1) := by decide +kernel
theorem dX6_shelterTold_105 : decode cX6_shelterTold 105 = .ok (.getfield 18, 3) := by decide +kernel
theorem dX6_shelterTold_108 : decode cX6_shelterTold 108 = .ok (.getfield 81, 3) := by decide +kernel
theorem dX6_shelterTold_111 : decode cX6_shelterTold 111 = .ok (.iconst 5, 1) := by decide +kernel
theorem dX6_shelterTold_112 : decode cX6_shelterTold 112 = .ok (.iload_n 1, 1) := by decide +kernel
theorem dX6_shelterTold_113 : decode cX6_shelterTold 113 = .ok (.imul, 1) := by decide +kernel
theorem dX6_shelterTold_114 : decode cX6_shelterTold 114 = .ok (.iconst 1, 1) := by decide +kernel
theorem dX6_shelterTold_115 : decode cX6_shelterTold 115 = .ok (.iadd, 1) := by decide +kernel
theorem dX6_shelterTold_116 : decode cX6_shelterTold 116 = .ok (.iaload, 1) := by decide +kernel
theorem dX6_shelterTold_117 : decode cX6_shelterTold 117 = .ok (.iastore, 1) := by decide +kernel
theorem dX6_shelterTold_118 : decode cX6_shelterTold 118 = .ok (.dup, 1) := by decide +kernel
theorem dX6_shelterTold_119 : decode cX6_shelterTold 119 = .ok (.bipush 6, 2) := by decide +kernel
theorem dX6_shelterTold_121 : decode cX6_shelterTold 121 = .ok (.aload_n 0, 1) := by decide +kernel
theorem dX6_shelterTold_122 : decode cX6_shelterTold 122 = .ok (.getfield 18, 3) := by decide +kernel
theorem dX6_shelterTold_125 : decode cX6_shelterTold 125 = .ok (.getfield 81, 3) := by decide +kernel
theorem dX6_shelterTold_128 : decode cX6_shelterTold 128 = .ok (.iconst 5, 1) := by decide +kernel
theorem dX6_shelterTold_129 : decode cX6_shelterTold 129 = .ok (.iload_n 1, 1) := by decide +kernel
theorem dX6_shelterTold_130 : decode cX6_shelterTold 130 = .ok (.imul, 1) := by decide +kernel
theorem dX6_shelterTold_131 : decode cX6_shelterTold 131 = .ok (.iconst 2, 1) := by decide +kernel
theorem dX6_shelterTold_132 : decode cX6_shelterTold 132 = .ok (.iadd, 1) := by decide +kernel
theorem dX6_shelterTold_133 : decode cX6_shelterTold 133 = .ok (.iaload, 1) := by decide +kernel
theorem dX6_shelterTold_134 : decode cX6_shelterTold 134 = .ok (.iastore, 1) := by decide +kernel
theorem dX6_shelterTold_135 : decode cX6_shelterTold 135 = .ok (.dup, 1) := by decide +kernel
theorem dX6_shelterTold_136 : decode cX6_shelterTold 136 = .ok (.bipush 7, 2) := by decide +kernel
theorem dX6_shelterTold_138 : decode cX6_shelterTold 138 = .ok (.aload_n 0, 1) := by decide +kernel
theorem dX6_shelterTold_139 : decode cX6_shelterTold 139 = .ok (.getfield 18, 3) := by decide +kernel
theorem dX6_shelterTold_142 : decode cX6_shelterTold 142 = .ok (.iload_n 1, 1) := by decide +kernel
theorem dX6_shelterTold_143 : decode cX6_shelterTold 143 = .ok (.invokevirtual 84, 3) := by decide +kernel
theorem dX6_shelterTold_146 : decode cX6_shelterTold 146 = .ok (.iastore, 1) := by decide +kernel
theorem dX6_shelterTold_147 : decode cX6_shelterTold 147 = .ok (.astore 4, 2) := by decide +kernel
theorem dX6_shelterTold_149 : decode cX6_shelterTold 149 = .ok (.aload 4, 2) := by decide +kernel
theorem dX6_shelterTold_151 : decode cX6_shelterTold 151 = .ok (.iload_n 2, 1) := by decide +kernel
theorem dX6_shelterTold_152 : decode cX6_shelterTold 152 = .ok (.iaload, 1) := by decide +kernel
theorem dX6_shelterTold_153 : decode cX6_shelterTold 153 = .ok (.ireturn, 1) := by decide +kernel
set_option maxRecDepth 20000 in
theorem ggX6_shelter_X6_isShelter : GoodIn wsX6_shelter wsX6_isShelter := goodIn_r _ [6, 7, 8, 9, 5, 10, 33, 34, 35, 36, 37, 38, 39, 40, 41, 42, 43, 44, 45, 46, 47, 48, 49, 50, 51, 52, 53, 54, 55, 56, 57, 58] (by decide +kernel) (by decide +kernel)
set_option maxRecDepth 20000 in
theorem gX6_shelter_X6_isShelter : GoodIn wsX6_shelter (wsV RX6 49 RX6 yX6_isShelter wsX6_isShelter) := goodIn_app (goodIn_of _ (by decide +kernel)) ggX6_shelter_X6_isShelter
set_option maxRecDepth 20000 in
theorem ggX6_shelter_X6_isIn : GoodIn wsX6_shelter wsX6_isIn := goodIn_r _ [10] (by decide +kernel) (by decide +kernel)
set_option maxRecDepth 20000 in
theorem gX6_shelter_X6_isIn : GoodIn wsX6_shelter (va_wsS RX6 32 yX6_isIn wsX6_isIn) := goodIn_app (goodIn_of _ (by decide +kernel)) ggX6_shelter_X6_isIn
set_option maxRecDepth 20000 in
theorem ggX6_shelter_X6_shelterTold : GoodIn wsX6_shelter wsX6_shelterTold := goodIn_r _ [14, 7, 15, 16, 17, 18, 19, 20, 21, 22, 23, 24, 25, 26, 27, 28, 33, 34, 35, 36, 37, 38, 39, 40, 41, 42, 43, 44, 45, 46, 47, 48, 49, 50, 51, 52, 53, 54, 55, 56, 57, 58] (by decide +kernel) (by decide +kernel)
set_option maxRecDepth 20000 in
theorem gX6_shelter_X6_shelterTold : GoodIn wsX6_shelter (wsV RX6 87 RX6 yX6_shelterTold wsX6_shelterTold) := goodIn_app (goodIn_of _ (by decide +kernel)) ggX6_shelter_X6_shelterTold
set_option maxRecDepth 20000 in
theorem ggX6_shelter_X6_no : GoodIn wsX6_shelter wsX6_no := goodIn_r _ [32, 1, 33, 34, 35, 36] (by decide +kernel) (by decide +kernel)
set_option maxRecDepth 20000 in
theorem gX6_shelter_X6_no : GoodIn wsX6_shelter (wsV RX6 39 RX6 yX6_no wsX6_no) := goodIn_app (goodIn_of _ (by decide +kernel)) ggX6_shelter_X6_no
theorem dX6_shelter_0 : decode cX6_shelter 0 = .ok (.aload_n 0, 1) := by decide +kernel
theorem dX6_shelter_1 : decode cX6_shelter 1 = .ok (.iconst 0, 1) := by decide +kernel
theorem dX6_shelter_2 : decode cX6_shelter 2 = .ok (.putfield 25, 3) := by decide +kernel
theorem dX6_shelter_5 : decode cX6_shelter 5 = .ok (.aload_n 0, 1) := by decide +kernel
theorem dX6_shelter_6 : decode cX6_shelter 6 = .ok (.iload_n 1, 1) := by decide +kernel
theorem dX6_shelter_7 : decode cX6_shelter 7 = .ok (.invokevirtual 49, 3) := by decide +kernel
theorem dX6_shelter_10 : decode cX6_shelter 10 = .ok (.ifCond .eq 22, 3) := by decide +kernel
theorem dX6_shelter_13 : decode cX6_shelter 13 = .ok (.iload_n 2, 1) := by decide +kernel
theorem dX6_shelter_14 : decode cX6_shelter 14 = .ok (.iconst 0, 1) := by decide +kernel
theorem dX6_shelter_15 : decode cX6_shelter 15 = .ok (.bipush 7, 2) := by decide +kernel
theorem dX6_shelter_17 : decode cX6_shelter 17 = .ok (.invokestatic 32, 3) := by decide +kernel
theorem dX6_shelter_20 : decode cX6_shelter 20 = .ok (.ifCond .eq 12, 3) := by decide +kernel
theorem dX6_shelter_23 : decode cX6_shelter 23 = .ok (.aload_n 0, 1) := by decide +kernel
theorem dX6_shelter_24 : decode cX6_shelter 24 = .ok (.iload_n 1, 1) := by decide +kernel
theorem dX6_shelter_25 : decode cX6_shelter 25 = .ok (.iload_n 2, 1) := by decide +kernel
theorem dX6_shelter_26 : decode cX6_shelter 26 = .ok (.invokevirtual 87, 3) := by decide +kernel
theorem dX6_shelter_29 : decode cX6_shelter 29 = .ok (.goto 8, 3) := by decide +kernel
theorem dX6_shelter_32 : decode cX6_shelter 32 = .ok (.aload_n 0, 1) := by decide +kernel
theorem dX6_shelter_33 : decode cX6_shelter 33 = .ok (.iconst 1, 1) := by decide +kernel
theorem dX6_shelter_34 : decode cX6_shelter 34 = .ok (.invokevirtual 39, 3) := by decide +kernel
theorem dX6_shelter_37 : decode cX6_shelter 37 = .ok (.ireturn, 1) := by decide +kernel
theorem dX6_umbrellaTold_0 : decode cX6_umbrellaTold 0 = .ok (.bipush 6, 2) := by decide +kernel
theorem dX6_umbrellaTold_2 : decode cX6_umbrellaTold 2 = .ok (.newarray .int, 2) := by decide +kernel
theorem dX6_umbrellaTold_4 : decode cX6_umbrellaTold 4 = .ok (.dup, 1) := by decide +kernel
theorem dX6_umbrellaTold_5 : decode cX6_umbrellaTold 5 = .ok (.iconst 0, 1) := by decide +kernel
theorem dX6_umbrellaTold_6 : decode cX6_umbrellaTold 6 = .ok (.aload_n 0, 1) := by decide +kernel
theorem dX6_umbrellaTold_7 : decode cX6_umbrellaTold 7 = .ok (.getfield 18, 3) := by decide +kernel
theorem dX6_umbrellaTold_10 : decode cX6_umbrellaTold 10 = .ok (.getfield 91, 3) := by decide +kernel
theorem dX6_umbrellaTold_13 : decode cX6_umbrellaTold 13 = .ok (.iload_n 1, 1) := by decide +kernel
theorem dX6_umbrellaTold_14 : decode cX6_umbrellaTold 14 = .ok (.iaload, 1) := by decide +kernel
theorem dX6_umbrellaTold_15 : decode cX6_umbrellaTold 15 = .ok (.iastore, 1) := by decide +kernel
theorem dX6_umbrellaTold_16 : decode cX6_umbrellaTold 16 = .ok (.dup, 1) := by decide +kernel
theorem dX6_umbrellaTold_17 : decode cX6_umbrellaTold 17 = .ok (.iconst 1, 1) := by decide +kernel
theorem dX6_umbrellaTold_18 : decode cX6_umbrellaTold 18 = .ok (.aload_n 0, 1) := by decide +kernel
theorem dX6_umbrellaTold_19 : decode cX6_umbrellaTold 19 = .ok (.getfield 18, 3) := by decide +kernel
theorem dX6_umbrellaTold_22 : decode cX6_umbrellaTold 22 = .ok (.getfield 91, 3) := by decide +kernel
theorem dX6_umbrellaTold_25 : decode cX6_umbrellaTold 25 = .ok (.iload_n 1, 1) := by decide +kernel
theorem dX6_umbrellaTold_26 : decode cX6_umbrellaTold 26 = .ok (.iaload, 1) := by decide +kernel
theorem dX6_umbrellaTold_27 : decode cX6_umbrellaTold 27 = .ok (.ifCond .eq 16, 3) := by decide +kernel
theorem dX6_umbrellaTold_30 : decode cX6_umbrellaTold 30 = .ok (.aload_n 0, 1) := by decide +kernel
theorem dX6_umbrellaTold_31 : decode cX6_umbrellaTold 31 = .ok (.getfield 18, 3) := by decide +kernel
theorem dX6_umbrellaTold_34 : decode cX6_umbrellaTold 34 = .ok (.getfield 91, 3) := by decide +kernel
theorem dX6_umbrellaTold_37 : decode cX6_umbrellaTold 37 = .ok (.iload_n 1, 1) := by decide +kernel
theorem dX6_umbrellaTold_38 : decode cX6_umbrellaTold 38 = .ok (.iaload, 1) := by decide +kernel
theorem dX6_umbrellaTold_39 : decode cX6_umbrellaTold 39 = .ok (.iconst 1, 1) := by decide +kernel
theorem dX6_umbrellaTold_40 : decode cX6_umbrellaTold 40 = .ok (.if_icmp .ne 15, 3) := by decide +kernel
theorem dX6_umbrellaTold_43 : decode cX6_umbrellaTold 43 = .ok (.aload_n 0, 1) := by decide +kernel
theorem dX6_umbrellaTold_44 : decode cX6_umbrellaTold 44 = .ok (.getfield 18, 3) := by decide +kernel
theorem dX6_umbrellaTold_47 : decode cX6_umbrellaTold 47 = .ok (.getfield 94, 3) := by decide +kernel
theorem dX6_umbrellaTold_50 : decode cX6_umbrellaTold 50 = .ok (.iload_n 1, 1) := by decide +kernel
theorem dX6_umbrellaTold_51 : decode cX6_umbrellaTold 51 = .ok (.iaload, 1) := by decide +kernel
theorem dX6_umbrellaTold_52 : decode cX6_umbrellaTold 52 = .ok (.goto 4, 3) := by decide +kernel
theorem dX6_umbrellaTold_55 : decode cX6_umbrellaTold 55 = .ok (.iconst (-1), 1) := by decide +kernel
theorem dX6_umbrellaTold_56 : decode cX6_umbrellaTold 56 = .ok (.iastore, 1) := by decide +kernel
theorem dX6_umbrellaTold_57 : decode cX6_umbrellaTold 57 = .ok (.dup, 1) := by decide +kernel
theorem dX6_umbrellaTold_58 : decode cX6_umbrellaTold 58 = .ok (.iconst 2, 1) := by decide +kernel
theorem dX6_umbrellaTold_59 : decode cX6_umbrellaTold 59 = .ok (.aload_n 0, 1) := by decide +kernel
theorem dX6_umbrellaTold_60 : decode cX6_umbrellaTold 60 = .ok (.getfield 18, 3) := by decide +kernel
theorem dX6_umbrellaTold_63 : decode cX6_umbrellaTold 63 = .ok (.getfield 97, 3) := by decide +kernel
theorem dX6_umbrellaTold_66 : decode cX6_umbrellaTold 66 = .ok (.iload_n 1, 1) := by decide +kernel
theorem dX6_umbrellaTold_67 : decode cX6_umbrellaTold 67 = .ok (.iaload, 1) := by decide +kernel
theorem dX6_umbrellaTold_68 : decode cX6_umbrellaTold 68 = .ok (.iastore, 1) := by decide +kernel
theorem dX6_umbrellaTold_69 : decode cX6_umbrellaTold 69 = .ok (.dup, 1) := by decide +kernel
theorem dX6_umbrellaTold_70 : decode cX6_umbrellaTold 70 = .ok (.iconst 3, 1) := by decide +kernel
theorem dX6_umbrellaTold_71 : decode cX6_umbrellaTold 71 = .ok (.aload_n 0, 1) := by decide +kernel
theorem dX6_umbrellaTold_72 : decode cX6_umbrellaTold 72 = .ok (.getfield 18, 3) := by decide +kernel
theorem dX6_umbrellaTold_75 : decode cX6_umbrellaTold 75 = .ok (.getfield 100, 3) := by decide +kernel
theorem dX6_umbrellaTold_78 : decode cX6_umbrellaTold 78 = .ok (.iload_n 1, 1) := by decide +kernel
theorem dX6_umbrellaTold_79 : decode cX6_umbrellaTold 79 = .ok (.iaload, 1) := by decide +kernel
theorem dX6_umbrellaTold_80 : decode cX6_umbrellaTold 80 = .ok (.iastore, 1) := by decide +kernel
theorem dX6_umbrellaTold_81 : decode cX6_umbrellaTold 81 = .ok (.dup, 1) := by decide +kernel
theorem dX6_umbrellaTold_82 : decode cX6_umbrellaTold 82 = .ok (.iconst 4, 1) := by decide +kernel
theorem dX6_umbrellaTold_83 : decode cX6_umbrellaTold 83 = .ok (.aload_n 0, 1) := by decide +kernel
theorem dX6_umbrellaTold_84 : decode cX6_umbrellaTold 84 = .ok (.getfield 18, 3) := by decide +kernel
theorem dX6_umbrellaTold_87 : decode cX6_umbrellaTold 87 = .ok (.getfield 103, 3) := by decide +kernel
theorem dX6_umbrellaTold_90 : decode cX6_umbrellaTold 90 = .ok (.iload_n 1, 1) := by decide +kernel
theorem dX6_umbrellaTold_91 : decode cX6_umbrellaTold 91 = .ok (.iaload, 1) := by decide +kernel
theorem dX6_umbrellaTold_92 : decode cX6_umbrellaTold 92 = .ok (.iastore, 1) := by decide +kernel
theorem dX6_umbrellaTold_93 : decode cX6_umbrellaTold 93 = .ok (.dup, 1) := by decide +kernel
theorem dX6_umbrellaTold_94 : decode cX6_umbrellaTold 94 = .ok (.iconst 5, 1) := by decide +kernel
theorem dX6_umbrellaTold_95 : decode cX6_umbrellaTold 95 = .ok (.aload_n 0, 1) := by decide +kernel
theorem dX6_umbrellaTold_96 : decode cX6_umbrellaTold 96 = .ok (.getfield 18, 3) := by decide +kernel
theorem dX6_umbrellaTold_99 : decode cX6_umbrellaTold 99 = .ok (.getfield 106, 3) := by decide +kernel
theorem dX6_umbrellaTold_102 : decode cX6_umbrellaTold 102 = .ok (.iload_n 1, 1) := by decide +kernel
theorem dX6_umbrellaTold_103 : decode cX6_umbrellaTold 103 = .ok (.iaload, 1) := by decide +kernel
theorem dX6_umbrellaTold_104 : decode cX6_umbrellaTold 104 = .ok (.iastore, 1) := by decide +kernel
theorem dX6_umbrellaTold_105 : decode cX6_umbrellaTold 105 = .ok (.astore_n 3, 1) := by decide +kernel
theorem dX6_umbrellaTold_106 : decode cX6_umbrellaTold 106 = .ok (.aload_n 3, 1) := by decide +kernel
theorem dX6_umbrellaTold_107 : decode cX6_umbrellaTold 107 = .ok (.iload_n 2, 1) := by decide +kernel
theorem dX6_umbrellaTold_108 : decode cX6_umbrellaTold 108 = .ok (.iaload, 1) := by decide +kernel
theorem dX6_umbrellaTold_109 : decode cX6_umbrellaTold 109 = .ok (.ireturn, 1) := by decide +kernel
set_option maxRecDepth 20000 in
theorem ggX6_umbrella_X6_isIn : GoodIn wsX6_umbrella wsX6_isIn := goodIn_r _ [6] (by decide +kernel) (by decide +kernel)
set_option maxRecDepth 20000 in
theorem gX6_umbrella_X6_isIn : GoodIn wsX6_umbrella (va_wsS RX6 32 yX6_isIn wsX6_isIn) := goodIn_app (goodIn_of _ (by decide +kernel)) ggX6_umbrella_X6_isIn
set_option maxRecDepth 20000 in
theorem ggX6_umbrella_X6_umbrellaTold : GoodIn wsX6_umbrella wsX6_umbrellaTold := goodIn_r _ [10, 11, 2, 16, 17, 18, 19, 20, 21, 22, 23, 24, 25, 26, 27, 28, 29, 30, 31, 32, 33, 34, 35, 36, 37, 38, 39, 40, 41] (by decide +kernel) (by decide +kernel)
set_option maxRecDepth 20000 in
theorem gX6_umbrella_X6_umbrellaTold : GoodIn wsX6_umbrella (wsV RX6 109 RX6 yX6_umbrellaTold wsX6_umbrellaTold) := goodIn_app (goodIn_of _ (by decide +kernel)) ggX6_umbrella_X6_umbrellaTold
set_option maxRecDepth 20000 in
theorem ggX6_umbrella_X6_no : GoodIn wsX6_umbrella wsX6_no := goodIn_r _ [15, 1, 16, 17, 18, 19] (by decide +kernel) (by decide +kernel)
set_option maxRecDepth 20000 in
theorem gX6_umbrella_X6_no : GoodIn wsX6_umbrella (wsV RX6 39 RX6 yX6_no wsX6_no) := goodIn_app (goodIn_of _ (by decide +kernel)) ggX6_umbrella_X6_no
theorem dX6_umbrella_0 : decode cX6_umbrella 0 = .ok (.aload_n 0, 1) := by decide +kernel
theorem dX6_umbrella_1 : decode cX6_umbrella 1 = .ok (.iconst 0, 1) := by decide +kernel
theorem dX6_umbrella_2 : decode cX6_umbrella 2 = .ok (.putfield 25, 3) := by decide +kernel
theorem dX6_umbrella_5 : decode cX6_umbrella 5 = .ok (.iload_n 1, 1) := by decide +kernel
theorem dX6_umbrella_6 : decode cX6_umbrella 6 = .ok (.iconst 0, 1) := by decide +kernel
theorem dX6_umbrella_7 : decode cX6_umbrella 7 = .ok (.aload_n 0, 1) := by decide +kernel
theorem dX6_umbrella_8 : decode cX6_umbrella 8 = .ok (.getfield 18, 3) := by decide +kernel
theorem dX6_umbrella_11 : decode cX6_umbrella 11 = .ok (.getfield 53, 3) := by decide +kernel
theorem dX6_umbrella_14 : decode cX6_umbrella 14 = .ok (.iconst 1, 1) := by decide +kernel
theorem dX6_umbrella_15 : decode cX6_umbrella 15 = .ok (.isub, 1) := by decide +kernel
theorem dX6_umbrella_16 : decode cX6_umbrella 16 = .ok (.invokestatic 32, 3) := by decide +kernel
theorem dX6_umbrella_19 : decode cX6_umbrella 19 = .ok (.ifCond .eq 21, 3) := by decide +kernel
theorem dX6_umbrella_22 : decode cX6_umbrella 22 = .ok (.iload_n 2, 1) := by decide +kernel
theorem dX6_umbrella_23 : decode cX6_umbrella 23 = .ok (.iconst 0, 1) := by decide +kernel
theorem dX6_umbrella_24 : decode cX6_umbrella 24 = .ok (.iconst 5, 1) := by decide +kernel
theorem dX6_umbrella_25 : decode cX6_umbrella 25 = .ok (.invokestatic 32, 3) := by decide +kernel
theorem dX6_umbrella_28 : decode cX6_umbrella 28 = .ok (.ifCond .eq 12, 3) := by decide +kernel
theorem dX6_umbrella_31 : decode cX6_umbrella 31 = .ok (.aload_n 0, 1) := by decide +kernel
theorem dX6_umbrella_32 : decode cX6_umbrella 32 = .ok (.iload_n 1, 1) := by decide +kernel
theorem dX6_umbrella_33 : decode cX6_umbrella 33 = .ok (.iload_n 2, 1) := by decide +kernel
theorem dX6_umbrella_34 : decode cX6_umbrella 34 = .ok (.invokevirtual 109, 3) := by decide +kernel
theorem dX6_umbrella_37 : decode cX6_umbrella 37 = .ok (.goto 8, 3) := by decide +kernel
theorem dX6_umbrella_40 : decode cX6_umbrella 40 = .ok (.aload_n 0, 1) := by decide +kernel
theorem dX6_umbrella_41 : decode cX6_umbrella 41 = .ok (.iconst 1, 1) := by decide +kernel
theorem dX6_umbrella_42 : decode cX6_umbrella 42 = .ok (.invokevirtual 39, 3) := by decide +kernel
theorem dX6_umbrella_45 : decode cX6_umbrella 45 = .ok (.ireturn, 1) := by decide +kernel
theorem dX6_citizenTold_0 : decode cX6_citizenTold 0 = .ok (.bipush 10, 2) := by decide +kernel
theorem dX6_citizenTold_2 : decode cX6_citizenTold 2 = .ok (.newarray .int, 2) := by decide +kernel
theorem dX6_citizenTold_4 : decode cX6_citizenTold 4 = .ok (.dup, 1) := by decide +kernel
theorem dX6_citizenTold_5 : decode cX6_citizenTold 5 = .ok (.iconst 0, 1) := by decide +kernel
theorem dX6_citizenTold_6 : decode cX6_citizenTold 6 = .ok (.aload_n 0, 1) := by decide +kernel
theorem dX6_citizenTold_7 : decode cX6_citizenTold 7 = .ok (.getfield 18, 3) := by decide +kernel
theorem dX6_citizenTold_10 : decode cX6_citizenTold 10 = .ok (.getfield 60, 3) := by decide +kernel
theorem dX6_citizenTold_13 : decode cX6_citizenTold 13 = .ok (.iconst 5, 1) := by decide +kernel
theorem dX6_citizenTold_14 : decode cX6_citizenTold 14 = .ok (.iload_n 1, 1) := by decide +kernel
theorem dX6_citizenTold_15 : decode cX6_citizenTold 15 = .ok (.imul, 1) := by decide +kernel
theorem dX6_citizenTold_16 : decode cX6_citizenTold 16 = .ok (.iaload, 1) := by decide +kernel
theorem dX6_citizenTold_17 : decode cX6_citizenTold 17 = .ok (.iastore, 1) := by decide +kernel
theorem dX6_citizenTold_18 : decode cX6_citizenTold 18 = .ok (.dup, 1) := by decide +kernel
theorem dX6_citizenTold_19 : decode cX6_citizenTold 19 = .ok (.iconst 1, 1) := by decide +kernel
theorem dX6_citizenTold_20 : decode cX6_citizenTold 20 = .ok (.aload_n 0, 1) := by decide +kernel
theorem dX6_citizenTold_21 : decode cX6_citizenTold 21 = .ok (.getfield 18, 3) := by decide +kernel
theorem dX6_citizenTold_24 : decode cX6_citizenTold 24 = .ok (.getfield 60, 3) := by decide +kernel
theorem dX6_citizenTold_27 : decode cX6_citizenTold 27 = .ok (.iconst 5, 1) := by decide +kernel
theorem dX6_citizenTold_28 : decode cX6_citizenTold 28 = .ok (.iload_n 1, 1) := by decide +kernel
theorem dX6_citizenTold_29 : decode cX6_citizenTold 29 = .ok (.imul, 1) := by decide +kernel
theorem dX6_citizenTold_30 : decode cX6_citizenTold 30 = .ok (.iconst 1, 1) := by decide +kernel
theorem dX6_citizenTold_31 : decode cX6_citizenTold 31 = .ok (.iadd, 1) := by decide +kernel
theorem dX6_citizenTold_32 : decode cX6_citizenTold 32 = .ok (.iaload, 1) := by decide +kernel
theorem dX6_citizenTold_33 : decode cX6_citizenTold 33 = .ok (.iastore, 1) := by decide +kernel
theorem dX6_citizenTold_34 : decode cX6_citizenTold 34 = .ok (.dup, 1) := by decide +kernel
theorem dX6_citizenTold_35 : decode cX6_citizenTold 35 = .ok (.iconst 2, 1) := by decide +kernel
theorem dX6_citizenTold_36 : decode cX6_citizenTold 36 = .ok (.aload_n 0, 1) := by decide +kernel
theorem dX6_citizenTold_37 : decode cX6_citizenTold 37 = .ok (.getfield 18, 3) := by decide +kernel
theorem dX6_citizenTold_40 : decode cX6_citizenTold 40 = .ok (.getfield 69, 3) := by decide +kernel
theorem dX6_citizenTold_43 : decode cX6_citizenTold 43 = .ok (.iload_n 1, 1) := by decide +kernel
theorem dX6_citizenTold_44 : decode cX6_citizenTold 44 = .ok (.iaload, 1) := by decide +kernel
theorem dX6_citizenTold_45 : decode cX6_citizenTold 45 = .ok (.iastore, 1) := by decide +kernel
theorem dX6_citizenTold_46 : decode cX6_citizenTold 46 = .ok (.dup, 1) := by decide +kernel
theorem dX6_citizenTold_47 : decode cX6_citizenTold 47 = .ok (.iconst 3, 1) := by decide +kernel
theorem dX6_citizenTold_48 : decode cX6_citizenTold 48 = .ok (.aload_n 0, 1) := by decide +kernel
theorem dX6_citizenTold_49 : decode cX6_citizenTold 49 = .ok (.getfield 18, 3) := by decide +kernel
theorem dX6_citizenTold_52 : decode cX6_citizenTold 52 = .ok (.getfield 69, 3) := by decide +kernel
theorem dX6_citizenTold_55 : decode cX6_citizenTold 55 = .ok (.iload_n 1, 1) := by decide +kernel
theorem dX6_citizenTold_56 : decode cX6_citizenTold 56 = .ok (.iaload, 1) := by decide +kernel
theorem dX6_citizenTold_57 : decode cX6_citizenTold 57 = .ok (.iconst (-1), 1) := by decide +kernel
theorem dX6_citizenTold_58 : decode cX6_citizenTold 58 = .ok (.if_icmp .ne 15, 3) := by decide +kernel
theorem dX6_citizenTold_61 : decode cX6_citizenTold 61 = .ok (.aload_n 0, 1) := by decide +kernel
theorem dX6_citizenTold_62 : decode cX6_citizenTold 62 = .ok (.getfield 18, 3) := by decide +kernel
theorem dX6_citizenTold_65 : decode cX6_citizenTold 65 = .ok (.getfield 112, 3) := by decide +kernel
theorem dX6_citizenTold_68 : decode cX6_citizenTold 68 = .ok (.iload_n 1, 1) := by decide +kernel
theorem dX6_citizenTold_69 : decode cX6_citizenTold 69 = .ok (.iaload, 1) := by decide +kernel
theorem dX6_citizenTold_70 : decode cX6_citizenTold 70 = .ok (.goto 4, 3) := by decide +kernel
theorem dX6_citizenTold_73 : decode cX6_citizenTold 73 = .ok (.iconst 0, 1) := by decide +kernel
theorem dX6_citizenTold_74 : decode cX6_citizenTold 74 = .ok (.iastore, 1) := by decide +kernel
theorem dX6_citizenTold_75 : decode cX6_citizenTold 75 = .ok (.dup, 1) := by decide +kernel
theorem dX6_citizenTold_76 : decode cX6_citizenTold 76 = .ok (.iconst 4, 1) := by decide +kernel
theorem dX6_citizenTold_77 : decode cX6_citizenTold 77 = .ok (.aload_n 0, 1) := by decide +kernel
theorem dX6_citizenTold_78 : decode cX6_citizenTold 78 = .ok (.getfield 18, 3) := by decide +kernel
theorem dX6_citizenTold_81 : decode cX6_citizenTold 81 = .ok (.getfield 72, 3) := by decide +kernel
theorem dX6_citizenTold_84 : decode cX6_citizenTold 84 = .ok (.iload_n 1, 1) := by decide +kernel
theorem dX6_citizenTold_85 : decode cX6_citizenTold 85 = .ok (.iaload, 1) := by decide +kernel
theorem dX6_citizenTold_86 : decode cX6_citizenTold 86 = .ok (.iastore, 1) := by decide +kernel
theorem dX6_citizenTold_87 : decode cX6_citizenTold 87 = .ok (.dup, 1) := by decide +kernel
theorem dX6_citizenTold_88 : decode cX6_citizenTold 88 = .ok (.iconst 5, 1) := by decide +kernel
theorem dX6_citizenTold_89 : decode cX6_citizenTold 89 = .ok (.aload_n 0, 1) := by decide +kernel
theorem dX6_citizenTold_90 : decode cX6_citizenTold 90 = .ok (.getfield 18, 3) := by decide +kernel
theorem dX6_citizenTold_93 : decode cX6_citizenTold 93 = .ok (.getfield 75, 3) := by decide +kernel
theorem dX6_citizenTold_96 : decode cX6_citizenTold 96 = .ok (.iload_n 1, 1) := by decide +kernel
theorem dX6_citizenTold_97 : decode cX6_citizenTold 97 = .ok (.iaload, 1) := by decide +kernel
theorem dX6_citizenTold_98 : decode cX6_citizenTold 98 = .ok (.iastore, 1) := by decide +kernel
theorem dX6_citizenTold_99 : decode cX6_citizenTold 99 = .ok (.dup, 1) := by decide +kernel
theorem dX6_citizenTold_100 : decode cX6_citizenTold 100 = .ok (.bipush 6, 2) := by decide +kernel
theorem dX6_citizenTold_102 : decode cX6_citizenTold 102 = .ok (.aload_n 0, 1) := by decide +kernel
theorem dX6_citizenTold_103 : decode cX6_citizenTold 103 = .ok (.getfield 18, 3) := by decide +kernel
theorem dX6_citizenTold_106 : decode cX6_citizenTold 106 = .ok (.getfield 115, 3) := by decide +kernel
theorem dX6_citizenTold_109 : decode cX6_citizenTold 109 = .ok (.iconst 4, 1) := by decide +kernel
theorem dX6_citizenTold_110 : decode cX6_citizenTold 110 = .ok (.iload_n 1, 1) := by decide +kernel
theorem dX6_citizenTold_111 : decode cX6_citizenTold 111 = .ok (.imul, 1) := by decide +kernel
theorem dX6_citizenTold_112 : decode cX6_citizenTold 112 = .ok (.iaload, 1) := by decide +kernel
theorem dX6_citizenTold_113 : decode cX6_citizenTold 113 = .ok (.iastore, 1) := by decide +kernel
theorem dX6_citizenTold_114 : decode cX6_citizenTold 114 = .ok (.dup, 1) := by decide +kernel
theorem dX6_citizenTold_115 : decode cX6_citizenTold 115 = .ok (.bipush 7, 2) := by decide +kernel
theorem dX6_citizenTold_117 : decode cX6_citizenTold 117 = .ok (.aload_n 0, 1) := by decide +kernel
theorem dX6_citizenTold_118 : decode cX6_citizenTold 118 = .ok (.getfield 18, 3) := by decide +kernel
theorem dX6_citizenTold_121 : decode cX6_citizenTold 121 = .ok (.getfield 115, 3) := by decide +kernel
theorem dX6_citizenTold_124 : decode cX6_citizenTold 124 = .ok (.iconst 4, 1) := by decide +kernel
theorem dX6_citizenTold_125 : decode cX6_citizenTold 125 = .ok (.iload_n 1, 1) := by decide +kernel
theorem dX6_citizenTold_126 : decode cX6_citizenTold 126 = .ok (.imul, 1) := by decide +kernel
theorem dX6_citizenTold_127 : decode cX6_citizenTold 127 = .ok (.iconst 1, 1) := by decide +kernel
theorem dX6_citizenTold_128 : decode cX6_citizenTold 128 = .ok (.iadd, 1) := by decide +kernel
theorem dX6_citizenTold_129 : decode cX6_citizenTold 129 = .ok (.iaload, 1) := by decide +kernel
theorem dX6_citizenTold_130 : decode cX6_citizenTold 130 = .ok (.iastore, 1) := by decide +kernel
theorem dX6_citizenTold_131 : decode cX6_citizenTold 131 = .ok (.dup, 1) := by decide +kernel
theorem dX6_citizenTold_132 : decode cX6_citizenTold 132 = .ok (.bipush 8, 2) := by decide +kernel
theorem dX6_citizenTold_134 : decode cX6_citizenTold 134 = .ok (.aload_n 0, 1) := by decide +kernel
theorem dX6_citizenTold_135 : decode cX6_citizenTold 135 = .ok (.getfield 18, 3) := by decide +kernel
theorem dX6_citizenTold_138 : decode cX6_citizenTold 138 = .ok (.getfield 115, 3) := by decide +kernel
theorem dX6_citizenTold_141 : decode cX6_citizenTold 141 = .ok (.iconst 4, 1) := by decide +kernel
theorem dX6_citizenTold_142 : decode cX6_citizenTold 142 = .ok (.iload_n 1, 1) := by decide +kernel
theorem dX6_citizenTold_143 : decode cX6_citizenTold 143 = .ok (.imul, 1) := by decide +kernel
theorem dX6_citizenTold_144 : decode cX6_citizenTold 144 = .ok (.iconst 2, 1) := by decide +kernel
theorem dX6_citizenTold_145 : decode cX6_citizenTold 145 = .ok (.iadd, 1) := by decide +kernel
theorem dX6_citizenTold_146 : decode cX6_citizenTold 146 = .ok (.iaload, 1) := by decide +kernel
theorem dX6_citizenTold_147 : decode cX6_citizenTold 147 = .ok (.iastore, 1) := by decide +kernel
theorem dX6_citizenTold_148 : decode cX6_citizenTold 148 = .ok (.dup, 1) := by decide +kernel
theorem dX6_citizenTold_149 : decode cX6_citizenTold 149 = .ok (.bipush 9, 2) := by decide +kernel
theorem dX6_citizenTold_151 : decode cX6_citizenTold 151 = .ok (.aload_n 0, 1) := by decide +kernel
theorem dX6_citizenTold_152 : decode cX6_citizenTold 152 = .ok (.getfield 18, 3) := by decide +kernel
theorem dX6_citizenTold_155 : decode cX6_citizenTold 155 = .ok (.getfield 115, 3) := by decide +kernel
theorem dX6_citizenTold_158 : decode cX6_citizenTold 158 = .ok (.iconst 4, 1) := by decide +kernel
theorem dX6_citizenTold_159 : decode cX6_citizenTold 159 = .ok (.iload_n 1, 1) := by decide +kernel
theorem dX6_citizenTold_160 : decode cX6_citizenTold 160 = .ok (.imul, 1) := by decide +kernel
theorem dX6_citizenTold_161 : decode cX6_citizenTold 161 = .ok (.iconst 3, 1) := by decide +kernel
theorem dX6_citizenTold_162 : decode cX6_citizenTold 162 = .ok (.iadd, 1) := by decide +kernel
theorem dX6_citizenTold_163 : decode cX6_citizenTold 163 = .ok (.iaload, 1) := by decide +kernel
theorem dX6_citizenTold_164 : decode cX6_citizenTold 164 = .ok (.iastore, 1) := by decide +kernel
theorem dX6_citizenTold_165 : decode cX6_citizenTold 165 = .ok (.astore_n 3, 1) := by decide +kernel
theorem dX6_citizenTold_166 : decode cX6_citizenTold 166 = .ok (.aload_n 3, 1) := by decide +kernel
theorem dX6_citizenTold_167 : decode cX6_citizenTold 167 = .ok (.iload_n 2, 1) := by decide +kernel
theorem dX6_citizenTold_168 : decode cX6_citizenTold 168 = .ok (.iaload, 1) := by decide +kernel
theorem dX6_citizenTold_169 : decode cX6_citizenTold 169 = .ok (.ireturn, 1) := by decide +kernel
set_option maxRecDepth 20000 in
theorem ggX6_citizen_X6_isCitizen : GoodIn wsX6_citizen wsX6_isCitizen := goodIn_r _ [6, 7, 8, 9, 5, 10, 20, 21, 22, 23, 24, 25, 26, 27, 28, 29, 30, 31, 32, 33, 34, 35, 36, 37, 38, 39, 40, 41, 42, 43, 44, 45] (by decide +kernel) (by decide +kernel)
set_option maxRecDepth 20000 in
theorem gX6_citizen_X6_isCitizen : GoodIn wsX6_citizen (wsV RX6 118 RX6 yX6_isCitizen wsX6_isCitizen) := goodIn_app (goodIn_of _ (by decide +kernel)) ggX6_citizen_X6_isCitizen
set_option maxRecDepth 20000 in
theorem ggX6_citizen_X6_isIn : GoodIn wsX6_citizen wsX6_isIn := goodIn_r _ [10] (by decide +kernel) (by decide +kernel)
set_option maxRecDepth 20000 in
theorem gX6_citizen_X6_isIn : GoodIn wsX6_citizen (va_wsS RX6 32 yX6_isIn wsX6_isIn) := goodIn_app (goodIn_of _ (by decide +kernel)) ggX6_citizen_X6_isIn
set_option maxRecDepth 20000 in
theorem ggX6_citizen_X6_citizenTold : GoodIn wsX6_citizen wsX6_citizenTold := goodIn_r _ [14, 15, 7, 20, 21, 22, 23, 24, 25, 26, 27, 28, 29, 30, 31, 32, 33, 34, 35, 36, 37, 38, 39, 40, 41, 42, 43, 44, 45] (by decide +kernel) (by decide +kernel)
set_option maxRecDepth 20000 in
theorem gX6_citizen_X6_citizenTold : GoodIn wsX6_citizen (wsV RX6 121 RX6 yX6_citizenTold wsX6_citizenTold) := goodIn_app (goodIn_of _ (by decide +kernel)) ggX6_citizen_X6_citizenTold
set_option maxRecDepth 20000 in
theorem ggX6_citizen_X6_no : GoodIn wsX6_citizen wsX6_no := goodIn_r _ [19, 1, 20, 21, 22, 23] (by decide +kernel) (by decide +kernel)
set_option maxRecDepth 20000 in
theorem gX6_citizen_X6_no : GoodIn wsX6_citizen (wsV RX6 39 RX6 yX6_no wsX6_no) := goodIn_app (goodIn_of _ (by decide +kernel)) ggX6_citizen_X6_no
theorem dX6_citizen_0 : decode cX6_citizen 0 = .ok (.aload_n 0, 1) := by decide +kernel
theorem dX6_citizen_1 : decode cX6_citizen 1 = .ok (.iconst 0, 1) := by decide +kernel
theorem dX6_citizen_2 : decode cX6_citizen 2 = .ok (.putfield 25, 3) := by decide +kernel
theorem dX6_citizen_5 : decode cX6_citizen 5 = .ok (.aload_n 0, 1) := by decide +kernel
theorem dX6_citizen_6 : decode cX6_citizen 6 = .ok (.iload_n 1, 1) := by decide +kernel
theorem dX6_citizen_7 : decode cX6_citizen 7 = .ok (.invokevirtual 118, 3) := by decide +kernel
theorem dX6_citizen_10 : decode cX6_citizen 10 = .ok (.ifCond .eq 22, 3) := by decide +kernel
theorem dX6_citizen_13 : decode cX6_citizen 13 = .ok (.iload_n 2, 1) := by decide +kernel
theorem dX6_citizen_14 : decode cX6_citizen 14 = .ok (.iconst 0, 1) := by decide +kernel
theorem dX6_citizen_15 : decode cX6_citizen 15 = .ok (.bipush 9, 2) := by decide +kernel
theorem dX6_citizen_17 : decode cX6_citizen 17 = .ok (.invokestatic 32, 3) := by decide +kernel
theorem dX6_citizen_20 : decode cX6_citizen 20 = .ok (.ifCond .eq 12, 3) := by decide +kernel
theorem dX6_citizen_23 : decode cX6_citizen 23 = .ok (.aload_n 0, 1) := by decide +kernel
theorem dX6_citizen_24 : decode cX6_citizen 24 = .ok (.iload_n 1, 1) := by decide +kernel
theorem dX6_citizen_25 : decode cX6_citizen 25 = .ok (.iload_n 2, 1) := by decide +kernel
theorem dX6_citizen_26 : decode cX6_citizen 26 = .ok (.invokevirtual 121, 3) := by decide +kernel
theorem dX6_citizen_29 : decode cX6_citizen 29 = .ok (.goto 8, 3) := by decide +kernel
theorem dX6_citizen_32 : decode cX6_citizen 32 = .ok (.aload_n 0, 1) := by decide +kernel
theorem dX6_citizen_33 : decode cX6_citizen 33 = .ok (.iconst 1, 1) := by decide +kernel
theorem dX6_citizen_34 : decode cX6_citizen 34 = .ok (.invokevirtual 39, 3) := by decide +kernel
theorem dX6_citizen_37 : decode cX6_citizen 37 = .ok (.ireturn, 1) := by decide +kernel
set_option maxRecDepth 20000 in
theorem ggX6_counted_X5_of : GoodIn wsX6_counted wsX5_of := goodIn_r _ [7, 8, 9, 22, 23, 24, 25, 26, 27, 28, 29, 30, 31, 32, 33, 34, 35, 36, 37, 38, 39, 40, 41, 42, 43] (by decide +kernel) (by decide +kernel)
set_option maxRecDepth 20000 in
theorem gX6_counted_X5_of : GoodIn wsX6_counted (wsV RX6 127 RX5 yX5_of wsX5_of) := goodIn_app (goodIn_of _ (by decide +kernel)) ggX6_counted_X5_of
set_option maxRecDepth 20000 in
theorem ggX6_counted_X5_over : GoodIn wsX6_counted wsX5_over := goodIn_r _ [13, 14, 15, 16, 17, 22, 23, 24, 25, 26, 27, 28, 29, 30, 31, 32, 33, 34, 35, 36, 37, 38, 39, 40, 41, 42, 43] (by decide +kernel) (by decide +kernel)
set_option maxRecDepth 20000 in
theorem gX6_counted_X5_over : GoodIn wsX6_counted (wsV RX6 130 RX5 yX5_over wsX5_over) := goodIn_app (goodIn_of _ (by decide +kernel)) ggX6_counted_X5_over
theorem dX6_counted_0 : decode cX6_counted 0 = .ok (.bipush 11, 2) := by decide +kernel
theorem dX6_counted_2 : decode cX6_counted 2 = .ok (.newarray .int, 2) := by decide +kernel
theorem dX6_counted_4 : decode cX6_counted 4 = .ok (.dup, 1) := by decide +kernel
theorem dX6_counted_5 : decode cX6_counted 5 = .ok (.iconst 0, 1) := by decide +kernel
theorem dX6_counted_6 : decode cX6_counted 6 = .ok (.aload_n 0, 1) := by decide +kernel
theorem dX6_counted_7 : decode cX6_counted 7 = .ok (.getfield 18, 3) := by decide +kernel
theorem dX6_counted_10 : decode cX6_counted 10 = .ok (.getfield 124, 3) := by decide +kernel
theorem dX6_counted_13 : decode cX6_counted 13 = .ok (.iastore, 1) := by decide +kernel
theorem dX6_counted_14 : decode cX6_counted 14 = .ok (.dup, 1) := by decide +kernel
theorem dX6_counted_15 : decode cX6_counted 15 = .ok (.iconst 1, 1) := by decide +kernel
theorem dX6_counted_16 : decode cX6_counted 16 = .ok (.aload_n 0, 1) := by decide +kernel
theorem dX6_counted_17 : decode cX6_counted 17 = .ok (.getfield 18, 3) := by decide +kernel
theorem dX6_counted_20 : decode cX6_counted 20 = .ok (.getfield 29, 3) := by decide +kernel
theorem dX6_counted_23 : decode cX6_counted 23 = .ok (.iastore, 1) := by decide +kernel
theorem dX6_counted_24 : decode cX6_counted 24 = .ok (.dup, 1) := by decide +kernel
theorem dX6_counted_25 : decode cX6_counted 25 = .ok (.iconst 2, 1) := by decide +kernel
theorem dX6_counted_26 : decode cX6_counted 26 = .ok (.aload_n 0, 1) := by decide +kernel
theorem dX6_counted_27 : decode cX6_counted 27 = .ok (.getfield 18, 3) := by decide +kernel
theorem dX6_counted_30 : decode cX6_counted 30 = .ok (.getfield 53, 3) := by decide +kernel
theorem dX6_counted_33 : decode cX6_counted 33 = .ok (.iastore, 1) := by decide +kernel
theorem dX6_counted_34 : decode cX6_counted 34 = .ok (.dup, 1) := by decide +kernel
theorem dX6_counted_35 : decode cX6_counted 35 = .ok (.iconst 3, 1) := by decide +kernel
theorem dX6_counted_36 : decode cX6_counted 36 = .ok (.aload_n 0, 1) := by decide +kernel
theorem dX6_counted_37 : decode cX6_counted 37 = .ok (.getfield 18, 3) := by decide +kernel
theorem dX6_counted_40 : decode cX6_counted 40 = .ok (.getfield 36, 3) := by decide +kernel
theorem dX6_counted_43 : decode cX6_counted 43 = .ok (.iastore, 1) := by decide +kernel
theorem dX6_counted_44 : decode cX6_counted 44 = .ok (.dup, 1) := by decide +kernel
theorem dX6_counted_45 : decode cX6_counted 45 = .ok (.iconst 4, 1) := by decide +kernel
theorem dX6_counted_46 : decode cX6_counted 46 = .ok (.aload_n 0, 1) := by decide +kernel
theorem dX6_counted_47 : decode cX6_counted 47 = .ok (.getfield 18, 3) := by decide +kernel
theorem dX6_counted_50 : decode cX6_counted 50 = .ok (.iconst 0, 1) := by decide +kernel
theorem dX6_counted_51 : decode cX6_counted 51 = .ok (.invokevirtual 127, 3) := by decide +kernel
theorem dX6_counted_54 : decode cX6_counted 54 = .ok (.iastore, 1) := by decide +kernel
theorem dX6_counted_55 : decode cX6_counted 55 = .ok (.dup, 1) := by decide +kernel
theorem dX6_counted_56 : decode cX6_counted 56 = .ok (.iconst 5, 1) := by decide +kernel
theorem dX6_counted_57 : decode cX6_counted 57 = .ok (.aload_n 0, 1) := by decide +kernel
theorem dX6_counted_58 : decode cX6_counted 58 = .ok (.getfield 18, 3) := by decide +kernel
theorem dX6_counted_61 : decode cX6_counted 61 = .ok (.iconst 1, 1) := by decide +kernel
theorem dX6_counted_62 : decode cX6_counted 62 = .ok (.invokevirtual 127, 3) := by decide +kernel
theorem dX6_counted_65 : decode cX6_counted 65 = .ok (.iastore, 1) := by decide +kernel
theorem dX6_counted_66 : decode cX6_counted 66 = .ok (.dup, 1) := by decide +kernel
theorem dX6_counted_67 : decode cX6_counted 67 = .ok (.bipush 6, 2) := by decide +kernel
theorem dX6_counted_69 : decode cX6_counted 69 = .ok (.aload_n 0, 1) := by decide +kernel
theorem dX6_counted_70 : decode cX6_counted 70 = .ok (.getfield 18, 3) := by decide +kernel
theorem dX6_counted_73 : decode cX6_counted 73 = .ok (.iconst 2, 1) := by decide +kernel
theorem dX6_counted_74 : decode cX6_counted 74 = .ok (.invokevirtual 127, 3) := by decide +kernel
theorem dX6_counted_77 : decode cX6_counted 77 = .ok (.iastore, 1) := by decide +kernel
theorem dX6_counted_78 : decode cX6_counted 78 = .ok (.dup, 1) := by decide +kernel
theorem dX6_counted_79 : decode cX6_counted 79 = .ok (.bipush 7, 2) := by decide +kernel
theorem dX6_counted_81 : decode cX6_counted 81 = .ok (.aload_n 0, 1) := by decide +kernel
theorem dX6_counted_82 : decode cX6_counted 82 = .ok (.getfield 18, 3) := by decide +kernel
theorem dX6_counted_85 : decode cX6_counted 85 = .ok (.iconst 3, 1) := by decide +kernel
theorem dX6_counted_86 : decode cX6_counted 86 = .ok (.invokevirtual 127, 3) := by decide +kernel
theorem dX6_counted_89 : decode cX6_counted 89 = .ok (.iastore, 1) := by decide +kernel
theorem dX6_counted_90 : decode cX6_counted 90 = .ok (.dup, 1) := by decide +kernel
theorem dX6_counted_91 : decode cX6_counted 91 = .ok (.bipush 8, 2) := by decide +kernel
theorem dX6_counted_93 : decode cX6_counted 93 = .ok (.aload_n 0, 1) := by decide +kernel
theorem dX6_counted_94 : decode cX6_counted 94 = .ok (.getfield 18, 3) := by decide +kernel
theorem dX6_counted_97 : decode cX6_counted 97 = .ok (.iconst 2, 1) := by decide +kernel
theorem dX6_counted_98 : decode cX6_counted 98 = .ok (.invokevirtual 130, 3) := by decide +kernel
theorem dX6_counted_101 : decode cX6_counted 101 = .ok (.iastore, 1) := by decide +kernel
theorem dX6_counted_102 : decode cX6_counted 102 = .ok (.dup, 1) := by decide +kernel
theorem dX6_counted_103 : decode cX6_counted 103 = .ok (.bipush 9, 2) := by decide +kernel
theorem dX6_counted_105 : decode cX6_counted 105 = .ok (.aload_n 0, 1) := by decide +kernel
theorem dX6_counted_106 : decode cX6_counted 106 = .ok (.getfield 18, 3) := by decide +kernel
theorem dX6_counted_109 : decode cX6_counted 109 = .ok (.iconst 0, 1) := by decide +kernel
theorem dX6_counted_110 : decode cX6_counted 110 = .ok (.invokevirtual 130, 3) := by decide +kernel
theorem dX6_counted_113 : decode cX6_counted 113 = .ok (.iastore, 1) := by decide +kernel
theorem dX6_counted_114 : decode cX6_counted 114 = .ok (.dup, 1) := by decide +kernel
theorem dX6_counted_115 : decode cX6_counted 115 = .ok (.bipush 10, 2) := by decide +kernel
theorem dX6_counted_117 : decode cX6_counted 117 = .ok (.aload_n 0, 1) := by decide +kernel
theorem dX6_counted_118 : decode cX6_counted 118 = .ok (.getfield 18, 3) := by decide +kernel
theorem dX6_counted_121 : decode cX6_counted 121 = .ok (.getfield 133, 3) := by decide +kernel
theorem dX6_counted_124 : decode cX6_counted 124 = .ok (.iastore, 1) := by decide +kernel
theorem dX6_counted_125 : decode cX6_counted 125 = .ok (.astore_n 2, 1) := by decide +kernel
theorem dX6_counted_126 : decode cX6_counted 126 = .ok (.aload_n 2, 1) := by decide +kernel
theorem dX6_counted_127 : decode cX6_counted 127 = .ok (.iload_n 1, 1) := by decide +kernel
theorem dX6_counted_128 : decode cX6_counted 128 = .ok (.iaload, 1) := by decide +kernel
theorem dX6_counted_129 : decode cX6_counted 129 = .ok (.ireturn, 1) := by decide +kernel
set_option maxRecDepth 20000 in
theorem ggX6_count_X6_isIn : GoodIn wsX6_count wsX6_isIn := goodIn_r _ [5] (by decide +kernel) (by decide +kernel)
set_option maxRecDepth 20000 in
theorem gX6_count_X6_isIn : GoodIn wsX6_count (va_wsS RX6 32 yX6_isIn wsX6_isIn) := goodIn_app (goodIn_of _ (by decide +kernel)) ggX6_count_X6_isIn
set_option maxRecDepth 20000 in
theorem ggX6_count_X6_counted : GoodIn wsX6_count wsX6_counted := goodIn_r _ [9, 10, 11, 12, 13, 14, 15, 16, 17, 18, 19, 20, 21, 22, 23, 24, 25, 26, 31, 32, 33, 34, 35, 36, 37, 38, 39, 40, 41, 42, 43, 44, 45, 46, 47, 48, 49, 50, 51, 52, 53, 54, 55, 56] (by decide +kernel) (by decide +kernel)
set_option maxRecDepth 20000 in
theorem gX6_count_X6_counted : GoodIn wsX6_count (wsV RX6 136 RX6 yX6_counted wsX6_counted) := goodIn_app (goodIn_of _ (by decide +kernel)) ggX6_count_X6_counted
set_option maxRecDepth 20000 in
theorem ggX6_count_X6_no : GoodIn wsX6_count wsX6_no := goodIn_r _ [30, 1, 31, 32, 33, 34] (by decide +kernel) (by decide +kernel)
set_option maxRecDepth 20000 in
theorem gX6_count_X6_no : GoodIn wsX6_count (wsV RX6 39 RX6 yX6_no wsX6_no) := goodIn_app (goodIn_of _ (by decide +kernel)) ggX6_count_X6_no
theorem dX6_count_0 : decode cX6_count 0 = .ok (.aload_n 0, 1) := by decide +kernel
theorem dX6_count_1 : decode cX6_count 1 = .ok (.iconst 0, 1) := by decide +kernel
theorem dX6_count_2 : decode cX6_count 2 = .ok (.putfield 25, 3) := by decide +kernel
theorem dX6_count_5 : decode cX6_count 5 = .ok (.iload_n 1, 1) := by decide +kernel
theorem dX6_count_6 : decode cX6_count 6 = .ok (.iconst 0, 1) := by decide +kernel
theorem dX6_count_7 : decode cX6_count 7 = .ok (.bipush 10, 2) := by decide +kernel
theorem dX6_count_9 : decode cX6_count 9 = .ok (.invokestatic 32, 3) := by decide +kernel
theorem dX6_count_12 : decode cX6_count 12 = .ok (.ifCond .eq 11, 3) := by decide +kernel
theorem dX6_count_15 : decode cX6_count 15 = .ok (.aload_n 0, 1) := by decide +kernel
theorem dX6_count_16 : decode cX6_count 16 = .ok (.iload_n 1, 1) := by decide +kernel
theorem dX6_count_17 : decode cX6_count 17 = .ok (.invokevirtual 136, 3) := by decide +kernel
theorem dX6_count_20 : decode cX6_count 20 = .ok (.goto 8, 3) := by decide +kernel
theorem dX6_count_23 : decode cX6_count 23 = .ok (.aload_n 0, 1) := by decide +kernel
theorem dX6_count_24 : decode cX6_count 24 = .ok (.iconst 1, 1) := by decide +kernel
theorem dX6_count_25 : decode cX6_count 25 = .ok (.invokevirtual 39, 3) := by decide +kernel
theorem dX6_count_28 : decode cX6_count 28 = .ok (.ireturn, 1) := by decide +kernel
set_option maxRecDepth 20000 in
theorem ggX6_pass_X5_pass : GoodIn wsX6_pass wsX5_pass := goodIn_r _ [5, 6, 7, 8, 9, 10, 11, 12, 13, 14, 15, 4, 16, 17, 18, 19, 20, 21, 22, 23, 24, 25, 26, 27, 28, 29, 30, 31, 32, 33, 34, 35, 36, 37, 38, 39, 40, 41, 42, 43, 44, 45, 46, 47, 48, 49, 50, 51, 52, 53, 54, 55, 56, 57, 58, 59, 60, 61, 62, 63, 64, 65, 66, 67, 68, 69, 70, 71, 72, 73, 74, 75, 76, 77, 78, 79, 80, 81, 82, 83, 84, 85, 86, 87, 88, 89, 90, 91, 92, 93, 94, 95, 96, 97, 98, 99] (by decide +kernel) (by decide +kernel)
set_option maxRecDepth 20000 in
theorem gX6_pass_X5_pass : GoodIn wsX6_pass (wsV RX6 139 RX5 yX5_pass wsX5_pass) := goodIn_app (goodIn_of _ (by decide +kernel)) ggX6_pass_X5_pass
theorem dX6_pass_0 : decode cX6_pass 0 = .ok (.iconst 0, 1) := by decide +kernel
theorem dX6_pass_1 : decode cX6_pass 1 = .ok (.istore_n 2, 1) := by decide +kernel
theorem dX6_pass_2 : decode cX6_pass 2 = .ok (.iconst 0, 1) := by decide +kernel
theorem dX6_pass_3 : decode cX6_pass 3 = .ok (.istore_n 3, 1) := by decide +kernel
theorem dX6_pass_4 : decode cX6_pass 4 = .ok (.iload_n 3, 1) := by decide +kernel
theorem dX6_pass_5 : decode cX6_pass 5 = .ok (.iload_n 1, 1) := by decide +kernel
theorem dX6_pass_6 : decode cX6_pass 6 = .ok (.if_icmp .ge 16, 3) := by decide +kernel
theorem dX6_pass_9 : decode cX6_pass 9 = .ok (.iload_n 2, 1) := by decide +kernel
theorem dX6_pass_10 : decode cX6_pass 10 = .ok (.aload_n 0, 1) := by decide +kernel
theorem dX6_pass_11 : decode cX6_pass 11 = .ok (.invokevirtual 139, 3) := by decide +kernel
theorem dX6_pass_14 : decode cX6_pass 14 = .ok (.iadd, 1) := by decide +kernel
theorem dX6_pass_15 : decode cX6_pass 15 = .ok (.istore_n 2, 1) := by decide +kernel
theorem dX6_pass_16 : decode cX6_pass 16 = .ok (.iinc 3 1, 3) := by decide +kernel
theorem dX6_pass_19 : decode cX6_pass 19 = .ok (.goto (-15), 3) := by decide +kernel
theorem dX6_pass_22 : decode cX6_pass 22 = .ok (.iload_n 2, 1) := by decide +kernel
theorem dX6_pass_23 : decode cX6_pass 23 = .ok (.ireturn, 1) := by decide +kernel
set_option maxRecDepth 20000 in
theorem ggX6_pass__X6_isIn : GoodIn wsX6_pass_ wsX6_isIn := goodIn_r _ [6] (by decide +kernel) (by decide +kernel)
set_option maxRecDepth 20000 in
theorem gX6_pass__X6_isIn : GoodIn wsX6_pass_ (va_wsS RX6 32 yX6_isIn wsX6_isIn) := goodIn_app (goodIn_of _ (by decide +kernel)) ggX6_pass__X6_isIn
set_option maxRecDepth 20000 in
theorem ggX6_pass__X6_pass : GoodIn wsX6_pass_ wsX6_pass := goodIn_r _ [9, 10, 11, 12, 13, 14, 15, 16, 17, 18, 19, 20, 21, 22, 23, 24, 25, 26, 27, 28, 29, 30, 31, 32, 33, 34, 35, 36, 37, 38, 39, 40, 41, 42, 43, 44, 45, 46, 47, 48, 49, 50, 51, 52, 53, 54, 55, 56, 57, 58, 59, 60, 61, 62, 63, 64, 65, 66, 67, 68, 69, 70, 71, 72, 73, 74, 75, 76, 77, 78, 79, 80, 81, 82, 91, 92, 93, 94, 95, 96, 97, 98, 99, 100, 101, 102, 103, 104, 105, 106, 107, 108, 109, 110, 111, 112, 87, 88, 89, 90] (by decide +kernel) (by decide +kernel)
set_option maxRecDepth 20000 in
theorem gX6_pass__X6_pass : GoodIn wsX6_pass_ (va_wsS RX6 143 yX6_pass wsX6_pass) := goodIn_app (goodIn_of _ (by decide +kernel)) ggX6_pass__X6_pass
set_option maxRecDepth 20000 in
theorem ggX6_pass__X6_no : GoodIn wsX6_pass_ wsX6_no := goodIn_r _ [86, 1, 87, 88, 89, 90] (by decide +kernel) (by decide +kernel)
set_option maxRecDepth 20000 in
theorem gX6_pass__X6_no : GoodIn wsX6_pass_ (wsV RX6 39 RX6 yX6_no wsX6_no) := goodIn_app (goodIn_of _ (by decide +kernel)) ggX6_pass__X6_no
theorem dX6_pass__0 : decode cX6_pass_ 0 = .ok (.aload_n 0, 1) := by decide +kernel
theorem dX6_pass__1 : decode cX6_pass_ 1 = .ok (.iconst 0, 1) := by decide +kernel
theorem dX6_pass__2 : decode cX6_pass_ 2 = .ok (.putfield 25, 3) := by decide +kernel
theorem dX6_pass__5 : decode cX6_pass_ 5 = .ok (.iload_n 1, 1) := by decide +kernel
theorem dX6_pass__6 : decode cX6_pass_ 6 = .ok (.iconst 1, 1) := by decide +kernel
theorem dX6_pass__7 : decode cX6_pass_ 7 = .ok (.bipush 100, 2) := by decide +kernel
theorem dX6_pass__9 : decode cX6_pass_ 9 = .ok (.invokestatic 32, 3) := by decide +kernel
theorem dX6_pass__12 : decode cX6_pass_ 12 = .ok (.ifCond .eq 14, 3) := by decide +kernel
theorem dX6_pass__15 : decode cX6_pass_ 15 = .ok (.aload_n 0, 1) := by decide +kernel
theorem dX6_pass__16 : decode cX6_pass_ 16 = .ok (.getfield 18, 3) := by decide +kernel
theorem dX6_pass__19 : decode cX6_pass_ 19 = .ok (.iload_n 1, 1) := by decide +kernel
theorem dX6_pass__20 : decode cX6_pass_ 20 = .ok (.invokestatic 143, 3) := by decide +kernel
theorem dX6_pass__23 : decode cX6_pass_ 23 = .ok (.goto 8, 3) := by decide +kernel
theorem dX6_pass__26 : decode cX6_pass_ 26 = .ok (.aload_n 0, 1) := by decide +kernel
theorem dX6_pass__27 : decode cX6_pass_ 27 = .ok (.iconst 1, 1) := by decide +kernel
theorem dX6_pass__28 : decode cX6_pass_ 28 = .ok (.invokevirtual 39, 3) := by decide +kernel
theorem dX6_pass__31 : decode cX6_pass_ 31 = .ok (.ireturn, 1) := by decide +kernel
set_option maxRecDepth 20000 in
theorem ggX6_foresee_X6_isIn : GoodIn wsX6_foresee wsX6_isIn := goodIn_r _ [7] (by decide +kernel) (by decide +kernel)
set_option maxRecDepth 20000 in
theorem gX6_foresee_X6_isIn : GoodIn wsX6_foresee (va_wsS RX6 32 yX6_isIn wsX6_isIn) := goodIn_app (goodIn_of _ (by decide +kernel)) ggX6_foresee_X6_isIn
set_option maxRecDepth 20000 in
theorem ggX6_foresee_X6_no : GoodIn wsX6_foresee wsX6_no := goodIn_r _ [11, 1, 108, 109, 110, 111] (by decide +kernel) (by decide +kernel)
set_option maxRecDepth 20000 in
theorem gX6_foresee_X6_no : GoodIn wsX6_foresee (wsV RX6 39 RX6 yX6_no wsX6_no) := goodIn_app (goodIn_of _ (by decide +kernel)) ggX6_foresee_X6_no
set_option maxRecDepth 20000 in
theorem ggX6_foresee_X5_become : GoodIn wsX6_foresee wsX5_become := goodIn_r _ [16, 17, 18, 19, 20, 21, 22, 23, 24, 25, 26, 27, 28, 29, 30, 31, 32, 33, 34, 35, 36, 37, 38, 39, 40, 15, 41, 42, 43, 44, 45, 112, 113, 114, 115, 116, 117, 118, 119, 120, 121, 122, 123, 124, 125, 126, 127, 128, 129, 130, 131, 132, 133] (by decide +kernel) (by decide +kernel)
set_option maxRecDepth 20000 in
theorem gX6_foresee_X5_become : GoodIn wsX6_foresee (wsV RX6 146 RX5 yX5_become wsX5_become) := goodIn_app (goodIn_of _ (by decide +kernel)) ggX6_foresee_X5_become
set_option maxRecDepth 20000 in
theorem ggX6_foresee_X6_pass : GoodIn wsX6_foresee wsX6_pass := goodIn_r _ [48, 49, 50, 51, 15, 52, 17, 19, 28, 20, 32, 31, 53, 54, 55, 56, 57, 26, 25, 30, 27, 58, 59, 60, 61, 29, 35, 37, 24, 33, 34, 22, 62, 63, 64, 65, 66, 67, 68, 69, 70, 71, 72, 36, 23, 73, 74, 75, 76, 77, 78, 79, 80, 81, 82, 83, 84, 85, 86, 87, 88, 89, 90, 91, 18, 21, 92, 93, 94, 95, 96, 97, 98, 99, 112, 113, 114, 115, 116, 117, 118, 119, 120, 121, 122, 123, 124, 125, 126, 127, 128, 129, 130, 131, 132, 133, 108, 109, 110, 111] (by decide +kernel) (by decide +kernel)
set_option maxRecDepth 20000 in
theorem gX6_foresee_X6_pass : GoodIn wsX6_foresee (va_wsS RX6 143 yX6_pass wsX6_pass) := goodIn_app (goodIn_of _ (by decide +kernel)) ggX6_foresee_X6_pass
set_option maxRecDepth 20000 in
theorem ggX6_foresee_X5_over : GoodIn wsX6_foresee wsX5_over := goodIn_r _ [103, 20, 37, 36, 32, 112, 113, 114, 115, 116, 117, 118, 119, 120, 121, 122, 123, 124, 125, 126, 127, 128, 129, 130, 131, 132, 133] (by decide +kernel) (by decide +kernel)
set_option maxRecDepth 20000 in
theorem gX6_foresee_X5_over : GoodIn wsX6_foresee (wsV RX6 130 RX5 yX5_over wsX5_over) := goodIn_app (goodIn_of _ (by decide +kernel)) ggX6_foresee_X5_over
set_option maxRecDepth 20000 in
theorem ggX6_foresee_X5_of : GoodIn wsX6_foresee wsX5_of := goodIn_r _ [107, 19, 25, 112, 113, 114, 115, 116, 117, 118, 119, 120, 121, 122, 123, 124, 125, 126, 127, 128, 129, 130, 131, 132, 133] (by decide +kernel) (by decide +kernel)
set_option maxRecDepth 20000 in
theorem gX6_foresee_X5_of : GoodIn wsX6_foresee (wsV RX6 127 RX5 yX5_of wsX5_of) := goodIn_app (goodIn_of _ (by decide +kernel)) ggX6_foresee_X5_of
theorem dX6_foresee_0 : decode cX6_foresee 0 = .ok (.aload_n 0, 1) := by decide +kernel
theorem dX6_foresee_1 : decode cX6_foresee 1 = .ok (.iconst 0, 1) := by decide +kernel
theorem dX6_foresee_2 : decode cX6_foresee 2 = .ok (.putfield 25, 3) := by decide +kernel
theorem dX6_foresee_5 : decode cX6_foresee 5 = .ok (.iload_n 1, 1) := by decide +kernel
theorem dX6_foresee_6 : decode cX6_foresee 6 = .ok (.iconst 1, 1) := by decide +kernel
theorem dX6_foresee_7 : decode cX6_foresee 7 = .ok (.bipush 100, 2) := by decide +kernel
theorem dX6_foresee_9 : decode cX6_foresee 9 = .ok (.invokestatic 32, 3) := by decide +kernel
theorem dX6_foresee_12 : decode cX6_foresee 12 = .ok (.ifCond .ne 9, 3) := by decide +kernel
theorem dX6_foresee_15 : decode cX6_foresee 15 = .ok (.aload_n 0, 1) := by decide +kernel
theorem dX6_foresee_16 : decode cX6_foresee 16 = .ok (.iconst 1, 1) := by decide +kernel
theorem dX6_foresee_17 : decode cX6_foresee 17 = .ok (.invokevirtual 39, 3) := by decide +kernel
theorem dX6_foresee_20 : decode cX6_foresee 20 = .ok (.ireturn, 1) := by decide +kernel
theorem dX6_foresee_21 : decode cX6_foresee 21 = .ok (.iload_n 2, 1) := by decide +kernel
theorem dX6_foresee_22 : decode cX6_foresee 22 = .ok (.iconst 0, 1) := by decide +kernel
theorem dX6_foresee_23 : decode cX6_foresee 23 = .ok (.iconst 4, 1) := by decide +kernel
theorem dX6_foresee_24 : decode cX6_foresee 24 = .ok (.invokestatic 32, 3) := by decide +kernel
theorem dX6_foresee_27 : decode cX6_foresee 27 = .ok (.ifCond .ne 9, 3) := by decide +kernel
theorem dX6_foresee_30 : decode cX6_foresee 30 = .ok (.aload_n 0, 1) := by decide +kernel
theorem dX6_foresee_31 : decode cX6_foresee 31 = .ok (.iconst 2, 1) := by decide +kernel
theorem dX6_foresee_32 : decode cX6_foresee 32 = .ok (.invokevirtual 39, 3) := by decide +kernel
theorem dX6_foresee_35 : decode cX6_foresee 35 = .ok (.ireturn, 1) := by decide +kernel
theorem dX6_foresee_36 : decode cX6_foresee 36 = .ok (.aload_n 0, 1) := by decide +kernel
theorem dX6_foresee_37 : decode cX6_foresee 37 = .ok (.getfield 22, 3) := by decide +kernel
theorem dX6_foresee_40 : decode cX6_foresee 40 = .ok (.aload_n 0, 1) := by decide +kernel
theorem dX6_foresee_41 : decode cX6_foresee 41 = .ok (.getfield 18, 3) := by decide +kernel
theorem dX6_foresee_44 : decode cX6_foresee 44 = .ok (.invokevirtual 146, 3) := by decide +kernel
theorem dX6_foresee_47 : decode cX6_foresee 47 = .ok (.aload_n 0, 1) := by decide +kernel
theorem dX6_foresee_48 : decode cX6_foresee 48 = .ok (.getfield 22, 3) := by decide +kernel
theorem dX6_foresee_51 : decode cX6_foresee 51 = .ok (.iload_n 1, 1) := by decide +kernel
theorem dX6_foresee_52 : decode cX6_foresee 52 = .ok (.invokestatic 143, 3) := by decide +kernel
theorem dX6_foresee_55 : decode cX6_foresee 55 = .ok (.pop, 1) := by decide +kernel
theorem dX6_foresee_56 : decode cX6_foresee 56 = .ok (.iload_n 2, 1) := by decide +kernel
theorem dX6_foresee_57 : decode cX6_foresee 57 = .ok (.ifCond .ne 14, 3) := by decide +kernel
theorem dX6_foresee_60 : decode cX6_foresee 60 = .ok (.aload_n 0, 1) := by decide +kernel
theorem dX6_foresee_61 : decode cX6_foresee 61 = .ok (.getfield 22, 3) := by decide +kernel
theorem dX6_foresee_64 : decode cX6_foresee 64 = .ok (.iconst 0, 1) := by decide +kernel
theorem dX6_foresee_65 : decode cX6_foresee 65 = .ok (.invokevirtual 130, 3) := by decide +kernel
theorem dX6_foresee_68 : decode cX6_foresee 68 = .ok (.goto 59, 3) := by decide +kernel
theorem dX6_foresee_71 : decode cX6_foresee 71 = .ok (.iload_n 2, 1) := by decide +kernel
theorem dX6_foresee_72 : decode cX6_foresee 72 = .ok (.iconst 1, 1) := by decide +kernel
theorem dX6_foresee_73 : decode cX6_foresee 73 = .ok (.if_icmp .ne 14, 3) := by decide +kernel
theorem dX6_foresee_76 : decode cX6_foresee 76 = .ok (.aload_n 0, 1) := by decide +kernel
theorem dX6_foresee_77 : decode cX6_foresee 77 = .ok (.getfield 22, 3) := by decide +kernel
theorem dX6_foresee_80 : decode cX6_foresee 80 = .ok (.iconst 0, 1) := by decide +kernel
theorem dX6_foresee_81 : decode cX6_foresee 81 = .ok (.invokevirtual 127, 3) := by decide +kernel
theorem dX6_foresee_84 : decode cX6_foresee 84 = .ok (.goto 43, 3) := by decide +kernel
theorem dX6_foresee_87 : decode cX6_foresee 87 = .ok (.iload_n 2, 1) := by decide +kernel
theorem dX6_foresee_88 : decode cX6_foresee 88 = .ok (.iconst 2, 1) := by decide +kernel
theorem dX6_foresee_89 : decode cX6_foresee 89 = .ok (.if_icmp .ne 14, 3) := by decide +kernel
theorem dX6_foresee_92 : decode cX6_foresee 92 = .ok (.aload_n 0, 1) := by decide +kernel
theorem dX6_foresee_93 : decode cX6_foresee 93 = .ok (.getfield 22, 3) := by decide +kernel
theorem dX6_foresee_96 : decode cX6_foresee 96 = .ok (.iconst 2, 1) := by decide +kernel
theorem dX6_foresee_97 : decode cX6_foresee 97 = .ok (.invokevirtual 127, 3) := by decide +kernel
theorem dX6_foresee_100 : decode cX6_foresee 100 = .ok (.goto 27, 3) := by decide +kernel
theorem dX6_foresee_103 : decode cX6_foresee 103 = .ok (.iload_n 2, 1) := by decide +kernel
theorem dX6_foresee_104 : decode cX6_foresee 104 = .ok (.iconst 3, 1) := by decide +kernel
theorem dX6_foresee_105 : decode cX6_foresee 105 = .ok (.if_icmp .ne 14, 3) := by decide +kernel
theorem dX6_foresee_108 : decode cX6_foresee 108 = .ok (.aload_n 0, 1) := by decide +kernel
theorem dX6_foresee_109 : decode cX6_foresee 109 = .ok (.getfield 22, 3) := by decide +kernel
theorem dX6_foresee_112 : decode cX6_foresee 112 = .ok (.iconst 3, 1) := by decide +kernel
theorem dX6_foresee_113 : decode cX6_foresee 113 = .ok (.invokevirtual 127, 3) := by decide +kernel
theorem dX6_foresee_116 : decode cX6_foresee 116 = .ok (.goto 11, 3) := by decide +kernel
theorem dX6_foresee_119 : decode cX6_foresee 119 = .ok (.aload_n 0, 1) := by decide +kernel
theorem dX6_foresee_120 : decode cX6_foresee 120 = .ok (.getfield 22, 3) := by decide +kernel
theorem dX6_foresee_123 : decode cX6_foresee 123 = .ok (.iconst 1, 1) := by decide +kernel
theorem dX6_foresee_124 : decode cX6_foresee 124 = .ok (.invokevirtual 130, 3) := by decide +kernel
theorem dX6_foresee_127 : decode cX6_foresee 127 = .ok (.ireturn, 1) := by decide +kernel
set_option maxRecDepth 20000 in
theorem ggX6_advise_X6_isIn : GoodIn wsX6_advise wsX6_isIn := goodIn_r _ [7] (by decide +kernel) (by decide +kernel)
set_option maxRecDepth 20000 in
theorem gX6_advise_X6_isIn : GoodIn wsX6_advise (va_wsS RX6 32 yX6_isIn wsX6_isIn) := goodIn_app (goodIn_of _ (by decide +kernel)) ggX6_advise_X6_isIn
set_option maxRecDepth 20000 in
theorem ggX6_advise_X6_no : GoodIn wsX6_advise wsX6_no := goodIn_r _ [11, 1, 108, 109, 110, 111] (by decide +kernel) (by decide +kernel)
set_option maxRecDepth 20000 in
theorem gX6_advise_X6_no : GoodIn wsX6_advise (wsV RX6 39 RX6 yX6_no wsX6_no) := goodIn_app (goodIn_of _ (by decide +kernel)) ggX6_advise_X6_no
set_option maxRecDepth 20000 in
theorem ggX6_advise_X5_become : GoodIn wsX6_advise wsX5_become := goodIn_r _ [16, 17, 18, 19, 20, 21, 22, 23, 24, 25, 26, 27, 28, 29, 30, 31, 32, 33, 34, 35, 36, 37, 38, 39, 40, 15, 41, 42, 43, 44, 45, 112, 113, 114, 115, 116, 117, 118, 119, 120, 121, 122, 123, 124, 125, 126, 127, 128, 129, 130, 131, 132, 133] (by decide +kernel) (by decide +kernel)
set_option maxRecDepth 20000 in
theorem gX6_advise_X5_become : GoodIn wsX6_advise (wsV RX6 146 RX5 yX5_become wsX5_become) := goodIn_app (goodIn_of _ (by decide +kernel)) ggX6_advise_X5_become
set_option maxRecDepth 20000 in
theorem ggX6_advise_X6_pass : GoodIn wsX6_advise wsX6_pass := goodIn_r _ [48, 49, 50, 51, 15, 52, 17, 19, 28, 20, 32, 31, 53, 54, 55, 56, 57, 26, 25, 30, 27, 58, 59, 60, 61, 29, 35, 37, 24, 33, 34, 22, 62, 63, 64, 65, 66, 67, 68, 69, 70, 71, 72, 36, 23, 73, 74, 75, 76, 77, 78, 79, 80, 81, 82, 83, 84, 85, 86, 87, 88, 89, 90, 91, 18, 21, 92, 93, 94, 95, 96, 97, 98, 99, 112, 113, 114, 115, 116, 117, 118, 119, 120, 121, 122, 123, 124, 125, 126, 127, 128, 129, 130, 131, 132, 133, 108, 109, 110, 111] (by decide +kernel) (by decide +kernel)
set_option maxRecDepth 20000 in
theorem gX6_advise_X6_pass : GoodIn wsX6_advise (va_wsS RX6 143 yX6_pass wsX6_pass) := goodIn_app (goodIn_of _ (by decide +kernel)) ggX6_advise_X6_pass
set_option maxRecDepth 20000 in
theorem ggX6_advise_X5_over : GoodIn wsX6_advise wsX5_over := goodIn_r _ [103, 20, 37, 36, 32, 112, 113, 114, 115, 116, 117, 118, 119, 120, 121, 122, 123, 124, 125, 126, 127, 128, 129, 130, 131, 132, 133] (by decide +kernel) (by decide +kernel)
set_option maxRecDepth 20000 in
theorem gX6_advise_X5_over : GoodIn wsX6_advise (wsV RX6 130 RX5 yX5_over wsX5_over) := goodIn_app (goodIn_of _ (by decide +kernel)) ggX6_advise_X5_over
set_option maxRecDepth 20000 in
theorem ggX6_advise_X5_bring : GoodIn wsX6_advise wsX5_bring := goodIn_r _ [107, 25, 19, 26, 27, 28, 29, 30, 112, 113, 114, 115, 116, 117, 118, 119, 120, 121, 122, 123, 124, 125, 126, 127, 128, 129, 130, 131, 132, 133] (by decide +kernel) (by decide +kernel)
set_option maxRecDepth 20000 in
theorem gX6_advise_X5_bring : GoodIn wsX6_advise (wsV RX6 56 RX5 yX5_bring wsX5_bring) := goodIn_app (goodIn_of _ (by decide +kernel)) ggX6_advise_X5_bring
theorem dX6_advise_0 : decode cX6_advise 0 = .ok (.aload_n 0, 1) := by decide +kernel
theorem dX6_advise_1 : decode cX6_advise 1 = .ok (.iconst 0, 1) := by decide +kernel
theorem dX6_advise_2 : decode cX6_advise 2 = .ok (.putfield 25, 3) := by decide +kernel
theorem dX6_advise_5 : decode cX6_advise 5 = .ok (.iload_n 1, 1) := by decide +kernel
theorem dX6_advise_6 : decode cX6_advise 6 = .ok (.iconst 1, 1) := by decide +kernel
theorem dX6_advise_7 : decode cX6_advise 7 = .ok (.bipush 24, 2) := by decide +kernel
theorem dX6_advise_9 : decode cX6_advise 9 = .ok (.invokestatic 32, 3) := by decide +kernel
theorem dX6_advise_12 : decode cX6_advise 12 = .ok (.ifCond .ne 9, 3) := by decide +kernel
theorem dX6_advise_15 : decode cX6_advise 15 = .ok (.aload_n 0, 1) := by decide +kernel
theorem dX6_advise_16 : decode cX6_advise 16 = .ok (.iconst 1, 1) := by decide +kernel
theorem dX6_advise_17 : decode cX6_advise 17 = .ok (.invokevirtual 39, 3) := by decide +kernel
theorem dX6_advise_20 : decode cX6_advise 20 = .ok (.ireturn, 1) := by decide +kernel
theorem dX6_advise_21 : decode cX6_advise 21 = .ok (.aload_n 0, 1) := by decide +kernel
theorem dX6_advise_22 : decode cX6_advise 22 = .ok (.getfield 18, 3) := by decide +kernel
theorem dX6_advise_25 : decode cX6_advise 25 = .ok (.getfield 53, 3) := by decide +kernel
theorem dX6_advise_28 : decode cX6_advise 28 = .ok (.bipush 40, 2) := by decide +kernel
theorem dX6_advise_30 : decode cX6_advise 30 = .ok (.if_icmp .ne 9, 3) := by decide +kernel
theorem dX6_advise_33 : decode cX6_advise 33 = .ok (.aload_n 0, 1) := by decide +kernel
theorem dX6_advise_34 : decode cX6_advise 34 = .ok (.iconst 2, 1) := by decide +kernel
theorem dX6_advise_35 : decode cX6_advise 35 = .ok (.invokevirtual 39, 3) := by decide +kernel
theorem dX6_advise_38 : decode cX6_advise 38 = .ok (.ireturn, 1) := by decide +kernel
theorem dX6_advise_39 : decode cX6_advise 39 = .ok (.aload_n 0, 1) := by decide +kernel
theorem dX6_advise_40 : decode cX6_advise 40 = .ok (.getfield 22, 3) := by decide +kernel
theorem dX6_advise_43 : decode cX6_advise 43 = .ok (.aload_n 0, 1) := by decide +kernel
theorem dX6_advise_44 : decode cX6_advise 44 = .ok (.getfield 18, 3) := by decide +kernel
theorem dX6_advise_47 : decode cX6_advise 47 = .ok (.invokevirtual 146, 3) := by decide +kernel
theorem dX6_advise_50 : decode cX6_advise 50 = .ok (.aload_n 0, 1) := by decide +kernel
theorem dX6_advise_51 : decode cX6_advise 51 = .ok (.getfield 22, 3) := by decide +kernel
theorem dX6_advise_54 : decode cX6_advise 54 = .ok (.iload_n 1, 1) := by decide +kernel
theorem dX6_advise_55 : decode cX6_advise 55 = .ok (.invokestatic 143, 3) := by decide +kernel
theorem dX6_advise_58 : decode cX6_advise 58 = .ok (.pop, 1) := by decide +kernel
theorem dX6_advise_59 : decode cX6_advise 59 = .ok (.iconst (-1), 1) := by decide +kernel
theorem dX6_advise_60 : decode cX6_advise 60 = .ok (.istore_n 2, 1) := by decide +kernel
theorem dX6_advise_61 : decode cX6_advise 61 = .ok (.aload_n 0, 1) := by decide +kernel
theorem dX6_advise_62 : decode cX6_advise 62 = .ok (.getfield 22, 3) := by decide +kernel
theorem dX6_advise_65 : decode cX6_advise 65 = .ok (.iconst 0, 1) := by decide +kernel
theorem dX6_advise_66 : decode cX6_advise 66 = .ok (.invokevirtual 130, 3) := by decide +kernel
theorem dX6_advise_69 : decode cX6_advise 69 = .ok (.istore_n 3, 1) := by decide +kernel
theorem dX6_advise_70 : decode cX6_advise 70 = .ok (.iconst 0, 1) := by decide +kernel
theorem dX6_advise_71 : decode cX6_advise 71 = .ok (.istore 4, 2) := by decide +kernel
theorem dX6_advise_73 : decode cX6_advise 73 = .ok (.iload 4, 2) := by decide +kernel
theorem dX6_advise_75 : decode cX6_advise 75 = .ok (.aload_n 0, 1) := by decide +kernel
theorem dX6_advise_76 : decode cX6_advise 76 = .ok (.getfield 18, 3) := by decide +kernel
theorem dX6_advise_79 : decode cX6_advise 79 = .ok (.getfield 29, 3) := by decide +kernel
theorem dX6_advise_82 : decode cX6_advise 82 = .ok (.if_icmp .ge 65, 3) := by decide +kernel
theorem dX6_advise_85 : decode cX6_advise 85 = .ok (.aload_n 0, 1) := by decide +kernel
theorem dX6_advise_86 : decode cX6_advise 86 = .ok (.getfield 22, 3) := by decide +kernel
theorem dX6_advise_89 : decode cX6_advise 89 = .ok (.aload_n 0, 1) := by decide +kernel
theorem dX6_advise_90 : decode cX6_advise 90 = .ok (.getfield 18, 3) := by decide +kernel
theorem dX6_advise_93 : decode cX6_advise 93 = .ok (.invokevirtual 146, 3) := by decide +kernel
theorem dX6_advise_96 : decode cX6_advise 96 = .ok (.aload_n 0, 1) := by decide +kernel
theorem dX6_advise_97 : decode cX6_advise 97 = .ok (.getfield 22, 3) := by decide +kernel
theorem dX6_advise_100 : decode cX6_advise 100 = .ok (.iload 4, 2) := by decide +kernel
theorem dX6_advise_102 : decode cX6_advise 102 = .ok (.invokevirtual 56, 3) := by decide +kernel
theorem dX6_advise_105 : decode cX6_advise 105 = .ok (.aload_n 0, 1) := by decide +kernel
theorem dX6_advise_106 : decode cX6_advise 106 = .ok (.getfield 22, 3) := by decide +kernel
theorem dX6_advise_109 : decode cX6_advise 109 = .ok (.iload_n 1, 1) := by decide +kernel
theorem dX6_advise_110 : decode cX6_advise 110 = .ok (.invokestatic 143, 3) := by decide +kernel
theorem dX6_advise_113 : decode cX6_advise 113 = .ok (.pop, 1) := by decide +kernel
theorem dX6_advise_114 : decode cX6_advise 114 = .ok (.aload_n 0, 1) := by decide +kernel
theorem dX6_advise_115 : decode cX6_advise 115 = .ok (.getfield 22, 3) := by decide +kernel
theorem dX6_advise_118 : decode cX6_advise 118 = .ok (.iconst 0, 1) := by decide +kernel
theorem dX6_advise_119 : decode cX6_advise 119 = .ok (.invokevirtual 130, 3) := by decide +kernel
theorem dX6_advise_122 : decode cX6_advise 122 = .ok (.iload_n 3, 1) := by decide +kernel
theorem dX6_advise_123 : decode cX6_advise 123 = .ok (.if_icmp .lt 6, 3) := by decide +kernel
theorem dX6_advise_126 : decode cX6_advise 126 = .ok (.goto 15, 3) := by decide +kernel
theorem dX6_advise_129 : decode cX6_advise 129 = .ok (.iload 4, 2) := by decide +kernel
theorem dX6_advise_131 : decode cX6_advise 131 = .ok (.istore_n 2, 1) := by decide +kernel
theorem dX6_advise_132 : decode cX6_advise 132 = .ok (.aload_n 0, 1) := by decide +kernel
theorem dX6_advise_133 : decode cX6_advise 133 = .ok (.getfield 22, 3) := by decide +kernel
theorem dX6_advise_136 : decode cX6_advise 136 = .ok (.iconst 0, 1) := by decide +kernel
theorem dX6_advise_137 : decode cX6_advise 137 = .ok (.invokevirtual 130, 3) := by decide +kernel
theorem dX6_advise_140 : decode cX6_advise 140 = .ok (.istore_n 3, 1) := by decide +kernel
theorem dX6_advise_141 : decode cX6_advise 141 = .ok (.iinc 4 1, 3) := by decide +kernel
theorem dX6_advise_144 : decode cX6_advise 144 = .ok (.goto (-71), 3) := by decide +kernel
theorem dX6_advise_147 : decode cX6_advise 147 = .ok (.iload_n 2, 1) := by decide +kernel
theorem dX6_advise_148 : decode cX6_advise 148 = .ok (.ireturn, 1) := by decide +kernel
set_option maxRecDepth 20000 in
theorem ggX6_wouldGet_X6_isCitizen : GoodIn wsX6_wouldGet wsX6_isCitizen := goodIn_r _ [7, 2, 8, 9, 6, 10, 30, 31, 32, 33, 34, 35, 36, 37, 38, 39, 40, 41, 42, 43, 44, 45, 46, 47, 48, 49, 50, 51, 52, 53, 54, 55] (by decide +kernel) (by decide +kernel)
set_option maxRecDepth 20000 in
theorem gX6_wouldGet_X6_isCitizen : GoodIn wsX6_wouldGet (wsV RX6 118 RX6 yX6_isCitizen wsX6_isCitizen) := goodIn_app (goodIn_of _ (by decide +kernel)) ggX6_wouldGet_X6_isCitizen
set_option maxRecDepth 20000 in
theorem ggX6_wouldGet_X6_isShelter : GoodIn wsX6_wouldGet wsX6_isShelter := goodIn_r _ [14, 2, 8, 9, 6, 10, 30, 31, 32, 33, 34, 35, 36, 37, 38, 39, 40, 41, 42, 43, 44, 45, 46, 47, 48, 49, 50, 51, 52, 53, 54, 55] (by decide +kernel) (by decide +kernel)
set_option maxRecDepth 20000 in
theorem gX6_wouldGet_X6_isShelter : GoodIn wsX6_wouldGet (wsV RX6 49 RX6 yX6_isShelter wsX6_isShelter) := goodIn_app (goodIn_of _ (by decide +kernel)) ggX6_wouldGet_X6_isShelter
set_option maxRecDepth 20000 in
theorem ggX6_wouldGet_X5_wouldGet : GoodIn wsX6_wouldGet wsX5_wouldGet := goodIn_r _ [19, 20, 21, 22, 23, 24, 18, 25, 26, 27, 28, 29, 34, 35, 36, 37, 38, 39, 40, 41, 42, 43, 44, 45, 46, 47, 48, 49, 50, 51, 52, 53, 54, 55] (by decide +kernel) (by decide +kernel)
set_option maxRecDepth 20000 in
theorem gX6_wouldGet_X5_wouldGet : GoodIn wsX6_wouldGet (wsV RX6 150 RX5 yX5_wouldGet wsX5_wouldGet) := goodIn_app (goodIn_of _ (by decide +kernel)) ggX6_wouldGet_X5_wouldGet
theorem dX6_wouldGet_0 : decode cX6_wouldGet 0 = .ok (.aload_n 0, 1) := by decide +kernel
theorem dX6_wouldGet_1 : decode cX6_wouldGet 1 = .ok (.aload_n 0, 1) := by decide +kernel
theorem dX6_wouldGet_2 : decode cX6_wouldGet 2 = .ok (.iload_n 1, 1) := by decide +kernel
theorem dX6_wouldGet_3 : decode cX6_wouldGet 3 = .ok (.invokevirtual 118, 3) := by decide +kernel
theorem dX6_wouldGet_6 : decode cX6_wouldGet 6 = .ok (.ifCond .eq 15, 3) := by decide +kernel
theorem dX6_wouldGet_9 : decode cX6_wouldGet 9 = .ok (.aload_n 0, 1) := by decide +kernel
theorem dX6_wouldGet_10 : decode cX6_wouldGet 10 = .ok (.iload_n 2, 1) := by decide +kernel
theorem dX6_wouldGet_11 : decode cX6_wouldGet 11 = .ok (.invokevirtual 49, 3) := by decide +kernel
theorem dX6_wouldGet_14 : decode cX6_wouldGet 14 = .ok (.ifCond .eq 7, 3) := by decide +kernel
theorem dX6_wouldGet_17 : decode cX6_wouldGet 17 = .ok (.iconst 0, 1) := by decide +kernel
theorem dX6_wouldGet_18 : decode cX6_wouldGet 18 = .ok (.goto 4, 3) := by decide +kernel
theorem dX6_wouldGet_21 : decode cX6_wouldGet 21 = .ok (.iconst 1, 1) := by decide +kernel
theorem dX6_wouldGet_22 : decode cX6_wouldGet 22 = .ok (.putfield 25, 3) := by decide +kernel
theorem dX6_wouldGet_25 : decode cX6_wouldGet 25 = .ok (.aload_n 0, 1) := by decide +kernel
theorem dX6_wouldGet_26 : decode cX6_wouldGet 26 = .ok (.getfield 25, 3) := by decide +kernel
theorem dX6_wouldGet_29 : decode cX6_wouldGet 29 = .ok (.ifCond .ne 19, 3) := by decide +kernel
theorem dX6_wouldGet_32 : decode cX6_wouldGet 32 = .ok (.aload_n 0, 1) := by decide +kernel
theorem dX6_wouldGet_33 : decode cX6_wouldGet 33 = .ok (.getfield 18, 3) := by decide +kernel
theorem dX6_wouldGet_36 : decode cX6_wouldGet 36 = .ok (.iload_n 1, 1) := by decide +kernel
theorem dX6_wouldGet_37 : decode cX6_wouldGet 37 = .ok (.iload_n 2, 1) := by decide +kernel
theorem dX6_wouldGet_38 : decode cX6_wouldGet 38 = .ok (.invokevirtual 150, 3) := by decide +kernel
theorem dX6_wouldGet_41 : decode cX6_wouldGet 41 = .ok (.ifCond .eq 7, 3) := by decide +kernel
theorem dX6_wouldGet_44 : decode cX6_wouldGet 44 = .ok (.iconst 1, 1) := by decide +kernel
theorem dX6_wouldGet_45 : decode cX6_wouldGet 45 = .ok (.goto 4, 3) := by decide +kernel
theorem dX6_wouldGet_48 : decode cX6_wouldGet 48 = .ok (.iconst 0, 1) := by decide +kernel
theorem dX6_wouldGet_49 : decode cX6_wouldGet 49 = .ok (.ireturn, 1) := by decide +kernel
set_option maxRecDepth 20000 in
theorem ggX6_lasts_X6_isIn : GoodIn wsX6_lasts wsX6_isIn := goodIn_r _ [7] (by decide +kernel) (by decide +kernel)
set_option maxRecDepth 20000 in
theorem gX6_lasts_X6_isIn : GoodIn wsX6_lasts (va_wsS RX6 32 yX6_isIn wsX6_isIn) := goodIn_app (goodIn_of _ (by decide +kernel)) ggX6_lasts_X6_isIn
set_option maxRecDepth 20000 in
theorem ggX6_lasts_X6_no : GoodIn wsX6_lasts wsX6_no := goodIn_r _ [11, 1, 12, 13, 14, 15] (by decide +kernel) (by decide +kernel)
set_option maxRecDepth 20000 in
theorem gX6_lasts_X6_no : GoodIn wsX6_lasts (wsV RX6 39 RX6 yX6_no wsX6_no) := goodIn_app (goodIn_of _ (by decide +kernel)) ggX6_lasts_X6_no
theorem dX6_lasts_0 : decode cX6_lasts 0 = .ok (.aload_n 0, 1) := by decide +kernel
theorem dX6_lasts_1 : decode cX6_lasts 1 = .ok (.iconst 0, 1) := by decide +kernel
theorem dX6_lasts_2 : decode cX6_lasts 2 = .ok (.putfield 25, 3) := by decide +kernel
theorem dX6_lasts_5 : decode cX6_lasts 5 = .ok (.iload_n 1, 1) := by decide +kernel
theorem dX6_lasts_6 : decode cX6_lasts 6 = .ok (.iconst 0, 1) := by decide +kernel
theorem dX6_lasts_7 : decode cX6_lasts 7 = .ok (.aload_n 0, 1) := by decide +kernel
theorem dX6_lasts_8 : decode cX6_lasts 8 = .ok (.getfield 18, 3) := by decide +kernel
theorem dX6_lasts_11 : decode cX6_lasts 11 = .ok (.getfield 53, 3) := by decide +kernel
theorem dX6_lasts_14 : decode cX6_lasts 14 = .ok (.iconst 1, 1) := by decide +kernel
theorem dX6_lasts_15 : decode cX6_lasts 15 = .ok (.isub, 1) := by decide +kernel
theorem dX6_lasts_16 : decode cX6_lasts 16 = .ok (.invokestatic 32, 3) := by decide +kernel
theorem dX6_lasts_19 : decode cX6_lasts 19 = .ok (.ifCond .eq 13, 3) := by decide +kernel
theorem dX6_lasts_22 : decode cX6_lasts 22 = .ok (.iload_n 2, 1) := by decide +kernel
theorem dX6_lasts_23 : decode cX6_lasts 23 = .ok (.iconst 0, 1) := by decide +kernel
theorem dX6_lasts_24 : decode cX6_lasts 24 = .ok (.bipush 23, 2) := by decide +kernel
theorem dX6_lasts_26 : decode cX6_lasts 26 = .ok (.invokestatic 32, 3) := by decide +kernel
theorem dX6_lasts_29 : decode cX6_lasts 29 = .ok (.ifCond .ne 9, 3) := by decide +kernel
theorem dX6_lasts_32 : decode cX6_lasts 32 = .ok (.aload_n 0, 1) := by decide +kernel
theorem dX6_lasts_33 : decode cX6_lasts 33 = .ok (.iconst 1, 1) := by decide +kernel
theorem dX6_lasts_34 : decode cX6_lasts 34 = .ok (.invokevirtual 39, 3) := by decide +kernel
theorem dX6_lasts_37 : decode cX6_lasts 37 = .ok (.ireturn, 1) := by decide +kernel
theorem dX6_lasts_38 : decode cX6_lasts 38 = .ok (.aload_n 0, 1) := by decide +kernel
theorem dX6_lasts_39 : decode cX6_lasts 39 = .ok (.getfield 18, 3) := by decide +kernel
theorem dX6_lasts_42 : decode cX6_lasts 42 = .ok (.getfield 97, 3) := by decide +kernel
theorem dX6_lasts_45 : decode cX6_lasts 45 = .ok (.iload_n 1, 1) := by decide +kernel
theorem dX6_lasts_46 : decode cX6_lasts 46 = .ok (.iaload, 1) := by decide +kernel
theorem dX6_lasts_47 : decode cX6_lasts 47 = .ok (.istore_n 3, 1) := by decide +kernel
theorem dX6_lasts_48 : decode cX6_lasts 48 = .ok (.iconst 0, 1) := by decide +kernel
theorem dX6_lasts_49 : decode cX6_lasts 49 = .ok (.istore 4, 2) := by decide +kernel
theorem dX6_lasts_51 : decode cX6_lasts 51 = .ok (.iload 4, 2) := by decide +kernel
theorem dX6_lasts_53 : decode cX6_lasts 53 = .ok (.sipush 200, 3) := by decide +kernel
theorem dX6_lasts_56 : decode cX6_lasts 56 = .ok (.if_icmp .ge 48, 3) := by decide +kernel
theorem dX6_lasts_59 : decode cX6_lasts 59 = .ok (.aload_n 0, 1) := by decide +kernel
theorem dX6_lasts_60 : decode cX6_lasts 60 = .ok (.getfield 18, 3) := by decide +kernel
theorem dX6_lasts_63 : decode cX6_lasts 63 = .ok (.getfield 91, 3) := by decide +kernel
theorem dX6_lasts_66 : decode cX6_lasts 66 = .ok (.iload_n 1, 1) := by decide +kernel
theorem dX6_lasts_67 : decode cX6_lasts 67 = .ok (.iaload, 1) := by decide +kernel
theorem dX6_lasts_68 : decode cX6_lasts 68 = .ok (.iconst 3, 1) := by decide +kernel
theorem dX6_lasts_69 : decode cX6_lasts 69 = .ok (.if_icmp .eq 35, 3) := by decide +kernel
theorem dX6_lasts_72 : decode cX6_lasts 72 = .ok (.iload_n 3, 1) := by decide +kernel
theorem dX6_lasts_73 : decode cX6_lasts 73 = .ok (.aload_n 0, 1) := by decide +kernel
theorem dX6_lasts_74 : decode cX6_lasts 74 = .ok (.getfield 9, 3) := by decide +kernel
theorem dX6_lasts_77 : decode cX6_lasts 77 = .ok (.iload_n 2, 1) := by decide +kernel
theorem dX6_lasts_78 : decode cX6_lasts 78 = .ok (.iload 4, 2) := by decide +kernel
theorem dX6_lasts_80 : decode cX6_lasts 80 = .ok (.iadd, 1) := by decide +kernel
theorem dX6_lasts_81 : decode cX6_lasts 81 = .ok (.bipush 24, 2) := by decide +kernel
theorem dX6_lasts_83 : decode cX6_lasts 83 = .ok (.irem, 1) := by decide +kernel
theorem dX6_lasts_84 : decode cX6_lasts 84 = .ok (.iaload, 1) := by decide +kernel
theorem dX6_lasts_85 : decode cX6_lasts 85 = .ok (.iadd, 1) := by decide +kernel
theorem dX6_lasts_86 : decode cX6_lasts 86 = .ok (.istore_n 3, 1) := by decide +kernel
theorem dX6_lasts_87 : decode cX6_lasts 87 = .ok (.iload_n 3, 1) := by decide +kernel
theorem dX6_lasts_88 : decode cX6_lasts 88 = .ok (.bipush 30, 2) := by decide +kernel
theorem dX6_lasts_90 : decode cX6_lasts 90 = .ok (.if_icmp .lt 8, 3) := by decide +kernel
theorem dX6_lasts_93 : decode cX6_lasts 93 = .ok (.iload 4, 2) := by decide +kernel
theorem dX6_lasts_95 : decode cX6_lasts 95 = .ok (.iconst 1, 1) := by decide +kernel
theorem dX6_lasts_96 : decode cX6_lasts 96 = .ok (.iadd, 1) := by decide +kernel
theorem dX6_lasts_97 : decode cX6_lasts 97 = .ok (.ireturn, 1) := by decide +kernel
theorem dX6_lasts_98 : decode cX6_lasts 98 = .ok (.iinc 4 1, 3) := by decide +kernel
theorem dX6_lasts_101 : decode cX6_lasts 101 = .ok (.goto (-50), 3) := by decide +kernel
theorem dX6_lasts_104 : decode cX6_lasts 104 = .ok (.iconst (-1), 1) := by decide +kernel
theorem dX6_lasts_105 : decode cX6_lasts 105 = .ok (.ireturn, 1) := by decide +kernel
set_option maxRecDepth 20000 in
theorem ggX6_trust_X5_over : GoodIn wsX6_trust wsX5_over := goodIn_r _ [7, 8, 9, 10, 11, 16, 17, 18, 19, 20, 21, 22, 23, 24, 25, 26, 27, 28, 29, 30, 31, 32, 33, 34, 35, 36, 37] (by decide +kernel) (by decide +kernel)
set_option maxRecDepth 20000 in
theorem gX6_trust_X5_over : GoodIn wsX6_trust (wsV RX6 130 RX5 yX5_over wsX5_over) := goodIn_app (goodIn_of _ (by decide +kernel)) ggX6_trust_X5_over
theorem dX6_trust_0 : decode cX6_trust 0 = .ok (.aload_n 0, 1) := by decide +kernel
theorem dX6_trust_1 : decode cX6_trust 1 = .ok (.iconst 0, 1) := by decide +kernel
theorem dX6_trust_2 : decode cX6_trust 2 = .ok (.putfield 25, 3) := by decide +kernel
theorem dX6_trust_5 : decode cX6_trust 5 = .ok (.aload_n 0, 1) := by decide +kernel
theorem dX6_trust_6 : decode cX6_trust 6 = .ok (.getfield 18, 3) := by decide +kernel
theorem dX6_trust_9 : decode cX6_trust 9 = .ok (.getfield 36, 3) := by decide +kernel
theorem dX6_trust_12 : decode cX6_trust 12 = .ok (.ifCond .ne 7, 3) := by decide +kernel
theorem dX6_trust_15 : decode cX6_trust 15 = .ok (.dconst 0, 1) := by decide +kernel
theorem dX6_trust_16 : decode cX6_trust 16 = .ok (.goto 21, 3) := by decide +kernel
theorem dX6_trust_19 : decode cX6_trust 19 = .ok (.aload_n 0, 1) := by decide +kernel
theorem dX6_trust_20 : decode cX6_trust 20 = .ok (.getfield 18, 3) := by decide +kernel
theorem dX6_trust_23 : decode cX6_trust 23 = .ok (.iconst 1, 1) := by decide +kernel
theorem dX6_trust_24 : decode cX6_trust 24 = .ok (.invokevirtual 130, 3) := by decide +kernel
theorem dX6_trust_27 : decode cX6_trust 27 = .ok (.i2d, 1) := by decide +kernel
theorem dX6_trust_28 : decode cX6_trust 28 = .ok (.aload_n 0, 1) := by decide +kernel
theorem dX6_trust_29 : decode cX6_trust 29 = .ok (.getfield 18, 3) := by decide +kernel
theorem dX6_trust_32 : decode cX6_trust 32 = .ok (.getfield 36, 3) := by decide +kernel
theorem dX6_trust_35 : decode cX6_trust 35 = .ok (.i2d, 1) := by decide +kernel
theorem dX6_trust_36 : decode cX6_trust 36 = .ok (.ddiv, 1) := by decide +kernel
theorem dX6_trust_37 : decode cX6_trust 37 = .ok (.dreturn, 1) := by decide +kernel
set_option maxRecDepth 20000 in
theorem ggX6_digest_X6_counted : GoodIn wsX6_digest wsX6_counted := goodIn_r _ [10, 11, 5, 12, 13, 14, 15, 16, 17, 18, 19, 20, 21, 22, 23, 24, 25, 26, 49, 50, 51, 52, 53, 54, 55, 56, 57, 58, 59, 60, 61, 62, 63, 64, 65, 66, 67, 68, 69, 70, 71, 72, 73, 74] (by decide +kernel) (by decide +kernel)
set_option maxRecDepth 20000 in
theorem gX6_digest_X6_counted : GoodIn wsX6_digest (wsV RX6 136 RX6 yX6_counted wsX6_counted) := goodIn_app (goodIn_of _ (by decide +kernel)) ggX6_digest_X6_counted
set_option maxRecDepth 20000 in
theorem ggX6_digest_X6_shelterTold : GoodIn wsX6_digest wsX6_shelterTold := goodIn_r _ [30, 5, 11, 31, 32, 33, 15, 34, 17, 18, 35, 36, 37, 38, 39, 40, 49, 50, 51, 52, 53, 54, 55, 56, 57, 58, 59, 60, 61, 62, 63, 64, 65, 66, 67, 68, 69, 70, 71, 72, 73, 74] (by decide +kernel) (by decide +kernel)
set_option maxRecDepth 20000 in
theorem gX6_digest_X6_shelterTold : GoodIn wsX6_digest (wsV RX6 87 RX6 yX6_shelterTold wsX6_shelterTold) := goodIn_app (goodIn_of _ (by decide +kernel)) ggX6_digest_X6_shelterTold
set_option maxRecDepth 20000 in
theorem ggX6_digest_X6_umbrellaTold : GoodIn wsX6_digest wsX6_umbrellaTold := goodIn_r _ [44, 11, 5, 49, 50, 51, 52, 53, 54, 55, 56, 57, 58, 59, 60, 61, 62, 63, 64, 65, 66, 67, 68, 69, 70, 71, 72, 73, 74] (by decide +kernel) (by decide +kernel)
set_option maxRecDepth 20000 in
theorem gX6_digest_X6_umbrellaTold : GoodIn wsX6_digest (wsV RX6 109 RX6 yX6_umbrellaTold wsX6_umbrellaTold) := goodIn_app (goodIn_of _ (by decide +kernel)) ggX6_digest_X6_umbrellaTold
set_option maxRecDepth 20000 in
theorem ggX6_digest_X6_citizenTold : GoodIn wsX6_digest wsX6_citizenTold := goodIn_r _ [48, 11, 5, 49, 50, 51, 52, 53, 54, 55, 56, 57, 58, 59, 60, 61, 62, 63, 64, 65, 66, 67, 68, 69, 70, 71, 72, 73, 74] (by decide +kernel) (by decide +kernel)
set_option maxRecDepth 20000 in
theorem gX6_digest_X6_citizenTold : GoodIn wsX6_digest (wsV RX6 121 RX6 yX6_citizenTold wsX6_citizenTold) := goodIn_app (goodIn_of _ (by decide +kernel)) ggX6_digest_X6_citizenTold
theorem dX6_digest_0 : decode cX6_digest 0 = .ok (.aload_n 0, 1) := by decide +kernel
theorem dX6_digest_1 : decode cX6_digest 1 = .ok (.iconst 0, 1) := by decide +kernel
theorem dX6_digest_2 : decode cX6_digest 2 = .ok (.putfield 25, 3) := by decide +kernel
theorem dX6_digest_5 : decode cX6_digest 5 = .ok (.ldc2_w 154, 3) := by decide +kernel
theorem dX6_digest_8 : decode cX6_digest 8 = .ok (.lstore_n 1, 1) := by decide +kernel
theorem dX6_digest_9 : decode cX6_digest 9 = .ok (.iconst 0, 1) := by decide +kernel
theorem dX6_digest_10 : decode cX6_digest 10 = .ok (.istore_n 3, 1) := by decide +kernel
theorem dX6_digest_11 : decode cX6_digest 11 = .ok (.iload_n 3, 1) := by decide +kernel
theorem dX6_digest_12 : decode cX6_digest 12 = .ok (.bipush 11, 2) := by decide +kernel
theorem dX6_digest_14 : decode cX6_digest 14 = .ok (.if_icmp .ge 22, 3) := by decide +kernel
theorem dX6_digest_17 : decode cX6_digest 17 = .ok (.lload_n 1, 1) := by decide +kernel
theorem dX6_digest_18 : decode cX6_digest 18 = .ok (.ldc2_w 156, 3) := by decide +kernel
theorem dX6_digest_21 : decode cX6_digest 21 = .ok (.lmul, 1) := by decide +kernel
theorem dX6_digest_22 : decode cX6_digest 22 = .ok (.aload_n 0, 1) := by decide +kernel
theorem dX6_digest_23 : decode cX6_digest 23 = .ok (.iload_n 3, 1) := by decide +kernel
theorem dX6_digest_24 : decode cX6_digest 24 = .ok (.invokevirtual 136, 3) := by decide +kernel
theorem dX6_digest_27 : decode cX6_digest 27 = .ok (.i2l, 1) := by decide +kernel
theorem dX6_digest_28 : decode cX6_digest 28 = .ok (.ladd, 1) := by decide +kernel
theorem dX6_digest_29 : decode cX6_digest 29 = .ok (.lstore_n 1, 1) := by decide +kernel
theorem dX6_digest_30 : decode cX6_digest 30 = .ok (.iinc 3 1, 3) := by decide +kernel
theorem dX6_digest_33 : decode cX6_digest 33 = .ok (.goto (-22), 3) := by decide +kernel
theorem dX6_digest_36 : decode cX6_digest 36 = .ok (.iconst 0, 1) := by decide +kernel
theorem dX6_digest_37 : decode cX6_digest 37 = .ok (.istore_n 3, 1) := by decide +kernel
theorem dX6_digest_38 : decode cX6_digest 38 = .ok (.iload_n 3, 1) := by decide +kernel
theorem dX6_digest_39 : decode cX6_digest 39 = .ok (.bipush 24, 2) := by decide +kernel
theorem dX6_digest_41 : decode cX6_digest 41 = .ok (.if_icmp .ge 23, 3) := by decide +kernel
theorem dX6_digest_44 : decode cX6_digest 44 = .ok (.lload_n 1, 1) := by decide +kernel
theorem dX6_digest_45 : decode cX6_digest 45 = .ok (.ldc2_w 156, 3) := by decide +kernel
theorem dX6_digest_48 : decode cX6_digest 48 = .ok (.lmul, 1) := by decide +kernel
theorem dX6_digest_49 : decode cX6_digest 49 = .ok (.aload_n 0, 1) := by decide +kernel
theorem dX6_digest_50 : decode cX6_digest 50 = .ok (.getfield 9, 3) := by decide +kernel
theorem dX6_digest_53 : decode cX6_digest 53 = .ok (.iload_n 3, 1) := by decide +kernel
theorem dX6_digest_54 : decode cX6_digest 54 = .ok (.iaload, 1) := by decide +kernel
theorem dX6_digest_55 : decode cX6_digest 55 = .ok (.i2l, 1) := by decide +kernel
theorem dX6_digest_56 : decode cX6_digest 56 = .ok (.ladd, 1) := by decide +kernel
theorem dX6_digest_57 : decode cX6_digest 57 = .ok (.lstore_n 1, 1) := by decide +kernel
theorem dX6_digest_58 : decode cX6_digest 58 = .ok (.iinc 3 1, 3) := by decide +kernel
theorem dX6_digest_61 : decode cX6_digest 61 = .ok (.goto (-23), 3) := by decide +kernel
theorem dX6_digest_64 : decode cX6_digest 64 = .ok (.iconst 0, 1) := by decide +kernel
theorem dX6_digest_65 : decode cX6_digest 65 = .ok (.istore_n 3, 1) := by decide +kernel
theorem dX6_digest_66 : decode cX6_digest 66 = .ok (.iload_n 3, 1) := by decide +kernel
theorem dX6_digest_67 : decode cX6_digest 67 = .ok (.aload_n 0, 1) := by decide +kernel
theorem dX6_digest_68 : decode cX6_digest 68 = .ok (.getfield 18, 3) := by decide +kernel
theorem dX6_digest_71 : decode cX6_digest 71 = .ok (.getfield 29, 3) := by decide +kernel
theorem dX6_digest_74 : decode cX6_digest 74 = .ok (.if_icmp .ge 40, 3) := by decide +kernel
theorem dX6_digest_77 : decode cX6_digest 77 = .ok (.iconst 0, 1) := by decide +kernel
theorem dX6_digest_78 : decode cX6_digest 78 = .ok (.istore 4, 2) := by decide +kernel
theorem dX6_digest_80 : decode cX6_digest 80 = .ok (.iload 4, 2) := by decide +kernel
theorem dX6_digest_82 : decode cX6_digest 82 = .ok (.bipush 8, 2) := by decide +kernel
theorem dX6_digest_84 : decode cX6_digest 84 = .ok (.if_icmp .ge 24, 3) := by decide +kernel
theorem dX6_digest_87 : decode cX6_digest 87 = .ok (.lload_n 1, 1) := by decide +kernel
theorem dX6_digest_88 : decode cX6_digest 88 = .ok (.ldc2_w 156, 3) := by decide +kernel
theorem dX6_digest_91 : decode cX6_digest 91 = .ok (.lmul, 1) := by decide +kernel
theorem dX6_digest_92 : decode cX6_digest 92 = .ok (.aload_n 0, 1) := by decide +kernel
theorem dX6_digest_93 : decode cX6_digest 93 = .ok (.iload_n 3, 1) := by decide +kernel
theorem dX6_digest_94 : decode cX6_digest 94 = .ok (.iload 4, 2) := by decide +kernel
theorem dX6_digest_96 : decode cX6_digest 96 = .ok (.invokevirtual 87, 3) := by decide +kernel
theorem dX6_digest_99 : decode cX6_digest 99 = .ok (.i2l, 1) := by decide +kernel
theorem dX6_digest_100 : decode cX6_digest 100 = .ok (.ladd, 1) := by decide +kernel
theorem dX6_digest_101 : decode cX6_digest 101 = .ok (.lstore_n 1, 1) := by decide +kernel
theorem dX6_digest_102 : decode cX6_digest 102 = .ok (.iinc 4 1, 3) := by decide +kernel
theorem dX6_digest_105 : decode cX6_digest 105 = .ok (.goto (-25), 3) := by decide +kernel
theorem dX6_digest_108 : decode cX6_digest 108 = .ok (.iinc 3 1, 3) := by decide +kernel
theorem dX6_digest_111 : decode cX6_digest 111 = .ok (.goto (-45), 3) := by decide +kernel
theorem dX6_digest_114 : decode cX6_digest 114 = .ok (.iconst 0, 1) := by decide +kernel
theorem dX6_digest_115 : decode cX6_digest 115 = .ok (.istore_n 3, 1) := by decide +kernel
theorem dX6_digest_116 : decode cX6_digest 116 = .ok (.iload_n 3, 1) := by decide +kernel
theorem dX6_digest_117 : decode cX6_digest 117 = .ok (.aload_n 0, 1) := by decide +kernel
theorem dX6_digest_118 : decode cX6_digest 118 = .ok (.getfield 18, 3) := by decide +kernel
theorem dX6_digest_121 : decode cX6_digest 121 = .ok (.getfield 53, 3) := by decide +kernel
theorem dX6_digest_124 : decode cX6_digest 124 = .ok (.if_icmp .ge 40, 3) := by decide +kernel
theorem dX6_digest_127 : decode cX6_digest 127 = .ok (.iconst 0, 1) := by decide +kernel
theorem dX6_digest_128 : decode cX6_digest 128 = .ok (.istore 4, 2) := by decide +kernel
theorem dX6_digest_130 : decode cX6_digest 130 = .ok (.iload 4, 2) := by decide +kernel
theorem dX6_digest_132 : decode cX6_digest 132 = .ok (.bipush 6, 2) := by decide +kernel
theorem dX6_digest_134 : decode cX6_digest 134 = .ok (.if_icmp .ge 24, 3) := by decide +kernel
theorem dX6_digest_137 : decode cX6_digest 137 = .ok (.lload_n 1, 1) := by decide +kernel
theorem dX6_digest_138 : decode cX6_digest 138 = .ok (.ldc2_w 156, 3) := by decide +kernel
theorem dX6_digest_141 : decode cX6_digest 141 = .ok (.lmul, 1) := by decide +kernel
theorem dX6_digest_142 : decode cX6_digest 142 = .ok (.aload_n 0, 1) := by decide +kernel
theorem dX6_digest_143 : decode cX6_digest 143 = .ok (.iload_n 3, 1) := by decide +kernel
theorem dX6_digest_144 : decode cX6_digest 144 = .ok (.iload 4, 2) := by decide +kernel
theorem dX6_digest_146 : decode cX6_digest 146 = .ok (.invokevirtual 109, 3) := by decide +kernel
theorem dX6_digest_149 : decode cX6_digest 149 = .ok (.i2l, 1) := by decide +kernel
theorem dX6_digest_150 : decode cX6_digest 150 = .ok (.ladd, 1) := by decide +kernel
theorem dX6_digest_151 : decode cX6_digest 151 = .ok (.lstore_n 1, 1) := by decide +kernel
theorem dX6_digest_152 : decode cX6_digest 152 = .ok (.iinc 4 1, 3) := by decide +kernel
theorem dX6_digest_155 : decode cX6_digest 155 = .ok (.goto (-25), 3) := by decide +kernel
theorem dX6_digest_158 : decode cX6_digest 158 = .ok (.iinc 3 1, 3) := by decide +kernel
theorem dX6_digest_161 : decode cX6_digest 161 = .ok (.goto (-45), 3) := by decide +kernel
theorem dX6_digest_164 : decode cX6_digest 164 = .ok (.iconst 0, 1) := by decide +kernel
theorem dX6_digest_165 : decode cX6_digest 165 = .ok (.istore_n 3, 1) := by decide +kernel
theorem dX6_digest_166 : decode cX6_digest 166 = .ok (.iload_n 3, 1) := by decide +kernel
theorem dX6_digest_167 : decode cX6_digest 167 = .ok (.aload_n 0, 1) := by decide +kernel
theorem dX6_digest_168 : decode cX6_digest 168 = .ok (.getfield 18, 3) := by decide +kernel
theorem dX6_digest_171 : decode cX6_digest 171 = .ok (.getfield 36, 3) := by decide +kernel
theorem dX6_digest_174 : decode cX6_digest 174 = .ok (.if_icmp .ge 40, 3) := by decide +kernel
theorem dX6_digest_177 : decode cX6_digest 177 = .ok (.iconst 0, 1) := by decide +kernel
theorem dX6_digest_178 : decode cX6_digest 178 = .ok (.istore 4, 2) := by decide +kernel
theorem dX6_digest_180 : decode cX6_digest 180 = .ok (.iload 4, 2) := by decide +kernel
theorem dX6_digest_182 : decode cX6_digest 182 = .ok (.bipush 10, 2) := by decide +kernel
