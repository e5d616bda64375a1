theorem dX11_init_0 : decode cX11_init 0 = .ok (.aload_n 0, 1) := by decide +kernel
theorem dX11_init_1 : decode cX11_init 1 = .ok (.invokespecial 1, 3) := by decide +kernel
theorem dX11_init_4 : decode cX11_init 4 = .ok (.aload_n 0, 1) := by decide +kernel
theorem dX11_init_5 : decode cX11_init 5 = .ok (.iconst 4, 1) := by decide +kernel
theorem dX11_init_6 : decode cX11_init 6 = .ok (.newarray .int, 2) := by decide +kernel
theorem dX11_init_8 : decode cX11_init 8 = .ok (.dup, 1) := by decide +kernel
theorem dX11_init_9 : decode cX11_init 9 = .ok (.iconst 0, 1) := by decide +kernel
theorem dX11_init_10 : decode cX11_init 10 = .ok (.bipush (-9), 2) := by decide +kernel
theorem dX11_init_12 : decode cX11_init 12 = .ok (.iastore, 1) := by decide +kernel
theorem dX11_init_13 : decode cX11_init 13 = .ok (.dup, 1) := by decide +kernel
theorem dX11_init_14 : decode cX11_init 14 = .ok (.iconst 1, 1) := by decide +kernel
theorem dX11_init_15 : decode cX11_init 15 = .ok (.bipush (-9), 2) := by decide +kernel
theorem dX11_init_17 : decode cX11_init 17 = .ok (.iastore, 1) := by decide +kernel
theorem dX11_init_18 : decode cX11_init 18 = .ok (.dup, 1) := by decide +kernel
theorem dX11_init_19 : decode cX11_init 19 = .ok (.iconst 2, 1) := by decide +kernel
theorem dX11_init_20 : decode cX11_init 20 = .ok (.bipush (-9), 2) := by decide +kernel
theorem dX11_init_22 : decode cX11_init 22 = .ok (.iastore, 1) := by decide +kernel
theorem dX11_init_23 : decode cX11_init 23 = .ok (.dup, 1) := by decide +kernel
theorem dX11_init_24 : decode cX11_init 24 = .ok (.iconst 3, 1) := by decide +kernel
theorem dX11_init_25 : decode cX11_init 25 = .ok (.bipush (-9), 2) := by decide +kernel
theorem dX11_init_27 : decode cX11_init 27 = .ok (.iastore, 1) := by decide +kernel
theorem dX11_init_28 : decode cX11_init 28 = .ok (.putfield 9, 3) := by decide +kernel
theorem dX11_init_31 : decode cX11_init 31 = .ok (.aload_n 0, 1) := by decide +kernel
theorem dX11_init_32 : decode cX11_init 32 = .ok (.iconst 4, 1) := by decide +kernel
theorem dX11_init_33 : decode cX11_init 33 = .ok (.newarray .int, 2) := by decide +kernel
theorem dX11_init_35 : decode cX11_init 35 = .ok (.putfield 13, 3) := by decide +kernel
theorem dX11_init_38 : decode cX11_init 38 = .ok (.aload_n 0, 1) := by decide +kernel
theorem dX11_init_39 : decode cX11_init 39 = .ok (.sipush 240, 3) := by decide +kernel
theorem dX11_init_42 : decode cX11_init 42 = .ok (.newarray .int, 2) := by decide +kernel
theorem dX11_init_44 : decode cX11_init 44 = .ok (.putfield 16, 3) := by decide +kernel
theorem dX11_init_47 : decode cX11_init 47 = .ok (.aload_n 0, 1) := by decide +kernel
theorem dX11_init_48 : decode cX11_init 48 = .ok (.iconst 5, 1) := by decide +kernel
theorem dX11_init_49 : decode cX11_init 49 = .ok (.newarray .int, 2) := by decide +kernel
theorem dX11_init_51 : decode cX11_init 51 = .ok (.putfield 19, 3) := by decide +kernel
theorem dX11_init_54 : decode cX11_init 54 = .ok (.aload_n 0, 1) := by decide +kernel
theorem dX11_init_55 : decode cX11_init 55 = .ok (.iconst 5, 1) := by decide +kernel
theorem dX11_init_56 : decode cX11_init 56 = .ok (.newarray .int, 2) := by decide +kernel
theorem dX11_init_58 : decode cX11_init 58 = .ok (.putfield 22, 3) := by decide +kernel
theorem dX11_init_61 : decode cX11_init 61 = .ok (.aload_n 0, 1) := by decide +kernel
theorem dX11_init_62 : decode cX11_init 62 = .ok (.iconst 5, 1) := by decide +kernel
theorem dX11_init_63 : decode cX11_init 63 = .ok (.newarray .int, 2) := by decide +kernel
theorem dX11_init_65 : decode cX11_init 65 = .ok (.putfield 25, 3) := by decide +kernel
theorem dX11_init_68 : decode cX11_init 68 = .ok (.aload_n 0, 1) := by decide +kernel
theorem dX11_init_69 : decode cX11_init 69 = .ok (.iconst 4, 1) := by decide +kernel
theorem dX11_init_70 : decode cX11_init 70 = .ok (.newarray .int, 2) := by decide +kernel
theorem dX11_init_72 : decode cX11_init 72 = .ok (.putfield 28, 3) := by decide +kernel
theorem dX11_init_75 : decode cX11_init 75 = .ok (.aload_n 0, 1) := by decide +kernel
theorem dX11_init_76 : decode cX11_init 76 = .ok (.iconst 4, 1) := by decide +kernel
theorem dX11_init_77 : decode cX11_init 77 = .ok (.newarray .int, 2) := by decide +kernel
theorem dX11_init_79 : decode cX11_init 79 = .ok (.putfield 31, 3) := by decide +kernel
theorem dX11_init_82 : decode cX11_init 82 = .ok (.aload_n 0, 1) := by decide +kernel
theorem dX11_init_83 : decode cX11_init 83 = .ok (.iconst 4, 1) := by decide +kernel
theorem dX11_init_84 : decode cX11_init 84 = .ok (.newarray .int, 2) := by decide +kernel
theorem dX11_init_86 : decode cX11_init 86 = .ok (.putfield 34, 3) := by decide +kernel
theorem dX11_init_89 : decode cX11_init 89 = .ok (.aload_n 0, 1) := by decide +kernel
theorem dX11_init_90 : decode cX11_init 90 = .ok (.bipush (-9), 2) := by decide +kernel
theorem dX11_init_92 : decode cX11_init 92 = .ok (.putfield 37, 3) := by decide +kernel
theorem dX11_init_95 : decode cX11_init 95 = .ok (.aload_n 0, 1) := by decide +kernel
theorem dX11_init_96 : decode cX11_init 96 = .ok (.bipush 15, 2) := by decide +kernel
theorem dX11_init_98 : decode cX11_init 98 = .ok (.newarray .int, 2) := by decide +kernel
theorem dX11_init_100 : decode cX11_init 100 = .ok (.putfield 41, 3) := by decide +kernel
theorem dX11_init_103 : decode cX11_init 103 = .ok (.aload_n 0, 1) := by decide +kernel
theorem dX11_init_104 : decode cX11_init 104 = .ok (.bipush 12, 2) := by decide +kernel
theorem dX11_init_106 : decode cX11_init 106 = .ok (.newarray .int, 2) := by decide +kernel
theorem dX11_init_108 : decode cX11_init 108 = .ok (.putfield 44, 3) := by decide +kernel
theorem dX11_init_111 : decode cX11_init 111 = .ok (.aload_n 0, 1) := by decide +kernel
theorem dX11_init_112 : decode cX11_init 112 = .ok (.bipush 12, 2) := by decide +kernel
theorem dX11_init_114 : decode cX11_init 114 = .ok (.newarray .int, 2) := by decide +kernel
theorem dX11_init_116 : decode cX11_init 116 = .ok (.putfield 47, 3) := by decide +kernel
theorem dX11_init_119 : decode cX11_init 119 = .ok (.aload_n 0, 1) := by decide +kernel
theorem dX11_init_120 : decode cX11_init 120 = .ok (.bipush 12, 2) := by decide +kernel
theorem dX11_init_122 : decode cX11_init 122 = .ok (.newarray .int, 2) := by decide +kernel
theorem dX11_init_124 : decode cX11_init 124 = .ok (.putfield 50, 3) := by decide +kernel
theorem dX11_init_127 : decode cX11_init 127 = .ok (.aload_n 0, 1) := by decide +kernel
theorem dX11_init_128 : decode cX11_init 128 = .ok (.bipush 12, 2) := by decide +kernel
theorem dX11_init_130 : decode cX11_init 130 = .ok (.newarray .int, 2) := by decide +kernel
theorem dX11_init_132 : decode cX11_init 132 = .ok (.putfield 53, 3) := by decide +kernel
theorem dX11_init_135 : decode cX11_init 135 = .ok (.aload_n 0, 1) := by decide +kernel
theorem dX11_init_136 : decode cX11_init 136 = .ok (.sipush 160, 3) := by decide +kernel
theorem dX11_init_139 : decode cX11_init 139 = .ok (.newarray .int, 2) := by decide +kernel
theorem dX11_init_141 : decode cX11_init 141 = .ok (.putfield 56, 3) := by decide +kernel
theorem dX11_init_144 : decode cX11_init 144 = .ok (.aload_n 0, 1) := by decide +kernel
theorem dX11_init_145 : decode cX11_init 145 = .ok (.iconst 4, 1) := by decide +kernel
theorem dX11_init_146 : decode cX11_init 146 = .ok (.newarray .int, 2) := by decide +kernel
theorem dX11_init_148 : decode cX11_init 148 = .ok (.putfield 59, 3) := by decide +kernel
theorem dX11_init_151 : decode cX11_init 151 = .ok (.aload_n 0, 1) := by decide +kernel
theorem dX11_init_152 : decode cX11_init 152 = .ok (.iconst 4, 1) := by decide +kernel
theorem dX11_init_153 : decode cX11_init 153 = .ok (.newarray .int, 2) := by decide +kernel
theorem dX11_init_155 : decode cX11_init 155 = .ok (.putfield 62, 3) := by decide +kernel
theorem dX11_init_158 : decode cX11_init 158 = .ok (.aload_n 0, 1) := by decide +kernel
theorem dX11_init_159 : decode cX11_init 159 = .ok (.iconst 5, 1) := by decide +kernel
theorem dX11_init_160 : decode cX11_init 160 = .ok (.newarray .int, 2) := by decide +kernel
theorem dX11_init_162 : decode cX11_init 162 = .ok (.putfield 65, 3) := by decide +kernel
theorem dX11_init_165 : decode cX11_init 165 = .ok (.aload_n 0, 1) := by decide +kernel
theorem dX11_init_166 : decode cX11_init 166 = .ok (.bipush 8, 2) := by decide +kernel
theorem dX11_init_168 : decode cX11_init 168 = .ok (.newarray .int, 2) := by decide +kernel
theorem dX11_init_170 : decode cX11_init 170 = .ok (.putfield 68, 3) := by decide +kernel
theorem dX11_init_173 : decode cX11_init 173 = .ok (.aload_n 0, 1) := by decide +kernel
theorem dX11_init_174 : decode cX11_init 174 = .ok (.bipush 8, 2) := by decide +kernel
theorem dX11_init_176 : decode cX11_init 176 = .ok (.newarray .int, 2) := by decide +kernel
theorem dX11_init_178 : decode cX11_init 178 = .ok (.putfield 71, 3) := by decide +kernel
theorem dX11_init_181 : decode cX11_init 181 = .ok (.return_, 1) := by decide +kernel
theorem dX11_fails_0 : decode cX11_fails 0 = .ok (.aload_n 0, 1) := by decide +kernel
theorem dX11_fails_1 : decode cX11_fails 1 = .ok (.iload_n 1, 1) := by decide +kernel
theorem dX11_fails_2 : decode cX11_fails 2 = .ok (.putfield 74, 3) := by decide +kernel
theorem dX11_fails_5 : decode cX11_fails 5 = .ok (.bipush (-10), 2) := by decide +kernel
theorem dX11_fails_7 : decode cX11_fails 7 = .ok (.iload_n 1, 1) := by decide +kernel
theorem dX11_fails_8 : decode cX11_fails 8 = .ok (.isub, 1) := by decide +kernel
theorem dX11_fails_9 : decode cX11_fails 9 = .ok (.ireturn, 1) := by decide +kernel
theorem dX11_lost_0 : decode cX11_lost 0 = .ok (.aload_n 0, 1) := by decide +kernel
theorem dX11_lost_1 : decode cX11_lost 1 = .ok (.iload_n 1, 1) := by decide +kernel
theorem dX11_lost_2 : decode cX11_lost 2 = .ok (.putfield 74, 3) := by decide +kernel
theorem dX11_lost_5 : decode cX11_lost 5 = .ok (.ldc2_w 77, 3) := by decide +kernel
theorem dX11_lost_8 : decode cX11_lost 8 = .ok (.lreturn, 1) := by decide +kernel
theorem dX11_within_0 : decode cX11_within 0 = .ok (.iload_n 0, 1) := by decide +kernel
theorem dX11_within_1 : decode cX11_within 1 = .ok (.iload_n 1, 1) := by decide +kernel
theorem dX11_within_2 : decode cX11_within 2 = .ok (.if_icmp .lt 12, 3) := by decide +kernel
theorem dX11_within_5 : decode cX11_within 5 = .ok (.iload_n 0, 1) := by decide +kernel
theorem dX11_within_6 : decode cX11_within 6 = .ok (.iload_n 2, 1) := by decide +kernel
theorem dX11_within_7 : decode cX11_within 7 = .ok (.if_icmp .gt 7, 3) := by decide +kernel
theorem dX11_within_10 : decode cX11_within 10 = .ok (.iconst 1, 1) := by decide +kernel
theorem dX11_within_11 : decode cX11_within 11 = .ok (.goto 4, 3) := by decide +kernel
theorem dX11_within_14 : decode cX11_within 14 = .ok (.iconst 0, 1) := by decide +kernel
theorem dX11_within_15 : decode cX11_within 15 = .ok (.ireturn, 1) := by decide +kernel
set_option maxRecDepth 20000 in
theorem ggX11_isSheet_X11_within : GoodIn wsX11_isSheet wsX11_within := goodIn_r _ [4] (by decide +kernel) (by decide +kernel)
set_option maxRecDepth 20000 in
theorem gX11_isSheet_X11_within : GoodIn wsX11_isSheet (va_wsS RX11 79 yX11_within wsX11_within) := goodIn_app (goodIn_of _ (by decide +kernel)) ggX11_isSheet_X11_within
theorem dX11_isSheet_0 : decode cX11_isSheet 0 = .ok (.iload_n 0, 1) := by decide +kernel
theorem dX11_isSheet_1 : decode cX11_isSheet 1 = .ok (.iconst 0, 1) := by decide +kernel
theorem dX11_isSheet_2 : decode cX11_isSheet 2 = .ok (.iconst 3, 1) := by decide +kernel
theorem dX11_isSheet_3 : decode cX11_isSheet 3 = .ok (.invokestatic 79, 3) := by decide +kernel
theorem dX11_isSheet_6 : decode cX11_isSheet 6 = .ok (.ireturn, 1) := by decide +kernel
set_option maxRecDepth 20000 in
theorem ggX11_isSort_X11_within : GoodIn wsX11_isSort wsX11_within := goodIn_r _ [4] (by decide +kernel) (by decide +kernel)
set_option maxRecDepth 20000 in
theorem gX11_isSort_X11_within : GoodIn wsX11_isSort (va_wsS RX11 79 yX11_within wsX11_within) := goodIn_app (goodIn_of _ (by decide +kernel)) ggX11_isSort_X11_within
theorem dX11_isSort_0 : decode cX11_isSort 0 = .ok (.iload_n 0, 1) := by decide +kernel
theorem dX11_isSort_1 : decode cX11_isSort 1 = .ok (.iconst 0, 1) := by decide +kernel
theorem dX11_isSort_2 : decode cX11_isSort 2 = .ok (.iconst 2, 1) := by decide +kernel
theorem dX11_isSort_3 : decode cX11_isSort 3 = .ok (.invokestatic 79, 3) := by decide +kernel
theorem dX11_isSort_6 : decode cX11_isSort 6 = .ok (.ireturn, 1) := by decide +kernel
theorem dX11_against_0 : decode cX11_against 0 = .ok (.aload_n 0, 1) := by decide +kernel
theorem dX11_against_1 : decode cX11_against 1 = .ok (.getfield 9, 3) := by decide +kernel
theorem dX11_against_4 : decode cX11_against 4 = .ok (.iload_n 1, 1) := by decide +kernel
theorem dX11_against_5 : decode cX11_against 5 = .ok (.iaload, 1) := by decide +kernel
theorem dX11_against_6 : decode cX11_against 6 = .ok (.bipush (-9), 2) := by decide +kernel
theorem dX11_against_8 : decode cX11_against 8 = .ok (.if_icmp .eq 15, 3) := by decide +kernel
theorem dX11_against_11 : decode cX11_against 11 = .ok (.aload_n 0, 1) := by decide +kernel
theorem dX11_against_12 : decode cX11_against 12 = .ok (.getfield 9, 3) := by decide +kernel
theorem dX11_against_15 : decode cX11_against 15 = .ok (.iload_n 1, 1) := by decide +kernel
theorem dX11_against_16 : decode cX11_against 16 = .ok (.iaload, 1) := by decide +kernel
theorem dX11_against_17 : decode cX11_against 17 = .ok (.iload_n 2, 1) := by decide +kernel
theorem dX11_against_18 : decode cX11_against 18 = .ok (.if_icmp .eq 5, 3) := by decide +kernel
theorem dX11_against_21 : decode cX11_against 21 = .ok (.iconst 2, 1) := by decide +kernel
theorem dX11_against_22 : decode cX11_against 22 = .ok (.ireturn, 1) := by decide +kernel
theorem dX11_against_23 : decode cX11_against 23 = .ok (.aload_n 0, 1) := by decide +kernel
theorem dX11_against_24 : decode cX11_against 24 = .ok (.getfield 9, 3) := by decide +kernel
theorem dX11_against_27 : decode cX11_against 27 = .ok (.iload_n 1, 1) := by decide +kernel
theorem dX11_against_28 : decode cX11_against 28 = .ok (.iaload, 1) := by decide +kernel
theorem dX11_against_29 : decode cX11_against 29 = .ok (.bipush (-9), 2) := by decide +kernel
theorem dX11_against_31 : decode cX11_against 31 = .ok (.if_icmp .ne 5, 3) := by decide +kernel
theorem dX11_against_34 : decode cX11_against 34 = .ok (.iconst 1, 1) := by decide +kernel
theorem dX11_against_35 : decode cX11_against 35 = .ok (.ireturn, 1) := by decide +kernel
theorem dX11_against_36 : decode cX11_against 36 = .ok (.iload 4, 2) := by decide +kernel
theorem dX11_against_38 : decode cX11_against 38 = .ok (.ifCond .ge 5, 3) := by decide +kernel
theorem dX11_against_41 : decode cX11_against 41 = .ok (.iconst 4, 1) := by decide +kernel
theorem dX11_against_42 : decode cX11_against 42 = .ok (.ireturn, 1) := by decide +kernel
theorem dX11_against_43 : decode cX11_against 43 = .ok (.iload_n 3, 1) := by decide +kernel
theorem dX11_against_44 : decode cX11_against 44 = .ok (.ifCond .lt 26, 3) := by decide +kernel
theorem dX11_against_47 : decode cX11_against 47 = .ok (.iload_n 3, 1) := by decide +kernel
theorem dX11_against_48 : decode cX11_against 48 = .ok (.aload_n 0, 1) := by decide +kernel
theorem dX11_against_49 : decode cX11_against 49 = .ok (.getfield 13, 3) := by decide +kernel
theorem dX11_against_52 : decode cX11_against 52 = .ok (.iload_n 1, 1) := by decide +kernel
theorem dX11_against_53 : decode cX11_against 53 = .ok (.iaload, 1) := by decide +kernel
theorem dX11_against_54 : decode cX11_against 54 = .ok (.if_icmp .gt 16, 3) := by decide +kernel
theorem dX11_against_57 : decode cX11_against 57 = .ok (.iload 4, 2) := by decide +kernel
theorem dX11_against_59 : decode cX11_against 59 = .ok (.aload_n 0, 1) := by decide +kernel
theorem dX11_against_60 : decode cX11_against 60 = .ok (.getfield 13, 3) := by decide +kernel
theorem dX11_against_63 : decode cX11_against 63 = .ok (.iload_n 1, 1) := by decide +kernel
theorem dX11_against_64 : decode cX11_against 64 = .ok (.iaload, 1) := by decide +kernel
theorem dX11_against_65 : decode cX11_against 65 = .ok (.iload_n 3, 1) := by decide +kernel
theorem dX11_against_66 : decode cX11_against 66 = .ok (.isub, 1) := by decide +kernel
theorem dX11_against_67 : decode cX11_against 67 = .ok (.if_icmp .le 7, 3) := by decide +kernel
theorem dX11_against_70 : decode cX11_against 70 = .ok (.iconst 3, 1) := by decide +kernel
theorem dX11_against_71 : decode cX11_against 71 = .ok (.goto 4, 3) := by decide +kernel
theorem dX11_against_74 : decode cX11_against 74 = .ok (.iconst 0, 1) := by decide +kernel
theorem dX11_against_75 : decode cX11_against 75 = .ok (.ireturn, 1) := by decide +kernel
theorem dX11_isGate_0 : decode cX11_isGate 0 = .ok (.iload_n 1, 1) := by decide +kernel
theorem dX11_isGate_1 : decode cX11_isGate 1 = .ok (.ifCond .lt 15, 3) := by decide +kernel
theorem dX11_isGate_4 : decode cX11_isGate 4 = .ok (.iload_n 1, 1) := by decide +kernel
theorem dX11_isGate_5 : decode cX11_isGate 5 = .ok (.aload_n 0, 1) := by decide +kernel
theorem dX11_isGate_6 : decode cX11_isGate 6 = .ok (.getfield 83, 3) := by decide +kernel
theorem dX11_isGate_9 : decode cX11_isGate 9 = .ok (.if_icmp .ge 7, 3) := by decide +kernel
theorem dX11_isGate_12 : decode cX11_isGate 12 = .ok (.iconst 1, 1) := by decide +kernel
theorem dX11_isGate_13 : decode cX11_isGate 13 = .ok (.goto 4, 3) := by decide +kernel
theorem dX11_isGate_16 : decode cX11_isGate 16 = .ok (.iconst 0, 1) := by decide +kernel
theorem dX11_isGate_17 : decode cX11_isGate 17 = .ok (.ireturn, 1) := by decide +kernel
theorem dX11_isStory_0 : decode cX11_isStory 0 = .ok (.iload_n 1, 1) := by decide +kernel
theorem dX11_isStory_1 : decode cX11_isStory 1 = .ok (.ifCond .lt 15, 3) := by decide +kernel
theorem dX11_isStory_4 : decode cX11_isStory 4 = .ok (.iload_n 1, 1) := by decide +kernel
theorem dX11_isStory_5 : decode cX11_isStory 5 = .ok (.aload_n 0, 1) := by decide +kernel
theorem dX11_isStory_6 : decode cX11_isStory 6 = .ok (.getfield 86, 3) := by decide +kernel
theorem dX11_isStory_9 : decode cX11_isStory 9 = .ok (.if_icmp .ge 7, 3) := by decide +kernel
theorem dX11_isStory_12 : decode cX11_isStory 12 = .ok (.iconst 1, 1) := by decide +kernel
theorem dX11_isStory_13 : decode cX11_isStory 13 = .ok (.goto 4, 3) := by decide +kernel
theorem dX11_isStory_16 : decode cX11_isStory 16 = .ok (.iconst 0, 1) := by decide +kernel
theorem dX11_isStory_17 : decode cX11_isStory 17 = .ok (.ireturn, 1) := by decide +kernel
set_option maxRecDepth 20000 in
theorem ggX11_isDay_X11_within : GoodIn wsX11_isDay wsX11_within := goodIn_r _ [4] (by decide +kernel) (by decide +kernel)
set_option maxRecDepth 20000 in
theorem gX11_isDay_X11_within : GoodIn wsX11_isDay (va_wsS RX11 79 yX11_within wsX11_within) := goodIn_app (goodIn_of _ (by decide +kernel)) ggX11_isDay_X11_within
theorem dX11_isDay_0 : decode cX11_isDay 0 = .ok (.iload_n 0, 1) := by decide +kernel
theorem dX11_isDay_1 : decode cX11_isDay 1 = .ok (.iconst 0, 1) := by decide +kernel
theorem dX11_isDay_2 : decode cX11_isDay 2 = .ok (.bipush 7, 2) := by decide +kernel
theorem dX11_isDay_4 : decode cX11_isDay 4 = .ok (.invokestatic 79, 3) := by decide +kernel
theorem dX11_isDay_7 : decode cX11_isDay 7 = .ok (.ireturn, 1) := by decide +kernel
set_option maxRecDepth 20000 in
theorem ggX11_digit_X11_within : GoodIn wsX11_digit wsX11_within := goodIn_r _ [6] (by decide +kernel) (by decide +kernel)
set_option maxRecDepth 20000 in
theorem gX11_digit_X11_within : GoodIn wsX11_digit (va_wsS RX11 79 yX11_within wsX11_within) := goodIn_app (goodIn_of _ (by decide +kernel)) ggX11_digit_X11_within
theorem dX11_digit_0 : decode cX11_digit 0 = .ok (.aload_n 0, 1) := by decide +kernel
theorem dX11_digit_1 : decode cX11_digit 1 = .ok (.getfield 89, 3) := by decide +kernel
theorem dX11_digit_4 : decode cX11_digit 4 = .ok (.iload_n 1, 1) := by decide +kernel
theorem dX11_digit_5 : decode cX11_digit 5 = .ok (.if_icmp .ge 26, 3) := by decide +kernel
theorem dX11_digit_8 : decode cX11_digit 8 = .ok (.aload_n 0, 1) := by decide +kernel
theorem dX11_digit_9 : decode cX11_digit 9 = .ok (.getfield 16, 3) := by decide +kernel
theorem dX11_digit_12 : decode cX11_digit 12 = .ok (.aload_n 0, 1) := by decide +kernel
theorem dX11_digit_13 : decode cX11_digit 13 = .ok (.getfield 89, 3) := by decide +kernel
theorem dX11_digit_16 : decode cX11_digit 16 = .ok (.iaload, 1) := by decide +kernel
theorem dX11_digit_17 : decode cX11_digit 17 = .ok (.bipush 48, 2) := by decide +kernel
theorem dX11_digit_19 : decode cX11_digit 19 = .ok (.iload_n 2, 1) := by decide +kernel
theorem dX11_digit_20 : decode cX11_digit 20 = .ok (.iadd, 1) := by decide +kernel
theorem dX11_digit_21 : decode cX11_digit 21 = .ok (.bipush 48, 2) := by decide +kernel
theorem dX11_digit_23 : decode cX11_digit 23 = .ok (.iload_n 3, 1) := by decide +kernel
theorem dX11_digit_24 : decode cX11_digit 24 = .ok (.iadd, 1) := by decide +kernel
theorem dX11_digit_25 : decode cX11_digit 25 = .ok (.invokestatic 79, 3) := by decide +kernel
theorem dX11_digit_28 : decode cX11_digit 28 = .ok (.ifCond .ne 6, 3) := by decide +kernel
theorem dX11_digit_31 : decode cX11_digit 31 = .ok (.bipush (-9), 2) := by decide +kernel
theorem dX11_digit_33 : decode cX11_digit 33 = .ok (.ireturn, 1) := by decide +kernel
theorem dX11_digit_34 : decode cX11_digit 34 = .ok (.aload_n 0, 1) := by decide +kernel
theorem dX11_digit_35 : decode cX11_digit 35 = .ok (.dup, 1) := by decide +kernel
theorem dX11_digit_36 : decode cX11_digit 36 = .ok (.getfield 89, 3) := by decide +kernel
theorem dX11_digit_39 : decode cX11_digit 39 = .ok (.iconst 1, 1) := by decide +kernel
theorem dX11_digit_40 : decode cX11_digit 40 = .ok (.iadd, 1) := by decide +kernel
theorem dX11_digit_41 : decode cX11_digit 41 = .ok (.putfield 89, 3) := by decide +kernel
theorem dX11_digit_44 : decode cX11_digit 44 = .ok (.aload_n 0, 1) := by decide +kernel
theorem dX11_digit_45 : decode cX11_digit 45 = .ok (.getfield 16, 3) := by decide +kernel
theorem dX11_digit_48 : decode cX11_digit 48 = .ok (.aload_n 0, 1) := by decide +kernel
theorem dX11_digit_49 : decode cX11_digit 49 = .ok (.getfield 89, 3) := by decide +kernel
theorem dX11_digit_52 : decode cX11_digit 52 = .ok (.iconst 1, 1) := by decide +kernel
theorem dX11_digit_53 : decode cX11_digit 53 = .ok (.isub, 1) := by decide +kernel
theorem dX11_digit_54 : decode cX11_digit 54 = .ok (.iaload, 1) := by decide +kernel
theorem dX11_digit_55 : decode cX11_digit 55 = .ok (.bipush 48, 2) := by decide +kernel
theorem dX11_digit_57 : decode cX11_digit 57 = .ok (.isub, 1) := by decide +kernel
theorem dX11_digit_58 : decode cX11_digit 58 = .ok (.ireturn, 1) := by decide +kernel
theorem dX11_isSign_0 : decode cX11_isSign 0 = .ok (.aload_n 0, 1) := by decide +kernel
theorem dX11_isSign_1 : decode cX11_isSign 1 = .ok (.getfield 89, 3) := by decide +kernel
theorem dX11_isSign_4 : decode cX11_isSign 4 = .ok (.iload_n 1, 1) := by decide +kernel
theorem dX11_isSign_5 : decode cX11_isSign 5 = .ok (.if_icmp .ge 16, 3) := by decide +kernel
theorem dX11_isSign_8 : decode cX11_isSign 8 = .ok (.aload_n 0, 1) := by decide +kernel
theorem dX11_isSign_9 : decode cX11_isSign 9 = .ok (.getfield 16, 3) := by decide +kernel
theorem dX11_isSign_12 : decode cX11_isSign 12 = .ok (.aload_n 0, 1) := by decide +kernel
theorem dX11_isSign_13 : decode cX11_isSign 13 = .ok (.getfield 89, 3) := by decide +kernel
theorem dX11_isSign_16 : decode cX11_isSign 16 = .ok (.iaload, 1) := by decide +kernel
theorem dX11_isSign_17 : decode cX11_isSign 17 = .ok (.iload_n 2, 1) := by decide +kernel
theorem dX11_isSign_18 : decode cX11_isSign 18 = .ok (.if_icmp .eq 5, 3) := by decide +kernel
theorem dX11_isSign_21 : decode cX11_isSign 21 = .ok (.iconst 0, 1) := by decide +kernel
theorem dX11_isSign_22 : decode cX11_isSign 22 = .ok (.ireturn, 1) := by decide +kernel
theorem dX11_isSign_23 : decode cX11_isSign 23 = .ok (.aload_n 0, 1) := by decide +kernel
theorem dX11_isSign_24 : decode cX11_isSign 24 = .ok (.dup, 1) := by decide +kernel
theorem dX11_isSign_25 : decode cX11_isSign 25 = .ok (.getfield 89, 3) := by decide +kernel
theorem dX11_isSign_28 : decode cX11_isSign 28 = .ok (.iconst 1, 1) := by decide +kernel
theorem dX11_isSign_29 : decode cX11_isSign 29 = .ok (.iadd, 1) := by decide +kernel
theorem dX11_isSign_30 : decode cX11_isSign 30 = .ok (.putfield 89, 3) := by decide +kernel
theorem dX11_isSign_33 : decode cX11_isSign 33 = .ok (.iconst 1, 1) := by decide +kernel
theorem dX11_isSign_34 : decode cX11_isSign 34 = .ok (.ireturn, 1) := by decide +kernel
set_option maxRecDepth 20000 in
theorem ggX11_town_X11_isSheet : GoodIn wsX11_town wsX11_isSheet := goodIn_r _ [20, 21, 22, 19, 23] (by decide +kernel) (by decide +kernel)
set_option maxRecDepth 20000 in
theorem gX11_town_X11_isSheet : GoodIn wsX11_town (va_wsS RX11 92 yX11_isSheet wsX11_isSheet) := goodIn_app (goodIn_of _ (by decide +kernel)) ggX11_town_X11_isSheet
set_option maxRecDepth 20000 in
theorem ggX11_town_X11_isSort : GoodIn wsX11_town wsX11_isSort := goodIn_r _ [26, 21, 22, 19, 23] (by decide +kernel) (by decide +kernel)
set_option maxRecDepth 20000 in
theorem gX11_town_X11_isSort : GoodIn wsX11_town (va_wsS RX11 96 yX11_isSort wsX11_isSort) := goodIn_app (goodIn_of _ (by decide +kernel)) ggX11_town_X11_isSort
set_option maxRecDepth 20000 in
theorem ggX11_town_X11_against : GoodIn wsX11_town wsX11_against := goodIn_r _ [30, 31, 32, 58, 59, 60, 61, 62, 63, 64, 65, 66, 67, 68, 69, 70, 71, 72, 73, 74, 75, 76, 77, 78, 79, 80, 81, 82, 83, 84, 85, 86, 87, 88, 89, 90, 91] (by decide +kernel) (by decide +kernel)
set_option maxRecDepth 20000 in
theorem gX11_town_X11_against : GoodIn wsX11_town (wsV RX11 99 RX11 yX11_against wsX11_against) := goodIn_app (goodIn_of _ (by decide +kernel)) ggX11_town_X11_against
set_option maxRecDepth 20000 in
theorem ggX11_town_X11_fails : GoodIn wsX11_town wsX11_fails := goodIn_r _ [36, 1, 58, 59, 60, 61, 62, 63, 64, 65, 66, 67, 68, 69, 70, 71, 72, 73, 74, 75, 76, 77, 78, 79, 80, 81, 82, 83, 84, 85, 86, 87, 88, 89, 90, 91] (by decide +kernel) (by decide +kernel)
set_option maxRecDepth 20000 in
theorem gX11_town_X11_fails : GoodIn wsX11_town (wsV RX11 103 RX11 yX11_fails wsX11_fails) := goodIn_app (goodIn_of _ (by decide +kernel)) ggX11_town_X11_fails
set_option maxRecDepth 20000 in
theorem ggX11_town_X11_readTown : GoodIn wsX11_town wsX11_readTown := goodIn_r _ [40, 3, 5, 2, 41, 42, 43, 19, 44, 45, 46, 47, 48, 49, 9, 50, 51, 52, 53, 21, 22, 23, 54, 55, 56, 57, 13, 58, 59, 60, 61, 62, 63, 64, 65, 66, 67, 68, 69, 70, 71, 72, 73, 74, 75, 76, 77, 78, 79, 80, 81, 82, 83, 84, 85, 86, 87, 88, 89, 90, 91] (by decide +kernel) (by decide +kernel)
set_option maxRecDepth 20000 in
theorem gX11_town_X11_readTown : GoodIn wsX11_town (wsV RX11 107 RX11 yX11_readTown wsX11_readTown) := goodIn_app (goodIn_of _ (by decide +kernel)) ggX11_town_X11_readTown
theorem dX11_town_0 : decode cX11_town 0 = .ok (.aload_n 0, 1) := by decide +kernel
theorem dX11_town_1 : decode cX11_town 1 = .ok (.iconst 0, 1) := by decide +kernel
theorem dX11_town_2 : decode cX11_town 2 = .ok (.putfield 74, 3) := by decide +kernel
theorem dX11_town_5 : decode cX11_town 5 = .ok (.iload_n 1, 1) := by decide +kernel
theorem dX11_town_6 : decode cX11_town 6 = .ok (.invokestatic 92, 3) := by decide +kernel
theorem dX11_town_9 : decode cX11_town 9 = .ok (.ifCond .ne 5, 3) := by decide +kernel
theorem dX11_town_12 : decode cX11_town 12 = .ok (.iconst (-1), 1) := by decide +kernel
theorem dX11_town_13 : decode cX11_town 13 = .ok (.ireturn, 1) := by decide +kernel
theorem dX11_town_14 : decode cX11_town 14 = .ok (.iload_n 2, 1) := by decide +kernel
theorem dX11_town_15 : decode cX11_town 15 = .ok (.invokestatic 96, 3) := by decide +kernel
theorem dX11_town_18 : decode cX11_town 18 = .ok (.ifCond .ne 6, 3) := by decide +kernel
theorem dX11_town_21 : decode cX11_town 21 = .ok (.bipush (-2), 2) := by decide +kernel
theorem dX11_town_23 : decode cX11_town 23 = .ok (.ireturn, 1) := by decide +kernel
theorem dX11_town_24 : decode cX11_town 24 = .ok (.aload_n 0, 1) := by decide +kernel
theorem dX11_town_25 : decode cX11_town 25 = .ok (.iload_n 1, 1) := by decide +kernel
theorem dX11_town_26 : decode cX11_town 26 = .ok (.iload_n 2, 1) := by decide +kernel
theorem dX11_town_27 : decode cX11_town 27 = .ok (.iload_n 3, 1) := by decide +kernel
theorem dX11_town_28 : decode cX11_town 28 = .ok (.iload 4, 2) := by decide +kernel
theorem dX11_town_30 : decode cX11_town 30 = .ok (.invokevirtual 99, 3) := by decide +kernel
theorem dX11_town_33 : decode cX11_town 33 = .ok (.istore 5, 2) := by decide +kernel
theorem dX11_town_35 : decode cX11_town 35 = .ok (.iload 5, 2) := by decide +kernel
theorem dX11_town_37 : decode cX11_town 37 = .ok (.ifCond .eq 10, 3) := by decide +kernel
theorem dX11_town_40 : decode cX11_town 40 = .ok (.aload_n 0, 1) := by decide +kernel
theorem dX11_town_41 : decode cX11_town 41 = .ok (.iload 5, 2) := by decide +kernel
theorem dX11_town_43 : decode cX11_town 43 = .ok (.invokevirtual 103, 3) := by decide +kernel
theorem dX11_town_46 : decode cX11_town 46 = .ok (.ireturn, 1) := by decide +kernel
theorem dX11_town_47 : decode cX11_town 47 = .ok (.bipush 60, 2) := by decide +kernel
theorem dX11_town_49 : decode cX11_town 49 = .ok (.iload_n 1, 1) := by decide +kernel
theorem dX11_town_50 : decode cX11_town 50 = .ok (.imul, 1) := by decide +kernel
theorem dX11_town_51 : decode cX11_town 51 = .ok (.iload_n 3, 1) := by decide +kernel
theorem dX11_town_52 : decode cX11_town 52 = .ok (.iadd, 1) := by decide +kernel
theorem dX11_town_53 : decode cX11_town 53 = .ok (.istore 6, 2) := by decide +kernel
theorem dX11_town_55 : decode cX11_town 55 = .ok (.aload_n 0, 1) := by decide +kernel
theorem dX11_town_56 : decode cX11_town 56 = .ok (.iload 6, 2) := by decide +kernel
theorem dX11_town_58 : decode cX11_town 58 = .ok (.putfield 89, 3) := by decide +kernel
theorem dX11_town_61 : decode cX11_town 61 = .ok (.aload_n 0, 1) := by decide +kernel
theorem dX11_town_62 : decode cX11_town 62 = .ok (.iload 6, 2) := by decide +kernel
theorem dX11_town_64 : decode cX11_town 64 = .ok (.iload 4, 2) := by decide +kernel
theorem dX11_town_66 : decode cX11_town 66 = .ok (.iadd, 1) := by decide +kernel
theorem dX11_town_67 : decode cX11_town 67 = .ok (.invokevirtual 107, 3) := by decide +kernel
theorem dX11_town_70 : decode cX11_town 70 = .ok (.ifCond .ne 14, 3) := by decide +kernel
theorem dX11_town_73 : decode cX11_town 73 = .ok (.bipush (-100), 2) := by decide +kernel
theorem dX11_town_75 : decode cX11_town 75 = .ok (.aload_n 0, 1) := by decide +kernel
theorem dX11_town_76 : decode cX11_town 76 = .ok (.getfield 89, 3) := by decide +kernel
theorem dX11_town_79 : decode cX11_town 79 = .ok (.iload 6, 2) := by decide +kernel
theorem dX11_town_81 : decode cX11_town 81 = .ok (.isub, 1) := by decide +kernel
theorem dX11_town_82 : decode cX11_town 82 = .ok (.isub, 1) := by decide +kernel
theorem dX11_town_83 : decode cX11_town 83 = .ok (.ireturn, 1) := by decide +kernel
theorem dX11_town_84 : decode cX11_town 84 = .ok (.aload_n 0, 1) := by decide +kernel
theorem dX11_town_85 : decode cX11_town 85 = .ok (.aload_n 0, 1) := by decide +kernel
theorem dX11_town_86 : decode cX11_town 86 = .ok (.getfield 110, 3) := by decide +kernel
theorem dX11_town_89 : decode cX11_town 89 = .ok (.putfield 83, 3) := by decide +kernel
theorem dX11_town_92 : decode cX11_town 92 = .ok (.aload_n 0, 1) := by decide +kernel
theorem dX11_town_93 : decode cX11_town 93 = .ok (.aload_n 0, 1) := by decide +kernel
theorem dX11_town_94 : decode cX11_town 94 = .ok (.getfield 113, 3) := by decide +kernel
theorem dX11_town_97 : decode cX11_town 97 = .ok (.putfield 86, 3) := by decide +kernel
theorem dX11_town_100 : decode cX11_town 100 = .ok (.aload_n 0, 1) := by decide +kernel
theorem dX11_town_101 : decode cX11_town 101 = .ok (.iconst 0, 1) := by decide +kernel
theorem dX11_town_102 : decode cX11_town 102 = .ok (.putfield 116, 3) := by decide +kernel
theorem dX11_town_105 : decode cX11_town 105 = .ok (.iconst 0, 1) := by decide +kernel
theorem dX11_town_106 : decode cX11_town 106 = .ok (.istore 7, 2) := by decide +kernel
theorem dX11_town_108 : decode cX11_town 108 = .ok (.iload 7, 2) := by decide +kernel
theorem dX11_town_110 : decode cX11_town 110 = .ok (.aload_n 0, 1) := by decide +kernel
theorem dX11_town_111 : decode cX11_town 111 = .ok (.getfield 83, 3) := by decide +kernel
theorem dX11_town_114 : decode cX11_town 114 = .ok (.if_icmp .ge 61, 3) := by decide +kernel
theorem dX11_town_117 : decode cX11_town 117 = .ok (.aload_n 0, 1) := by decide +kernel
theorem dX11_town_118 : decode cX11_town 118 = .ok (.getfield 19, 3) := by decide +kernel
theorem dX11_town_121 : decode cX11_town 121 = .ok (.iload 7, 2) := by decide +kernel
theorem dX11_town_123 : decode cX11_town 123 = .ok (.aload_n 0, 1) := by decide +kernel
theorem dX11_town_124 : decode cX11_town 124 = .ok (.getfield 41, 3) := by decide +kernel
theorem dX11_town_127 : decode cX11_town 127 = .ok (.iconst 3, 1) := by decide +kernel
theorem dX11_town_128 : decode cX11_town 128 = .ok (.iload 7, 2) := by decide +kernel
theorem dX11_town_130 : decode cX11_town 130 = .ok (.imul, 1) := by decide +kernel
theorem dX11_town_131 : decode cX11_town 131 = .ok (.iaload, 1) := by decide +kernel
theorem dX11_town_132 : decode cX11_town 132 = .ok (.iastore, 1) := by decide +kernel
theorem dX11_town_133 : decode cX11_town 133 = .ok (.aload_n 0, 1) := by decide +kernel
theorem dX11_town_134 : decode cX11_town 134 = .ok (.getfield 22, 3) := by decide +kernel
theorem dX11_town_137 : decode cX11_town 137 = .ok (.iload 7, 2) := by decide +kernel
theorem dX11_town_139 : decode cX11_town 139 = .ok (.aload_n 0, 1) := by decide +kernel
theorem dX11_town_140 : decode cX11_town 140 = .ok (.getfield 41, 3) := by decide +kernel
theorem dX11_town_143 : decode cX11_town 143 = .ok (.iconst 3, 1) := by decide +kernel
theorem dX11_town_144 : decode cX11_town 144 = .ok (.iload 7, 2) := by decide +kernel
theorem dX11_town_146 : decode cX11_town 146 = .ok (.imul, 1) := by decide +kernel
theorem dX11_town_147 : decode cX11_town 147 = .ok (.iconst 1, 1) := by decide +kernel
theorem dX11_town_148 : decode cX11_town 148 = .ok (.iadd, 1) := by decide +kernel
theorem dX11_town_149 : decode cX11_town 149 = .ok (.iaload, 1) := by decide +kernel
theorem dX11_town_150 : decode cX11_town 150 = .ok (.iastore, 1) := by decide +kernel
theorem dX11_town_151 : decode cX11_town 151 = .ok (.aload_n 0, 1) := by decide +kernel
theorem dX11_town_152 : decode cX11_town 152 = .ok (.getfield 25, 3) := by decide +kernel
theorem dX11_town_155 : decode cX11_town 155 = .ok (.iload 7, 2) := by decide +kernel
theorem dX11_town_157 : decode cX11_town 157 = .ok (.aload_n 0, 1) := by decide +kernel
theorem dX11_town_158 : decode cX11_town 158 = .ok (.getfield 41, 3) := by decide +kernel
theorem dX11_town_161 : decode cX11_town 161 = .ok (.iconst 3, 1) := by decide +kernel
theorem dX11_town_162 : decode cX11_town 162 = .ok (.iload 7, 2) := by decide +kernel
theorem dX11_town_164 : decode cX11_town 164 = .ok (.imul, 1) := by decide +kernel
theorem dX11_town_165 : decode cX11_town 165 = .ok (.iconst 2, 1) := by decide +kernel
theorem dX11_town_166 : decode cX11_town 166 = .ok (.iadd, 1) := by decide +kernel
theorem dX11_town_167 : decode cX11_town 167 = .ok (.iaload, 1) := by decide +kernel
theorem dX11_town_168 : decode cX11_town 168 = .ok (.iastore, 1) := by decide +kernel
theorem dX11_town_169 : decode cX11_town 169 = .ok (.iinc 7 1, 3) := by decide +kernel
theorem dX11_town_172 : decode cX11_town 172 = .ok (.goto (-64), 3) := by decide +kernel
theorem dX11_town_175 : decode cX11_town 175 = .ok (.iconst 0, 1) := by decide +kernel
theorem dX11_town_176 : decode cX11_town 176 = .ok (.istore 7, 2) := by decide +kernel
theorem dX11_town_178 : decode cX11_town 178 = .ok (.iload 7, 2) := by decide +kernel
theorem dX11_town_180 : decode cX11_town 180 = .ok (.aload_n 0, 1) := by decide +kernel
theorem dX11_town_181 : decode cX11_town 181 = .ok (.getfield 86, 3) := by decide +kernel
theorem dX11_town_184 : decode cX11_town 184 = .ok (.if_icmp .ge 61, 3) := by decide +kernel
theorem dX11_town_187 : decode cX11_town 187 = .ok (.aload_n 0, 1) := by decide +kernel
theorem dX11_town_188 : decode cX11_town 188 = .ok (.getfield 28, 3) := by decide +kernel
theorem dX11_town_191 : decode cX11_town 191 = .ok (.iload 7, 2) := by decide +kernel
theorem dX11_town_193 : decode cX11_town 193 = .ok (.aload_n 0, 1) := by decide +kernel
theorem dX11_town_194 : decode cX11_town 194 = .ok (.getfield 44, 3) := by decide +kernel
theorem dX11_town_197 : decode cX11_town 197 = .ok (.iconst 3, 1) := by decide +kernel
theorem dX11_town_198 : decode cX11_town 198 = .ok (.iload 7, 2) := by decide +kernel
theorem dX11_town_200 : decode cX11_town 200 = .ok (.imul, 1) := by decide +kernel
theorem dX11_town_201 : decode cX11_town 201 = .ok (.iaload, 1) := by decide +kernel
theorem dX11_town_202 : decode cX11_town 202 = .ok (.iastore, 1) := by decide +kernel
theorem dX11_town_203 : decode cX11_town 203 = .ok (.aload_n 0, 1) := by decide +kernel
theorem dX11_town_204 : decode cX11_town 204 = .ok (.getfield 31, 3) := by decide +kernel
theorem dX11_town_207 : decode cX11_town 207 = .ok (.iload 7, 2) := by decide +kernel
theorem dX11_town_209 : decode cX11_town 209 = .ok (.aload_n 0, 1) := by decide +kernel
theorem dX11_town_210 : decode cX11_town 210 = .ok (.getfield 44, 3) := by decide +kernel
theorem dX11_town_213 : decode cX11_town 213 = .ok (.iconst 3, 1) := by decide +kernel
theorem dX11_town_214 : decode cX11_town 214 = .ok (.iload 7, 2) := by decide +kernel
theorem dX11_town_216 : decode cX11_town 216 = .ok (.imul, 1) := by decide +kernel
theorem dX11_town_217 : decode cX11_town 217 = .ok (.iconst 1, 1) := by decide +kernel
theorem dX11_town_218 : decode cX11_town 218 = .ok (.iadd, 1) := by decide +kernel
theorem dX11_town_219 : decode cX11_town 219 = .ok (.iaload, 1) := by decide +kernel
theorem dX11_town_220 : decode cX11_town 220 = .ok (.iastore, 1) := by decide +kernel
theorem dX11_town_221 : decode cX11_town 221 = .ok (.aload_n 0, 1) := by decide +kernel
theorem dX11_town_222 : decode cX11_town 222 = .ok (.getfield 34, 3) := by decide +kernel
theorem dX11_town_225 : decode cX11_town 225 = .ok (.iload 7, 2) := by decide +kernel
theorem dX11_town_227 : decode cX11_town 227 = .ok (.aload_n 0, 1) := by decide +kernel
theorem dX11_town_228 : decode cX11_town 228 = .ok (.getfield 44, 3) := by decide +kernel
theorem dX11_town_231 : decode cX11_town 231 = .ok (.iconst 3, 1) := by decide +kernel
theorem dX11_town_232 : decode cX11_town 232 = .ok (.iload 7, 2) := by decide +kernel
theorem dX11_town_234 : decode cX11_town 234 = .ok (.imul, 1) := by decide +kernel
theorem dX11_town_235 : decode cX11_town 235 = .ok (.iconst 2, 1) := by decide +kernel
theorem dX11_town_236 : decode cX11_town 236 = .ok (.iadd, 1) := by decide +kernel
theorem dX11_town_237 : decode cX11_town 237 = .ok (.iaload, 1) := by decide +kernel
theorem dX11_town_238 : decode cX11_town 238 = .ok (.iastore, 1) := by decide +kernel
theorem dX11_town_239 : decode cX11_town 239 = .ok (.iinc 7 1, 3) := by decide +kernel
theorem dX11_town_242 : decode cX11_town 242 = .ok (.goto (-64), 3) := by decide +kernel
theorem dX11_town_245 : decode cX11_town 245 = .ok (.aload_n 0, 1) := by decide +kernel
theorem dX11_town_246 : decode cX11_town 246 = .ok (.iconst 0, 1) := by decide +kernel
theorem dX11_town_247 : decode cX11_town 247 = .ok (.putfield 119, 3) := by decide +kernel
theorem dX11_town_250 : decode cX11_town 250 = .ok (.aload_n 0, 1) := by decide +kernel
theorem dX11_town_251 : decode cX11_town 251 = .ok (.getfield 86, 3) := by decide +kernel
theorem dX11_town_254 : decode cX11_town 254 = .ok (.ireturn, 1) := by decide +kernel
set_option maxRecDepth 20000 in
theorem ggX11_readTown_X11_isSign : GoodIn wsX11_readTown wsX11_isSign := goodIn_r _ [8, 3, 9, 27, 28, 29, 30, 31, 32, 33, 34, 35, 36, 37, 38, 39, 40, 41, 42, 43, 44, 45, 46, 47, 48, 49, 50, 51, 52, 53, 54, 55, 56, 57, 58, 59, 60] (by decide +kernel) (by decide +kernel)
set_option maxRecDepth 20000 in
theorem gX11_readTown_X11_isSign : GoodIn wsX11_readTown (wsV RX11 122 RX11 yX11_isSign wsX11_isSign) := goodIn_app (goodIn_of _ (by decide +kernel)) ggX11_readTown_X11_isSign
set_option maxRecDepth 20000 in
theorem ggX11_readTown_X11_readOneGate : GoodIn wsX11_readTown wsX11_readOneGate := goodIn_r _ [13, 1, 3, 9, 14, 15, 16, 17, 7, 18, 19, 20, 21, 27, 28, 29, 30, 31, 32, 33, 34, 35, 36, 37, 38, 39, 40, 41, 42, 43, 44, 45, 46, 47, 48, 49, 50, 51, 52, 53, 54, 55, 56, 57, 58, 59, 60] (by decide +kernel) (by decide +kernel)
set_option maxRecDepth 20000 in
theorem gX11_readTown_X11_readOneGate : GoodIn wsX11_readTown (wsV RX11 126 RX11 yX11_readOneGate wsX11_readOneGate) := goodIn_app (goodIn_of _ (by decide +kernel)) ggX11_readTown_X11_readOneGate
set_option maxRecDepth 20000 in
theorem ggX11_readTown_X11_readOneStory : GoodIn wsX11_readTown wsX11_readOneStory := goodIn_r _ [25, 2, 26, 15, 16, 17, 7, 18, 3, 9, 19, 20, 21, 27, 28, 29, 30, 31, 32, 33, 34, 35, 36, 37, 38, 39, 40, 41, 42, 43, 44, 45, 46, 47, 48, 49, 50, 51, 52, 53, 54, 55, 56, 57, 58, 59, 60] (by decide +kernel) (by decide +kernel)
set_option maxRecDepth 20000 in
theorem gX11_readTown_X11_readOneStory : GoodIn wsX11_readTown (wsV RX11 129 RX11 yX11_readOneStory wsX11_readOneStory) := goodIn_app (goodIn_of _ (by decide +kernel)) ggX11_readTown_X11_readOneStory
theorem dX11_readTown_0 : decode cX11_readTown 0 = .ok (.aload_n 0, 1) := by decide +kernel
theorem dX11_readTown_1 : decode cX11_readTown 1 = .ok (.iconst 0, 1) := by decide +kernel
theorem dX11_readTown_2 : decode cX11_readTown 2 = .ok (.putfield 110, 3) := by decide +kernel
theorem dX11_readTown_5 : decode cX11_readTown 5 = .ok (.aload_n 0, 1) := by decide +kernel
theorem dX11_readTown_6 : decode cX11_readTown 6 = .ok (.iconst 0, 1) := by decide +kernel
theorem dX11_readTown_7 : decode cX11_readTown 7 = .ok (.putfield 113, 3) := by decide +kernel
theorem dX11_readTown_10 : decode cX11_readTown 10 = .ok (.aload_n 0, 1) := by decide +kernel
theorem dX11_readTown_11 : decode cX11_readTown 11 = .ok (.iload_n 1, 1) := by decide +kernel
theorem dX11_readTown_12 : decode cX11_readTown 12 = .ok (.bipush 106, 2) := by decide +kernel
theorem dX11_readTown_14 : decode cX11_readTown 14 = .ok (.invokevirtual 122, 3) := by decide +kernel
theorem dX11_readTown_17 : decode cX11_readTown 17 = .ok (.ifCond .eq 21, 3) := by decide +kernel
theorem dX11_readTown_20 : decode cX11_readTown 20 = .ok (.aload_n 0, 1) := by decide +kernel
theorem dX11_readTown_21 : decode cX11_readTown 21 = .ok (.iload_n 1, 1) := by decide +kernel
theorem dX11_readTown_22 : decode cX11_readTown 22 = .ok (.bipush 44, 2) := by decide +kernel
theorem dX11_readTown_24 : decode cX11_readTown 24 = .ok (.invokevirtual 122, 3) := by decide +kernel
theorem dX11_readTown_27 : decode cX11_readTown 27 = .ok (.ifCond .eq 11, 3) := by decide +kernel
theorem dX11_readTown_30 : decode cX11_readTown 30 = .ok (.aload_n 0, 1) := by decide +kernel
theorem dX11_readTown_31 : decode cX11_readTown 31 = .ok (.iload_n 1, 1) := by decide +kernel
theorem dX11_readTown_32 : decode cX11_readTown 32 = .ok (.invokevirtual 126, 3) := by decide +kernel
theorem dX11_readTown_35 : decode cX11_readTown 35 = .ok (.ifCond .ne 5, 3) := by decide +kernel
theorem dX11_readTown_38 : decode cX11_readTown 38 = .ok (.iconst 0, 1) := by decide +kernel
theorem dX11_readTown_39 : decode cX11_readTown 39 = .ok (.ireturn, 1) := by decide +kernel
theorem dX11_readTown_40 : decode cX11_readTown 40 = .ok (.aload_n 0, 1) := by decide +kernel
theorem dX11_readTown_41 : decode cX11_readTown 41 = .ok (.getfield 110, 3) := by decide +kernel
theorem dX11_readTown_44 : decode cX11_readTown 44 = .ok (.iconst 5, 1) := by decide +kernel
theorem dX11_readTown_45 : decode cX11_readTown 45 = .ok (.if_icmp .ge 23, 3) := by decide +kernel
theorem dX11_readTown_48 : decode cX11_readTown 48 = .ok (.aload_n 0, 1) := by decide +kernel
theorem dX11_readTown_49 : decode cX11_readTown 49 = .ok (.iload_n 1, 1) := by decide +kernel
theorem dX11_readTown_50 : decode cX11_readTown 50 = .ok (.bipush 44, 2) := by decide +kernel
theorem dX11_readTown_52 : decode cX11_readTown 52 = .ok (.invokevirtual 122, 3) := by decide +kernel
theorem dX11_readTown_55 : decode cX11_readTown 55 = .ok (.ifCond .eq 13, 3) := by decide +kernel
theorem dX11_readTown_58 : decode cX11_readTown 58 = .ok (.aload_n 0, 1) := by decide +kernel
theorem dX11_readTown_59 : decode cX11_readTown 59 = .ok (.iload_n 1, 1) := by decide +kernel
theorem dX11_readTown_60 : decode cX11_readTown 60 = .ok (.invokevirtual 126, 3) := by decide +kernel
theorem dX11_readTown_63 : decode cX11_readTown 63 = .ok (.ifCond .ne (-23), 3) := by decide +kernel
theorem dX11_readTown_66 : decode cX11_readTown 66 = .ok (.iconst 0, 1) := by decide +kernel
theorem dX11_readTown_67 : decode cX11_readTown 67 = .ok (.ireturn, 1) := by decide +kernel
theorem dX11_readTown_68 : decode cX11_readTown 68 = .ok (.aload_n 0, 1) := by decide +kernel
theorem dX11_readTown_69 : decode cX11_readTown 69 = .ok (.iload_n 1, 1) := by decide +kernel
theorem dX11_readTown_70 : decode cX11_readTown 70 = .ok (.bipush 59, 2) := by decide +kernel
theorem dX11_readTown_72 : decode cX11_readTown 72 = .ok (.invokevirtual 122, 3) := by decide +kernel
theorem dX11_readTown_75 : decode cX11_readTown 75 = .ok (.ifCond .eq 11, 3) := by decide +kernel
theorem dX11_readTown_78 : decode cX11_readTown 78 = .ok (.aload_n 0, 1) := by decide +kernel
theorem dX11_readTown_79 : decode cX11_readTown 79 = .ok (.iload_n 1, 1) := by decide +kernel
theorem dX11_readTown_80 : decode cX11_readTown 80 = .ok (.invokevirtual 129, 3) := by decide +kernel
theorem dX11_readTown_83 : decode cX11_readTown 83 = .ok (.ifCond .ne 5, 3) := by decide +kernel
theorem dX11_readTown_86 : decode cX11_readTown 86 = .ok (.iconst 0, 1) := by decide +kernel
theorem dX11_readTown_87 : decode cX11_readTown 87 = .ok (.ireturn, 1) := by decide +kernel
theorem dX11_readTown_88 : decode cX11_readTown 88 = .ok (.aload_n 0, 1) := by decide +kernel
theorem dX11_readTown_89 : decode cX11_readTown 89 = .ok (.getfield 113, 3) := by decide +kernel
theorem dX11_readTown_92 : decode cX11_readTown 92 = .ok (.iconst 4, 1) := by decide +kernel
theorem dX11_readTown_93 : decode cX11_readTown 93 = .ok (.if_icmp .ge 23, 3) := by decide +kernel
theorem dX11_readTown_96 : decode cX11_readTown 96 = .ok (.aload_n 0, 1) := by decide +kernel
theorem dX11_readTown_97 : decode cX11_readTown 97 = .ok (.iload_n 1, 1) := by decide +kernel
theorem dX11_readTown_98 : decode cX11_readTown 98 = .ok (.bipush 59, 2) := by decide +kernel
theorem dX11_readTown_100 : decode cX11_readTown 100 = .ok (.invokevirtual 122, 3) := by decide +kernel
theorem dX11_readTown_103 : decode cX11_readTown 103 = .ok (.ifCond .eq 13, 3) := by decide +kernel
theorem dX11_readTown_106 : decode cX11_readTown 106 = .ok (.aload_n 0, 1) := by decide +kernel
theorem dX11_readTown_107 : decode cX11_readTown 107 = .ok (.iload_n 1, 1) := by decide +kernel
theorem dX11_readTown_108 : decode cX11_readTown 108 = .ok (.invokevirtual 129, 3) := by decide +kernel
theorem dX11_readTown_111 : decode cX11_readTown 111 = .ok (.ifCond .ne (-23), 3) := by decide +kernel
theorem dX11_readTown_114 : decode cX11_readTown 114 = .ok (.iconst 0, 1) := by decide +kernel
theorem dX11_readTown_115 : decode cX11_readTown 115 = .ok (.ireturn, 1) := by decide +kernel
theorem dX11_readTown_116 : decode cX11_readTown 116 = .ok (.aload_n 0, 1) := by decide +kernel
theorem dX11_readTown_117 : decode cX11_readTown 117 = .ok (.getfield 89, 3) := by decide +kernel
theorem dX11_readTown_120 : decode cX11_readTown 120 = .ok (.iload_n 1, 1) := by decide +kernel
theorem dX11_readTown_121 : decode cX11_readTown 121 = .ok (.if_icmp .ne 7, 3) := by decide +kernel
theorem dX11_readTown_124 : decode cX11_readTown 124 = .ok (.iconst 1, 1) := by decide +kernel
theorem dX11_readTown_125 : decode cX11_readTown 125 = .ok (.goto 4, 3) := by decide +kernel
theorem dX11_readTown_128 : decode cX11_readTown 128 = .ok (.iconst 0, 1) := by decide +kernel
theorem dX11_readTown_129 : decode cX11_readTown 129 = .ok (.ireturn, 1) := by decide +kernel
set_option maxRecDepth 20000 in
theorem ggX11_readOneGate_X11_digit : GoodIn wsX11_readOneGate wsX11_digit := goodIn_r _ [9, 2, 3, 10, 11, 8, 12, 13, 14, 15, 16, 17, 18, 19, 20, 21, 22, 23, 24, 25, 26, 27, 28, 29, 30, 31, 32, 33, 34, 35, 36, 37, 38, 39, 40, 41, 42, 43, 44, 45, 46] (by decide +kernel) (by decide +kernel)
set_option maxRecDepth 20000 in
theorem gX11_readOneGate_X11_digit : GoodIn wsX11_readOneGate (wsV RX11 132 RX11 yX11_digit wsX11_digit) := goodIn_app (goodIn_of _ (by decide +kernel)) ggX11_readOneGate_X11_digit
theorem dX11_readOneGate_0 : decode cX11_readOneGate 0 = .ok (.iconst 3, 1) := by decide +kernel
theorem dX11_readOneGate_1 : decode cX11_readOneGate 1 = .ok (.aload_n 0, 1) := by decide +kernel
theorem dX11_readOneGate_2 : decode cX11_readOneGate 2 = .ok (.getfield 110, 3) := by decide +kernel
theorem dX11_readOneGate_5 : decode cX11_readOneGate 5 = .ok (.imul, 1) := by decide +kernel
theorem dX11_readOneGate_6 : decode cX11_readOneGate 6 = .ok (.istore_n 2, 1) := by decide +kernel
theorem dX11_readOneGate_7 : decode cX11_readOneGate 7 = .ok (.aload_n 0, 1) := by decide +kernel
theorem dX11_readOneGate_8 : decode cX11_readOneGate 8 = .ok (.getfield 89, 3) := by decide +kernel
theorem dX11_readOneGate_11 : decode cX11_readOneGate 11 = .ok (.iload_n 1, 1) := by decide +kernel
theorem dX11_readOneGate_12 : decode cX11_readOneGate 12 = .ok (.if_icmp .ge 15, 3) := by decide +kernel
theorem dX11_readOneGate_15 : decode cX11_readOneGate 15 = .ok (.aload_n 0, 1) := by decide +kernel
theorem dX11_readOneGate_16 : decode cX11_readOneGate 16 = .ok (.getfield 16, 3) := by decide +kernel
theorem dX11_readOneGate_19 : decode cX11_readOneGate 19 = .ok (.aload_n 0, 1) := by decide +kernel
theorem dX11_readOneGate_20 : decode cX11_readOneGate 20 = .ok (.getfield 89, 3) := by decide +kernel
theorem dX11_readOneGate_23 : decode cX11_readOneGate 23 = .ok (.iaload, 1) := by decide +kernel
theorem dX11_readOneGate_24 : decode cX11_readOneGate 24 = .ok (.goto 4, 3) := by decide +kernel
theorem dX11_readOneGate_27 : decode cX11_readOneGate 27 = .ok (.iconst 0, 1) := by decide +kernel
theorem dX11_readOneGate_28 : decode cX11_readOneGate 28 = .ok (.istore_n 3, 1) := by decide +kernel
theorem dX11_readOneGate_29 : decode cX11_readOneGate 29 = .ok (.aload_n 0, 1) := by decide +kernel
theorem dX11_readOneGate_30 : decode cX11_readOneGate 30 = .ok (.getfield 41, 3) := by decide +kernel
theorem dX11_readOneGate_33 : decode cX11_readOneGate 33 = .ok (.iload_n 2, 1) := by decide +kernel
theorem dX11_readOneGate_34 : decode cX11_readOneGate 34 = .ok (.iload_n 3, 1) := by decide +kernel
theorem dX11_readOneGate_35 : decode cX11_readOneGate 35 = .ok (.bipush 103, 2) := by decide +kernel
theorem dX11_readOneGate_37 : decode cX11_readOneGate 37 = .ok (.if_icmp .ne 7, 3) := by decide +kernel
theorem dX11_readOneGate_40 : decode cX11_readOneGate 40 = .ok (.iconst 0, 1) := by decide +kernel
theorem dX11_readOneGate_41 : decode cX11_readOneGate 41 = .ok (.goto 25, 3) := by decide +kernel
theorem dX11_readOneGate_44 : decode cX11_readOneGate 44 = .ok (.iload_n 3, 1) := by decide +kernel
theorem dX11_readOneGate_45 : decode cX11_readOneGate 45 = .ok (.bipush 115, 2) := by decide +kernel
theorem dX11_readOneGate_47 : decode cX11_readOneGate 47 = .ok (.if_icmp .ne 7, 3) := by decide +kernel
theorem dX11_readOneGate_50 : decode cX11_readOneGate 50 = .ok (.iconst 1, 1) := by decide +kernel
theorem dX11_readOneGate_51 : decode cX11_readOneGate 51 = .ok (.goto 15, 3) := by decide +kernel
theorem dX11_readOneGate_54 : decode cX11_readOneGate 54 = .ok (.iload_n 3, 1) := by decide +kernel
theorem dX11_readOneGate_55 : decode cX11_readOneGate 55 = .ok (.bipush 108, 2) := by decide +kernel
theorem dX11_readOneGate_57 : decode cX11_readOneGate 57 = .ok (.if_icmp .ne 7, 3) := by decide +kernel
theorem dX11_readOneGate_60 : decode cX11_readOneGate 60 = .ok (.iconst 2, 1) := by decide +kernel
theorem dX11_readOneGate_61 : decode cX11_readOneGate 61 = .ok (.goto 5, 3) := by decide +kernel
theorem dX11_readOneGate_64 : decode cX11_readOneGate 64 = .ok (.bipush (-9), 2) := by decide +kernel
theorem dX11_readOneGate_66 : decode cX11_readOneGate 66 = .ok (.iastore, 1) := by decide +kernel
theorem dX11_readOneGate_67 : decode cX11_readOneGate 67 = .ok (.aload_n 0, 1) := by decide +kernel
theorem dX11_readOneGate_68 : decode cX11_readOneGate 68 = .ok (.getfield 41, 3) := by decide +kernel
theorem dX11_readOneGate_71 : decode cX11_readOneGate 71 = .ok (.iload_n 2, 1) := by decide +kernel
theorem dX11_readOneGate_72 : decode cX11_readOneGate 72 = .ok (.iaload, 1) := by decide +kernel
theorem dX11_readOneGate_73 : decode cX11_readOneGate 73 = .ok (.bipush (-9), 2) := by decide +kernel
theorem dX11_readOneGate_75 : decode cX11_readOneGate 75 = .ok (.if_icmp .ne 5, 3) := by decide +kernel
theorem dX11_readOneGate_78 : decode cX11_readOneGate 78 = .ok (.iconst 0, 1) := by decide +kernel
theorem dX11_readOneGate_79 : decode cX11_readOneGate 79 = .ok (.ireturn, 1) := by decide +kernel
theorem dX11_readOneGate_80 : decode cX11_readOneGate 80 = .ok (.aload_n 0, 1) := by decide +kernel
theorem dX11_readOneGate_81 : decode cX11_readOneGate 81 = .ok (.dup, 1) := by decide +kernel
theorem dX11_readOneGate_82 : decode cX11_readOneGate 82 = .ok (.getfield 89, 3) := by decide +kernel
theorem dX11_readOneGate_85 : decode cX11_readOneGate 85 = .ok (.iconst 1, 1) := by decide +kernel
theorem dX11_readOneGate_86 : decode cX11_readOneGate 86 = .ok (.iadd, 1) := by decide +kernel
theorem dX11_readOneGate_87 : decode cX11_readOneGate 87 = .ok (.putfield 89, 3) := by decide +kernel
theorem dX11_readOneGate_90 : decode cX11_readOneGate 90 = .ok (.aload_n 0, 1) := by decide +kernel
theorem dX11_readOneGate_91 : decode cX11_readOneGate 91 = .ok (.getfield 41, 3) := by decide +kernel
theorem dX11_readOneGate_94 : decode cX11_readOneGate 94 = .ok (.iload_n 2, 1) := by decide +kernel
theorem dX11_readOneGate_95 : decode cX11_readOneGate 95 = .ok (.iconst 1, 1) := by decide +kernel
theorem dX11_readOneGate_96 : decode cX11_readOneGate 96 = .ok (.iadd, 1) := by decide +kernel
theorem dX11_readOneGate_97 : decode cX11_readOneGate 97 = .ok (.aload_n 0, 1) := by decide +kernel
theorem dX11_readOneGate_98 : decode cX11_readOneGate 98 = .ok (.iload_n 1, 1) := by decide +kernel
theorem dX11_readOneGate_99 : decode cX11_readOneGate 99 = .ok (.iconst 1, 1) := by decide +kernel
theorem dX11_readOneGate_100 : decode cX11_readOneGate 100 = .ok (.bipush 9, 2) := by decide +kernel
theorem dX11_readOneGate_102 : decode cX11_readOneGate 102 = .ok (.invokevirtual 132, 3) := by decide +kernel
theorem dX11_readOneGate_105 : decode cX11_readOneGate 105 = .ok (.iastore, 1) := by decide +kernel
theorem dX11_readOneGate_106 : decode cX11_readOneGate 106 = .ok (.aload_n 0, 1) := by decide +kernel
theorem dX11_readOneGate_107 : decode cX11_readOneGate 107 = .ok (.getfield 41, 3) := by decide +kernel
theorem dX11_readOneGate_110 : decode cX11_readOneGate 110 = .ok (.iload_n 2, 1) := by decide +kernel
theorem dX11_readOneGate_111 : decode cX11_readOneGate 111 = .ok (.iconst 1, 1) := by decide +kernel
theorem dX11_readOneGate_112 : decode cX11_readOneGate 112 = .ok (.iadd, 1) := by decide +kernel
theorem dX11_readOneGate_113 : decode cX11_readOneGate 113 = .ok (.iaload, 1) := by decide +kernel
theorem dX11_readOneGate_114 : decode cX11_readOneGate 114 = .ok (.bipush (-9), 2) := by decide +kernel
theorem dX11_readOneGate_116 : decode cX11_readOneGate 116 = .ok (.if_icmp .ne 5, 3) := by decide +kernel
theorem dX11_readOneGate_119 : decode cX11_readOneGate 119 = .ok (.iconst 0, 1) := by decide +kernel
theorem dX11_readOneGate_120 : decode cX11_readOneGate 120 = .ok (.ireturn, 1) := by decide +kernel
theorem dX11_readOneGate_121 : decode cX11_readOneGate 121 = .ok (.aload_n 0, 1) := by decide +kernel
theorem dX11_readOneGate_122 : decode cX11_readOneGate 122 = .ok (.getfield 41, 3) := by decide +kernel
theorem dX11_readOneGate_125 : decode cX11_readOneGate 125 = .ok (.iload_n 2, 1) := by decide +kernel
theorem dX11_readOneGate_126 : decode cX11_readOneGate 126 = .ok (.iconst 2, 1) := by decide +kernel
theorem dX11_readOneGate_127 : decode cX11_readOneGate 127 = .ok (.iadd, 1) := by decide +kernel
theorem dX11_readOneGate_128 : decode cX11_readOneGate 128 = .ok (.aload_n 0, 1) := by decide +kernel
theorem dX11_readOneGate_129 : decode cX11_readOneGate 129 = .ok (.iload_n 1, 1) := by decide +kernel
theorem dX11_readOneGate_130 : decode cX11_readOneGate 130 = .ok (.iconst 0, 1) := by decide +kernel
theorem dX11_readOneGate_131 : decode cX11_readOneGate 131 = .ok (.bipush 6, 2) := by decide +kernel
theorem dX11_readOneGate_133 : decode cX11_readOneGate 133 = .ok (.invokevirtual 132, 3) := by decide +kernel
theorem dX11_readOneGate_136 : decode cX11_readOneGate 136 = .ok (.iastore, 1) := by decide +kernel
theorem dX11_readOneGate_137 : decode cX11_readOneGate 137 = .ok (.aload_n 0, 1) := by decide +kernel
theorem dX11_readOneGate_138 : decode cX11_readOneGate 138 = .ok (.dup, 1) := by decide +kernel
theorem dX11_readOneGate_139 : decode cX11_readOneGate 139 = .ok (.getfield 110, 3) := by decide +kernel
theorem dX11_readOneGate_142 : decode cX11_readOneGate 142 = .ok (.iconst 1, 1) := by decide +kernel
theorem dX11_readOneGate_143 : decode cX11_readOneGate 143 = .ok (.iadd, 1) := by decide +kernel
theorem dX11_readOneGate_144 : decode cX11_readOneGate 144 = .ok (.putfield 110, 3) := by decide +kernel
theorem dX11_readOneGate_147 : decode cX11_readOneGate 147 = .ok (.aload_n 0, 1) := by decide +kernel
theorem dX11_readOneGate_148 : decode cX11_readOneGate 148 = .ok (.getfield 41, 3) := by decide +kernel
theorem dX11_readOneGate_151 : decode cX11_readOneGate 151 = .ok (.iload_n 2, 1) := by decide +kernel
theorem dX11_readOneGate_152 : decode cX11_readOneGate 152 = .ok (.iconst 2, 1) := by decide +kernel
theorem dX11_readOneGate_153 : decode cX11_readOneGate 153 = .ok (.iadd, 1) := by decide +kernel
theorem dX11_readOneGate_154 : decode cX11_readOneGate 154 = .ok (.iaload, 1) := by decide +kernel
theorem dX11_readOneGate_155 : decode cX11_readOneGate 155 = .ok (.bipush (-9), 2) := by decide +kernel
theorem dX11_readOneGate_157 : decode cX11_readOneGate 157 = .ok (.if_icmp .eq 7, 3) := by decide +kernel
theorem dX11_readOneGate_160 : decode cX11_readOneGate 160 = .ok (.iconst 1, 1) := by decide +kernel
theorem dX11_readOneGate_161 : decode cX11_readOneGate 161 = .ok (.goto 4, 3) := by decide +kernel
theorem dX11_readOneGate_164 : decode cX11_readOneGate 164 = .ok (.iconst 0, 1) := by decide +kernel
theorem dX11_readOneGate_165 : decode cX11_readOneGate 165 = .ok (.ireturn, 1) := by decide +kernel
set_option maxRecDepth 20000 in
theorem ggX11_readOneStory_X11_digit : GoodIn wsX11_readOneStory wsX11_digit := goodIn_r _ [7, 8, 9, 10, 11, 6, 12, 13, 14, 15, 16, 17, 18, 19, 20, 21, 22, 23, 24, 25, 26, 27, 28, 29, 30, 31, 32, 33, 34, 35, 36, 37, 38, 39, 40, 41, 42, 43, 44, 45, 46] (by decide +kernel) (by decide +kernel)
set_option maxRecDepth 20000 in
theorem gX11_readOneStory_X11_digit : GoodIn wsX11_readOneStory (wsV RX11 132 RX11 yX11_digit wsX11_digit) := goodIn_app (goodIn_of _ (by decide +kernel)) ggX11_readOneStory_X11_digit
theorem dX11_readOneStory_0 : decode cX11_readOneStory 0 = .ok (.iconst 3, 1) := by decide +kernel
theorem dX11_readOneStory_1 : decode cX11_readOneStory 1 = .ok (.aload_n 0, 1) := by decide +kernel
theorem dX11_readOneStory_2 : decode cX11_readOneStory 2 = .ok (.getfield 113, 3) := by decide +kernel
theorem dX11_readOneStory_5 : decode cX11_readOneStory 5 = .ok (.imul, 1) := by decide +kernel
theorem dX11_readOneStory_6 : decode cX11_readOneStory 6 = .ok (.istore_n 2, 1) := by decide +kernel
theorem dX11_readOneStory_7 : decode cX11_readOneStory 7 = .ok (.aload_n 0, 1) := by decide +kernel
theorem dX11_readOneStory_8 : decode cX11_readOneStory 8 = .ok (.getfield 44, 3) := by decide +kernel
theorem dX11_readOneStory_11 : decode cX11_readOneStory 11 = .ok (.iload_n 2, 1) := by decide +kernel
theorem dX11_readOneStory_12 : decode cX11_readOneStory 12 = .ok (.aload_n 0, 1) := by decide +kernel
theorem dX11_readOneStory_13 : decode cX11_readOneStory 13 = .ok (.iload_n 1, 1) := by decide +kernel
theorem dX11_readOneStory_14 : decode cX11_readOneStory 14 = .ok (.iconst 1, 1) := by decide +kernel
theorem dX11_readOneStory_15 : decode cX11_readOneStory 15 = .ok (.bipush 9, 2) := by decide +kernel
theorem dX11_readOneStory_17 : decode cX11_readOneStory 17 = .ok (.invokevirtual 132, 3) := by decide +kernel
theorem dX11_readOneStory_20 : decode cX11_readOneStory 20 = .ok (.iastore, 1) := by decide +kernel
theorem dX11_readOneStory_21 : decode cX11_readOneStory 21 = .ok (.aload_n 0, 1) := by decide +kernel
theorem dX11_readOneStory_22 : decode cX11_readOneStory 22 = .ok (.getfield 44, 3) := by decide +kernel
theorem dX11_readOneStory_25 : decode cX11_readOneStory 25 = .ok (.iload_n 2, 1) := by decide +kernel
theorem dX11_readOneStory_26 : decode cX11_readOneStory 26 = .ok (.iaload, 1) := by decide +kernel
theorem dX11_readOneStory_27 : decode cX11_readOneStory 27 = .ok (.bipush (-9), 2) := by decide +kernel
theorem dX11_readOneStory_29 : decode cX11_readOneStory 29 = .ok (.if_icmp .ne 5, 3) := by decide +kernel
theorem dX11_readOneStory_32 : decode cX11_readOneStory 32 = .ok (.iconst 0, 1) := by decide +kernel
theorem dX11_readOneStory_33 : decode cX11_readOneStory 33 = .ok (.ireturn, 1) := by decide +kernel
theorem dX11_readOneStory_34 : decode cX11_readOneStory 34 = .ok (.aload_n 0, 1) := by decide +kernel
theorem dX11_readOneStory_35 : decode cX11_readOneStory 35 = .ok (.getfield 44, 3) := by decide +kernel
theorem dX11_readOneStory_38 : decode cX11_readOneStory 38 = .ok (.iload_n 2, 1) := by decide +kernel
theorem dX11_readOneStory_39 : decode cX11_readOneStory 39 = .ok (.iconst 1, 1) := by decide +kernel
theorem dX11_readOneStory_40 : decode cX11_readOneStory 40 = .ok (.iadd, 1) := by decide +kernel
theorem dX11_readOneStory_41 : decode cX11_readOneStory 41 = .ok (.aload_n 0, 1) := by decide +kernel
theorem dX11_readOneStory_42 : decode cX11_readOneStory 42 = .ok (.iload_n 1, 1) := by decide +kernel
theorem dX11_readOneStory_43 : decode cX11_readOneStory 43 = .ok (.iconst 0, 1) := by decide +kernel
theorem dX11_readOneStory_44 : decode cX11_readOneStory 44 = .ok (.iconst 5, 1) := by decide +kernel
theorem dX11_readOneStory_45 : decode cX11_readOneStory 45 = .ok (.invokevirtual 132, 3) := by decide +kernel
theorem dX11_readOneStory_48 : decode cX11_readOneStory 48 = .ok (.iastore, 1) := by decide +kernel
theorem dX11_readOneStory_49 : decode cX11_readOneStory 49 = .ok (.aload_n 0, 1) := by decide +kernel
theorem dX11_readOneStory_50 : decode cX11_readOneStory 50 = .ok (.getfield 44, 3) := by decide +kernel
theorem dX11_readOneStory_53 : decode cX11_readOneStory 53 = .ok (.iload_n 2, 1) := by decide +kernel
theorem dX11_readOneStory_54 : decode cX11_readOneStory 54 = .ok (.iconst 1, 1) := by decide +kernel
theorem dX11_readOneStory_55 : decode cX11_readOneStory 55 = .ok (.iadd, 1) := by decide +kernel
theorem dX11_readOneStory_56 : decode cX11_readOneStory 56 = .ok (.iaload, 1) := by decide +kernel
theorem dX11_readOneStory_57 : decode cX11_readOneStory 57 = .ok (.bipush (-9), 2) := by decide +kernel
theorem dX11_readOneStory_59 : decode cX11_readOneStory 59 = .ok (.if_icmp .ne 5, 3) := by decide +kernel
theorem dX11_readOneStory_62 : decode cX11_readOneStory 62 = .ok (.iconst 0, 1) := by decide +kernel
theorem dX11_readOneStory_63 : decode cX11_readOneStory 63 = .ok (.ireturn, 1) := by decide +kernel
theorem dX11_readOneStory_64 : decode cX11_readOneStory 64 = .ok (.aload_n 0, 1) := by decide +kernel
theorem dX11_readOneStory_65 : decode cX11_readOneStory 65 = .ok (.getfield 44, 3) := by decide +kernel
theorem dX11_readOneStory_68 : decode cX11_readOneStory 68 = .ok (.iload_n 2, 1) := by decide +kernel
theorem dX11_readOneStory_69 : decode cX11_readOneStory 69 = .ok (.iconst 2, 1) := by decide +kernel
theorem dX11_readOneStory_70 : decode cX11_readOneStory 70 = .ok (.iadd, 1) := by decide +kernel
theorem dX11_readOneStory_71 : decode cX11_readOneStory 71 = .ok (.aload_n 0, 1) := by decide +kernel
theorem dX11_readOneStory_72 : decode cX11_readOneStory 72 = .ok (.iload_n 1, 1) := by decide +kernel
theorem dX11_readOneStory_73 : decode cX11_readOneStory 73 = .ok (.iconst 0, 1) := by decide +kernel
theorem dX11_readOneStory_74 : decode cX11_readOneStory 74 = .ok (.bipush 6, 2) := by decide +kernel
theorem dX11_readOneStory_76 : decode cX11_readOneStory 76 = .ok (.invokevirtual 132, 3) := by decide +kernel
theorem dX11_readOneStory_79 : decode cX11_readOneStory 79 = .ok (.iastore, 1) := by decide +kernel
theorem dX11_readOneStory_80 : decode cX11_readOneStory 80 = .ok (.aload_n 0, 1) := by decide +kernel
theorem dX11_readOneStory_81 : decode cX11_readOneStory 81 = .ok (.dup, 1) := by decide +kernel
theorem dX11_readOneStory_82 : decode cX11_readOneStory 82 = .ok (.getfield 113, 3) := by decide +kernel
theorem dX11_readOneStory_85 : decode cX11_readOneStory 85 = .ok (.iconst 1, 1) := by decide +kernel
theorem dX11_readOneStory_86 : decode cX11_readOneStory 86 = .ok (.iadd, 1) := by decide +kernel
theorem dX11_readOneStory_87 : decode cX11_readOneStory 87 = .ok (.putfield 113, 3) := by decide +kernel
theorem dX11_readOneStory_90 : decode cX11_readOneStory 90 = .ok (.aload_n 0, 1) := by decide +kernel
theorem dX11_readOneStory_91 : decode cX11_readOneStory 91 = .ok (.getfield 44, 3) := by decide +kernel
theorem dX11_readOneStory_94 : decode cX11_readOneStory 94 = .ok (.iload_n 2, 1) := by decide +kernel
theorem dX11_readOneStory_95 : decode cX11_readOneStory 95 = .ok (.iconst 2, 1) := by decide +kernel
theorem dX11_readOneStory_96 : decode cX11_readOneStory 96 = .ok (.iadd, 1) := by decide +kernel
theorem dX11_readOneStory_97 : decode cX11_readOneStory 97 = .ok (.iaload, 1) := by decide +kernel
theorem dX11_readOneStory_98 : decode cX11_readOneStory 98 = .ok (.bipush (-9), 2) := by decide +kernel
theorem dX11_readOneStory_100 : decode cX11_readOneStory 100 = .ok (.if_icmp .eq 7, 3) := by decide +kernel
theorem dX11_readOneStory_103 : decode cX11_readOneStory 103 = .ok (.iconst 1, 1) := by decide +kernel
theorem dX11_readOneStory_104 : decode cX11_readOneStory 104 = .ok (.goto 4, 3) := by decide +kernel
theorem dX11_readOneStory_107 : decode cX11_readOneStory 107 = .ok (.iconst 0, 1) := by decide +kernel
theorem dX11_readOneStory_108 : decode cX11_readOneStory 108 = .ok (.ireturn, 1) := by decide +kernel
set_option maxRecDepth 20000 in
theorem ggX11_ofGate_X11_isGate : GoodIn wsX11_ofGate wsX11_isGate := goodIn_r _ [8, 9, 10, 11, 12, 13, 14, 15, 16, 17, 18, 19, 20, 21, 22, 23, 24, 25, 26, 27, 28, 29, 30, 31, 32, 33, 34, 35, 36, 37, 38, 39, 40, 41, 42, 43] (by decide +kernel) (by decide +kernel)
set_option maxRecDepth 20000 in
theorem gX11_ofGate_X11_isGate : GoodIn wsX11_ofGate (wsV RX11 136 RX11 yX11_isGate wsX11_isGate) := goodIn_app (goodIn_of _ (by decide +kernel)) ggX11_ofGate_X11_isGate
theorem dX11_ofGate_0 : decode cX11_ofGate 0 = .ok (.aload_n 0, 1) := by decide +kernel
theorem dX11_ofGate_1 : decode cX11_ofGate 1 = .ok (.iload_n 1, 1) := by decide +kernel
theorem dX11_ofGate_2 : decode cX11_ofGate 2 = .ok (.invokevirtual 136, 3) := by decide +kernel
theorem dX11_ofGate_5 : decode cX11_ofGate 5 = .ok (.ifCond .ne 5, 3) := by decide +kernel
theorem dX11_ofGate_8 : decode cX11_ofGate 8 = .ok (.iconst (-1), 1) := by decide +kernel
theorem dX11_ofGate_9 : decode cX11_ofGate 9 = .ok (.ireturn, 1) := by decide +kernel
theorem dX11_ofGate_10 : decode cX11_ofGate 10 = .ok (.iload_n 2, 1) := by decide +kernel
theorem dX11_ofGate_11 : decode cX11_ofGate 11 = .ok (.ifCond .ne 12, 3) := by decide +kernel
theorem dX11_ofGate_14 : decode cX11_ofGate 14 = .ok (.aload_n 0, 1) := by decide +kernel
theorem dX11_ofGate_15 : decode cX11_ofGate 15 = .ok (.getfield 19, 3) := by decide +kernel
theorem dX11_ofGate_18 : decode cX11_ofGate 18 = .ok (.iload_n 1, 1) := by decide +kernel
theorem dX11_ofGate_19 : decode cX11_ofGate 19 = .ok (.iaload, 1) := by decide +kernel
theorem dX11_ofGate_20 : decode cX11_ofGate 20 = .ok (.goto 33, 3) := by decide +kernel
theorem dX11_ofGate_23 : decode cX11_ofGate 23 = .ok (.iload_n 2, 1) := by decide +kernel
theorem dX11_ofGate_24 : decode cX11_ofGate 24 = .ok (.iconst 1, 1) := by decide +kernel
theorem dX11_ofGate_25 : decode cX11_ofGate 25 = .ok (.if_icmp .ne 12, 3) := by decide +kernel
theorem dX11_ofGate_28 : decode cX11_ofGate 28 = .ok (.aload_n 0, 1) := by decide +kernel
theorem dX11_ofGate_29 : decode cX11_ofGate 29 = .ok (.getfield 22, 3) := by decide +kernel
theorem dX11_ofGate_32 : decode cX11_ofGate 32 = .ok (.iload_n 1, 1) := by decide +kernel
theorem dX11_ofGate_33 : decode cX11_ofGate 33 = .ok (.iaload, 1) := by decide +kernel
theorem dX11_ofGate_34 : decode cX11_ofGate 34 = .ok (.goto 19, 3) := by decide +kernel
theorem dX11_ofGate_37 : decode cX11_ofGate 37 = .ok (.iload_n 2, 1) := by decide +kernel
theorem dX11_ofGate_38 : decode cX11_ofGate 38 = .ok (.iconst 2, 1) := by decide +kernel
theorem dX11_ofGate_39 : decode cX11_ofGate 39 = .ok (.if_icmp .ne 12, 3) := by decide +kernel
theorem dX11_ofGate_42 : decode cX11_ofGate 42 = .ok (.aload_n 0, 1) := by decide +kernel
theorem dX11_ofGate_43 : decode cX11_ofGate 43 = .ok (.getfield 25, 3) := by decide +kernel
theorem dX11_ofGate_46 : decode cX11_ofGate 46 = .ok (.iload_n 1, 1) := by decide +kernel
theorem dX11_ofGate_47 : decode cX11_ofGate 47 = .ok (.iaload, 1) := by decide +kernel
theorem dX11_ofGate_48 : decode cX11_ofGate 48 = .ok (.goto 5, 3) := by decide +kernel
theorem dX11_ofGate_51 : decode cX11_ofGate 51 = .ok (.bipush (-2), 2) := by decide +kernel
theorem dX11_ofGate_53 : decode cX11_ofGate 53 = .ok (.ireturn, 1) := by decide +kernel
theorem dX11_third_0 : decode cX11_third 0 = .ok (.aload_n 0, 1) := by decide +kernel
theorem dX11_third_1 : decode cX11_third 1 = .ok (.getfield 28, 3) := by decide +kernel
theorem dX11_third_4 : decode cX11_third 4 = .ok (.iload_n 1, 1) := by decide +kernel
theorem dX11_third_5 : decode cX11_third 5 = .ok (.iaload, 1) := by decide +kernel
theorem dX11_third_6 : decode cX11_third 6 = .ok (.iconst 3, 1) := by decide +kernel
theorem dX11_third_7 : decode cX11_third 7 = .ok (.idiv, 1) := by decide +kernel
theorem dX11_third_8 : decode cX11_third 8 = .ok (.iload_n 2, 1) := by decide +kernel
theorem dX11_third_9 : decode cX11_third 9 = .ok (.aload_n 0, 1) := by decide +kernel
theorem dX11_third_10 : decode cX11_third 10 = .ok (.getfield 28, 3) := by decide +kernel
theorem dX11_third_13 : decode cX11_third 13 = .ok (.iload_n 1, 1) := by decide +kernel
theorem dX11_third_14 : decode cX11_third 14 = .ok (.iaload, 1) := by decide +kernel
theorem dX11_third_15 : decode cX11_third 15 = .ok (.iconst 3, 1) := by decide +kernel
theorem dX11_third_16 : decode cX11_third 16 = .ok (.irem, 1) := by decide +kernel
theorem dX11_third_17 : decode cX11_third 17 = .ok (.if_icmp .ge 7, 3) := by decide +kernel
theorem dX11_third_20 : decode cX11_third 20 = .ok (.iconst 1, 1) := by decide +kernel
theorem dX11_third_21 : decode cX11_third 21 = .ok (.goto 4, 3) := by decide +kernel
theorem dX11_third_24 : decode cX11_third 24 = .ok (.iconst 0, 1) := by decide +kernel
theorem dX11_third_25 : decode cX11_third 25 = .ok (.iadd, 1) := by decide +kernel
theorem dX11_third_26 : decode cX11_third 26 = .ok (.ireturn, 1) := by decide +kernel
set_option maxRecDepth 20000 in
theorem ggX11_ofStory_X11_isStory : GoodIn wsX11_ofStory wsX11_isStory := goodIn_r _ [8, 9, 14, 15, 16, 17, 18, 19, 20, 21, 22, 23, 24, 25, 26, 27, 28, 29, 30, 31, 32, 33, 34, 35, 36, 37, 38, 39, 40, 41, 42, 43, 44, 45, 46, 47] (by decide +kernel) (by decide +kernel)
set_option maxRecDepth 20000 in
theorem gX11_ofStory_X11_isStory : GoodIn wsX11_ofStory (wsV RX11 139 RX11 yX11_isStory wsX11_isStory) := goodIn_app (goodIn_of _ (by decide +kernel)) ggX11_ofStory_X11_isStory
set_option maxRecDepth 20000 in
theorem ggX11_ofStory_X11_third : GoodIn wsX11_ofStory wsX11_third := goodIn_r _ [13, 1, 14, 15, 16, 17, 18, 19, 20, 21, 22, 23, 24, 25, 26, 27, 28, 29, 30, 31, 32, 33, 34, 35, 36, 37, 38, 39, 40, 41, 42, 43, 44, 45, 46, 47] (by decide +kernel) (by decide +kernel)
set_option maxRecDepth 20000 in
theorem gX11_ofStory_X11_third : GoodIn wsX11_ofStory (wsV RX11 142 RX11 yX11_third wsX11_third) := goodIn_app (goodIn_of _ (by decide +kernel)) ggX11_ofStory_X11_third
theorem dX11_ofStory_0 : decode cX11_ofStory 0 = .ok (.aload_n 0, 1) := by decide +kernel
theorem dX11_ofStory_1 : decode cX11_ofStory 1 = .ok (.iload_n 1, 1) := by decide +kernel
theorem dX11_ofStory_2 : decode cX11_ofStory 2 = .ok (.invokevirtual 139, 3) := by decide +kernel
theorem dX11_ofStory_5 : decode cX11_ofStory 5 = .ok (.ifCond .ne 5, 3) := by decide +kernel
theorem dX11_ofStory_8 : decode cX11_ofStory 8 = .ok (.iconst (-1), 1) := by decide +kernel
theorem dX11_ofStory_9 : decode cX11_ofStory 9 = .ok (.ireturn, 1) := by decide +kernel
theorem dX11_ofStory_10 : decode cX11_ofStory 10 = .ok (.iload_n 2, 1) := by decide +kernel
theorem dX11_ofStory_11 : decode cX11_ofStory 11 = .ok (.tableswitch 67 0 5 #[37, 44, 51, 58, 58, 58], 37) := by decide +kernel
theorem dX11_ofStory_48 : decode cX11_ofStory 48 = .ok (.aload_n 0, 1) := by decide +kernel
theorem dX11_ofStory_49 : decode cX11_ofStory 49 = .ok (.getfield 28, 3) := by decide +kernel
theorem dX11_ofStory_52 : decode cX11_ofStory 52 = .ok (.iload_n 1, 1) := by decide +kernel
theorem dX11_ofStory_53 : decode cX11_ofStory 53 = .ok (.iaload, 1) := by decide +kernel
theorem dX11_ofStory_54 : decode cX11_ofStory 54 = .ok (.ireturn, 1) := by decide +kernel
theorem dX11_ofStory_55 : decode cX11_ofStory 55 = .ok (.aload_n 0, 1) := by decide +kernel
theorem dX11_ofStory_56 : decode cX11_ofStory 56 = .ok (.getfield 31, 3) := by decide +kernel
theorem dX11_ofStory_59 : decode cX11_ofStory 59 = .ok (.iload_n 1, 1) := by decide +kernel
theorem dX11_ofStory_60 : decode cX11_ofStory 60 = .ok (.iaload, 1) := by decide +kernel
theorem dX11_ofStory_61 : decode cX11_ofStory 61 = .ok (.ireturn, 1) := by decide +kernel
theorem dX11_ofStory_62 : decode cX11_ofStory 62 = .ok (.aload_n 0, 1) := by decide +kernel
theorem dX11_ofStory_63 : decode cX11_ofStory 63 = .ok (.getfield 34, 3) := by decide +kernel
theorem dX11_ofStory_66 : decode cX11_ofStory 66 = .ok (.iload_n 1, 1) := by decide +kernel
theorem dX11_ofStory_67 : decode cX11_ofStory 67 = .ok (.iaload, 1) := by decide +kernel
theorem dX11_ofStory_68 : decode cX11_ofStory 68 = .ok (.ireturn, 1) := by decide +kernel
theorem dX11_ofStory_69 : decode cX11_ofStory 69 = .ok (.aload_n 0, 1) := by decide +kernel
theorem dX11_ofStory_70 : decode cX11_ofStory 70 = .ok (.iload_n 1, 1) := by decide +kernel
theorem dX11_ofStory_71 : decode cX11_ofStory 71 = .ok (.iload_n 2, 1) := by decide +kernel
theorem dX11_ofStory_72 : decode cX11_ofStory 72 = .ok (.iconst 3, 1) := by decide +kernel
theorem dX11_ofStory_73 : decode cX11_ofStory 73 = .ok (.isub, 1) := by decide +kernel
theorem dX11_ofStory_74 : decode cX11_ofStory 74 = .ok (.invokevirtual 142, 3) := by decide +kernel
theorem dX11_ofStory_77 : decode cX11_ofStory 77 = .ok (.ireturn, 1) := by decide +kernel
theorem dX11_ofStory_78 : decode cX11_ofStory 78 = .ok (.bipush (-2), 2) := by decide +kernel
theorem dX11_ofStory_80 : decode cX11_ofStory 80 = .ok (.ireturn, 1) := by decide +kernel
set_option maxRecDepth 20000 in
theorem ggX11_harmless_X11_within : GoodIn wsX11_harmless wsX11_within := goodIn_r _ [6] (by decide +kernel) (by decide +kernel)
set_option maxRecDepth 20000 in
theorem gX11_harmless_X11_within : GoodIn wsX11_harmless (va_wsS RX11 79 yX11_within wsX11_within) := goodIn_app (goodIn_of _ (by decide +kernel)) ggX11_harmless_X11_within
theorem dX11_harmless_0 : decode cX11_harmless 0 = .ok (.iload_n 1, 1) := by decide +kernel
theorem dX11_harmless_1 : decode cX11_harmless 1 = .ok (.iconst 0, 1) := by decide +kernel
theorem dX11_harmless_2 : decode cX11_harmless 2 = .ok (.bipush 9, 2) := by decide +kernel
theorem dX11_harmless_4 : decode cX11_harmless 4 = .ok (.invokestatic 79, 3) := by decide +kernel
theorem dX11_harmless_7 : decode cX11_harmless 7 = .ok (.ifCond .ne 6, 3) := by decide +kernel
theorem dX11_harmless_10 : decode cX11_harmless 10 = .ok (.bipush (-2), 2) := by decide +kernel
theorem dX11_harmless_12 : decode cX11_harmless 12 = .ok (.ireturn, 1) := by decide +kernel
theorem dX11_harmless_13 : decode cX11_harmless 13 = .ok (.aload_n 0, 1) := by decide +kernel
theorem dX11_harmless_14 : decode cX11_harmless 14 = .ok (.getfield 83, 3) := by decide +kernel
theorem dX11_harmless_17 : decode cX11_harmless 17 = .ok (.ifCond .ne 6, 3) := by decide +kernel
theorem dX11_harmless_20 : decode cX11_harmless 20 = .ok (.bipush (-3), 2) := by decide +kernel
theorem dX11_harmless_22 : decode cX11_harmless 22 = .ok (.ireturn, 1) := by decide +kernel
theorem dX11_harmless_23 : decode cX11_harmless 23 = .ok (.aload_n 0, 1) := by decide +kernel
theorem dX11_harmless_24 : decode cX11_harmless 24 = .ok (.getfield 116, 3) := by decide +kernel
theorem dX11_harmless_27 : decode cX11_harmless 27 = .ok (.istore_n 2, 1) := by decide +kernel
theorem dX11_harmless_28 : decode cX11_harmless 28 = .ok (.aload_n 0, 1) := by decide +kernel
theorem dX11_harmless_29 : decode cX11_harmless 29 = .ok (.iload_n 1, 1) := by decide +kernel
theorem dX11_harmless_30 : decode cX11_harmless 30 = .ok (.putfield 116, 3) := by decide +kernel
theorem dX11_harmless_33 : decode cX11_harmless 33 = .ok (.iload_n 2, 1) := by decide +kernel
theorem dX11_harmless_34 : decode cX11_harmless 34 = .ok (.ireturn, 1) := by decide +kernel
set_option maxRecDepth 20000 in
theorem ggX11_rate_X11_isGate : GoodIn wsX11_rate wsX11_isGate := goodIn_r _ [6, 7, 11, 12, 13, 14, 15, 16, 17, 18, 19, 20, 21, 22, 23, 24, 25, 26, 27, 28, 29, 30, 31, 32, 33, 34, 35, 36, 37, 38, 39, 40, 41, 42, 43, 44] (by decide +kernel) (by decide +kernel)
set_option maxRecDepth 20000 in
theorem gX11_rate_X11_isGate : GoodIn wsX11_rate (wsV RX11 136 RX11 yX11_isGate wsX11_isGate) := goodIn_app (goodIn_of _ (by decide +kernel)) ggX11_rate_X11_isGate
set_option maxRecDepth 20000 in
theorem ggX11_rate_X11_within : GoodIn wsX11_rate wsX11_within := goodIn_r _ [10] (by decide +kernel) (by decide +kernel)
set_option maxRecDepth 20000 in
theorem gX11_rate_X11_within : GoodIn wsX11_rate (va_wsS RX11 79 yX11_within wsX11_within) := goodIn_app (goodIn_of _ (by decide +kernel)) ggX11_rate_X11_within
theorem dX11_rate_0 : decode cX11_rate 0 = .ok (.aload_n 0, 1) := by decide +kernel
theorem dX11_rate_1 : decode cX11_rate 1 = .ok (.iload_n 1, 1) := by decide +kernel
theorem dX11_rate_2 : decode cX11_rate 2 = .ok (.invokevirtual 136, 3) := by decide +kernel
theorem dX11_rate_5 : decode cX11_rate 5 = .ok (.ifCond .ne 5, 3) := by decide +kernel
theorem dX11_rate_8 : decode cX11_rate 8 = .ok (.iconst (-1), 1) := by decide +kernel
theorem dX11_rate_9 : decode cX11_rate 9 = .ok (.ireturn, 1) := by decide +kernel
theorem dX11_rate_10 : decode cX11_rate 10 = .ok (.iload_n 2, 1) := by decide +kernel
theorem dX11_rate_11 : decode cX11_rate 11 = .ok (.iconst 1, 1) := by decide +kernel
theorem dX11_rate_12 : decode cX11_rate 12 = .ok (.bipush 9, 2) := by decide +kernel
theorem dX11_rate_14 : decode cX11_rate 14 = .ok (.invokestatic 79, 3) := by decide +kernel
theorem dX11_rate_17 : decode cX11_rate 17 = .ok (.ifCond .ne 6, 3) := by decide +kernel
theorem dX11_rate_20 : decode cX11_rate 20 = .ok (.bipush (-2), 2) := by decide +kernel
theorem dX11_rate_22 : decode cX11_rate 22 = .ok (.ireturn, 1) := by decide +kernel
theorem dX11_rate_23 : decode cX11_rate 23 = .ok (.aload_n 0, 1) := by decide +kernel
theorem dX11_rate_24 : decode cX11_rate 24 = .ok (.getfield 22, 3) := by decide +kernel
theorem dX11_rate_27 : decode cX11_rate 27 = .ok (.iload_n 1, 1) := by decide +kernel
theorem dX11_rate_28 : decode cX11_rate 28 = .ok (.iaload, 1) := by decide +kernel
theorem dX11_rate_29 : decode cX11_rate 29 = .ok (.istore_n 3, 1) := by decide +kernel
theorem dX11_rate_30 : decode cX11_rate 30 = .ok (.aload_n 0, 1) := by decide +kernel
theorem dX11_rate_31 : decode cX11_rate 31 = .ok (.getfield 22, 3) := by decide +kernel
theorem dX11_rate_34 : decode cX11_rate 34 = .ok (.iload_n 1, 1) := by decide +kernel
theorem dX11_rate_35 : decode cX11_rate 35 = .ok (.iload_n 2, 1) := by decide +kernel
theorem dX11_rate_36 : decode cX11_rate 36 = .ok (.iastore, 1) := by decide +kernel
theorem dX11_rate_37 : decode cX11_rate 37 = .ok (.iload_n 3, 1) := by decide +kernel
theorem dX11_rate_38 : decode cX11_rate 38 = .ok (.ireturn, 1) := by decide +kernel
theorem dX11_freshOf_0 : decode cX11_freshOf 0 = .ok (.iconst 4, 1) := by decide +kernel
theorem dX11_freshOf_1 : decode cX11_freshOf 1 = .ok (.iload_n 2, 1) := by decide +kernel
theorem dX11_freshOf_2 : decode cX11_freshOf 2 = .ok (.aload_n 0, 1) := by decide +kernel
theorem dX11_freshOf_3 : decode cX11_freshOf 3 = .ok (.getfield 34, 3) := by decide +kernel
theorem dX11_freshOf_6 : decode cX11_freshOf 6 = .ok (.iload_n 1, 1) := by decide +kernel
theorem dX11_freshOf_7 : decode cX11_freshOf 7 = .ok (.iaload, 1) := by decide +kernel
theorem dX11_freshOf_8 : decode cX11_freshOf 8 = .ok (.isub, 1) := by decide +kernel
theorem dX11_freshOf_9 : decode cX11_freshOf 9 = .ok (.isub, 1) := by decide +kernel
theorem dX11_freshOf_10 : decode cX11_freshOf 10 = .ok (.istore_n 3, 1) := by decide +kernel
theorem dX11_freshOf_11 : decode cX11_freshOf 11 = .ok (.iload_n 2, 1) := by decide +kernel
theorem dX11_freshOf_12 : decode cX11_freshOf 12 = .ok (.aload_n 0, 1) := by decide +kernel
theorem dX11_freshOf_13 : decode cX11_freshOf 13 = .ok (.getfield 34, 3) := by decide +kernel
theorem dX11_freshOf_16 : decode cX11_freshOf 16 = .ok (.iload_n 1, 1) := by decide +kernel
theorem dX11_freshOf_17 : decode cX11_freshOf 17 = .ok (.iaload, 1) := by decide +kernel
theorem dX11_freshOf_18 : decode cX11_freshOf 18 = .ok (.if_icmp .ge 8, 3) := by decide +kernel
theorem dX11_freshOf_21 : decode cX11_freshOf 21 = .ok (.bipush (-9), 2) := by decide +kernel
theorem dX11_freshOf_23 : decode cX11_freshOf 23 = .ok (.goto 12, 3) := by decide +kernel
theorem dX11_freshOf_26 : decode cX11_freshOf 26 = .ok (.iload_n 3, 1) := by decide +kernel
theorem dX11_freshOf_27 : decode cX11_freshOf 27 = .ok (.ifCond .ge 7, 3) := by decide +kernel
theorem dX11_freshOf_30 : decode cX11_freshOf 30 = .ok (.iconst 0, 1) := by decide +kernel
theorem dX11_freshOf_31 : decode cX11_freshOf 31 = .ok (.goto 4, 3) := by decide +kernel
theorem dX11_freshOf_34 : decode cX11_freshOf 34 = .ok (.iload_n 3, 1) := by decide +kernel
theorem dX11_freshOf_35 : decode cX11_freshOf 35 = .ok (.ireturn, 1) := by decide +kernel
set_option maxRecDepth 20000 in
theorem ggX11_fresh_X11_isStory : GoodIn wsX11_fresh wsX11_isStory := goodIn_r _ [5, 6, 18, 19, 20, 21, 22, 23, 24, 25, 26, 27, 28, 29, 30, 31, 32, 33, 34, 35, 36, 37, 38, 39, 40, 41, 42, 43, 44, 45, 46, 47, 48, 49, 50, 51] (by decide +kernel) (by decide +kernel)
set_option maxRecDepth 20000 in
theorem gX11_fresh_X11_isStory : GoodIn wsX11_fresh (wsV RX11 139 RX11 yX11_isStory wsX11_isStory) := goodIn_app (goodIn_of _ (by decide +kernel)) ggX11_fresh_X11_isStory
set_option maxRecDepth 20000 in
theorem ggX11_fresh_X11_isDay : GoodIn wsX11_fresh wsX11_isDay := goodIn_r _ [9, 10, 11, 4, 12] (by decide +kernel) (by decide +kernel)
set_option maxRecDepth 20000 in
theorem gX11_fresh_X11_isDay : GoodIn wsX11_fresh (va_wsS RX11 146 yX11_isDay wsX11_isDay) := goodIn_app (goodIn_of _ (by decide +kernel)) ggX11_fresh_X11_isDay
set_option maxRecDepth 20000 in
theorem ggX11_fresh_X11_freshOf : GoodIn wsX11_fresh wsX11_freshOf := goodIn_r _ [16, 17, 18, 19, 20, 21, 22, 23, 24, 25, 26, 27, 28, 29, 30, 31, 32, 33, 34, 35, 36, 37, 38, 39, 40, 41, 42, 43, 44, 45, 46, 47, 48, 49, 50, 51] (by decide +kernel) (by decide +kernel)
set_option maxRecDepth 20000 in
theorem gX11_fresh_X11_freshOf : GoodIn wsX11_fresh (wsV RX11 149 RX11 yX11_freshOf wsX11_freshOf) := goodIn_app (goodIn_of _ (by decide +kernel)) ggX11_fresh_X11_freshOf
theorem dX11_fresh_0 : decode cX11_fresh 0 = .ok (.aload_n 0, 1) := by decide +kernel
theorem dX11_fresh_1 : decode cX11_fresh 1 = .ok (.iload_n 1, 1) := by decide +kernel
theorem dX11_fresh_2 : decode cX11_fresh 2 = .ok (.invokevirtual 139, 3) := by decide +kernel
theorem dX11_fresh_5 : decode cX11_fresh 5 = .ok (.ifCond .ne 5, 3) := by decide +kernel
theorem dX11_fresh_8 : decode cX11_fresh 8 = .ok (.iconst (-1), 1) := by decide +kernel
theorem dX11_fresh_9 : decode cX11_fresh 9 = .ok (.ireturn, 1) := by decide +kernel
theorem dX11_fresh_10 : decode cX11_fresh 10 = .ok (.iload_n 2, 1) := by decide +kernel
theorem dX11_fresh_11 : decode cX11_fresh 11 = .ok (.invokestatic 146, 3) := by decide +kernel
theorem dX11_fresh_14 : decode cX11_fresh 14 = .ok (.ifCond .eq 12, 3) := by decide +kernel
theorem dX11_fresh_17 : decode cX11_fresh 17 = .ok (.aload_n 0, 1) := by decide +kernel
theorem dX11_fresh_18 : decode cX11_fresh 18 = .ok (.iload_n 1, 1) := by decide +kernel
theorem dX11_fresh_19 : decode cX11_fresh 19 = .ok (.iload_n 2, 1) := by decide +kernel
theorem dX11_fresh_20 : decode cX11_fresh 20 = .ok (.invokevirtual 149, 3) := by decide +kernel
theorem dX11_fresh_23 : decode cX11_fresh 23 = .ok (.goto 5, 3) := by decide +kernel
theorem dX11_fresh_26 : decode cX11_fresh 26 = .ok (.bipush (-2), 2) := by decide +kernel
theorem dX11_fresh_28 : decode cX11_fresh 28 = .ok (.ireturn, 1) := by decide +kernel
set_option maxRecDepth 20000 in
theorem ggX11_sizeOf_X11_third : GoodIn wsX11_sizeOf wsX11_third := goodIn_r _ [5, 6, 7, 8, 9, 10, 11, 12, 13, 14, 15, 16, 17, 18, 19, 20, 21, 22, 23, 24, 25, 26, 27, 28, 29, 30, 31, 32, 33, 34, 35, 36, 37, 38, 39, 40] (by decide +kernel) (by decide +kernel)
set_option maxRecDepth 20000 in
theorem gX11_sizeOf_X11_third : GoodIn wsX11_sizeOf (wsV RX11 142 RX11 yX11_third wsX11_third) := goodIn_app (goodIn_of _ (by decide +kernel)) ggX11_sizeOf_X11_third
theorem dX11_sizeOf_0 : decode cX11_sizeOf 0 = .ok (.iconst 0, 1) := by decide +kernel
theorem dX11_sizeOf_1 : decode cX11_sizeOf 1 = .ok (.istore_n 3, 1) := by decide +kernel
theorem dX11_sizeOf_2 : decode cX11_sizeOf 2 = .ok (.iconst 0, 1) := by decide +kernel
theorem dX11_sizeOf_3 : decode cX11_sizeOf 3 = .ok (.istore 4, 2) := by decide +kernel
theorem dX11_sizeOf_5 : decode cX11_sizeOf 5 = .ok (.iload 4, 2) := by decide +kernel
theorem dX11_sizeOf_7 : decode cX11_sizeOf 7 = .ok (.iconst 3, 1) := by decide +kernel
theorem dX11_sizeOf_8 : decode cX11_sizeOf 8 = .ok (.if_icmp .ge 33, 3) := by decide +kernel
theorem dX11_sizeOf_11 : decode cX11_sizeOf 11 = .ok (.iload_n 3, 1) := by decide +kernel
theorem dX11_sizeOf_12 : decode cX11_sizeOf 12 = .ok (.iload_n 2, 1) := by decide +kernel
theorem dX11_sizeOf_13 : decode cX11_sizeOf 13 = .ok (.iload 4, 2) := by decide +kernel
theorem dX11_sizeOf_15 : decode cX11_sizeOf 15 = .ok (.ishr, 1) := by decide +kernel
theorem dX11_sizeOf_16 : decode cX11_sizeOf 16 = .ok (.iconst 1, 1) := by decide +kernel
theorem dX11_sizeOf_17 : decode cX11_sizeOf 17 = .ok (.iand, 1) := by decide +kernel
theorem dX11_sizeOf_18 : decode cX11_sizeOf 18 = .ok (.iconst 1, 1) := by decide +kernel
theorem dX11_sizeOf_19 : decode cX11_sizeOf 19 = .ok (.if_icmp .ne 13, 3) := by decide +kernel
theorem dX11_sizeOf_22 : decode cX11_sizeOf 22 = .ok (.aload_n 0, 1) := by decide +kernel
theorem dX11_sizeOf_23 : decode cX11_sizeOf 23 = .ok (.iload_n 1, 1) := by decide +kernel
theorem dX11_sizeOf_24 : decode cX11_sizeOf 24 = .ok (.iload 4, 2) := by decide +kernel
theorem dX11_sizeOf_26 : decode cX11_sizeOf 26 = .ok (.invokevirtual 142, 3) := by decide +kernel
theorem dX11_sizeOf_29 : decode cX11_sizeOf 29 = .ok (.goto 4, 3) := by decide +kernel
theorem dX11_sizeOf_32 : decode cX11_sizeOf 32 = .ok (.iconst 0, 1) := by decide +kernel
theorem dX11_sizeOf_33 : decode cX11_sizeOf 33 = .ok (.iadd, 1) := by decide +kernel
theorem dX11_sizeOf_34 : decode cX11_sizeOf 34 = .ok (.istore_n 3, 1) := by decide +kernel
theorem dX11_sizeOf_35 : decode cX11_sizeOf 35 = .ok (.iinc 4 1, 3) := by decide +kernel
theorem dX11_sizeOf_38 : decode cX11_sizeOf 38 = .ok (.goto (-33), 3) := by decide +kernel
theorem dX11_sizeOf_41 : decode cX11_sizeOf 41 = .ok (.iload_n 3, 1) := by decide +kernel
theorem dX11_sizeOf_42 : decode cX11_sizeOf 42 = .ok (.ireturn, 1) := by decide +kernel
set_option maxRecDepth 20000 in
theorem ggX11_dutyOf_X11_sizeOf : GoodIn wsX11_dutyOf wsX11_sizeOf := goodIn_r _ [10, 11, 12, 13, 9, 14, 15, 21, 22, 23, 24, 25, 26, 27, 28, 29, 30, 31, 32, 33, 34, 35, 36, 37, 38, 39, 40, 41, 42, 43, 44, 45, 46, 47, 48, 49, 50, 51, 52, 53, 54] (by decide +kernel) (by decide +kernel)
set_option maxRecDepth 20000 in
theorem gX11_dutyOf_X11_sizeOf : GoodIn wsX11_dutyOf (wsV RX11 152 RX11 yX11_sizeOf wsX11_sizeOf) := goodIn_app (goodIn_of _ (by decide +kernel)) ggX11_dutyOf_X11_sizeOf
set_option maxRecDepth 20000 in
theorem ggX11_dutyOf_X11_freshOf : GoodIn wsX11_dutyOf wsX11_freshOf := goodIn_r _ [19, 20, 21, 22, 23, 24, 25, 26, 27, 28, 29, 30, 31, 32, 33, 34, 35, 36, 37, 38, 39, 40, 41, 42, 43, 44, 45, 46, 47, 48, 49, 50, 51, 52, 53, 54] (by decide +kernel) (by decide +kernel)
set_option maxRecDepth 20000 in
theorem gX11_dutyOf_X11_freshOf : GoodIn wsX11_dutyOf (wsV RX11 149 RX11 yX11_freshOf wsX11_freshOf) := goodIn_app (goodIn_of _ (by decide +kernel)) ggX11_dutyOf_X11_freshOf
theorem dX11_dutyOf_0 : decode cX11_dutyOf 0 = .ok (.aload_n 0, 1) := by decide +kernel
theorem dX11_dutyOf_1 : decode cX11_dutyOf 1 = .ok (.iload_n 2, 1) := by decide +kernel
theorem dX11_dutyOf_2 : decode cX11_dutyOf 2 = .ok (.iload 4, 2) := by decide +kernel
theorem dX11_dutyOf_4 : decode cX11_dutyOf 4 = .ok (.invokevirtual 152, 3) := by decide +kernel
theorem dX11_dutyOf_7 : decode cX11_dutyOf 7 = .ok (.istore 5, 2) := by decide +kernel
theorem dX11_dutyOf_9 : decode cX11_dutyOf 9 = .ok (.iload 5, 2) := by decide +kernel
theorem dX11_dutyOf_11 : decode cX11_dutyOf 11 = .ok (.aload_n 0, 1) := by decide +kernel
theorem dX11_dutyOf_12 : decode cX11_dutyOf 12 = .ok (.getfield 116, 3) := by decide +kernel
theorem dX11_dutyOf_15 : decode cX11_dutyOf 15 = .ok (.if_icmp .le 18, 3) := by decide +kernel
theorem dX11_dutyOf_18 : decode cX11_dutyOf 18 = .ok (.aload_n 0, 1) := by decide +kernel
theorem dX11_dutyOf_19 : decode cX11_dutyOf 19 = .ok (.getfield 25, 3) := by decide +kernel
theorem dX11_dutyOf_22 : decode cX11_dutyOf 22 = .ok (.iload_n 1, 1) := by decide +kernel
theorem dX11_dutyOf_23 : decode cX11_dutyOf 23 = .ok (.iaload, 1) := by decide +kernel
theorem dX11_dutyOf_24 : decode cX11_dutyOf 24 = .ok (.aload_n 0, 1) := by decide +kernel
theorem dX11_dutyOf_25 : decode cX11_dutyOf 25 = .ok (.getfield 31, 3) := by decide +kernel
theorem dX11_dutyOf_28 : decode cX11_dutyOf 28 = .ok (.iload_n 2, 1) := by decide +kernel
theorem dX11_dutyOf_29 : decode cX11_dutyOf 29 = .ok (.iaload, 1) := by decide +kernel
theorem dX11_dutyOf_30 : decode cX11_dutyOf 30 = .ok (.if_icmp .ne 5, 3) := by decide +kernel
theorem dX11_dutyOf_33 : decode cX11_dutyOf 33 = .ok (.iconst 0, 1) := by decide +kernel
theorem dX11_dutyOf_34 : decode cX11_dutyOf 34 = .ok (.ireturn, 1) := by decide +kernel
theorem dX11_dutyOf_35 : decode cX11_dutyOf 35 = .ok (.aload_n 0, 1) := by decide +kernel
theorem dX11_dutyOf_36 : decode cX11_dutyOf 36 = .ok (.getfield 19, 3) := by decide +kernel
theorem dX11_dutyOf_39 : decode cX11_dutyOf 39 = .ok (.iload_n 1, 1) := by decide +kernel
theorem dX11_dutyOf_40 : decode cX11_dutyOf 40 = .ok (.iaload, 1) := by decide +kernel
theorem dX11_dutyOf_41 : decode cX11_dutyOf 41 = .ok (.iconst 1, 1) := by decide +kernel
theorem dX11_dutyOf_42 : decode cX11_dutyOf 42 = .ok (.if_icmp .ne 14, 3) := by decide +kernel
theorem dX11_dutyOf_45 : decode cX11_dutyOf 45 = .ok (.aload_n 0, 1) := by decide +kernel
theorem dX11_dutyOf_46 : decode cX11_dutyOf 46 = .ok (.getfield 22, 3) := by decide +kernel
theorem dX11_dutyOf_49 : decode cX11_dutyOf 49 = .ok (.iload_n 1, 1) := by decide +kernel
theorem dX11_dutyOf_50 : decode cX11_dutyOf 50 = .ok (.iaload, 1) := by decide +kernel
theorem dX11_dutyOf_51 : decode cX11_dutyOf 51 = .ok (.iconst 1, 1) := by decide +kernel
theorem dX11_dutyOf_52 : decode cX11_dutyOf 52 = .ok (.iadd, 1) := by decide +kernel
theorem dX11_dutyOf_53 : decode cX11_dutyOf 53 = .ok (.goto 9, 3) := by decide +kernel
theorem dX11_dutyOf_56 : decode cX11_dutyOf 56 = .ok (.aload_n 0, 1) := by decide +kernel
theorem dX11_dutyOf_57 : decode cX11_dutyOf 57 = .ok (.getfield 22, 3) := by decide +kernel
theorem dX11_dutyOf_60 : decode cX11_dutyOf 60 = .ok (.iload_n 1, 1) := by decide +kernel
theorem dX11_dutyOf_61 : decode cX11_dutyOf 61 = .ok (.iaload, 1) := by decide +kernel
theorem dX11_dutyOf_62 : decode cX11_dutyOf 62 = .ok (.istore 6, 2) := by decide +kernel
theorem dX11_dutyOf_64 : decode cX11_dutyOf 64 = .ok (.iload 5, 2) := by decide +kernel
theorem dX11_dutyOf_66 : decode cX11_dutyOf 66 = .ok (.iload 6, 2) := by decide +kernel
theorem dX11_dutyOf_68 : decode cX11_dutyOf 68 = .ok (.imul, 1) := by decide +kernel
theorem dX11_dutyOf_69 : decode cX11_dutyOf 69 = .ok (.aload_n 0, 1) := by decide +kernel
theorem dX11_dutyOf_70 : decode cX11_dutyOf 70 = .ok (.iload_n 2, 1) := by decide +kernel
theorem dX11_dutyOf_71 : decode cX11_dutyOf 71 = .ok (.iload_n 3, 1) := by decide +kernel
theorem dX11_dutyOf_72 : decode cX11_dutyOf 72 = .ok (.invokevirtual 149, 3) := by decide +kernel
theorem dX11_dutyOf_75 : decode cX11_dutyOf 75 = .ok (.imul, 1) := by decide +kernel
theorem dX11_dutyOf_76 : decode cX11_dutyOf 76 = .ok (.istore 7, 2) := by decide +kernel
theorem dX11_dutyOf_78 : decode cX11_dutyOf 78 = .ok (.aload_n 0, 1) := by decide +kernel
theorem dX11_dutyOf_79 : decode cX11_dutyOf 79 = .ok (.getfield 19, 3) := by decide +kernel
theorem dX11_dutyOf_82 : decode cX11_dutyOf 82 = .ok (.iload_n 1, 1) := by decide +kernel
theorem dX11_dutyOf_83 : decode cX11_dutyOf 83 = .ok (.iaload, 1) := by decide +kernel
theorem dX11_dutyOf_84 : decode cX11_dutyOf 84 = .ok (.iconst 2, 1) := by decide +kernel
theorem dX11_dutyOf_85 : decode cX11_dutyOf 85 = .ok (.if_icmp .ne 10, 3) := by decide +kernel
theorem dX11_dutyOf_88 : decode cX11_dutyOf 88 = .ok (.iload 7, 2) := by decide +kernel
theorem dX11_dutyOf_90 : decode cX11_dutyOf 90 = .ok (.iconst 2, 1) := by decide +kernel
theorem dX11_dutyOf_91 : decode cX11_dutyOf 91 = .ok (.idiv, 1) := by decide +kernel
theorem dX11_dutyOf_92 : decode cX11_dutyOf 92 = .ok (.goto 5, 3) := by decide +kernel
theorem dX11_dutyOf_95 : decode cX11_dutyOf 95 = .ok (.iload 7, 2) := by decide +kernel
theorem dX11_dutyOf_97 : decode cX11_dutyOf 97 = .ok (.ireturn, 1) := by decide +kernel
set_option maxRecDepth 20000 in
theorem ggX11_duty_X11_isGate : GoodIn wsX11_duty wsX11_isGate := goodIn_r _ [6, 7, 41, 42, 43, 44, 45, 46, 47, 48, 49, 50, 51, 52, 53, 54, 55, 56, 57, 58, 59, 60, 61, 62, 63, 64, 65, 66, 67, 68, 69, 70, 71, 72, 73, 74] (by decide +kernel) (by decide +kernel)
set_option maxRecDepth 20000 in
theorem gX11_duty_X11_isGate : GoodIn wsX11_duty (wsV RX11 136 RX11 yX11_isGate wsX11_isGate) := goodIn_app (goodIn_of _ (by decide +kernel)) ggX11_duty_X11_isGate
set_option maxRecDepth 20000 in
theorem ggX11_duty_X11_isStory : GoodIn wsX11_duty wsX11_isStory := goodIn_r _ [11, 12, 41, 42, 43, 44, 45, 46, 47, 48, 49, 50, 51, 52, 53, 54, 55, 56, 57, 58, 59, 60, 61, 62, 63, 64, 65, 66, 67, 68, 69, 70, 71, 72, 73, 74] (by decide +kernel) (by decide +kernel)
set_option maxRecDepth 20000 in
theorem gX11_duty_X11_isStory : GoodIn wsX11_duty (wsV RX11 139 RX11 yX11_isStory wsX11_isStory) := goodIn_app (goodIn_of _ (by decide +kernel)) ggX11_duty_X11_isStory
set_option maxRecDepth 20000 in
theorem ggX11_duty_X11_isDay : GoodIn wsX11_duty wsX11_isDay := goodIn_r _ [15, 16, 17, 5, 18] (by decide +kernel) (by decide +kernel)
set_option maxRecDepth 20000 in
theorem gX11_duty_X11_isDay : GoodIn wsX11_duty (va_wsS RX11 146 yX11_isDay wsX11_isDay) := goodIn_app (goodIn_of _ (by decide +kernel)) ggX11_duty_X11_isDay
set_option maxRecDepth 20000 in
theorem ggX11_duty_X11_within : GoodIn wsX11_duty wsX11_within := goodIn_r _ [18] (by decide +kernel) (by decide +kernel)
set_option maxRecDepth 20000 in
theorem gX11_duty_X11_within : GoodIn wsX11_duty (va_wsS RX11 79 yX11_within wsX11_within) := goodIn_app (goodIn_of _ (by decide +kernel)) ggX11_duty_X11_within
set_option maxRecDepth 20000 in
theorem ggX11_duty_X11_dutyOf : GoodIn wsX11_duty wsX11_dutyOf := goodIn_r _ [22, 23, 24, 25, 26, 27, 28, 29, 30, 5, 31, 32, 33, 34, 35, 36, 37, 38, 39, 40, 1, 41, 42, 43, 44, 45, 46, 47, 48, 49, 50, 51, 52, 53, 54, 55, 56, 57, 58, 59, 60, 61, 62, 63, 64, 65, 66, 67, 68, 69, 70, 71, 72, 73, 74] (by decide +kernel) (by decide +kernel)
set_option maxRecDepth 20000 in
theorem gX11_duty_X11_dutyOf : GoodIn wsX11_duty (wsV RX11 155 RX11 yX11_dutyOf wsX11_dutyOf) := goodIn_app (goodIn_of _ (by decide +kernel)) ggX11_duty_X11_dutyOf
theorem dX11_duty_0 : decode cX11_duty 0 = .ok (.aload_n 0, 1) := by decide +kernel
theorem dX11_duty_1 : decode cX11_duty 1 = .ok (.iload_n 1, 1) := by decide +kernel
theorem dX11_duty_2 : decode cX11_duty 2 = .ok (.invokevirtual 136, 3) := by decide +kernel
theorem dX11_duty_5 : decode cX11_duty 5 = .ok (.ifCond .eq 11, 3) := by decide +kernel
theorem dX11_duty_8 : decode cX11_duty 8 = .ok (.aload_n 0, 1) := by decide +kernel
theorem dX11_duty_9 : decode cX11_duty 9 = .ok (.iload_n 2, 1) := by decide +kernel
theorem dX11_duty_10 : decode cX11_duty 10 = .ok (.invokevirtual 139, 3) := by decide +kernel
theorem dX11_duty_13 : decode cX11_duty 13 = .ok (.ifCond .ne 5, 3) := by decide +kernel
theorem dX11_duty_16 : decode cX11_duty 16 = .ok (.iconst (-1), 1) := by decide +kernel
theorem dX11_duty_17 : decode cX11_duty 17 = .ok (.ireturn, 1) := by decide +kernel
theorem dX11_duty_18 : decode cX11_duty 18 = .ok (.iload_n 3, 1) := by decide +kernel
theorem dX11_duty_19 : decode cX11_duty 19 = .ok (.invokestatic 146, 3) := by decide +kernel
theorem dX11_duty_22 : decode cX11_duty 22 = .ok (.ifCond .eq 14, 3) := by decide +kernel
theorem dX11_duty_25 : decode cX11_duty 25 = .ok (.iload 4, 2) := by decide +kernel
theorem dX11_duty_27 : decode cX11_duty 27 = .ok (.iconst 0, 1) := by decide +kernel
theorem dX11_duty_28 : decode cX11_duty 28 = .ok (.bipush 7, 2) := by decide +kernel
theorem dX11_duty_30 : decode cX11_duty 30 = .ok (.invokestatic 79, 3) := by decide +kernel
theorem dX11_duty_33 : decode cX11_duty 33 = .ok (.ifCond .ne 6, 3) := by decide +kernel
theorem dX11_duty_36 : decode cX11_duty 36 = .ok (.bipush (-2), 2) := by decide +kernel
theorem dX11_duty_38 : decode cX11_duty 38 = .ok (.ireturn, 1) := by decide +kernel
theorem dX11_duty_39 : decode cX11_duty 39 = .ok (.iload_n 3, 1) := by decide +kernel
theorem dX11_duty_40 : decode cX11_duty 40 = .ok (.aload_n 0, 1) := by decide +kernel
theorem dX11_duty_41 : decode cX11_duty 41 = .ok (.getfield 34, 3) := by decide +kernel
theorem dX11_duty_44 : decode cX11_duty 44 = .ok (.iload_n 2, 1) := by decide +kernel
theorem dX11_duty_45 : decode cX11_duty 45 = .ok (.iaload, 1) := by decide +kernel
theorem dX11_duty_46 : decode cX11_duty 46 = .ok (.if_icmp .ge 8, 3) := by decide +kernel
theorem dX11_duty_49 : decode cX11_duty 49 = .ok (.bipush (-9), 2) := by decide +kernel
theorem dX11_duty_51 : decode cX11_duty 51 = .ok (.goto 12, 3) := by decide +kernel
theorem dX11_duty_54 : decode cX11_duty 54 = .ok (.aload_n 0, 1) := by decide +kernel
theorem dX11_duty_55 : decode cX11_duty 55 = .ok (.iload_n 1, 1) := by decide +kernel
theorem dX11_duty_56 : decode cX11_duty 56 = .ok (.iload_n 2, 1) := by decide +kernel
theorem dX11_duty_57 : decode cX11_duty 57 = .ok (.iload_n 3, 1) := by decide +kernel
theorem dX11_duty_58 : decode cX11_duty 58 = .ok (.iload 4, 2) := by decide +kernel
theorem dX11_duty_60 : decode cX11_duty 60 = .ok (.invokevirtual 155, 3) := by decide +kernel
theorem dX11_duty_63 : decode cX11_duty 63 = .ok (.ireturn, 1) := by decide +kernel
set_option maxRecDepth 20000 in
theorem ggX11_isRow_X11_isSort : GoodIn wsX11_isRow wsX11_isSort := goodIn_r _ [4, 5, 6, 3, 7] (by decide +kernel) (by decide +kernel)
set_option maxRecDepth 20000 in
theorem gX11_isRow_X11_isSort : GoodIn wsX11_isRow (va_wsS RX11 96 yX11_isSort wsX11_isSort) := goodIn_app (goodIn_of _ (by decide +kernel)) ggX11_isRow_X11_isSort
set_option maxRecDepth 20000 in
theorem ggX11_isRow_X11_within : GoodIn wsX11_isRow wsX11_within := goodIn_r _ [7] (by decide +kernel) (by decide +kernel)
set_option maxRecDepth 20000 in
theorem gX11_isRow_X11_within : GoodIn wsX11_isRow (va_wsS RX11 79 yX11_within wsX11_within) := goodIn_app (goodIn_of _ (by decide +kernel)) ggX11_isRow_X11_within
theorem dX11_isRow_0 : decode cX11_isRow 0 = .ok (.iload_n 0, 1) := by decide +kernel
theorem dX11_isRow_1 : decode cX11_isRow 1 = .ok (.invokestatic 96, 3) := by decide +kernel
theorem dX11_isRow_4 : decode cX11_isRow 4 = .ok (.ifCond .eq 17, 3) := by decide +kernel
theorem dX11_isRow_7 : decode cX11_isRow 7 = .ok (.iload_n 1, 1) := by decide +kernel
theorem dX11_isRow_8 : decode cX11_isRow 8 = .ok (.iconst 0, 1) := by decide +kernel
theorem dX11_isRow_9 : decode cX11_isRow 9 = .ok (.bipush 12, 2) := by decide +kernel
theorem dX11_isRow_11 : decode cX11_isRow 11 = .ok (.invokestatic 79, 3) := by decide +kernel
theorem dX11_isRow_14 : decode cX11_isRow 14 = .ok (.ifCond .eq 7, 3) := by decide +kernel
theorem dX11_isRow_17 : decode cX11_isRow 17 = .ok (.iconst 1, 1) := by decide +kernel
theorem dX11_isRow_18 : decode cX11_isRow 18 = .ok (.goto 4, 3) := by decide +kernel
theorem dX11_isRow_21 : decode cX11_isRow 21 = .ok (.iconst 0, 1) := by decide +kernel
theorem dX11_isRow_22 : decode cX11_isRow 22 = .ok (.ireturn, 1) := by decide +kernel
set_option maxRecDepth 20000 in
theorem ggX11_layPassages_X11_against : GoodIn wsX11_layPassages wsX11_against := goodIn_r _ [11, 12, 13, 34, 35, 36, 37, 38, 39, 40, 41, 42, 43, 44, 45, 46, 47, 48, 49, 50, 51, 52, 53, 54, 55, 56, 57, 58, 59, 60, 61, 62, 63, 64, 65, 66, 67] (by decide +kernel) (by decide +kernel)
set_option maxRecDepth 20000 in
theorem gX11_layPassages_X11_against : GoodIn wsX11_layPassages (wsV RX11 99 RX11 yX11_against wsX11_against) := goodIn_app (goodIn_of _ (by decide +kernel)) ggX11_layPassages_X11_against
set_option maxRecDepth 20000 in
theorem ggX11_layPassages_X11_fails : GoodIn wsX11_layPassages wsX11_fails := goodIn_r _ [17, 18, 34, 35, 36, 37, 38, 39, 40, 41, 42, 43, 44, 45, 46, 47, 48, 49, 50, 51, 52, 53, 54, 55, 56, 57, 58, 59, 60, 61, 62, 63, 64, 65, 66, 67] (by decide +kernel) (by decide +kernel)
set_option maxRecDepth 20000 in
theorem gX11_layPassages_X11_fails : GoodIn wsX11_layPassages (wsV RX11 103 RX11 yX11_fails wsX11_fails) := goodIn_app (goodIn_of _ (by decide +kernel)) ggX11_layPassages_X11_fails
set_option maxRecDepth 20000 in
theorem ggX11_layPassages_X11_isStory : GoodIn wsX11_layPassages wsX11_isStory := goodIn_r _ [22, 23, 34, 35, 36, 37, 38, 39, 40, 41, 42, 43, 44, 45, 46, 47, 48, 49, 50, 51, 52, 53, 54, 55, 56, 57, 58, 59, 60, 61, 62, 63, 64, 65, 66, 67] (by decide +kernel) (by decide +kernel)
set_option maxRecDepth 20000 in
theorem gX11_layPassages_X11_isStory : GoodIn wsX11_layPassages (wsV RX11 139 RX11 yX11_isStory wsX11_isStory) := goodIn_app (goodIn_of _ (by decide +kernel)) ggX11_layPassages_X11_isStory
set_option maxRecDepth 20000 in
theorem ggX11_layPassages_X11_isGate : GoodIn wsX11_layPassages wsX11_isGate := goodIn_r _ [27, 1, 34, 35, 36, 37, 38, 39, 40, 41, 42, 43, 44, 45, 46, 47, 48, 49, 50, 51, 52, 53, 54, 55, 56, 57, 58, 59, 60, 61, 62, 63, 64, 65, 66, 67] (by decide +kernel) (by decide +kernel)
set_option maxRecDepth 20000 in
theorem gX11_layPassages_X11_isGate : GoodIn wsX11_layPassages (wsV RX11 136 RX11 yX11_isGate wsX11_isGate) := goodIn_app (goodIn_of _ (by decide +kernel)) ggX11_layPassages_X11_isGate
set_option maxRecDepth 20000 in
theorem ggX11_layPassages_X11_isDay : GoodIn wsX11_layPassages wsX11_isDay := goodIn_r _ [30, 31, 32, 10, 33] (by decide +kernel) (by decide +kernel)
set_option maxRecDepth 20000 in
theorem gX11_layPassages_X11_isDay : GoodIn wsX11_layPassages (va_wsS RX11 146 yX11_isDay wsX11_isDay) := goodIn_app (goodIn_of _ (by decide +kernel)) ggX11_layPassages_X11_isDay
theorem dX11_layPassages_0 : decode cX11_layPassages 0 = .ok (.aload_n 0, 1) := by decide +kernel
theorem dX11_layPassages_1 : decode cX11_layPassages 1 = .ok (.iload_n 1, 1) := by decide +kernel
theorem dX11_layPassages_2 : decode cX11_layPassages 2 = .ok (.iload_n 2, 1) := by decide +kernel
theorem dX11_layPassages_3 : decode cX11_layPassages 3 = .ok (.iload_n 3, 1) := by decide +kernel
theorem dX11_layPassages_4 : decode cX11_layPassages 4 = .ok (.iconst 3, 1) := by decide +kernel
theorem dX11_layPassages_5 : decode cX11_layPassages 5 = .ok (.iload 4, 2) := by decide +kernel
theorem dX11_layPassages_7 : decode cX11_layPassages 7 = .ok (.imul, 1) := by decide +kernel
theorem dX11_layPassages_8 : decode cX11_layPassages 8 = .ok (.invokevirtual 99, 3) := by decide +kernel
theorem dX11_layPassages_11 : decode cX11_layPassages 11 = .ok (.istore 5, 2) := by decide +kernel
theorem dX11_layPassages_13 : decode cX11_layPassages 13 = .ok (.iload 5, 2) := by decide +kernel
theorem dX11_layPassages_15 : decode cX11_layPassages 15 = .ok (.ifCond .eq 10, 3) := by decide +kernel
theorem dX11_layPassages_18 : decode cX11_layPassages 18 = .ok (.aload_n 0, 1) := by decide +kernel
theorem dX11_layPassages_19 : decode cX11_layPassages 19 = .ok (.iload 5, 2) := by decide +kernel
theorem dX11_layPassages_21 : decode cX11_layPassages 21 = .ok (.invokevirtual 103, 3) := by decide +kernel
theorem dX11_layPassages_24 : decode cX11_layPassages 24 = .ok (.ireturn, 1) := by decide +kernel
theorem dX11_layPassages_25 : decode cX11_layPassages 25 = .ok (.aload_n 0, 1) := by decide +kernel
theorem dX11_layPassages_26 : decode cX11_layPassages 26 = .ok (.getfield 83, 3) := by decide +kernel
theorem dX11_layPassages_29 : decode cX11_layPassages 29 = .ok (.ifCond .ne 6, 3) := by decide +kernel
theorem dX11_layPassages_32 : decode cX11_layPassages 32 = .ok (.bipush (-3), 2) := by decide +kernel
theorem dX11_layPassages_34 : decode cX11_layPassages 34 = .ok (.ireturn, 1) := by decide +kernel
theorem dX11_layPassages_35 : decode cX11_layPassages 35 = .ok (.bipush 60, 2) := by decide +kernel
theorem dX11_layPassages_37 : decode cX11_layPassages 37 = .ok (.iload_n 1, 1) := by decide +kernel
theorem dX11_layPassages_38 : decode cX11_layPassages 38 = .ok (.imul, 1) := by decide +kernel
theorem dX11_layPassages_39 : decode cX11_layPassages 39 = .ok (.iload_n 3, 1) := by decide +kernel
theorem dX11_layPassages_40 : decode cX11_layPassages 40 = .ok (.iadd, 1) := by decide +kernel
theorem dX11_layPassages_41 : decode cX11_layPassages 41 = .ok (.istore 6, 2) := by decide +kernel
theorem dX11_layPassages_43 : decode cX11_layPassages 43 = .ok (.iconst 0, 1) := by decide +kernel
theorem dX11_layPassages_44 : decode cX11_layPassages 44 = .ok (.istore 7, 2) := by decide +kernel
theorem dX11_layPassages_46 : decode cX11_layPassages 46 = .ok (.iload 7, 2) := by decide +kernel
theorem dX11_layPassages_48 : decode cX11_layPassages 48 = .ok (.iload 4, 2) := by decide +kernel
theorem dX11_layPassages_50 : decode cX11_layPassages 50 = .ok (.if_icmp .ge 116, 3) := by decide +kernel
theorem dX11_layPassages_53 : decode cX11_layPassages 53 = .ok (.aload_n 0, 1) := by decide +kernel
theorem dX11_layPassages_54 : decode cX11_layPassages 54 = .ok (.getfield 47, 3) := by decide +kernel
theorem dX11_layPassages_57 : decode cX11_layPassages 57 = .ok (.iload 7, 2) := by decide +kernel
theorem dX11_layPassages_59 : decode cX11_layPassages 59 = .ok (.aload_n 0, 1) := by decide +kernel
theorem dX11_layPassages_60 : decode cX11_layPassages 60 = .ok (.getfield 16, 3) := by decide +kernel
theorem dX11_layPassages_63 : decode cX11_layPassages 63 = .ok (.iload 6, 2) := by decide +kernel
theorem dX11_layPassages_65 : decode cX11_layPassages 65 = .ok (.iconst 3, 1) := by decide +kernel
theorem dX11_layPassages_66 : decode cX11_layPassages 66 = .ok (.iload 7, 2) := by decide +kernel
theorem dX11_layPassages_68 : decode cX11_layPassages 68 = .ok (.imul, 1) := by decide +kernel
theorem dX11_layPassages_69 : decode cX11_layPassages 69 = .ok (.iadd, 1) := by decide +kernel
theorem dX11_layPassages_70 : decode cX11_layPassages 70 = .ok (.iaload, 1) := by decide +kernel
theorem dX11_layPassages_71 : decode cX11_layPassages 71 = .ok (.iastore, 1) := by decide +kernel
theorem dX11_layPassages_72 : decode cX11_layPassages 72 = .ok (.aload_n 0, 1) := by decide +kernel
theorem dX11_layPassages_73 : decode cX11_layPassages 73 = .ok (.getfield 50, 3) := by decide +kernel
theorem dX11_layPassages_76 : decode cX11_layPassages 76 = .ok (.iload 7, 2) := by decide +kernel
theorem dX11_layPassages_78 : decode cX11_layPassages 78 = .ok (.aload_n 0, 1) := by decide +kernel
theorem dX11_layPassages_79 : decode cX11_layPassages 79 = .ok (.getfield 16, 3) := by decide +kernel
theorem dX11_layPassages_82 : decode cX11_layPassages 82 = .ok (.iload 6, 2) := by decide +kernel
theorem dX11_layPassages_84 : decode cX11_layPassages 84 = .ok (.iconst 3, 1) := by decide +kernel
theorem dX11_layPassages_85 : decode cX11_layPassages 85 = .ok (.iload 7, 2) := by decide +kernel
theorem dX11_layPassages_87 : decode cX11_layPassages 87 = .ok (.imul, 1) := by decide +kernel
theorem dX11_layPassages_88 : decode cX11_layPassages 88 = .ok (.iadd, 1) := by decide +kernel
theorem dX11_layPassages_89 : decode cX11_layPassages 89 = .ok (.iconst 1, 1) := by decide +kernel
theorem dX11_layPassages_90 : decode cX11_layPassages 90 = .ok (.iadd, 1) := by decide +kernel
theorem dX11_layPassages_91 : decode cX11_layPassages 91 = .ok (.iaload, 1) := by decide +kernel
theorem dX11_layPassages_92 : decode cX11_layPassages 92 = .ok (.iastore, 1) := by decide +kernel
theorem dX11_layPassages_93 : decode cX11_layPassages 93 = .ok (.aload_n 0, 1) := by decide +kernel
theorem dX11_layPassages_94 : decode cX11_layPassages 94 = .ok (.getfield 53, 3) := by decide +kernel
theorem dX11_layPassages_97 : decode cX11_layPassages 97 = .ok (.iload 7, 2) := by decide +kernel
theorem dX11_layPassages_99 : decode cX11_layPassages 99 = .ok (.aload_n 0, 1) := by decide +kernel
theorem dX11_layPassages_100 : decode cX11_layPassages 100 = .ok (.getfield 16, 3) := by decide +kernel
theorem dX11_layPassages_103 : decode cX11_layPassages 103 = .ok (.iload 6, 2) := by decide +kernel
theorem dX11_layPassages_105 : decode cX11_layPassages 105 = .ok (.iconst 3, 1) := by decide +kernel
theorem dX11_layPassages_106 : decode cX11_layPassages 106 = .ok (.iload 7, 2) := by decide +kernel
theorem dX11_layPassages_108 : decode cX11_layPassages 108 = .ok (.imul, 1) := by decide +kernel
theorem dX11_layPassages_109 : decode cX11_layPassages 109 = .ok (.iadd, 1) := by decide +kernel
theorem dX11_layPassages_110 : decode cX11_layPassages 110 = .ok (.iconst 2, 1) := by decide +kernel
theorem dX11_layPassages_111 : decode cX11_layPassages 111 = .ok (.iadd, 1) := by decide +kernel
theorem dX11_layPassages_112 : decode cX11_layPassages 112 = .ok (.iaload, 1) := by decide +kernel
theorem dX11_layPassages_113 : decode cX11_layPassages 113 = .ok (.iastore, 1) := by decide +kernel
theorem dX11_layPassages_114 : decode cX11_layPassages 114 = .ok (.aload_n 0, 1) := by decide +kernel
theorem dX11_layPassages_115 : decode cX11_layPassages 115 = .ok (.aload_n 0, 1) := by decide +kernel
theorem dX11_layPassages_116 : decode cX11_layPassages 116 = .ok (.getfield 47, 3) := by decide +kernel
theorem dX11_layPassages_119 : decode cX11_layPassages 119 = .ok (.iload 7, 2) := by decide +kernel
theorem dX11_layPassages_121 : decode cX11_layPassages 121 = .ok (.iaload, 1) := by decide +kernel
theorem dX11_layPassages_122 : decode cX11_layPassages 122 = .ok (.invokevirtual 139, 3) := by decide +kernel
theorem dX11_layPassages_125 : decode cX11_layPassages 125 = .ok (.ifCond .eq 17, 3) := by decide +kernel
theorem dX11_layPassages_128 : decode cX11_layPassages 128 = .ok (.aload_n 0, 1) := by decide +kernel
theorem dX11_layPassages_129 : decode cX11_layPassages 129 = .ok (.aload_n 0, 1) := by decide +kernel
theorem dX11_layPassages_130 : decode cX11_layPassages 130 = .ok (.getfield 50, 3) := by decide +kernel
theorem dX11_layPassages_133 : decode cX11_layPassages 133 = .ok (.iload 7, 2) := by decide +kernel
theorem dX11_layPassages_135 : decode cX11_layPassages 135 = .ok (.iaload, 1) := by decide +kernel
theorem dX11_layPassages_136 : decode cX11_layPassages 136 = .ok (.invokevirtual 136, 3) := by decide +kernel
theorem dX11_layPassages_139 : decode cX11_layPassages 139 = .ok (.ifCond .ne 5, 3) := by decide +kernel
theorem dX11_layPassages_142 : decode cX11_layPassages 142 = .ok (.iconst (-1), 1) := by decide +kernel
theorem dX11_layPassages_143 : decode cX11_layPassages 143 = .ok (.ireturn, 1) := by decide +kernel
theorem dX11_layPassages_144 : decode cX11_layPassages 144 = .ok (.aload_n 0, 1) := by decide +kernel
theorem dX11_layPassages_145 : decode cX11_layPassages 145 = .ok (.getfield 53, 3) := by decide +kernel
theorem dX11_layPassages_148 : decode cX11_layPassages 148 = .ok (.iload 7, 2) := by decide +kernel
theorem dX11_layPassages_150 : decode cX11_layPassages 150 = .ok (.iaload, 1) := by decide +kernel
theorem dX11_layPassages_151 : decode cX11_layPassages 151 = .ok (.invokestatic 146, 3) := by decide +kernel
theorem dX11_layPassages_154 : decode cX11_layPassages 154 = .ok (.ifCond .ne 6, 3) := by decide +kernel
theorem dX11_layPassages_157 : decode cX11_layPassages 157 = .ok (.bipush (-2), 2) := by decide +kernel
theorem dX11_layPassages_159 : decode cX11_layPassages 159 = .ok (.ireturn, 1) := by decide +kernel
theorem dX11_layPassages_160 : decode cX11_layPassages 160 = .ok (.iinc 7 1, 3) := by decide +kernel
theorem dX11_layPassages_163 : decode cX11_layPassages 163 = .ok (.goto (-117), 3) := by decide +kernel
theorem dX11_layPassages_166 : decode cX11_layPassages 166 = .ok (.aload_n 0, 1) := by decide +kernel
theorem dX11_layPassages_167 : decode cX11_layPassages 167 = .ok (.iload 4, 2) := by decide +kernel
theorem dX11_layPassages_169 : decode cX11_layPassages 169 = .ok (.putfield 158, 3) := by decide +kernel
theorem dX11_layPassages_172 : decode cX11_layPassages 172 = .ok (.iconst 0, 1) := by decide +kernel
theorem dX11_layPassages_173 : decode cX11_layPassages 173 = .ok (.ireturn, 1) := by decide +kernel
theorem dX11_spot_0 : decode cX11_spot 0 = .ok (.iconst 5, 1) := by decide +kernel
theorem dX11_spot_1 : decode cX11_spot 1 = .ok (.iload_n 0, 1) := by decide +kernel
theorem dX11_spot_2 : decode cX11_spot 2 = .ok (.imul, 1) := by decide +kernel
theorem dX11_spot_3 : decode cX11_spot 3 = .ok (.iload_n 1, 1) := by decide +kernel
theorem dX11_spot_4 : decode cX11_spot 4 = .ok (.iadd, 1) := by decide +kernel
theorem dX11_spot_5 : decode cX11_spot 5 = .ok (.bipush 8, 2) := by decide +kernel
theorem dX11_spot_7 : decode cX11_spot 7 = .ok (.imul, 1) := by decide +kernel
theorem dX11_spot_8 : decode cX11_spot 8 = .ok (.iload_n 2, 1) := by decide +kernel
theorem dX11_spot_9 : decode cX11_spot 9 = .ok (.iadd, 1) := by decide +kernel
theorem dX11_spot_10 : decode cX11_spot 10 = .ok (.ireturn, 1) := by decide +kernel
set_option maxRecDepth 20000 in
theorem ggX11_go_X11_spot : GoodIn wsX11_go wsX11_spot := goodIn_r _ [12] (by decide +kernel) (by decide +kernel)
set_option maxRecDepth 20000 in
theorem gX11_go_X11_spot : GoodIn wsX11_go (va_wsS RX11 161 yX11_spot wsX11_spot) := goodIn_app (goodIn_of _ (by decide +kernel)) ggX11_go_X11_spot
theorem dX11_go_0 : decode cX11_go 0 = .ok (.iconst 0, 1) := by decide +kernel
theorem dX11_go_1 : decode cX11_go 1 = .ok (.istore_n 1, 1) := by decide +kernel
theorem dX11_go_2 : decode cX11_go 2 = .ok (.iload_n 1, 1) := by decide +kernel
theorem dX11_go_3 : decode cX11_go 3 = .ok (.sipush 160, 3) := by decide +kernel
theorem dX11_go_6 : decode cX11_go 6 = .ok (.if_icmp .ge 16, 3) := by decide +kernel
theorem dX11_go_9 : decode cX11_go 9 = .ok (.aload_n 0, 1) := by decide +kernel
theorem dX11_go_10 : decode cX11_go 10 = .ok (.getfield 56, 3) := by decide +kernel
theorem dX11_go_13 : decode cX11_go 13 = .ok (.iload_n 1, 1) := by decide +kernel
theorem dX11_go_14 : decode cX11_go 14 = .ok (.iconst 0, 1) := by decide +kernel
theorem dX11_go_15 : decode cX11_go 15 = .ok (.iastore, 1) := by decide +kernel
theorem dX11_go_16 : decode cX11_go 16 = .ok (.iinc 1 1, 3) := by decide +kernel
theorem dX11_go_19 : decode cX11_go 19 = .ok (.goto (-17), 3) := by decide +kernel
theorem dX11_go_22 : decode cX11_go 22 = .ok (.iconst 0, 1) := by decide +kernel
theorem dX11_go_23 : decode cX11_go 23 = .ok (.istore_n 1, 1) := by decide +kernel
theorem dX11_go_24 : decode cX11_go 24 = .ok (.iload_n 1, 1) := by decide +kernel
theorem dX11_go_25 : decode cX11_go 25 = .ok (.iconst 4, 1) := by decide +kernel
theorem dX11_go_26 : decode cX11_go 26 = .ok (.if_icmp .ge 24, 3) := by decide +kernel
theorem dX11_go_29 : decode cX11_go 29 = .ok (.aload_n 0, 1) := by decide +kernel
theorem dX11_go_30 : decode cX11_go 30 = .ok (.getfield 59, 3) := by decide +kernel
theorem dX11_go_33 : decode cX11_go 33 = .ok (.iload_n 1, 1) := by decide +kernel
theorem dX11_go_34 : decode cX11_go 34 = .ok (.iconst 0, 1) := by decide +kernel
theorem dX11_go_35 : decode cX11_go 35 = .ok (.iastore, 1) := by decide +kernel
theorem dX11_go_36 : decode cX11_go 36 = .ok (.aload_n 0, 1) := by decide +kernel
theorem dX11_go_37 : decode cX11_go 37 = .ok (.getfield 62, 3) := by decide +kernel
theorem dX11_go_40 : decode cX11_go 40 = .ok (.iload_n 1, 1) := by decide +kernel
theorem dX11_go_41 : decode cX11_go 41 = .ok (.bipush (-9), 2) := by decide +kernel
theorem dX11_go_43 : decode cX11_go 43 = .ok (.iastore, 1) := by decide +kernel
theorem dX11_go_44 : decode cX11_go 44 = .ok (.iinc 1 1, 3) := by decide +kernel
theorem dX11_go_47 : decode cX11_go 47 = .ok (.goto (-23), 3) := by decide +kernel
theorem dX11_go_50 : decode cX11_go 50 = .ok (.iconst 0, 1) := by decide +kernel
theorem dX11_go_51 : decode cX11_go 51 = .ok (.istore_n 1, 1) := by decide +kernel
theorem dX11_go_52 : decode cX11_go 52 = .ok (.iload_n 1, 1) := by decide +kernel
theorem dX11_go_53 : decode cX11_go 53 = .ok (.aload_n 0, 1) := by decide +kernel
theorem dX11_go_54 : decode cX11_go 54 = .ok (.getfield 158, 3) := by decide +kernel
theorem dX11_go_57 : decode cX11_go 57 = .ok (.if_icmp .ge 121, 3) := by decide +kernel
theorem dX11_go_60 : decode cX11_go 60 = .ok (.aload_n 0, 1) := by decide +kernel
theorem dX11_go_61 : decode cX11_go 61 = .ok (.getfield 47, 3) := by decide +kernel
theorem dX11_go_64 : decode cX11_go 64 = .ok (.iload_n 1, 1) := by decide +kernel
theorem dX11_go_65 : decode cX11_go 65 = .ok (.iaload, 1) := by decide +kernel
theorem dX11_go_66 : decode cX11_go 66 = .ok (.istore_n 2, 1) := by decide +kernel
theorem dX11_go_67 : decode cX11_go 67 = .ok (.aload_n 0, 1) := by decide +kernel
theorem dX11_go_68 : decode cX11_go 68 = .ok (.getfield 53, 3) := by decide +kernel
theorem dX11_go_71 : decode cX11_go 71 = .ok (.iload_n 1, 1) := by decide +kernel
theorem dX11_go_72 : decode cX11_go 72 = .ok (.iaload, 1) := by decide +kernel
theorem dX11_go_73 : decode cX11_go 73 = .ok (.aload_n 0, 1) := by decide +kernel
theorem dX11_go_74 : decode cX11_go 74 = .ok (.getfield 34, 3) := by decide +kernel
theorem dX11_go_77 : decode cX11_go 77 = .ok (.iload_n 2, 1) := by decide +kernel
theorem dX11_go_78 : decode cX11_go 78 = .ok (.iaload, 1) := by decide +kernel
theorem dX11_go_79 : decode cX11_go 79 = .ok (.if_icmp .lt 13, 3) := by decide +kernel
theorem dX11_go_82 : decode cX11_go 82 = .ok (.aload_n 0, 1) := by decide +kernel
theorem dX11_go_83 : decode cX11_go 83 = .ok (.getfield 59, 3) := by decide +kernel
theorem dX11_go_86 : decode cX11_go 86 = .ok (.iload_n 2, 1) := by decide +kernel
theorem dX11_go_87 : decode cX11_go 87 = .ok (.iaload, 1) := by decide +kernel
theorem dX11_go_88 : decode cX11_go 88 = .ok (.iconst 3, 1) := by decide +kernel
theorem dX11_go_89 : decode cX11_go 89 = .ok (.if_icmp .ne 5, 3) := by decide +kernel
theorem dX11_go_92 : decode cX11_go 92 = .ok (.iload_n 1, 1) := by decide +kernel
theorem dX11_go_93 : decode cX11_go 93 = .ok (.ireturn, 1) := by decide +kernel
theorem dX11_go_94 : decode cX11_go 94 = .ok (.aload_n 0, 1) := by decide +kernel
theorem dX11_go_95 : decode cX11_go 95 = .ok (.getfield 56, 3) := by decide +kernel
theorem dX11_go_98 : decode cX11_go 98 = .ok (.iload_n 2, 1) := by decide +kernel
theorem dX11_go_99 : decode cX11_go 99 = .ok (.aload_n 0, 1) := by decide +kernel
theorem dX11_go_100 : decode cX11_go 100 = .ok (.getfield 50, 3) := by decide +kernel
theorem dX11_go_103 : decode cX11_go 103 = .ok (.iload_n 1, 1) := by decide +kernel
theorem dX11_go_104 : decode cX11_go 104 = .ok (.iaload, 1) := by decide +kernel
theorem dX11_go_105 : decode cX11_go 105 = .ok (.aload_n 0, 1) := by decide +kernel
theorem dX11_go_106 : decode cX11_go 106 = .ok (.getfield 53, 3) := by decide +kernel
theorem dX11_go_109 : decode cX11_go 109 = .ok (.iload_n 1, 1) := by decide +kernel
theorem dX11_go_110 : decode cX11_go 110 = .ok (.iaload, 1) := by decide +kernel
theorem dX11_go_111 : decode cX11_go 111 = .ok (.invokestatic 161, 3) := by decide +kernel
theorem dX11_go_114 : decode cX11_go 114 = .ok (.dup2, 1) := by decide +kernel
theorem dX11_go_115 : decode cX11_go 115 = .ok (.iaload, 1) := by decide +kernel
theorem dX11_go_116 : decode cX11_go 116 = .ok (.iconst 1, 1) := by decide +kernel
theorem dX11_go_117 : decode cX11_go 117 = .ok (.aload_n 0, 1) := by decide +kernel
theorem dX11_go_118 : decode cX11_go 118 = .ok (.getfield 59, 3) := by decide +kernel
theorem dX11_go_121 : decode cX11_go 121 = .ok (.iload_n 2, 1) := by decide +kernel
theorem dX11_go_122 : decode cX11_go 122 = .ok (.iaload, 1) := by decide +kernel
theorem dX11_go_123 : decode cX11_go 123 = .ok (.ishl, 1) := by decide +kernel
theorem dX11_go_124 : decode cX11_go 124 = .ok (.ior, 1) := by decide +kernel
theorem dX11_go_125 : decode cX11_go 125 = .ok (.iastore, 1) := by decide +kernel
theorem dX11_go_126 : decode cX11_go 126 = .ok (.aload_n 0, 1) := by decide +kernel
theorem dX11_go_127 : decode cX11_go 127 = .ok (.getfield 59, 3) := by decide +kernel
theorem dX11_go_130 : decode cX11_go 130 = .ok (.iload_n 2, 1) := by decide +kernel
theorem dX11_go_131 : decode cX11_go 131 = .ok (.dup2, 1) := by decide +kernel
theorem dX11_go_132 : decode cX11_go 132 = .ok (.iaload, 1) := by decide +kernel
theorem dX11_go_133 : decode cX11_go 133 = .ok (.iconst 1, 1) := by decide +kernel
theorem dX11_go_134 : decode cX11_go 134 = .ok (.iadd, 1) := by decide +kernel
theorem dX11_go_135 : decode cX11_go 135 = .ok (.iastore, 1) := by decide +kernel
theorem dX11_go_136 : decode cX11_go 136 = .ok (.aload_n 0, 1) := by decide +kernel
theorem dX11_go_137 : decode cX11_go 137 = .ok (.getfield 62, 3) := by decide +kernel
theorem dX11_go_140 : decode cX11_go 140 = .ok (.iload_n 2, 1) := by decide +kernel
theorem dX11_go_141 : decode cX11_go 141 = .ok (.aload_n 0, 1) := by decide +kernel
theorem dX11_go_142 : decode cX11_go 142 = .ok (.getfield 53, 3) := by decide +kernel
theorem dX11_go_145 : decode cX11_go 145 = .ok (.iload_n 1, 1) := by decide +kernel
theorem dX11_go_146 : decode cX11_go 146 = .ok (.iaload, 1) := by decide +kernel
theorem dX11_go_147 : decode cX11_go 147 = .ok (.aload_n 0, 1) := by decide +kernel
theorem dX11_go_148 : decode cX11_go 148 = .ok (.getfield 62, 3) := by decide +kernel
theorem dX11_go_151 : decode cX11_go 151 = .ok (.iload_n 2, 1) := by decide +kernel
theorem dX11_go_152 : decode cX11_go 152 = .ok (.iaload, 1) := by decide +kernel
theorem dX11_go_153 : decode cX11_go 153 = .ok (.if_icmp .le 12, 3) := by decide +kernel
theorem dX11_go_156 : decode cX11_go 156 = .ok (.aload_n 0, 1) := by decide +kernel
theorem dX11_go_157 : decode cX11_go 157 = .ok (.getfield 53, 3) := by decide +kernel
theorem dX11_go_160 : decode cX11_go 160 = .ok (.iload_n 1, 1) := by decide +kernel
theorem dX11_go_161 : decode cX11_go 161 = .ok (.iaload, 1) := by decide +kernel
theorem dX11_go_162 : decode cX11_go 162 = .ok (.goto 9, 3) := by decide +kernel
theorem dX11_go_165 : decode cX11_go 165 = .ok (.aload_n 0, 1) := by decide +kernel
theorem dX11_go_166 : decode cX11_go 166 = .ok (.getfield 62, 3) := by decide +kernel
theorem dX11_go_169 : decode cX11_go 169 = .ok (.iload_n 2, 1) := by decide +kernel
theorem dX11_go_170 : decode cX11_go 170 = .ok (.iaload, 1) := by decide +kernel
theorem dX11_go_171 : decode cX11_go 171 = .ok (.iastore, 1) := by decide +kernel
theorem dX11_go_172 : decode cX11_go 172 = .ok (.iinc 1 1, 3) := by decide +kernel
theorem dX11_go_175 : decode cX11_go 175 = .ok (.goto (-123), 3) := by decide +kernel
theorem dX11_go_178 : decode cX11_go 178 = .ok (.bipush (-9), 2) := by decide +kernel
theorem dX11_go_180 : decode cX11_go 180 = .ok (.ireturn, 1) := by decide +kernel
set_option maxRecDepth 20000 in
theorem ggX11_takeAll_X11_spot : GoodIn wsX11_takeAll wsX11_spot := goodIn_r _ [9] (by decide +kernel) (by decide +kernel)
set_option maxRecDepth 20000 in
theorem gX11_takeAll_X11_spot : GoodIn wsX11_takeAll (va_wsS RX11 161 yX11_spot wsX11_spot) := goodIn_app (goodIn_of _ (by decide +kernel)) ggX11_takeAll_X11_spot
set_option maxRecDepth 20000 in
theorem ggX11_takeAll_X11_dutyOf : GoodIn wsX11_takeAll wsX11_dutyOf := goodIn_r _ [13, 14, 15, 16, 17, 18, 19, 20, 21, 8, 22, 23, 24, 25, 26, 27, 28, 29, 30, 31, 4, 32, 33, 34, 35, 36, 37, 38, 39, 40, 41, 42, 43, 44, 45, 46, 47, 48, 49, 50, 51, 52, 53, 54, 55, 56, 57, 58, 59, 60, 61, 62, 63, 64, 65] (by decide +kernel) (by decide +kernel)
set_option maxRecDepth 20000 in
theorem gX11_takeAll_X11_dutyOf : GoodIn wsX11_takeAll (wsV RX11 155 RX11 yX11_dutyOf wsX11_dutyOf) := goodIn_app (goodIn_of _ (by decide +kernel)) ggX11_takeAll_X11_dutyOf
theorem dX11_takeAll_0 : decode cX11_takeAll 0 = .ok (.iconst 0, 1) := by decide +kernel
theorem dX11_takeAll_1 : decode cX11_takeAll 1 = .ok (.istore_n 1, 1) := by decide +kernel
theorem dX11_takeAll_2 : decode cX11_takeAll 2 = .ok (.iconst 0, 1) := by decide +kernel
theorem dX11_takeAll_3 : decode cX11_takeAll 3 = .ok (.istore_n 2, 1) := by decide +kernel
theorem dX11_takeAll_4 : decode cX11_takeAll 4 = .ok (.iload_n 2, 1) := by decide +kernel
theorem dX11_takeAll_5 : decode cX11_takeAll 5 = .ok (.aload_n 0, 1) := by decide +kernel
theorem dX11_takeAll_6 : decode cX11_takeAll 6 = .ok (.getfield 83, 3) := by decide +kernel
theorem dX11_takeAll_9 : decode cX11_takeAll 9 = .ok (.if_icmp .ge 91, 3) := by decide +kernel
theorem dX11_takeAll_12 : decode cX11_takeAll 12 = .ok (.aload_n 0, 1) := by decide +kernel
theorem dX11_takeAll_13 : decode cX11_takeAll 13 = .ok (.getfield 65, 3) := by decide +kernel
theorem dX11_takeAll_16 : decode cX11_takeAll 16 = .ok (.iload_n 2, 1) := by decide +kernel
theorem dX11_takeAll_17 : decode cX11_takeAll 17 = .ok (.iconst 0, 1) := by decide +kernel
theorem dX11_takeAll_18 : decode cX11_takeAll 18 = .ok (.iastore, 1) := by decide +kernel
theorem dX11_takeAll_19 : decode cX11_takeAll 19 = .ok (.iconst 0, 1) := by decide +kernel
theorem dX11_takeAll_20 : decode cX11_takeAll 20 = .ok (.istore_n 3, 1) := by decide +kernel
theorem dX11_takeAll_21 : decode cX11_takeAll 21 = .ok (.iload_n 3, 1) := by decide +kernel
theorem dX11_takeAll_22 : decode cX11_takeAll 22 = .ok (.aload_n 0, 1) := by decide +kernel
theorem dX11_takeAll_23 : decode cX11_takeAll 23 = .ok (.getfield 86, 3) := by decide +kernel
theorem dX11_takeAll_26 : decode cX11_takeAll 26 = .ok (.if_icmp .ge 59, 3) := by decide +kernel
theorem dX11_takeAll_29 : decode cX11_takeAll 29 = .ok (.aload_n 0, 1) := by decide +kernel
theorem dX11_takeAll_30 : decode cX11_takeAll 30 = .ok (.getfield 34, 3) := by decide +kernel
theorem dX11_takeAll_33 : decode cX11_takeAll 33 = .ok (.iload_n 3, 1) := by decide +kernel
theorem dX11_takeAll_34 : decode cX11_takeAll 34 = .ok (.iaload, 1) := by decide +kernel
theorem dX11_takeAll_35 : decode cX11_takeAll 35 = .ok (.istore 4, 2) := by decide +kernel
theorem dX11_takeAll_37 : decode cX11_takeAll 37 = .ok (.iload 4, 2) := by decide +kernel
theorem dX11_takeAll_39 : decode cX11_takeAll 39 = .ok (.bipush 8, 2) := by decide +kernel
theorem dX11_takeAll_41 : decode cX11_takeAll 41 = .ok (.if_icmp .ge 38, 3) := by decide +kernel
theorem dX11_takeAll_44 : decode cX11_takeAll 44 = .ok (.aload_n 0, 1) := by decide +kernel
theorem dX11_takeAll_45 : decode cX11_takeAll 45 = .ok (.getfield 65, 3) := by decide +kernel
theorem dX11_takeAll_48 : decode cX11_takeAll 48 = .ok (.iload_n 2, 1) := by decide +kernel
theorem dX11_takeAll_49 : decode cX11_takeAll 49 = .ok (.dup2, 1) := by decide +kernel
theorem dX11_takeAll_50 : decode cX11_takeAll 50 = .ok (.iaload, 1) := by decide +kernel
theorem dX11_takeAll_51 : decode cX11_takeAll 51 = .ok (.aload_n 0, 1) := by decide +kernel
theorem dX11_takeAll_52 : decode cX11_takeAll 52 = .ok (.iload_n 2, 1) := by decide +kernel
theorem dX11_takeAll_53 : decode cX11_takeAll 53 = .ok (.iload_n 3, 1) := by decide +kernel
theorem dX11_takeAll_54 : decode cX11_takeAll 54 = .ok (.iload 4, 2) := by decide +kernel
theorem dX11_takeAll_56 : decode cX11_takeAll 56 = .ok (.aload_n 0, 1) := by decide +kernel
theorem dX11_takeAll_57 : decode cX11_takeAll 57 = .ok (.getfield 56, 3) := by decide +kernel
theorem dX11_takeAll_60 : decode cX11_takeAll 60 = .ok (.iload_n 3, 1) := by decide +kernel
theorem dX11_takeAll_61 : decode cX11_takeAll 61 = .ok (.iload_n 2, 1) := by decide +kernel
theorem dX11_takeAll_62 : decode cX11_takeAll 62 = .ok (.iload 4, 2) := by decide +kernel
theorem dX11_takeAll_64 : decode cX11_takeAll 64 = .ok (.invokestatic 161, 3) := by decide +kernel
theorem dX11_takeAll_67 : decode cX11_takeAll 67 = .ok (.iaload, 1) := by decide +kernel
theorem dX11_takeAll_68 : decode cX11_takeAll 68 = .ok (.invokevirtual 155, 3) := by decide +kernel
theorem dX11_takeAll_71 : decode cX11_takeAll 71 = .ok (.iadd, 1) := by decide +kernel
theorem dX11_takeAll_72 : decode cX11_takeAll 72 = .ok (.iastore, 1) := by decide +kernel
theorem dX11_takeAll_73 : decode cX11_takeAll 73 = .ok (.iinc 4 1, 3) := by decide +kernel
theorem dX11_takeAll_76 : decode cX11_takeAll 76 = .ok (.goto (-39), 3) := by decide +kernel
theorem dX11_takeAll_79 : decode cX11_takeAll 79 = .ok (.iinc 3 1, 3) := by decide +kernel
theorem dX11_takeAll_82 : decode cX11_takeAll 82 = .ok (.goto (-61), 3) := by decide +kernel
theorem dX11_takeAll_85 : decode cX11_takeAll 85 = .ok (.iload_n 1, 1) := by decide +kernel
theorem dX11_takeAll_86 : decode cX11_takeAll 86 = .ok (.aload_n 0, 1) := by decide +kernel
theorem dX11_takeAll_87 : decode cX11_takeAll 87 = .ok (.getfield 65, 3) := by decide +kernel
theorem dX11_takeAll_90 : decode cX11_takeAll 90 = .ok (.iload_n 2, 1) := by decide +kernel
theorem dX11_takeAll_91 : decode cX11_takeAll 91 = .ok (.iaload, 1) := by decide +kernel
theorem dX11_takeAll_92 : decode cX11_takeAll 92 = .ok (.iadd, 1) := by decide +kernel
theorem dX11_takeAll_93 : decode cX11_takeAll 93 = .ok (.istore_n 1, 1) := by decide +kernel
theorem dX11_takeAll_94 : decode cX11_takeAll 94 = .ok (.iinc 2 1, 3) := by decide +kernel
theorem dX11_takeAll_97 : decode cX11_takeAll 97 = .ok (.goto (-93), 3) := by decide +kernel
theorem dX11_takeAll_100 : decode cX11_takeAll 100 = .ok (.iload_n 1, 1) := by decide +kernel
theorem dX11_takeAll_101 : decode cX11_takeAll 101 = .ok (.ireturn, 1) := by decide +kernel
set_option maxRecDepth 20000 in
theorem ggX11_passages_X11_isSheet : GoodIn wsX11_passages wsX11_isSheet := goodIn_r _ [5, 6, 7, 4, 8] (by decide +kernel) (by decide +kernel)
set_option maxRecDepth 20000 in
theorem gX11_passages_X11_isSheet : GoodIn wsX11_passages (va_wsS RX11 92 yX11_isSheet wsX11_isSheet) := goodIn_app (goodIn_of _ (by decide +kernel)) ggX11_passages_X11_isSheet
set_option maxRecDepth 20000 in
theorem ggX11_passages_X11_isRow : GoodIn wsX11_passages wsX11_isRow := goodIn_r _ [11, 12, 13, 4, 14, 6, 7, 8] (by decide +kernel) (by decide +kernel)
set_option maxRecDepth 20000 in
theorem gX11_passages_X11_isRow : GoodIn wsX11_passages (va_wsS RX11 164 yX11_isRow wsX11_isRow) := goodIn_app (goodIn_of _ (by decide +kernel)) ggX11_passages_X11_isRow
set_option maxRecDepth 20000 in
theorem ggX11_passages_X11_within : GoodIn wsX11_passages wsX11_within := goodIn_r _ [8] (by decide +kernel) (by decide +kernel)
set_option maxRecDepth 20000 in
theorem gX11_passages_X11_within : GoodIn wsX11_passages (va_wsS RX11 79 yX11_within wsX11_within) := goodIn_app (goodIn_of _ (by decide +kernel)) ggX11_passages_X11_within
set_option maxRecDepth 20000 in
theorem ggX11_passages_X11_layPassages : GoodIn wsX11_passages wsX11_layPassages := goodIn_r _ [18, 19, 20, 21, 22, 23, 24, 25, 26, 27, 4, 28, 29, 30, 31, 32, 33, 34, 1, 35, 36, 37, 38, 39, 40, 41, 42, 43, 44, 45, 46, 6, 7, 8, 89, 90, 91, 92, 93, 94, 95, 96, 97, 98, 99, 100, 101, 102, 103, 104, 105, 106, 107, 108, 109, 110, 111, 112, 113, 114, 115, 116, 117, 118, 119, 120, 121, 122] (by decide +kernel) (by decide +kernel)
set_option maxRecDepth 20000 in
theorem gX11_passages_X11_layPassages : GoodIn wsX11_passages (wsV RX11 167 RX11 yX11_layPassages wsX11_layPassages) := goodIn_app (goodIn_of _ (by decide +kernel)) ggX11_passages_X11_layPassages
set_option maxRecDepth 20000 in
theorem ggX11_passages_X11_go : GoodIn wsX11_passages wsX11_go := goodIn_r _ [50, 51, 52, 53, 24, 20, 23, 54, 22, 55, 56, 4, 57, 89, 90, 91, 92, 93, 94, 95, 96, 97, 98, 99, 100, 101, 102, 103, 104, 105, 106, 107, 108, 109, 110, 111, 112, 113, 114, 115, 116, 117, 118, 119, 120, 121, 122] (by decide +kernel) (by decide +kernel)
set_option maxRecDepth 20000 in
theorem gX11_passages_X11_go : GoodIn wsX11_passages (wsV RX11 170 RX11 yX11_go wsX11_go) := goodIn_app (goodIn_of _ (by decide +kernel)) ggX11_passages_X11_go
set_option maxRecDepth 20000 in
theorem ggX11_passages_X11_tellPassages : GoodIn wsX11_passages wsX11_tellPassages := goodIn_r _ [61, 52, 53, 62, 63, 64, 65, 4, 66, 19, 39, 54, 51, 55, 56, 57, 67, 68, 69, 70, 71, 72, 73, 74, 75, 76, 77, 78, 79, 80, 81, 82, 83, 84, 85, 86, 87, 88, 35, 36, 37, 38, 40, 41, 42, 43, 89, 90, 91, 92, 93, 94, 95, 96, 97, 98, 99, 100, 101, 102, 103, 104, 105, 106, 107, 108, 109, 110, 111, 112, 113, 114, 115, 116, 117, 118, 119, 120, 121, 122] (by decide +kernel) (by decide +kernel)
set_option maxRecDepth 20000 in
theorem gX11_passages_X11_tellPassages : GoodIn wsX11_passages (wsV RX11 174 RX11 yX11_tellPassages wsX11_tellPassages) := goodIn_app (goodIn_of _ (by decide +kernel)) ggX11_passages_X11_tellPassages
theorem dX11_passages_0 : decode cX11_passages 0 = .ok (.aload_n 0, 1) := by decide +kernel
theorem dX11_passages_1 : decode cX11_passages 1 = .ok (.iconst 0, 1) := by decide +kernel
theorem dX11_passages_2 : decode cX11_passages 2 = .ok (.putfield 74, 3) := by decide +kernel
theorem dX11_passages_5 : decode cX11_passages 5 = .ok (.iload_n 1, 1) := by decide +kernel
theorem dX11_passages_6 : decode cX11_passages 6 = .ok (.invokestatic 92, 3) := by decide +kernel
theorem dX11_passages_9 : decode cX11_passages 9 = .ok (.ifCond .ne 5, 3) := by decide +kernel
theorem dX11_passages_12 : decode cX11_passages 12 = .ok (.iconst (-1), 1) := by decide +kernel
theorem dX11_passages_13 : decode cX11_passages 13 = .ok (.ireturn, 1) := by decide +kernel
theorem dX11_passages_14 : decode cX11_passages 14 = .ok (.iload_n 2, 1) := by decide +kernel
theorem dX11_passages_15 : decode cX11_passages 15 = .ok (.iload 4, 2) := by decide +kernel
theorem dX11_passages_17 : decode cX11_passages 17 = .ok (.invokestatic 164, 3) := by decide +kernel
theorem dX11_passages_20 : decode cX11_passages 20 = .ok (.ifCond .eq 37, 3) := by decide +kernel
theorem dX11_passages_23 : decode cX11_passages 23 = .ok (.iload 5, 2) := by decide +kernel
theorem dX11_passages_25 : decode cX11_passages 25 = .ok (.iconst 0, 1) := by decide +kernel
theorem dX11_passages_26 : decode cX11_passages 26 = .ok (.iconst 1, 1) := by decide +kernel
theorem dX11_passages_27 : decode cX11_passages 27 = .ok (.invokestatic 79, 3) := by decide +kernel
theorem dX11_passages_30 : decode cX11_passages 30 = .ok (.ifCond .ne 30, 3) := by decide +kernel
theorem dX11_passages_33 : decode cX11_passages 33 = .ok (.iload 5, 2) := by decide +kernel
theorem dX11_passages_35 : decode cX11_passages 35 = .ok (.bipush 10, 2) := by decide +kernel
theorem dX11_passages_37 : decode cX11_passages 37 = .ok (.bipush 13, 2) := by decide +kernel
theorem dX11_passages_39 : decode cX11_passages 39 = .ok (.invokestatic 79, 3) := by decide +kernel
theorem dX11_passages_42 : decode cX11_passages 42 = .ok (.ifCond .ne 18, 3) := by decide +kernel
theorem dX11_passages_45 : decode cX11_passages 45 = .ok (.iload 5, 2) := by decide +kernel
theorem dX11_passages_47 : decode cX11_passages 47 = .ok (.bipush 20, 2) := by decide +kernel
theorem dX11_passages_49 : decode cX11_passages 49 = .ok (.bipush 24, 2) := by decide +kernel
theorem dX11_passages_51 : decode cX11_passages 51 = .ok (.invokestatic 79, 3) := by decide +kernel
theorem dX11_passages_54 : decode cX11_passages 54 = .ok (.ifCond .ne 6, 3) := by decide +kernel
theorem dX11_passages_57 : decode cX11_passages 57 = .ok (.bipush (-2), 2) := by decide +kernel
theorem dX11_passages_59 : decode cX11_passages 59 = .ok (.ireturn, 1) := by decide +kernel
theorem dX11_passages_60 : decode cX11_passages 60 = .ok (.aload_n 0, 1) := by decide +kernel
theorem dX11_passages_61 : decode cX11_passages 61 = .ok (.iload_n 1, 1) := by decide +kernel
theorem dX11_passages_62 : decode cX11_passages 62 = .ok (.iload_n 2, 1) := by decide +kernel
theorem dX11_passages_63 : decode cX11_passages 63 = .ok (.iload_n 3, 1) := by decide +kernel
