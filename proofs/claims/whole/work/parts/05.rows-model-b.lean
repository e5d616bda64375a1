theorem dX11_passages_64 : decode cX11_passages 64 = .ok (.iload 4, 2) := by decide +kernel
theorem dX11_passages_66 : decode cX11_passages 66 = .ok (.invokevirtual 167, 3) := by decide +kernel
theorem dX11_passages_69 : decode cX11_passages 69 = .ok (.istore 6, 2) := by decide +kernel
theorem dX11_passages_71 : decode cX11_passages 71 = .ok (.iload 6, 2) := by decide +kernel
theorem dX11_passages_73 : decode cX11_passages 73 = .ok (.ifCond .eq 6, 3) := by decide +kernel
theorem dX11_passages_76 : decode cX11_passages 76 = .ok (.iload 6, 2) := by decide +kernel
theorem dX11_passages_78 : decode cX11_passages 78 = .ok (.ireturn, 1) := by decide +kernel
theorem dX11_passages_79 : decode cX11_passages 79 = .ok (.aload_n 0, 1) := by decide +kernel
theorem dX11_passages_80 : decode cX11_passages 80 = .ok (.invokevirtual 170, 3) := by decide +kernel
theorem dX11_passages_83 : decode cX11_passages 83 = .ok (.istore 7, 2) := by decide +kernel
theorem dX11_passages_85 : decode cX11_passages 85 = .ok (.iload 5, 2) := by decide +kernel
theorem dX11_passages_87 : decode cX11_passages 87 = .ok (.iconst 1, 1) := by decide +kernel
theorem dX11_passages_88 : decode cX11_passages 88 = .ok (.if_icmp .ne 6, 3) := by decide +kernel
theorem dX11_passages_91 : decode cX11_passages 91 = .ok (.iload 7, 2) := by decide +kernel
theorem dX11_passages_93 : decode cX11_passages 93 = .ok (.ireturn, 1) := by decide +kernel
theorem dX11_passages_94 : decode cX11_passages 94 = .ok (.iload 7, 2) := by decide +kernel
theorem dX11_passages_96 : decode cX11_passages 96 = .ok (.bipush (-9), 2) := by decide +kernel
theorem dX11_passages_98 : decode cX11_passages 98 = .ok (.if_icmp .ne 12, 3) := by decide +kernel
theorem dX11_passages_101 : decode cX11_passages 101 = .ok (.aload_n 0, 1) := by decide +kernel
theorem dX11_passages_102 : decode cX11_passages 102 = .ok (.iload 5, 2) := by decide +kernel
theorem dX11_passages_104 : decode cX11_passages 104 = .ok (.invokevirtual 174, 3) := by decide +kernel
theorem dX11_passages_107 : decode cX11_passages 107 = .ok (.goto 8, 3) := by decide +kernel
theorem dX11_passages_110 : decode cX11_passages 110 = .ok (.bipush (-100), 2) := by decide +kernel
theorem dX11_passages_112 : decode cX11_passages 112 = .ok (.iload 7, 2) := by decide +kernel
theorem dX11_passages_114 : decode cX11_passages 114 = .ok (.isub, 1) := by decide +kernel
theorem dX11_passages_115 : decode cX11_passages 115 = .ok (.ireturn, 1) := by decide +kernel
set_option maxRecDepth 20000 in
theorem ggX11_tellPassages_X11_takeAll : GoodIn wsX11_tellPassages wsX11_takeAll := goodIn_r _ [8, 9, 3, 10, 11, 12, 13, 14, 7, 15, 16, 17, 18, 19, 20, 21, 22, 23, 24, 25, 26, 27, 28, 29, 30, 31, 32, 33, 34, 35, 36, 37, 46, 47, 48, 49, 50, 51, 52, 53, 54, 55, 56, 57, 58, 59, 60, 61, 62, 63, 64, 65, 66, 67, 68, 69, 70, 71, 72, 73, 74, 75, 76, 77, 78, 79] (by decide +kernel) (by decide +kernel)
set_option maxRecDepth 20000 in
theorem gX11_tellPassages_X11_takeAll : GoodIn wsX11_tellPassages (wsV RX11 177 RX11 yX11_takeAll wsX11_takeAll) := goodIn_app (goodIn_of _ (by decide +kernel)) ggX11_tellPassages_X11_takeAll
set_option maxRecDepth 20000 in
theorem ggX11_tellPassages_X11_isStory : GoodIn wsX11_tellPassages wsX11_isStory := goodIn_r _ [41, 10, 46, 47, 48, 49, 50, 51, 52, 53, 54, 55, 56, 57, 58, 59, 60, 61, 62, 63, 64, 65, 66, 67, 68, 69, 70, 71, 72, 73, 74, 75, 76, 77, 78, 79] (by decide +kernel) (by decide +kernel)
set_option maxRecDepth 20000 in
theorem gX11_tellPassages_X11_isStory : GoodIn wsX11_tellPassages (wsV RX11 139 RX11 yX11_isStory wsX11_isStory) := goodIn_app (goodIn_of _ (by decide +kernel)) ggX11_tellPassages_X11_isStory
set_option maxRecDepth 20000 in
theorem ggX11_tellPassages_X11_isGate : GoodIn wsX11_tellPassages wsX11_isGate := goodIn_r _ [45, 9, 46, 47, 48, 49, 50, 51, 52, 53, 54, 55, 56, 57, 58, 59, 60, 61, 62, 63, 64, 65, 66, 67, 68, 69, 70, 71, 72, 73, 74, 75, 76, 77, 78, 79] (by decide +kernel) (by decide +kernel)
set_option maxRecDepth 20000 in
theorem gX11_tellPassages_X11_isGate : GoodIn wsX11_tellPassages (wsV RX11 136 RX11 yX11_isGate wsX11_isGate) := goodIn_app (goodIn_of _ (by decide +kernel)) ggX11_tellPassages_X11_isGate
theorem dX11_tellPassages_0 : decode cX11_tellPassages 0 = .ok (.aload_n 0, 1) := by decide +kernel
theorem dX11_tellPassages_1 : decode cX11_tellPassages 1 = .ok (.invokevirtual 177, 3) := by decide +kernel
theorem dX11_tellPassages_4 : decode cX11_tellPassages 4 = .ok (.istore_n 2, 1) := by decide +kernel
theorem dX11_tellPassages_5 : decode cX11_tellPassages 5 = .ok (.iload_n 1, 1) := by decide +kernel
theorem dX11_tellPassages_6 : decode cX11_tellPassages 6 = .ok (.ifCond .ne 5, 3) := by decide +kernel
theorem dX11_tellPassages_9 : decode cX11_tellPassages 9 = .ok (.iload_n 2, 1) := by decide +kernel
theorem dX11_tellPassages_10 : decode cX11_tellPassages 10 = .ok (.ireturn, 1) := by decide +kernel
theorem dX11_tellPassages_11 : decode cX11_tellPassages 11 = .ok (.iload_n 1, 1) := by decide +kernel
theorem dX11_tellPassages_12 : decode cX11_tellPassages 12 = .ok (.bipush 20, 2) := by decide +kernel
theorem dX11_tellPassages_14 : decode cX11_tellPassages 14 = .ok (.if_icmp .ge 38, 3) := by decide +kernel
theorem dX11_tellPassages_17 : decode cX11_tellPassages 17 = .ok (.iload_n 1, 1) := by decide +kernel
theorem dX11_tellPassages_18 : decode cX11_tellPassages 18 = .ok (.bipush 10, 2) := by decide +kernel
theorem dX11_tellPassages_20 : decode cX11_tellPassages 20 = .ok (.isub, 1) := by decide +kernel
theorem dX11_tellPassages_21 : decode cX11_tellPassages 21 = .ok (.istore_n 3, 1) := by decide +kernel
theorem dX11_tellPassages_22 : decode cX11_tellPassages 22 = .ok (.aload_n 0, 1) := by decide +kernel
theorem dX11_tellPassages_23 : decode cX11_tellPassages 23 = .ok (.iload_n 3, 1) := by decide +kernel
theorem dX11_tellPassages_24 : decode cX11_tellPassages 24 = .ok (.invokevirtual 139, 3) := by decide +kernel
theorem dX11_tellPassages_27 : decode cX11_tellPassages 27 = .ok (.ifCond .eq 22, 3) := by decide +kernel
theorem dX11_tellPassages_30 : decode cX11_tellPassages 30 = .ok (.aload_n 0, 1) := by decide +kernel
theorem dX11_tellPassages_31 : decode cX11_tellPassages 31 = .ok (.getfield 59, 3) := by decide +kernel
theorem dX11_tellPassages_34 : decode cX11_tellPassages 34 = .ok (.iload_n 3, 1) := by decide +kernel
theorem dX11_tellPassages_35 : decode cX11_tellPassages 35 = .ok (.iaload, 1) := by decide +kernel
theorem dX11_tellPassages_36 : decode cX11_tellPassages 36 = .ok (.iconst 3, 1) := by decide +kernel
theorem dX11_tellPassages_37 : decode cX11_tellPassages 37 = .ok (.if_icmp .ne 12, 3) := by decide +kernel
theorem dX11_tellPassages_40 : decode cX11_tellPassages 40 = .ok (.aload_n 0, 1) := by decide +kernel
theorem dX11_tellPassages_41 : decode cX11_tellPassages 41 = .ok (.getfield 62, 3) := by decide +kernel
theorem dX11_tellPassages_44 : decode cX11_tellPassages 44 = .ok (.iload_n 3, 1) := by decide +kernel
theorem dX11_tellPassages_45 : decode cX11_tellPassages 45 = .ok (.iaload, 1) := by decide +kernel
theorem dX11_tellPassages_46 : decode cX11_tellPassages 46 = .ok (.goto 5, 3) := by decide +kernel
theorem dX11_tellPassages_49 : decode cX11_tellPassages 49 = .ok (.bipush (-9), 2) := by decide +kernel
theorem dX11_tellPassages_51 : decode cX11_tellPassages 51 = .ok (.ireturn, 1) := by decide +kernel
theorem dX11_tellPassages_52 : decode cX11_tellPassages 52 = .ok (.aload_n 0, 1) := by decide +kernel
theorem dX11_tellPassages_53 : decode cX11_tellPassages 53 = .ok (.iload_n 1, 1) := by decide +kernel
theorem dX11_tellPassages_54 : decode cX11_tellPassages 54 = .ok (.bipush 20, 2) := by decide +kernel
theorem dX11_tellPassages_56 : decode cX11_tellPassages 56 = .ok (.isub, 1) := by decide +kernel
theorem dX11_tellPassages_57 : decode cX11_tellPassages 57 = .ok (.invokevirtual 136, 3) := by decide +kernel
theorem dX11_tellPassages_60 : decode cX11_tellPassages 60 = .ok (.ifCond .eq 15, 3) := by decide +kernel
theorem dX11_tellPassages_63 : decode cX11_tellPassages 63 = .ok (.aload_n 0, 1) := by decide +kernel
theorem dX11_tellPassages_64 : decode cX11_tellPassages 64 = .ok (.getfield 65, 3) := by decide +kernel
theorem dX11_tellPassages_67 : decode cX11_tellPassages 67 = .ok (.iload_n 1, 1) := by decide +kernel
theorem dX11_tellPassages_68 : decode cX11_tellPassages 68 = .ok (.bipush 20, 2) := by decide +kernel
theorem dX11_tellPassages_70 : decode cX11_tellPassages 70 = .ok (.isub, 1) := by decide +kernel
theorem dX11_tellPassages_71 : decode cX11_tellPassages 71 = .ok (.iaload, 1) := by decide +kernel
theorem dX11_tellPassages_72 : decode cX11_tellPassages 72 = .ok (.goto 5, 3) := by decide +kernel
theorem dX11_tellPassages_75 : decode cX11_tellPassages 75 = .ok (.bipush (-9), 2) := by decide +kernel
theorem dX11_tellPassages_77 : decode cX11_tellPassages 77 = .ok (.ireturn, 1) := by decide +kernel
set_option maxRecDepth 20000 in
theorem ggX11_paid_X11_dutyOf : GoodIn wsX11_paid wsX11_dutyOf := goodIn_r _ [5, 6, 7, 8, 9, 10, 11, 12, 13, 4, 14, 15, 16, 17, 18, 19, 20, 21, 22, 23, 24, 25, 26, 27, 28, 29, 30, 31, 32, 33, 34, 35, 36, 37, 38, 39, 40, 41, 42, 43, 44, 45, 46, 47, 48, 49, 50, 51, 52, 53, 54, 55, 56, 57, 58] (by decide +kernel) (by decide +kernel)
set_option maxRecDepth 20000 in
theorem gX11_paid_X11_dutyOf : GoodIn wsX11_paid (wsV RX11 155 RX11 yX11_dutyOf wsX11_dutyOf) := goodIn_app (goodIn_of _ (by decide +kernel)) ggX11_paid_X11_dutyOf
theorem dX11_paid_0 : decode cX11_paid 0 = .ok (.iconst 1, 1) := by decide +kernel
theorem dX11_paid_1 : decode cX11_paid 1 = .ok (.iload_n 3, 1) := by decide +kernel
theorem dX11_paid_2 : decode cX11_paid 2 = .ok (.iload_n 2, 1) := by decide +kernel
theorem dX11_paid_3 : decode cX11_paid 3 = .ok (.if_icmp .ne 7, 3) := by decide +kernel
theorem dX11_paid_6 : decode cX11_paid 6 = .ok (.iconst 2, 1) := by decide +kernel
theorem dX11_paid_7 : decode cX11_paid 7 = .ok (.goto 4, 3) := by decide +kernel
theorem dX11_paid_10 : decode cX11_paid 10 = .ok (.iconst 0, 1) := by decide +kernel
theorem dX11_paid_11 : decode cX11_paid 11 = .ok (.ior, 1) := by decide +kernel
theorem dX11_paid_12 : decode cX11_paid 12 = .ok (.iload 4, 2) := by decide +kernel
theorem dX11_paid_14 : decode cX11_paid 14 = .ok (.iload_n 2, 1) := by decide +kernel
theorem dX11_paid_15 : decode cX11_paid 15 = .ok (.if_icmp .ne 7, 3) := by decide +kernel
theorem dX11_paid_18 : decode cX11_paid 18 = .ok (.iconst 4, 1) := by decide +kernel
theorem dX11_paid_19 : decode cX11_paid 19 = .ok (.goto 4, 3) := by decide +kernel
theorem dX11_paid_22 : decode cX11_paid 22 = .ok (.iconst 0, 1) := by decide +kernel
theorem dX11_paid_23 : decode cX11_paid 23 = .ok (.ior, 1) := by decide +kernel
theorem dX11_paid_24 : decode cX11_paid 24 = .ok (.istore 5, 2) := by decide +kernel
theorem dX11_paid_26 : decode cX11_paid 26 = .ok (.aload_n 0, 1) := by decide +kernel
theorem dX11_paid_27 : decode cX11_paid 27 = .ok (.iload_n 2, 1) := by decide +kernel
theorem dX11_paid_28 : decode cX11_paid 28 = .ok (.bipush 10, 2) := by decide +kernel
theorem dX11_paid_30 : decode cX11_paid 30 = .ok (.idiv, 1) := by decide +kernel
theorem dX11_paid_31 : decode cX11_paid 31 = .ok (.iload_n 1, 1) := by decide +kernel
theorem dX11_paid_32 : decode cX11_paid 32 = .ok (.iload_n 2, 1) := by decide +kernel
theorem dX11_paid_33 : decode cX11_paid 33 = .ok (.bipush 10, 2) := by decide +kernel
theorem dX11_paid_35 : decode cX11_paid 35 = .ok (.irem, 1) := by decide +kernel
theorem dX11_paid_36 : decode cX11_paid 36 = .ok (.iload 5, 2) := by decide +kernel
theorem dX11_paid_38 : decode cX11_paid 38 = .ok (.invokevirtual 155, 3) := by decide +kernel
theorem dX11_paid_41 : decode cX11_paid 41 = .ok (.istore 6, 2) := by decide +kernel
theorem dX11_paid_43 : decode cX11_paid 43 = .ok (.iload_n 3, 1) := by decide +kernel
theorem dX11_paid_44 : decode cX11_paid 44 = .ok (.iload_n 2, 1) := by decide +kernel
theorem dX11_paid_45 : decode cX11_paid 45 = .ok (.if_icmp .eq 33, 3) := by decide +kernel
theorem dX11_paid_48 : decode cX11_paid 48 = .ok (.iload 6, 2) := by decide +kernel
theorem dX11_paid_50 : decode cX11_paid 50 = .ok (.aload_n 0, 1) := by decide +kernel
theorem dX11_paid_51 : decode cX11_paid 51 = .ok (.iload_n 3, 1) := by decide +kernel
theorem dX11_paid_52 : decode cX11_paid 52 = .ok (.bipush 10, 2) := by decide +kernel
theorem dX11_paid_54 : decode cX11_paid 54 = .ok (.idiv, 1) := by decide +kernel
theorem dX11_paid_55 : decode cX11_paid 55 = .ok (.iload_n 1, 1) := by decide +kernel
theorem dX11_paid_56 : decode cX11_paid 56 = .ok (.iload_n 3, 1) := by decide +kernel
theorem dX11_paid_57 : decode cX11_paid 57 = .ok (.bipush 10, 2) := by decide +kernel
theorem dX11_paid_59 : decode cX11_paid 59 = .ok (.irem, 1) := by decide +kernel
theorem dX11_paid_60 : decode cX11_paid 60 = .ok (.iload 4, 2) := by decide +kernel
theorem dX11_paid_62 : decode cX11_paid 62 = .ok (.iload_n 3, 1) := by decide +kernel
theorem dX11_paid_63 : decode cX11_paid 63 = .ok (.if_icmp .ne 8, 3) := by decide +kernel
theorem dX11_paid_66 : decode cX11_paid 66 = .ok (.bipush 6, 2) := by decide +kernel
theorem dX11_paid_68 : decode cX11_paid 68 = .ok (.goto 4, 3) := by decide +kernel
theorem dX11_paid_71 : decode cX11_paid 71 = .ok (.iconst 2, 1) := by decide +kernel
theorem dX11_paid_72 : decode cX11_paid 72 = .ok (.invokevirtual 155, 3) := by decide +kernel
theorem dX11_paid_75 : decode cX11_paid 75 = .ok (.iadd, 1) := by decide +kernel
theorem dX11_paid_76 : decode cX11_paid 76 = .ok (.istore 6, 2) := by decide +kernel
theorem dX11_paid_78 : decode cX11_paid 78 = .ok (.iload 4, 2) := by decide +kernel
theorem dX11_paid_80 : decode cX11_paid 80 = .ok (.iload_n 2, 1) := by decide +kernel
theorem dX11_paid_81 : decode cX11_paid 81 = .ok (.if_icmp .eq 9, 3) := by decide +kernel
theorem dX11_paid_84 : decode cX11_paid 84 = .ok (.iload 4, 2) := by decide +kernel
theorem dX11_paid_86 : decode cX11_paid 86 = .ok (.iload_n 3, 1) := by decide +kernel
theorem dX11_paid_87 : decode cX11_paid 87 = .ok (.if_icmp .ne 8, 3) := by decide +kernel
theorem dX11_paid_90 : decode cX11_paid 90 = .ok (.iload 6, 2) := by decide +kernel
theorem dX11_paid_92 : decode cX11_paid 92 = .ok (.goto 22, 3) := by decide +kernel
theorem dX11_paid_95 : decode cX11_paid 95 = .ok (.iload 6, 2) := by decide +kernel
theorem dX11_paid_97 : decode cX11_paid 97 = .ok (.aload_n 0, 1) := by decide +kernel
theorem dX11_paid_98 : decode cX11_paid 98 = .ok (.iload 4, 2) := by decide +kernel
theorem dX11_paid_100 : decode cX11_paid 100 = .ok (.bipush 10, 2) := by decide +kernel
theorem dX11_paid_102 : decode cX11_paid 102 = .ok (.idiv, 1) := by decide +kernel
theorem dX11_paid_103 : decode cX11_paid 103 = .ok (.iload_n 1, 1) := by decide +kernel
theorem dX11_paid_104 : decode cX11_paid 104 = .ok (.iload 4, 2) := by decide +kernel
theorem dX11_paid_106 : decode cX11_paid 106 = .ok (.bipush 10, 2) := by decide +kernel
theorem dX11_paid_108 : decode cX11_paid 108 = .ok (.irem, 1) := by decide +kernel
theorem dX11_paid_109 : decode cX11_paid 109 = .ok (.iconst 4, 1) := by decide +kernel
theorem dX11_paid_110 : decode cX11_paid 110 = .ok (.invokevirtual 155, 3) := by decide +kernel
theorem dX11_paid_113 : decode cX11_paid 113 = .ok (.iadd, 1) := by decide +kernel
theorem dX11_paid_114 : decode cX11_paid 114 = .ok (.ireturn, 1) := by decide +kernel
set_option maxRecDepth 20000 in
theorem ggX11_isPlace_X11_within : GoodIn wsX11_isPlace wsX11_within := goodIn_r _ [6] (by decide +kernel) (by decide +kernel)
set_option maxRecDepth 20000 in
theorem gX11_isPlace_X11_within : GoodIn wsX11_isPlace (va_wsS RX11 79 yX11_within wsX11_within) := goodIn_app (goodIn_of _ (by decide +kernel)) ggX11_isPlace_X11_within
theorem dX11_isPlace_0 : decode cX11_isPlace 0 = .ok (.iload_n 3, 1) := by decide +kernel
theorem dX11_isPlace_1 : decode cX11_isPlace 1 = .ok (.bipush 10, 2) := by decide +kernel
theorem dX11_isPlace_3 : decode cX11_isPlace 3 = .ok (.idiv, 1) := by decide +kernel
theorem dX11_isPlace_4 : decode cX11_isPlace 4 = .ok (.aload_n 0, 1) := by decide +kernel
theorem dX11_isPlace_5 : decode cX11_isPlace 5 = .ok (.getfield 37, 3) := by decide +kernel
theorem dX11_isPlace_8 : decode cX11_isPlace 8 = .ok (.if_icmp .eq 24, 3) := by decide +kernel
theorem dX11_isPlace_11 : decode cX11_isPlace 11 = .ok (.iload_n 3, 1) := by decide +kernel
theorem dX11_isPlace_12 : decode cX11_isPlace 12 = .ok (.bipush 10, 2) := by decide +kernel
theorem dX11_isPlace_14 : decode cX11_isPlace 14 = .ok (.irem, 1) := by decide +kernel
theorem dX11_isPlace_15 : decode cX11_isPlace 15 = .ok (.aload_n 0, 1) := by decide +kernel
theorem dX11_isPlace_16 : decode cX11_isPlace 16 = .ok (.getfield 34, 3) := by decide +kernel
theorem dX11_isPlace_19 : decode cX11_isPlace 19 = .ok (.iload_n 1, 1) := by decide +kernel
theorem dX11_isPlace_20 : decode cX11_isPlace 20 = .ok (.iaload, 1) := by decide +kernel
theorem dX11_isPlace_21 : decode cX11_isPlace 21 = .ok (.iload_n 2, 1) := by decide +kernel
theorem dX11_isPlace_22 : decode cX11_isPlace 22 = .ok (.invokestatic 79, 3) := by decide +kernel
theorem dX11_isPlace_25 : decode cX11_isPlace 25 = .ok (.ifCond .eq 7, 3) := by decide +kernel
theorem dX11_isPlace_28 : decode cX11_isPlace 28 = .ok (.iconst 1, 1) := by decide +kernel
theorem dX11_isPlace_29 : decode cX11_isPlace 29 = .ok (.goto 4, 3) := by decide +kernel
theorem dX11_isPlace_32 : decode cX11_isPlace 32 = .ok (.iconst 0, 1) := by decide +kernel
theorem dX11_isPlace_33 : decode cX11_isPlace 33 = .ok (.ireturn, 1) := by decide +kernel
set_option maxRecDepth 20000 in
theorem ggX11_findLeast_X11_isPlace : GoodIn wsX11_findLeast wsX11_isPlace := goodIn_r _ [9, 10, 11, 12, 13, 8, 14, 41, 42, 43, 44, 45, 46, 47, 48, 49, 50, 51, 52, 53, 54, 55, 56, 57, 58, 59, 60, 61, 62, 63, 64, 65, 66, 67, 68, 69, 70, 71, 72, 73, 74] (by decide +kernel) (by decide +kernel)
set_option maxRecDepth 20000 in
theorem gX11_findLeast_X11_isPlace : GoodIn wsX11_findLeast (wsV RX11 180 RX11 yX11_isPlace wsX11_isPlace) := goodIn_app (goodIn_of _ (by decide +kernel)) ggX11_findLeast_X11_isPlace
set_option maxRecDepth 20000 in
theorem ggX11_findLeast_X11_paid : GoodIn wsX11_findLeast wsX11_paid := goodIn_r _ [18, 19, 20, 21, 8, 22, 23, 24, 25, 26, 27, 28, 29, 30, 31, 32, 33, 34, 35, 36, 37, 38, 39, 40, 11, 41, 42, 43, 44, 45, 46, 47, 48, 49, 50, 51, 52, 53, 54, 55, 56, 57, 58, 59, 60, 61, 62, 63, 64, 65, 66, 67, 68, 69, 70, 71, 72, 73, 74] (by decide +kernel) (by decide +kernel)
set_option maxRecDepth 20000 in
theorem gX11_findLeast_X11_paid : GoodIn wsX11_findLeast (wsV RX11 183 RX11 yX11_paid wsX11_paid) := goodIn_app (goodIn_of _ (by decide +kernel)) ggX11_findLeast_X11_paid
theorem dX11_findLeast_0 : decode cX11_findLeast 0 = .ok (.bipush (-9), 2) := by decide +kernel
theorem dX11_findLeast_2 : decode cX11_findLeast 2 = .ok (.istore_n 3, 1) := by decide +kernel
theorem dX11_findLeast_3 : decode cX11_findLeast 3 = .ok (.iconst 0, 1) := by decide +kernel
theorem dX11_findLeast_4 : decode cX11_findLeast 4 = .ok (.istore 4, 2) := by decide +kernel
theorem dX11_findLeast_6 : decode cX11_findLeast 6 = .ok (.iload 4, 2) := by decide +kernel
theorem dX11_findLeast_8 : decode cX11_findLeast 8 = .ok (.bipush 10, 2) := by decide +kernel
theorem dX11_findLeast_10 : decode cX11_findLeast 10 = .ok (.aload_n 0, 1) := by decide +kernel
theorem dX11_findLeast_11 : decode cX11_findLeast 11 = .ok (.getfield 83, 3) := by decide +kernel
theorem dX11_findLeast_14 : decode cX11_findLeast 14 = .ok (.imul, 1) := by decide +kernel
theorem dX11_findLeast_15 : decode cX11_findLeast 15 = .ok (.if_icmp .ge 130, 3) := by decide +kernel
theorem dX11_findLeast_18 : decode cX11_findLeast 18 = .ok (.iconst 0, 1) := by decide +kernel
theorem dX11_findLeast_19 : decode cX11_findLeast 19 = .ok (.istore 5, 2) := by decide +kernel
theorem dX11_findLeast_21 : decode cX11_findLeast 21 = .ok (.iload 5, 2) := by decide +kernel
theorem dX11_findLeast_23 : decode cX11_findLeast 23 = .ok (.bipush 10, 2) := by decide +kernel
theorem dX11_findLeast_25 : decode cX11_findLeast 25 = .ok (.aload_n 0, 1) := by decide +kernel
theorem dX11_findLeast_26 : decode cX11_findLeast 26 = .ok (.getfield 83, 3) := by decide +kernel
theorem dX11_findLeast_29 : decode cX11_findLeast 29 = .ok (.imul, 1) := by decide +kernel
theorem dX11_findLeast_30 : decode cX11_findLeast 30 = .ok (.if_icmp .ge 109, 3) := by decide +kernel
theorem dX11_findLeast_33 : decode cX11_findLeast 33 = .ok (.aload_n 0, 1) := by decide +kernel
theorem dX11_findLeast_34 : decode cX11_findLeast 34 = .ok (.iload_n 1, 1) := by decide +kernel
theorem dX11_findLeast_35 : decode cX11_findLeast 35 = .ok (.iload_n 2, 1) := by decide +kernel
theorem dX11_findLeast_36 : decode cX11_findLeast 36 = .ok (.iload 4, 2) := by decide +kernel
theorem dX11_findLeast_38 : decode cX11_findLeast 38 = .ok (.invokevirtual 180, 3) := by decide +kernel
theorem dX11_findLeast_41 : decode cX11_findLeast 41 = .ok (.ifCond .eq 98, 3) := by decide +kernel
theorem dX11_findLeast_44 : decode cX11_findLeast 44 = .ok (.iconst 0, 1) := by decide +kernel
theorem dX11_findLeast_45 : decode cX11_findLeast 45 = .ok (.istore 6, 2) := by decide +kernel
theorem dX11_findLeast_47 : decode cX11_findLeast 47 = .ok (.iload 6, 2) := by decide +kernel
theorem dX11_findLeast_49 : decode cX11_findLeast 49 = .ok (.bipush 10, 2) := by decide +kernel
theorem dX11_findLeast_51 : decode cX11_findLeast 51 = .ok (.aload_n 0, 1) := by decide +kernel
theorem dX11_findLeast_52 : decode cX11_findLeast 52 = .ok (.getfield 83, 3) := by decide +kernel
theorem dX11_findLeast_55 : decode cX11_findLeast 55 = .ok (.imul, 1) := by decide +kernel
theorem dX11_findLeast_56 : decode cX11_findLeast 56 = .ok (.if_icmp .ge 77, 3) := by decide +kernel
theorem dX11_findLeast_59 : decode cX11_findLeast 59 = .ok (.aload_n 0, 1) := by decide +kernel
theorem dX11_findLeast_60 : decode cX11_findLeast 60 = .ok (.iload_n 1, 1) := by decide +kernel
theorem dX11_findLeast_61 : decode cX11_findLeast 61 = .ok (.iload_n 2, 1) := by decide +kernel
theorem dX11_findLeast_62 : decode cX11_findLeast 62 = .ok (.iload 5, 2) := by decide +kernel
theorem dX11_findLeast_64 : decode cX11_findLeast 64 = .ok (.invokevirtual 180, 3) := by decide +kernel
theorem dX11_findLeast_67 : decode cX11_findLeast 67 = .ok (.ifCond .eq 66, 3) := by decide +kernel
theorem dX11_findLeast_70 : decode cX11_findLeast 70 = .ok (.aload_n 0, 1) := by decide +kernel
theorem dX11_findLeast_71 : decode cX11_findLeast 71 = .ok (.iload_n 1, 1) := by decide +kernel
theorem dX11_findLeast_72 : decode cX11_findLeast 72 = .ok (.iload_n 2, 1) := by decide +kernel
theorem dX11_findLeast_73 : decode cX11_findLeast 73 = .ok (.iload 6, 2) := by decide +kernel
theorem dX11_findLeast_75 : decode cX11_findLeast 75 = .ok (.invokevirtual 180, 3) := by decide +kernel
theorem dX11_findLeast_78 : decode cX11_findLeast 78 = .ok (.ifCond .eq 49, 3) := by decide +kernel
theorem dX11_findLeast_81 : decode cX11_findLeast 81 = .ok (.aload_n 0, 1) := by decide +kernel
theorem dX11_findLeast_82 : decode cX11_findLeast 82 = .ok (.iload_n 1, 1) := by decide +kernel
theorem dX11_findLeast_83 : decode cX11_findLeast 83 = .ok (.iload 4, 2) := by decide +kernel
theorem dX11_findLeast_85 : decode cX11_findLeast 85 = .ok (.iload 5, 2) := by decide +kernel
theorem dX11_findLeast_87 : decode cX11_findLeast 87 = .ok (.iload 6, 2) := by decide +kernel
theorem dX11_findLeast_89 : decode cX11_findLeast 89 = .ok (.invokevirtual 183, 3) := by decide +kernel
theorem dX11_findLeast_92 : decode cX11_findLeast 92 = .ok (.istore 7, 2) := by decide +kernel
theorem dX11_findLeast_94 : decode cX11_findLeast 94 = .ok (.iload_n 3, 1) := by decide +kernel
theorem dX11_findLeast_95 : decode cX11_findLeast 95 = .ok (.bipush (-9), 2) := by decide +kernel
theorem dX11_findLeast_97 : decode cX11_findLeast 97 = .ok (.if_icmp .eq 9, 3) := by decide +kernel
theorem dX11_findLeast_100 : decode cX11_findLeast 100 = .ok (.iload 7, 2) := by decide +kernel
theorem dX11_findLeast_102 : decode cX11_findLeast 102 = .ok (.iload_n 3, 1) := by decide +kernel
theorem dX11_findLeast_103 : decode cX11_findLeast 103 = .ok (.if_icmp .ge 24, 3) := by decide +kernel
theorem dX11_findLeast_106 : decode cX11_findLeast 106 = .ok (.iload 7, 2) := by decide +kernel
theorem dX11_findLeast_108 : decode cX11_findLeast 108 = .ok (.istore_n 3, 1) := by decide +kernel
theorem dX11_findLeast_109 : decode cX11_findLeast 109 = .ok (.aload_n 0, 1) := by decide +kernel
theorem dX11_findLeast_110 : decode cX11_findLeast 110 = .ok (.iload 4, 2) := by decide +kernel
theorem dX11_findLeast_112 : decode cX11_findLeast 112 = .ok (.putfield 186, 3) := by decide +kernel
theorem dX11_findLeast_115 : decode cX11_findLeast 115 = .ok (.aload_n 0, 1) := by decide +kernel
theorem dX11_findLeast_116 : decode cX11_findLeast 116 = .ok (.iload 5, 2) := by decide +kernel
theorem dX11_findLeast_118 : decode cX11_findLeast 118 = .ok (.putfield 189, 3) := by decide +kernel
theorem dX11_findLeast_121 : decode cX11_findLeast 121 = .ok (.aload_n 0, 1) := by decide +kernel
theorem dX11_findLeast_122 : decode cX11_findLeast 122 = .ok (.iload 6, 2) := by decide +kernel
theorem dX11_findLeast_124 : decode cX11_findLeast 124 = .ok (.putfield 192, 3) := by decide +kernel
theorem dX11_findLeast_127 : decode cX11_findLeast 127 = .ok (.iinc 6 1, 3) := by decide +kernel
theorem dX11_findLeast_130 : decode cX11_findLeast 130 = .ok (.goto (-83), 3) := by decide +kernel
theorem dX11_findLeast_133 : decode cX11_findLeast 133 = .ok (.iinc 5 1, 3) := by decide +kernel
theorem dX11_findLeast_136 : decode cX11_findLeast 136 = .ok (.goto (-115), 3) := by decide +kernel
theorem dX11_findLeast_139 : decode cX11_findLeast 139 = .ok (.iinc 4 1, 3) := by decide +kernel
theorem dX11_findLeast_142 : decode cX11_findLeast 142 = .ok (.goto (-136), 3) := by decide +kernel
theorem dX11_findLeast_145 : decode cX11_findLeast 145 = .ok (.iload_n 3, 1) := by decide +kernel
theorem dX11_findLeast_146 : decode cX11_findLeast 146 = .ok (.ireturn, 1) := by decide +kernel
set_option maxRecDepth 20000 in
theorem ggX11_least_X11_isStory : GoodIn wsX11_least wsX11_isStory := goodIn_r _ [8, 9, 53, 54, 55, 56, 57, 58, 59, 60, 61, 62, 63, 64, 65, 66, 67, 68, 69, 70, 71, 72, 73, 74, 75, 76, 77, 78, 79, 80, 81, 82, 83, 84, 85, 86] (by decide +kernel) (by decide +kernel)
set_option maxRecDepth 20000 in
theorem gX11_least_X11_isStory : GoodIn wsX11_least (wsV RX11 139 RX11 yX11_isStory wsX11_isStory) := goodIn_app (goodIn_of _ (by decide +kernel)) ggX11_least_X11_isStory
set_option maxRecDepth 20000 in
theorem ggX11_least_X11_isDay : GoodIn wsX11_least wsX11_isDay := goodIn_r _ [12, 13, 14, 7, 15] (by decide +kernel) (by decide +kernel)
set_option maxRecDepth 20000 in
theorem gX11_least_X11_isDay : GoodIn wsX11_least (va_wsS RX11 146 yX11_isDay wsX11_isDay) := goodIn_app (goodIn_of _ (by decide +kernel)) ggX11_least_X11_isDay
set_option maxRecDepth 20000 in
theorem ggX11_least_X11_within : GoodIn wsX11_least wsX11_within := goodIn_r _ [15] (by decide +kernel) (by decide +kernel)
set_option maxRecDepth 20000 in
theorem gX11_least_X11_within : GoodIn wsX11_least (va_wsS RX11 79 yX11_within wsX11_within) := goodIn_app (goodIn_of _ (by decide +kernel)) ggX11_least_X11_within
set_option maxRecDepth 20000 in
theorem ggX11_least_X11_findLeast : GoodIn wsX11_least wsX11_findLeast := goodIn_r _ [19, 20, 1, 2, 3, 21, 22, 23, 7, 24, 25, 26, 13, 14, 15, 27, 28, 29, 30, 31, 32, 33, 34, 35, 36, 37, 38, 39, 40, 41, 42, 43, 44, 45, 46, 47, 48, 49, 50, 51, 52, 53, 54, 55, 56, 57, 58, 59, 60, 61, 62, 63, 64, 65, 66, 67, 68, 69, 70, 71, 72, 73, 74, 75, 76, 77, 78, 79, 80, 81, 82, 83, 84, 85, 86] (by decide +kernel) (by decide +kernel)
set_option maxRecDepth 20000 in
theorem gX11_least_X11_findLeast : GoodIn wsX11_least (wsV RX11 195 RX11 yX11_findLeast wsX11_findLeast) := goodIn_app (goodIn_of _ (by decide +kernel)) ggX11_least_X11_findLeast
theorem dX11_least_0 : decode cX11_least 0 = .ok (.aload_n 0, 1) := by decide +kernel
theorem dX11_least_1 : decode cX11_least 1 = .ok (.iload_n 1, 1) := by decide +kernel
theorem dX11_least_2 : decode cX11_least 2 = .ok (.invokevirtual 139, 3) := by decide +kernel
theorem dX11_least_5 : decode cX11_least 5 = .ok (.ifCond .ne 5, 3) := by decide +kernel
theorem dX11_least_8 : decode cX11_least 8 = .ok (.iconst (-1), 1) := by decide +kernel
theorem dX11_least_9 : decode cX11_least 9 = .ok (.ireturn, 1) := by decide +kernel
theorem dX11_least_10 : decode cX11_least 10 = .ok (.iload_n 2, 1) := by decide +kernel
theorem dX11_least_11 : decode cX11_least 11 = .ok (.invokestatic 146, 3) := by decide +kernel
theorem dX11_least_14 : decode cX11_least 14 = .ok (.ifCond .eq 12, 3) := by decide +kernel
theorem dX11_least_17 : decode cX11_least 17 = .ok (.iload_n 3, 1) := by decide +kernel
theorem dX11_least_18 : decode cX11_least 18 = .ok (.iconst (-1), 1) := by decide +kernel
theorem dX11_least_19 : decode cX11_least 19 = .ok (.iconst 2, 1) := by decide +kernel
theorem dX11_least_20 : decode cX11_least 20 = .ok (.invokestatic 79, 3) := by decide +kernel
theorem dX11_least_23 : decode cX11_least 23 = .ok (.ifCond .ne 6, 3) := by decide +kernel
theorem dX11_least_26 : decode cX11_least 26 = .ok (.bipush (-2), 2) := by decide +kernel
theorem dX11_least_28 : decode cX11_least 28 = .ok (.ireturn, 1) := by decide +kernel
theorem dX11_least_29 : decode cX11_least 29 = .ok (.aload_n 0, 1) := by decide +kernel
theorem dX11_least_30 : decode cX11_least 30 = .ok (.iload_n 1, 1) := by decide +kernel
theorem dX11_least_31 : decode cX11_least 31 = .ok (.iload_n 2, 1) := by decide +kernel
theorem dX11_least_32 : decode cX11_least 32 = .ok (.invokevirtual 195, 3) := by decide +kernel
theorem dX11_least_35 : decode cX11_least 35 = .ok (.istore 4, 2) := by decide +kernel
theorem dX11_least_37 : decode cX11_least 37 = .ok (.iload_n 3, 1) := by decide +kernel
theorem dX11_least_38 : decode cX11_least 38 = .ok (.iconst (-1), 1) := by decide +kernel
theorem dX11_least_39 : decode cX11_least 39 = .ok (.if_icmp .eq 10, 3) := by decide +kernel
theorem dX11_least_42 : decode cX11_least 42 = .ok (.iload 4, 2) := by decide +kernel
theorem dX11_least_44 : decode cX11_least 44 = .ok (.bipush (-9), 2) := by decide +kernel
theorem dX11_least_46 : decode cX11_least 46 = .ok (.if_icmp .ne 6, 3) := by decide +kernel
theorem dX11_least_49 : decode cX11_least 49 = .ok (.iload 4, 2) := by decide +kernel
theorem dX11_least_51 : decode cX11_least 51 = .ok (.ireturn, 1) := by decide +kernel
theorem dX11_least_52 : decode cX11_least 52 = .ok (.iload_n 3, 1) := by decide +kernel
theorem dX11_least_53 : decode cX11_least 53 = .ok (.ifCond .ne 10, 3) := by decide +kernel
theorem dX11_least_56 : decode cX11_least 56 = .ok (.aload_n 0, 1) := by decide +kernel
theorem dX11_least_57 : decode cX11_least 57 = .ok (.getfield 186, 3) := by decide +kernel
theorem dX11_least_60 : decode cX11_least 60 = .ok (.goto 19, 3) := by decide +kernel
theorem dX11_least_63 : decode cX11_least 63 = .ok (.iload_n 3, 1) := by decide +kernel
theorem dX11_least_64 : decode cX11_least 64 = .ok (.iconst 1, 1) := by decide +kernel
theorem dX11_least_65 : decode cX11_least 65 = .ok (.if_icmp .ne 10, 3) := by decide +kernel
theorem dX11_least_68 : decode cX11_least 68 = .ok (.aload_n 0, 1) := by decide +kernel
theorem dX11_least_69 : decode cX11_least 69 = .ok (.getfield 189, 3) := by decide +kernel
theorem dX11_least_72 : decode cX11_least 72 = .ok (.goto 7, 3) := by decide +kernel
theorem dX11_least_75 : decode cX11_least 75 = .ok (.aload_n 0, 1) := by decide +kernel
theorem dX11_least_76 : decode cX11_least 76 = .ok (.getfield 192, 3) := by decide +kernel
theorem dX11_least_79 : decode cX11_least 79 = .ok (.ireturn, 1) := by decide +kernel
set_option maxRecDepth 20000 in
theorem ggX11_free_X11_isStory : GoodIn wsX11_free wsX11_isStory := goodIn_r _ [6, 7, 50, 51, 52, 53, 54, 55, 56, 57, 58, 59, 60, 61, 62, 63, 64, 65, 66, 67, 68, 69, 70, 71, 72, 73, 74, 75, 76, 77, 78, 79, 80, 81, 82, 83] (by decide +kernel) (by decide +kernel)
set_option maxRecDepth 20000 in
theorem gX11_free_X11_isStory : GoodIn wsX11_free (wsV RX11 139 RX11 yX11_isStory wsX11_isStory) := goodIn_app (goodIn_of _ (by decide +kernel)) ggX11_free_X11_isStory
set_option maxRecDepth 20000 in
theorem ggX11_free_X11_findLeast : GoodIn wsX11_free wsX11_findLeast := goodIn_r _ [11, 12, 13, 14, 15, 16, 17, 18, 5, 19, 20, 1, 21, 22, 23, 24, 25, 26, 27, 28, 29, 30, 31, 32, 33, 34, 35, 36, 37, 38, 39, 40, 41, 42, 43, 44, 45, 46, 47, 48, 49, 50, 51, 52, 53, 54, 55, 56, 57, 58, 59, 60, 61, 62, 63, 64, 65, 66, 67, 68, 69, 70, 71, 72, 73, 74, 75, 76, 77, 78, 79, 80, 81, 82, 83] (by decide +kernel) (by decide +kernel)
set_option maxRecDepth 20000 in
theorem gX11_free_X11_findLeast : GoodIn wsX11_free (wsV RX11 195 RX11 yX11_findLeast wsX11_findLeast) := goodIn_app (goodIn_of _ (by decide +kernel)) ggX11_free_X11_findLeast
theorem dX11_free_0 : decode cX11_free 0 = .ok (.aload_n 0, 1) := by decide +kernel
theorem dX11_free_1 : decode cX11_free 1 = .ok (.iload_n 1, 1) := by decide +kernel
theorem dX11_free_2 : decode cX11_free 2 = .ok (.invokevirtual 139, 3) := by decide +kernel
theorem dX11_free_5 : decode cX11_free 5 = .ok (.ifCond .ne 5, 3) := by decide +kernel
theorem dX11_free_8 : decode cX11_free 8 = .ok (.iconst (-1), 1) := by decide +kernel
theorem dX11_free_9 : decode cX11_free 9 = .ok (.ireturn, 1) := by decide +kernel
theorem dX11_free_10 : decode cX11_free 10 = .ok (.aload_n 0, 1) := by decide +kernel
theorem dX11_free_11 : decode cX11_free 11 = .ok (.getfield 34, 3) := by decide +kernel
theorem dX11_free_14 : decode cX11_free 14 = .ok (.iload_n 1, 1) := by decide +kernel
theorem dX11_free_15 : decode cX11_free 15 = .ok (.iaload, 1) := by decide +kernel
theorem dX11_free_16 : decode cX11_free 16 = .ok (.istore_n 2, 1) := by decide +kernel
theorem dX11_free_17 : decode cX11_free 17 = .ok (.iload_n 2, 1) := by decide +kernel
theorem dX11_free_18 : decode cX11_free 18 = .ok (.bipush 8, 2) := by decide +kernel
theorem dX11_free_20 : decode cX11_free 20 = .ok (.if_icmp .ge 20, 3) := by decide +kernel
theorem dX11_free_23 : decode cX11_free 23 = .ok (.aload_n 0, 1) := by decide +kernel
theorem dX11_free_24 : decode cX11_free 24 = .ok (.iload_n 1, 1) := by decide +kernel
theorem dX11_free_25 : decode cX11_free 25 = .ok (.iload_n 2, 1) := by decide +kernel
theorem dX11_free_26 : decode cX11_free 26 = .ok (.invokevirtual 195, 3) := by decide +kernel
theorem dX11_free_29 : decode cX11_free 29 = .ok (.ifCond .ne 5, 3) := by decide +kernel
theorem dX11_free_32 : decode cX11_free 32 = .ok (.iload_n 2, 1) := by decide +kernel
theorem dX11_free_33 : decode cX11_free 33 = .ok (.ireturn, 1) := by decide +kernel
theorem dX11_free_34 : decode cX11_free 34 = .ok (.iinc 2 1, 3) := by decide +kernel
theorem dX11_free_37 : decode cX11_free 37 = .ok (.goto (-20), 3) := by decide +kernel
theorem dX11_free_40 : decode cX11_free 40 = .ok (.bipush (-9), 2) := by decide +kernel
theorem dX11_free_42 : decode cX11_free 42 = .ok (.ireturn, 1) := by decide +kernel
set_option maxRecDepth 20000 in
theorem ggX11_worth_X11_isGate : GoodIn wsX11_worth wsX11_isGate := goodIn_r _ [6, 7, 57, 58, 59, 60, 61, 62, 63, 64, 65, 66, 67, 68, 69, 70, 71, 72, 73, 74, 75, 76, 77, 78, 79, 80, 81, 82, 83, 84, 85, 86, 87, 88, 89, 90] (by decide +kernel) (by decide +kernel)
set_option maxRecDepth 20000 in
theorem gX11_worth_X11_isGate : GoodIn wsX11_worth (wsV RX11 136 RX11 yX11_isGate wsX11_isGate) := goodIn_app (goodIn_of _ (by decide +kernel)) ggX11_worth_X11_isGate
set_option maxRecDepth 20000 in
theorem ggX11_worth_X11_isStory : GoodIn wsX11_worth wsX11_isStory := goodIn_r _ [11, 12, 57, 58, 59, 60, 61, 62, 63, 64, 65, 66, 67, 68, 69, 70, 71, 72, 73, 74, 75, 76, 77, 78, 79, 80, 81, 82, 83, 84, 85, 86, 87, 88, 89, 90] (by decide +kernel) (by decide +kernel)
set_option maxRecDepth 20000 in
theorem gX11_worth_X11_isStory : GoodIn wsX11_worth (wsV RX11 139 RX11 yX11_isStory wsX11_isStory) := goodIn_app (goodIn_of _ (by decide +kernel)) ggX11_worth_X11_isStory
set_option maxRecDepth 20000 in
theorem ggX11_worth_X11_isDay : GoodIn wsX11_worth wsX11_isDay := goodIn_r _ [15, 16, 17, 5, 18] (by decide +kernel) (by decide +kernel)
set_option maxRecDepth 20000 in
theorem gX11_worth_X11_isDay : GoodIn wsX11_worth (va_wsS RX11 146 yX11_isDay wsX11_isDay) := goodIn_app (goodIn_of _ (by decide +kernel)) ggX11_worth_X11_isDay
set_option maxRecDepth 20000 in
theorem ggX11_worth_X11_findLeast : GoodIn wsX11_worth wsX11_findLeast := goodIn_r _ [22, 7, 23, 24, 25, 26, 27, 28, 5, 29, 1, 30, 16, 17, 18, 31, 32, 33, 34, 35, 36, 37, 38, 39, 40, 41, 42, 43, 44, 45, 46, 47, 48, 49, 50, 51, 52, 53, 54, 55, 56, 57, 58, 59, 60, 61, 62, 63, 64, 65, 66, 67, 68, 69, 70, 71, 72, 73, 74, 75, 76, 77, 78, 79, 80, 81, 82, 83, 84, 85, 86, 87, 88, 89, 90] (by decide +kernel) (by decide +kernel)
set_option maxRecDepth 20000 in
theorem gX11_worth_X11_findLeast : GoodIn wsX11_worth (wsV RX11 195 RX11 yX11_findLeast wsX11_findLeast) := goodIn_app (goodIn_of _ (by decide +kernel)) ggX11_worth_X11_findLeast
theorem dX11_worth_0 : decode cX11_worth 0 = .ok (.aload_n 0, 1) := by decide +kernel
theorem dX11_worth_1 : decode cX11_worth 1 = .ok (.iload_n 1, 1) := by decide +kernel
theorem dX11_worth_2 : decode cX11_worth 2 = .ok (.invokevirtual 136, 3) := by decide +kernel
theorem dX11_worth_5 : decode cX11_worth 5 = .ok (.ifCond .eq 11, 3) := by decide +kernel
theorem dX11_worth_8 : decode cX11_worth 8 = .ok (.aload_n 0, 1) := by decide +kernel
theorem dX11_worth_9 : decode cX11_worth 9 = .ok (.iload_n 2, 1) := by decide +kernel
theorem dX11_worth_10 : decode cX11_worth 10 = .ok (.invokevirtual 139, 3) := by decide +kernel
theorem dX11_worth_13 : decode cX11_worth 13 = .ok (.ifCond .ne 5, 3) := by decide +kernel
theorem dX11_worth_16 : decode cX11_worth 16 = .ok (.iconst (-1), 1) := by decide +kernel
theorem dX11_worth_17 : decode cX11_worth 17 = .ok (.ireturn, 1) := by decide +kernel
theorem dX11_worth_18 : decode cX11_worth 18 = .ok (.iload_n 3, 1) := by decide +kernel
theorem dX11_worth_19 : decode cX11_worth 19 = .ok (.invokestatic 146, 3) := by decide +kernel
theorem dX11_worth_22 : decode cX11_worth 22 = .ok (.ifCond .ne 6, 3) := by decide +kernel
theorem dX11_worth_25 : decode cX11_worth 25 = .ok (.bipush (-2), 2) := by decide +kernel
theorem dX11_worth_27 : decode cX11_worth 27 = .ok (.ireturn, 1) := by decide +kernel
theorem dX11_worth_28 : decode cX11_worth 28 = .ok (.aload_n 0, 1) := by decide +kernel
theorem dX11_worth_29 : decode cX11_worth 29 = .ok (.iload_n 2, 1) := by decide +kernel
theorem dX11_worth_30 : decode cX11_worth 30 = .ok (.iload_n 3, 1) := by decide +kernel
theorem dX11_worth_31 : decode cX11_worth 31 = .ok (.invokevirtual 195, 3) := by decide +kernel
theorem dX11_worth_34 : decode cX11_worth 34 = .ok (.istore 4, 2) := by decide +kernel
theorem dX11_worth_36 : decode cX11_worth 36 = .ok (.aload_n 0, 1) := by decide +kernel
theorem dX11_worth_37 : decode cX11_worth 37 = .ok (.iload_n 1, 1) := by decide +kernel
theorem dX11_worth_38 : decode cX11_worth 38 = .ok (.putfield 37, 3) := by decide +kernel
theorem dX11_worth_41 : decode cX11_worth 41 = .ok (.aload_n 0, 1) := by decide +kernel
theorem dX11_worth_42 : decode cX11_worth 42 = .ok (.iload_n 2, 1) := by decide +kernel
theorem dX11_worth_43 : decode cX11_worth 43 = .ok (.iload_n 3, 1) := by decide +kernel
theorem dX11_worth_44 : decode cX11_worth 44 = .ok (.invokevirtual 195, 3) := by decide +kernel
theorem dX11_worth_47 : decode cX11_worth 47 = .ok (.istore 5, 2) := by decide +kernel
theorem dX11_worth_49 : decode cX11_worth 49 = .ok (.aload_n 0, 1) := by decide +kernel
theorem dX11_worth_50 : decode cX11_worth 50 = .ok (.bipush (-9), 2) := by decide +kernel
theorem dX11_worth_52 : decode cX11_worth 52 = .ok (.putfield 37, 3) := by decide +kernel
theorem dX11_worth_55 : decode cX11_worth 55 = .ok (.iload 4, 2) := by decide +kernel
theorem dX11_worth_57 : decode cX11_worth 57 = .ok (.bipush (-9), 2) := by decide +kernel
theorem dX11_worth_59 : decode cX11_worth 59 = .ok (.if_icmp .eq 10, 3) := by decide +kernel
theorem dX11_worth_62 : decode cX11_worth 62 = .ok (.iload 5, 2) := by decide +kernel
theorem dX11_worth_64 : decode cX11_worth 64 = .ok (.bipush (-9), 2) := by decide +kernel
theorem dX11_worth_66 : decode cX11_worth 66 = .ok (.if_icmp .ne 8, 3) := by decide +kernel
theorem dX11_worth_69 : decode cX11_worth 69 = .ok (.bipush (-9), 2) := by decide +kernel
theorem dX11_worth_71 : decode cX11_worth 71 = .ok (.goto 8, 3) := by decide +kernel
theorem dX11_worth_74 : decode cX11_worth 74 = .ok (.iload 5, 2) := by decide +kernel
theorem dX11_worth_76 : decode cX11_worth 76 = .ok (.iload 4, 2) := by decide +kernel
theorem dX11_worth_78 : decode cX11_worth 78 = .ok (.isub, 1) := by decide +kernel
theorem dX11_worth_79 : decode cX11_worth 79 = .ok (.ireturn, 1) := by decide +kernel
set_option maxRecDepth 20000 in
theorem ggX11_reading_X11_isGate : GoodIn wsX11_reading wsX11_isGate := goodIn_r _ [8, 9, 13, 14, 15, 16, 17, 18, 19, 20, 21, 22, 23, 24, 25, 26, 27, 28, 29, 30, 31, 32, 33, 34, 35, 36, 37, 38, 39, 40, 41, 42, 43, 44, 45, 46] (by decide +kernel) (by decide +kernel)
set_option maxRecDepth 20000 in
theorem gX11_reading_X11_isGate : GoodIn wsX11_reading (wsV RX11 136 RX11 yX11_isGate wsX11_isGate) := goodIn_app (goodIn_of _ (by decide +kernel)) ggX11_reading_X11_isGate
set_option maxRecDepth 20000 in
theorem ggX11_reading_X11_within : GoodIn wsX11_reading wsX11_within := goodIn_r _ [12] (by decide +kernel) (by decide +kernel)
set_option maxRecDepth 20000 in
theorem gX11_reading_X11_within : GoodIn wsX11_reading (va_wsS RX11 79 yX11_within wsX11_within) := goodIn_app (goodIn_of _ (by decide +kernel)) ggX11_reading_X11_within
theorem dX11_reading_0 : decode cX11_reading 0 = .ok (.aload_n 0, 1) := by decide +kernel
theorem dX11_reading_1 : decode cX11_reading 1 = .ok (.iload_n 1, 1) := by decide +kernel
theorem dX11_reading_2 : decode cX11_reading 2 = .ok (.invokevirtual 136, 3) := by decide +kernel
theorem dX11_reading_5 : decode cX11_reading 5 = .ok (.ifCond .ne 5, 3) := by decide +kernel
theorem dX11_reading_8 : decode cX11_reading 8 = .ok (.iconst (-1), 1) := by decide +kernel
theorem dX11_reading_9 : decode cX11_reading 9 = .ok (.ireturn, 1) := by decide +kernel
theorem dX11_reading_10 : decode cX11_reading 10 = .ok (.iload_n 2, 1) := by decide +kernel
theorem dX11_reading_11 : decode cX11_reading 11 = .ok (.iconst 0, 1) := by decide +kernel
theorem dX11_reading_12 : decode cX11_reading 12 = .ok (.sipush 9999, 3) := by decide +kernel
theorem dX11_reading_15 : decode cX11_reading 15 = .ok (.invokestatic 79, 3) := by decide +kernel
theorem dX11_reading_18 : decode cX11_reading 18 = .ok (.ifCond .ne 6, 3) := by decide +kernel
theorem dX11_reading_21 : decode cX11_reading 21 = .ok (.bipush (-2), 2) := by decide +kernel
theorem dX11_reading_23 : decode cX11_reading 23 = .ok (.ireturn, 1) := by decide +kernel
theorem dX11_reading_24 : decode cX11_reading 24 = .ok (.aload_n 0, 1) := by decide +kernel
theorem dX11_reading_25 : decode cX11_reading 25 = .ok (.getfield 119, 3) := by decide +kernel
theorem dX11_reading_28 : decode cX11_reading 28 = .ok (.bipush 8, 2) := by decide +kernel
theorem dX11_reading_30 : decode cX11_reading 30 = .ok (.if_icmp .ne 6, 3) := by decide +kernel
theorem dX11_reading_33 : decode cX11_reading 33 = .ok (.bipush (-4), 2) := by decide +kernel
theorem dX11_reading_35 : decode cX11_reading 35 = .ok (.ireturn, 1) := by decide +kernel
theorem dX11_reading_36 : decode cX11_reading 36 = .ok (.aload_n 0, 1) := by decide +kernel
theorem dX11_reading_37 : decode cX11_reading 37 = .ok (.getfield 68, 3) := by decide +kernel
theorem dX11_reading_40 : decode cX11_reading 40 = .ok (.aload_n 0, 1) := by decide +kernel
theorem dX11_reading_41 : decode cX11_reading 41 = .ok (.getfield 119, 3) := by decide +kernel
theorem dX11_reading_44 : decode cX11_reading 44 = .ok (.iload_n 1, 1) := by decide +kernel
theorem dX11_reading_45 : decode cX11_reading 45 = .ok (.iastore, 1) := by decide +kernel
theorem dX11_reading_46 : decode cX11_reading 46 = .ok (.aload_n 0, 1) := by decide +kernel
theorem dX11_reading_47 : decode cX11_reading 47 = .ok (.getfield 71, 3) := by decide +kernel
theorem dX11_reading_50 : decode cX11_reading 50 = .ok (.aload_n 0, 1) := by decide +kernel
theorem dX11_reading_51 : decode cX11_reading 51 = .ok (.getfield 119, 3) := by decide +kernel
theorem dX11_reading_54 : decode cX11_reading 54 = .ok (.iload_n 2, 1) := by decide +kernel
theorem dX11_reading_55 : decode cX11_reading 55 = .ok (.iastore, 1) := by decide +kernel
theorem dX11_reading_56 : decode cX11_reading 56 = .ok (.aload_n 0, 1) := by decide +kernel
theorem dX11_reading_57 : decode cX11_reading 57 = .ok (.dup, 1) := by decide +kernel
theorem dX11_reading_58 : decode cX11_reading 58 = .ok (.getfield 119, 3) := by decide +kernel
theorem dX11_reading_61 : decode cX11_reading 61 = .ok (.iconst 1, 1) := by decide +kernel
theorem dX11_reading_62 : decode cX11_reading 62 = .ok (.iadd, 1) := by decide +kernel
theorem dX11_reading_63 : decode cX11_reading 63 = .ok (.putfield 119, 3) := by decide +kernel
theorem dX11_reading_66 : decode cX11_reading 66 = .ok (.aload_n 0, 1) := by decide +kernel
theorem dX11_reading_67 : decode cX11_reading 67 = .ok (.getfield 119, 3) := by decide +kernel
theorem dX11_reading_70 : decode cX11_reading 70 = .ok (.iconst 1, 1) := by decide +kernel
theorem dX11_reading_71 : decode cX11_reading 71 = .ok (.isub, 1) := by decide +kernel
theorem dX11_reading_72 : decode cX11_reading 72 = .ok (.ireturn, 1) := by decide +kernel
set_option maxRecDepth 20000 in
theorem ggX11_back_X11_within : GoodIn wsX11_back wsX11_within := goodIn_r _ [5] (by decide +kernel) (by decide +kernel)
set_option maxRecDepth 20000 in
theorem gX11_back_X11_within : GoodIn wsX11_back (va_wsS RX11 79 yX11_within wsX11_within) := goodIn_app (goodIn_of _ (by decide +kernel)) ggX11_back_X11_within
theorem dX11_back_0 : decode cX11_back 0 = .ok (.iload_n 1, 1) := by decide +kernel
theorem dX11_back_1 : decode cX11_back 1 = .ok (.iconst 0, 1) := by decide +kernel
theorem dX11_back_2 : decode cX11_back 2 = .ok (.aload_n 0, 1) := by decide +kernel
theorem dX11_back_3 : decode cX11_back 3 = .ok (.getfield 119, 3) := by decide +kernel
theorem dX11_back_6 : decode cX11_back 6 = .ok (.invokestatic 79, 3) := by decide +kernel
theorem dX11_back_9 : decode cX11_back 9 = .ok (.ifCond .ne 6, 3) := by decide +kernel
theorem dX11_back_12 : decode cX11_back 12 = .ok (.bipush (-2), 2) := by decide +kernel
theorem dX11_back_14 : decode cX11_back 14 = .ok (.ireturn, 1) := by decide +kernel
theorem dX11_back_15 : decode cX11_back 15 = .ok (.aload_n 0, 1) := by decide +kernel
theorem dX11_back_16 : decode cX11_back 16 = .ok (.dup, 1) := by decide +kernel
theorem dX11_back_17 : decode cX11_back 17 = .ok (.getfield 119, 3) := by decide +kernel
theorem dX11_back_20 : decode cX11_back 20 = .ok (.iload_n 1, 1) := by decide +kernel
theorem dX11_back_21 : decode cX11_back 21 = .ok (.isub, 1) := by decide +kernel
theorem dX11_back_22 : decode cX11_back 22 = .ok (.putfield 119, 3) := by decide +kernel
theorem dX11_back_25 : decode cX11_back 25 = .ok (.aload_n 0, 1) := by decide +kernel
theorem dX11_back_26 : decode cX11_back 26 = .ok (.getfield 119, 3) := by decide +kernel
theorem dX11_back_29 : decode cX11_back 29 = .ok (.ireturn, 1) := by decide +kernel
set_option maxRecDepth 20000 in
theorem ggX11_areSo_X11_go : GoodIn wsX11_areSo wsX11_go := goodIn_r _ [9, 10, 11, 12, 13, 14, 15, 16, 17, 18, 19, 8, 20, 49, 50, 51, 52, 53, 54, 55, 56, 57, 58, 59, 60, 61, 62, 63, 64, 65, 66, 67, 68, 69, 70, 71, 72, 73, 74, 75, 76, 77, 78, 79, 80, 81, 82] (by decide +kernel) (by decide +kernel)
set_option maxRecDepth 20000 in
theorem gX11_areSo_X11_go : GoodIn wsX11_areSo (wsV RX11 170 RX11 yX11_go wsX11_go) := goodIn_app (goodIn_of _ (by decide +kernel)) ggX11_areSo_X11_go
set_option maxRecDepth 20000 in
theorem ggX11_areSo_X11_takeAll : GoodIn wsX11_areSo wsX11_takeAll := goodIn_r _ [24, 25, 2, 26, 16, 10, 18, 19, 8, 20, 27, 28, 29, 30, 31, 32, 33, 34, 35, 36, 37, 38, 39, 40, 41, 42, 43, 44, 45, 46, 47, 48, 49, 50, 51, 52, 53, 54, 55, 56, 57, 58, 59, 60, 61, 62, 63, 64, 65, 66, 67, 68, 69, 70, 71, 72, 73, 74, 75, 76, 77, 78, 79, 80, 81, 82] (by decide +kernel) (by decide +kernel)
set_option maxRecDepth 20000 in
theorem gX11_areSo_X11_takeAll : GoodIn wsX11_areSo (wsV RX11 177 RX11 yX11_takeAll wsX11_takeAll) := goodIn_app (goodIn_of _ (by decide +kernel)) ggX11_areSo_X11_takeAll
theorem dX11_areSo_0 : decode cX11_areSo 0 = .ok (.aload_n 0, 1) := by decide +kernel
theorem dX11_areSo_1 : decode cX11_areSo 1 = .ok (.invokevirtual 170, 3) := by decide +kernel
theorem dX11_areSo_4 : decode cX11_areSo 4 = .ok (.bipush (-9), 2) := by decide +kernel
theorem dX11_areSo_6 : decode cX11_areSo 6 = .ok (.if_icmp .eq 5, 3) := by decide +kernel
theorem dX11_areSo_9 : decode cX11_areSo 9 = .ok (.iconst 0, 1) := by decide +kernel
theorem dX11_areSo_10 : decode cX11_areSo 10 = .ok (.ireturn, 1) := by decide +kernel
theorem dX11_areSo_11 : decode cX11_areSo 11 = .ok (.aload_n 0, 1) := by decide +kernel
theorem dX11_areSo_12 : decode cX11_areSo 12 = .ok (.invokevirtual 177, 3) := by decide +kernel
theorem dX11_areSo_15 : decode cX11_areSo 15 = .ok (.pop, 1) := by decide +kernel
theorem dX11_areSo_16 : decode cX11_areSo 16 = .ok (.iconst 0, 1) := by decide +kernel
theorem dX11_areSo_17 : decode cX11_areSo 17 = .ok (.istore_n 1, 1) := by decide +kernel
theorem dX11_areSo_18 : decode cX11_areSo 18 = .ok (.iload_n 1, 1) := by decide +kernel
theorem dX11_areSo_19 : decode cX11_areSo 19 = .ok (.aload_n 0, 1) := by decide +kernel
theorem dX11_areSo_20 : decode cX11_areSo 20 = .ok (.getfield 119, 3) := by decide +kernel
theorem dX11_areSo_23 : decode cX11_areSo 23 = .ok (.if_icmp .ge 31, 3) := by decide +kernel
theorem dX11_areSo_26 : decode cX11_areSo 26 = .ok (.aload_n 0, 1) := by decide +kernel
theorem dX11_areSo_27 : decode cX11_areSo 27 = .ok (.getfield 65, 3) := by decide +kernel
theorem dX11_areSo_30 : decode cX11_areSo 30 = .ok (.aload_n 0, 1) := by decide +kernel
theorem dX11_areSo_31 : decode cX11_areSo 31 = .ok (.getfield 68, 3) := by decide +kernel
theorem dX11_areSo_34 : decode cX11_areSo 34 = .ok (.iload_n 1, 1) := by decide +kernel
theorem dX11_areSo_35 : decode cX11_areSo 35 = .ok (.iaload, 1) := by decide +kernel
theorem dX11_areSo_36 : decode cX11_areSo 36 = .ok (.iaload, 1) := by decide +kernel
theorem dX11_areSo_37 : decode cX11_areSo 37 = .ok (.aload_n 0, 1) := by decide +kernel
theorem dX11_areSo_38 : decode cX11_areSo 38 = .ok (.getfield 71, 3) := by decide +kernel
theorem dX11_areSo_41 : decode cX11_areSo 41 = .ok (.iload_n 1, 1) := by decide +kernel
theorem dX11_areSo_42 : decode cX11_areSo 42 = .ok (.iaload, 1) := by decide +kernel
theorem dX11_areSo_43 : decode cX11_areSo 43 = .ok (.if_icmp .eq 5, 3) := by decide +kernel
theorem dX11_areSo_46 : decode cX11_areSo 46 = .ok (.iconst 0, 1) := by decide +kernel
theorem dX11_areSo_47 : decode cX11_areSo 47 = .ok (.ireturn, 1) := by decide +kernel
theorem dX11_areSo_48 : decode cX11_areSo 48 = .ok (.iinc 1 1, 3) := by decide +kernel
theorem dX11_areSo_51 : decode cX11_areSo 51 = .ok (.goto (-33), 3) := by decide +kernel
theorem dX11_areSo_54 : decode cX11_areSo 54 = .ok (.iconst 1, 1) := by decide +kernel
theorem dX11_areSo_55 : decode cX11_areSo 55 = .ok (.ireturn, 1) := by decide +kernel
set_option maxRecDepth 20000 in
theorem ggX11_lay_X11_isSheet : GoodIn wsX11_lay wsX11_isSheet := goodIn_r _ [5, 6, 7, 4, 8] (by decide +kernel) (by decide +kernel)
set_option maxRecDepth 20000 in
theorem gX11_lay_X11_isSheet : GoodIn wsX11_lay (va_wsS RX11 92 yX11_isSheet wsX11_isSheet) := goodIn_app (goodIn_of _ (by decide +kernel)) ggX11_lay_X11_isSheet
set_option maxRecDepth 20000 in
theorem ggX11_lay_X11_isRow : GoodIn wsX11_lay wsX11_isRow := goodIn_r _ [11, 12, 13, 4, 14, 6, 7, 8] (by decide +kernel) (by decide +kernel)
set_option maxRecDepth 20000 in
theorem gX11_lay_X11_isRow : GoodIn wsX11_lay (va_wsS RX11 164 yX11_isRow wsX11_isRow) := goodIn_app (goodIn_of _ (by decide +kernel)) ggX11_lay_X11_isRow
set_option maxRecDepth 20000 in
theorem ggX11_lay_X11_layPassages : GoodIn wsX11_lay wsX11_layPassages := goodIn_r _ [18, 19, 20, 21, 22, 23, 24, 25, 26, 27, 4, 28, 29, 30, 31, 32, 33, 34, 1, 35, 36, 37, 38, 39, 40, 41, 42, 43, 44, 45, 46, 6, 7, 8, 47, 48, 49, 50, 51, 52, 53, 54, 55, 56, 57, 58, 59, 60, 61, 62, 63, 64, 65, 66, 67, 68, 69, 70, 71, 72, 73, 74, 75, 76, 77, 78, 79, 80] (by decide +kernel) (by decide +kernel)
set_option maxRecDepth 20000 in
theorem gX11_lay_X11_layPassages : GoodIn wsX11_lay (wsV RX11 167 RX11 yX11_layPassages wsX11_layPassages) := goodIn_app (goodIn_of _ (by decide +kernel)) ggX11_lay_X11_layPassages
theorem dX11_lay_0 : decode cX11_lay 0 = .ok (.aload_n 0, 1) := by decide +kernel
theorem dX11_lay_1 : decode cX11_lay 1 = .ok (.iconst 0, 1) := by decide +kernel
theorem dX11_lay_2 : decode cX11_lay 2 = .ok (.putfield 74, 3) := by decide +kernel
theorem dX11_lay_5 : decode cX11_lay 5 = .ok (.iload_n 1, 1) := by decide +kernel
theorem dX11_lay_6 : decode cX11_lay 6 = .ok (.ifCond .eq 10, 3) := by decide +kernel
theorem dX11_lay_9 : decode cX11_lay 9 = .ok (.iload_n 2, 1) := by decide +kernel
theorem dX11_lay_10 : decode cX11_lay 10 = .ok (.invokestatic 92, 3) := by decide +kernel
theorem dX11_lay_13 : decode cX11_lay 13 = .ok (.ifCond .ne 5, 3) := by decide +kernel
theorem dX11_lay_16 : decode cX11_lay 16 = .ok (.iconst (-1), 1) := by decide +kernel
theorem dX11_lay_17 : decode cX11_lay 17 = .ok (.ireturn, 1) := by decide +kernel
theorem dX11_lay_18 : decode cX11_lay 18 = .ok (.iload_n 3, 1) := by decide +kernel
theorem dX11_lay_19 : decode cX11_lay 19 = .ok (.iload 5, 2) := by decide +kernel
theorem dX11_lay_21 : decode cX11_lay 21 = .ok (.invokestatic 164, 3) := by decide +kernel
theorem dX11_lay_24 : decode cX11_lay 24 = .ok (.ifCond .eq 16, 3) := by decide +kernel
theorem dX11_lay_27 : decode cX11_lay 27 = .ok (.aload_n 0, 1) := by decide +kernel
theorem dX11_lay_28 : decode cX11_lay 28 = .ok (.iload_n 2, 1) := by decide +kernel
theorem dX11_lay_29 : decode cX11_lay 29 = .ok (.iload_n 3, 1) := by decide +kernel
theorem dX11_lay_30 : decode cX11_lay 30 = .ok (.iload 4, 2) := by decide +kernel
theorem dX11_lay_32 : decode cX11_lay 32 = .ok (.iload 5, 2) := by decide +kernel
theorem dX11_lay_34 : decode cX11_lay 34 = .ok (.invokevirtual 167, 3) := by decide +kernel
theorem dX11_lay_37 : decode cX11_lay 37 = .ok (.goto 5, 3) := by decide +kernel
theorem dX11_lay_40 : decode cX11_lay 40 = .ok (.bipush (-2), 2) := by decide +kernel
theorem dX11_lay_42 : decode cX11_lay 42 = .ok (.ireturn, 1) := by decide +kernel
set_option maxRecDepth 20000 in
theorem ggX11_sizes_X11_isStory : GoodIn wsX11_sizes wsX11_isStory := goodIn_r _ [6, 7, 96, 97, 98, 99, 100, 101, 102, 103, 104, 105, 106, 107, 108, 109, 110, 111, 112, 113, 114, 115, 116, 117, 118, 119, 120, 121, 122, 123, 124, 125, 126, 127, 128, 129] (by decide +kernel) (by decide +kernel)
set_option maxRecDepth 20000 in
theorem gX11_sizes_X11_isStory : GoodIn wsX11_sizes (wsV RX11 139 RX11 yX11_isStory wsX11_isStory) := goodIn_app (goodIn_of _ (by decide +kernel)) ggX11_sizes_X11_isStory
set_option maxRecDepth 20000 in
theorem ggX11_sizes_X11_lay : GoodIn wsX11_sizes wsX11_lay := goodIn_r _ [11, 12, 13, 14, 5, 15, 16, 17, 18, 19, 20, 21, 22, 23, 24, 25, 26, 27, 28, 29, 30, 31, 32, 33, 34, 35, 36, 37, 38, 39, 40, 41, 42, 43, 44, 2, 3, 4, 6, 7, 45, 46, 47, 48, 49, 50, 51, 96, 97, 98, 99, 100, 101, 102, 103, 104, 105, 106, 107, 108, 109, 110, 111, 112, 113, 114, 115, 116, 117, 118, 119, 120, 121, 122, 123, 124, 125, 126, 127, 128, 129] (by decide +kernel) (by decide +kernel)
set_option maxRecDepth 20000 in
theorem gX11_sizes_X11_lay : GoodIn wsX11_sizes (wsV RX11 198 RX11 yX11_lay wsX11_lay) := goodIn_app (goodIn_of _ (by decide +kernel)) ggX11_sizes_X11_lay
set_option maxRecDepth 20000 in
theorem ggX11_sizes_X11_areSo : GoodIn wsX11_sizes wsX11_areSo := goodIn_r _ [55, 56, 57, 58, 59, 60, 61, 62, 5, 63, 64, 65, 66, 34, 30, 33, 67, 32, 68, 69, 70, 71, 72, 73, 74, 29, 7, 75, 76, 77, 78, 79, 80, 81, 82, 83, 84, 85, 86, 87, 88, 89, 90, 91, 1, 92, 93, 94, 95, 96, 97, 98, 99, 100, 101, 102, 103, 104, 105, 106, 107, 108, 109, 110, 111, 112, 113, 114, 115, 116, 117, 118, 119, 120, 121, 122, 123, 124, 125, 126, 127, 128, 129] (by decide +kernel) (by decide +kernel)
set_option maxRecDepth 20000 in
theorem gX11_sizes_X11_areSo : GoodIn wsX11_sizes (wsV RX11 202 RX11 yX11_areSo wsX11_areSo) := goodIn_app (goodIn_of _ (by decide +kernel)) ggX11_sizes_X11_areSo
theorem dX11_sizes_0 : decode cX11_sizes 0 = .ok (.aload_n 0, 1) := by decide +kernel
theorem dX11_sizes_1 : decode cX11_sizes 1 = .ok (.aload_n 0, 1) := by decide +kernel
theorem dX11_sizes_2 : decode cX11_sizes 2 = .ok (.iload_n 1, 1) := by decide +kernel
theorem dX11_sizes_3 : decode cX11_sizes 3 = .ok (.invokevirtual 139, 3) := by decide +kernel
theorem dX11_sizes_6 : decode cX11_sizes 6 = .ok (.iload_n 2, 1) := by decide +kernel
theorem dX11_sizes_7 : decode cX11_sizes 7 = .ok (.iload_n 3, 1) := by decide +kernel
theorem dX11_sizes_8 : decode cX11_sizes 8 = .ok (.iload 4, 2) := by decide +kernel
theorem dX11_sizes_10 : decode cX11_sizes 10 = .ok (.iload 5, 2) := by decide +kernel
theorem dX11_sizes_12 : decode cX11_sizes 12 = .ok (.invokevirtual 198, 3) := by decide +kernel
theorem dX11_sizes_15 : decode cX11_sizes 15 = .ok (.istore 6, 2) := by decide +kernel
theorem dX11_sizes_17 : decode cX11_sizes 17 = .ok (.iload 6, 2) := by decide +kernel
theorem dX11_sizes_19 : decode cX11_sizes 19 = .ok (.ifCond .eq 6, 3) := by decide +kernel
theorem dX11_sizes_22 : decode cX11_sizes 22 = .ok (.iload 6, 2) := by decide +kernel
theorem dX11_sizes_24 : decode cX11_sizes 24 = .ok (.ireturn, 1) := by decide +kernel
theorem dX11_sizes_25 : decode cX11_sizes 25 = .ok (.aload_n 0, 1) := by decide +kernel
theorem dX11_sizes_26 : decode cX11_sizes 26 = .ok (.getfield 28, 3) := by decide +kernel
theorem dX11_sizes_29 : decode cX11_sizes 29 = .ok (.iload_n 1, 1) := by decide +kernel
theorem dX11_sizes_30 : decode cX11_sizes 30 = .ok (.iaload, 1) := by decide +kernel
theorem dX11_sizes_31 : decode cX11_sizes 31 = .ok (.istore 7, 2) := by decide +kernel
theorem dX11_sizes_33 : decode cX11_sizes 33 = .ok (.iconst 0, 1) := by decide +kernel
theorem dX11_sizes_34 : decode cX11_sizes 34 = .ok (.istore 8, 2) := by decide +kernel
theorem dX11_sizes_36 : decode cX11_sizes 36 = .ok (.iconst 1, 1) := by decide +kernel
theorem dX11_sizes_37 : decode cX11_sizes 37 = .ok (.istore 9, 2) := by decide +kernel
theorem dX11_sizes_39 : decode cX11_sizes 39 = .ok (.iload 9, 2) := by decide +kernel
theorem dX11_sizes_41 : decode cX11_sizes 41 = .ok (.bipush 9, 2) := by decide +kernel
theorem dX11_sizes_43 : decode cX11_sizes 43 = .ok (.if_icmp .gt 37, 3) := by decide +kernel
theorem dX11_sizes_46 : decode cX11_sizes 46 = .ok (.aload_n 0, 1) := by decide +kernel
theorem dX11_sizes_47 : decode cX11_sizes 47 = .ok (.getfield 28, 3) := by decide +kernel
theorem dX11_sizes_50 : decode cX11_sizes 50 = .ok (.iload_n 1, 1) := by decide +kernel
theorem dX11_sizes_51 : decode cX11_sizes 51 = .ok (.iload 9, 2) := by decide +kernel
theorem dX11_sizes_53 : decode cX11_sizes 53 = .ok (.iastore, 1) := by decide +kernel
theorem dX11_sizes_54 : decode cX11_sizes 54 = .ok (.iload 8, 2) := by decide +kernel
theorem dX11_sizes_56 : decode cX11_sizes 56 = .ok (.aload_n 0, 1) := by decide +kernel
theorem dX11_sizes_57 : decode cX11_sizes 57 = .ok (.invokevirtual 202, 3) := by decide +kernel
theorem dX11_sizes_60 : decode cX11_sizes 60 = .ok (.ifCond .eq 10, 3) := by decide +kernel
theorem dX11_sizes_63 : decode cX11_sizes 63 = .ok (.iconst 1, 1) := by decide +kernel
theorem dX11_sizes_64 : decode cX11_sizes 64 = .ok (.iload 9, 2) := by decide +kernel
theorem dX11_sizes_66 : decode cX11_sizes 66 = .ok (.ishl, 1) := by decide +kernel
theorem dX11_sizes_67 : decode cX11_sizes 67 = .ok (.goto 4, 3) := by decide +kernel
theorem dX11_sizes_70 : decode cX11_sizes 70 = .ok (.iconst 0, 1) := by decide +kernel
theorem dX11_sizes_71 : decode cX11_sizes 71 = .ok (.ior, 1) := by decide +kernel
theorem dX11_sizes_72 : decode cX11_sizes 72 = .ok (.istore 8, 2) := by decide +kernel
theorem dX11_sizes_74 : decode cX11_sizes 74 = .ok (.iinc 9 1, 3) := by decide +kernel
theorem dX11_sizes_77 : decode cX11_sizes 77 = .ok (.goto (-38), 3) := by decide +kernel
theorem dX11_sizes_80 : decode cX11_sizes 80 = .ok (.aload_n 0, 1) := by decide +kernel
theorem dX11_sizes_81 : decode cX11_sizes 81 = .ok (.getfield 28, 3) := by decide +kernel
theorem dX11_sizes_84 : decode cX11_sizes 84 = .ok (.iload_n 1, 1) := by decide +kernel
theorem dX11_sizes_85 : decode cX11_sizes 85 = .ok (.iload 7, 2) := by decide +kernel
theorem dX11_sizes_87 : decode cX11_sizes 87 = .ok (.iastore, 1) := by decide +kernel
theorem dX11_sizes_88 : decode cX11_sizes 88 = .ok (.iload 8, 2) := by decide +kernel
theorem dX11_sizes_90 : decode cX11_sizes 90 = .ok (.ireturn, 1) := by decide +kernel
set_option maxRecDepth 20000 in
theorem ggX11_persons_X11_isStory : GoodIn wsX11_persons wsX11_isStory := goodIn_r _ [6, 7, 96, 97, 98, 99, 100, 101, 102, 103, 104, 105, 106, 107, 108, 109, 110, 111, 112, 113, 114, 115, 116, 117, 118, 119, 120, 121, 122, 123, 124, 125, 126, 127, 128, 129] (by decide +kernel) (by decide +kernel)
set_option maxRecDepth 20000 in
theorem gX11_persons_X11_isStory : GoodIn wsX11_persons (wsV RX11 139 RX11 yX11_isStory wsX11_isStory) := goodIn_app (goodIn_of _ (by decide +kernel)) ggX11_persons_X11_isStory
set_option maxRecDepth 20000 in
theorem ggX11_persons_X11_lay : GoodIn wsX11_persons wsX11_lay := goodIn_r _ [11, 12, 13, 14, 5, 15, 16, 17, 18, 19, 20, 21, 22, 23, 24, 25, 26, 27, 28, 29, 30, 31, 32, 33, 34, 35, 36, 37, 38, 39, 40, 41, 42, 43, 44, 2, 3, 4, 6, 7, 45, 46, 47, 48, 49, 50, 51, 96, 97, 98, 99, 100, 101, 102, 103, 104, 105, 106, 107, 108, 109, 110, 111, 112, 113, 114, 115, 116, 117, 118, 119, 120, 121, 122, 123, 124, 125, 126, 127, 128, 129] (by decide +kernel) (by decide +kernel)
set_option maxRecDepth 20000 in
theorem gX11_persons_X11_lay : GoodIn wsX11_persons (wsV RX11 198 RX11 yX11_lay wsX11_lay) := goodIn_app (goodIn_of _ (by decide +kernel)) ggX11_persons_X11_lay
set_option maxRecDepth 20000 in
theorem ggX11_persons_X11_areSo : GoodIn wsX11_persons wsX11_areSo := goodIn_r _ [55, 56, 57, 58, 59, 60, 61, 62, 5, 63, 64, 65, 66, 34, 30, 33, 67, 32, 68, 69, 70, 71, 72, 73, 74, 29, 7, 75, 76, 77, 78, 79, 80, 1, 81, 82, 83, 84, 85, 86, 87, 88, 89, 90, 91, 92, 93, 94, 95, 96, 97, 98, 99, 100, 101, 102, 103, 104, 105, 106, 107, 108, 109, 110, 111, 112, 113, 114, 115, 116, 117, 118, 119, 120, 121, 122, 123, 124, 125, 126, 127, 128, 129] (by decide +kernel) (by decide +kernel)
set_option maxRecDepth 20000 in
theorem gX11_persons_X11_areSo : GoodIn wsX11_persons (wsV RX11 202 RX11 yX11_areSo wsX11_areSo) := goodIn_app (goodIn_of _ (by decide +kernel)) ggX11_persons_X11_areSo
theorem dX11_persons_0 : decode cX11_persons 0 = .ok (.aload_n 0, 1) := by decide +kernel
theorem dX11_persons_1 : decode cX11_persons 1 = .ok (.aload_n 0, 1) := by decide +kernel
theorem dX11_persons_2 : decode cX11_persons 2 = .ok (.iload_n 1, 1) := by decide +kernel
theorem dX11_persons_3 : decode cX11_persons 3 = .ok (.invokevirtual 139, 3) := by decide +kernel
theorem dX11_persons_6 : decode cX11_persons 6 = .ok (.iload_n 2, 1) := by decide +kernel
theorem dX11_persons_7 : decode cX11_persons 7 = .ok (.iload_n 3, 1) := by decide +kernel
theorem dX11_persons_8 : decode cX11_persons 8 = .ok (.iload 4, 2) := by decide +kernel
theorem dX11_persons_10 : decode cX11_persons 10 = .ok (.iload 5, 2) := by decide +kernel
theorem dX11_persons_12 : decode cX11_persons 12 = .ok (.invokevirtual 198, 3) := by decide +kernel
theorem dX11_persons_15 : decode cX11_persons 15 = .ok (.istore 6, 2) := by decide +kernel
theorem dX11_persons_17 : decode cX11_persons 17 = .ok (.iload 6, 2) := by decide +kernel
theorem dX11_persons_19 : decode cX11_persons 19 = .ok (.ifCond .eq 6, 3) := by decide +kernel
theorem dX11_persons_22 : decode cX11_persons 22 = .ok (.iload 6, 2) := by decide +kernel
theorem dX11_persons_24 : decode cX11_persons 24 = .ok (.ireturn, 1) := by decide +kernel
theorem dX11_persons_25 : decode cX11_persons 25 = .ok (.aload_n 0, 1) := by decide +kernel
theorem dX11_persons_26 : decode cX11_persons 26 = .ok (.getfield 31, 3) := by decide +kernel
theorem dX11_persons_29 : decode cX11_persons 29 = .ok (.iload_n 1, 1) := by decide +kernel
theorem dX11_persons_30 : decode cX11_persons 30 = .ok (.iaload, 1) := by decide +kernel
theorem dX11_persons_31 : decode cX11_persons 31 = .ok (.istore 7, 2) := by decide +kernel
theorem dX11_persons_33 : decode cX11_persons 33 = .ok (.iconst 0, 1) := by decide +kernel
theorem dX11_persons_34 : decode cX11_persons 34 = .ok (.istore 8, 2) := by decide +kernel
theorem dX11_persons_36 : decode cX11_persons 36 = .ok (.iconst 0, 1) := by decide +kernel
theorem dX11_persons_37 : decode cX11_persons 37 = .ok (.istore 9, 2) := by decide +kernel
theorem dX11_persons_39 : decode cX11_persons 39 = .ok (.iload 9, 2) := by decide +kernel
theorem dX11_persons_41 : decode cX11_persons 41 = .ok (.bipush 6, 2) := by decide +kernel
theorem dX11_persons_43 : decode cX11_persons 43 = .ok (.if_icmp .ge 37, 3) := by decide +kernel
theorem dX11_persons_46 : decode cX11_persons 46 = .ok (.aload_n 0, 1) := by decide +kernel
theorem dX11_persons_47 : decode cX11_persons 47 = .ok (.getfield 31, 3) := by decide +kernel
theorem dX11_persons_50 : decode cX11_persons 50 = .ok (.iload_n 1, 1) := by decide +kernel
theorem dX11_persons_51 : decode cX11_persons 51 = .ok (.iload 9, 2) := by decide +kernel
theorem dX11_persons_53 : decode cX11_persons 53 = .ok (.iastore, 1) := by decide +kernel
theorem dX11_persons_54 : decode cX11_persons 54 = .ok (.iload 8, 2) := by decide +kernel
theorem dX11_persons_56 : decode cX11_persons 56 = .ok (.aload_n 0, 1) := by decide +kernel
theorem dX11_persons_57 : decode cX11_persons 57 = .ok (.invokevirtual 202, 3) := by decide +kernel
theorem dX11_persons_60 : decode cX11_persons 60 = .ok (.ifCond .eq 10, 3) := by decide +kernel
theorem dX11_persons_63 : decode cX11_persons 63 = .ok (.iconst 1, 1) := by decide +kernel
theorem dX11_persons_64 : decode cX11_persons 64 = .ok (.iload 9, 2) := by decide +kernel
theorem dX11_persons_66 : decode cX11_persons 66 = .ok (.ishl, 1) := by decide +kernel
theorem dX11_persons_67 : decode cX11_persons 67 = .ok (.goto 4, 3) := by decide +kernel
theorem dX11_persons_70 : decode cX11_persons 70 = .ok (.iconst 0, 1) := by decide +kernel
theorem dX11_persons_71 : decode cX11_persons 71 = .ok (.ior, 1) := by decide +kernel
theorem dX11_persons_72 : decode cX11_persons 72 = .ok (.istore 8, 2) := by decide +kernel
theorem dX11_persons_74 : decode cX11_persons 74 = .ok (.iinc 9 1, 3) := by decide +kernel
theorem dX11_persons_77 : decode cX11_persons 77 = .ok (.goto (-38), 3) := by decide +kernel
theorem dX11_persons_80 : decode cX11_persons 80 = .ok (.aload_n 0, 1) := by decide +kernel
theorem dX11_persons_81 : decode cX11_persons 81 = .ok (.getfield 31, 3) := by decide +kernel
theorem dX11_persons_84 : decode cX11_persons 84 = .ok (.iload_n 1, 1) := by decide +kernel
theorem dX11_persons_85 : decode cX11_persons 85 = .ok (.iload 7, 2) := by decide +kernel
theorem dX11_persons_87 : decode cX11_persons 87 = .ok (.iastore, 1) := by decide +kernel
theorem dX11_persons_88 : decode cX11_persons 88 = .ok (.iload 8, 2) := by decide +kernel
theorem dX11_persons_90 : decode cX11_persons 90 = .ok (.ireturn, 1) := by decide +kernel
set_option maxRecDepth 20000 in
theorem ggX11_kinds_X11_isGate : GoodIn wsX11_kinds wsX11_isGate := goodIn_r _ [6, 7, 96, 97, 98, 99, 100, 101, 102, 103, 104, 105, 106, 107, 108, 109, 110, 111, 112, 113, 114, 115, 116, 117, 118, 119, 120, 121, 122, 123, 124, 125, 126, 127, 128, 129] (by decide +kernel) (by decide +kernel)
set_option maxRecDepth 20000 in
theorem gX11_kinds_X11_isGate : GoodIn wsX11_kinds (wsV RX11 136 RX11 yX11_isGate wsX11_isGate) := goodIn_app (goodIn_of _ (by decide +kernel)) ggX11_kinds_X11_isGate
set_option maxRecDepth 20000 in
theorem ggX11_kinds_X11_lay : GoodIn wsX11_kinds wsX11_lay := goodIn_r _ [11, 12, 13, 14, 5, 15, 16, 17, 18, 19, 20, 21, 22, 23, 24, 25, 26, 27, 28, 7, 29, 30, 31, 32, 33, 34, 35, 36, 37, 38, 39, 40, 41, 42, 43, 44, 45, 46, 47, 48, 2, 3, 4, 6, 49, 50, 51, 96, 97, 98, 99, 100, 101, 102, 103, 104, 105, 106, 107, 108, 109, 110, 111, 112, 113, 114, 115, 116, 117, 118, 119, 120, 121, 122, 123, 124, 125, 126, 127, 128, 129] (by decide +kernel) (by decide +kernel)
set_option maxRecDepth 20000 in
theorem gX11_kinds_X11_lay : GoodIn wsX11_kinds (wsV RX11 198 RX11 yX11_lay wsX11_lay) := goodIn_app (goodIn_of _ (by decide +kernel)) ggX11_kinds_X11_lay
set_option maxRecDepth 20000 in
theorem ggX11_kinds_X11_areSo : GoodIn wsX11_kinds wsX11_areSo := goodIn_r _ [55, 56, 57, 58, 59, 60, 61, 62, 5, 63, 64, 65, 66, 33, 29, 32, 67, 31, 68, 69, 70, 71, 72, 73, 74, 7, 48, 75, 76, 77, 78, 79, 80, 81, 1, 82, 83, 84, 85, 86, 87, 88, 89, 90, 91, 92, 93, 94, 95, 96, 97, 98, 99, 100, 101, 102, 103, 104, 105, 106, 107, 108, 109, 110, 111, 112, 113, 114, 115, 116, 117, 118, 119, 120, 121, 122, 123, 124, 125, 126, 127, 128, 129] (by decide +kernel) (by decide +kernel)
set_option maxRecDepth 20000 in
theorem gX11_kinds_X11_areSo : GoodIn wsX11_kinds (wsV RX11 202 RX11 yX11_areSo wsX11_areSo) := goodIn_app (goodIn_of _ (by decide +kernel)) ggX11_kinds_X11_areSo
theorem dX11_kinds_0 : decode cX11_kinds 0 = .ok (.aload_n 0, 1) := by decide +kernel
theorem dX11_kinds_1 : decode cX11_kinds 1 = .ok (.aload_n 0, 1) := by decide +kernel
theorem dX11_kinds_2 : decode cX11_kinds 2 = .ok (.iload_n 1, 1) := by decide +kernel
theorem dX11_kinds_3 : decode cX11_kinds 3 = .ok (.invokevirtual 136, 3) := by decide +kernel
theorem dX11_kinds_6 : decode cX11_kinds 6 = .ok (.iload_n 2, 1) := by decide +kernel
theorem dX11_kinds_7 : decode cX11_kinds 7 = .ok (.iload_n 3, 1) := by decide +kernel
theorem dX11_kinds_8 : decode cX11_kinds 8 = .ok (.iload 4, 2) := by decide +kernel
theorem dX11_kinds_10 : decode cX11_kinds 10 = .ok (.iload 5, 2) := by decide +kernel
theorem dX11_kinds_12 : decode cX11_kinds 12 = .ok (.invokevirtual 198, 3) := by decide +kernel
theorem dX11_kinds_15 : decode cX11_kinds 15 = .ok (.istore 6, 2) := by decide +kernel
theorem dX11_kinds_17 : decode cX11_kinds 17 = .ok (.iload 6, 2) := by decide +kernel
theorem dX11_kinds_19 : decode cX11_kinds 19 = .ok (.ifCond .eq 6, 3) := by decide +kernel
theorem dX11_kinds_22 : decode cX11_kinds 22 = .ok (.iload 6, 2) := by decide +kernel
theorem dX11_kinds_24 : decode cX11_kinds 24 = .ok (.ireturn, 1) := by decide +kernel
theorem dX11_kinds_25 : decode cX11_kinds 25 = .ok (.aload_n 0, 1) := by decide +kernel
theorem dX11_kinds_26 : decode cX11_kinds 26 = .ok (.getfield 19, 3) := by decide +kernel
theorem dX11_kinds_29 : decode cX11_kinds 29 = .ok (.iload_n 1, 1) := by decide +kernel
theorem dX11_kinds_30 : decode cX11_kinds 30 = .ok (.iaload, 1) := by decide +kernel
theorem dX11_kinds_31 : decode cX11_kinds 31 = .ok (.istore 7, 2) := by decide +kernel
theorem dX11_kinds_33 : decode cX11_kinds 33 = .ok (.iconst 0, 1) := by decide +kernel
theorem dX11_kinds_34 : decode cX11_kinds 34 = .ok (.istore 8, 2) := by decide +kernel
theorem dX11_kinds_36 : decode cX11_kinds 36 = .ok (.iconst 0, 1) := by decide +kernel
theorem dX11_kinds_37 : decode cX11_kinds 37 = .ok (.istore 9, 2) := by decide +kernel
theorem dX11_kinds_39 : decode cX11_kinds 39 = .ok (.iload 9, 2) := by decide +kernel
theorem dX11_kinds_41 : decode cX11_kinds 41 = .ok (.iconst 3, 1) := by decide +kernel
theorem dX11_kinds_42 : decode cX11_kinds 42 = .ok (.if_icmp .ge 37, 3) := by decide +kernel
theorem dX11_kinds_45 : decode cX11_kinds 45 = .ok (.aload_n 0, 1) := by decide +kernel
theorem dX11_kinds_46 : decode cX11_kinds 46 = .ok (.getfield 19, 3) := by decide +kernel
theorem dX11_kinds_49 : decode cX11_kinds 49 = .ok (.iload_n 1, 1) := by decide +kernel
theorem dX11_kinds_50 : decode cX11_kinds 50 = .ok (.iload 9, 2) := by decide +kernel
theorem dX11_kinds_52 : decode cX11_kinds 52 = .ok (.iastore, 1) := by decide +kernel
theorem dX11_kinds_53 : decode cX11_kinds 53 = .ok (.iload 8, 2) := by decide +kernel
theorem dX11_kinds_55 : decode cX11_kinds 55 = .ok (.aload_n 0, 1) := by decide +kernel
theorem dX11_kinds_56 : decode cX11_kinds 56 = .ok (.invokevirtual 202, 3) := by decide +kernel
theorem dX11_kinds_59 : decode cX11_kinds 59 = .ok (.ifCond .eq 10, 3) := by decide +kernel
theorem dX11_kinds_62 : decode cX11_kinds 62 = .ok (.iconst 1, 1) := by decide +kernel
theorem dX11_kinds_63 : decode cX11_kinds 63 = .ok (.iload 9, 2) := by decide +kernel
theorem dX11_kinds_65 : decode cX11_kinds 65 = .ok (.ishl, 1) := by decide +kernel
theorem dX11_kinds_66 : decode cX11_kinds 66 = .ok (.goto 4, 3) := by decide +kernel
theorem dX11_kinds_69 : decode cX11_kinds 69 = .ok (.iconst 0, 1) := by decide +kernel
theorem dX11_kinds_70 : decode cX11_kinds 70 = .ok (.ior, 1) := by decide +kernel
theorem dX11_kinds_71 : decode cX11_kinds 71 = .ok (.istore 8, 2) := by decide +kernel
theorem dX11_kinds_73 : decode cX11_kinds 73 = .ok (.iinc 9 1, 3) := by decide +kernel
theorem dX11_kinds_76 : decode cX11_kinds 76 = .ok (.goto (-37), 3) := by decide +kernel
theorem dX11_kinds_79 : decode cX11_kinds 79 = .ok (.aload_n 0, 1) := by decide +kernel
theorem dX11_kinds_80 : decode cX11_kinds 80 = .ok (.getfield 19, 3) := by decide +kernel
theorem dX11_kinds_83 : decode cX11_kinds 83 = .ok (.iload_n 1, 1) := by decide +kernel
theorem dX11_kinds_84 : decode cX11_kinds 84 = .ok (.iload 7, 2) := by decide +kernel
theorem dX11_kinds_86 : decode cX11_kinds 86 = .ok (.iastore, 1) := by decide +kernel
theorem dX11_kinds_87 : decode cX11_kinds 87 = .ok (.iload 8, 2) := by decide +kernel
theorem dX11_kinds_89 : decode cX11_kinds 89 = .ok (.ireturn, 1) := by decide +kernel
set_option maxRecDepth 20000 in
theorem ggX11_limits_X11_lay : GoodIn wsX11_limits wsX11_lay := goodIn_r _ [6, 7, 8, 9, 5, 10, 11, 12, 13, 14, 15, 16, 17, 18, 19, 20, 21, 22, 23, 24, 25, 26, 27, 28, 29, 30, 31, 32, 33, 34, 35, 36, 37, 38, 39, 40, 41, 42, 43, 44, 45, 46, 47, 48, 49, 50, 51, 96, 97, 98, 99, 100, 101, 102, 103, 104, 105, 106, 107, 108, 109, 110, 111, 112, 113, 114, 115, 116, 117, 118, 119, 120, 121, 122, 123, 124, 125, 126, 127, 128, 129] (by decide +kernel) (by decide +kernel)
set_option maxRecDepth 20000 in
theorem gX11_limits_X11_lay : GoodIn wsX11_limits (wsV RX11 198 RX11 yX11_lay wsX11_lay) := goodIn_app (goodIn_of _ (by decide +kernel)) ggX11_limits_X11_lay
set_option maxRecDepth 20000 in
theorem ggX11_limits_X11_areSo : GoodIn wsX11_limits wsX11_areSo := goodIn_r _ [55, 56, 57, 58, 59, 60, 61, 62, 5, 63, 64, 65, 66, 29, 25, 28, 67, 27, 68, 69, 70, 71, 72, 73, 74, 24, 44, 75, 76, 77, 78, 1, 79, 80, 81, 82, 83, 84, 85, 86, 87, 88, 89, 90, 91, 92, 93, 94, 95, 96, 97, 98, 99, 100, 101, 102, 103, 104, 105, 106, 107, 108, 109, 110, 111, 112, 113, 114, 115, 116, 117, 118, 119, 120, 121, 122, 123, 124, 125, 126, 127, 128, 129] (by decide +kernel) (by decide +kernel)
set_option maxRecDepth 20000 in
theorem gX11_limits_X11_areSo : GoodIn wsX11_limits (wsV RX11 202 RX11 yX11_areSo wsX11_areSo) := goodIn_app (goodIn_of _ (by decide +kernel)) ggX11_limits_X11_areSo
theorem dX11_limits_0 : decode cX11_limits 0 = .ok (.aload_n 0, 1) := by decide +kernel
theorem dX11_limits_1 : decode cX11_limits 1 = .ok (.iconst 1, 1) := by decide +kernel
theorem dX11_limits_2 : decode cX11_limits 2 = .ok (.iload_n 1, 1) := by decide +kernel
theorem dX11_limits_3 : decode cX11_limits 3 = .ok (.iload_n 2, 1) := by decide +kernel
theorem dX11_limits_4 : decode cX11_limits 4 = .ok (.iload_n 3, 1) := by decide +kernel
theorem dX11_limits_5 : decode cX11_limits 5 = .ok (.iload 4, 2) := by decide +kernel
theorem dX11_limits_7 : decode cX11_limits 7 = .ok (.invokevirtual 198, 3) := by decide +kernel
theorem dX11_limits_10 : decode cX11_limits 10 = .ok (.istore 5, 2) := by decide +kernel
theorem dX11_limits_12 : decode cX11_limits 12 = .ok (.iload 5, 2) := by decide +kernel
theorem dX11_limits_14 : decode cX11_limits 14 = .ok (.ifCond .eq 6, 3) := by decide +kernel
theorem dX11_limits_17 : decode cX11_limits 17 = .ok (.iload 5, 2) := by decide +kernel
theorem dX11_limits_19 : decode cX11_limits 19 = .ok (.ireturn, 1) := by decide +kernel
theorem dX11_limits_20 : decode cX11_limits 20 = .ok (.aload_n 0, 1) := by decide +kernel
theorem dX11_limits_21 : decode cX11_limits 21 = .ok (.getfield 116, 3) := by decide +kernel
theorem dX11_limits_24 : decode cX11_limits 24 = .ok (.istore 6, 2) := by decide +kernel
theorem dX11_limits_26 : decode cX11_limits 26 = .ok (.iconst 0, 1) := by decide +kernel
theorem dX11_limits_27 : decode cX11_limits 27 = .ok (.istore 7, 2) := by decide +kernel
theorem dX11_limits_29 : decode cX11_limits 29 = .ok (.iconst 0, 1) := by decide +kernel
theorem dX11_limits_30 : decode cX11_limits 30 = .ok (.istore 8, 2) := by decide +kernel
theorem dX11_limits_32 : decode cX11_limits 32 = .ok (.iload 8, 2) := by decide +kernel
theorem dX11_limits_34 : decode cX11_limits 34 = .ok (.bipush 9, 2) := by decide +kernel
theorem dX11_limits_36 : decode cX11_limits 36 = .ok (.if_icmp .gt 35, 3) := by decide +kernel
theorem dX11_limits_39 : decode cX11_limits 39 = .ok (.aload_n 0, 1) := by decide +kernel
theorem dX11_limits_40 : decode cX11_limits 40 = .ok (.iload 8, 2) := by decide +kernel
theorem dX11_limits_42 : decode cX11_limits 42 = .ok (.putfield 116, 3) := by decide +kernel
theorem dX11_limits_45 : decode cX11_limits 45 = .ok (.iload 7, 2) := by decide +kernel
theorem dX11_limits_47 : decode cX11_limits 47 = .ok (.aload_n 0, 1) := by decide +kernel
theorem dX11_limits_48 : decode cX11_limits 48 = .ok (.invokevirtual 202, 3) := by decide +kernel
theorem dX11_limits_51 : decode cX11_limits 51 = .ok (.ifCond .eq 10, 3) := by decide +kernel
theorem dX11_limits_54 : decode cX11_limits 54 = .ok (.iconst 1, 1) := by decide +kernel
theorem dX11_limits_55 : decode cX11_limits 55 = .ok (.iload 8, 2) := by decide +kernel
theorem dX11_limits_57 : decode cX11_limits 57 = .ok (.ishl, 1) := by decide +kernel
theorem dX11_limits_58 : decode cX11_limits 58 = .ok (.goto 4, 3) := by decide +kernel
theorem dX11_limits_61 : decode cX11_limits 61 = .ok (.iconst 0, 1) := by decide +kernel
theorem dX11_limits_62 : decode cX11_limits 62 = .ok (.ior, 1) := by decide +kernel
theorem dX11_limits_63 : decode cX11_limits 63 = .ok (.istore 7, 2) := by decide +kernel
theorem dX11_limits_65 : decode cX11_limits 65 = .ok (.iinc 8 1, 3) := by decide +kernel
theorem dX11_limits_68 : decode cX11_limits 68 = .ok (.goto (-36), 3) := by decide +kernel
theorem dX11_limits_71 : decode cX11_limits 71 = .ok (.aload_n 0, 1) := by decide +kernel
theorem dX11_limits_72 : decode cX11_limits 72 = .ok (.iload 6, 2) := by decide +kernel
theorem dX11_limits_74 : decode cX11_limits 74 = .ok (.putfield 116, 3) := by decide +kernel
theorem dX11_limits_77 : decode cX11_limits 77 = .ok (.iload 7, 2) := by decide +kernel
theorem dX11_limits_79 : decode cX11_limits 79 = .ok (.ireturn, 1) := by decide +kernel
theorem dX11_inLeastTerms_0 : decode cX11_inLeastTerms 0 = .ok (.lload_n 0, 1) := by decide +kernel
theorem dX11_inLeastTerms_1 : decode cX11_inLeastTerms 1 = .ok (.lstore 5, 2) := by decide +kernel
theorem dX11_inLeastTerms_3 : decode cX11_inLeastTerms 3 = .ok (.lload_n 2, 1) := by decide +kernel
theorem dX11_inLeastTerms_4 : decode cX11_inLeastTerms 4 = .ok (.lstore 7, 2) := by decide +kernel
theorem dX11_inLeastTerms_6 : decode cX11_inLeastTerms 6 = .ok (.lload 7, 2) := by decide +kernel
theorem dX11_inLeastTerms_8 : decode cX11_inLeastTerms 8 = .ok (.lconst 0, 1) := by decide +kernel
theorem dX11_inLeastTerms_9 : decode cX11_inLeastTerms 9 = .ok (.lcmp, 1) := by decide +kernel
theorem dX11_inLeastTerms_10 : decode cX11_inLeastTerms 10 = .ok (.ifCond .eq 21, 3) := by decide +kernel
theorem dX11_inLeastTerms_13 : decode cX11_inLeastTerms 13 = .ok (.lload 5, 2) := by decide +kernel
theorem dX11_inLeastTerms_15 : decode cX11_inLeastTerms 15 = .ok (.lload 7, 2) := by decide +kernel
theorem dX11_inLeastTerms_17 : decode cX11_inLeastTerms 17 = .ok (.lrem, 1) := by decide +kernel
theorem dX11_inLeastTerms_18 : decode cX11_inLeastTerms 18 = .ok (.lstore 9, 2) := by decide +kernel
theorem dX11_inLeastTerms_20 : decode cX11_inLeastTerms 20 = .ok (.lload 7, 2) := by decide +kernel
theorem dX11_inLeastTerms_22 : decode cX11_inLeastTerms 22 = .ok (.lstore 5, 2) := by decide +kernel
theorem dX11_inLeastTerms_24 : decode cX11_inLeastTerms 24 = .ok (.lload 9, 2) := by decide +kernel
theorem dX11_inLeastTerms_26 : decode cX11_inLeastTerms 26 = .ok (.lstore 7, 2) := by decide +kernel
theorem dX11_inLeastTerms_28 : decode cX11_inLeastTerms 28 = .ok (.goto (-22), 3) := by decide +kernel
theorem dX11_inLeastTerms_31 : decode cX11_inLeastTerms 31 = .ok (.iload 4, 2) := by decide +kernel
theorem dX11_inLeastTerms_33 : decode cX11_inLeastTerms 33 = .ok (.ifCond .ne 10, 3) := by decide +kernel
theorem dX11_inLeastTerms_36 : decode cX11_inLeastTerms 36 = .ok (.lload_n 0, 1) := by decide +kernel
theorem dX11_inLeastTerms_37 : decode cX11_inLeastTerms 37 = .ok (.lload 5, 2) := by decide +kernel
theorem dX11_inLeastTerms_39 : decode cX11_inLeastTerms 39 = .ok (.ldiv, 1) := by decide +kernel
theorem dX11_inLeastTerms_40 : decode cX11_inLeastTerms 40 = .ok (.goto 7, 3) := by decide +kernel
theorem dX11_inLeastTerms_43 : decode cX11_inLeastTerms 43 = .ok (.lload_n 2, 1) := by decide +kernel
theorem dX11_inLeastTerms_44 : decode cX11_inLeastTerms 44 = .ok (.lload 5, 2) := by decide +kernel
theorem dX11_inLeastTerms_46 : decode cX11_inLeastTerms 46 = .ok (.ldiv, 1) := by decide +kernel
theorem dX11_inLeastTerms_47 : decode cX11_inLeastTerms 47 = .ok (.lreturn, 1) := by decide +kernel
set_option maxRecDepth 20000 in
theorem ggX11_odds_X11_isStory : GoodIn wsX11_odds wsX11_isStory := goodIn_r _ [8, 9, 45, 46, 47, 48, 49, 50, 51, 52, 53, 54, 55, 56, 57, 58, 59, 60, 61, 62, 63, 64, 65, 66, 67, 68, 69, 70, 71, 72, 73, 74, 75, 76, 77, 78] (by decide +kernel) (by decide +kernel)
set_option maxRecDepth 20000 in
theorem gX11_odds_X11_isStory : GoodIn wsX11_odds (wsV RX11 139 RX11 yX11_isStory wsX11_isStory) := goodIn_app (goodIn_of _ (by decide +kernel)) ggX11_odds_X11_isStory
set_option maxRecDepth 20000 in
theorem ggX11_odds_X11_isDay : GoodIn wsX11_odds wsX11_isDay := goodIn_r _ [12, 13, 14, 7, 15] (by decide +kernel) (by decide +kernel)
set_option maxRecDepth 20000 in
theorem gX11_odds_X11_isDay : GoodIn wsX11_odds (va_wsS RX11 146 yX11_isDay wsX11_isDay) := goodIn_app (goodIn_of _ (by decide +kernel)) ggX11_odds_X11_isDay
set_option maxRecDepth 20000 in
theorem ggX11_odds_X11_within : GoodIn wsX11_odds wsX11_within := goodIn_r _ [15] (by decide +kernel) (by decide +kernel)
set_option maxRecDepth 20000 in
theorem gX11_odds_X11_within : GoodIn wsX11_odds (va_wsS RX11 79 yX11_within wsX11_within) := goodIn_app (goodIn_of _ (by decide +kernel)) ggX11_odds_X11_within
set_option maxRecDepth 20000 in
theorem ggX11_odds_X11_paid : GoodIn wsX11_odds wsX11_paid := goodIn_r _ [19, 20, 21, 22, 7, 23, 24, 25, 26, 27, 28, 29, 30, 31, 32, 33, 34, 35, 36, 37, 38, 39, 40, 41, 1, 45, 46, 47, 48, 49, 50, 51, 52, 53, 54, 55, 56, 57, 58, 59, 60, 61, 62, 63, 64, 65, 66, 67, 68, 69, 70, 71, 72, 73, 74, 75, 76, 77, 78] (by decide +kernel) (by decide +kernel)
set_option maxRecDepth 20000 in
theorem gX11_odds_X11_paid : GoodIn wsX11_odds (wsV RX11 183 RX11 yX11_paid wsX11_paid) := goodIn_app (goodIn_of _ (by decide +kernel)) ggX11_odds_X11_paid
set_option maxRecDepth 20000 in
theorem ggX11_odds_X11_inLeastTerms : GoodIn wsX11_odds wsX11_inLeastTerms := goodIn_r _ [44] (by decide +kernel) (by decide +kernel)
set_option maxRecDepth 20000 in
theorem gX11_odds_X11_inLeastTerms : GoodIn wsX11_odds (va_wsS RX11 206 yX11_inLeastTerms wsX11_inLeastTerms) := goodIn_app (goodIn_of _ (by decide +kernel)) ggX11_odds_X11_inLeastTerms
theorem dX11_odds_0 : decode cX11_odds 0 = .ok (.aload_n 0, 1) := by decide +kernel
theorem dX11_odds_1 : decode cX11_odds 1 = .ok (.iload_n 1, 1) := by decide +kernel
theorem dX11_odds_2 : decode cX11_odds 2 = .ok (.invokevirtual 139, 3) := by decide +kernel
theorem dX11_odds_5 : decode cX11_odds 5 = .ok (.ifCond .eq 41, 3) := by decide +kernel
theorem dX11_odds_8 : decode cX11_odds 8 = .ok (.iload_n 2, 1) := by decide +kernel
theorem dX11_odds_9 : decode cX11_odds 9 = .ok (.invokestatic 146, 3) := by decide +kernel
theorem dX11_odds_12 : decode cX11_odds 12 = .ok (.ifCond .eq 34, 3) := by decide +kernel
theorem dX11_odds_15 : decode cX11_odds 15 = .ok (.iload_n 3, 1) := by decide +kernel
theorem dX11_odds_16 : decode cX11_odds 16 = .ok (.iconst 0, 1) := by decide +kernel
theorem dX11_odds_17 : decode cX11_odds 17 = .ok (.sipush 9999, 3) := by decide +kernel
theorem dX11_odds_20 : decode cX11_odds 20 = .ok (.invokestatic 79, 3) := by decide +kernel
theorem dX11_odds_23 : decode cX11_odds 23 = .ok (.ifCond .eq 23, 3) := by decide +kernel
theorem dX11_odds_26 : decode cX11_odds 26 = .ok (.iload 4, 2) := by decide +kernel
theorem dX11_odds_28 : decode cX11_odds 28 = .ok (.iconst 0, 1) := by decide +kernel
theorem dX11_odds_29 : decode cX11_odds 29 = .ok (.iconst 1, 1) := by decide +kernel
theorem dX11_odds_30 : decode cX11_odds 30 = .ok (.invokestatic 79, 3) := by decide +kernel
theorem dX11_odds_33 : decode cX11_odds 33 = .ok (.ifCond .eq 13, 3) := by decide +kernel
theorem dX11_odds_36 : decode cX11_odds 36 = .ok (.iload_n 2, 1) := by decide +kernel
theorem dX11_odds_37 : decode cX11_odds 37 = .ok (.aload_n 0, 1) := by decide +kernel
theorem dX11_odds_38 : decode cX11_odds 38 = .ok (.getfield 34, 3) := by decide +kernel
theorem dX11_odds_41 : decode cX11_odds 41 = .ok (.iload_n 1, 1) := by decide +kernel
theorem dX11_odds_42 : decode cX11_odds 42 = .ok (.iaload, 1) := by decide +kernel
theorem dX11_odds_43 : decode cX11_odds 43 = .ok (.if_icmp .ge 7, 3) := by decide +kernel
theorem dX11_odds_46 : decode cX11_odds 46 = .ok (.ldc2_w 77, 3) := by decide +kernel
theorem dX11_odds_49 : decode cX11_odds 49 = .ok (.lreturn, 1) := by decide +kernel
theorem dX11_odds_50 : decode cX11_odds 50 = .ok (.iconst 0, 1) := by decide +kernel
theorem dX11_odds_51 : decode cX11_odds 51 = .ok (.istore 5, 2) := by decide +kernel
theorem dX11_odds_53 : decode cX11_odds 53 = .ok (.iconst 0, 1) := by decide +kernel
theorem dX11_odds_54 : decode cX11_odds 54 = .ok (.istore 6, 2) := by decide +kernel
theorem dX11_odds_56 : decode cX11_odds 56 = .ok (.iload 6, 2) := by decide +kernel
theorem dX11_odds_58 : decode cX11_odds 58 = .ok (.aload_n 0, 1) := by decide +kernel
theorem dX11_odds_59 : decode cX11_odds 59 = .ok (.getfield 83, 3) := by decide +kernel
theorem dX11_odds_62 : decode cX11_odds 62 = .ok (.if_icmp .ge 85, 3) := by decide +kernel
theorem dX11_odds_65 : decode cX11_odds 65 = .ok (.iconst 0, 1) := by decide +kernel
theorem dX11_odds_66 : decode cX11_odds 66 = .ok (.istore 7, 2) := by decide +kernel
theorem dX11_odds_68 : decode cX11_odds 68 = .ok (.iload 7, 2) := by decide +kernel
theorem dX11_odds_70 : decode cX11_odds 70 = .ok (.aload_n 0, 1) := by decide +kernel
theorem dX11_odds_71 : decode cX11_odds 71 = .ok (.getfield 83, 3) := by decide +kernel
theorem dX11_odds_74 : decode cX11_odds 74 = .ok (.if_icmp .ge 67, 3) := by decide +kernel
theorem dX11_odds_77 : decode cX11_odds 77 = .ok (.iconst 0, 1) := by decide +kernel
theorem dX11_odds_78 : decode cX11_odds 78 = .ok (.istore 8, 2) := by decide +kernel
theorem dX11_odds_80 : decode cX11_odds 80 = .ok (.iload 8, 2) := by decide +kernel
theorem dX11_odds_82 : decode cX11_odds 82 = .ok (.aload_n 0, 1) := by decide +kernel
theorem dX11_odds_83 : decode cX11_odds 83 = .ok (.getfield 83, 3) := by decide +kernel
theorem dX11_odds_86 : decode cX11_odds 86 = .ok (.if_icmp .ge 49, 3) := by decide +kernel
theorem dX11_odds_89 : decode cX11_odds 89 = .ok (.iload 5, 2) := by decide +kernel
theorem dX11_odds_91 : decode cX11_odds 91 = .ok (.aload_n 0, 1) := by decide +kernel
theorem dX11_odds_92 : decode cX11_odds 92 = .ok (.iload_n 1, 1) := by decide +kernel
theorem dX11_odds_93 : decode cX11_odds 93 = .ok (.bipush 10, 2) := by decide +kernel
theorem dX11_odds_95 : decode cX11_odds 95 = .ok (.iload 6, 2) := by decide +kernel
theorem dX11_odds_97 : decode cX11_odds 97 = .ok (.imul, 1) := by decide +kernel
theorem dX11_odds_98 : decode cX11_odds 98 = .ok (.iload_n 2, 1) := by decide +kernel
theorem dX11_odds_99 : decode cX11_odds 99 = .ok (.iadd, 1) := by decide +kernel
theorem dX11_odds_100 : decode cX11_odds 100 = .ok (.bipush 10, 2) := by decide +kernel
theorem dX11_odds_102 : decode cX11_odds 102 = .ok (.iload 7, 2) := by decide +kernel
theorem dX11_odds_104 : decode cX11_odds 104 = .ok (.imul, 1) := by decide +kernel
theorem dX11_odds_105 : decode cX11_odds 105 = .ok (.iload_n 2, 1) := by decide +kernel
theorem dX11_odds_106 : decode cX11_odds 106 = .ok (.iadd, 1) := by decide +kernel
theorem dX11_odds_107 : decode cX11_odds 107 = .ok (.bipush 10, 2) := by decide +kernel
theorem dX11_odds_109 : decode cX11_odds 109 = .ok (.iload 8, 2) := by decide +kernel
theorem dX11_odds_111 : decode cX11_odds 111 = .ok (.imul, 1) := by decide +kernel
theorem dX11_odds_112 : decode cX11_odds 112 = .ok (.iload_n 2, 1) := by decide +kernel
theorem dX11_odds_113 : decode cX11_odds 113 = .ok (.iadd, 1) := by decide +kernel
theorem dX11_odds_114 : decode cX11_odds 114 = .ok (.invokevirtual 183, 3) := by decide +kernel
theorem dX11_odds_117 : decode cX11_odds 117 = .ok (.iload_n 3, 1) := by decide +kernel
theorem dX11_odds_118 : decode cX11_odds 118 = .ok (.if_icmp .gt 7, 3) := by decide +kernel
theorem dX11_odds_121 : decode cX11_odds 121 = .ok (.iconst 1, 1) := by decide +kernel
theorem dX11_odds_122 : decode cX11_odds 122 = .ok (.goto 4, 3) := by decide +kernel
theorem dX11_odds_125 : decode cX11_odds 125 = .ok (.iconst 0, 1) := by decide +kernel
theorem dX11_odds_126 : decode cX11_odds 126 = .ok (.iadd, 1) := by decide +kernel
theorem dX11_odds_127 : decode cX11_odds 127 = .ok (.istore 5, 2) := by decide +kernel
theorem dX11_odds_129 : decode cX11_odds 129 = .ok (.iinc 8 1, 3) := by decide +kernel
theorem dX11_odds_132 : decode cX11_odds 132 = .ok (.goto (-52), 3) := by decide +kernel
theorem dX11_odds_135 : decode cX11_odds 135 = .ok (.iinc 7 1, 3) := by decide +kernel
theorem dX11_odds_138 : decode cX11_odds 138 = .ok (.goto (-70), 3) := by decide +kernel
theorem dX11_odds_141 : decode cX11_odds 141 = .ok (.iinc 6 1, 3) := by decide +kernel
theorem dX11_odds_144 : decode cX11_odds 144 = .ok (.goto (-88), 3) := by decide +kernel
theorem dX11_odds_147 : decode cX11_odds 147 = .ok (.iload 5, 2) := by decide +kernel
theorem dX11_odds_149 : decode cX11_odds 149 = .ok (.i2l, 1) := by decide +kernel
theorem dX11_odds_150 : decode cX11_odds 150 = .ok (.aload_n 0, 1) := by decide +kernel
theorem dX11_odds_151 : decode cX11_odds 151 = .ok (.getfield 83, 3) := by decide +kernel
theorem dX11_odds_154 : decode cX11_odds 154 = .ok (.aload_n 0, 1) := by decide +kernel
theorem dX11_odds_155 : decode cX11_odds 155 = .ok (.getfield 83, 3) := by decide +kernel
theorem dX11_odds_158 : decode cX11_odds 158 = .ok (.imul, 1) := by decide +kernel
theorem dX11_odds_159 : decode cX11_odds 159 = .ok (.aload_n 0, 1) := by decide +kernel
theorem dX11_odds_160 : decode cX11_odds 160 = .ok (.getfield 83, 3) := by decide +kernel
theorem dX11_odds_163 : decode cX11_odds 163 = .ok (.imul, 1) := by decide +kernel
theorem dX11_odds_164 : decode cX11_odds 164 = .ok (.i2l, 1) := by decide +kernel
theorem dX11_odds_165 : decode cX11_odds 165 = .ok (.iload 4, 2) := by decide +kernel
theorem dX11_odds_167 : decode cX11_odds 167 = .ok (.invokestatic 206, 3) := by decide +kernel
theorem dX11_odds_170 : decode cX11_odds 170 = .ok (.lreturn, 1) := by decide +kernel
set_option maxRecDepth 20000 in
theorem ggX11_sheet_X11_isSheet : GoodIn wsX11_sheet wsX11_isSheet := goodIn_r _ [8, 9, 10, 7, 11] (by decide +kernel) (by decide +kernel)
set_option maxRecDepth 20000 in
theorem gX11_sheet_X11_isSheet : GoodIn wsX11_sheet (va_wsS RX11 92 yX11_isSheet wsX11_isSheet) := goodIn_app (goodIn_of _ (by decide +kernel)) ggX11_sheet_X11_isSheet
set_option maxRecDepth 20000 in
theorem ggX11_sheet_X11_isSort : GoodIn wsX11_sheet wsX11_isSort := goodIn_r _ [14, 9, 10, 7, 11] (by decide +kernel) (by decide +kernel)
set_option maxRecDepth 20000 in
theorem gX11_sheet_X11_isSort : GoodIn wsX11_sheet (va_wsS RX11 96 yX11_isSort wsX11_isSort) := goodIn_app (goodIn_of _ (by decide +kernel)) ggX11_sheet_X11_isSort
set_option maxRecDepth 20000 in
theorem ggX11_sheet_X11_fails : GoodIn wsX11_sheet wsX11_fails := goodIn_r _ [18, 1, 19, 20, 21, 22, 23, 24, 25, 26, 27, 28, 29, 30, 31, 32, 33, 34, 35, 36, 37, 38, 39, 40, 41, 42, 43, 44, 45, 46, 47, 48, 49, 50, 51, 52] (by decide +kernel) (by decide +kernel)
set_option maxRecDepth 20000 in
theorem gX11_sheet_X11_fails : GoodIn wsX11_sheet (wsV RX11 103 RX11 yX11_fails wsX11_fails) := goodIn_app (goodIn_of _ (by decide +kernel)) ggX11_sheet_X11_fails
theorem dX11_sheet_0 : decode cX11_sheet 0 = .ok (.aload_n 0, 1) := by decide +kernel
theorem dX11_sheet_1 : decode cX11_sheet 1 = .ok (.iconst 0, 1) := by decide +kernel
theorem dX11_sheet_2 : decode cX11_sheet 2 = .ok (.putfield 74, 3) := by decide +kernel
theorem dX11_sheet_5 : decode cX11_sheet 5 = .ok (.iload_n 1, 1) := by decide +kernel
theorem dX11_sheet_6 : decode cX11_sheet 6 = .ok (.invokestatic 92, 3) := by decide +kernel
theorem dX11_sheet_9 : decode cX11_sheet 9 = .ok (.ifCond .ne 5, 3) := by decide +kernel
theorem dX11_sheet_12 : decode cX11_sheet 12 = .ok (.iconst (-1), 1) := by decide +kernel
theorem dX11_sheet_13 : decode cX11_sheet 13 = .ok (.ireturn, 1) := by decide +kernel
theorem dX11_sheet_14 : decode cX11_sheet 14 = .ok (.iload_n 2, 1) := by decide +kernel
theorem dX11_sheet_15 : decode cX11_sheet 15 = .ok (.invokestatic 96, 3) := by decide +kernel
theorem dX11_sheet_18 : decode cX11_sheet 18 = .ok (.ifCond .eq 9, 3) := by decide +kernel
theorem dX11_sheet_21 : decode cX11_sheet 21 = .ok (.iload_n 3, 1) := by decide +kernel
theorem dX11_sheet_22 : decode cX11_sheet 22 = .ok (.bipush 60, 2) := by decide +kernel
theorem dX11_sheet_24 : decode cX11_sheet 24 = .ok (.if_icmp .le 6, 3) := by decide +kernel
theorem dX11_sheet_27 : decode cX11_sheet 27 = .ok (.bipush (-2), 2) := by decide +kernel
theorem dX11_sheet_29 : decode cX11_sheet 29 = .ok (.ireturn, 1) := by decide +kernel
theorem dX11_sheet_30 : decode cX11_sheet 30 = .ok (.iload_n 3, 1) := by decide +kernel
theorem dX11_sheet_31 : decode cX11_sheet 31 = .ok (.ifCond .ge 9, 3) := by decide +kernel
theorem dX11_sheet_34 : decode cX11_sheet 34 = .ok (.aload_n 0, 1) := by decide +kernel
theorem dX11_sheet_35 : decode cX11_sheet 35 = .ok (.iconst 4, 1) := by decide +kernel
theorem dX11_sheet_36 : decode cX11_sheet 36 = .ok (.invokevirtual 103, 3) := by decide +kernel
theorem dX11_sheet_39 : decode cX11_sheet 39 = .ok (.ireturn, 1) := by decide +kernel
theorem dX11_sheet_40 : decode cX11_sheet 40 = .ok (.aload_n 0, 1) := by decide +kernel
theorem dX11_sheet_41 : decode cX11_sheet 41 = .ok (.getfield 9, 3) := by decide +kernel
theorem dX11_sheet_44 : decode cX11_sheet 44 = .ok (.iload_n 1, 1) := by decide +kernel
theorem dX11_sheet_45 : decode cX11_sheet 45 = .ok (.iload_n 2, 1) := by decide +kernel
theorem dX11_sheet_46 : decode cX11_sheet 46 = .ok (.iastore, 1) := by decide +kernel
theorem dX11_sheet_47 : decode cX11_sheet 47 = .ok (.aload_n 0, 1) := by decide +kernel
theorem dX11_sheet_48 : decode cX11_sheet 48 = .ok (.getfield 13, 3) := by decide +kernel
theorem dX11_sheet_51 : decode cX11_sheet 51 = .ok (.iload_n 1, 1) := by decide +kernel
theorem dX11_sheet_52 : decode cX11_sheet 52 = .ok (.iload_n 3, 1) := by decide +kernel
theorem dX11_sheet_53 : decode cX11_sheet 53 = .ok (.iastore, 1) := by decide +kernel
theorem dX11_sheet_54 : decode cX11_sheet 54 = .ok (.iconst 0, 1) := by decide +kernel
theorem dX11_sheet_55 : decode cX11_sheet 55 = .ok (.istore 4, 2) := by decide +kernel
theorem dX11_sheet_57 : decode cX11_sheet 57 = .ok (.iload 4, 2) := by decide +kernel
theorem dX11_sheet_59 : decode cX11_sheet 59 = .ok (.bipush 60, 2) := by decide +kernel
theorem dX11_sheet_61 : decode cX11_sheet 61 = .ok (.if_icmp .ge 22, 3) := by decide +kernel
theorem dX11_sheet_64 : decode cX11_sheet 64 = .ok (.aload_n 0, 1) := by decide +kernel
theorem dX11_sheet_65 : decode cX11_sheet 65 = .ok (.getfield 16, 3) := by decide +kernel
theorem dX11_sheet_68 : decode cX11_sheet 68 = .ok (.bipush 60, 2) := by decide +kernel
theorem dX11_sheet_70 : decode cX11_sheet 70 = .ok (.iload_n 1, 1) := by decide +kernel
theorem dX11_sheet_71 : decode cX11_sheet 71 = .ok (.imul, 1) := by decide +kernel
theorem dX11_sheet_72 : decode cX11_sheet 72 = .ok (.iload 4, 2) := by decide +kernel
theorem dX11_sheet_74 : decode cX11_sheet 74 = .ok (.iadd, 1) := by decide +kernel
theorem dX11_sheet_75 : decode cX11_sheet 75 = .ok (.iconst 0, 1) := by decide +kernel
theorem dX11_sheet_76 : decode cX11_sheet 76 = .ok (.iastore, 1) := by decide +kernel
theorem dX11_sheet_77 : decode cX11_sheet 77 = .ok (.iinc 4 1, 3) := by decide +kernel
theorem dX11_sheet_80 : decode cX11_sheet 80 = .ok (.goto (-23), 3) := by decide +kernel
theorem dX11_sheet_83 : decode cX11_sheet 83 = .ok (.iconst 1, 1) := by decide +kernel
theorem dX11_sheet_84 : decode cX11_sheet 84 = .ok (.ireturn, 1) := by decide +kernel
set_option maxRecDepth 20000 in
theorem ggX11_lose_X11_isSheet : GoodIn wsX11_lose wsX11_isSheet := goodIn_r _ [5, 6, 7, 4, 8] (by decide +kernel) (by decide +kernel)
set_option maxRecDepth 20000 in
theorem gX11_lose_X11_isSheet : GoodIn wsX11_lose (va_wsS RX11 92 yX11_isSheet wsX11_isSheet) := goodIn_app (goodIn_of _ (by decide +kernel)) ggX11_lose_X11_isSheet
theorem dX11_lose_0 : decode cX11_lose 0 = .ok (.iload_n 1, 1) := by decide +kernel
theorem dX11_lose_1 : decode cX11_lose 1 = .ok (.invokestatic 92, 3) := by decide +kernel
theorem dX11_lose_4 : decode cX11_lose 4 = .ok (.ifCond .ne 5, 3) := by decide +kernel
theorem dX11_lose_7 : decode cX11_lose 7 = .ok (.iconst (-1), 1) := by decide +kernel
theorem dX11_lose_8 : decode cX11_lose 8 = .ok (.ireturn, 1) := by decide +kernel
theorem dX11_lose_9 : decode cX11_lose 9 = .ok (.aload_n 0, 1) := by decide +kernel
theorem dX11_lose_10 : decode cX11_lose 10 = .ok (.getfield 9, 3) := by decide +kernel
theorem dX11_lose_13 : decode cX11_lose 13 = .ok (.iload_n 1, 1) := by decide +kernel
theorem dX11_lose_14 : decode cX11_lose 14 = .ok (.iaload, 1) := by decide +kernel
theorem dX11_lose_15 : decode cX11_lose 15 = .ok (.bipush (-9), 2) := by decide +kernel
theorem dX11_lose_17 : decode cX11_lose 17 = .ok (.if_icmp .ne 7, 3) := by decide +kernel
theorem dX11_lose_20 : decode cX11_lose 20 = .ok (.iconst 0, 1) := by decide +kernel
theorem dX11_lose_21 : decode cX11_lose 21 = .ok (.goto 4, 3) := by decide +kernel
theorem dX11_lose_24 : decode cX11_lose 24 = .ok (.iconst 1, 1) := by decide +kernel
theorem dX11_lose_25 : decode cX11_lose 25 = .ok (.istore_n 2, 1) := by decide +kernel
theorem dX11_lose_26 : decode cX11_lose 26 = .ok (.aload_n 0, 1) := by decide +kernel
theorem dX11_lose_27 : decode cX11_lose 27 = .ok (.getfield 9, 3) := by decide +kernel
theorem dX11_lose_30 : decode cX11_lose 30 = .ok (.iload_n 1, 1) := by decide +kernel
theorem dX11_lose_31 : decode cX11_lose 31 = .ok (.bipush (-9), 2) := by decide +kernel
theorem dX11_lose_33 : decode cX11_lose 33 = .ok (.iastore, 1) := by decide +kernel
theorem dX11_lose_34 : decode cX11_lose 34 = .ok (.iload_n 2, 1) := by decide +kernel
theorem dX11_lose_35 : decode cX11_lose 35 = .ok (.ireturn, 1) := by decide +kernel
set_option maxRecDepth 20000 in
theorem ggX11_put_X11_isSheet : GoodIn wsX11_put wsX11_isSheet := goodIn_r _ [8, 9, 10, 7, 11] (by decide +kernel) (by decide +kernel)
set_option maxRecDepth 20000 in
theorem gX11_put_X11_isSheet : GoodIn wsX11_put (va_wsS RX11 92 yX11_isSheet wsX11_isSheet) := goodIn_app (goodIn_of _ (by decide +kernel)) ggX11_put_X11_isSheet
set_option maxRecDepth 20000 in
theorem ggX11_put_X11_fails : GoodIn wsX11_put wsX11_fails := goodIn_r _ [15, 1, 16, 17, 18, 19, 20, 21, 22, 23, 24, 25, 26, 27, 28, 29, 30, 31, 32, 33, 34, 35, 36, 37, 38, 39, 40, 41, 42, 43, 44, 45, 46, 47, 48, 49] (by decide +kernel) (by decide +kernel)
set_option maxRecDepth 20000 in
theorem gX11_put_X11_fails : GoodIn wsX11_put (wsV RX11 103 RX11 yX11_fails wsX11_fails) := goodIn_app (goodIn_of _ (by decide +kernel)) ggX11_put_X11_fails
set_option maxRecDepth 20000 in
theorem ggX11_put_X11_within : GoodIn wsX11_put wsX11_within := goodIn_r _ [11] (by decide +kernel) (by decide +kernel)
set_option maxRecDepth 20000 in
theorem gX11_put_X11_within : GoodIn wsX11_put (va_wsS RX11 79 yX11_within wsX11_within) := goodIn_app (goodIn_of _ (by decide +kernel)) ggX11_put_X11_within
theorem dX11_put_0 : decode cX11_put 0 = .ok (.aload_n 0, 1) := by decide +kernel
theorem dX11_put_1 : decode cX11_put 1 = .ok (.iconst 0, 1) := by decide +kernel
theorem dX11_put_2 : decode cX11_put 2 = .ok (.putfield 74, 3) := by decide +kernel
theorem dX11_put_5 : decode cX11_put 5 = .ok (.iload_n 1, 1) := by decide +kernel
theorem dX11_put_6 : decode cX11_put 6 = .ok (.invokestatic 92, 3) := by decide +kernel
theorem dX11_put_9 : decode cX11_put 9 = .ok (.ifCond .ne 5, 3) := by decide +kernel
theorem dX11_put_12 : decode cX11_put 12 = .ok (.iconst (-1), 1) := by decide +kernel
theorem dX11_put_13 : decode cX11_put 13 = .ok (.ireturn, 1) := by decide +kernel
theorem dX11_put_14 : decode cX11_put 14 = .ok (.aload_n 0, 1) := by decide +kernel
theorem dX11_put_15 : decode cX11_put 15 = .ok (.getfield 9, 3) := by decide +kernel
theorem dX11_put_18 : decode cX11_put 18 = .ok (.iload_n 1, 1) := by decide +kernel
theorem dX11_put_19 : decode cX11_put 19 = .ok (.iaload, 1) := by decide +kernel
theorem dX11_put_20 : decode cX11_put 20 = .ok (.bipush (-9), 2) := by decide +kernel
theorem dX11_put_22 : decode cX11_put 22 = .ok (.if_icmp .ne 9, 3) := by decide +kernel
theorem dX11_put_25 : decode cX11_put 25 = .ok (.aload_n 0, 1) := by decide +kernel
theorem dX11_put_26 : decode cX11_put 26 = .ok (.iconst 1, 1) := by decide +kernel
theorem dX11_put_27 : decode cX11_put 27 = .ok (.invokevirtual 103, 3) := by decide +kernel
theorem dX11_put_30 : decode cX11_put 30 = .ok (.ireturn, 1) := by decide +kernel
theorem dX11_put_31 : decode cX11_put 31 = .ok (.iload_n 2, 1) := by decide +kernel
theorem dX11_put_32 : decode cX11_put 32 = .ok (.iconst 0, 1) := by decide +kernel
theorem dX11_put_33 : decode cX11_put 33 = .ok (.aload_n 0, 1) := by decide +kernel
theorem dX11_put_34 : decode cX11_put 34 = .ok (.getfield 13, 3) := by decide +kernel
theorem dX11_put_37 : decode cX11_put 37 = .ok (.iload_n 1, 1) := by decide +kernel
theorem dX11_put_38 : decode cX11_put 38 = .ok (.iaload, 1) := by decide +kernel
theorem dX11_put_39 : decode cX11_put 39 = .ok (.iconst 1, 1) := by decide +kernel
theorem dX11_put_40 : decode cX11_put 40 = .ok (.isub, 1) := by decide +kernel
theorem dX11_put_41 : decode cX11_put 41 = .ok (.invokestatic 79, 3) := by decide +kernel
theorem dX11_put_44 : decode cX11_put 44 = .ok (.ifCond .ne 9, 3) := by decide +kernel
theorem dX11_put_47 : decode cX11_put 47 = .ok (.aload_n 0, 1) := by decide +kernel
theorem dX11_put_48 : decode cX11_put 48 = .ok (.iconst 3, 1) := by decide +kernel
theorem dX11_put_49 : decode cX11_put 49 = .ok (.invokevirtual 103, 3) := by decide +kernel
theorem dX11_put_52 : decode cX11_put 52 = .ok (.ireturn, 1) := by decide +kernel
theorem dX11_put_53 : decode cX11_put 53 = .ok (.aload_n 0, 1) := by decide +kernel
theorem dX11_put_54 : decode cX11_put 54 = .ok (.getfield 16, 3) := by decide +kernel
theorem dX11_put_57 : decode cX11_put 57 = .ok (.bipush 60, 2) := by decide +kernel
theorem dX11_put_59 : decode cX11_put 59 = .ok (.iload_n 1, 1) := by decide +kernel
theorem dX11_put_60 : decode cX11_put 60 = .ok (.imul, 1) := by decide +kernel
theorem dX11_put_61 : decode cX11_put 61 = .ok (.iload_n 2, 1) := by decide +kernel
theorem dX11_put_62 : decode cX11_put 62 = .ok (.iadd, 1) := by decide +kernel
theorem dX11_put_63 : decode cX11_put 63 = .ok (.aload_n 0, 1) := by decide +kernel
theorem dX11_put_64 : decode cX11_put 64 = .ok (.getfield 9, 3) := by decide +kernel
theorem dX11_put_67 : decode cX11_put 67 = .ok (.iload_n 1, 1) := by decide +kernel
theorem dX11_put_68 : decode cX11_put 68 = .ok (.iaload, 1) := by decide +kernel
theorem dX11_put_69 : decode cX11_put 69 = .ok (.ifCond .ne 8, 3) := by decide +kernel
theorem dX11_put_72 : decode cX11_put 72 = .ok (.iload_n 3, 1) := by decide +kernel
theorem dX11_put_73 : decode cX11_put 73 = .ok (.i2b, 1) := by decide +kernel
theorem dX11_put_74 : decode cX11_put 74 = .ok (.goto 19, 3) := by decide +kernel
theorem dX11_put_77 : decode cX11_put 77 = .ok (.aload_n 0, 1) := by decide +kernel
theorem dX11_put_78 : decode cX11_put 78 = .ok (.getfield 9, 3) := by decide +kernel
theorem dX11_put_81 : decode cX11_put 81 = .ok (.iload_n 1, 1) := by decide +kernel
theorem dX11_put_82 : decode cX11_put 82 = .ok (.iaload, 1) := by decide +kernel
theorem dX11_put_83 : decode cX11_put 83 = .ok (.iconst 1, 1) := by decide +kernel
theorem dX11_put_84 : decode cX11_put 84 = .ok (.if_icmp .ne 8, 3) := by decide +kernel
theorem dX11_put_87 : decode cX11_put 87 = .ok (.iload_n 3, 1) := by decide +kernel
theorem dX11_put_88 : decode cX11_put 88 = .ok (.i2s, 1) := by decide +kernel
theorem dX11_put_89 : decode cX11_put 89 = .ok (.goto 4, 3) := by decide +kernel
theorem dX11_put_92 : decode cX11_put 92 = .ok (.iload_n 3, 1) := by decide +kernel
theorem dX11_put_93 : decode cX11_put 93 = .ok (.iastore, 1) := by decide +kernel
theorem dX11_put_94 : decode cX11_put 94 = .ok (.iconst 1, 1) := by decide +kernel
theorem dX11_put_95 : decode cX11_put 95 = .ok (.ireturn, 1) := by decide +kernel
set_option maxRecDepth 20000 in
theorem ggX11_cell_X11_isSheet : GoodIn wsX11_cell wsX11_isSheet := goodIn_r _ [9, 10, 11, 8, 12] (by decide +kernel) (by decide +kernel)
set_option maxRecDepth 20000 in
theorem gX11_cell_X11_isSheet : GoodIn wsX11_cell (va_wsS RX11 92 yX11_isSheet wsX11_isSheet) := goodIn_app (goodIn_of _ (by decide +kernel)) ggX11_cell_X11_isSheet
set_option maxRecDepth 20000 in
theorem ggX11_cell_X11_isSort : GoodIn wsX11_cell wsX11_isSort := goodIn_r _ [15, 10, 11, 8, 12] (by decide +kernel) (by decide +kernel)
set_option maxRecDepth 20000 in
theorem gX11_cell_X11_isSort : GoodIn wsX11_cell (va_wsS RX11 96 yX11_isSort wsX11_isSort) := goodIn_app (goodIn_of _ (by decide +kernel)) ggX11_cell_X11_isSort
set_option maxRecDepth 20000 in
theorem ggX11_cell_X11_lost : GoodIn wsX11_cell wsX11_lost := goodIn_r _ [19, 1, 2, 20, 21, 22, 23, 24, 25, 26, 27, 28, 29, 30, 31, 32, 33, 34, 35, 36, 37, 38, 39, 40, 41, 42, 43, 44, 45, 46, 47, 48, 49, 50, 51, 52, 53] (by decide +kernel) (by decide +kernel)
set_option maxRecDepth 20000 in
theorem gX11_cell_X11_lost : GoodIn wsX11_cell (wsV RX11 210 RX11 yX11_lost wsX11_lost) := goodIn_app (goodIn_of _ (by decide +kernel)) ggX11_cell_X11_lost
set_option maxRecDepth 20000 in
theorem ggX11_cell_X11_within : GoodIn wsX11_cell wsX11_within := goodIn_r _ [12] (by decide +kernel) (by decide +kernel)
set_option maxRecDepth 20000 in
theorem gX11_cell_X11_within : GoodIn wsX11_cell (va_wsS RX11 79 yX11_within wsX11_within) := goodIn_app (goodIn_of _ (by decide +kernel)) ggX11_cell_X11_within
theorem dX11_cell_0 : decode cX11_cell 0 = .ok (.aload_n 0, 1) := by decide +kernel
theorem dX11_cell_1 : decode cX11_cell 1 = .ok (.iconst 0, 1) := by decide +kernel
theorem dX11_cell_2 : decode cX11_cell 2 = .ok (.putfield 74, 3) := by decide +kernel
theorem dX11_cell_5 : decode cX11_cell 5 = .ok (.iload_n 1, 1) := by decide +kernel
theorem dX11_cell_6 : decode cX11_cell 6 = .ok (.invokestatic 92, 3) := by decide +kernel
theorem dX11_cell_9 : decode cX11_cell 9 = .ok (.ifCond .eq 10, 3) := by decide +kernel
theorem dX11_cell_12 : decode cX11_cell 12 = .ok (.iload_n 3, 1) := by decide +kernel
theorem dX11_cell_13 : decode cX11_cell 13 = .ok (.invokestatic 96, 3) := by decide +kernel
theorem dX11_cell_16 : decode cX11_cell 16 = .ok (.ifCond .ne 7, 3) := by decide +kernel
theorem dX11_cell_19 : decode cX11_cell 19 = .ok (.ldc2_w 77, 3) := by decide +kernel
theorem dX11_cell_22 : decode cX11_cell 22 = .ok (.lreturn, 1) := by decide +kernel
theorem dX11_cell_23 : decode cX11_cell 23 = .ok (.aload_n 0, 1) := by decide +kernel
theorem dX11_cell_24 : decode cX11_cell 24 = .ok (.getfield 9, 3) := by decide +kernel
theorem dX11_cell_27 : decode cX11_cell 27 = .ok (.iload_n 1, 1) := by decide +kernel
theorem dX11_cell_28 : decode cX11_cell 28 = .ok (.iaload, 1) := by decide +kernel
theorem dX11_cell_29 : decode cX11_cell 29 = .ok (.bipush (-9), 2) := by decide +kernel
theorem dX11_cell_31 : decode cX11_cell 31 = .ok (.if_icmp .eq 19, 3) := by decide +kernel
theorem dX11_cell_34 : decode cX11_cell 34 = .ok (.aload_n 0, 1) := by decide +kernel
theorem dX11_cell_35 : decode cX11_cell 35 = .ok (.getfield 9, 3) := by decide +kernel
theorem dX11_cell_38 : decode cX11_cell 38 = .ok (.iload_n 1, 1) := by decide +kernel
theorem dX11_cell_39 : decode cX11_cell 39 = .ok (.iaload, 1) := by decide +kernel
theorem dX11_cell_40 : decode cX11_cell 40 = .ok (.iload_n 3, 1) := by decide +kernel
theorem dX11_cell_41 : decode cX11_cell 41 = .ok (.if_icmp .eq 9, 3) := by decide +kernel
theorem dX11_cell_44 : decode cX11_cell 44 = .ok (.aload_n 0, 1) := by decide +kernel
theorem dX11_cell_45 : decode cX11_cell 45 = .ok (.iconst 2, 1) := by decide +kernel
theorem dX11_cell_46 : decode cX11_cell 46 = .ok (.invokevirtual 210, 3) := by decide +kernel
theorem dX11_cell_49 : decode cX11_cell 49 = .ok (.lreturn, 1) := by decide +kernel
theorem dX11_cell_50 : decode cX11_cell 50 = .ok (.aload_n 0, 1) := by decide +kernel
theorem dX11_cell_51 : decode cX11_cell 51 = .ok (.getfield 9, 3) := by decide +kernel
theorem dX11_cell_54 : decode cX11_cell 54 = .ok (.iload_n 1, 1) := by decide +kernel
theorem dX11_cell_55 : decode cX11_cell 55 = .ok (.iaload, 1) := by decide +kernel
theorem dX11_cell_56 : decode cX11_cell 56 = .ok (.bipush (-9), 2) := by decide +kernel
theorem dX11_cell_58 : decode cX11_cell 58 = .ok (.if_icmp .ne 9, 3) := by decide +kernel
theorem dX11_cell_61 : decode cX11_cell 61 = .ok (.aload_n 0, 1) := by decide +kernel
theorem dX11_cell_62 : decode cX11_cell 62 = .ok (.iconst 1, 1) := by decide +kernel
theorem dX11_cell_63 : decode cX11_cell 63 = .ok (.invokevirtual 210, 3) := by decide +kernel
theorem dX11_cell_66 : decode cX11_cell 66 = .ok (.lreturn, 1) := by decide +kernel
theorem dX11_cell_67 : decode cX11_cell 67 = .ok (.iload_n 2, 1) := by decide +kernel
theorem dX11_cell_68 : decode cX11_cell 68 = .ok (.iconst 0, 1) := by decide +kernel
theorem dX11_cell_69 : decode cX11_cell 69 = .ok (.aload_n 0, 1) := by decide +kernel
theorem dX11_cell_70 : decode cX11_cell 70 = .ok (.getfield 13, 3) := by decide +kernel
theorem dX11_cell_73 : decode cX11_cell 73 = .ok (.iload_n 1, 1) := by decide +kernel
theorem dX11_cell_74 : decode cX11_cell 74 = .ok (.iaload, 1) := by decide +kernel
theorem dX11_cell_75 : decode cX11_cell 75 = .ok (.iconst 1, 1) := by decide +kernel
theorem dX11_cell_76 : decode cX11_cell 76 = .ok (.isub, 1) := by decide +kernel
theorem dX11_cell_77 : decode cX11_cell 77 = .ok (.invokestatic 79, 3) := by decide +kernel
theorem dX11_cell_80 : decode cX11_cell 80 = .ok (.ifCond .ne 9, 3) := by decide +kernel
theorem dX11_cell_83 : decode cX11_cell 83 = .ok (.aload_n 0, 1) := by decide +kernel
theorem dX11_cell_84 : decode cX11_cell 84 = .ok (.iconst 3, 1) := by decide +kernel
theorem dX11_cell_85 : decode cX11_cell 85 = .ok (.invokevirtual 210, 3) := by decide +kernel
theorem dX11_cell_88 : decode cX11_cell 88 = .ok (.lreturn, 1) := by decide +kernel
theorem dX11_cell_89 : decode cX11_cell 89 = .ok (.aload_n 0, 1) := by decide +kernel
theorem dX11_cell_90 : decode cX11_cell 90 = .ok (.getfield 16, 3) := by decide +kernel
theorem dX11_cell_93 : decode cX11_cell 93 = .ok (.bipush 60, 2) := by decide +kernel
theorem dX11_cell_95 : decode cX11_cell 95 = .ok (.iload_n 1, 1) := by decide +kernel
theorem dX11_cell_96 : decode cX11_cell 96 = .ok (.imul, 1) := by decide +kernel
theorem dX11_cell_97 : decode cX11_cell 97 = .ok (.iload_n 2, 1) := by decide +kernel
theorem dX11_cell_98 : decode cX11_cell 98 = .ok (.iadd, 1) := by decide +kernel
theorem dX11_cell_99 : decode cX11_cell 99 = .ok (.iaload, 1) := by decide +kernel
theorem dX11_cell_100 : decode cX11_cell 100 = .ok (.i2l, 1) := by decide +kernel
theorem dX11_cell_101 : decode cX11_cell 101 = .ok (.lreturn, 1) := by decide +kernel
set_option maxRecDepth 20000 in
theorem ggX11_copy_X11_isSheet : GoodIn wsX11_copy wsX11_isSheet := goodIn_r _ [8, 9, 10, 7, 11] (by decide +kernel) (by decide +kernel)
set_option maxRecDepth 20000 in
theorem gX11_copy_X11_isSheet : GoodIn wsX11_copy (va_wsS RX11 92 yX11_isSheet wsX11_isSheet) := goodIn_app (goodIn_of _ (by decide +kernel)) ggX11_copy_X11_isSheet
set_option maxRecDepth 20000 in
theorem ggX11_copy_X11_fails : GoodIn wsX11_copy wsX11_fails := goodIn_r _ [15, 1, 16, 17, 18, 19, 20, 21, 22, 23, 24, 25, 26, 27, 28, 29, 30, 31, 32, 33, 34, 35, 36, 37, 38, 39, 40, 41, 42, 43, 44, 45, 46, 47, 48, 49] (by decide +kernel) (by decide +kernel)
set_option maxRecDepth 20000 in
theorem gX11_copy_X11_fails : GoodIn wsX11_copy (wsV RX11 103 RX11 yX11_fails wsX11_fails) := goodIn_app (goodIn_of _ (by decide +kernel)) ggX11_copy_X11_fails
theorem dX11_copy_0 : decode cX11_copy 0 = .ok (.aload_n 0, 1) := by decide +kernel
theorem dX11_copy_1 : decode cX11_copy 1 = .ok (.iconst 0, 1) := by decide +kernel
theorem dX11_copy_2 : decode cX11_copy 2 = .ok (.putfield 74, 3) := by decide +kernel
theorem dX11_copy_5 : decode cX11_copy 5 = .ok (.iload_n 1, 1) := by decide +kernel
theorem dX11_copy_6 : decode cX11_copy 6 = .ok (.invokestatic 92, 3) := by decide +kernel
theorem dX11_copy_9 : decode cX11_copy 9 = .ok (.ifCond .eq 10, 3) := by decide +kernel
theorem dX11_copy_12 : decode cX11_copy 12 = .ok (.iload_n 3, 1) := by decide +kernel
theorem dX11_copy_13 : decode cX11_copy 13 = .ok (.invokestatic 92, 3) := by decide +kernel
theorem dX11_copy_16 : decode cX11_copy 16 = .ok (.ifCond .ne 5, 3) := by decide +kernel
theorem dX11_copy_19 : decode cX11_copy 19 = .ok (.iconst (-1), 1) := by decide +kernel
theorem dX11_copy_20 : decode cX11_copy 20 = .ok (.ireturn, 1) := by decide +kernel
theorem dX11_copy_21 : decode cX11_copy 21 = .ok (.aload_n 0, 1) := by decide +kernel
theorem dX11_copy_22 : decode cX11_copy 22 = .ok (.getfield 9, 3) := by decide +kernel
theorem dX11_copy_25 : decode cX11_copy 25 = .ok (.iload_n 1, 1) := by decide +kernel
theorem dX11_copy_26 : decode cX11_copy 26 = .ok (.iaload, 1) := by decide +kernel
theorem dX11_copy_27 : decode cX11_copy 27 = .ok (.bipush (-9), 2) := by decide +kernel
theorem dX11_copy_29 : decode cX11_copy 29 = .ok (.if_icmp .eq 14, 3) := by decide +kernel
theorem dX11_copy_32 : decode cX11_copy 32 = .ok (.aload_n 0, 1) := by decide +kernel
theorem dX11_copy_33 : decode cX11_copy 33 = .ok (.getfield 9, 3) := by decide +kernel
theorem dX11_copy_36 : decode cX11_copy 36 = .ok (.iload_n 3, 1) := by decide +kernel
theorem dX11_copy_37 : decode cX11_copy 37 = .ok (.iaload, 1) := by decide +kernel
theorem dX11_copy_38 : decode cX11_copy 38 = .ok (.bipush (-9), 2) := by decide +kernel
theorem dX11_copy_40 : decode cX11_copy 40 = .ok (.if_icmp .ne 9, 3) := by decide +kernel
theorem dX11_copy_43 : decode cX11_copy 43 = .ok (.aload_n 0, 1) := by decide +kernel
theorem dX11_copy_44 : decode cX11_copy 44 = .ok (.iconst 1, 1) := by decide +kernel
theorem dX11_copy_45 : decode cX11_copy 45 = .ok (.invokevirtual 103, 3) := by decide +kernel
theorem dX11_copy_48 : decode cX11_copy 48 = .ok (.ireturn, 1) := by decide +kernel
theorem dX11_copy_49 : decode cX11_copy 49 = .ok (.aload_n 0, 1) := by decide +kernel
theorem dX11_copy_50 : decode cX11_copy 50 = .ok (.getfield 9, 3) := by decide +kernel
theorem dX11_copy_53 : decode cX11_copy 53 = .ok (.iload_n 1, 1) := by decide +kernel
theorem dX11_copy_54 : decode cX11_copy 54 = .ok (.iaload, 1) := by decide +kernel
theorem dX11_copy_55 : decode cX11_copy 55 = .ok (.aload_n 0, 1) := by decide +kernel
theorem dX11_copy_56 : decode cX11_copy 56 = .ok (.getfield 9, 3) := by decide +kernel
theorem dX11_copy_59 : decode cX11_copy 59 = .ok (.iload_n 3, 1) := by decide +kernel
theorem dX11_copy_60 : decode cX11_copy 60 = .ok (.iaload, 1) := by decide +kernel
theorem dX11_copy_61 : decode cX11_copy 61 = .ok (.if_icmp .eq 9, 3) := by decide +kernel
theorem dX11_copy_64 : decode cX11_copy 64 = .ok (.aload_n 0, 1) := by decide +kernel
theorem dX11_copy_65 : decode cX11_copy 65 = .ok (.iconst 2, 1) := by decide +kernel
theorem dX11_copy_66 : decode cX11_copy 66 = .ok (.invokevirtual 103, 3) := by decide +kernel
theorem dX11_copy_69 : decode cX11_copy 69 = .ok (.ireturn, 1) := by decide +kernel
theorem dX11_copy_70 : decode cX11_copy 70 = .ok (.iload_n 2, 1) := by decide +kernel
theorem dX11_copy_71 : decode cX11_copy 71 = .ok (.ifCond .lt 38, 3) := by decide +kernel
theorem dX11_copy_74 : decode cX11_copy 74 = .ok (.iload 4, 2) := by decide +kernel
theorem dX11_copy_76 : decode cX11_copy 76 = .ok (.ifCond .lt 33, 3) := by decide +kernel
theorem dX11_copy_79 : decode cX11_copy 79 = .ok (.iload 5, 2) := by decide +kernel
theorem dX11_copy_81 : decode cX11_copy 81 = .ok (.ifCond .lt 28, 3) := by decide +kernel
theorem dX11_copy_84 : decode cX11_copy 84 = .ok (.iload_n 2, 1) := by decide +kernel
theorem dX11_copy_85 : decode cX11_copy 85 = .ok (.aload_n 0, 1) := by decide +kernel
theorem dX11_copy_86 : decode cX11_copy 86 = .ok (.getfield 13, 3) := by decide +kernel
theorem dX11_copy_89 : decode cX11_copy 89 = .ok (.iload_n 1, 1) := by decide +kernel
theorem dX11_copy_90 : decode cX11_copy 90 = .ok (.iaload, 1) := by decide +kernel
theorem dX11_copy_91 : decode cX11_copy 91 = .ok (.if_icmp .gt 18, 3) := by decide +kernel
theorem dX11_copy_94 : decode cX11_copy 94 = .ok (.iload 4, 2) := by decide +kernel
theorem dX11_copy_96 : decode cX11_copy 96 = .ok (.aload_n 0, 1) := by decide +kernel
theorem dX11_copy_97 : decode cX11_copy 97 = .ok (.getfield 13, 3) := by decide +kernel
theorem dX11_copy_100 : decode cX11_copy 100 = .ok (.iload_n 3, 1) := by decide +kernel
theorem dX11_copy_101 : decode cX11_copy 101 = .ok (.iaload, 1) := by decide +kernel
theorem dX11_copy_102 : decode cX11_copy 102 = .ok (.if_icmp .gt 7, 3) := by decide +kernel
theorem dX11_copy_105 : decode cX11_copy 105 = .ok (.iconst 1, 1) := by decide +kernel
theorem dX11_copy_106 : decode cX11_copy 106 = .ok (.goto 4, 3) := by decide +kernel
theorem dX11_copy_109 : decode cX11_copy 109 = .ok (.iconst 0, 1) := by decide +kernel
theorem dX11_copy_110 : decode cX11_copy 110 = .ok (.istore 6, 2) := by decide +kernel
theorem dX11_copy_112 : decode cX11_copy 112 = .ok (.iload 6, 2) := by decide +kernel
theorem dX11_copy_114 : decode cX11_copy 114 = .ok (.ifCond .eq 30, 3) := by decide +kernel
theorem dX11_copy_117 : decode cX11_copy 117 = .ok (.iload 5, 2) := by decide +kernel
theorem dX11_copy_119 : decode cX11_copy 119 = .ok (.aload_n 0, 1) := by decide +kernel
theorem dX11_copy_120 : decode cX11_copy 120 = .ok (.getfield 13, 3) := by decide +kernel
theorem dX11_copy_123 : decode cX11_copy 123 = .ok (.iload_n 1, 1) := by decide +kernel
theorem dX11_copy_124 : decode cX11_copy 124 = .ok (.iaload, 1) := by decide +kernel
theorem dX11_copy_125 : decode cX11_copy 125 = .ok (.iload_n 2, 1) := by decide +kernel
theorem dX11_copy_126 : decode cX11_copy 126 = .ok (.isub, 1) := by decide +kernel
theorem dX11_copy_127 : decode cX11_copy 127 = .ok (.if_icmp .gt 17, 3) := by decide +kernel
theorem dX11_copy_130 : decode cX11_copy 130 = .ok (.iload 5, 2) := by decide +kernel
theorem dX11_copy_132 : decode cX11_copy 132 = .ok (.aload_n 0, 1) := by decide +kernel
theorem dX11_copy_133 : decode cX11_copy 133 = .ok (.getfield 13, 3) := by decide +kernel
theorem dX11_copy_136 : decode cX11_copy 136 = .ok (.iload_n 3, 1) := by decide +kernel
theorem dX11_copy_137 : decode cX11_copy 137 = .ok (.iaload, 1) := by decide +kernel
theorem dX11_copy_138 : decode cX11_copy 138 = .ok (.iload 4, 2) := by decide +kernel
theorem dX11_copy_140 : decode cX11_copy 140 = .ok (.isub, 1) := by decide +kernel
theorem dX11_copy_141 : decode cX11_copy 141 = .ok (.if_icmp .le 9, 3) := by decide +kernel
theorem dX11_copy_144 : decode cX11_copy 144 = .ok (.aload_n 0, 1) := by decide +kernel
theorem dX11_copy_145 : decode cX11_copy 145 = .ok (.iconst 3, 1) := by decide +kernel
theorem dX11_copy_146 : decode cX11_copy 146 = .ok (.invokevirtual 103, 3) := by decide +kernel
theorem dX11_copy_149 : decode cX11_copy 149 = .ok (.ireturn, 1) := by decide +kernel
theorem dX11_copy_150 : decode cX11_copy 150 = .ok (.iload_n 2, 1) := by decide +kernel
theorem dX11_copy_151 : decode cX11_copy 151 = .ok (.iload 4, 2) := by decide +kernel
theorem dX11_copy_153 : decode cX11_copy 153 = .ok (.if_icmp .ge 7, 3) := by decide +kernel
theorem dX11_copy_156 : decode cX11_copy 156 = .ok (.iconst 1, 1) := by decide +kernel
theorem dX11_copy_157 : decode cX11_copy 157 = .ok (.goto 4, 3) := by decide +kernel
theorem dX11_copy_160 : decode cX11_copy 160 = .ok (.iconst 0, 1) := by decide +kernel
theorem dX11_copy_161 : decode cX11_copy 161 = .ok (.istore 7, 2) := by decide +kernel
theorem dX11_copy_163 : decode cX11_copy 163 = .ok (.iconst 0, 1) := by decide +kernel
theorem dX11_copy_164 : decode cX11_copy 164 = .ok (.istore 8, 2) := by decide +kernel
theorem dX11_copy_166 : decode cX11_copy 166 = .ok (.iload 8, 2) := by decide +kernel
theorem dX11_copy_168 : decode cX11_copy 168 = .ok (.iload 5, 2) := by decide +kernel
theorem dX11_copy_170 : decode cX11_copy 170 = .ok (.if_icmp .ge 57, 3) := by decide +kernel
theorem dX11_copy_173 : decode cX11_copy 173 = .ok (.iload 7, 2) := by decide +kernel
theorem dX11_copy_175 : decode cX11_copy 175 = .ok (.ifCond .eq 13, 3) := by decide +kernel
theorem dX11_copy_178 : decode cX11_copy 178 = .ok (.iload 5, 2) := by decide +kernel
theorem dX11_copy_180 : decode cX11_copy 180 = .ok (.iconst 1, 1) := by decide +kernel
theorem dX11_copy_181 : decode cX11_copy 181 = .ok (.isub, 1) := by decide +kernel
theorem dX11_copy_182 : decode cX11_copy 182 = .ok (.iload 8, 2) := by decide +kernel
theorem dX11_copy_184 : decode cX11_copy 184 = .ok (.isub, 1) := by decide +kernel
theorem dX11_copy_185 : decode cX11_copy 185 = .ok (.goto 5, 3) := by decide +kernel
theorem dX11_copy_188 : decode cX11_copy 188 = .ok (.iload 8, 2) := by decide +kernel
theorem dX11_copy_190 : decode cX11_copy 190 = .ok (.istore 9, 2) := by decide +kernel
theorem dX11_copy_192 : decode cX11_copy 192 = .ok (.aload_n 0, 1) := by decide +kernel
theorem dX11_copy_193 : decode cX11_copy 193 = .ok (.getfield 16, 3) := by decide +kernel
theorem dX11_copy_196 : decode cX11_copy 196 = .ok (.bipush 60, 2) := by decide +kernel
theorem dX11_copy_198 : decode cX11_copy 198 = .ok (.iload_n 3, 1) := by decide +kernel
theorem dX11_copy_199 : decode cX11_copy 199 = .ok (.imul, 1) := by decide +kernel
theorem dX11_copy_200 : decode cX11_copy 200 = .ok (.iload 4, 2) := by decide +kernel
theorem dX11_copy_202 : decode cX11_copy 202 = .ok (.iadd, 1) := by decide +kernel
theorem dX11_copy_203 : decode cX11_copy 203 = .ok (.iload 9, 2) := by decide +kernel
theorem dX11_copy_205 : decode cX11_copy 205 = .ok (.iadd, 1) := by decide +kernel
theorem dX11_copy_206 : decode cX11_copy 206 = .ok (.aload_n 0, 1) := by decide +kernel
theorem dX11_copy_207 : decode cX11_copy 207 = .ok (.getfield 16, 3) := by decide +kernel
theorem dX11_copy_210 : decode cX11_copy 210 = .ok (.bipush 60, 2) := by decide +kernel
theorem dX11_copy_212 : decode cX11_copy 212 = .ok (.iload_n 1, 1) := by decide +kernel
theorem dX11_copy_213 : decode cX11_copy 213 = .ok (.imul, 1) := by decide +kernel
theorem dX11_copy_214 : decode cX11_copy 214 = .ok (.iload_n 2, 1) := by decide +kernel
theorem dX11_copy_215 : decode cX11_copy 215 = .ok (.iadd, 1) := by decide +kernel
theorem dX11_copy_216 : decode cX11_copy 216 = .ok (.iload 9, 2) := by decide +kernel
theorem dX11_copy_218 : decode cX11_copy 218 = .ok (.iadd, 1) := by decide +kernel
theorem dX11_copy_219 : decode cX11_copy 219 = .ok (.iaload, 1) := by decide +kernel
theorem dX11_copy_220 : decode cX11_copy 220 = .ok (.iastore, 1) := by decide +kernel
theorem dX11_copy_221 : decode cX11_copy 221 = .ok (.iinc 8 1, 3) := by decide +kernel
theorem dX11_copy_224 : decode cX11_copy 224 = .ok (.goto (-58), 3) := by decide +kernel
theorem dX11_copy_227 : decode cX11_copy 227 = .ok (.iload 5, 2) := by decide +kernel
theorem dX11_copy_229 : decode cX11_copy 229 = .ok (.ireturn, 1) := by decide +kernel
theorem dX11_begins_0 : decode cX11_begins 0 = .ok (.aload_n 0, 1) := by decide +kernel
theorem dX11_begins_1 : decode cX11_begins 1 = .ok (.bipush 31, 2) := by decide +kernel
theorem dX11_begins_3 : decode cX11_begins 3 = .ok (.aload_n 0, 1) := by decide +kernel
theorem dX11_begins_4 : decode cX11_begins 4 = .ok (.getfield 214, 3) := by decide +kernel
theorem dX11_begins_7 : decode cX11_begins 7 = .ok (.imul, 1) := by decide +kernel
theorem dX11_begins_8 : decode cX11_begins 8 = .ok (.iload_n 1, 1) := by decide +kernel
theorem dX11_begins_9 : decode cX11_begins 9 = .ok (.iadd, 1) := by decide +kernel
theorem dX11_begins_10 : decode cX11_begins 10 = .ok (.putfield 214, 3) := by decide +kernel
theorem dX11_begins_13 : decode cX11_begins 13 = .ok (.return_, 1) := by decide +kernel
set_option maxRecDepth 20000 in
theorem ggX11_tell_X11_isGate : GoodIn wsX11_tell wsX11_isGate := goodIn_r _ [7, 8, 14, 15, 16, 17, 18, 19, 20, 21, 22, 23, 24, 25, 26, 27, 28, 29, 30, 31, 32, 33, 34, 35, 36, 37, 38, 39, 40, 41, 42, 43, 44, 45, 46, 47] (by decide +kernel) (by decide +kernel)
set_option maxRecDepth 20000 in
theorem gX11_tell_X11_isGate : GoodIn wsX11_tell (wsV RX11 136 RX11 yX11_isGate wsX11_isGate) := goodIn_app (goodIn_of _ (by decide +kernel)) ggX11_tell_X11_isGate
set_option maxRecDepth 20000 in
theorem ggX11_tell_X11_begins : GoodIn wsX11_tell wsX11_begins := goodIn_r _ [12, 13, 14, 15, 16, 17, 18, 19, 20, 21, 22, 23, 24, 25, 26, 27, 28, 29, 30, 31, 32, 33, 34, 35, 36, 37, 38, 39, 40, 41, 42, 43, 44, 45, 46, 47] (by decide +kernel) (by decide +kernel)
set_option maxRecDepth 20000 in
theorem gX11_tell_X11_begins : GoodIn wsX11_tell (wsV RX11 217 RX11 yX11_begins wsX11_begins) := goodIn_app (goodIn_of _ (by decide +kernel)) ggX11_tell_X11_begins
theorem dX11_tell_0 : decode cX11_tell 0 = .ok (.aload_n 0, 1) := by decide +kernel
theorem dX11_tell_1 : decode cX11_tell 1 = .ok (.iload_n 1, 1) := by decide +kernel
theorem dX11_tell_2 : decode cX11_tell 2 = .ok (.invokevirtual 136, 3) := by decide +kernel
theorem dX11_tell_5 : decode cX11_tell 5 = .ok (.ifCond .ne 5, 3) := by decide +kernel
theorem dX11_tell_8 : decode cX11_tell 8 = .ok (.iconst (-1), 1) := by decide +kernel
theorem dX11_tell_9 : decode cX11_tell 9 = .ok (.ireturn, 1) := by decide +kernel
theorem dX11_tell_10 : decode cX11_tell 10 = .ok (.aload_n 0, 1) := by decide +kernel
theorem dX11_tell_11 : decode cX11_tell 11 = .ok (.getfield 22, 3) := by decide +kernel
theorem dX11_tell_14 : decode cX11_tell 14 = .ok (.iload_n 1, 1) := by decide +kernel
theorem dX11_tell_15 : decode cX11_tell 15 = .ok (.iaload, 1) := by decide +kernel
theorem dX11_tell_16 : decode cX11_tell 16 = .ok (.istore_n 2, 1) := by decide +kernel
theorem dX11_tell_17 : decode cX11_tell 17 = .ok (.aload_n 0, 1) := by decide +kernel
theorem dX11_tell_18 : decode cX11_tell 18 = .ok (.getfield 19, 3) := by decide +kernel
theorem dX11_tell_21 : decode cX11_tell 21 = .ok (.iload_n 1, 1) := by decide +kernel
theorem dX11_tell_22 : decode cX11_tell 22 = .ok (.iaload, 1) := by decide +kernel
theorem dX11_tell_23 : decode cX11_tell 23 = .ok (.lookupswitch 67 #[(1, 25), (2, 40)], 25) := by decide +kernel
theorem dX11_tell_48 : decode cX11_tell 48 = .ok (.aload_n 0, 1) := by decide +kernel
theorem dX11_tell_49 : decode cX11_tell 49 = .ok (.iconst 2, 1) := by decide +kernel
theorem dX11_tell_50 : decode cX11_tell 50 = .ok (.invokevirtual 217, 3) := by decide +kernel
theorem dX11_tell_53 : decode cX11_tell 53 = .ok (.aload_n 0, 1) := by decide +kernel
theorem dX11_tell_54 : decode cX11_tell 54 = .ok (.iconst 1, 1) := by decide +kernel
theorem dX11_tell_55 : decode cX11_tell 55 = .ok (.invokevirtual 217, 3) := by decide +kernel
theorem dX11_tell_58 : decode cX11_tell 58 = .ok (.iload_n 2, 1) := by decide +kernel
theorem dX11_tell_59 : decode cX11_tell 59 = .ok (.bipush 100, 2) := by decide +kernel
theorem dX11_tell_61 : decode cX11_tell 61 = .ok (.iadd, 1) := by decide +kernel
theorem dX11_tell_62 : decode cX11_tell 62 = .ok (.ireturn, 1) := by decide +kernel
theorem dX11_tell_63 : decode cX11_tell 63 = .ok (.aload_n 0, 1) := by decide +kernel
theorem dX11_tell_64 : decode cX11_tell 64 = .ok (.iconst 3, 1) := by decide +kernel
theorem dX11_tell_65 : decode cX11_tell 65 = .ok (.invokevirtual 217, 3) := by decide +kernel
theorem dX11_tell_68 : decode cX11_tell 68 = .ok (.aload_n 0, 1) := by decide +kernel
theorem dX11_tell_69 : decode cX11_tell 69 = .ok (.iconst 2, 1) := by decide +kernel
theorem dX11_tell_70 : decode cX11_tell 70 = .ok (.invokevirtual 217, 3) := by decide +kernel
theorem dX11_tell_73 : decode cX11_tell 73 = .ok (.aload_n 0, 1) := by decide +kernel
theorem dX11_tell_74 : decode cX11_tell 74 = .ok (.iconst 1, 1) := by decide +kernel
theorem dX11_tell_75 : decode cX11_tell 75 = .ok (.invokevirtual 217, 3) := by decide +kernel
theorem dX11_tell_78 : decode cX11_tell 78 = .ok (.aload_n 0, 1) := by decide +kernel
theorem dX11_tell_79 : decode cX11_tell 79 = .ok (.iconst 1, 1) := by decide +kernel
theorem dX11_tell_80 : decode cX11_tell 80 = .ok (.invokevirtual 217, 3) := by decide +kernel
theorem dX11_tell_83 : decode cX11_tell 83 = .ok (.iconst 2, 1) := by decide +kernel
theorem dX11_tell_84 : decode cX11_tell 84 = .ok (.iload_n 2, 1) := by decide +kernel
theorem dX11_tell_85 : decode cX11_tell 85 = .ok (.imul, 1) := by decide +kernel
theorem dX11_tell_86 : decode cX11_tell 86 = .ok (.bipush 100, 2) := by decide +kernel
theorem dX11_tell_88 : decode cX11_tell 88 = .ok (.iadd, 1) := by decide +kernel
theorem dX11_tell_89 : decode cX11_tell 89 = .ok (.ireturn, 1) := by decide +kernel
theorem dX11_tell_90 : decode cX11_tell 90 = .ok (.aload_n 0, 1) := by decide +kernel
theorem dX11_tell_91 : decode cX11_tell 91 = .ok (.iconst 1, 1) := by decide +kernel
theorem dX11_tell_92 : decode cX11_tell 92 = .ok (.invokevirtual 217, 3) := by decide +kernel
theorem dX11_tell_95 : decode cX11_tell 95 = .ok (.iload_n 2, 1) := by decide +kernel
theorem dX11_tell_96 : decode cX11_tell 96 = .ok (.ireturn, 1) := by decide +kernel
set_option maxRecDepth 20000 in
theorem ggX11_knock_X11_isGate : GoodIn wsX11_knock wsX11_isGate := goodIn_r _ [6, 7, 13, 14, 15, 16, 17, 18, 19, 20, 21, 22, 23, 24, 25, 26, 27, 28, 29, 30, 31, 32, 33, 34, 35, 36, 37, 38, 39, 40, 41, 42, 43, 44, 45, 46] (by decide +kernel) (by decide +kernel)
set_option maxRecDepth 20000 in
theorem gX11_knock_X11_isGate : GoodIn wsX11_knock (wsV RX11 136 RX11 yX11_isGate wsX11_isGate) := goodIn_app (goodIn_of _ (by decide +kernel)) ggX11_knock_X11_isGate
set_option maxRecDepth 20000 in
theorem ggX11_knock_X11_begins : GoodIn wsX11_knock wsX11_begins := goodIn_r _ [11, 12, 13, 14, 15, 16, 17, 18, 19, 20, 21, 22, 23, 24, 25, 26, 27, 28, 29, 30, 31, 32, 33, 34, 35, 36, 37, 38, 39, 40, 41, 42, 43, 44, 45, 46] (by decide +kernel) (by decide +kernel)
set_option maxRecDepth 20000 in
theorem gX11_knock_X11_begins : GoodIn wsX11_knock (wsV RX11 217 RX11 yX11_begins wsX11_begins) := goodIn_app (goodIn_of _ (by decide +kernel)) ggX11_knock_X11_begins
theorem dX11_knock_0 : decode cX11_knock 0 = .ok (.aload_n 0, 1) := by decide +kernel
theorem dX11_knock_1 : decode cX11_knock 1 = .ok (.iload_n 1, 1) := by decide +kernel
theorem dX11_knock_2 : decode cX11_knock 2 = .ok (.invokevirtual 136, 3) := by decide +kernel
theorem dX11_knock_5 : decode cX11_knock 5 = .ok (.ifCond .ne 5, 3) := by decide +kernel
theorem dX11_knock_8 : decode cX11_knock 8 = .ok (.iconst (-1), 1) := by decide +kernel
theorem dX11_knock_9 : decode cX11_knock 9 = .ok (.ireturn, 1) := by decide +kernel
theorem dX11_knock_10 : decode cX11_knock 10 = .ok (.aload_n 0, 1) := by decide +kernel
theorem dX11_knock_11 : decode cX11_knock 11 = .ok (.aload_n 0, 1) := by decide +kernel
theorem dX11_knock_12 : decode cX11_knock 12 = .ok (.getfield 19, 3) := by decide +kernel
theorem dX11_knock_15 : decode cX11_knock 15 = .ok (.iload_n 1, 1) := by decide +kernel
theorem dX11_knock_16 : decode cX11_knock 16 = .ok (.iaload, 1) := by decide +kernel
theorem dX11_knock_17 : decode cX11_knock 17 = .ok (.iconst 2, 1) := by decide +kernel
theorem dX11_knock_18 : decode cX11_knock 18 = .ok (.if_icmp .ne 7, 3) := by decide +kernel
theorem dX11_knock_21 : decode cX11_knock 21 = .ok (.iconst 5, 1) := by decide +kernel
theorem dX11_knock_22 : decode cX11_knock 22 = .ok (.goto 4, 3) := by decide +kernel
theorem dX11_knock_25 : decode cX11_knock 25 = .ok (.iconst 4, 1) := by decide +kernel
theorem dX11_knock_26 : decode cX11_knock 26 = .ok (.invokevirtual 217, 3) := by decide +kernel
theorem dX11_knock_29 : decode cX11_knock 29 = .ok (.aload_n 0, 1) := by decide +kernel
theorem dX11_knock_30 : decode cX11_knock 30 = .ok (.getfield 19, 3) := by decide +kernel
theorem dX11_knock_33 : decode cX11_knock 33 = .ok (.iload_n 1, 1) := by decide +kernel
theorem dX11_knock_34 : decode cX11_knock 34 = .ok (.iaload, 1) := by decide +kernel
theorem dX11_knock_35 : decode cX11_knock 35 = .ok (.iconst 2, 1) := by decide +kernel
theorem dX11_knock_36 : decode cX11_knock 36 = .ok (.if_icmp .ne 8, 3) := by decide +kernel
theorem dX11_knock_39 : decode cX11_knock 39 = .ok (.bipush 90, 2) := by decide +kernel
theorem dX11_knock_41 : decode cX11_knock 41 = .ok (.goto 4, 3) := by decide +kernel
theorem dX11_knock_44 : decode cX11_knock 44 = .ok (.iload_n 1, 1) := by decide +kernel
theorem dX11_knock_45 : decode cX11_knock 45 = .ok (.ireturn, 1) := by decide +kernel
set_option maxRecDepth 20000 in
theorem ggX11_as_X11_isGate : GoodIn wsX11_as wsX11_isGate := goodIn_r _ [7, 8, 16, 17, 18, 19, 20, 21, 22, 23, 24, 25, 26, 27, 28, 29, 30, 31, 32, 33, 34, 35, 36, 37, 38, 39, 40, 41, 42, 43, 44, 45, 46, 47, 48, 49] (by decide +kernel) (by decide +kernel)
set_option maxRecDepth 20000 in
theorem gX11_as_X11_isGate : GoodIn wsX11_as (wsV RX11 136 RX11 yX11_isGate wsX11_isGate) := goodIn_app (goodIn_of _ (by decide +kernel)) ggX11_as_X11_isGate
set_option maxRecDepth 20000 in
theorem ggX11_as_X11_within : GoodIn wsX11_as wsX11_within := goodIn_r _ [11] (by decide +kernel) (by decide +kernel)
set_option maxRecDepth 20000 in
theorem gX11_as_X11_within : GoodIn wsX11_as (va_wsS RX11 79 yX11_within wsX11_within) := goodIn_app (goodIn_of _ (by decide +kernel)) ggX11_as_X11_within
set_option maxRecDepth 20000 in
theorem ggX11_as_X11_fails : GoodIn wsX11_as wsX11_fails := goodIn_r _ [15, 1, 16, 17, 18, 19, 20, 21, 22, 23, 24, 25, 26, 27, 28, 29, 30, 31, 32, 33, 34, 35, 36, 37, 38, 39, 40, 41, 42, 43, 44, 45, 46, 47, 48, 49] (by decide +kernel) (by decide +kernel)
set_option maxRecDepth 20000 in
theorem gX11_as_X11_fails : GoodIn wsX11_as (wsV RX11 103 RX11 yX11_fails wsX11_fails) := goodIn_app (goodIn_of _ (by decide +kernel)) ggX11_as_X11_fails
theorem dX11_as_0 : decode cX11_as 0 = .ok (.aload_n 0, 1) := by decide +kernel
theorem dX11_as_1 : decode cX11_as 1 = .ok (.iconst 0, 1) := by decide +kernel
theorem dX11_as_2 : decode cX11_as 2 = .ok (.putfield 74, 3) := by decide +kernel
theorem dX11_as_5 : decode cX11_as 5 = .ok (.aload_n 0, 1) := by decide +kernel
theorem dX11_as_6 : decode cX11_as 6 = .ok (.iload_n 1, 1) := by decide +kernel
theorem dX11_as_7 : decode cX11_as 7 = .ok (.invokevirtual 136, 3) := by decide +kernel
theorem dX11_as_10 : decode cX11_as 10 = .ok (.ifCond .ne 5, 3) := by decide +kernel
theorem dX11_as_13 : decode cX11_as 13 = .ok (.iconst (-1), 1) := by decide +kernel
theorem dX11_as_14 : decode cX11_as 14 = .ok (.ireturn, 1) := by decide +kernel
theorem dX11_as_15 : decode cX11_as 15 = .ok (.iload_n 2, 1) := by decide +kernel
theorem dX11_as_16 : decode cX11_as 16 = .ok (.iconst 0, 1) := by decide +kernel
theorem dX11_as_17 : decode cX11_as 17 = .ok (.iconst 2, 1) := by decide +kernel
theorem dX11_as_18 : decode cX11_as 18 = .ok (.invokestatic 79, 3) := by decide +kernel
theorem dX11_as_21 : decode cX11_as 21 = .ok (.ifCond .ne 6, 3) := by decide +kernel
theorem dX11_as_24 : decode cX11_as 24 = .ok (.bipush (-2), 2) := by decide +kernel
theorem dX11_as_26 : decode cX11_as 26 = .ok (.ireturn, 1) := by decide +kernel
theorem dX11_as_27 : decode cX11_as 27 = .ok (.aload_n 0, 1) := by decide +kernel
theorem dX11_as_28 : decode cX11_as 28 = .ok (.getfield 19, 3) := by decide +kernel
theorem dX11_as_31 : decode cX11_as 31 = .ok (.iload_n 1, 1) := by decide +kernel
theorem dX11_as_32 : decode cX11_as 32 = .ok (.iaload, 1) := by decide +kernel
theorem dX11_as_33 : decode cX11_as 33 = .ok (.iload_n 2, 1) := by decide +kernel
theorem dX11_as_34 : decode cX11_as 34 = .ok (.if_icmp .lt 7, 3) := by decide +kernel
theorem dX11_as_37 : decode cX11_as 37 = .ok (.iconst 1, 1) := by decide +kernel
theorem dX11_as_38 : decode cX11_as 38 = .ok (.goto 8, 3) := by decide +kernel
theorem dX11_as_41 : decode cX11_as 41 = .ok (.aload_n 0, 1) := by decide +kernel
theorem dX11_as_42 : decode cX11_as 42 = .ok (.iconst 2, 1) := by decide +kernel
theorem dX11_as_43 : decode cX11_as 43 = .ok (.invokevirtual 103, 3) := by decide +kernel
theorem dX11_as_46 : decode cX11_as 46 = .ok (.ireturn, 1) := by decide +kernel
theorem dX11_trace_0 : decode cX11_trace 0 = .ok (.aload_n 0, 1) := by decide +kernel
theorem dX11_trace_1 : decode cX11_trace 1 = .ok (.getfield 214, 3) := by decide +kernel
theorem dX11_trace_4 : decode cX11_trace 4 = .ok (.ireturn, 1) := by decide +kernel
theorem dX11_fault_0 : decode cX11_fault 0 = .ok (.aload_n 0, 1) := by decide +kernel
theorem dX11_fault_1 : decode cX11_fault 1 = .ok (.getfield 74, 3) := by decide +kernel
theorem dX11_fault_4 : decode cX11_fault 4 = .ok (.ireturn, 1) := by decide +kernel
theorem dX11_many_0 : decode cX11_many 0 = .ok (.iload_n 1, 1) := by decide +kernel
theorem dX11_many_1 : decode cX11_many 1 = .ok (.ifCond .ne 10, 3) := by decide +kernel
theorem dX11_many_4 : decode cX11_many 4 = .ok (.aload_n 0, 1) := by decide +kernel
theorem dX11_many_5 : decode cX11_many 5 = .ok (.getfield 86, 3) := by decide +kernel
theorem dX11_many_8 : decode cX11_many 8 = .ok (.goto 41, 3) := by decide +kernel
theorem dX11_many_11 : decode cX11_many 11 = .ok (.iload_n 1, 1) := by decide +kernel
theorem dX11_many_12 : decode cX11_many 12 = .ok (.iconst 1, 1) := by decide +kernel
theorem dX11_many_13 : decode cX11_many 13 = .ok (.if_icmp .ne 10, 3) := by decide +kernel
theorem dX11_many_16 : decode cX11_many 16 = .ok (.aload_n 0, 1) := by decide +kernel
theorem dX11_many_17 : decode cX11_many 17 = .ok (.getfield 83, 3) := by decide +kernel
theorem dX11_many_20 : decode cX11_many 20 = .ok (.goto 29, 3) := by decide +kernel
theorem dX11_many_23 : decode cX11_many 23 = .ok (.iload_n 1, 1) := by decide +kernel
theorem dX11_many_24 : decode cX11_many 24 = .ok (.iconst 2, 1) := by decide +kernel
theorem dX11_many_25 : decode cX11_many 25 = .ok (.if_icmp .ne 10, 3) := by decide +kernel
theorem dX11_many_28 : decode cX11_many 28 = .ok (.aload_n 0, 1) := by decide +kernel
theorem dX11_many_29 : decode cX11_many 29 = .ok (.getfield 116, 3) := by decide +kernel
theorem dX11_many_32 : decode cX11_many 32 = .ok (.goto 17, 3) := by decide +kernel
theorem dX11_many_35 : decode cX11_many 35 = .ok (.iload_n 1, 1) := by decide +kernel
theorem dX11_many_36 : decode cX11_many 36 = .ok (.iconst 3, 1) := by decide +kernel
theorem dX11_many_37 : decode cX11_many 37 = .ok (.if_icmp .ne 10, 3) := by decide +kernel
theorem dX11_many_40 : decode cX11_many 40 = .ok (.aload_n 0, 1) := by decide +kernel
theorem dX11_many_41 : decode cX11_many 41 = .ok (.getfield 119, 3) := by decide +kernel
theorem dX11_many_44 : decode cX11_many 44 = .ok (.goto 5, 3) := by decide +kernel
theorem dX11_many_47 : decode cX11_many 47 = .ok (.bipush (-2), 2) := by decide +kernel
theorem dX11_many_49 : decode cX11_many 49 = .ok (.ireturn, 1) := by decide +kernel
