set_option maxRecDepth 20000 in
theorem ggX10_init_X8_init : GoodIn wsX10_init wsX8_init := goodIn_r _ [26, 27, 2, 3, 28, 29, 30, 31, 32, 33, 34, 35, 36, 70, 71, 72, 73, 74, 75] (by decide +kernel) (by decide +kernel)
set_option maxRecDepth 20000 in
theorem gX10_init_X8_init_n19 : GoodIn wsX10_init (wsX8_init) := ggX10_init_X8_init
set_option maxRecDepth 20000 in
theorem ggX10_init_X3_init : GoodIn wsX10_init wsX3_init := goodIn_r _ [38, 39, 2, 3, 33, 40, 41, 42, 43, 44, 45, 46, 47, 76, 77, 78, 79, 80, 81, 82, 83] (by decide +kernel) (by decide +kernel)
set_option maxRecDepth 20000 in
theorem gX10_init_X3_init_n26 : GoodIn wsX10_init (wsX3_init) := ggX10_init_X3_init
set_option maxRecDepth 20000 in
theorem ggX10_init_X2_init : GoodIn wsX10_init wsX2_init := goodIn_r _ [49, 50, 2, 3, 33, 51, 52, 53, 84, 85, 86] (by decide +kernel) (by decide +kernel)
set_option maxRecDepth 20000 in
theorem gX10_init_X2_init_n33 : GoodIn wsX10_init (wsX2_init) := ggX10_init_X2_init
set_option maxRecDepth 20000 in
theorem ggX10_init_X9_init : GoodIn wsX10_init wsX9_init := goodIn_r _ [55, 56, 2, 3, 57, 87] (by decide +kernel) (by decide +kernel)
set_option maxRecDepth 20000 in
theorem gX10_init_X9_init_n40 : GoodIn wsX10_init (wsX9_init) := ggX10_init_X9_init
set_option maxRecDepth 20000 in
theorem ggX10_init_X4_init : GoodIn wsX10_init wsX4_init := goodIn_r _ [59, 60, 2, 3, 33, 61, 62, 63, 88, 89, 90] (by decide +kernel) (by decide +kernel)
set_option maxRecDepth 20000 in
theorem gX10_init_X4_init_n49 : GoodIn wsX10_init (wsX4_init) := ggX10_init_X4_init
theorem dX10_init_0 : decode cX10_init 0 = .ok (.aload_n 0, 1) := by decide +kernel
theorem dX10_init_1 : decode cX10_init 1 = .ok (.invokespecial 3, 3) := by decide +kernel
theorem dX10_init_4 : decode cX10_init 4 = .ok (.aload_n 0, 1) := by decide +kernel
theorem dX10_init_5 : decode cX10_init 5 = .ok (.iconst 4, 1) := by decide +kernel
theorem dX10_init_6 : decode cX10_init 6 = .ok (.anewarray 11, 3) := by decide +kernel
theorem dX10_init_9 : decode cX10_init 9 = .ok (.putfield 13, 3) := by decide +kernel
theorem dX10_init_12 : decode cX10_init 12 = .ok (.aload_n 0, 1) := by decide +kernel
theorem dX10_init_13 : decode cX10_init 13 = .ok (.new 17, 3) := by decide +kernel
theorem dX10_init_16 : decode cX10_init 16 = .ok (.dup, 1) := by decide +kernel
theorem dX10_init_17 : decode cX10_init 17 = .ok (.invokespecial 19, 3) := by decide +kernel
theorem dX10_init_20 : decode cX10_init 20 = .ok (.putfield 20, 3) := by decide +kernel
theorem dX10_init_23 : decode cX10_init 23 = .ok (.aload_n 0, 1) := by decide +kernel
theorem dX10_init_24 : decode cX10_init 24 = .ok (.new 24, 3) := by decide +kernel
theorem dX10_init_27 : decode cX10_init 27 = .ok (.dup, 1) := by decide +kernel
theorem dX10_init_28 : decode cX10_init 28 = .ok (.invokespecial 26, 3) := by decide +kernel
theorem dX10_init_31 : decode cX10_init 31 = .ok (.putfield 27, 3) := by decide +kernel
theorem dX10_init_34 : decode cX10_init 34 = .ok (.aload_n 0, 1) := by decide +kernel
theorem dX10_init_35 : decode cX10_init 35 = .ok (.new 31, 3) := by decide +kernel
theorem dX10_init_38 : decode cX10_init 38 = .ok (.dup, 1) := by decide +kernel
theorem dX10_init_39 : decode cX10_init 39 = .ok (.invokespecial 33, 3) := by decide +kernel
theorem dX10_init_42 : decode cX10_init 42 = .ok (.putfield 34, 3) := by decide +kernel
theorem dX10_init_45 : decode cX10_init 45 = .ok (.aload_n 0, 1) := by decide +kernel
theorem dX10_init_46 : decode cX10_init 46 = .ok (.new 38, 3) := by decide +kernel
theorem dX10_init_49 : decode cX10_init 49 = .ok (.dup, 1) := by decide +kernel
theorem dX10_init_50 : decode cX10_init 50 = .ok (.invokespecial 40, 3) := by decide +kernel
theorem dX10_init_53 : decode cX10_init 53 = .ok (.putfield 41, 3) := by decide +kernel
theorem dX10_init_56 : decode cX10_init 56 = .ok (.aload_n 0, 1) := by decide +kernel
theorem dX10_init_57 : decode cX10_init 57 = .ok (.iconst 0, 1) := by decide +kernel
theorem dX10_init_58 : decode cX10_init 58 = .ok (.putfield 45, 3) := by decide +kernel
theorem dX10_init_61 : decode cX10_init 61 = .ok (.iconst 0, 1) := by decide +kernel
theorem dX10_init_62 : decode cX10_init 62 = .ok (.istore_n 1, 1) := by decide +kernel
theorem dX10_init_63 : decode cX10_init 63 = .ok (.iload_n 1, 1) := by decide +kernel
theorem dX10_init_64 : decode cX10_init 64 = .ok (.iconst 4, 1) := by decide +kernel
theorem dX10_init_65 : decode cX10_init 65 = .ok (.if_icmp .ge 22, 3) := by decide +kernel
theorem dX10_init_68 : decode cX10_init 68 = .ok (.aload_n 0, 1) := by decide +kernel
theorem dX10_init_69 : decode cX10_init 69 = .ok (.getfield 13, 3) := by decide +kernel
theorem dX10_init_72 : decode cX10_init 72 = .ok (.iload_n 1, 1) := by decide +kernel
theorem dX10_init_73 : decode cX10_init 73 = .ok (.new 11, 3) := by decide +kernel
theorem dX10_init_76 : decode cX10_init 76 = .ok (.dup, 1) := by decide +kernel
theorem dX10_init_77 : decode cX10_init 77 = .ok (.invokespecial 49, 3) := by decide +kernel
theorem dX10_init_80 : decode cX10_init 80 = .ok (.aastore, 1) := by decide +kernel
theorem dX10_init_81 : decode cX10_init 81 = .ok (.iinc 1 1, 3) := by decide +kernel
theorem dX10_init_84 : decode cX10_init 84 = .ok (.goto (-21), 3) := by decide +kernel
theorem dX10_init_87 : decode cX10_init 87 = .ok (.return_, 1) := by decide +kernel
set_option maxRecDepth 20000 in
theorem ggX10_town_X10_rowAt : GoodIn wsX10_town wsX10_rowAt := goodIn_r _ [13, 14, 15, 16, 12, 17, 142, 143, 144, 145, 146, 147] (by decide +kernel) (by decide +kernel)
set_option maxRecDepth 20000 in
theorem gX10_town_X10_rowAt : GoodIn wsX10_town (wsV RX10 50 RX10 yX10_rowAt wsX10_rowAt) := goodIn_app (goodIn_of _ (by decide +kernel)) ggX10_town_X10_rowAt
set_option maxRecDepth 20000 in
theorem ggX10_town_X10_isWithin : GoodIn wsX10_town wsX10_isWithin := goodIn_r _ [17] (by decide +kernel) (by decide +kernel)
set_option maxRecDepth 20000 in
theorem gX10_town_X10_isWithin : GoodIn wsX10_town (va_wsS RX10 54 yX10_isWithin wsX10_isWithin) := goodIn_app (goodIn_of _ (by decide +kernel)) ggX10_town_X10_isWithin
set_option maxRecDepth 20000 in
theorem ggX10_town_X4_faultTakenAs : GoodIn wsX10_town wsX4_faultTakenAs := goodIn_r _ [22, 23, 24, 25, 26, 21, 27, 162, 163, 164] (by decide +kernel) (by decide +kernel)
set_option maxRecDepth 20000 in
theorem gX10_town_X4_faultTakenAs : GoodIn wsX10_town (wsV RX10 58 RX4 yX4_faultTakenAs wsX4_faultTakenAs) := goodIn_app (goodIn_of _ (by decide +kernel)) ggX10_town_X4_faultTakenAs
set_option maxRecDepth 20000 in
theorem ggX10_town_X4_hasCells : GoodIn wsX10_town wsX4_hasCells := goodIn_r _ [31, 32, 162, 163, 164] (by decide +kernel) (by decide +kernel)
set_option maxRecDepth 20000 in
theorem gX10_town_X4_hasCells : GoodIn wsX10_town (wsV RX10 62 RX4 yX4_hasCells wsX4_hasCells) := goodIn_app (goodIn_of _ (by decide +kernel)) ggX10_town_X4_hasCells
set_option maxRecDepth 20000 in
theorem ggX10_town_X10_failBy : GoodIn wsX10_town wsX10_failBy := goodIn_r _ [36, 1, 142, 143, 144, 145, 146, 147] (by decide +kernel) (by decide +kernel)
set_option maxRecDepth 20000 in
theorem gX10_town_X10_failBy : GoodIn wsX10_town (wsV RX10 66 RX10 yX10_failBy wsX10_failBy) := goodIn_app (goodIn_of _ (by decide +kernel)) ggX10_town_X10_failBy
set_option maxRecDepth 20000 in
theorem ggX10_town_X7_init : GoodIn wsX10_town wsX7_init := goodIn_r _ [39, 40, 41, 42, 43, 44, 45, 46, 47, 148, 149, 150, 151, 152] (by decide +kernel) (by decide +kernel)
set_option maxRecDepth 20000 in
theorem gX10_town_X7_init : GoodIn wsX10_town (wsX7_init) := ggX10_town_X7_init
set_option maxRecDepth 20000 in
theorem ggX10_town_X7_firstFault : GoodIn wsX10_town wsX7_firstFault := goodIn_r _ [51, 47, 44, 52, 53, 54, 4, 55, 56, 57, 58, 59, 45, 46, 60, 61, 62, 21, 63, 64, 65, 66, 67, 68, 32, 69, 70, 71, 72, 43, 73, 74, 75, 76, 77, 78, 16, 12, 17, 79, 80, 81, 148, 149, 150, 151, 152, 162, 163, 164] (by decide +kernel) (by decide +kernel)
set_option maxRecDepth 20000 in
theorem gX10_town_X7_firstFault : GoodIn wsX10_town (wsV RX10 74 RX7 yX7_firstFault wsX7_firstFault) := goodIn_app (goodIn_of _ (by decide +kernel)) ggX10_town_X7_firstFault
set_option maxRecDepth 20000 in
theorem ggX10_town_X8_settle : GoodIn wsX10_town wsX8_settle := goodIn_r _ [86, 87, 88, 89, 90, 91, 92, 93, 94, 95, 96, 97, 98, 4, 99, 56, 57, 58, 59, 45, 46, 60, 61, 62, 21, 63, 64, 65, 66, 67, 68, 32, 76, 77, 78, 100, 101, 102, 103, 104, 105, 85, 106, 107, 108, 109, 110, 111, 112, 113, 114, 115, 116, 117, 118, 119, 120, 121, 41, 42, 122, 123, 124, 125, 126, 127, 128, 129, 130, 131, 132, 133, 43, 134, 135, 136, 137, 138, 139, 140, 141, 148, 149, 150, 151, 152, 156, 157, 158, 159, 160, 161, 165, 166, 167, 162, 163, 164, 168, 169, 170, 171, 172, 173, 174, 175, 176] (by decide +kernel) (by decide +kernel)
set_option maxRecDepth 20000 in
theorem gX10_town_X8_settle : GoodIn wsX10_town (wsV RX10 78 RX8 yX8_settle wsX8_settle) := goodIn_app (goodIn_of _ (by decide +kernel)) ggX10_town_X8_settle
theorem dX10_town_0 : decode cX10_town 0 = .ok (.aload_n 0, 1) := by decide +kernel
theorem dX10_town_1 : decode cX10_town 1 = .ok (.iconst 0, 1) := by decide +kernel
theorem dX10_town_2 : decode cX10_town 2 = .ok (.putfield 45, 3) := by decide +kernel
theorem dX10_town_5 : decode cX10_town 5 = .ok (.aload_n 0, 1) := by decide +kernel
theorem dX10_town_6 : decode cX10_town 6 = .ok (.iload_n 1, 1) := by decide +kernel
theorem dX10_town_7 : decode cX10_town 7 = .ok (.invokevirtual 50, 3) := by decide +kernel
theorem dX10_town_10 : decode cX10_town 10 = .ok (.astore 5, 2) := by decide +kernel
theorem dX10_town_12 : decode cX10_town 12 = .ok (.aload 5, 2) := by decide +kernel
theorem dX10_town_14 : decode cX10_town 14 = .ok (.ifnonnull 5, 3) := by decide +kernel
theorem dX10_town_17 : decode cX10_town 17 = .ok (.iconst (-1), 1) := by decide +kernel
theorem dX10_town_18 : decode cX10_town 18 = .ok (.ireturn, 1) := by decide +kernel
theorem dX10_town_19 : decode cX10_town 19 = .ok (.iload_n 2, 1) := by decide +kernel
theorem dX10_town_20 : decode cX10_town 20 = .ok (.iconst 0, 1) := by decide +kernel
theorem dX10_town_21 : decode cX10_town 21 = .ok (.iconst 2, 1) := by decide +kernel
theorem dX10_town_22 : decode cX10_town 22 = .ok (.invokestatic 54, 3) := by decide +kernel
theorem dX10_town_25 : decode cX10_town 25 = .ok (.ifCond .ne 6, 3) := by decide +kernel
theorem dX10_town_28 : decode cX10_town 28 = .ok (.bipush (-2), 2) := by decide +kernel
theorem dX10_town_30 : decode cX10_town 30 = .ok (.ireturn, 1) := by decide +kernel
theorem dX10_town_31 : decode cX10_town 31 = .ok (.aload 5, 2) := by decide +kernel
theorem dX10_town_33 : decode cX10_town 33 = .ok (.iload_n 2, 1) := by decide +kernel
theorem dX10_town_34 : decode cX10_town 34 = .ok (.invokevirtual 58, 3) := by decide +kernel
theorem dX10_town_37 : decode cX10_town 37 = .ok (.istore 6, 2) := by decide +kernel
theorem dX10_town_39 : decode cX10_town 39 = .ok (.iload 6, 2) := by decide +kernel
theorem dX10_town_41 : decode cX10_town 41 = .ok (.ifCond .ne 11, 3) := by decide +kernel
theorem dX10_town_44 : decode cX10_town 44 = .ok (.iload 4, 2) := by decide +kernel
theorem dX10_town_46 : decode cX10_town 46 = .ok (.ifCond .ge 6, 3) := by decide +kernel
theorem dX10_town_49 : decode cX10_town 49 = .ok (.iconst 4, 1) := by decide +kernel
theorem dX10_town_50 : decode cX10_town 50 = .ok (.istore 6, 2) := by decide +kernel
theorem dX10_town_52 : decode cX10_town 52 = .ok (.iload 6, 2) := by decide +kernel
theorem dX10_town_54 : decode cX10_town 54 = .ok (.ifCond .ne 17, 3) := by decide +kernel
theorem dX10_town_57 : decode cX10_town 57 = .ok (.aload 5, 2) := by decide +kernel
theorem dX10_town_59 : decode cX10_town 59 = .ok (.iload_n 3, 1) := by decide +kernel
theorem dX10_town_60 : decode cX10_town 60 = .ok (.iload 4, 2) := by decide +kernel
theorem dX10_town_62 : decode cX10_town 62 = .ok (.invokevirtual 62, 3) := by decide +kernel
theorem dX10_town_65 : decode cX10_town 65 = .ok (.ifCond .ne 6, 3) := by decide +kernel
theorem dX10_town_68 : decode cX10_town 68 = .ok (.iconst 3, 1) := by decide +kernel
theorem dX10_town_69 : decode cX10_town 69 = .ok (.istore 6, 2) := by decide +kernel
theorem dX10_town_71 : decode cX10_town 71 = .ok (.iload 6, 2) := by decide +kernel
theorem dX10_town_73 : decode cX10_town 73 = .ok (.ifCond .eq 10, 3) := by decide +kernel
theorem dX10_town_76 : decode cX10_town 76 = .ok (.aload_n 0, 1) := by decide +kernel
theorem dX10_town_77 : decode cX10_town 77 = .ok (.iload 6, 2) := by decide +kernel
theorem dX10_town_79 : decode cX10_town 79 = .ok (.invokevirtual 66, 3) := by decide +kernel
theorem dX10_town_82 : decode cX10_town 82 = .ok (.ireturn, 1) := by decide +kernel
theorem dX10_town_83 : decode cX10_town 83 = .ok (.new 69, 3) := by decide +kernel
theorem dX10_town_86 : decode cX10_town 86 = .ok (.dup, 1) := by decide +kernel
theorem dX10_town_87 : decode cX10_town 87 = .ok (.aload 5, 2) := by decide +kernel
theorem dX10_town_89 : decode cX10_town 89 = .ok (.iload_n 3, 1) := by decide +kernel
theorem dX10_town_90 : decode cX10_town 90 = .ok (.iload 4, 2) := by decide +kernel
theorem dX10_town_92 : decode cX10_town 92 = .ok (.invokespecial 71, 3) := by decide +kernel
theorem dX10_town_95 : decode cX10_town 95 = .ok (.astore 7, 2) := by decide +kernel
theorem dX10_town_97 : decode cX10_town 97 = .ok (.aload 7, 2) := by decide +kernel
theorem dX10_town_99 : decode cX10_town 99 = .ok (.invokevirtual 74, 3) := by decide +kernel
theorem dX10_town_102 : decode cX10_town 102 = .ok (.istore 8, 2) := by decide +kernel
theorem dX10_town_104 : decode cX10_town 104 = .ok (.iload 8, 2) := by decide +kernel
theorem dX10_town_106 : decode cX10_town 106 = .ok (.bipush (-9), 2) := by decide +kernel
theorem dX10_town_108 : decode cX10_town 108 = .ok (.if_icmp .eq 9, 3) := by decide +kernel
theorem dX10_town_111 : decode cX10_town 111 = .ok (.bipush (-100), 2) := by decide +kernel
theorem dX10_town_113 : decode cX10_town 113 = .ok (.iload 8, 2) := by decide +kernel
theorem dX10_town_115 : decode cX10_town 115 = .ok (.isub, 1) := by decide +kernel
theorem dX10_town_116 : decode cX10_town 116 = .ok (.ireturn, 1) := by decide +kernel
theorem dX10_town_117 : decode cX10_town 117 = .ok (.aload_n 0, 1) := by decide +kernel
theorem dX10_town_118 : decode cX10_town 118 = .ok (.getfield 20, 3) := by decide +kernel
theorem dX10_town_121 : decode cX10_town 121 = .ok (.aload 7, 2) := by decide +kernel
theorem dX10_town_123 : decode cX10_town 123 = .ok (.invokevirtual 78, 3) := by decide +kernel
theorem dX10_town_126 : decode cX10_town 126 = .ok (.aload_n 0, 1) := by decide +kernel
theorem dX10_town_127 : decode cX10_town 127 = .ok (.getfield 34, 3) := by decide +kernel
theorem dX10_town_130 : decode cX10_town 130 = .ok (.iconst 0, 1) := by decide +kernel
theorem dX10_town_131 : decode cX10_town 131 = .ok (.putfield 82, 3) := by decide +kernel
theorem dX10_town_134 : decode cX10_town 134 = .ok (.aload_n 0, 1) := by decide +kernel
theorem dX10_town_135 : decode cX10_town 135 = .ok (.getfield 20, 3) := by decide +kernel
theorem dX10_town_138 : decode cX10_town 138 = .ok (.getfield 85, 3) := by decide +kernel
theorem dX10_town_141 : decode cX10_town 141 = .ok (.arraylength, 1) := by decide +kernel
theorem dX10_town_142 : decode cX10_town 142 = .ok (.ireturn, 1) := by decide +kernel
set_option maxRecDepth 20000 in
theorem ggX10_ofGate_X8_gateAt : GoodIn wsX10_ofGate wsX8_gateAt := goodIn_r _ [8, 9, 41, 42, 43, 44, 45, 46] (by decide +kernel) (by decide +kernel)
set_option maxRecDepth 20000 in
theorem gX10_ofGate_X8_gateAt : GoodIn wsX10_ofGate (wsV RX10 89 RX8 yX8_gateAt wsX8_gateAt) := goodIn_app (goodIn_of _ (by decide +kernel)) ggX10_ofGate_X8_gateAt
set_option maxRecDepth 20000 in
theorem ggX10_ofGate_X0_kind : GoodIn wsX10_ofGate wsX0_kind := goodIn_r _ [14] (by decide +kernel) (by decide +kernel)
set_option maxRecDepth 20000 in
theorem gX10_ofGate_X0_kind : GoodIn wsX10_ofGate (wsV RX10 93 RX0 yX0_kind wsX0_kind) := goodIn_app (goodIn_of _ (by decide +kernel)) ggX10_ofGate_X0_kind
set_option maxRecDepth 20000 in
theorem ggX10_ofGate_X1_kind : GoodIn wsX10_ofGate wsX1_kind := goodIn_r _ [21] (by decide +kernel) (by decide +kernel)
set_option maxRecDepth 20000 in
theorem gX10_ofGate_X1_kind_u93X1 : GoodIn wsX10_ofGate (va_wsO RX10 93 RX1 "GossipGate$Gate" ⟨"GossipGate$Gate", "kind", "()I"⟩ yX1_kind wsX1_kind) := goodIn_app (goodIn_of _ (by decide +kernel)) ggX10_ofGate_X1_kind
set_option maxRecDepth 20000 in
theorem ggX10_ofGate_X6_kind : GoodIn wsX10_ofGate wsX6_kind := goodIn_r _ [25] (by decide +kernel) (by decide +kernel)
set_option maxRecDepth 20000 in
theorem gX10_ofGate_X6_kind_u93X6 : GoodIn wsX10_ofGate (va_wsO RX10 93 RX6 "GossipGate$Gate" ⟨"GossipGate$Gate", "kind", "()I"⟩ yX6_kind wsX6_kind) := goodIn_app (goodIn_of _ (by decide +kernel)) ggX10_ofGate_X6_kind
theorem dX10_ofGate_0 : decode cX10_ofGate 0 = .ok (.aload_n 0, 1) := by decide +kernel
theorem dX10_ofGate_1 : decode cX10_ofGate 1 = .ok (.getfield 20, 3) := by decide +kernel
theorem dX10_ofGate_4 : decode cX10_ofGate 4 = .ok (.iload_n 1, 1) := by decide +kernel
theorem dX10_ofGate_5 : decode cX10_ofGate 5 = .ok (.invokevirtual 89, 3) := by decide +kernel
theorem dX10_ofGate_8 : decode cX10_ofGate 8 = .ok (.astore_n 3, 1) := by decide +kernel
theorem dX10_ofGate_9 : decode cX10_ofGate 9 = .ok (.aload_n 3, 1) := by decide +kernel
theorem dX10_ofGate_10 : decode cX10_ofGate 10 = .ok (.ifnonnull 5, 3) := by decide +kernel
theorem dX10_ofGate_13 : decode cX10_ofGate 13 = .ok (.iconst (-1), 1) := by decide +kernel
theorem dX10_ofGate_14 : decode cX10_ofGate 14 = .ok (.ireturn, 1) := by decide +kernel
theorem dX10_ofGate_15 : decode cX10_ofGate 15 = .ok (.iload_n 2, 1) := by decide +kernel
theorem dX10_ofGate_16 : decode cX10_ofGate 16 = .ok (.tableswitch 43 0 2 #[28, 33, 38], 28) := by decide +kernel
theorem dX10_ofGate_44 : decode cX10_ofGate 44 = .ok (.aload_n 3, 1) := by decide +kernel
theorem dX10_ofGate_45 : decode cX10_ofGate 45 = .ok (.invokevirtual 93, 3) := by decide +kernel
theorem dX10_ofGate_48 : decode cX10_ofGate 48 = .ok (.ireturn, 1) := by decide +kernel
theorem dX10_ofGate_49 : decode cX10_ofGate 49 = .ok (.aload_n 3, 1) := by decide +kernel
theorem dX10_ofGate_50 : decode cX10_ofGate 50 = .ok (.getfield 98, 3) := by decide +kernel
theorem dX10_ofGate_53 : decode cX10_ofGate 53 = .ok (.ireturn, 1) := by decide +kernel
theorem dX10_ofGate_54 : decode cX10_ofGate 54 = .ok (.aload_n 3, 1) := by decide +kernel
theorem dX10_ofGate_55 : decode cX10_ofGate 55 = .ok (.getfield 101, 3) := by decide +kernel
theorem dX10_ofGate_58 : decode cX10_ofGate 58 = .ok (.ireturn, 1) := by decide +kernel
theorem dX10_ofGate_59 : decode cX10_ofGate 59 = .ok (.bipush (-2), 2) := by decide +kernel
theorem dX10_ofGate_61 : decode cX10_ofGate 61 = .ok (.ireturn, 1) := by decide +kernel
set_option maxRecDepth 20000 in
theorem ggX10_ofStory_X8_storyAt : GoodIn wsX10_ofStory wsX8_storyAt := goodIn_r _ [9, 10, 26, 27, 28, 29, 30, 31] (by decide +kernel) (by decide +kernel)
set_option maxRecDepth 20000 in
theorem gX10_ofStory_X8_storyAt : GoodIn wsX10_ofStory (wsV RX10 104 RX8 yX8_storyAt wsX8_storyAt) := goodIn_app (goodIn_of _ (by decide +kernel)) ggX10_ofStory_X8_storyAt
set_option maxRecDepth 20000 in
theorem ggX10_ofStory_X5_sizeOfThird : GoodIn wsX10_ofStory wsX5_sizeOfThird := goodIn_r _ [15, 16, 23, 24, 25] (by decide +kernel) (by decide +kernel)
set_option maxRecDepth 20000 in
theorem gX10_ofStory_X5_sizeOfThird : GoodIn wsX10_ofStory (wsV RX10 119 RX5 yX5_sizeOfThird wsX5_sizeOfThird) := goodIn_app (goodIn_of _ (by decide +kernel)) ggX10_ofStory_X5_sizeOfThird
theorem dX10_ofStory_0 : decode cX10_ofStory 0 = .ok (.aload_n 0, 1) := by decide +kernel
theorem dX10_ofStory_1 : decode cX10_ofStory 1 = .ok (.getfield 20, 3) := by decide +kernel
theorem dX10_ofStory_4 : decode cX10_ofStory 4 = .ok (.iload_n 1, 1) := by decide +kernel
theorem dX10_ofStory_5 : decode cX10_ofStory 5 = .ok (.invokevirtual 104, 3) := by decide +kernel
theorem dX10_ofStory_8 : decode cX10_ofStory 8 = .ok (.astore_n 3, 1) := by decide +kernel
theorem dX10_ofStory_9 : decode cX10_ofStory 9 = .ok (.aload_n 3, 1) := by decide +kernel
theorem dX10_ofStory_10 : decode cX10_ofStory 10 = .ok (.ifnonnull 5, 3) := by decide +kernel
theorem dX10_ofStory_13 : decode cX10_ofStory 13 = .ok (.iconst (-1), 1) := by decide +kernel
theorem dX10_ofStory_14 : decode cX10_ofStory 14 = .ok (.ireturn, 1) := by decide +kernel
theorem dX10_ofStory_15 : decode cX10_ofStory 15 = .ok (.iload_n 2, 1) := by decide +kernel
theorem dX10_ofStory_16 : decode cX10_ofStory 16 = .ok (.tableswitch 63 0 5 #[40, 45, 50, 55, 55, 55], 40) := by decide +kernel
theorem dX10_ofStory_56 : decode cX10_ofStory 56 = .ok (.aload_n 3, 1) := by decide +kernel
theorem dX10_ofStory_57 : decode cX10_ofStory 57 = .ok (.getfield 108, 3) := by decide +kernel
theorem dX10_ofStory_60 : decode cX10_ofStory 60 = .ok (.ireturn, 1) := by decide +kernel
theorem dX10_ofStory_61 : decode cX10_ofStory 61 = .ok (.aload_n 3, 1) := by decide +kernel
theorem dX10_ofStory_62 : decode cX10_ofStory 62 = .ok (.getfield 113, 3) := by decide +kernel
theorem dX10_ofStory_65 : decode cX10_ofStory 65 = .ok (.ireturn, 1) := by decide +kernel
theorem dX10_ofStory_66 : decode cX10_ofStory 66 = .ok (.aload_n 3, 1) := by decide +kernel
theorem dX10_ofStory_67 : decode cX10_ofStory 67 = .ok (.getfield 116, 3) := by decide +kernel
theorem dX10_ofStory_70 : decode cX10_ofStory 70 = .ok (.ireturn, 1) := by decide +kernel
theorem dX10_ofStory_71 : decode cX10_ofStory 71 = .ok (.aload_n 3, 1) := by decide +kernel
theorem dX10_ofStory_72 : decode cX10_ofStory 72 = .ok (.iload_n 2, 1) := by decide +kernel
theorem dX10_ofStory_73 : decode cX10_ofStory 73 = .ok (.iconst 3, 1) := by decide +kernel
theorem dX10_ofStory_74 : decode cX10_ofStory 74 = .ok (.isub, 1) := by decide +kernel
theorem dX10_ofStory_75 : decode cX10_ofStory 75 = .ok (.invokevirtual 119, 3) := by decide +kernel
theorem dX10_ofStory_78 : decode cX10_ofStory 78 = .ok (.ireturn, 1) := by decide +kernel
theorem dX10_ofStory_79 : decode cX10_ofStory 79 = .ok (.bipush (-2), 2) := by decide +kernel
theorem dX10_ofStory_81 : decode cX10_ofStory 81 = .ok (.ireturn, 1) := by decide +kernel
set_option maxRecDepth 20000 in
theorem ggX10_harmless_X10_isWithin : GoodIn wsX10_harmless wsX10_isWithin := goodIn_r _ [6] (by decide +kernel) (by decide +kernel)
set_option maxRecDepth 20000 in
theorem gX10_harmless_X10_isWithin : GoodIn wsX10_harmless (va_wsS RX10 54 yX10_isWithin wsX10_isWithin) := goodIn_app (goodIn_of _ (by decide +kernel)) ggX10_harmless_X10_isWithin
set_option maxRecDepth 20000 in
theorem ggX10_harmless_X8_stands : GoodIn wsX10_harmless wsX8_stands := goodIn_r _ [11, 12, 19, 20, 21, 22, 23, 24] (by decide +kernel) (by decide +kernel)
set_option maxRecDepth 20000 in
theorem gX10_harmless_X8_stands : GoodIn wsX10_harmless (wsV RX10 122 RX8 yX8_stands wsX8_stands) := goodIn_app (goodIn_of _ (by decide +kernel)) ggX10_harmless_X8_stands
theorem dX10_harmless_0 : decode cX10_harmless 0 = .ok (.iload_n 1, 1) := by decide +kernel
theorem dX10_harmless_1 : decode cX10_harmless 1 = .ok (.iconst 0, 1) := by decide +kernel
theorem dX10_harmless_2 : decode cX10_harmless 2 = .ok (.bipush 9, 2) := by decide +kernel
theorem dX10_harmless_4 : decode cX10_harmless 4 = .ok (.invokestatic 54, 3) := by decide +kernel
theorem dX10_harmless_7 : decode cX10_harmless 7 = .ok (.ifCond .ne 6, 3) := by decide +kernel
theorem dX10_harmless_10 : decode cX10_harmless 10 = .ok (.bipush (-2), 2) := by decide +kernel
theorem dX10_harmless_12 : decode cX10_harmless 12 = .ok (.ireturn, 1) := by decide +kernel
theorem dX10_harmless_13 : decode cX10_harmless 13 = .ok (.aload_n 0, 1) := by decide +kernel
theorem dX10_harmless_14 : decode cX10_harmless 14 = .ok (.getfield 20, 3) := by decide +kernel
theorem dX10_harmless_17 : decode cX10_harmless 17 = .ok (.invokevirtual 122, 3) := by decide +kernel
theorem dX10_harmless_20 : decode cX10_harmless 20 = .ok (.ifCond .ne 6, 3) := by decide +kernel
theorem dX10_harmless_23 : decode cX10_harmless 23 = .ok (.bipush (-3), 2) := by decide +kernel
theorem dX10_harmless_25 : decode cX10_harmless 25 = .ok (.ireturn, 1) := by decide +kernel
theorem dX10_harmless_26 : decode cX10_harmless 26 = .ok (.aload_n 0, 1) := by decide +kernel
theorem dX10_harmless_27 : decode cX10_harmless 27 = .ok (.getfield 20, 3) := by decide +kernel
theorem dX10_harmless_30 : decode cX10_harmless 30 = .ok (.getfield 126, 3) := by decide +kernel
theorem dX10_harmless_33 : decode cX10_harmless 33 = .ok (.istore_n 2, 1) := by decide +kernel
theorem dX10_harmless_34 : decode cX10_harmless 34 = .ok (.aload_n 0, 1) := by decide +kernel
theorem dX10_harmless_35 : decode cX10_harmless 35 = .ok (.getfield 20, 3) := by decide +kernel
theorem dX10_harmless_38 : decode cX10_harmless 38 = .ok (.iload_n 1, 1) := by decide +kernel
theorem dX10_harmless_39 : decode cX10_harmless 39 = .ok (.putfield 126, 3) := by decide +kernel
theorem dX10_harmless_42 : decode cX10_harmless 42 = .ok (.iload_n 2, 1) := by decide +kernel
theorem dX10_harmless_43 : decode cX10_harmless 43 = .ok (.ireturn, 1) := by decide +kernel
set_option maxRecDepth 20000 in
theorem ggX10_rate_X8_gateAt : GoodIn wsX10_rate wsX8_gateAt := goodIn_r _ [7, 8, 28, 29, 30, 31, 32, 33] (by decide +kernel) (by decide +kernel)
set_option maxRecDepth 20000 in
theorem gX10_rate_X8_gateAt : GoodIn wsX10_rate (wsV RX10 89 RX8 yX8_gateAt wsX8_gateAt) := goodIn_app (goodIn_of _ (by decide +kernel)) ggX10_rate_X8_gateAt
set_option maxRecDepth 20000 in
theorem ggX10_rate_X10_isWithin : GoodIn wsX10_rate wsX10_isWithin := goodIn_r _ [12] (by decide +kernel) (by decide +kernel)
set_option maxRecDepth 20000 in
theorem gX10_rate_X10_isWithin : GoodIn wsX10_rate (va_wsS RX10 54 yX10_isWithin wsX10_isWithin) := goodIn_app (goodIn_of _ (by decide +kernel)) ggX10_rate_X10_isWithin
theorem dX10_rate_0 : decode cX10_rate 0 = .ok (.aload_n 0, 1) := by decide +kernel
theorem dX10_rate_1 : decode cX10_rate 1 = .ok (.getfield 20, 3) := by decide +kernel
theorem dX10_rate_4 : decode cX10_rate 4 = .ok (.iload_n 1, 1) := by decide +kernel
theorem dX10_rate_5 : decode cX10_rate 5 = .ok (.invokevirtual 89, 3) := by decide +kernel
theorem dX10_rate_8 : decode cX10_rate 8 = .ok (.astore_n 3, 1) := by decide +kernel
theorem dX10_rate_9 : decode cX10_rate 9 = .ok (.aload_n 3, 1) := by decide +kernel
theorem dX10_rate_10 : decode cX10_rate 10 = .ok (.ifnonnull 5, 3) := by decide +kernel
theorem dX10_rate_13 : decode cX10_rate 13 = .ok (.iconst (-1), 1) := by decide +kernel
theorem dX10_rate_14 : decode cX10_rate 14 = .ok (.ireturn, 1) := by decide +kernel
theorem dX10_rate_15 : decode cX10_rate 15 = .ok (.iload_n 2, 1) := by decide +kernel
theorem dX10_rate_16 : decode cX10_rate 16 = .ok (.iconst 1, 1) := by decide +kernel
theorem dX10_rate_17 : decode cX10_rate 17 = .ok (.bipush 9, 2) := by decide +kernel
theorem dX10_rate_19 : decode cX10_rate 19 = .ok (.invokestatic 54, 3) := by decide +kernel
theorem dX10_rate_22 : decode cX10_rate 22 = .ok (.ifCond .ne 6, 3) := by decide +kernel
theorem dX10_rate_25 : decode cX10_rate 25 = .ok (.bipush (-2), 2) := by decide +kernel
theorem dX10_rate_27 : decode cX10_rate 27 = .ok (.ireturn, 1) := by decide +kernel
theorem dX10_rate_28 : decode cX10_rate 28 = .ok (.aload_n 3, 1) := by decide +kernel
theorem dX10_rate_29 : decode cX10_rate 29 = .ok (.getfield 98, 3) := by decide +kernel
theorem dX10_rate_32 : decode cX10_rate 32 = .ok (.istore 4, 2) := by decide +kernel
theorem dX10_rate_34 : decode cX10_rate 34 = .ok (.aload_n 3, 1) := by decide +kernel
theorem dX10_rate_35 : decode cX10_rate 35 = .ok (.iload_n 2, 1) := by decide +kernel
theorem dX10_rate_36 : decode cX10_rate 36 = .ok (.putfield 98, 3) := by decide +kernel
theorem dX10_rate_39 : decode cX10_rate 39 = .ok (.iload 4, 2) := by decide +kernel
theorem dX10_rate_41 : decode cX10_rate 41 = .ok (.ireturn, 1) := by decide +kernel
set_option maxRecDepth 20000 in
theorem ggX10_fresh_X8_storyAt : GoodIn wsX10_fresh wsX8_storyAt := goodIn_r _ [6, 7, 35, 36, 37, 38, 39, 40] (by decide +kernel) (by decide +kernel)
set_option maxRecDepth 20000 in
theorem gX10_fresh_X8_storyAt : GoodIn wsX10_fresh (wsV RX10 104 RX8 yX8_storyAt wsX8_storyAt) := goodIn_app (goodIn_of _ (by decide +kernel)) ggX10_fresh_X8_storyAt
set_option maxRecDepth 20000 in
theorem ggX10_fresh_X10_isDay : GoodIn wsX10_fresh wsX10_isDay := goodIn_r _ [11, 12, 13, 10, 14] (by decide +kernel) (by decide +kernel)
set_option maxRecDepth 20000 in
theorem gX10_fresh_X10_isDay : GoodIn wsX10_fresh (va_wsS RX10 129 yX10_isDay wsX10_isDay) := goodIn_app (goodIn_of _ (by decide +kernel)) ggX10_fresh_X10_isDay
set_option maxRecDepth 20000 in
theorem ggX10_fresh_X5_isBornBy : GoodIn wsX10_fresh wsX5_isBornBy := goodIn_r _ [19, 20, 41, 42, 43] (by decide +kernel) (by decide +kernel)
set_option maxRecDepth 20000 in
theorem gX10_fresh_X5_isBornBy : GoodIn wsX10_fresh (wsV RX10 133 RX5 yX5_isBornBy wsX5_isBornBy) := goodIn_app (goodIn_of _ (by decide +kernel)) ggX10_fresh_X5_isBornBy
set_option maxRecDepth 20000 in
theorem ggX10_fresh_X5_freshness : GoodIn wsX10_fresh wsX5_freshness := goodIn_r _ [24, 20, 25, 26, 27, 28, 41, 42, 43] (by decide +kernel) (by decide +kernel)
set_option maxRecDepth 20000 in
theorem gX10_fresh_X5_freshness : GoodIn wsX10_fresh (wsV RX10 136 RX5 yX5_freshness wsX5_freshness) := goodIn_app (goodIn_of _ (by decide +kernel)) ggX10_fresh_X5_freshness
theorem dX10_fresh_0 : decode cX10_fresh 0 = .ok (.aload_n 0, 1) := by decide +kernel
theorem dX10_fresh_1 : decode cX10_fresh 1 = .ok (.getfield 20, 3) := by decide +kernel
theorem dX10_fresh_4 : decode cX10_fresh 4 = .ok (.iload_n 1, 1) := by decide +kernel
theorem dX10_fresh_5 : decode cX10_fresh 5 = .ok (.invokevirtual 104, 3) := by decide +kernel
theorem dX10_fresh_8 : decode cX10_fresh 8 = .ok (.astore_n 3, 1) := by decide +kernel
theorem dX10_fresh_9 : decode cX10_fresh 9 = .ok (.aload_n 3, 1) := by decide +kernel
theorem dX10_fresh_10 : decode cX10_fresh 10 = .ok (.ifnonnull 5, 3) := by decide +kernel
theorem dX10_fresh_13 : decode cX10_fresh 13 = .ok (.iconst (-1), 1) := by decide +kernel
theorem dX10_fresh_14 : decode cX10_fresh 14 = .ok (.ireturn, 1) := by decide +kernel
theorem dX10_fresh_15 : decode cX10_fresh 15 = .ok (.iload_n 2, 1) := by decide +kernel
theorem dX10_fresh_16 : decode cX10_fresh 16 = .ok (.invokestatic 129, 3) := by decide +kernel
theorem dX10_fresh_19 : decode cX10_fresh 19 = .ok (.ifCond .ne 6, 3) := by decide +kernel
theorem dX10_fresh_22 : decode cX10_fresh 22 = .ok (.bipush (-2), 2) := by decide +kernel
theorem dX10_fresh_24 : decode cX10_fresh 24 = .ok (.ireturn, 1) := by decide +kernel
theorem dX10_fresh_25 : decode cX10_fresh 25 = .ok (.aload_n 3, 1) := by decide +kernel
theorem dX10_fresh_26 : decode cX10_fresh 26 = .ok (.iload_n 2, 1) := by decide +kernel
theorem dX10_fresh_27 : decode cX10_fresh 27 = .ok (.invokevirtual 133, 3) := by decide +kernel
theorem dX10_fresh_30 : decode cX10_fresh 30 = .ok (.ifCond .eq 11, 3) := by decide +kernel
theorem dX10_fresh_33 : decode cX10_fresh 33 = .ok (.aload_n 3, 1) := by decide +kernel
theorem dX10_fresh_34 : decode cX10_fresh 34 = .ok (.iload_n 2, 1) := by decide +kernel
theorem dX10_fresh_35 : decode cX10_fresh 35 = .ok (.invokevirtual 136, 3) := by decide +kernel
theorem dX10_fresh_38 : decode cX10_fresh 38 = .ok (.goto 5, 3) := by decide +kernel
theorem dX10_fresh_41 : decode cX10_fresh 41 = .ok (.bipush (-9), 2) := by decide +kernel
theorem dX10_fresh_43 : decode cX10_fresh 43 = .ok (.ireturn, 1) := by decide +kernel
set_option maxRecDepth 20000 in
theorem ggX10_duty_X8_gateAt : GoodIn wsX10_duty wsX8_gateAt := goodIn_r _ [6, 7, 86, 87, 88, 89, 90, 91] (by decide +kernel) (by decide +kernel)
set_option maxRecDepth 20000 in
theorem gX10_duty_X8_gateAt : GoodIn wsX10_duty (wsV RX10 89 RX8 yX8_gateAt wsX8_gateAt) := goodIn_app (goodIn_of _ (by decide +kernel)) ggX10_duty_X8_gateAt
set_option maxRecDepth 20000 in
theorem ggX10_duty_X8_storyAt : GoodIn wsX10_duty wsX8_storyAt := goodIn_r _ [11, 12, 86, 87, 88, 89, 90, 91] (by decide +kernel) (by decide +kernel)
set_option maxRecDepth 20000 in
theorem gX10_duty_X8_storyAt : GoodIn wsX10_duty (wsV RX10 104 RX8 yX8_storyAt wsX8_storyAt) := goodIn_app (goodIn_of _ (by decide +kernel)) ggX10_duty_X8_storyAt
set_option maxRecDepth 20000 in
theorem ggX10_duty_X10_isDay : GoodIn wsX10_duty wsX10_isDay := goodIn_r _ [16, 17, 18, 15, 19] (by decide +kernel) (by decide +kernel)
set_option maxRecDepth 20000 in
theorem gX10_duty_X10_isDay : GoodIn wsX10_duty (va_wsS RX10 129 yX10_isDay wsX10_isDay) := goodIn_app (goodIn_of _ (by decide +kernel)) ggX10_duty_X10_isDay
set_option maxRecDepth 20000 in
theorem ggX10_duty_X10_isWithin : GoodIn wsX10_duty wsX10_isWithin := goodIn_r _ [19] (by decide +kernel) (by decide +kernel)
set_option maxRecDepth 20000 in
theorem gX10_duty_X10_isWithin : GoodIn wsX10_duty (va_wsS RX10 54 yX10_isWithin wsX10_isWithin) := goodIn_app (goodIn_of _ (by decide +kernel)) ggX10_duty_X10_isWithin
set_option maxRecDepth 20000 in
theorem ggX10_duty_X5_isBornBy : GoodIn wsX10_duty wsX5_isBornBy := goodIn_r _ [24, 25, 92, 93, 94] (by decide +kernel) (by decide +kernel)
set_option maxRecDepth 20000 in
theorem gX10_duty_X5_isBornBy : GoodIn wsX10_duty (wsV RX10 133 RX5 yX5_isBornBy wsX5_isBornBy) := goodIn_app (goodIn_of _ (by decide +kernel)) ggX10_duty_X5_isBornBy
set_option maxRecDepth 20000 in
theorem ggX10_duty_X8_dutyOf : GoodIn wsX10_duty wsX8_dutyOf := goodIn_r _ [29, 30, 31, 32, 33, 34, 35, 23, 36, 37, 38, 39, 40, 41, 42, 43, 44, 45, 25, 46, 47, 48, 49, 50, 51, 52, 53, 54, 55, 56, 57, 58, 59, 60, 61, 62, 63, 64, 65, 66, 67, 68, 69, 70, 71, 72, 73, 74, 75, 76, 77, 78, 79, 86, 87, 88, 89, 90, 91, 95, 96, 97, 98, 99, 100, 101, 102, 103, 92, 93, 94] (by decide +kernel) (by decide +kernel)
set_option maxRecDepth 20000 in
theorem gX10_duty_X8_dutyOf : GoodIn wsX10_duty (wsV RX10 139 RX8 yX8_dutyOf wsX8_dutyOf) := goodIn_app (goodIn_of _ (by decide +kernel)) ggX10_duty_X8_dutyOf
theorem dX10_duty_0 : decode cX10_duty 0 = .ok (.aload_n 0, 1) := by decide +kernel
theorem dX10_duty_1 : decode cX10_duty 1 = .ok (.getfield 20, 3) := by decide +kernel
theorem dX10_duty_4 : decode cX10_duty 4 = .ok (.iload_n 1, 1) := by decide +kernel
theorem dX10_duty_5 : decode cX10_duty 5 = .ok (.invokevirtual 89, 3) := by decide +kernel
theorem dX10_duty_8 : decode cX10_duty 8 = .ok (.astore 5, 2) := by decide +kernel
theorem dX10_duty_10 : decode cX10_duty 10 = .ok (.aload_n 0, 1) := by decide +kernel
theorem dX10_duty_11 : decode cX10_duty 11 = .ok (.getfield 20, 3) := by decide +kernel
theorem dX10_duty_14 : decode cX10_duty 14 = .ok (.iload_n 2, 1) := by decide +kernel
theorem dX10_duty_15 : decode cX10_duty 15 = .ok (.invokevirtual 104, 3) := by decide +kernel
theorem dX10_duty_18 : decode cX10_duty 18 = .ok (.astore 6, 2) := by decide +kernel
theorem dX10_duty_20 : decode cX10_duty 20 = .ok (.aload 5, 2) := by decide +kernel
theorem dX10_duty_22 : decode cX10_duty 22 = .ok (.ifnull 8, 3) := by decide +kernel
theorem dX10_duty_25 : decode cX10_duty 25 = .ok (.aload 6, 2) := by decide +kernel
theorem dX10_duty_27 : decode cX10_duty 27 = .ok (.ifnonnull 5, 3) := by decide +kernel
theorem dX10_duty_30 : decode cX10_duty 30 = .ok (.iconst (-1), 1) := by decide +kernel
theorem dX10_duty_31 : decode cX10_duty 31 = .ok (.ireturn, 1) := by decide +kernel
theorem dX10_duty_32 : decode cX10_duty 32 = .ok (.iload_n 3, 1) := by decide +kernel
theorem dX10_duty_33 : decode cX10_duty 33 = .ok (.invokestatic 129, 3) := by decide +kernel
theorem dX10_duty_36 : decode cX10_duty 36 = .ok (.ifCond .eq 14, 3) := by decide +kernel
theorem dX10_duty_39 : decode cX10_duty 39 = .ok (.iload 4, 2) := by decide +kernel
theorem dX10_duty_41 : decode cX10_duty 41 = .ok (.iconst 0, 1) := by decide +kernel
theorem dX10_duty_42 : decode cX10_duty 42 = .ok (.bipush 7, 2) := by decide +kernel
theorem dX10_duty_44 : decode cX10_duty 44 = .ok (.invokestatic 54, 3) := by decide +kernel
theorem dX10_duty_47 : decode cX10_duty 47 = .ok (.ifCond .ne 6, 3) := by decide +kernel
theorem dX10_duty_50 : decode cX10_duty 50 = .ok (.bipush (-2), 2) := by decide +kernel
theorem dX10_duty_52 : decode cX10_duty 52 = .ok (.ireturn, 1) := by decide +kernel
theorem dX10_duty_53 : decode cX10_duty 53 = .ok (.aload 6, 2) := by decide +kernel
theorem dX10_duty_55 : decode cX10_duty 55 = .ok (.iload_n 3, 1) := by decide +kernel
theorem dX10_duty_56 : decode cX10_duty 56 = .ok (.invokevirtual 133, 3) := by decide +kernel
theorem dX10_duty_59 : decode cX10_duty 59 = .ok (.ifCond .eq 20, 3) := by decide +kernel
theorem dX10_duty_62 : decode cX10_duty 62 = .ok (.aload_n 0, 1) := by decide +kernel
theorem dX10_duty_63 : decode cX10_duty 63 = .ok (.getfield 20, 3) := by decide +kernel
theorem dX10_duty_66 : decode cX10_duty 66 = .ok (.aload 5, 2) := by decide +kernel
theorem dX10_duty_68 : decode cX10_duty 68 = .ok (.aload 6, 2) := by decide +kernel
theorem dX10_duty_70 : decode cX10_duty 70 = .ok (.iload_n 3, 1) := by decide +kernel
theorem dX10_duty_71 : decode cX10_duty 71 = .ok (.iload 4, 2) := by decide +kernel
theorem dX10_duty_73 : decode cX10_duty 73 = .ok (.invokevirtual 139, 3) := by decide +kernel
theorem dX10_duty_76 : decode cX10_duty 76 = .ok (.goto 5, 3) := by decide +kernel
theorem dX10_duty_79 : decode cX10_duty 79 = .ok (.bipush (-9), 2) := by decide +kernel
theorem dX10_duty_81 : decode cX10_duty 81 = .ok (.ireturn, 1) := by decide +kernel
set_option maxRecDepth 20000 in
theorem ggX10_passages_X10_rowAt : GoodIn wsX10_passages wsX10_rowAt := goodIn_r _ [9, 10, 11, 12, 8, 13, 179, 180, 181, 182, 183, 184] (by decide +kernel) (by decide +kernel)
set_option maxRecDepth 20000 in
theorem gX10_passages_X10_rowAt : GoodIn wsX10_passages (wsV RX10 50 RX10 yX10_rowAt wsX10_rowAt) := goodIn_app (goodIn_of _ (by decide +kernel)) ggX10_passages_X10_rowAt
set_option maxRecDepth 20000 in
theorem ggX10_passages_X10_isAskedOfPassages : GoodIn wsX10_passages wsX10_isAskedOfPassages := goodIn_r _ [16, 11, 12, 8, 13] (by decide +kernel) (by decide +kernel)
set_option maxRecDepth 20000 in
theorem gX10_passages_X10_isAskedOfPassages : GoodIn wsX10_passages (va_wsS RX10 143 yX10_isAskedOfPassages wsX10_isAskedOfPassages) := goodIn_app (goodIn_of _ (by decide +kernel)) ggX10_passages_X10_isAskedOfPassages
set_option maxRecDepth 20000 in
theorem ggX10_passages_X10_readRoute : GoodIn wsX10_passages wsX10_readRoute := goodIn_r _ [20, 4, 2, 5, 6, 7, 8, 9, 10, 11, 12, 13, 21, 22, 23, 24, 25, 26, 27, 28, 29, 30, 31, 32, 33, 34, 35, 36, 37, 38, 39, 1, 40, 41, 42, 43, 44, 45, 46, 47, 48, 49, 50, 51, 52, 53, 54, 55, 56, 57, 58, 59, 60, 61, 62, 63, 64, 65, 66, 67, 68, 69, 70, 71, 72, 73, 74, 75, 76, 77, 78, 79, 80, 81, 82, 83, 84, 85, 86, 87, 88, 89, 90, 91, 92, 93, 94, 95, 96, 97, 98, 99, 100, 101, 179, 180, 181, 182, 183, 184, 193, 194, 195, 196, 197, 198, 199, 200, 201, 185, 186, 187, 188, 189, 190, 191, 192, 202, 203, 204] (by decide +kernel) (by decide +kernel)
set_option maxRecDepth 20000 in
theorem gX10_passages_X10_readRoute : GoodIn wsX10_passages (wsV RX10 146 RX10 yX10_readRoute wsX10_readRoute) := goodIn_app (goodIn_of _ (by decide +kernel)) ggX10_passages_X10_readRoute
set_option maxRecDepth 20000 in
theorem ggX10_passages_X8_storyAt : GoodIn wsX10_passages wsX8_storyAt := goodIn_r _ [71, 45, 196, 197, 198, 199, 200, 201] (by decide +kernel) (by decide +kernel)
set_option maxRecDepth 20000 in
theorem gX10_passages_X8_storyAt : GoodIn wsX10_passages (wsV RX10 104 RX8 yX8_storyAt wsX8_storyAt) := goodIn_app (goodIn_of _ (by decide +kernel)) ggX10_passages_X8_storyAt
set_option maxRecDepth 20000 in
theorem ggX10_passages_X3_wholeDay : GoodIn wsX10_passages wsX3_wholeDay := goodIn_r _ [105, 53, 54, 12, 8, 13, 185, 186, 187, 188, 189, 190, 191, 192] (by decide +kernel) (by decide +kernel)
set_option maxRecDepth 20000 in
theorem gX10_passages_X3_wholeDay : GoodIn wsX10_passages (wsV RX10 153 RX3 yX3_wholeDay wsX3_wholeDay) := goodIn_app (goodIn_of _ (by decide +kernel)) ggX10_passages_X3_wholeDay
set_option maxRecDepth 20000 in
theorem ggX10_passages_X8_collect : GoodIn wsX10_passages wsX8_collect := goodIn_r _ [109, 110, 111, 112, 113, 114, 115, 116, 117, 56, 57, 58, 118, 73, 74, 43, 75, 76, 119, 69, 70, 71, 45, 120, 121, 122, 123, 124, 125, 126, 127, 128, 129, 83, 130, 131, 132, 133, 134, 135, 136, 137, 138, 139, 85, 140, 92, 93, 94, 141, 142, 143, 144, 145, 146, 147, 148, 149, 150, 151, 152, 153, 154, 155, 156, 157, 158, 159, 160, 161, 162, 163, 164, 165, 166, 167, 168, 169, 170, 196, 197, 198, 199, 200, 201, 185, 186, 187, 188, 189, 190, 191, 192, 205, 206, 207, 208, 209, 210, 211, 212, 213, 202, 203, 204] (by decide +kernel) (by decide +kernel)
set_option maxRecDepth 20000 in
theorem gX10_passages_X8_collect : GoodIn wsX10_passages (wsV RX10 156 RX8 yX8_collect wsX8_collect) := goodIn_app (goodIn_of _ (by decide +kernel)) ggX10_passages_X8_collect
set_option maxRecDepth 20000 in
theorem ggX10_passages_X8_takenInAll : GoodIn wsX10_passages wsX8_takenInAll := goodIn_r _ [174, 110, 196, 197, 198, 199, 200, 201] (by decide +kernel) (by decide +kernel)
set_option maxRecDepth 20000 in
theorem gX10_passages_X8_takenInAll : GoodIn wsX10_passages (wsV RX10 160 RX8 yX8_takenInAll wsX8_takenInAll) := goodIn_app (goodIn_of _ (by decide +kernel)) ggX10_passages_X8_takenInAll
set_option maxRecDepth 20000 in
theorem ggX10_passages_X8_gateAt : GoodIn wsX10_passages wsX8_gateAt := goodIn_r _ [75, 76, 196, 197, 198, 199, 200, 201] (by decide +kernel) (by decide +kernel)
set_option maxRecDepth 20000 in
theorem gX10_passages_X8_gateAt : GoodIn wsX10_passages (wsV RX10 89 RX8 yX8_gateAt wsX8_gateAt) := goodIn_app (goodIn_of _ (by decide +kernel)) ggX10_passages_X8_gateAt
set_option maxRecDepth 20000 in
theorem ggX10_passages_X8_takenAt : GoodIn wsX10_passages wsX8_takenAt := goodIn_r _ [178, 110, 12, 8, 13, 196, 197, 198, 199, 200, 201] (by decide +kernel) (by decide +kernel)
set_option maxRecDepth 20000 in
theorem gX10_passages_X8_takenAt : GoodIn wsX10_passages (wsV RX10 163 RX8 yX8_takenAt wsX8_takenAt) := goodIn_app (goodIn_of _ (by decide +kernel)) ggX10_passages_X8_takenAt
theorem dX10_passages_0 : decode cX10_passages 0 = .ok (.aload_n 0, 1) := by decide +kernel
theorem dX10_passages_1 : decode cX10_passages 1 = .ok (.iconst 0, 1) := by decide +kernel
theorem dX10_passages_2 : decode cX10_passages 2 = .ok (.putfield 45, 3) := by decide +kernel
theorem dX10_passages_5 : decode cX10_passages 5 = .ok (.aload_n 0, 1) := by decide +kernel
theorem dX10_passages_6 : decode cX10_passages 6 = .ok (.iload_n 1, 1) := by decide +kernel
theorem dX10_passages_7 : decode cX10_passages 7 = .ok (.invokevirtual 50, 3) := by decide +kernel
theorem dX10_passages_10 : decode cX10_passages 10 = .ok (.ifnonnull 5, 3) := by decide +kernel
theorem dX10_passages_13 : decode cX10_passages 13 = .ok (.iconst (-1), 1) := by decide +kernel
theorem dX10_passages_14 : decode cX10_passages 14 = .ok (.ireturn, 1) := by decide +kernel
theorem dX10_passages_15 : decode cX10_passages 15 = .ok (.iload 5, 2) := by decide +kernel
theorem dX10_passages_17 : decode cX10_passages 17 = .ok (.invokestatic 143, 3) := by decide +kernel
theorem dX10_passages_20 : decode cX10_passages 20 = .ok (.ifCond .ne 6, 3) := by decide +kernel
theorem dX10_passages_23 : decode cX10_passages 23 = .ok (.bipush (-2), 2) := by decide +kernel
theorem dX10_passages_25 : decode cX10_passages 25 = .ok (.ireturn, 1) := by decide +kernel
theorem dX10_passages_26 : decode cX10_passages 26 = .ok (.aload_n 0, 1) := by decide +kernel
theorem dX10_passages_27 : decode cX10_passages 27 = .ok (.iload_n 1, 1) := by decide +kernel
theorem dX10_passages_28 : decode cX10_passages 28 = .ok (.iload_n 2, 1) := by decide +kernel
theorem dX10_passages_29 : decode cX10_passages 29 = .ok (.iload_n 3, 1) := by decide +kernel
theorem dX10_passages_30 : decode cX10_passages 30 = .ok (.iload 4, 2) := by decide +kernel
theorem dX10_passages_32 : decode cX10_passages 32 = .ok (.invokevirtual 146, 3) := by decide +kernel
theorem dX10_passages_35 : decode cX10_passages 35 = .ok (.istore 6, 2) := by decide +kernel
theorem dX10_passages_37 : decode cX10_passages 37 = .ok (.iload 6, 2) := by decide +kernel
theorem dX10_passages_39 : decode cX10_passages 39 = .ok (.ifCond .ge 6, 3) := by decide +kernel
theorem dX10_passages_42 : decode cX10_passages 42 = .ok (.iload 6, 2) := by decide +kernel
theorem dX10_passages_44 : decode cX10_passages 44 = .ok (.ireturn, 1) := by decide +kernel
theorem dX10_passages_45 : decode cX10_passages 45 = .ok (.iload 5, 2) := by decide +kernel
theorem dX10_passages_47 : decode cX10_passages 47 = .ok (.iconst 1, 1) := by decide +kernel
theorem dX10_passages_48 : decode cX10_passages 48 = .ok (.if_icmp .ne 11, 3) := by decide +kernel
theorem dX10_passages_51 : decode cX10_passages 51 = .ok (.aload_n 0, 1) := by decide +kernel
theorem dX10_passages_52 : decode cX10_passages 52 = .ok (.getfield 27, 3) := by decide +kernel
theorem dX10_passages_55 : decode cX10_passages 55 = .ok (.getfield 150, 3) := by decide +kernel
theorem dX10_passages_58 : decode cX10_passages 58 = .ok (.ireturn, 1) := by decide +kernel
theorem dX10_passages_59 : decode cX10_passages 59 = .ok (.aload_n 0, 1) := by decide +kernel
theorem dX10_passages_60 : decode cX10_passages 60 = .ok (.getfield 27, 3) := by decide +kernel
theorem dX10_passages_63 : decode cX10_passages 63 = .ok (.getfield 150, 3) := by decide +kernel
theorem dX10_passages_66 : decode cX10_passages 66 = .ok (.bipush (-9), 2) := by decide +kernel
theorem dX10_passages_68 : decode cX10_passages 68 = .ok (.if_icmp .eq 14, 3) := by decide +kernel
theorem dX10_passages_71 : decode cX10_passages 71 = .ok (.bipush (-100), 2) := by decide +kernel
theorem dX10_passages_73 : decode cX10_passages 73 = .ok (.aload_n 0, 1) := by decide +kernel
theorem dX10_passages_74 : decode cX10_passages 74 = .ok (.getfield 27, 3) := by decide +kernel
theorem dX10_passages_77 : decode cX10_passages 77 = .ok (.getfield 150, 3) := by decide +kernel
theorem dX10_passages_80 : decode cX10_passages 80 = .ok (.isub, 1) := by decide +kernel
theorem dX10_passages_81 : decode cX10_passages 81 = .ok (.ireturn, 1) := by decide +kernel
theorem dX10_passages_82 : decode cX10_passages 82 = .ok (.iload 5, 2) := by decide +kernel
theorem dX10_passages_84 : decode cX10_passages 84 = .ok (.bipush 10, 2) := by decide +kernel
theorem dX10_passages_86 : decode cX10_passages 86 = .ok (.if_icmp .lt 43, 3) := by decide +kernel
theorem dX10_passages_89 : decode cX10_passages 89 = .ok (.iload 5, 2) := by decide +kernel
theorem dX10_passages_91 : decode cX10_passages 91 = .ok (.bipush 20, 2) := by decide +kernel
theorem dX10_passages_93 : decode cX10_passages 93 = .ok (.if_icmp .ge 36, 3) := by decide +kernel
theorem dX10_passages_96 : decode cX10_passages 96 = .ok (.aload_n 0, 1) := by decide +kernel
theorem dX10_passages_97 : decode cX10_passages 97 = .ok (.getfield 20, 3) := by decide +kernel
theorem dX10_passages_100 : decode cX10_passages 100 = .ok (.iload 5, 2) := by decide +kernel
theorem dX10_passages_102 : decode cX10_passages 102 = .ok (.bipush 10, 2) := by decide +kernel
theorem dX10_passages_104 : decode cX10_passages 104 = .ok (.isub, 1) := by decide +kernel
theorem dX10_passages_105 : decode cX10_passages 105 = .ok (.invokevirtual 104, 3) := by decide +kernel
theorem dX10_passages_108 : decode cX10_passages 108 = .ok (.ifnonnull 8, 3) := by decide +kernel
theorem dX10_passages_111 : decode cX10_passages 111 = .ok (.bipush (-9), 2) := by decide +kernel
theorem dX10_passages_113 : decode cX10_passages 113 = .ok (.goto 15, 3) := by decide +kernel
theorem dX10_passages_116 : decode cX10_passages 116 = .ok (.aload_n 0, 1) := by decide +kernel
theorem dX10_passages_117 : decode cX10_passages 117 = .ok (.getfield 27, 3) := by decide +kernel
theorem dX10_passages_120 : decode cX10_passages 120 = .ok (.iload 5, 2) := by decide +kernel
theorem dX10_passages_122 : decode cX10_passages 122 = .ok (.bipush 10, 2) := by decide +kernel
theorem dX10_passages_124 : decode cX10_passages 124 = .ok (.isub, 1) := by decide +kernel
theorem dX10_passages_125 : decode cX10_passages 125 = .ok (.invokevirtual 153, 3) := by decide +kernel
theorem dX10_passages_128 : decode cX10_passages 128 = .ok (.ireturn, 1) := by decide +kernel
theorem dX10_passages_129 : decode cX10_passages 129 = .ok (.aload_n 0, 1) := by decide +kernel
theorem dX10_passages_130 : decode cX10_passages 130 = .ok (.getfield 20, 3) := by decide +kernel
theorem dX10_passages_133 : decode cX10_passages 133 = .ok (.aload_n 0, 1) := by decide +kernel
theorem dX10_passages_134 : decode cX10_passages 134 = .ok (.getfield 27, 3) := by decide +kernel
theorem dX10_passages_137 : decode cX10_passages 137 = .ok (.invokevirtual 156, 3) := by decide +kernel
theorem dX10_passages_140 : decode cX10_passages 140 = .ok (.iload 5, 2) := by decide +kernel
theorem dX10_passages_142 : decode cX10_passages 142 = .ok (.ifCond .ne 11, 3) := by decide +kernel
theorem dX10_passages_145 : decode cX10_passages 145 = .ok (.aload_n 0, 1) := by decide +kernel
theorem dX10_passages_146 : decode cX10_passages 146 = .ok (.getfield 20, 3) := by decide +kernel
theorem dX10_passages_149 : decode cX10_passages 149 = .ok (.invokevirtual 160, 3) := by decide +kernel
theorem dX10_passages_152 : decode cX10_passages 152 = .ok (.ireturn, 1) := by decide +kernel
theorem dX10_passages_153 : decode cX10_passages 153 = .ok (.aload_n 0, 1) := by decide +kernel
theorem dX10_passages_154 : decode cX10_passages 154 = .ok (.getfield 20, 3) := by decide +kernel
theorem dX10_passages_157 : decode cX10_passages 157 = .ok (.iload 5, 2) := by decide +kernel
theorem dX10_passages_159 : decode cX10_passages 159 = .ok (.bipush 20, 2) := by decide +kernel
theorem dX10_passages_161 : decode cX10_passages 161 = .ok (.isub, 1) := by decide +kernel
theorem dX10_passages_162 : decode cX10_passages 162 = .ok (.invokevirtual 89, 3) := by decide +kernel
theorem dX10_passages_165 : decode cX10_passages 165 = .ok (.ifnonnull 8, 3) := by decide +kernel
theorem dX10_passages_168 : decode cX10_passages 168 = .ok (.bipush (-9), 2) := by decide +kernel
theorem dX10_passages_170 : decode cX10_passages 170 = .ok (.goto 15, 3) := by decide +kernel
theorem dX10_passages_173 : decode cX10_passages 173 = .ok (.aload_n 0, 1) := by decide +kernel
theorem dX10_passages_174 : decode cX10_passages 174 = .ok (.getfield 20, 3) := by decide +kernel
theorem dX10_passages_177 : decode cX10_passages 177 = .ok (.iload 5, 2) := by decide +kernel
theorem dX10_passages_179 : decode cX10_passages 179 = .ok (.bipush 20, 2) := by decide +kernel
theorem dX10_passages_181 : decode cX10_passages 181 = .ok (.isub, 1) := by decide +kernel
theorem dX10_passages_182 : decode cX10_passages 182 = .ok (.invokevirtual 163, 3) := by decide +kernel
theorem dX10_passages_185 : decode cX10_passages 185 = .ok (.ireturn, 1) := by decide +kernel
set_option maxRecDepth 20000 in
theorem ggX10_least_X8_storyAt : GoodIn wsX10_least wsX8_storyAt := goodIn_r _ [6, 7, 126, 127, 128, 129, 130, 131] (by decide +kernel) (by decide +kernel)
set_option maxRecDepth 20000 in
theorem gX10_least_X8_storyAt : GoodIn wsX10_least (wsV RX10 104 RX8 yX8_storyAt wsX8_storyAt) := goodIn_app (goodIn_of _ (by decide +kernel)) ggX10_least_X8_storyAt
set_option maxRecDepth 20000 in
theorem ggX10_least_X10_isDay : GoodIn wsX10_least wsX10_isDay := goodIn_r _ [11, 12, 13, 10, 14] (by decide +kernel) (by decide +kernel)
set_option maxRecDepth 20000 in
theorem gX10_least_X10_isDay : GoodIn wsX10_least (va_wsS RX10 129 yX10_isDay wsX10_isDay) := goodIn_app (goodIn_of _ (by decide +kernel)) ggX10_least_X10_isDay
set_option maxRecDepth 20000 in
theorem ggX10_least_X10_isWithin : GoodIn wsX10_least wsX10_isWithin := goodIn_r _ [14] (by decide +kernel) (by decide +kernel)
set_option maxRecDepth 20000 in
theorem gX10_least_X10_isWithin : GoodIn wsX10_least (va_wsS RX10 54 yX10_isWithin wsX10_isWithin) := goodIn_app (goodIn_of _ (by decide +kernel)) ggX10_least_X10_isWithin
set_option maxRecDepth 20000 in
theorem ggX10_least_X5_isBornBy : GoodIn wsX10_least wsX5_isBornBy := goodIn_r _ [19, 20, 132, 133, 134] (by decide +kernel) (by decide +kernel)
set_option maxRecDepth 20000 in
theorem gX10_least_X5_isBornBy : GoodIn wsX10_least (wsV RX10 133 RX5 yX5_isBornBy wsX5_isBornBy) := goodIn_app (goodIn_of _ (by decide +kernel)) ggX10_least_X5_isBornBy
set_option maxRecDepth 20000 in
theorem ggX10_least_X8_leastKey : GoodIn wsX10_least wsX8_leastKey := goodIn_r _ [24, 25, 26, 27, 28, 29, 5, 30, 31, 32, 33, 34, 35, 36, 37, 38, 39, 40, 41, 42, 43, 44, 45, 46, 47, 48, 49, 50, 51, 52, 53, 54, 55, 56, 18, 57, 58, 59, 60, 61, 62, 63, 64, 65, 66, 20, 67, 68, 69, 70, 71, 72, 73, 74, 75, 76, 77, 78, 79, 80, 81, 82, 83, 84, 85, 86, 87, 88, 89, 90, 91, 92, 93, 94, 95, 96, 97, 98, 99, 100, 101, 102, 103, 104, 105, 106, 107, 108, 109, 110, 111, 112, 113, 132, 133, 134, 126, 127, 128, 129, 130, 131, 135, 136, 137, 138, 139, 140, 141, 142, 143] (by decide +kernel) (by decide +kernel)
set_option maxRecDepth 20000 in
theorem gX10_least_X8_leastKey : GoodIn wsX10_least (wsV RX10 166 RX8 yX8_leastKey wsX8_leastKey) := goodIn_app (goodIn_of _ (by decide +kernel)) ggX10_least_X8_leastKey
set_option maxRecDepth 20000 in
theorem ggX10_least_X8_penceOf : GoodIn wsX10_least wsX8_penceOf := goodIn_r _ [116] (by decide +kernel) (by decide +kernel)
set_option maxRecDepth 20000 in
theorem gX10_least_X8_penceOf : GoodIn wsX10_least (va_wsS RX10 170 yX8_penceOf wsX8_penceOf) := goodIn_app (goodIn_of _ (by decide +kernel)) ggX10_least_X8_penceOf
set_option maxRecDepth 20000 in
theorem ggX10_least_X8_spotOf : GoodIn wsX10_least wsX8_spotOf := goodIn_r _ [119, 111, 112, 5, 113] (by decide +kernel) (by decide +kernel)
set_option maxRecDepth 20000 in
theorem gX10_least_X8_spotOf : GoodIn wsX10_least (va_wsS RX10 173 yX8_spotOf wsX8_spotOf) := goodIn_app (goodIn_of _ (by decide +kernel)) ggX10_least_X8_spotOf
theorem dX10_least_0 : decode cX10_least 0 = .ok (.aload_n 0, 1) := by decide +kernel
theorem dX10_least_1 : decode cX10_least 1 = .ok (.getfield 20, 3) := by decide +kernel
theorem dX10_least_4 : decode cX10_least 4 = .ok (.iload_n 1, 1) := by decide +kernel
theorem dX10_least_5 : decode cX10_least 5 = .ok (.invokevirtual 104, 3) := by decide +kernel
theorem dX10_least_8 : decode cX10_least 8 = .ok (.astore 4, 2) := by decide +kernel
theorem dX10_least_10 : decode cX10_least 10 = .ok (.aload 4, 2) := by decide +kernel
theorem dX10_least_12 : decode cX10_least 12 = .ok (.ifnonnull 5, 3) := by decide +kernel
theorem dX10_least_15 : decode cX10_least 15 = .ok (.iconst (-1), 1) := by decide +kernel
theorem dX10_least_16 : decode cX10_least 16 = .ok (.ireturn, 1) := by decide +kernel
theorem dX10_least_17 : decode cX10_least 17 = .ok (.iload_n 2, 1) := by decide +kernel
theorem dX10_least_18 : decode cX10_least 18 = .ok (.invokestatic 129, 3) := by decide +kernel
theorem dX10_least_21 : decode cX10_least 21 = .ok (.ifCond .eq 12, 3) := by decide +kernel
theorem dX10_least_24 : decode cX10_least 24 = .ok (.iload_n 3, 1) := by decide +kernel
theorem dX10_least_25 : decode cX10_least 25 = .ok (.iconst (-1), 1) := by decide +kernel
theorem dX10_least_26 : decode cX10_least 26 = .ok (.iconst 2, 1) := by decide +kernel
theorem dX10_least_27 : decode cX10_least 27 = .ok (.invokestatic 54, 3) := by decide +kernel
theorem dX10_least_30 : decode cX10_least 30 = .ok (.ifCond .ne 6, 3) := by decide +kernel
theorem dX10_least_33 : decode cX10_least 33 = .ok (.bipush (-2), 2) := by decide +kernel
theorem dX10_least_35 : decode cX10_least 35 = .ok (.ireturn, 1) := by decide +kernel
theorem dX10_least_36 : decode cX10_least 36 = .ok (.aload 4, 2) := by decide +kernel
theorem dX10_least_38 : decode cX10_least 38 = .ok (.iload_n 2, 1) := by decide +kernel
theorem dX10_least_39 : decode cX10_least 39 = .ok (.invokevirtual 133, 3) := by decide +kernel
theorem dX10_least_42 : decode cX10_least 42 = .ok (.ifCond .ne 6, 3) := by decide +kernel
theorem dX10_least_45 : decode cX10_least 45 = .ok (.bipush (-9), 2) := by decide +kernel
theorem dX10_least_47 : decode cX10_least 47 = .ok (.ireturn, 1) := by decide +kernel
theorem dX10_least_48 : decode cX10_least 48 = .ok (.aload_n 0, 1) := by decide +kernel
theorem dX10_least_49 : decode cX10_least 49 = .ok (.getfield 20, 3) := by decide +kernel
theorem dX10_least_52 : decode cX10_least 52 = .ok (.aload 4, 2) := by decide +kernel
theorem dX10_least_54 : decode cX10_least 54 = .ok (.iload_n 2, 1) := by decide +kernel
theorem dX10_least_55 : decode cX10_least 55 = .ok (.iconst (-1), 1) := by decide +kernel
theorem dX10_least_56 : decode cX10_least 56 = .ok (.invokevirtual 166, 3) := by decide +kernel
theorem dX10_least_59 : decode cX10_least 59 = .ok (.istore 5, 2) := by decide +kernel
theorem dX10_least_61 : decode cX10_least 61 = .ok (.iload_n 3, 1) := by decide +kernel
theorem dX10_least_62 : decode cX10_least 62 = .ok (.ifCond .ge 11, 3) := by decide +kernel
theorem dX10_least_65 : decode cX10_least 65 = .ok (.iload 5, 2) := by decide +kernel
theorem dX10_least_67 : decode cX10_least 67 = .ok (.invokestatic 170, 3) := by decide +kernel
theorem dX10_least_70 : decode cX10_least 70 = .ok (.goto 9, 3) := by decide +kernel
theorem dX10_least_73 : decode cX10_least 73 = .ok (.iload 5, 2) := by decide +kernel
theorem dX10_least_75 : decode cX10_least 75 = .ok (.iload_n 3, 1) := by decide +kernel
theorem dX10_least_76 : decode cX10_least 76 = .ok (.invokestatic 173, 3) := by decide +kernel
theorem dX10_least_79 : decode cX10_least 79 = .ok (.ireturn, 1) := by decide +kernel
set_option maxRecDepth 20000 in
theorem ggX10_free_X8_storyAt : GoodIn wsX10_free wsX8_storyAt := goodIn_r _ [6, 7, 112, 113, 114, 115, 116, 117] (by decide +kernel) (by decide +kernel)
set_option maxRecDepth 20000 in
theorem gX10_free_X8_storyAt : GoodIn wsX10_free (wsV RX10 104 RX8 yX8_storyAt wsX8_storyAt) := goodIn_app (goodIn_of _ (by decide +kernel)) ggX10_free_X8_storyAt
set_option maxRecDepth 20000 in
theorem ggX10_free_X8_freeDay : GoodIn wsX10_free wsX8_freeDay := goodIn_r _ [11, 12, 13, 14, 15, 16, 5, 17, 18, 19, 20, 21, 22, 23, 24, 25, 26, 27, 28, 29, 30, 31, 32, 33, 34, 35, 36, 37, 38, 39, 40, 41, 42, 43, 44, 45, 46, 47, 48, 49, 50, 51, 52, 53, 54, 55, 56, 57, 58, 59, 60, 61, 62, 63, 64, 65, 66, 67, 68, 69, 70, 71, 72, 73, 74, 75, 76, 77, 78, 79, 80, 81, 82, 83, 84, 85, 86, 87, 88, 89, 90, 91, 92, 93, 94, 95, 96, 97, 98, 99, 100, 101, 102, 103, 104, 105, 118, 119, 120, 112, 113, 114, 115, 116, 117, 121, 122, 123, 124, 125, 126, 127, 128, 129] (by decide +kernel) (by decide +kernel)
set_option maxRecDepth 20000 in
theorem gX10_free_X8_freeDay : GoodIn wsX10_free (wsV RX10 177 RX8 yX8_freeDay wsX8_freeDay) := goodIn_app (goodIn_of _ (by decide +kernel)) ggX10_free_X8_freeDay
theorem dX10_free_0 : decode cX10_free 0 = .ok (.aload_n 0, 1) := by decide +kernel
theorem dX10_free_1 : decode cX10_free 1 = .ok (.getfield 20, 3) := by decide +kernel
theorem dX10_free_4 : decode cX10_free 4 = .ok (.iload_n 1, 1) := by decide +kernel
theorem dX10_free_5 : decode cX10_free 5 = .ok (.invokevirtual 104, 3) := by decide +kernel
theorem dX10_free_8 : decode cX10_free 8 = .ok (.astore_n 2, 1) := by decide +kernel
theorem dX10_free_9 : decode cX10_free 9 = .ok (.aload_n 2, 1) := by decide +kernel
theorem dX10_free_10 : decode cX10_free 10 = .ok (.ifnonnull 7, 3) := by decide +kernel
theorem dX10_free_13 : decode cX10_free 13 = .ok (.iconst (-1), 1) := by decide +kernel
theorem dX10_free_14 : decode cX10_free 14 = .ok (.goto 11, 3) := by decide +kernel
theorem dX10_free_17 : decode cX10_free 17 = .ok (.aload_n 0, 1) := by decide +kernel
theorem dX10_free_18 : decode cX10_free 18 = .ok (.getfield 20, 3) := by decide +kernel
theorem dX10_free_21 : decode cX10_free 21 = .ok (.aload_n 2, 1) := by decide +kernel
theorem dX10_free_22 : decode cX10_free 22 = .ok (.invokevirtual 177, 3) := by decide +kernel
theorem dX10_free_25 : decode cX10_free 25 = .ok (.ireturn, 1) := by decide +kernel
set_option maxRecDepth 20000 in
theorem ggX10_worth_X8_gateAt : GoodIn wsX10_worth wsX8_gateAt := goodIn_r _ [7, 8, 128, 129, 130, 131, 132, 133] (by decide +kernel) (by decide +kernel)
set_option maxRecDepth 20000 in
theorem gX10_worth_X8_gateAt : GoodIn wsX10_worth (wsV RX10 89 RX8 yX8_gateAt wsX8_gateAt) := goodIn_app (goodIn_of _ (by decide +kernel)) ggX10_worth_X8_gateAt
set_option maxRecDepth 20000 in
theorem ggX10_worth_X8_storyAt : GoodIn wsX10_worth wsX8_storyAt := goodIn_r _ [12, 13, 128, 129, 130, 131, 132, 133] (by decide +kernel) (by decide +kernel)
set_option maxRecDepth 20000 in
theorem gX10_worth_X8_storyAt : GoodIn wsX10_worth (wsV RX10 104 RX8 yX8_storyAt wsX8_storyAt) := goodIn_app (goodIn_of _ (by decide +kernel)) ggX10_worth_X8_storyAt
set_option maxRecDepth 20000 in
theorem ggX10_worth_X10_isDay : GoodIn wsX10_worth wsX10_isDay := goodIn_r _ [17, 18, 19, 16, 20] (by decide +kernel) (by decide +kernel)
set_option maxRecDepth 20000 in
theorem gX10_worth_X10_isDay : GoodIn wsX10_worth (va_wsS RX10 129 yX10_isDay wsX10_isDay) := goodIn_app (goodIn_of _ (by decide +kernel)) ggX10_worth_X10_isDay
set_option maxRecDepth 20000 in
theorem ggX10_worth_X5_isBornBy : GoodIn wsX10_worth wsX5_isBornBy := goodIn_r _ [25, 26, 134, 135, 136] (by decide +kernel) (by decide +kernel)
set_option maxRecDepth 20000 in
theorem gX10_worth_X5_isBornBy : GoodIn wsX10_worth (wsV RX10 133 RX5 yX5_isBornBy wsX5_isBornBy) := goodIn_app (goodIn_of _ (by decide +kernel)) ggX10_worth_X5_isBornBy
set_option maxRecDepth 20000 in
theorem ggX10_worth_X8_leastKey : GoodIn wsX10_worth wsX8_leastKey := goodIn_r _ [30, 31, 32, 33, 34, 35, 6, 36, 37, 38, 39, 40, 41, 42, 43, 44, 45, 8, 46, 47, 48, 49, 50, 51, 52, 53, 54, 55, 56, 57, 58, 59, 60, 61, 24, 62, 63, 64, 65, 66, 67, 68, 69, 70, 71, 26, 72, 73, 74, 75, 76, 77, 78, 79, 80, 81, 82, 83, 84, 85, 86, 87, 88, 89, 90, 91, 92, 93, 94, 95, 96, 97, 98, 99, 100, 101, 102, 103, 104, 105, 106, 107, 108, 109, 110, 111, 112, 113, 114, 115, 116, 117, 118, 134, 135, 136, 128, 129, 130, 131, 132, 133, 137, 138, 139, 140, 141, 142, 143, 144, 145] (by decide +kernel) (by decide +kernel)
set_option maxRecDepth 20000 in
theorem gX10_worth_X8_leastKey : GoodIn wsX10_worth (wsV RX10 166 RX8 yX8_leastKey wsX8_leastKey) := goodIn_app (goodIn_of _ (by decide +kernel)) ggX10_worth_X8_leastKey
set_option maxRecDepth 20000 in
theorem ggX10_worth_X8_penceOf : GoodIn wsX10_worth wsX8_penceOf := goodIn_r _ [121] (by decide +kernel) (by decide +kernel)
set_option maxRecDepth 20000 in
theorem gX10_worth_X8_penceOf : GoodIn wsX10_worth (va_wsS RX10 170 yX8_penceOf wsX8_penceOf) := goodIn_app (goodIn_of _ (by decide +kernel)) ggX10_worth_X8_penceOf
theorem dX10_worth_0 : decode cX10_worth 0 = .ok (.aload_n 0, 1) := by decide +kernel
theorem dX10_worth_1 : decode cX10_worth 1 = .ok (.getfield 20, 3) := by decide +kernel
theorem dX10_worth_4 : decode cX10_worth 4 = .ok (.iload_n 1, 1) := by decide +kernel
theorem dX10_worth_5 : decode cX10_worth 5 = .ok (.invokevirtual 89, 3) := by decide +kernel
theorem dX10_worth_8 : decode cX10_worth 8 = .ok (.astore 4, 2) := by decide +kernel
theorem dX10_worth_10 : decode cX10_worth 10 = .ok (.aload_n 0, 1) := by decide +kernel
theorem dX10_worth_11 : decode cX10_worth 11 = .ok (.getfield 20, 3) := by decide +kernel
theorem dX10_worth_14 : decode cX10_worth 14 = .ok (.iload_n 2, 1) := by decide +kernel
theorem dX10_worth_15 : decode cX10_worth 15 = .ok (.invokevirtual 104, 3) := by decide +kernel
theorem dX10_worth_18 : decode cX10_worth 18 = .ok (.astore 5, 2) := by decide +kernel
theorem dX10_worth_20 : decode cX10_worth 20 = .ok (.aload 4, 2) := by decide +kernel
theorem dX10_worth_22 : decode cX10_worth 22 = .ok (.ifnull 8, 3) := by decide +kernel
theorem dX10_worth_25 : decode cX10_worth 25 = .ok (.aload 5, 2) := by decide +kernel
theorem dX10_worth_27 : decode cX10_worth 27 = .ok (.ifnonnull 5, 3) := by decide +kernel
theorem dX10_worth_30 : decode cX10_worth 30 = .ok (.iconst (-1), 1) := by decide +kernel
theorem dX10_worth_31 : decode cX10_worth 31 = .ok (.ireturn, 1) := by decide +kernel
theorem dX10_worth_32 : decode cX10_worth 32 = .ok (.iload_n 3, 1) := by decide +kernel
theorem dX10_worth_33 : decode cX10_worth 33 = .ok (.invokestatic 129, 3) := by decide +kernel
theorem dX10_worth_36 : decode cX10_worth 36 = .ok (.ifCond .ne 6, 3) := by decide +kernel
theorem dX10_worth_39 : decode cX10_worth 39 = .ok (.bipush (-2), 2) := by decide +kernel
theorem dX10_worth_41 : decode cX10_worth 41 = .ok (.ireturn, 1) := by decide +kernel
theorem dX10_worth_42 : decode cX10_worth 42 = .ok (.aload_n 0, 1) := by decide +kernel
theorem dX10_worth_43 : decode cX10_worth 43 = .ok (.getfield 20, 3) := by decide +kernel
theorem dX10_worth_46 : decode cX10_worth 46 = .ok (.getfield 181, 3) := by decide +kernel
theorem dX10_worth_49 : decode cX10_worth 49 = .ok (.arraylength, 1) := by decide +kernel
theorem dX10_worth_50 : decode cX10_worth 50 = .ok (.iconst 2, 1) := by decide +kernel
theorem dX10_worth_51 : decode cX10_worth 51 = .ok (.if_icmp .lt 12, 3) := by decide +kernel
theorem dX10_worth_54 : decode cX10_worth 54 = .ok (.aload 5, 2) := by decide +kernel
theorem dX10_worth_56 : decode cX10_worth 56 = .ok (.iload_n 3, 1) := by decide +kernel
theorem dX10_worth_57 : decode cX10_worth 57 = .ok (.invokevirtual 133, 3) := by decide +kernel
theorem dX10_worth_60 : decode cX10_worth 60 = .ok (.ifCond .ne 6, 3) := by decide +kernel
theorem dX10_worth_63 : decode cX10_worth 63 = .ok (.bipush (-9), 2) := by decide +kernel
theorem dX10_worth_65 : decode cX10_worth 65 = .ok (.ireturn, 1) := by decide +kernel
theorem dX10_worth_66 : decode cX10_worth 66 = .ok (.aload_n 0, 1) := by decide +kernel
theorem dX10_worth_67 : decode cX10_worth 67 = .ok (.getfield 20, 3) := by decide +kernel
theorem dX10_worth_70 : decode cX10_worth 70 = .ok (.aload 5, 2) := by decide +kernel
theorem dX10_worth_72 : decode cX10_worth 72 = .ok (.iload_n 3, 1) := by decide +kernel
theorem dX10_worth_73 : decode cX10_worth 73 = .ok (.iload_n 1, 1) := by decide +kernel
theorem dX10_worth_74 : decode cX10_worth 74 = .ok (.invokevirtual 166, 3) := by decide +kernel
theorem dX10_worth_77 : decode cX10_worth 77 = .ok (.invokestatic 170, 3) := by decide +kernel
theorem dX10_worth_80 : decode cX10_worth 80 = .ok (.istore 6, 2) := by decide +kernel
theorem dX10_worth_82 : decode cX10_worth 82 = .ok (.iload 6, 2) := by decide +kernel
theorem dX10_worth_84 : decode cX10_worth 84 = .ok (.aload_n 0, 1) := by decide +kernel
theorem dX10_worth_85 : decode cX10_worth 85 = .ok (.getfield 20, 3) := by decide +kernel
theorem dX10_worth_88 : decode cX10_worth 88 = .ok (.aload 5, 2) := by decide +kernel
theorem dX10_worth_90 : decode cX10_worth 90 = .ok (.iload_n 3, 1) := by decide +kernel
theorem dX10_worth_91 : decode cX10_worth 91 = .ok (.iconst (-1), 1) := by decide +kernel
theorem dX10_worth_92 : decode cX10_worth 92 = .ok (.invokevirtual 166, 3) := by decide +kernel
theorem dX10_worth_95 : decode cX10_worth 95 = .ok (.invokestatic 170, 3) := by decide +kernel
theorem dX10_worth_98 : decode cX10_worth 98 = .ok (.isub, 1) := by decide +kernel
theorem dX10_worth_99 : decode cX10_worth 99 = .ok (.ireturn, 1) := by decide +kernel
set_option maxRecDepth 20000 in
theorem ggX10_reading_X8_gateAt : GoodIn wsX10_reading wsX8_gateAt := goodIn_r _ [7, 8, 27, 28, 29, 30, 31, 32] (by decide +kernel) (by decide +kernel)
set_option maxRecDepth 20000 in
theorem gX10_reading_X8_gateAt : GoodIn wsX10_reading (wsV RX10 89 RX8 yX8_gateAt wsX8_gateAt) := goodIn_app (goodIn_of _ (by decide +kernel)) ggX10_reading_X8_gateAt
set_option maxRecDepth 20000 in
theorem ggX10_reading_X10_isWithin : GoodIn wsX10_reading wsX10_isWithin := goodIn_r _ [12] (by decide +kernel) (by decide +kernel)
set_option maxRecDepth 20000 in
theorem gX10_reading_X10_isWithin : GoodIn wsX10_reading (va_wsS RX10 54 yX10_isWithin wsX10_isWithin) := goodIn_app (goodIn_of _ (by decide +kernel)) ggX10_reading_X10_isWithin
set_option maxRecDepth 20000 in
theorem ggX10_reading_X2_note : GoodIn wsX10_reading wsX2_note := goodIn_r _ [17, 18, 19, 20, 33, 34, 35] (by decide +kernel) (by decide +kernel)
set_option maxRecDepth 20000 in
theorem gX10_reading_X2_note : GoodIn wsX10_reading (wsV RX10 185 RX2 yX2_note wsX2_note) := goodIn_app (goodIn_of _ (by decide +kernel)) ggX10_reading_X2_note
theorem dX10_reading_0 : decode cX10_reading 0 = .ok (.aload_n 0, 1) := by decide +kernel
theorem dX10_reading_1 : decode cX10_reading 1 = .ok (.getfield 20, 3) := by decide +kernel
theorem dX10_reading_4 : decode cX10_reading 4 = .ok (.iload_n 1, 1) := by decide +kernel
theorem dX10_reading_5 : decode cX10_reading 5 = .ok (.invokevirtual 89, 3) := by decide +kernel
theorem dX10_reading_8 : decode cX10_reading 8 = .ok (.ifnonnull 5, 3) := by decide +kernel
theorem dX10_reading_11 : decode cX10_reading 11 = .ok (.iconst (-1), 1) := by decide +kernel
theorem dX10_reading_12 : decode cX10_reading 12 = .ok (.ireturn, 1) := by decide +kernel
theorem dX10_reading_13 : decode cX10_reading 13 = .ok (.iload_n 2, 1) := by decide +kernel
theorem dX10_reading_14 : decode cX10_reading 14 = .ok (.iconst 0, 1) := by decide +kernel
theorem dX10_reading_15 : decode cX10_reading 15 = .ok (.sipush 9999, 3) := by decide +kernel
theorem dX10_reading_18 : decode cX10_reading 18 = .ok (.invokestatic 54, 3) := by decide +kernel
theorem dX10_reading_21 : decode cX10_reading 21 = .ok (.ifCond .ne 6, 3) := by decide +kernel
theorem dX10_reading_24 : decode cX10_reading 24 = .ok (.bipush (-2), 2) := by decide +kernel
theorem dX10_reading_26 : decode cX10_reading 26 = .ok (.ireturn, 1) := by decide +kernel
theorem dX10_reading_27 : decode cX10_reading 27 = .ok (.aload_n 0, 1) := by decide +kernel
theorem dX10_reading_28 : decode cX10_reading 28 = .ok (.getfield 34, 3) := by decide +kernel
theorem dX10_reading_31 : decode cX10_reading 31 = .ok (.iload_n 1, 1) := by decide +kernel
theorem dX10_reading_32 : decode cX10_reading 32 = .ok (.iload_n 2, 1) := by decide +kernel
theorem dX10_reading_33 : decode cX10_reading 33 = .ok (.invokevirtual 185, 3) := by decide +kernel
theorem dX10_reading_36 : decode cX10_reading 36 = .ok (.ireturn, 1) := by decide +kernel
set_option maxRecDepth 20000 in
theorem ggX10_back_X10_isWithin : GoodIn wsX10_back wsX10_isWithin := goodIn_r _ [6] (by decide +kernel) (by decide +kernel)
set_option maxRecDepth 20000 in
theorem gX10_back_X10_isWithin : GoodIn wsX10_back (va_wsS RX10 54 yX10_isWithin wsX10_isWithin) := goodIn_app (goodIn_of _ (by decide +kernel)) ggX10_back_X10_isWithin
theorem dX10_back_0 : decode cX10_back 0 = .ok (.iload_n 1, 1) := by decide +kernel
theorem dX10_back_1 : decode cX10_back 1 = .ok (.iconst 0, 1) := by decide +kernel
theorem dX10_back_2 : decode cX10_back 2 = .ok (.aload_n 0, 1) := by decide +kernel
theorem dX10_back_3 : decode cX10_back 3 = .ok (.getfield 34, 3) := by decide +kernel
theorem dX10_back_6 : decode cX10_back 6 = .ok (.getfield 82, 3) := by decide +kernel
theorem dX10_back_9 : decode cX10_back 9 = .ok (.invokestatic 54, 3) := by decide +kernel
theorem dX10_back_12 : decode cX10_back 12 = .ok (.ifCond .ne 6, 3) := by decide +kernel
theorem dX10_back_15 : decode cX10_back 15 = .ok (.bipush (-2), 2) := by decide +kernel
theorem dX10_back_17 : decode cX10_back 17 = .ok (.ireturn, 1) := by decide +kernel
theorem dX10_back_18 : decode cX10_back 18 = .ok (.aload_n 0, 1) := by decide +kernel
theorem dX10_back_19 : decode cX10_back 19 = .ok (.getfield 34, 3) := by decide +kernel
theorem dX10_back_22 : decode cX10_back 22 = .ok (.dup, 1) := by decide +kernel
theorem dX10_back_23 : decode cX10_back 23 = .ok (.getfield 82, 3) := by decide +kernel
theorem dX10_back_26 : decode cX10_back 26 = .ok (.iload_n 1, 1) := by decide +kernel
theorem dX10_back_27 : decode cX10_back 27 = .ok (.isub, 1) := by decide +kernel
theorem dX10_back_28 : decode cX10_back 28 = .ok (.putfield 82, 3) := by decide +kernel
theorem dX10_back_31 : decode cX10_back 31 = .ok (.aload_n 0, 1) := by decide +kernel
theorem dX10_back_32 : decode cX10_back 32 = .ok (.getfield 34, 3) := by decide +kernel
theorem dX10_back_35 : decode cX10_back 35 = .ok (.getfield 82, 3) := by decide +kernel
theorem dX10_back_38 : decode cX10_back 38 = .ok (.ireturn, 1) := by decide +kernel
set_option maxRecDepth 20000 in
theorem ggX10_sizes_X8_storyAt : GoodIn wsX10_sizes wsX8_storyAt := goodIn_r _ [8, 9, 186, 187, 188, 189, 190, 191] (by decide +kernel) (by decide +kernel)
set_option maxRecDepth 20000 in
theorem gX10_sizes_X8_storyAt : GoodIn wsX10_sizes (wsV RX10 104 RX8 yX8_storyAt wsX8_storyAt) := goodIn_app (goodIn_of _ (by decide +kernel)) ggX10_sizes_X8_storyAt
set_option maxRecDepth 20000 in
theorem ggX10_sizes_X10_readRoute : GoodIn wsX10_sizes wsX10_readRoute := goodIn_r _ [14, 2, 15, 16, 17, 18, 13, 19, 20, 21, 22, 23, 24, 25, 26, 27, 28, 29, 30, 31, 32, 33, 34, 35, 36, 37, 38, 39, 40, 41, 42, 1, 43, 44, 45, 7, 46, 9, 47, 48, 49, 50, 51, 52, 53, 54, 55, 56, 57, 58, 59, 60, 61, 62, 63, 64, 65, 66, 67, 68, 4, 5, 6, 8, 69, 70, 71, 72, 73, 74, 75, 76, 77, 78, 79, 80, 81, 82, 83, 84, 85, 86, 87, 88, 89, 90, 91, 92, 93, 94, 95, 96, 97, 98, 177, 178, 179, 180, 181, 182, 192, 193, 194, 186, 187, 188, 189, 190, 191, 195, 196, 197, 198, 199, 200, 201, 202, 183, 184, 185] (by decide +kernel) (by decide +kernel)
set_option maxRecDepth 20000 in
theorem gX10_sizes_X10_readRoute : GoodIn wsX10_sizes (wsV RX10 146 RX10 yX10_readRoute wsX10_readRoute) := goodIn_app (goodIn_of _ (by decide +kernel)) ggX10_sizes_X10_readRoute
set_option maxRecDepth 20000 in
theorem ggX10_sizes_X10_bitIfSo : GoodIn wsX10_sizes wsX10_bitIfSo := goodIn_r _ [102, 15, 103, 2, 104, 105, 106, 107, 108, 109, 110, 7, 111, 112, 113, 114, 115, 116, 117, 118, 119, 57, 58, 59, 120, 70, 71, 72, 73, 121, 5, 6, 8, 9, 122, 123, 124, 125, 126, 127, 128, 129, 130, 131, 80, 132, 133, 134, 135, 136, 137, 138, 139, 140, 141, 82, 142, 89, 90, 91, 143, 144, 145, 146, 147, 148, 149, 150, 151, 152, 153, 154, 155, 156, 157, 158, 159, 160, 161, 162, 163, 164, 165, 166, 167, 168, 169, 170, 171, 172, 173, 174, 175, 176, 22, 13, 23, 177, 178, 179, 180, 181, 182, 195, 196, 197, 198, 199, 200, 201, 202, 203, 204, 205, 186, 187, 188, 189, 190, 191, 206, 207, 208, 209, 210, 211, 212, 213, 214, 183, 184, 185] (by decide +kernel) (by decide +kernel)
set_option maxRecDepth 20000 in
theorem gX10_sizes_X10_bitIfSo : GoodIn wsX10_sizes (wsV RX10 188 RX10 yX10_bitIfSo wsX10_bitIfSo) := goodIn_app (goodIn_of _ (by decide +kernel)) ggX10_sizes_X10_bitIfSo
theorem dX10_sizes_0 : decode cX10_sizes 0 = .ok (.aload_n 0, 1) := by decide +kernel
theorem dX10_sizes_1 : decode cX10_sizes 1 = .ok (.iconst 0, 1) := by decide +kernel
theorem dX10_sizes_2 : decode cX10_sizes 2 = .ok (.putfield 45, 3) := by decide +kernel
theorem dX10_sizes_5 : decode cX10_sizes 5 = .ok (.aload_n 0, 1) := by decide +kernel
theorem dX10_sizes_6 : decode cX10_sizes 6 = .ok (.getfield 20, 3) := by decide +kernel
theorem dX10_sizes_9 : decode cX10_sizes 9 = .ok (.iload_n 1, 1) := by decide +kernel
theorem dX10_sizes_10 : decode cX10_sizes 10 = .ok (.invokevirtual 104, 3) := by decide +kernel
theorem dX10_sizes_13 : decode cX10_sizes 13 = .ok (.astore 6, 2) := by decide +kernel
theorem dX10_sizes_15 : decode cX10_sizes 15 = .ok (.aload 6, 2) := by decide +kernel
theorem dX10_sizes_17 : decode cX10_sizes 17 = .ok (.ifnonnull 5, 3) := by decide +kernel
theorem dX10_sizes_20 : decode cX10_sizes 20 = .ok (.iconst (-1), 1) := by decide +kernel
theorem dX10_sizes_21 : decode cX10_sizes 21 = .ok (.ireturn, 1) := by decide +kernel
theorem dX10_sizes_22 : decode cX10_sizes 22 = .ok (.aload_n 0, 1) := by decide +kernel
theorem dX10_sizes_23 : decode cX10_sizes 23 = .ok (.iload_n 2, 1) := by decide +kernel
theorem dX10_sizes_24 : decode cX10_sizes 24 = .ok (.iload_n 3, 1) := by decide +kernel
theorem dX10_sizes_25 : decode cX10_sizes 25 = .ok (.iload 4, 2) := by decide +kernel
theorem dX10_sizes_27 : decode cX10_sizes 27 = .ok (.iload 5, 2) := by decide +kernel
theorem dX10_sizes_29 : decode cX10_sizes 29 = .ok (.invokevirtual 146, 3) := by decide +kernel
theorem dX10_sizes_32 : decode cX10_sizes 32 = .ok (.istore 7, 2) := by decide +kernel
theorem dX10_sizes_34 : decode cX10_sizes 34 = .ok (.iload 7, 2) := by decide +kernel
theorem dX10_sizes_36 : decode cX10_sizes 36 = .ok (.ifCond .ge 6, 3) := by decide +kernel
theorem dX10_sizes_39 : decode cX10_sizes 39 = .ok (.iload 7, 2) := by decide +kernel
theorem dX10_sizes_41 : decode cX10_sizes 41 = .ok (.ireturn, 1) := by decide +kernel
theorem dX10_sizes_42 : decode cX10_sizes 42 = .ok (.aload 6, 2) := by decide +kernel
theorem dX10_sizes_44 : decode cX10_sizes 44 = .ok (.getfield 108, 3) := by decide +kernel
theorem dX10_sizes_47 : decode cX10_sizes 47 = .ok (.istore 8, 2) := by decide +kernel
theorem dX10_sizes_49 : decode cX10_sizes 49 = .ok (.iconst 0, 1) := by decide +kernel
theorem dX10_sizes_50 : decode cX10_sizes 50 = .ok (.istore 9, 2) := by decide +kernel
theorem dX10_sizes_52 : decode cX10_sizes 52 = .ok (.iconst 1, 1) := by decide +kernel
theorem dX10_sizes_53 : decode cX10_sizes 53 = .ok (.istore 10, 2) := by decide +kernel
theorem dX10_sizes_55 : decode cX10_sizes 55 = .ok (.iload 10, 2) := by decide +kernel
theorem dX10_sizes_57 : decode cX10_sizes 57 = .ok (.bipush 9, 2) := by decide +kernel
theorem dX10_sizes_59 : decode cX10_sizes 59 = .ok (.if_icmp .gt 27, 3) := by decide +kernel
theorem dX10_sizes_62 : decode cX10_sizes 62 = .ok (.aload 6, 2) := by decide +kernel
theorem dX10_sizes_64 : decode cX10_sizes 64 = .ok (.iload 10, 2) := by decide +kernel
theorem dX10_sizes_66 : decode cX10_sizes 66 = .ok (.putfield 108, 3) := by decide +kernel
theorem dX10_sizes_69 : decode cX10_sizes 69 = .ok (.iload 9, 2) := by decide +kernel
theorem dX10_sizes_71 : decode cX10_sizes 71 = .ok (.aload_n 0, 1) := by decide +kernel
theorem dX10_sizes_72 : decode cX10_sizes 72 = .ok (.iload 10, 2) := by decide +kernel
theorem dX10_sizes_74 : decode cX10_sizes 74 = .ok (.invokevirtual 188, 3) := by decide +kernel
theorem dX10_sizes_77 : decode cX10_sizes 77 = .ok (.ior, 1) := by decide +kernel
theorem dX10_sizes_78 : decode cX10_sizes 78 = .ok (.istore 9, 2) := by decide +kernel
theorem dX10_sizes_80 : decode cX10_sizes 80 = .ok (.iinc 10 1, 3) := by decide +kernel
theorem dX10_sizes_83 : decode cX10_sizes 83 = .ok (.goto (-28), 3) := by decide +kernel
theorem dX10_sizes_86 : decode cX10_sizes 86 = .ok (.aload 6, 2) := by decide +kernel
theorem dX10_sizes_88 : decode cX10_sizes 88 = .ok (.iload 8, 2) := by decide +kernel
theorem dX10_sizes_90 : decode cX10_sizes 90 = .ok (.putfield 108, 3) := by decide +kernel
theorem dX10_sizes_93 : decode cX10_sizes 93 = .ok (.iload 9, 2) := by decide +kernel
theorem dX10_sizes_95 : decode cX10_sizes 95 = .ok (.ireturn, 1) := by decide +kernel
set_option maxRecDepth 20000 in
theorem ggX10_persons_X8_storyAt : GoodIn wsX10_persons wsX8_storyAt := goodIn_r _ [8, 9, 186, 187, 188, 189, 190, 191] (by decide +kernel) (by decide +kernel)
set_option maxRecDepth 20000 in
theorem gX10_persons_X8_storyAt : GoodIn wsX10_persons (wsV RX10 104 RX8 yX8_storyAt wsX8_storyAt) := goodIn_app (goodIn_of _ (by decide +kernel)) ggX10_persons_X8_storyAt
set_option maxRecDepth 20000 in
theorem ggX10_persons_X10_readRoute : GoodIn wsX10_persons wsX10_readRoute := goodIn_r _ [14, 2, 15, 16, 17, 18, 13, 19, 20, 21, 22, 23, 24, 25, 26, 27, 28, 29, 30, 31, 32, 33, 34, 35, 36, 37, 38, 39, 40, 41, 42, 1, 43, 44, 45, 7, 46, 9, 47, 48, 49, 50, 51, 52, 53, 54, 55, 56, 57, 58, 59, 60, 61, 62, 63, 64, 65, 66, 67, 68, 4, 5, 6, 8, 69, 70, 71, 72, 73, 74, 75, 76, 77, 78, 79, 80, 81, 82, 83, 84, 85, 86, 87, 88, 89, 90, 91, 92, 93, 94, 95, 96, 97, 98, 177, 178, 179, 180, 181, 182, 192, 193, 194, 186, 187, 188, 189, 190, 191, 195, 196, 197, 198, 199, 200, 201, 202, 183, 184, 185] (by decide +kernel) (by decide +kernel)
set_option maxRecDepth 20000 in
theorem gX10_persons_X10_readRoute : GoodIn wsX10_persons (wsV RX10 146 RX10 yX10_readRoute wsX10_readRoute) := goodIn_app (goodIn_of _ (by decide +kernel)) ggX10_persons_X10_readRoute
set_option maxRecDepth 20000 in
theorem ggX10_persons_X10_bitIfSo : GoodIn wsX10_persons wsX10_bitIfSo := goodIn_r _ [102, 15, 103, 2, 104, 105, 106, 107, 108, 109, 110, 7, 111, 112, 113, 114, 115, 116, 117, 118, 119, 57, 58, 59, 120, 70, 71, 72, 73, 121, 5, 6, 8, 9, 122, 123, 124, 125, 126, 127, 128, 129, 130, 131, 80, 132, 133, 134, 135, 136, 137, 138, 139, 140, 141, 82, 142, 89, 90, 91, 143, 144, 145, 146, 147, 148, 149, 150, 151, 152, 153, 154, 155, 156, 157, 158, 159, 160, 161, 162, 163, 164, 165, 166, 167, 168, 169, 170, 171, 172, 173, 174, 175, 176, 22, 13, 23, 177, 178, 179, 180, 181, 182, 195, 196, 197, 198, 199, 200, 201, 202, 203, 204, 205, 186, 187, 188, 189, 190, 191, 206, 207, 208, 209, 210, 211, 212, 213, 214, 183, 184, 185] (by decide +kernel) (by decide +kernel)
set_option maxRecDepth 20000 in
theorem gX10_persons_X10_bitIfSo : GoodIn wsX10_persons (wsV RX10 188 RX10 yX10_bitIfSo wsX10_bitIfSo) := goodIn_app (goodIn_of _ (by decide +kernel)) ggX10_persons_X10_bitIfSo
theorem dX10_persons_0 : decode cX10_persons 0 = .ok (.aload_n 0, 1) := by decide +kernel
theorem dX10_persons_1 : decode cX10_persons 1 = .ok (.iconst 0, 1) := by decide +kernel
theorem dX10_persons_2 : decode cX10_persons 2 = .ok (.putfield 45, 3) := by decide +kernel
theorem dX10_persons_5 : decode cX10_persons 5 = .ok (.aload_n 0, 1) := by decide +kernel
theorem dX10_persons_6 : decode cX10_persons 6 = .ok (.getfield 20, 3) := by decide +kernel
theorem dX10_persons_9 : decode cX10_persons 9 = .ok (.iload_n 1, 1) := by decide +kernel
theorem dX10_persons_10 : decode cX10_persons 10 = .ok (.invokevirtual 104, 3) := by decide +kernel
theorem dX10_persons_13 : decode cX10_persons 13 = .ok (.astore 6, 2) := by decide +kernel
theorem dX10_persons_15 : decode cX10_persons 15 = .ok (.aload 6, 2) := by decide +kernel
theorem dX10_persons_17 : decode cX10_persons 17 = .ok (.ifnonnull 5, 3) := by decide +kernel
theorem dX10_persons_20 : decode cX10_persons 20 = .ok (.iconst (-1), 1) := by decide +kernel
theorem dX10_persons_21 : decode cX10_persons 21 = .ok (.ireturn, 1) := by decide +kernel
theorem dX10_persons_22 : decode cX10_persons 22 = .ok (.aload_n 0, 1) := by decide +kernel
theorem dX10_persons_23 : decode cX10_persons 23 = .ok (.iload_n 2, 1) := by decide +kernel
theorem dX10_persons_24 : decode cX10_persons 24 = .ok (.iload_n 3, 1) := by decide +kernel
theorem dX10_persons_25 : decode cX10_persons 25 = .ok (.iload 4, 2) := by decide +kernel
theorem dX10_persons_27 : decode cX10_persons 27 = .ok (.iload 5, 2) := by decide +kernel
theorem dX10_persons_29 : decode cX10_persons 29 = .ok (.invokevirtual 146, 3) := by decide +kernel
theorem dX10_persons_32 : decode cX10_persons 32 = .ok (.istore 7, 2) := by decide +kernel
theorem dX10_persons_34 : decode cX10_persons 34 = .ok (.iload 7, 2) := by decide +kernel
theorem dX10_persons_36 : decode cX10_persons 36 = .ok (.ifCond .ge 6, 3) := by decide +kernel
theorem dX10_persons_39 : decode cX10_persons 39 = .ok (.iload 7, 2) := by decide +kernel
theorem dX10_persons_41 : decode cX10_persons 41 = .ok (.ireturn, 1) := by decide +kernel
theorem dX10_persons_42 : decode cX10_persons 42 = .ok (.aload 6, 2) := by decide +kernel
theorem dX10_persons_44 : decode cX10_persons 44 = .ok (.getfield 113, 3) := by decide +kernel
theorem dX10_persons_47 : decode cX10_persons 47 = .ok (.istore 8, 2) := by decide +kernel
theorem dX10_persons_49 : decode cX10_persons 49 = .ok (.iconst 0, 1) := by decide +kernel
theorem dX10_persons_50 : decode cX10_persons 50 = .ok (.istore 9, 2) := by decide +kernel
theorem dX10_persons_52 : decode cX10_persons 52 = .ok (.iconst 0, 1) := by decide +kernel
theorem dX10_persons_53 : decode cX10_persons 53 = .ok (.istore 10, 2) := by decide +kernel
theorem dX10_persons_55 : decode cX10_persons 55 = .ok (.iload 10, 2) := by decide +kernel
theorem dX10_persons_57 : decode cX10_persons 57 = .ok (.iconst 5, 1) := by decide +kernel
theorem dX10_persons_58 : decode cX10_persons 58 = .ok (.if_icmp .gt 27, 3) := by decide +kernel
theorem dX10_persons_61 : decode cX10_persons 61 = .ok (.aload 6, 2) := by decide +kernel
theorem dX10_persons_63 : decode cX10_persons 63 = .ok (.iload 10, 2) := by decide +kernel
theorem dX10_persons_65 : decode cX10_persons 65 = .ok (.putfield 113, 3) := by decide +kernel
theorem dX10_persons_68 : decode cX10_persons 68 = .ok (.iload 9, 2) := by decide +kernel
theorem dX10_persons_70 : decode cX10_persons 70 = .ok (.aload_n 0, 1) := by decide +kernel
theorem dX10_persons_71 : decode cX10_persons 71 = .ok (.iload 10, 2) := by decide +kernel
theorem dX10_persons_73 : decode cX10_persons 73 = .ok (.invokevirtual 188, 3) := by decide +kernel
theorem dX10_persons_76 : decode cX10_persons 76 = .ok (.ior, 1) := by decide +kernel
theorem dX10_persons_77 : decode cX10_persons 77 = .ok (.istore 9, 2) := by decide +kernel
theorem dX10_persons_79 : decode cX10_persons 79 = .ok (.iinc 10 1, 3) := by decide +kernel
theorem dX10_persons_82 : decode cX10_persons 82 = .ok (.goto (-27), 3) := by decide +kernel
theorem dX10_persons_85 : decode cX10_persons 85 = .ok (.aload 6, 2) := by decide +kernel
theorem dX10_persons_87 : decode cX10_persons 87 = .ok (.iload 8, 2) := by decide +kernel
theorem dX10_persons_89 : decode cX10_persons 89 = .ok (.putfield 113, 3) := by decide +kernel
theorem dX10_persons_92 : decode cX10_persons 92 = .ok (.iload 9, 2) := by decide +kernel
theorem dX10_persons_94 : decode cX10_persons 94 = .ok (.ireturn, 1) := by decide +kernel
set_option maxRecDepth 20000 in
theorem ggX10_kinds_X8_gateAt : GoodIn wsX10_kinds wsX8_gateAt := goodIn_r _ [9, 10, 222, 223, 224, 225, 226, 227] (by decide +kernel) (by decide +kernel)
set_option maxRecDepth 20000 in
theorem gX10_kinds_X8_gateAt : GoodIn wsX10_kinds (wsV RX10 89 RX8 yX8_gateAt wsX8_gateAt) := goodIn_app (goodIn_of _ (by decide +kernel)) ggX10_kinds_X8_gateAt
set_option maxRecDepth 20000 in
theorem ggX10_kinds_X10_readRoute : GoodIn wsX10_kinds wsX10_readRoute := goodIn_r _ [15, 2, 16, 17, 18, 19, 14, 20, 21, 22, 23, 24, 25, 26, 27, 28, 29, 30, 31, 32, 33, 34, 35, 36, 37, 38, 39, 40, 41, 42, 43, 1, 44, 45, 46, 8, 47, 48, 49, 50, 51, 52, 53, 54, 55, 56, 57, 58, 59, 60, 61, 62, 63, 64, 65, 66, 67, 68, 69, 70, 71, 72, 73, 74, 5, 6, 7, 9, 10, 75, 76, 77, 78, 79, 80, 81, 82, 83, 84, 85, 86, 87, 88, 89, 90, 91, 92, 93, 94, 95, 96, 97, 98, 99, 207, 208, 209, 210, 211, 212, 228, 229, 230, 222, 223, 224, 225, 226, 227, 231, 232, 233, 234, 235, 236, 237, 238, 239, 240, 241] (by decide +kernel) (by decide +kernel)
set_option maxRecDepth 20000 in
theorem gX10_kinds_X10_readRoute : GoodIn wsX10_kinds (wsV RX10 146 RX10 yX10_readRoute wsX10_readRoute) := goodIn_app (goodIn_of _ (by decide +kernel)) ggX10_kinds_X10_readRoute
set_option maxRecDepth 20000 in
theorem ggX10_kinds_X8_newGate : GoodIn wsX10_kinds wsX8_newGate := goodIn_r _ [102, 103, 104, 105, 106, 107, 108, 109, 110, 111, 112, 113, 114, 115, 116, 117, 118, 119, 120, 121, 122, 123, 124, 125, 126, 127, 128, 219, 220, 221, 216, 217, 218, 213, 214, 215] (by decide +kernel) (by decide +kernel)
set_option maxRecDepth 20000 in
theorem gX10_kinds_X8_newGate : GoodIn wsX10_kinds (va_wsS RX10 191 yX8_newGate wsX8_newGate) := goodIn_app (goodIn_of _ (by decide +kernel)) ggX10_kinds_X8_newGate
set_option maxRecDepth 20000 in
theorem ggX10_kinds_X8_setGate : GoodIn wsX10_kinds wsX8_setGate := goodIn_r _ [132, 133, 10, 134, 6, 7, 8, 9, 213, 214, 215, 216, 217, 218, 219, 220, 221, 222, 223, 224, 225, 226, 227] (by decide +kernel) (by decide +kernel)
set_option maxRecDepth 20000 in
theorem gX10_kinds_X8_setGate : GoodIn wsX10_kinds (wsV RX10 195 RX8 yX8_setGate wsX8_setGate) := goodIn_app (goodIn_of _ (by decide +kernel)) ggX10_kinds_X8_setGate
set_option maxRecDepth 20000 in
theorem ggX10_kinds_X10_bitIfSo : GoodIn wsX10_kinds wsX10_bitIfSo := goodIn_r _ [138, 16, 139, 2, 140, 141, 142, 143, 144, 145, 146, 8, 147, 148, 149, 150, 151, 133, 152, 153, 154, 59, 60, 61, 134, 6, 7, 9, 10, 155, 72, 73, 74, 48, 156, 157, 158, 159, 160, 161, 162, 163, 164, 165, 81, 166, 167, 168, 169, 170, 171, 172, 173, 174, 175, 83, 176, 90, 91, 92, 177, 178, 179, 111, 180, 181, 182, 183, 184, 122, 185, 186, 187, 188, 189, 190, 191, 192, 193, 108, 194, 195, 196, 197, 198, 199, 105, 200, 201, 202, 203, 204, 205, 206, 23, 14, 24, 207, 208, 209, 210, 211, 212, 231, 232, 233, 234, 235, 236, 237, 238, 242, 243, 244, 222, 223, 224, 225, 226, 227, 213, 214, 215, 216, 217, 218, 219, 220, 221, 239, 240, 241] (by decide +kernel) (by decide +kernel)
set_option maxRecDepth 20000 in
theorem gX10_kinds_X10_bitIfSo : GoodIn wsX10_kinds (wsV RX10 188 RX10 yX10_bitIfSo wsX10_bitIfSo) := goodIn_app (goodIn_of _ (by decide +kernel)) ggX10_kinds_X10_bitIfSo
theorem dX10_kinds_0 : decode cX10_kinds 0 = .ok (.aload_n 0, 1) := by decide +kernel
theorem dX10_kinds_1 : decode cX10_kinds 1 = .ok (.iconst 0, 1) := by decide +kernel
theorem dX10_kinds_2 : decode cX10_kinds 2 = .ok (.putfield 45, 3) := by decide +kernel
theorem dX10_kinds_5 : decode cX10_kinds 5 = .ok (.aload_n 0, 1) := by decide +kernel
theorem dX10_kinds_6 : decode cX10_kinds 6 = .ok (.getfield 20, 3) := by decide +kernel
theorem dX10_kinds_9 : decode cX10_kinds 9 = .ok (.iload_n 1, 1) := by decide +kernel
theorem dX10_kinds_10 : decode cX10_kinds 10 = .ok (.invokevirtual 89, 3) := by decide +kernel
theorem dX10_kinds_13 : decode cX10_kinds 13 = .ok (.astore 6, 2) := by decide +kernel
theorem dX10_kinds_15 : decode cX10_kinds 15 = .ok (.aload 6, 2) := by decide +kernel
theorem dX10_kinds_17 : decode cX10_kinds 17 = .ok (.ifnonnull 5, 3) := by decide +kernel
theorem dX10_kinds_20 : decode cX10_kinds 20 = .ok (.iconst (-1), 1) := by decide +kernel
theorem dX10_kinds_21 : decode cX10_kinds 21 = .ok (.ireturn, 1) := by decide +kernel
theorem dX10_kinds_22 : decode cX10_kinds 22 = .ok (.aload_n 0, 1) := by decide +kernel
theorem dX10_kinds_23 : decode cX10_kinds 23 = .ok (.iload_n 2, 1) := by decide +kernel
theorem dX10_kinds_24 : decode cX10_kinds 24 = .ok (.iload_n 3, 1) := by decide +kernel
theorem dX10_kinds_25 : decode cX10_kinds 25 = .ok (.iload 4, 2) := by decide +kernel
theorem dX10_kinds_27 : decode cX10_kinds 27 = .ok (.iload 5, 2) := by decide +kernel
theorem dX10_kinds_29 : decode cX10_kinds 29 = .ok (.invokevirtual 146, 3) := by decide +kernel
theorem dX10_kinds_32 : decode cX10_kinds 32 = .ok (.istore 7, 2) := by decide +kernel
theorem dX10_kinds_34 : decode cX10_kinds 34 = .ok (.iload 7, 2) := by decide +kernel
theorem dX10_kinds_36 : decode cX10_kinds 36 = .ok (.ifCond .ge 6, 3) := by decide +kernel
theorem dX10_kinds_39 : decode cX10_kinds 39 = .ok (.iload 7, 2) := by decide +kernel
theorem dX10_kinds_41 : decode cX10_kinds 41 = .ok (.ireturn, 1) := by decide +kernel
theorem dX10_kinds_42 : decode cX10_kinds 42 = .ok (.iconst 0, 1) := by decide +kernel
theorem dX10_kinds_43 : decode cX10_kinds 43 = .ok (.istore 8, 2) := by decide +kernel
theorem dX10_kinds_45 : decode cX10_kinds 45 = .ok (.iconst 0, 1) := by decide +kernel
theorem dX10_kinds_46 : decode cX10_kinds 46 = .ok (.istore 9, 2) := by decide +kernel
theorem dX10_kinds_48 : decode cX10_kinds 48 = .ok (.iload 9, 2) := by decide +kernel
theorem dX10_kinds_50 : decode cX10_kinds 50 = .ok (.iconst 2, 1) := by decide +kernel
theorem dX10_kinds_51 : decode cX10_kinds 51 = .ok (.if_icmp .gt 43, 3) := by decide +kernel
theorem dX10_kinds_54 : decode cX10_kinds 54 = .ok (.aload_n 0, 1) := by decide +kernel
theorem dX10_kinds_55 : decode cX10_kinds 55 = .ok (.getfield 20, 3) := by decide +kernel
theorem dX10_kinds_58 : decode cX10_kinds 58 = .ok (.iload 9, 2) := by decide +kernel
theorem dX10_kinds_60 : decode cX10_kinds 60 = .ok (.iload_n 1, 1) := by decide +kernel
theorem dX10_kinds_61 : decode cX10_kinds 61 = .ok (.aload 6, 2) := by decide +kernel
theorem dX10_kinds_63 : decode cX10_kinds 63 = .ok (.getfield 98, 3) := by decide +kernel
theorem dX10_kinds_66 : decode cX10_kinds 66 = .ok (.aload 6, 2) := by decide +kernel
theorem dX10_kinds_68 : decode cX10_kinds 68 = .ok (.getfield 101, 3) := by decide +kernel
theorem dX10_kinds_71 : decode cX10_kinds 71 = .ok (.invokestatic 191, 3) := by decide +kernel
theorem dX10_kinds_74 : decode cX10_kinds 74 = .ok (.invokevirtual 195, 3) := by decide +kernel
theorem dX10_kinds_77 : decode cX10_kinds 77 = .ok (.iload 8, 2) := by decide +kernel
theorem dX10_kinds_79 : decode cX10_kinds 79 = .ok (.aload_n 0, 1) := by decide +kernel
theorem dX10_kinds_80 : decode cX10_kinds 80 = .ok (.iload 9, 2) := by decide +kernel
theorem dX10_kinds_82 : decode cX10_kinds 82 = .ok (.invokevirtual 188, 3) := by decide +kernel
theorem dX10_kinds_85 : decode cX10_kinds 85 = .ok (.ior, 1) := by decide +kernel
theorem dX10_kinds_86 : decode cX10_kinds 86 = .ok (.istore 8, 2) := by decide +kernel
theorem dX10_kinds_88 : decode cX10_kinds 88 = .ok (.iinc 9 1, 3) := by decide +kernel
theorem dX10_kinds_91 : decode cX10_kinds 91 = .ok (.goto (-43), 3) := by decide +kernel
theorem dX10_kinds_94 : decode cX10_kinds 94 = .ok (.aload_n 0, 1) := by decide +kernel
theorem dX10_kinds_95 : decode cX10_kinds 95 = .ok (.getfield 20, 3) := by decide +kernel
theorem dX10_kinds_98 : decode cX10_kinds 98 = .ok (.aload 6, 2) := by decide +kernel
theorem dX10_kinds_100 : decode cX10_kinds 100 = .ok (.invokevirtual 195, 3) := by decide +kernel
theorem dX10_kinds_103 : decode cX10_kinds 103 = .ok (.iload 8, 2) := by decide +kernel
theorem dX10_kinds_105 : decode cX10_kinds 105 = .ok (.ireturn, 1) := by decide +kernel
set_option maxRecDepth 20000 in
theorem ggX10_limits_X10_readRoute : GoodIn wsX10_limits wsX10_readRoute := goodIn_r _ [8, 2, 9, 10, 11, 12, 7, 13, 14, 15, 16, 17, 18, 19, 20, 21, 22, 23, 24, 25, 26, 27, 28, 29, 30, 31, 32, 33, 34, 35, 36, 1, 37, 38, 39, 40, 41, 42, 43, 44, 45, 46, 47, 48, 49, 50, 51, 52, 53, 54, 55, 56, 57, 58, 59, 60, 61, 62, 63, 64, 65, 66, 67, 68, 69, 70, 71, 72, 73, 74, 75, 76, 77, 78, 79, 80, 81, 82, 83, 84, 85, 86, 87, 88, 89, 90, 91, 92, 93, 94, 95, 96, 97, 98, 177, 178, 179, 180, 181, 182, 189, 190, 191, 183, 184, 185, 186, 187, 188, 192, 193, 194, 195, 196, 197, 198, 199, 200, 201, 202] (by decide +kernel) (by decide +kernel)
set_option maxRecDepth 20000 in
theorem gX10_limits_X10_readRoute : GoodIn wsX10_limits (wsV RX10 146 RX10 yX10_readRoute wsX10_readRoute) := goodIn_app (goodIn_of _ (by decide +kernel)) ggX10_limits_X10_readRoute
set_option maxRecDepth 20000 in
theorem ggX10_limits_X10_bitIfSo : GoodIn wsX10_limits wsX10_bitIfSo := goodIn_r _ [102, 9, 103, 2, 104, 105, 106, 107, 108, 109, 110, 40, 111, 112, 113, 114, 115, 116, 117, 118, 119, 53, 54, 55, 120, 70, 71, 72, 73, 121, 66, 67, 68, 42, 122, 123, 124, 125, 126, 127, 128, 129, 130, 131, 80, 132, 133, 134, 135, 136, 137, 138, 139, 140, 141, 82, 142, 89, 90, 91, 143, 144, 145, 146, 147, 148, 149, 150, 151, 152, 153, 154, 155, 156, 157, 158, 159, 160, 161, 162, 163, 164, 165, 166, 167, 168, 169, 170, 171, 172, 173, 174, 175, 176, 16, 7, 17, 177, 178, 179, 180, 181, 182, 192, 193, 194, 195, 196, 197, 198, 199, 203, 204, 205, 183, 184, 185, 186, 187, 188, 206, 207, 208, 209, 210, 211, 212, 213, 214, 200, 201, 202] (by decide +kernel) (by decide +kernel)
set_option maxRecDepth 20000 in
theorem gX10_limits_X10_bitIfSo : GoodIn wsX10_limits (wsV RX10 188 RX10 yX10_bitIfSo wsX10_bitIfSo) := goodIn_app (goodIn_of _ (by decide +kernel)) ggX10_limits_X10_bitIfSo
theorem dX10_limits_0 : decode cX10_limits 0 = .ok (.aload_n 0, 1) := by decide +kernel
theorem dX10_limits_1 : decode cX10_limits 1 = .ok (.iconst 0, 1) := by decide +kernel
theorem dX10_limits_2 : decode cX10_limits 2 = .ok (.putfield 45, 3) := by decide +kernel
theorem dX10_limits_5 : decode cX10_limits 5 = .ok (.aload_n 0, 1) := by decide +kernel
theorem dX10_limits_6 : decode cX10_limits 6 = .ok (.iload_n 1, 1) := by decide +kernel
theorem dX10_limits_7 : decode cX10_limits 7 = .ok (.iload_n 2, 1) := by decide +kernel
theorem dX10_limits_8 : decode cX10_limits 8 = .ok (.iload_n 3, 1) := by decide +kernel
theorem dX10_limits_9 : decode cX10_limits 9 = .ok (.iload 4, 2) := by decide +kernel
theorem dX10_limits_11 : decode cX10_limits 11 = .ok (.invokevirtual 146, 3) := by decide +kernel
theorem dX10_limits_14 : decode cX10_limits 14 = .ok (.istore 5, 2) := by decide +kernel
theorem dX10_limits_16 : decode cX10_limits 16 = .ok (.iload 5, 2) := by decide +kernel
theorem dX10_limits_18 : decode cX10_limits 18 = .ok (.ifCond .ge 6, 3) := by decide +kernel
theorem dX10_limits_21 : decode cX10_limits 21 = .ok (.iload 5, 2) := by decide +kernel
theorem dX10_limits_23 : decode cX10_limits 23 = .ok (.ireturn, 1) := by decide +kernel
theorem dX10_limits_24 : decode cX10_limits 24 = .ok (.aload_n 0, 1) := by decide +kernel
theorem dX10_limits_25 : decode cX10_limits 25 = .ok (.getfield 20, 3) := by decide +kernel
theorem dX10_limits_28 : decode cX10_limits 28 = .ok (.getfield 126, 3) := by decide +kernel
theorem dX10_limits_31 : decode cX10_limits 31 = .ok (.istore 6, 2) := by decide +kernel
theorem dX10_limits_33 : decode cX10_limits 33 = .ok (.iconst 0, 1) := by decide +kernel
theorem dX10_limits_34 : decode cX10_limits 34 = .ok (.istore 7, 2) := by decide +kernel
theorem dX10_limits_36 : decode cX10_limits 36 = .ok (.iconst 0, 1) := by decide +kernel
theorem dX10_limits_37 : decode cX10_limits 37 = .ok (.istore 8, 2) := by decide +kernel
theorem dX10_limits_39 : decode cX10_limits 39 = .ok (.iload 8, 2) := by decide +kernel
theorem dX10_limits_41 : decode cX10_limits 41 = .ok (.bipush 9, 2) := by decide +kernel
theorem dX10_limits_43 : decode cX10_limits 43 = .ok (.if_icmp .gt 29, 3) := by decide +kernel
theorem dX10_limits_46 : decode cX10_limits 46 = .ok (.aload_n 0, 1) := by decide +kernel
theorem dX10_limits_47 : decode cX10_limits 47 = .ok (.getfield 20, 3) := by decide +kernel
theorem dX10_limits_50 : decode cX10_limits 50 = .ok (.iload 8, 2) := by decide +kernel
theorem dX10_limits_52 : decode cX10_limits 52 = .ok (.putfield 126, 3) := by decide +kernel
theorem dX10_limits_55 : decode cX10_limits 55 = .ok (.iload 7, 2) := by decide +kernel
theorem dX10_limits_57 : decode cX10_limits 57 = .ok (.aload_n 0, 1) := by decide +kernel
theorem dX10_limits_58 : decode cX10_limits 58 = .ok (.iload 8, 2) := by decide +kernel
theorem dX10_limits_60 : decode cX10_limits 60 = .ok (.invokevirtual 188, 3) := by decide +kernel
theorem dX10_limits_63 : decode cX10_limits 63 = .ok (.ior, 1) := by decide +kernel
theorem dX10_limits_64 : decode cX10_limits 64 = .ok (.istore 7, 2) := by decide +kernel
theorem dX10_limits_66 : decode cX10_limits 66 = .ok (.iinc 8 1, 3) := by decide +kernel
theorem dX10_limits_69 : decode cX10_limits 69 = .ok (.goto (-30), 3) := by decide +kernel
theorem dX10_limits_72 : decode cX10_limits 72 = .ok (.aload_n 0, 1) := by decide +kernel
theorem dX10_limits_73 : decode cX10_limits 73 = .ok (.getfield 20, 3) := by decide +kernel
theorem dX10_limits_76 : decode cX10_limits 76 = .ok (.iload 6, 2) := by decide +kernel
theorem dX10_limits_78 : decode cX10_limits 78 = .ok (.putfield 126, 3) := by decide +kernel
theorem dX10_limits_81 : decode cX10_limits 81 = .ok (.iload 7, 2) := by decide +kernel
theorem dX10_limits_83 : decode cX10_limits 83 = .ok (.ireturn, 1) := by decide +kernel
set_option maxRecDepth 20000 in
theorem ggX10_odds_X8_storyAt : GoodIn wsX10_odds wsX8_storyAt := goodIn_r _ [8, 9, 101, 102, 103, 104, 105, 106] (by decide +kernel) (by decide +kernel)
set_option maxRecDepth 20000 in
theorem gX10_odds_X8_storyAt : GoodIn wsX10_odds (wsV RX10 104 RX8 yX8_storyAt wsX8_storyAt) := goodIn_app (goodIn_of _ (by decide +kernel)) ggX10_odds_X8_storyAt
set_option maxRecDepth 20000 in
theorem ggX10_odds_X10_isDay : GoodIn wsX10_odds wsX10_isDay := goodIn_r _ [13, 14, 15, 12, 16] (by decide +kernel) (by decide +kernel)
set_option maxRecDepth 20000 in
theorem gX10_odds_X10_isDay : GoodIn wsX10_odds (va_wsS RX10 129 yX10_isDay wsX10_isDay) := goodIn_app (goodIn_of _ (by decide +kernel)) ggX10_odds_X10_isDay
set_option maxRecDepth 20000 in
theorem ggX10_odds_X10_isWithin : GoodIn wsX10_odds wsX10_isWithin := goodIn_r _ [16] (by decide +kernel) (by decide +kernel)
set_option maxRecDepth 20000 in
theorem gX10_odds_X10_isWithin : GoodIn wsX10_odds (va_wsS RX10 54 yX10_isWithin wsX10_isWithin) := goodIn_app (goodIn_of _ (by decide +kernel)) ggX10_odds_X10_isWithin
set_option maxRecDepth 20000 in
theorem ggX10_odds_X5_isBornBy : GoodIn wsX10_odds wsX5_isBornBy := goodIn_r _ [21, 22, 107, 108, 109] (by decide +kernel) (by decide +kernel)
set_option maxRecDepth 20000 in
theorem gX10_odds_X5_isBornBy : GoodIn wsX10_odds (wsV RX10 133 RX5 yX5_isBornBy wsX5_isBornBy) := goodIn_app (goodIn_of _ (by decide +kernel)) ggX10_odds_X5_isBornBy
set_option maxRecDepth 20000 in
theorem ggX10_odds_X8_waysWithin : GoodIn wsX10_odds wsX8_waysWithin := goodIn_r _ [26, 27, 28, 29, 30, 7, 31, 32, 33, 34, 35, 36, 37, 38, 39, 40, 41, 42, 43, 20, 44, 45, 46, 47, 48, 49, 50, 51, 52, 53, 22, 54, 55, 56, 57, 58, 59, 60, 61, 62, 63, 64, 65, 66, 67, 68, 69, 70, 71, 72, 73, 74, 75, 76, 77, 78, 79, 80, 81, 82, 83, 84, 85, 86, 87, 88, 89, 90, 91, 101, 102, 103, 104, 105, 106, 110, 111, 112, 113, 114, 115, 116, 117, 118, 107, 108, 109] (by decide +kernel) (by decide +kernel)
set_option maxRecDepth 20000 in
theorem gX10_odds_X8_waysWithin : GoodIn wsX10_odds (wsV RX10 201 RX8 yX8_waysWithin wsX8_waysWithin) := goodIn_app (goodIn_of _ (by decide +kernel)) ggX10_odds_X8_waysWithin
set_option maxRecDepth 20000 in
theorem ggX10_odds_X10_commonDivisor : GoodIn wsX10_odds wsX10_commonDivisor := goodIn_r _ [94] (by decide +kernel) (by decide +kernel)
set_option maxRecDepth 20000 in
theorem gX10_odds_X10_commonDivisor : GoodIn wsX10_odds (va_wsS RX10 204 yX10_commonDivisor wsX10_commonDivisor) := goodIn_app (goodIn_of _ (by decide +kernel)) ggX10_odds_X10_commonDivisor
theorem dX10_odds_0 : decode cX10_odds 0 = .ok (.aload_n 0, 1) := by decide +kernel
theorem dX10_odds_1 : decode cX10_odds 1 = .ok (.getfield 20, 3) := by decide +kernel
theorem dX10_odds_4 : decode cX10_odds 4 = .ok (.iload_n 1, 1) := by decide +kernel
theorem dX10_odds_5 : decode cX10_odds 5 = .ok (.invokevirtual 104, 3) := by decide +kernel
theorem dX10_odds_8 : decode cX10_odds 8 = .ok (.astore 5, 2) := by decide +kernel
theorem dX10_odds_10 : decode cX10_odds 10 = .ok (.aload 5, 2) := by decide +kernel
theorem dX10_odds_12 : decode cX10_odds 12 = .ok (.ifnull 31, 3) := by decide +kernel
theorem dX10_odds_15 : decode cX10_odds 15 = .ok (.iload_n 2, 1) := by decide +kernel
theorem dX10_odds_16 : decode cX10_odds 16 = .ok (.invokestatic 129, 3) := by decide +kernel
theorem dX10_odds_19 : decode cX10_odds 19 = .ok (.ifCond .eq 24, 3) := by decide +kernel
theorem dX10_odds_22 : decode cX10_odds 22 = .ok (.iload_n 3, 1) := by decide +kernel
theorem dX10_odds_23 : decode cX10_odds 23 = .ok (.iconst 0, 1) := by decide +kernel
theorem dX10_odds_24 : decode cX10_odds 24 = .ok (.sipush 9999, 3) := by decide +kernel
theorem dX10_odds_27 : decode cX10_odds 27 = .ok (.invokestatic 54, 3) := by decide +kernel
theorem dX10_odds_30 : decode cX10_odds 30 = .ok (.ifCond .eq 13, 3) := by decide +kernel
theorem dX10_odds_33 : decode cX10_odds 33 = .ok (.iload 4, 2) := by decide +kernel
theorem dX10_odds_35 : decode cX10_odds 35 = .ok (.iconst 0, 1) := by decide +kernel
theorem dX10_odds_36 : decode cX10_odds 36 = .ok (.iconst 1, 1) := by decide +kernel
theorem dX10_odds_37 : decode cX10_odds 37 = .ok (.invokestatic 54, 3) := by decide +kernel
theorem dX10_odds_40 : decode cX10_odds 40 = .ok (.ifCond .ne 7, 3) := by decide +kernel
theorem dX10_odds_43 : decode cX10_odds 43 = .ok (.ldc2_w 199, 3) := by decide +kernel
theorem dX10_odds_46 : decode cX10_odds 46 = .ok (.lreturn, 1) := by decide +kernel
theorem dX10_odds_47 : decode cX10_odds 47 = .ok (.aload 5, 2) := by decide +kernel
theorem dX10_odds_49 : decode cX10_odds 49 = .ok (.iload_n 2, 1) := by decide +kernel
theorem dX10_odds_50 : decode cX10_odds 50 = .ok (.invokevirtual 133, 3) := by decide +kernel
theorem dX10_odds_53 : decode cX10_odds 53 = .ok (.ifCond .ne 7, 3) := by decide +kernel
theorem dX10_odds_56 : decode cX10_odds 56 = .ok (.ldc2_w 199, 3) := by decide +kernel
theorem dX10_odds_59 : decode cX10_odds 59 = .ok (.lreturn, 1) := by decide +kernel
theorem dX10_odds_60 : decode cX10_odds 60 = .ok (.aload_n 0, 1) := by decide +kernel
theorem dX10_odds_61 : decode cX10_odds 61 = .ok (.getfield 20, 3) := by decide +kernel
theorem dX10_odds_64 : decode cX10_odds 64 = .ok (.getfield 181, 3) := by decide +kernel
theorem dX10_odds_67 : decode cX10_odds 67 = .ok (.arraylength, 1) := by decide +kernel
theorem dX10_odds_68 : decode cX10_odds 68 = .ok (.istore 6, 2) := by decide +kernel
theorem dX10_odds_70 : decode cX10_odds 70 = .ok (.iload 6, 2) := by decide +kernel
theorem dX10_odds_72 : decode cX10_odds 72 = .ok (.iload 6, 2) := by decide +kernel
theorem dX10_odds_74 : decode cX10_odds 74 = .ok (.imul, 1) := by decide +kernel
theorem dX10_odds_75 : decode cX10_odds 75 = .ok (.iload 6, 2) := by decide +kernel
theorem dX10_odds_77 : decode cX10_odds 77 = .ok (.imul, 1) := by decide +kernel
theorem dX10_odds_78 : decode cX10_odds 78 = .ok (.istore 7, 2) := by decide +kernel
theorem dX10_odds_80 : decode cX10_odds 80 = .ok (.aload_n 0, 1) := by decide +kernel
theorem dX10_odds_81 : decode cX10_odds 81 = .ok (.getfield 20, 3) := by decide +kernel
theorem dX10_odds_84 : decode cX10_odds 84 = .ok (.aload 5, 2) := by decide +kernel
theorem dX10_odds_86 : decode cX10_odds 86 = .ok (.iload_n 2, 1) := by decide +kernel
theorem dX10_odds_87 : decode cX10_odds 87 = .ok (.iload_n 3, 1) := by decide +kernel
theorem dX10_odds_88 : decode cX10_odds 88 = .ok (.invokevirtual 201, 3) := by decide +kernel
theorem dX10_odds_91 : decode cX10_odds 91 = .ok (.istore 8, 2) := by decide +kernel
theorem dX10_odds_93 : decode cX10_odds 93 = .ok (.iload 7, 2) := by decide +kernel
theorem dX10_odds_95 : decode cX10_odds 95 = .ok (.iload 8, 2) := by decide +kernel
theorem dX10_odds_97 : decode cX10_odds 97 = .ok (.invokestatic 204, 3) := by decide +kernel
theorem dX10_odds_100 : decode cX10_odds 100 = .ok (.istore 9, 2) := by decide +kernel
theorem dX10_odds_102 : decode cX10_odds 102 = .ok (.iload 4, 2) := by decide +kernel
theorem dX10_odds_104 : decode cX10_odds 104 = .ok (.ifCond .ne 8, 3) := by decide +kernel
theorem dX10_odds_107 : decode cX10_odds 107 = .ok (.iload 8, 2) := by decide +kernel
theorem dX10_odds_109 : decode cX10_odds 109 = .ok (.goto 5, 3) := by decide +kernel
theorem dX10_odds_112 : decode cX10_odds 112 = .ok (.iload 7, 2) := by decide +kernel
theorem dX10_odds_114 : decode cX10_odds 114 = .ok (.iload 9, 2) := by decide +kernel
theorem dX10_odds_116 : decode cX10_odds 116 = .ok (.idiv, 1) := by decide +kernel
theorem dX10_odds_117 : decode cX10_odds 117 = .ok (.i2l, 1) := by decide +kernel
theorem dX10_odds_118 : decode cX10_odds 118 = .ok (.lreturn, 1) := by decide +kernel
set_option maxRecDepth 20000 in
theorem ggX10_sheet_X10_rowAt : GoodIn wsX10_sheet wsX10_rowAt := goodIn_r _ [6, 7, 8, 9, 5, 10, 27, 28, 29, 30, 31, 32] (by decide +kernel) (by decide +kernel)
set_option maxRecDepth 20000 in
theorem gX10_sheet_X10_rowAt : GoodIn wsX10_sheet (wsV RX10 50 RX10 yX10_rowAt wsX10_rowAt) := goodIn_app (goodIn_of _ (by decide +kernel)) ggX10_sheet_X10_rowAt
set_option maxRecDepth 20000 in
theorem ggX10_sheet_X10_isWithin : GoodIn wsX10_sheet wsX10_isWithin := goodIn_r _ [10] (by decide +kernel) (by decide +kernel)
set_option maxRecDepth 20000 in
theorem gX10_sheet_X10_isWithin : GoodIn wsX10_sheet (va_wsS RX10 54 yX10_isWithin wsX10_isWithin) := goodIn_app (goodIn_of _ (by decide +kernel)) ggX10_sheet_X10_isWithin
set_option maxRecDepth 20000 in
theorem ggX10_sheet_X10_failBy : GoodIn wsX10_sheet wsX10_failBy := goodIn_r _ [14, 1, 27, 28, 29, 30, 31, 32] (by decide +kernel) (by decide +kernel)
set_option maxRecDepth 20000 in
theorem gX10_sheet_X10_failBy : GoodIn wsX10_sheet (wsV RX10 66 RX10 yX10_failBy wsX10_failBy) := goodIn_app (goodIn_of _ (by decide +kernel)) ggX10_sheet_X10_failBy
set_option maxRecDepth 20000 in
theorem ggX10_sheet_X4_begin : GoodIn wsX10_sheet wsX4_begin := goodIn_r _ [19, 20, 21, 22, 23, 24, 25, 26, 33, 34, 35] (by decide +kernel) (by decide +kernel)
set_option maxRecDepth 20000 in
theorem gX10_sheet_X4_begin : GoodIn wsX10_sheet (wsV RX10 207 RX4 yX4_begin wsX4_begin) := goodIn_app (goodIn_of _ (by decide +kernel)) ggX10_sheet_X4_begin
theorem dX10_sheet_0 : decode cX10_sheet 0 = .ok (.aload_n 0, 1) := by decide +kernel
theorem dX10_sheet_1 : decode cX10_sheet 1 = .ok (.iconst 0, 1) := by decide +kernel
theorem dX10_sheet_2 : decode cX10_sheet 2 = .ok (.putfield 45, 3) := by decide +kernel
theorem dX10_sheet_5 : decode cX10_sheet 5 = .ok (.aload_n 0, 1) := by decide +kernel
theorem dX10_sheet_6 : decode cX10_sheet 6 = .ok (.iload_n 1, 1) := by decide +kernel
theorem dX10_sheet_7 : decode cX10_sheet 7 = .ok (.invokevirtual 50, 3) := by decide +kernel
theorem dX10_sheet_10 : decode cX10_sheet 10 = .ok (.astore 4, 2) := by decide +kernel
theorem dX10_sheet_12 : decode cX10_sheet 12 = .ok (.aload 4, 2) := by decide +kernel
theorem dX10_sheet_14 : decode cX10_sheet 14 = .ok (.ifnonnull 5, 3) := by decide +kernel
theorem dX10_sheet_17 : decode cX10_sheet 17 = .ok (.iconst (-1), 1) := by decide +kernel
theorem dX10_sheet_18 : decode cX10_sheet 18 = .ok (.ireturn, 1) := by decide +kernel
theorem dX10_sheet_19 : decode cX10_sheet 19 = .ok (.iload_n 2, 1) := by decide +kernel
theorem dX10_sheet_20 : decode cX10_sheet 20 = .ok (.iconst 0, 1) := by decide +kernel
theorem dX10_sheet_21 : decode cX10_sheet 21 = .ok (.iconst 2, 1) := by decide +kernel
theorem dX10_sheet_22 : decode cX10_sheet 22 = .ok (.invokestatic 54, 3) := by decide +kernel
theorem dX10_sheet_25 : decode cX10_sheet 25 = .ok (.ifCond .eq 9, 3) := by decide +kernel
theorem dX10_sheet_28 : decode cX10_sheet 28 = .ok (.iload_n 3, 1) := by decide +kernel
theorem dX10_sheet_29 : decode cX10_sheet 29 = .ok (.bipush 60, 2) := by decide +kernel
theorem dX10_sheet_31 : decode cX10_sheet 31 = .ok (.if_icmp .le 6, 3) := by decide +kernel
theorem dX10_sheet_34 : decode cX10_sheet 34 = .ok (.bipush (-2), 2) := by decide +kernel
theorem dX10_sheet_36 : decode cX10_sheet 36 = .ok (.ireturn, 1) := by decide +kernel
theorem dX10_sheet_37 : decode cX10_sheet 37 = .ok (.iload_n 3, 1) := by decide +kernel
theorem dX10_sheet_38 : decode cX10_sheet 38 = .ok (.ifCond .ge 9, 3) := by decide +kernel
theorem dX10_sheet_41 : decode cX10_sheet 41 = .ok (.aload_n 0, 1) := by decide +kernel
theorem dX10_sheet_42 : decode cX10_sheet 42 = .ok (.iconst 4, 1) := by decide +kernel
theorem dX10_sheet_43 : decode cX10_sheet 43 = .ok (.invokevirtual 66, 3) := by decide +kernel
theorem dX10_sheet_46 : decode cX10_sheet 46 = .ok (.ireturn, 1) := by decide +kernel
theorem dX10_sheet_47 : decode cX10_sheet 47 = .ok (.aload 4, 2) := by decide +kernel
theorem dX10_sheet_49 : decode cX10_sheet 49 = .ok (.iload_n 2, 1) := by decide +kernel
theorem dX10_sheet_50 : decode cX10_sheet 50 = .ok (.iload_n 3, 1) := by decide +kernel
theorem dX10_sheet_51 : decode cX10_sheet 51 = .ok (.invokevirtual 207, 3) := by decide +kernel
theorem dX10_sheet_54 : decode cX10_sheet 54 = .ok (.iconst 1, 1) := by decide +kernel
theorem dX10_sheet_55 : decode cX10_sheet 55 = .ok (.ireturn, 1) := by decide +kernel
set_option maxRecDepth 20000 in
theorem ggX10_lose_X10_rowAt : GoodIn wsX10_lose wsX10_rowAt := goodIn_r _ [5, 6, 7, 8, 4, 9, 21, 22, 23, 24, 25, 26] (by decide +kernel) (by decide +kernel)
set_option maxRecDepth 20000 in
theorem gX10_lose_X10_rowAt : GoodIn wsX10_lose (wsV RX10 50 RX10 yX10_rowAt wsX10_rowAt) := goodIn_app (goodIn_of _ (by decide +kernel)) ggX10_lose_X10_rowAt
set_option maxRecDepth 20000 in
theorem ggX10_lose_X4_isThere : GoodIn wsX10_lose wsX4_isThere := goodIn_r _ [14, 15, 27, 28, 29] (by decide +kernel) (by decide +kernel)
set_option maxRecDepth 20000 in
theorem gX10_lose_X4_isThere : GoodIn wsX10_lose (wsV RX10 211 RX4 yX4_isThere wsX4_isThere) := goodIn_app (goodIn_of _ (by decide +kernel)) ggX10_lose_X4_isThere
set_option maxRecDepth 20000 in
theorem ggX10_lose_X4_drop : GoodIn wsX10_lose wsX4_drop := goodIn_r _ [19, 15, 20, 27, 28, 29] (by decide +kernel) (by decide +kernel)
set_option maxRecDepth 20000 in
theorem gX10_lose_X4_drop : GoodIn wsX10_lose (wsV RX10 214 RX4 yX4_drop wsX4_drop) := goodIn_app (goodIn_of _ (by decide +kernel)) ggX10_lose_X4_drop
theorem dX10_lose_0 : decode cX10_lose 0 = .ok (.aload_n 0, 1) := by decide +kernel
theorem dX10_lose_1 : decode cX10_lose 1 = .ok (.iload_n 1, 1) := by decide +kernel
theorem dX10_lose_2 : decode cX10_lose 2 = .ok (.invokevirtual 50, 3) := by decide +kernel
theorem dX10_lose_5 : decode cX10_lose 5 = .ok (.astore_n 2, 1) := by decide +kernel
theorem dX10_lose_6 : decode cX10_lose 6 = .ok (.aload_n 2, 1) := by decide +kernel
theorem dX10_lose_7 : decode cX10_lose 7 = .ok (.ifnonnull 5, 3) := by decide +kernel
theorem dX10_lose_10 : decode cX10_lose 10 = .ok (.iconst (-1), 1) := by decide +kernel
theorem dX10_lose_11 : decode cX10_lose 11 = .ok (.ireturn, 1) := by decide +kernel
theorem dX10_lose_12 : decode cX10_lose 12 = .ok (.aload_n 2, 1) := by decide +kernel
theorem dX10_lose_13 : decode cX10_lose 13 = .ok (.invokevirtual 211, 3) := by decide +kernel
theorem dX10_lose_16 : decode cX10_lose 16 = .ok (.ifCond .eq 7, 3) := by decide +kernel
theorem dX10_lose_19 : decode cX10_lose 19 = .ok (.iconst 1, 1) := by decide +kernel
theorem dX10_lose_20 : decode cX10_lose 20 = .ok (.goto 4, 3) := by decide +kernel
theorem dX10_lose_23 : decode cX10_lose 23 = .ok (.iconst 0, 1) := by decide +kernel
theorem dX10_lose_24 : decode cX10_lose 24 = .ok (.istore_n 3, 1) := by decide +kernel
theorem dX10_lose_25 : decode cX10_lose 25 = .ok (.aload_n 2, 1) := by decide +kernel
theorem dX10_lose_26 : decode cX10_lose 26 = .ok (.invokevirtual 214, 3) := by decide +kernel
theorem dX10_lose_29 : decode cX10_lose 29 = .ok (.iload_n 3, 1) := by decide +kernel
theorem dX10_lose_30 : decode cX10_lose 30 = .ok (.ireturn, 1) := by decide +kernel
set_option maxRecDepth 20000 in
theorem ggX10_put_X10_rowAt : GoodIn wsX10_put wsX10_rowAt := goodIn_r _ [6, 7, 8, 9, 5, 10, 36, 37, 38, 39, 40, 41] (by decide +kernel) (by decide +kernel)
set_option maxRecDepth 20000 in
theorem gX10_put_X10_rowAt : GoodIn wsX10_put (wsV RX10 50 RX10 yX10_rowAt wsX10_rowAt) := goodIn_app (goodIn_of _ (by decide +kernel)) ggX10_put_X10_rowAt
set_option maxRecDepth 20000 in
theorem ggX10_put_X4_isThere : GoodIn wsX10_put wsX4_isThere := goodIn_r _ [15, 16, 42, 43, 44] (by decide +kernel) (by decide +kernel)
set_option maxRecDepth 20000 in
theorem gX10_put_X4_isThere : GoodIn wsX10_put (wsV RX10 211 RX4 yX4_isThere wsX4_isThere) := goodIn_app (goodIn_of _ (by decide +kernel)) ggX10_put_X4_isThere
set_option maxRecDepth 20000 in
theorem ggX10_put_X10_failBy : GoodIn wsX10_put wsX10_failBy := goodIn_r _ [20, 1, 36, 37, 38, 39, 40, 41] (by decide +kernel) (by decide +kernel)
set_option maxRecDepth 20000 in
theorem gX10_put_X10_failBy : GoodIn wsX10_put (wsV RX10 66 RX10 yX10_failBy wsX10_failBy) := goodIn_app (goodIn_of _ (by decide +kernel)) ggX10_put_X10_failBy
set_option maxRecDepth 20000 in
theorem ggX10_put_X4_hasCell : GoodIn wsX10_put wsX4_hasCell := goodIn_r _ [24, 25, 42, 43, 44] (by decide +kernel) (by decide +kernel)
set_option maxRecDepth 20000 in
theorem gX10_put_X4_hasCell : GoodIn wsX10_put (wsV RX10 217 RX4 yX4_hasCell wsX4_hasCell) := goodIn_app (goodIn_of _ (by decide +kernel)) ggX10_put_X4_hasCell
set_option maxRecDepth 20000 in
theorem ggX10_put_X4_write : GoodIn wsX10_put wsX4_write := goodIn_r _ [29, 30, 31, 22, 23, 14, 24, 25, 32, 33, 34, 35, 16, 42, 43, 44] (by decide +kernel) (by decide +kernel)
set_option maxRecDepth 20000 in
theorem gX10_put_X4_write : GoodIn wsX10_put (wsV RX10 220 RX4 yX4_write wsX4_write) := goodIn_app (goodIn_of _ (by decide +kernel)) ggX10_put_X4_write
theorem dX10_put_0 : decode cX10_put 0 = .ok (.aload_n 0, 1) := by decide +kernel
theorem dX10_put_1 : decode cX10_put 1 = .ok (.iconst 0, 1) := by decide +kernel
theorem dX10_put_2 : decode cX10_put 2 = .ok (.putfield 45, 3) := by decide +kernel
theorem dX10_put_5 : decode cX10_put 5 = .ok (.aload_n 0, 1) := by decide +kernel
theorem dX10_put_6 : decode cX10_put 6 = .ok (.iload_n 1, 1) := by decide +kernel
theorem dX10_put_7 : decode cX10_put 7 = .ok (.invokevirtual 50, 3) := by decide +kernel
theorem dX10_put_10 : decode cX10_put 10 = .ok (.astore 4, 2) := by decide +kernel
theorem dX10_put_12 : decode cX10_put 12 = .ok (.aload 4, 2) := by decide +kernel
theorem dX10_put_14 : decode cX10_put 14 = .ok (.ifnonnull 5, 3) := by decide +kernel
theorem dX10_put_17 : decode cX10_put 17 = .ok (.iconst (-1), 1) := by decide +kernel
theorem dX10_put_18 : decode cX10_put 18 = .ok (.ireturn, 1) := by decide +kernel
theorem dX10_put_19 : decode cX10_put 19 = .ok (.aload 4, 2) := by decide +kernel
theorem dX10_put_21 : decode cX10_put 21 = .ok (.invokevirtual 211, 3) := by decide +kernel
theorem dX10_put_24 : decode cX10_put 24 = .ok (.ifCond .ne 9, 3) := by decide +kernel
theorem dX10_put_27 : decode cX10_put 27 = .ok (.aload_n 0, 1) := by decide +kernel
theorem dX10_put_28 : decode cX10_put 28 = .ok (.iconst 1, 1) := by decide +kernel
theorem dX10_put_29 : decode cX10_put 29 = .ok (.invokevirtual 66, 3) := by decide +kernel
theorem dX10_put_32 : decode cX10_put 32 = .ok (.ireturn, 1) := by decide +kernel
theorem dX10_put_33 : decode cX10_put 33 = .ok (.aload 4, 2) := by decide +kernel
theorem dX10_put_35 : decode cX10_put 35 = .ok (.iload_n 2, 1) := by decide +kernel
theorem dX10_put_36 : decode cX10_put 36 = .ok (.invokevirtual 217, 3) := by decide +kernel
theorem dX10_put_39 : decode cX10_put 39 = .ok (.ifCond .ne 9, 3) := by decide +kernel
theorem dX10_put_42 : decode cX10_put 42 = .ok (.aload_n 0, 1) := by decide +kernel
theorem dX10_put_43 : decode cX10_put 43 = .ok (.iconst 3, 1) := by decide +kernel
theorem dX10_put_44 : decode cX10_put 44 = .ok (.invokevirtual 66, 3) := by decide +kernel
theorem dX10_put_47 : decode cX10_put 47 = .ok (.ireturn, 1) := by decide +kernel
theorem dX10_put_48 : decode cX10_put 48 = .ok (.aload 4, 2) := by decide +kernel
theorem dX10_put_50 : decode cX10_put 50 = .ok (.iload_n 2, 1) := by decide +kernel
theorem dX10_put_51 : decode cX10_put 51 = .ok (.iload_n 3, 1) := by decide +kernel
theorem dX10_put_52 : decode cX10_put 52 = .ok (.invokevirtual 220, 3) := by decide +kernel
theorem dX10_put_55 : decode cX10_put 55 = .ok (.iconst 1, 1) := by decide +kernel
theorem dX10_put_56 : decode cX10_put 56 = .ok (.ireturn, 1) := by decide +kernel
set_option maxRecDepth 20000 in
theorem ggX10_cell_X10_rowAt : GoodIn wsX10_cell wsX10_rowAt := goodIn_r _ [7, 8, 9, 10, 6, 11, 33, 34, 35, 36, 37, 38] (by decide +kernel) (by decide +kernel)
set_option maxRecDepth 20000 in
theorem gX10_cell_X10_rowAt : GoodIn wsX10_cell (wsV RX10 50 RX10 yX10_rowAt wsX10_rowAt) := goodIn_app (goodIn_of _ (by decide +kernel)) ggX10_cell_X10_rowAt
set_option maxRecDepth 20000 in
theorem ggX10_cell_X10_isWithin : GoodIn wsX10_cell wsX10_isWithin := goodIn_r _ [11] (by decide +kernel) (by decide +kernel)
set_option maxRecDepth 20000 in
theorem gX10_cell_X10_isWithin : GoodIn wsX10_cell (va_wsS RX10 54 yX10_isWithin wsX10_isWithin) := goodIn_app (goodIn_of _ (by decide +kernel)) ggX10_cell_X10_isWithin
set_option maxRecDepth 20000 in
theorem ggX10_cell_X4_faultTakenAs : GoodIn wsX10_cell wsX4_faultTakenAs := goodIn_r _ [16, 17, 18, 19, 20, 15, 21, 39, 40, 41] (by decide +kernel) (by decide +kernel)
set_option maxRecDepth 20000 in
theorem gX10_cell_X4_faultTakenAs : GoodIn wsX10_cell (wsV RX10 58 RX4 yX4_faultTakenAs wsX4_faultTakenAs) := goodIn_app (goodIn_of _ (by decide +kernel)) ggX10_cell_X4_faultTakenAs
set_option maxRecDepth 20000 in
theorem ggX10_cell_X4_hasCell : GoodIn wsX10_cell wsX4_hasCell := goodIn_r _ [25, 26, 39, 40, 41] (by decide +kernel) (by decide +kernel)
set_option maxRecDepth 20000 in
theorem gX10_cell_X4_hasCell : GoodIn wsX10_cell (wsV RX10 217 RX4 yX4_hasCell wsX4_hasCell) := goodIn_app (goodIn_of _ (by decide +kernel)) ggX10_cell_X4_hasCell
set_option maxRecDepth 20000 in
theorem ggX10_cell_X4_read : GoodIn wsX10_cell wsX4_read := goodIn_r _ [30, 31, 32, 23, 24, 15, 25, 26, 39, 40, 41] (by decide +kernel) (by decide +kernel)
set_option maxRecDepth 20000 in
theorem gX10_cell_X4_read : GoodIn wsX10_cell (wsV RX10 223 RX4 yX4_read wsX4_read) := goodIn_app (goodIn_of _ (by decide +kernel)) ggX10_cell_X4_read
theorem dX10_cell_0 : decode cX10_cell 0 = .ok (.aload_n 0, 1) := by decide +kernel
theorem dX10_cell_1 : decode cX10_cell 1 = .ok (.iconst 0, 1) := by decide +kernel
theorem dX10_cell_2 : decode cX10_cell 2 = .ok (.putfield 45, 3) := by decide +kernel
theorem dX10_cell_5 : decode cX10_cell 5 = .ok (.aload_n 0, 1) := by decide +kernel
theorem dX10_cell_6 : decode cX10_cell 6 = .ok (.iload_n 1, 1) := by decide +kernel
theorem dX10_cell_7 : decode cX10_cell 7 = .ok (.invokevirtual 50, 3) := by decide +kernel
theorem dX10_cell_10 : decode cX10_cell 10 = .ok (.astore 4, 2) := by decide +kernel
theorem dX10_cell_12 : decode cX10_cell 12 = .ok (.aload 4, 2) := by decide +kernel
theorem dX10_cell_14 : decode cX10_cell 14 = .ok (.ifnull 12, 3) := by decide +kernel
theorem dX10_cell_17 : decode cX10_cell 17 = .ok (.iload_n 3, 1) := by decide +kernel
theorem dX10_cell_18 : decode cX10_cell 18 = .ok (.iconst 0, 1) := by decide +kernel
theorem dX10_cell_19 : decode cX10_cell 19 = .ok (.iconst 2, 1) := by decide +kernel
theorem dX10_cell_20 : decode cX10_cell 20 = .ok (.invokestatic 54, 3) := by decide +kernel
theorem dX10_cell_23 : decode cX10_cell 23 = .ok (.ifCond .ne 7, 3) := by decide +kernel
theorem dX10_cell_26 : decode cX10_cell 26 = .ok (.ldc2_w 199, 3) := by decide +kernel
theorem dX10_cell_29 : decode cX10_cell 29 = .ok (.lreturn, 1) := by decide +kernel
theorem dX10_cell_30 : decode cX10_cell 30 = .ok (.aload 4, 2) := by decide +kernel
theorem dX10_cell_32 : decode cX10_cell 32 = .ok (.iload_n 3, 1) := by decide +kernel
theorem dX10_cell_33 : decode cX10_cell 33 = .ok (.invokevirtual 58, 3) := by decide +kernel
theorem dX10_cell_36 : decode cX10_cell 36 = .ok (.istore 5, 2) := by decide +kernel
theorem dX10_cell_38 : decode cX10_cell 38 = .ok (.iload 5, 2) := by decide +kernel
theorem dX10_cell_40 : decode cX10_cell 40 = .ok (.ifCond .ne 15, 3) := by decide +kernel
theorem dX10_cell_43 : decode cX10_cell 43 = .ok (.aload 4, 2) := by decide +kernel
theorem dX10_cell_45 : decode cX10_cell 45 = .ok (.iload_n 2, 1) := by decide +kernel
theorem dX10_cell_46 : decode cX10_cell 46 = .ok (.invokevirtual 217, 3) := by decide +kernel
theorem dX10_cell_49 : decode cX10_cell 49 = .ok (.ifCond .ne 6, 3) := by decide +kernel
theorem dX10_cell_52 : decode cX10_cell 52 = .ok (.iconst 3, 1) := by decide +kernel
theorem dX10_cell_53 : decode cX10_cell 53 = .ok (.istore 5, 2) := by decide +kernel
theorem dX10_cell_55 : decode cX10_cell 55 = .ok (.iload 5, 2) := by decide +kernel
theorem dX10_cell_57 : decode cX10_cell 57 = .ok (.ifCond .eq 13, 3) := by decide +kernel
theorem dX10_cell_60 : decode cX10_cell 60 = .ok (.aload_n 0, 1) := by decide +kernel
theorem dX10_cell_61 : decode cX10_cell 61 = .ok (.iload 5, 2) := by decide +kernel
theorem dX10_cell_63 : decode cX10_cell 63 = .ok (.putfield 45, 3) := by decide +kernel
theorem dX10_cell_66 : decode cX10_cell 66 = .ok (.ldc2_w 199, 3) := by decide +kernel
theorem dX10_cell_69 : decode cX10_cell 69 = .ok (.lreturn, 1) := by decide +kernel
theorem dX10_cell_70 : decode cX10_cell 70 = .ok (.aload 4, 2) := by decide +kernel
theorem dX10_cell_72 : decode cX10_cell 72 = .ok (.iload_n 2, 1) := by decide +kernel
theorem dX10_cell_73 : decode cX10_cell 73 = .ok (.invokevirtual 223, 3) := by decide +kernel
theorem dX10_cell_76 : decode cX10_cell 76 = .ok (.i2l, 1) := by decide +kernel
theorem dX10_cell_77 : decode cX10_cell 77 = .ok (.lreturn, 1) := by decide +kernel
set_option maxRecDepth 20000 in
theorem ggX10_copy_X10_rowAt : GoodIn wsX10_copy wsX10_rowAt := goodIn_r _ [12, 13, 14, 15, 11, 16, 32, 33, 34, 35, 36, 37] (by decide +kernel) (by decide +kernel)
set_option maxRecDepth 20000 in
theorem gX10_copy_X10_rowAt : GoodIn wsX10_copy (wsV RX10 50 RX10 yX10_rowAt wsX10_rowAt) := goodIn_app (goodIn_of _ (by decide +kernel)) ggX10_copy_X10_rowAt
set_option maxRecDepth 20000 in
theorem ggX10_copy_X4_isThere : GoodIn wsX10_copy wsX4_isThere := goodIn_r _ [21, 22, 38, 39, 40] (by decide +kernel) (by decide +kernel)
set_option maxRecDepth 20000 in
theorem gX10_copy_X4_isThere : GoodIn wsX10_copy (wsV RX10 211 RX4 yX4_isThere wsX4_isThere) := goodIn_app (goodIn_of _ (by decide +kernel)) ggX10_copy_X4_isThere
set_option maxRecDepth 20000 in
theorem ggX10_copy_X10_failBy : GoodIn wsX10_copy wsX10_failBy := goodIn_r _ [26, 1, 32, 33, 34, 35, 36, 37] (by decide +kernel) (by decide +kernel)
set_option maxRecDepth 20000 in
theorem gX10_copy_X10_failBy : GoodIn wsX10_copy (wsV RX10 66 RX10 yX10_failBy wsX10_failBy) := goodIn_app (goodIn_of _ (by decide +kernel)) ggX10_copy_X10_failBy
set_option maxRecDepth 20000 in
theorem ggX10_copy_X4_hasCells : GoodIn wsX10_copy wsX4_hasCells := goodIn_r _ [30, 31, 38, 39, 40] (by decide +kernel) (by decide +kernel)
set_option maxRecDepth 20000 in
theorem gX10_copy_X4_hasCells : GoodIn wsX10_copy (wsV RX10 62 RX4 yX4_hasCells wsX4_hasCells) := goodIn_app (goodIn_of _ (by decide +kernel)) ggX10_copy_X4_hasCells
theorem dX10_copy_0 : decode cX10_copy 0 = .ok (.aload_n 0, 1) := by decide +kernel
theorem dX10_copy_1 : decode cX10_copy 1 = .ok (.iconst 0, 1) := by decide +kernel
theorem dX10_copy_2 : decode cX10_copy 2 = .ok (.putfield 45, 3) := by decide +kernel
theorem dX10_copy_5 : decode cX10_copy 5 = .ok (.aload_n 0, 1) := by decide +kernel
theorem dX10_copy_6 : decode cX10_copy 6 = .ok (.iload_n 1, 1) := by decide +kernel
theorem dX10_copy_7 : decode cX10_copy 7 = .ok (.invokevirtual 50, 3) := by decide +kernel
theorem dX10_copy_10 : decode cX10_copy 10 = .ok (.astore 6, 2) := by decide +kernel
theorem dX10_copy_12 : decode cX10_copy 12 = .ok (.aload_n 0, 1) := by decide +kernel
theorem dX10_copy_13 : decode cX10_copy 13 = .ok (.iload_n 3, 1) := by decide +kernel
theorem dX10_copy_14 : decode cX10_copy 14 = .ok (.invokevirtual 50, 3) := by decide +kernel
theorem dX10_copy_17 : decode cX10_copy 17 = .ok (.astore 7, 2) := by decide +kernel
theorem dX10_copy_19 : decode cX10_copy 19 = .ok (.aload 6, 2) := by decide +kernel
theorem dX10_copy_21 : decode cX10_copy 21 = .ok (.ifnull 8, 3) := by decide +kernel
theorem dX10_copy_24 : decode cX10_copy 24 = .ok (.aload 7, 2) := by decide +kernel
theorem dX10_copy_26 : decode cX10_copy 26 = .ok (.ifnonnull 5, 3) := by decide +kernel
theorem dX10_copy_29 : decode cX10_copy 29 = .ok (.iconst (-1), 1) := by decide +kernel
theorem dX10_copy_30 : decode cX10_copy 30 = .ok (.ireturn, 1) := by decide +kernel
theorem dX10_copy_31 : decode cX10_copy 31 = .ok (.aload 6, 2) := by decide +kernel
theorem dX10_copy_33 : decode cX10_copy 33 = .ok (.invokevirtual 211, 3) := by decide +kernel
theorem dX10_copy_36 : decode cX10_copy 36 = .ok (.ifCond .eq 11, 3) := by decide +kernel
theorem dX10_copy_39 : decode cX10_copy 39 = .ok (.aload 7, 2) := by decide +kernel
theorem dX10_copy_41 : decode cX10_copy 41 = .ok (.invokevirtual 211, 3) := by decide +kernel
theorem dX10_copy_44 : decode cX10_copy 44 = .ok (.ifCond .ne 9, 3) := by decide +kernel
theorem dX10_copy_47 : decode cX10_copy 47 = .ok (.aload_n 0, 1) := by decide +kernel
theorem dX10_copy_48 : decode cX10_copy 48 = .ok (.iconst 1, 1) := by decide +kernel
theorem dX10_copy_49 : decode cX10_copy 49 = .ok (.invokevirtual 66, 3) := by decide +kernel
theorem dX10_copy_52 : decode cX10_copy 52 = .ok (.ireturn, 1) := by decide +kernel
theorem dX10_copy_53 : decode cX10_copy 53 = .ok (.aload 6, 2) := by decide +kernel
theorem dX10_copy_55 : decode cX10_copy 55 = .ok (.getfield 226, 3) := by decide +kernel
theorem dX10_copy_58 : decode cX10_copy 58 = .ok (.aload 7, 2) := by decide +kernel
theorem dX10_copy_60 : decode cX10_copy 60 = .ok (.getfield 226, 3) := by decide +kernel
theorem dX10_copy_63 : decode cX10_copy 63 = .ok (.if_icmp .eq 9, 3) := by decide +kernel
theorem dX10_copy_66 : decode cX10_copy 66 = .ok (.aload_n 0, 1) := by decide +kernel
theorem dX10_copy_67 : decode cX10_copy 67 = .ok (.iconst 2, 1) := by decide +kernel
theorem dX10_copy_68 : decode cX10_copy 68 = .ok (.invokevirtual 66, 3) := by decide +kernel
theorem dX10_copy_71 : decode cX10_copy 71 = .ok (.ireturn, 1) := by decide +kernel
theorem dX10_copy_72 : decode cX10_copy 72 = .ok (.aload 6, 2) := by decide +kernel
theorem dX10_copy_74 : decode cX10_copy 74 = .ok (.iload_n 2, 1) := by decide +kernel
theorem dX10_copy_75 : decode cX10_copy 75 = .ok (.iload 5, 2) := by decide +kernel
theorem dX10_copy_77 : decode cX10_copy 77 = .ok (.invokevirtual 62, 3) := by decide +kernel
theorem dX10_copy_80 : decode cX10_copy 80 = .ok (.ifCond .eq 15, 3) := by decide +kernel
theorem dX10_copy_83 : decode cX10_copy 83 = .ok (.aload 7, 2) := by decide +kernel
theorem dX10_copy_85 : decode cX10_copy 85 = .ok (.iload 4, 2) := by decide +kernel
theorem dX10_copy_87 : decode cX10_copy 87 = .ok (.iload 5, 2) := by decide +kernel
theorem dX10_copy_89 : decode cX10_copy 89 = .ok (.invokevirtual 62, 3) := by decide +kernel
theorem dX10_copy_92 : decode cX10_copy 92 = .ok (.ifCond .ne 9, 3) := by decide +kernel
theorem dX10_copy_95 : decode cX10_copy 95 = .ok (.aload_n 0, 1) := by decide +kernel
theorem dX10_copy_96 : decode cX10_copy 96 = .ok (.iconst 3, 1) := by decide +kernel
theorem dX10_copy_97 : decode cX10_copy 97 = .ok (.invokevirtual 66, 3) := by decide +kernel
theorem dX10_copy_100 : decode cX10_copy 100 = .ok (.ireturn, 1) := by decide +kernel
theorem dX10_copy_101 : decode cX10_copy 101 = .ok (.aload 6, 2) := by decide +kernel
theorem dX10_copy_103 : decode cX10_copy 103 = .ok (.getfield 229, 3) := by decide +kernel
theorem dX10_copy_106 : decode cX10_copy 106 = .ok (.iload_n 2, 1) := by decide +kernel
theorem dX10_copy_107 : decode cX10_copy 107 = .ok (.aload 7, 2) := by decide +kernel
theorem dX10_copy_109 : decode cX10_copy 109 = .ok (.getfield 229, 3) := by decide +kernel
theorem dX10_copy_112 : decode cX10_copy 112 = .ok (.iload 4, 2) := by decide +kernel
theorem dX10_copy_114 : decode cX10_copy 114 = .ok (.iload 5, 2) := by decide +kernel
theorem dX10_copy_116 : decode cX10_copy 116 = .ok (.invokestatic 233, 3) := by decide +kernel
theorem dX10_copy_119 : decode cX10_copy 119 = .ok (.iload 5, 2) := by decide +kernel
theorem dX10_copy_121 : decode cX10_copy 121 = .ok (.ireturn, 1) := by decide +kernel
set_option maxRecDepth 20000 in
theorem ggX10_tell_X8_gateAt : GoodIn wsX10_tell wsX8_gateAt := goodIn_r _ [7, 8, 56, 57, 58, 59, 60, 61] (by decide +kernel) (by decide +kernel)
set_option maxRecDepth 20000 in
theorem gX10_tell_X8_gateAt : GoodIn wsX10_tell (wsV RX10 89 RX8 yX8_gateAt wsX8_gateAt) := goodIn_app (goodIn_of _ (by decide +kernel)) ggX10_tell_X8_gateAt
set_option maxRecDepth 20000 in
theorem ggX10_tell_X0_telling : GoodIn wsX10_tell wsX0_telling := goodIn_r _ [13, 14, 15, 16, 12, 17, 18, 19, 20, 21, 22, 23, 24, 25, 26, 27, 28, 62, 63, 64, 65, 66, 67, 68, 69, 70, 71] (by decide +kernel) (by decide +kernel)
set_option maxRecDepth 20000 in
theorem gX10_tell_X0_telling : GoodIn wsX10_tell (wsV RX10 239 RX0 yX0_telling wsX0_telling) := goodIn_app (goodIn_of _ (by decide +kernel)) ggX10_tell_X0_telling
set_option maxRecDepth 20000 in
theorem ggX10_tell_X1_telling : GoodIn wsX10_tell wsX1_telling := goodIn_r _ [35, 36, 20, 21, 22, 23, 24, 37, 38, 39, 40, 41, 42, 43, 44, 30, 45, 10, 12, 13, 14, 15, 16, 17, 18, 19, 25, 26, 27, 28, 46, 47, 48, 71, 62, 63, 64, 65, 66, 67, 68, 69, 70] (by decide +kernel) (by decide +kernel)
set_option maxRecDepth 20000 in
theorem gX10_tell_X1_telling_u239X1 : GoodIn wsX10_tell (va_wsO RX10 239 RX1 "GossipGate$Gate" ⟨"GossipGate$Gate", "telling", "(LGossipGate$Trace;)I"⟩ yX1_telling wsX1_telling) := goodIn_app (goodIn_of _ (by decide +kernel)) ggX10_tell_X1_telling
set_option maxRecDepth 20000 in
theorem ggX10_tell_X6_telling : GoodIn wsX10_tell wsX6_telling := goodIn_r _ [42, 43, 20, 21, 22, 23, 24, 44, 30, 45, 10, 12, 13, 14, 15, 16, 17, 18, 19, 25, 26, 27, 28, 71, 62, 63, 64, 65, 66, 67, 68, 69, 70] (by decide +kernel) (by decide +kernel)
set_option maxRecDepth 20000 in
theorem gX10_tell_X6_telling_u239X6 : GoodIn wsX10_tell (va_wsO RX10 239 RX6 "GossipGate$Gate" ⟨"GossipGate$Gate", "telling", "(LGossipGate$Trace;)I"⟩ yX6_telling wsX6_telling) := goodIn_app (goodIn_of _ (by decide +kernel)) ggX10_tell_X6_telling
theorem dX10_tell_0 : decode cX10_tell 0 = .ok (.aload_n 0, 1) := by decide +kernel
theorem dX10_tell_1 : decode cX10_tell 1 = .ok (.getfield 20, 3) := by decide +kernel
theorem dX10_tell_4 : decode cX10_tell 4 = .ok (.iload_n 1, 1) := by decide +kernel
theorem dX10_tell_5 : decode cX10_tell 5 = .ok (.invokevirtual 89, 3) := by decide +kernel
theorem dX10_tell_8 : decode cX10_tell 8 = .ok (.astore_n 2, 1) := by decide +kernel
theorem dX10_tell_9 : decode cX10_tell 9 = .ok (.aload_n 2, 1) := by decide +kernel
theorem dX10_tell_10 : decode cX10_tell 10 = .ok (.ifnonnull 7, 3) := by decide +kernel
theorem dX10_tell_13 : decode cX10_tell 13 = .ok (.iconst (-1), 1) := by decide +kernel
theorem dX10_tell_14 : decode cX10_tell 14 = .ok (.goto 11, 3) := by decide +kernel
theorem dX10_tell_17 : decode cX10_tell 17 = .ok (.aload_n 2, 1) := by decide +kernel
theorem dX10_tell_18 : decode cX10_tell 18 = .ok (.aload_n 0, 1) := by decide +kernel
theorem dX10_tell_19 : decode cX10_tell 19 = .ok (.getfield 41, 3) := by decide +kernel
theorem dX10_tell_22 : decode cX10_tell 22 = .ok (.invokevirtual 239, 3) := by decide +kernel
theorem dX10_tell_25 : decode cX10_tell 25 = .ok (.ireturn, 1) := by decide +kernel
set_option maxRecDepth 20000 in
theorem ggX10_knock_X8_gateAt : GoodIn wsX10_knock wsX8_gateAt := goodIn_r _ [7, 8, 36, 37, 38, 39, 40, 41] (by decide +kernel) (by decide +kernel)
set_option maxRecDepth 20000 in
theorem gX10_knock_X8_gateAt : GoodIn wsX10_knock (wsV RX10 89 RX8 yX8_gateAt wsX8_gateAt) := goodIn_app (goodIn_of _ (by decide +kernel)) ggX10_knock_X8_gateAt
set_option maxRecDepth 20000 in
theorem ggX10_knock_X0_knocking : GoodIn wsX10_knock wsX0_knocking := goodIn_r _ [13, 14, 15, 16, 17, 18, 19, 20, 42, 43, 44, 45, 46, 47, 48, 49, 50, 51] (by decide +kernel) (by decide +kernel)
set_option maxRecDepth 20000 in
theorem gX10_knock_X0_knocking : GoodIn wsX10_knock (wsV RX10 243 RX0 yX0_knocking wsX0_knocking) := goodIn_app (goodIn_of _ (by decide +kernel)) ggX10_knock_X0_knocking
set_option maxRecDepth 20000 in
theorem ggX10_knock_X1_knocking : GoodIn wsX10_knock wsX1_knocking := goodIn_r _ [27, 28, 16, 17, 18, 19, 20, 51] (by decide +kernel) (by decide +kernel)
set_option maxRecDepth 20000 in
theorem gX10_knock_X1_knocking_u243X1 : GoodIn wsX10_knock (va_wsO RX10 243 RX1 "GossipGate$Gate" ⟨"GossipGate$Gate", "knocking", "(LGossipGate$Trace;)I"⟩ yX1_knocking wsX1_knocking) := goodIn_app (goodIn_of _ (by decide +kernel)) ggX10_knock_X1_knocking
set_option maxRecDepth 20000 in
theorem gX10_knock_X0_knocking_u243X6 : GoodIn wsX10_knock (va_wsU RX10 243 RX6 "GossipGate$Gate" ⟨"GossipGate$Gate", "knocking", "(LGossipGate$Trace;)I"⟩ yX0_knocking wsX0_knocking) := goodIn_app (goodIn_of _ (by decide +kernel)) ggX10_knock_X0_knocking
theorem dX10_knock_0 : decode cX10_knock 0 = .ok (.aload_n 0, 1) := by decide +kernel
theorem dX10_knock_1 : decode cX10_knock 1 = .ok (.getfield 20, 3) := by decide +kernel
theorem dX10_knock_4 : decode cX10_knock 4 = .ok (.iload_n 1, 1) := by decide +kernel
theorem dX10_knock_5 : decode cX10_knock 5 = .ok (.invokevirtual 89, 3) := by decide +kernel
theorem dX10_knock_8 : decode cX10_knock 8 = .ok (.astore_n 2, 1) := by decide +kernel
theorem dX10_knock_9 : decode cX10_knock 9 = .ok (.aload_n 2, 1) := by decide +kernel
theorem dX10_knock_10 : decode cX10_knock 10 = .ok (.ifnonnull 7, 3) := by decide +kernel
theorem dX10_knock_13 : decode cX10_knock 13 = .ok (.iconst (-1), 1) := by decide +kernel
theorem dX10_knock_14 : decode cX10_knock 14 = .ok (.goto 11, 3) := by decide +kernel
theorem dX10_knock_17 : decode cX10_knock 17 = .ok (.aload_n 2, 1) := by decide +kernel
theorem dX10_knock_18 : decode cX10_knock 18 = .ok (.aload_n 0, 1) := by decide +kernel
theorem dX10_knock_19 : decode cX10_knock 19 = .ok (.getfield 41, 3) := by decide +kernel
theorem dX10_knock_22 : decode cX10_knock 22 = .ok (.invokevirtual 243, 3) := by decide +kernel
theorem dX10_knock_25 : decode cX10_knock 25 = .ok (.ireturn, 1) := by decide +kernel
set_option maxRecDepth 20000 in
theorem ggX10_as_X8_gateAt : GoodIn wsX10_as wsX8_gateAt := goodIn_r _ [9, 10, 25, 26, 27, 28, 29, 30] (by decide +kernel) (by decide +kernel)
set_option maxRecDepth 20000 in
theorem gX10_as_X8_gateAt : GoodIn wsX10_as (wsV RX10 89 RX8 yX8_gateAt wsX8_gateAt) := goodIn_app (goodIn_of _ (by decide +kernel)) ggX10_as_X8_gateAt
set_option maxRecDepth 20000 in
theorem ggX10_as_X10_isWithin : GoodIn wsX10_as wsX10_isWithin := goodIn_r _ [14] (by decide +kernel) (by decide +kernel)
set_option maxRecDepth 20000 in
theorem gX10_as_X10_isWithin : GoodIn wsX10_as (va_wsS RX10 54 yX10_isWithin wsX10_isWithin) := goodIn_app (goodIn_of _ (by decide +kernel)) ggX10_as_X10_isWithin
set_option maxRecDepth 20000 in
theorem ggX10_as_X10_failBy : GoodIn wsX10_as wsX10_failBy := goodIn_r _ [18, 1, 19, 20, 21, 22, 23, 24] (by decide +kernel) (by decide +kernel)
set_option maxRecDepth 20000 in
theorem gX10_as_X10_failBy : GoodIn wsX10_as (wsV RX10 66 RX10 yX10_failBy wsX10_failBy) := goodIn_app (goodIn_of _ (by decide +kernel)) ggX10_as_X10_failBy
theorem dX10_as_0 : decode cX10_as 0 = .ok (.aload_n 0, 1) := by decide +kernel
theorem dX10_as_1 : decode cX10_as 1 = .ok (.iconst 0, 1) := by decide +kernel
theorem dX10_as_2 : decode cX10_as 2 = .ok (.putfield 45, 3) := by decide +kernel
theorem dX10_as_5 : decode cX10_as 5 = .ok (.aload_n 0, 1) := by decide +kernel
theorem dX10_as_6 : decode cX10_as 6 = .ok (.getfield 20, 3) := by decide +kernel
theorem dX10_as_9 : decode cX10_as 9 = .ok (.iload_n 1, 1) := by decide +kernel
theorem dX10_as_10 : decode cX10_as 10 = .ok (.invokevirtual 89, 3) := by decide +kernel
theorem dX10_as_13 : decode cX10_as 13 = .ok (.astore_n 3, 1) := by decide +kernel
theorem dX10_as_14 : decode cX10_as 14 = .ok (.aload_n 3, 1) := by decide +kernel
theorem dX10_as_15 : decode cX10_as 15 = .ok (.ifnonnull 5, 3) := by decide +kernel
theorem dX10_as_18 : decode cX10_as 18 = .ok (.iconst (-1), 1) := by decide +kernel
theorem dX10_as_19 : decode cX10_as 19 = .ok (.ireturn, 1) := by decide +kernel
theorem dX10_as_20 : decode cX10_as 20 = .ok (.iload_n 2, 1) := by decide +kernel
theorem dX10_as_21 : decode cX10_as 21 = .ok (.iconst 0, 1) := by decide +kernel
theorem dX10_as_22 : decode cX10_as 22 = .ok (.iconst 2, 1) := by decide +kernel
theorem dX10_as_23 : decode cX10_as 23 = .ok (.invokestatic 54, 3) := by decide +kernel
theorem dX10_as_26 : decode cX10_as 26 = .ok (.ifCond .ne 6, 3) := by decide +kernel
theorem dX10_as_29 : decode cX10_as 29 = .ok (.bipush (-2), 2) := by decide +kernel
theorem dX10_as_31 : decode cX10_as 31 = .ok (.ireturn, 1) := by decide +kernel
theorem dX10_as_32 : decode cX10_as 32 = .ok (.iload_n 2, 1) := by decide +kernel
theorem dX10_as_33 : decode cX10_as 33 = .ok (.ifCond .eq 27, 3) := by decide +kernel
theorem dX10_as_36 : decode cX10_as 36 = .ok (.iload_n 2, 1) := by decide +kernel
theorem dX10_as_37 : decode cX10_as 37 = .ok (.iconst 1, 1) := by decide +kernel
theorem dX10_as_38 : decode cX10_as 38 = .ok (.if_icmp .ne 10, 3) := by decide +kernel
theorem dX10_as_41 : decode cX10_as 41 = .ok (.aload_n 3, 1) := by decide +kernel
theorem dX10_as_42 : decode cX10_as 42 = .ok (.instanceof 246, 3) := by decide +kernel
theorem dX10_as_45 : decode cX10_as 45 = .ok (.ifCond .ne 15, 3) := by decide +kernel
theorem dX10_as_48 : decode cX10_as 48 = .ok (.iload_n 2, 1) := by decide +kernel
theorem dX10_as_49 : decode cX10_as 49 = .ok (.iconst 2, 1) := by decide +kernel
theorem dX10_as_50 : decode cX10_as 50 = .ok (.if_icmp .ne 14, 3) := by decide +kernel
theorem dX10_as_53 : decode cX10_as 53 = .ok (.aload_n 3, 1) := by decide +kernel
theorem dX10_as_54 : decode cX10_as 54 = .ok (.instanceof 248, 3) := by decide +kernel
theorem dX10_as_57 : decode cX10_as 57 = .ok (.ifCond .eq 7, 3) := by decide +kernel
theorem dX10_as_60 : decode cX10_as 60 = .ok (.iconst 1, 1) := by decide +kernel
theorem dX10_as_61 : decode cX10_as 61 = .ok (.goto 4, 3) := by decide +kernel
theorem dX10_as_64 : decode cX10_as 64 = .ok (.iconst 0, 1) := by decide +kernel
theorem dX10_as_65 : decode cX10_as 65 = .ok (.istore 4, 2) := by decide +kernel
theorem dX10_as_67 : decode cX10_as 67 = .ok (.iload 4, 2) := by decide +kernel
theorem dX10_as_69 : decode cX10_as 69 = .ok (.ifCond .eq 7, 3) := by decide +kernel
theorem dX10_as_72 : decode cX10_as 72 = .ok (.iconst 1, 1) := by decide +kernel
theorem dX10_as_73 : decode cX10_as 73 = .ok (.goto 8, 3) := by decide +kernel
theorem dX10_as_76 : decode cX10_as 76 = .ok (.aload_n 0, 1) := by decide +kernel
theorem dX10_as_77 : decode cX10_as 77 = .ok (.iconst 2, 1) := by decide +kernel
theorem dX10_as_78 : decode cX10_as 78 = .ok (.invokevirtual 66, 3) := by decide +kernel
theorem dX10_as_81 : decode cX10_as 81 = .ok (.ireturn, 1) := by decide +kernel
theorem dX10_trace_0 : decode cX10_trace 0 = .ok (.aload_n 0, 1) := by decide +kernel
theorem dX10_trace_1 : decode cX10_trace 1 = .ok (.getfield 41, 3) := by decide +kernel
theorem dX10_trace_4 : decode cX10_trace 4 = .ok (.getfield 250, 3) := by decide +kernel
theorem dX10_trace_7 : decode cX10_trace 7 = .ok (.ireturn, 1) := by decide +kernel
theorem dX10_fault_0 : decode cX10_fault 0 = .ok (.aload_n 0, 1) := by decide +kernel
theorem dX10_fault_1 : decode cX10_fault 1 = .ok (.getfield 45, 3) := by decide +kernel
theorem dX10_fault_4 : decode cX10_fault 4 = .ok (.ireturn, 1) := by decide +kernel
theorem dX10_many_0 : decode cX10_many 0 = .ok (.iload_n 1, 1) := by decide +kernel
theorem dX10_many_1 : decode cX10_many 1 = .ok (.tableswitch 65 0 3 #[31, 40, 49, 57], 31) := by decide +kernel
theorem dX10_many_32 : decode cX10_many 32 = .ok (.aload_n 0, 1) := by decide +kernel
theorem dX10_many_33 : decode cX10_many 33 = .ok (.getfield 20, 3) := by decide +kernel
theorem dX10_many_36 : decode cX10_many 36 = .ok (.getfield 85, 3) := by decide +kernel
theorem dX10_many_39 : decode cX10_many 39 = .ok (.arraylength, 1) := by decide +kernel
theorem dX10_many_40 : decode cX10_many 40 = .ok (.ireturn, 1) := by decide +kernel
theorem dX10_many_41 : decode cX10_many 41 = .ok (.aload_n 0, 1) := by decide +kernel
theorem dX10_many_42 : decode cX10_many 42 = .ok (.getfield 20, 3) := by decide +kernel
theorem dX10_many_45 : decode cX10_many 45 = .ok (.getfield 181, 3) := by decide +kernel
theorem dX10_many_48 : decode cX10_many 48 = .ok (.arraylength, 1) := by decide +kernel
theorem dX10_many_49 : decode cX10_many 49 = .ok (.ireturn, 1) := by decide +kernel
theorem dX10_many_50 : decode cX10_many 50 = .ok (.aload_n 0, 1) := by decide +kernel
theorem dX10_many_51 : decode cX10_many 51 = .ok (.getfield 20, 3) := by decide +kernel
theorem dX10_many_54 : decode cX10_many 54 = .ok (.getfield 126, 3) := by decide +kernel
theorem dX10_many_57 : decode cX10_many 57 = .ok (.ireturn, 1) := by decide +kernel
theorem dX10_many_58 : decode cX10_many 58 = .ok (.aload_n 0, 1) := by decide +kernel
theorem dX10_many_59 : decode cX10_many 59 = .ok (.getfield 34, 3) := by decide +kernel
theorem dX10_many_62 : decode cX10_many 62 = .ok (.getfield 82, 3) := by decide +kernel
theorem dX10_many_65 : decode cX10_many 65 = .ok (.ireturn, 1) := by decide +kernel
theorem dX10_many_66 : decode cX10_many 66 = .ok (.bipush (-2), 2) := by decide +kernel
theorem dX10_many_68 : decode cX10_many 68 = .ok (.ireturn, 1) := by decide +kernel
theorem dX10_isWithin_0 : decode cX10_isWithin 0 = .ok (.iload_n 0, 1) := by decide +kernel
theorem dX10_isWithin_1 : decode cX10_isWithin 1 = .ok (.iload_n 1, 1) := by decide +kernel
theorem dX10_isWithin_2 : decode cX10_isWithin 2 = .ok (.if_icmp .lt 12, 3) := by decide +kernel
theorem dX10_isWithin_5 : decode cX10_isWithin 5 = .ok (.iload_n 0, 1) := by decide +kernel
theorem dX10_isWithin_6 : decode cX10_isWithin 6 = .ok (.iload_n 2, 1) := by decide +kernel
theorem dX10_isWithin_7 : decode cX10_isWithin 7 = .ok (.if_icmp .gt 7, 3) := by decide +kernel
theorem dX10_isWithin_10 : decode cX10_isWithin 10 = .ok (.iconst 1, 1) := by decide +kernel
theorem dX10_isWithin_11 : decode cX10_isWithin 11 = .ok (.goto 4, 3) := by decide +kernel
theorem dX10_isWithin_14 : decode cX10_isWithin 14 = .ok (.iconst 0, 1) := by decide +kernel
theorem dX10_isWithin_15 : decode cX10_isWithin 15 = .ok (.ireturn, 1) := by decide +kernel
set_option maxRecDepth 20000 in
theorem ggX10_isDay_X10_isWithin : GoodIn wsX10_isDay wsX10_isWithin := goodIn_r _ [4] (by decide +kernel) (by decide +kernel)
set_option maxRecDepth 20000 in
theorem gX10_isDay_X10_isWithin : GoodIn wsX10_isDay (va_wsS RX10 54 yX10_isWithin wsX10_isWithin) := goodIn_app (goodIn_of _ (by decide +kernel)) ggX10_isDay_X10_isWithin
theorem dX10_isDay_0 : decode cX10_isDay 0 = .ok (.iload_n 0, 1) := by decide +kernel
theorem dX10_isDay_1 : decode cX10_isDay 1 = .ok (.iconst 0, 1) := by decide +kernel
theorem dX10_isDay_2 : decode cX10_isDay 2 = .ok (.bipush 7, 2) := by decide +kernel
theorem dX10_isDay_4 : decode cX10_isDay 4 = .ok (.invokestatic 54, 3) := by decide +kernel
theorem dX10_isDay_7 : decode cX10_isDay 7 = .ok (.ireturn, 1) := by decide +kernel
set_option maxRecDepth 20000 in
theorem ggX10_isAskedOfPassages_X10_isWithin : GoodIn wsX10_isAskedOfPassages wsX10_isWithin := goodIn_r _ [4] (by decide +kernel) (by decide +kernel)
set_option maxRecDepth 20000 in
theorem gX10_isAskedOfPassages_X10_isWithin : GoodIn wsX10_isAskedOfPassages (va_wsS RX10 54 yX10_isWithin wsX10_isWithin) := goodIn_app (goodIn_of _ (by decide +kernel)) ggX10_isAskedOfPassages_X10_isWithin
theorem dX10_isAskedOfPassages_0 : decode cX10_isAskedOfPassages 0 = .ok (.iload_n 0, 1) := by decide +kernel
theorem dX10_isAskedOfPassages_1 : decode cX10_isAskedOfPassages 1 = .ok (.iconst 0, 1) := by decide +kernel
theorem dX10_isAskedOfPassages_2 : decode cX10_isAskedOfPassages 2 = .ok (.iconst 1, 1) := by decide +kernel
theorem dX10_isAskedOfPassages_3 : decode cX10_isAskedOfPassages 3 = .ok (.invokestatic 54, 3) := by decide +kernel
theorem dX10_isAskedOfPassages_6 : decode cX10_isAskedOfPassages 6 = .ok (.ifCond .ne 25, 3) := by decide +kernel
theorem dX10_isAskedOfPassages_9 : decode cX10_isAskedOfPassages 9 = .ok (.iload_n 0, 1) := by decide +kernel
theorem dX10_isAskedOfPassages_10 : decode cX10_isAskedOfPassages 10 = .ok (.bipush 10, 2) := by decide +kernel
theorem dX10_isAskedOfPassages_12 : decode cX10_isAskedOfPassages 12 = .ok (.bipush 13, 2) := by decide +kernel
theorem dX10_isAskedOfPassages_14 : decode cX10_isAskedOfPassages 14 = .ok (.invokestatic 54, 3) := by decide +kernel
theorem dX10_isAskedOfPassages_17 : decode cX10_isAskedOfPassages 17 = .ok (.ifCond .ne 14, 3) := by decide +kernel
theorem dX10_isAskedOfPassages_20 : decode cX10_isAskedOfPassages 20 = .ok (.iload_n 0, 1) := by decide +kernel
theorem dX10_isAskedOfPassages_21 : decode cX10_isAskedOfPassages 21 = .ok (.bipush 20, 2) := by decide +kernel
theorem dX10_isAskedOfPassages_23 : decode cX10_isAskedOfPassages 23 = .ok (.bipush 24, 2) := by decide +kernel
theorem dX10_isAskedOfPassages_25 : decode cX10_isAskedOfPassages 25 = .ok (.invokestatic 54, 3) := by decide +kernel
theorem dX10_isAskedOfPassages_28 : decode cX10_isAskedOfPassages 28 = .ok (.ifCond .eq 7, 3) := by decide +kernel
theorem dX10_isAskedOfPassages_31 : decode cX10_isAskedOfPassages 31 = .ok (.iconst 1, 1) := by decide +kernel
theorem dX10_isAskedOfPassages_32 : decode cX10_isAskedOfPassages 32 = .ok (.goto 4, 3) := by decide +kernel
theorem dX10_isAskedOfPassages_35 : decode cX10_isAskedOfPassages 35 = .ok (.iconst 0, 1) := by decide +kernel
theorem dX10_isAskedOfPassages_36 : decode cX10_isAskedOfPassages 36 = .ok (.ireturn, 1) := by decide +kernel
theorem dX10_commonDivisor_0 : decode cX10_commonDivisor 0 = .ok (.iload_n 0, 1) := by decide +kernel
theorem dX10_commonDivisor_1 : decode cX10_commonDivisor 1 = .ok (.istore_n 2, 1) := by decide +kernel
theorem dX10_commonDivisor_2 : decode cX10_commonDivisor 2 = .ok (.iload_n 1, 1) := by decide +kernel
theorem dX10_commonDivisor_3 : decode cX10_commonDivisor 3 = .ok (.istore_n 3, 1) := by decide +kernel
theorem dX10_commonDivisor_4 : decode cX10_commonDivisor 4 = .ok (.iconst 0, 1) := by decide +kernel
theorem dX10_commonDivisor_5 : decode cX10_commonDivisor 5 = .ok (.istore 4, 2) := by decide +kernel
theorem dX10_commonDivisor_7 : decode cX10_commonDivisor 7 = .ok (.iload 4, 2) := by decide +kernel
theorem dX10_commonDivisor_9 : decode cX10_commonDivisor 9 = .ok (.bipush 64, 2) := by decide +kernel
theorem dX10_commonDivisor_11 : decode cX10_commonDivisor 11 = .ok (.if_icmp .ge 23, 3) := by decide +kernel
theorem dX10_commonDivisor_14 : decode cX10_commonDivisor 14 = .ok (.iload_n 3, 1) := by decide +kernel
theorem dX10_commonDivisor_15 : decode cX10_commonDivisor 15 = .ok (.ifCond .eq 19, 3) := by decide +kernel
theorem dX10_commonDivisor_18 : decode cX10_commonDivisor 18 = .ok (.iload_n 2, 1) := by decide +kernel
theorem dX10_commonDivisor_19 : decode cX10_commonDivisor 19 = .ok (.iload_n 3, 1) := by decide +kernel
theorem dX10_commonDivisor_20 : decode cX10_commonDivisor 20 = .ok (.irem, 1) := by decide +kernel
theorem dX10_commonDivisor_21 : decode cX10_commonDivisor 21 = .ok (.istore 5, 2) := by decide +kernel
theorem dX10_commonDivisor_23 : decode cX10_commonDivisor 23 = .ok (.iload_n 3, 1) := by decide +kernel
theorem dX10_commonDivisor_24 : decode cX10_commonDivisor 24 = .ok (.istore_n 2, 1) := by decide +kernel
theorem dX10_commonDivisor_25 : decode cX10_commonDivisor 25 = .ok (.iload 5, 2) := by decide +kernel
theorem dX10_commonDivisor_27 : decode cX10_commonDivisor 27 = .ok (.istore_n 3, 1) := by decide +kernel
theorem dX10_commonDivisor_28 : decode cX10_commonDivisor 28 = .ok (.iinc 4 1, 3) := by decide +kernel
theorem dX10_commonDivisor_31 : decode cX10_commonDivisor 31 = .ok (.goto (-24), 3) := by decide +kernel
theorem dX10_commonDivisor_34 : decode cX10_commonDivisor 34 = .ok (.iload_n 2, 1) := by decide +kernel
theorem dX10_commonDivisor_35 : decode cX10_commonDivisor 35 = .ok (.ifCond .le 7, 3) := by decide +kernel
theorem dX10_commonDivisor_38 : decode cX10_commonDivisor 38 = .ok (.iload_n 2, 1) := by decide +kernel
theorem dX10_commonDivisor_39 : decode cX10_commonDivisor 39 = .ok (.goto 4, 3) := by decide +kernel
theorem dX10_commonDivisor_42 : decode cX10_commonDivisor 42 = .ok (.iconst 1, 1) := by decide +kernel
theorem dX10_commonDivisor_43 : decode cX10_commonDivisor 43 = .ok (.ireturn, 1) := by decide +kernel
set_option maxRecDepth 20000 in
theorem ggX10_rowAt_X10_isWithin : GoodIn wsX10_rowAt wsX10_isWithin := goodIn_r _ [5] (by decide +kernel) (by decide +kernel)
set_option maxRecDepth 20000 in
theorem gX10_rowAt_X10_isWithin : GoodIn wsX10_rowAt (va_wsS RX10 54 yX10_isWithin wsX10_isWithin) := goodIn_app (goodIn_of _ (by decide +kernel)) ggX10_rowAt_X10_isWithin
theorem dX10_rowAt_0 : decode cX10_rowAt 0 = .ok (.iload_n 1, 1) := by decide +kernel
theorem dX10_rowAt_1 : decode cX10_rowAt 1 = .ok (.iconst 0, 1) := by decide +kernel
theorem dX10_rowAt_2 : decode cX10_rowAt 2 = .ok (.iconst 3, 1) := by decide +kernel
theorem dX10_rowAt_3 : decode cX10_rowAt 3 = .ok (.invokestatic 54, 3) := by decide +kernel
theorem dX10_rowAt_6 : decode cX10_rowAt 6 = .ok (.ifCond .eq 12, 3) := by decide +kernel
theorem dX10_rowAt_9 : decode cX10_rowAt 9 = .ok (.aload_n 0, 1) := by decide +kernel
theorem dX10_rowAt_10 : decode cX10_rowAt 10 = .ok (.getfield 13, 3) := by decide +kernel
theorem dX10_rowAt_13 : decode cX10_rowAt 13 = .ok (.iload_n 1, 1) := by decide +kernel
theorem dX10_rowAt_14 : decode cX10_rowAt 14 = .ok (.aaload, 1) := by decide +kernel
theorem dX10_rowAt_15 : decode cX10_rowAt 15 = .ok (.goto 4, 3) := by decide +kernel
theorem dX10_rowAt_18 : decode cX10_rowAt 18 = .ok (.aconst_null, 1) := by decide +kernel
theorem dX10_rowAt_19 : decode cX10_rowAt 19 = .ok (.areturn, 1) := by decide +kernel
theorem dX10_failBy_0 : decode cX10_failBy 0 = .ok (.aload_n 0, 1) := by decide +kernel
theorem dX10_failBy_1 : decode cX10_failBy 1 = .ok (.iload_n 1, 1) := by decide +kernel
theorem dX10_failBy_2 : decode cX10_failBy 2 = .ok (.putfield 45, 3) := by decide +kernel
theorem dX10_failBy_5 : decode cX10_failBy 5 = .ok (.bipush (-10), 2) := by decide +kernel
theorem dX10_failBy_7 : decode cX10_failBy 7 = .ok (.iload_n 1, 1) := by decide +kernel
theorem dX10_failBy_8 : decode cX10_failBy 8 = .ok (.isub, 1) := by decide +kernel
theorem dX10_failBy_9 : decode cX10_failBy 9 = .ok (.ireturn, 1) := by decide +kernel
set_option maxRecDepth 20000 in
theorem ggX10_readRoute_X10_rowAt : GoodIn wsX10_readRoute wsX10_rowAt := goodIn_r _ [7, 8, 9, 10, 6, 11, 94, 95, 96, 97, 98, 99] (by decide +kernel) (by decide +kernel)
set_option maxRecDepth 20000 in
theorem gX10_readRoute_X10_rowAt : GoodIn wsX10_readRoute (wsV RX10 50 RX10 yX10_rowAt wsX10_rowAt) := goodIn_app (goodIn_of _ (by decide +kernel)) ggX10_readRoute_X10_rowAt
set_option maxRecDepth 20000 in
theorem ggX10_readRoute_X10_isWithin : GoodIn wsX10_readRoute wsX10_isWithin := goodIn_r _ [11] (by decide +kernel) (by decide +kernel)
set_option maxRecDepth 20000 in
theorem gX10_readRoute_X10_isWithin : GoodIn wsX10_readRoute (va_wsS RX10 54 yX10_isWithin wsX10_isWithin) := goodIn_app (goodIn_of _ (by decide +kernel)) ggX10_readRoute_X10_isWithin
set_option maxRecDepth 20000 in
theorem ggX10_readRoute_X4_faultTakenAs : GoodIn wsX10_readRoute wsX4_faultTakenAs := goodIn_r _ [16, 17, 18, 19, 20, 15, 21, 100, 101, 102] (by decide +kernel) (by decide +kernel)
set_option maxRecDepth 20000 in
theorem gX10_readRoute_X4_faultTakenAs : GoodIn wsX10_readRoute (wsV RX10 58 RX4 yX4_faultTakenAs wsX4_faultTakenAs) := goodIn_app (goodIn_of _ (by decide +kernel)) ggX10_readRoute_X4_faultTakenAs
set_option maxRecDepth 20000 in
theorem ggX10_readRoute_X4_hasCells : GoodIn wsX10_readRoute wsX4_hasCells := goodIn_r _ [25, 26, 100, 101, 102] (by decide +kernel) (by decide +kernel)
set_option maxRecDepth 20000 in
theorem gX10_readRoute_X4_hasCells : GoodIn wsX10_readRoute (wsV RX10 62 RX4 yX4_hasCells wsX4_hasCells) := goodIn_app (goodIn_of _ (by decide +kernel)) ggX10_readRoute_X4_hasCells
set_option maxRecDepth 20000 in
theorem ggX10_readRoute_X10_failBy : GoodIn wsX10_readRoute wsX10_failBy := goodIn_r _ [30, 31, 94, 95, 96, 97, 98, 99] (by decide +kernel) (by decide +kernel)
set_option maxRecDepth 20000 in
theorem gX10_readRoute_X10_failBy : GoodIn wsX10_readRoute (wsV RX10 66 RX10 yX10_failBy wsX10_failBy) := goodIn_app (goodIn_of _ (by decide +kernel)) ggX10_readRoute_X10_failBy
set_option maxRecDepth 20000 in
theorem ggX10_readRoute_X8_stands : GoodIn wsX10_readRoute wsX8_stands := goodIn_r _ [36, 37, 103, 104, 105, 106, 107, 108] (by decide +kernel) (by decide +kernel)
set_option maxRecDepth 20000 in
theorem gX10_readRoute_X8_stands : GoodIn wsX10_readRoute (wsV RX10 122 RX8 yX8_stands wsX8_stands) := goodIn_app (goodIn_of _ (by decide +kernel)) ggX10_readRoute_X8_stands
set_option maxRecDepth 20000 in
theorem ggX10_readRoute_X3_begin : GoodIn wsX10_readRoute wsX3_begin := goodIn_r _ [42, 43, 44, 45, 46, 47, 48, 49, 50, 109, 110, 111, 112, 113, 114, 115, 116] (by decide +kernel) (by decide +kernel)
set_option maxRecDepth 20000 in
theorem gX10_readRoute_X3_begin : GoodIn wsX10_readRoute (wsV RX10 253 RX3 yX3_begin wsX3_begin) := goodIn_app (goodIn_of _ (by decide +kernel)) ggX10_readRoute_X3_begin
set_option maxRecDepth 20000 in
theorem ggX10_readRoute_X4_read : GoodIn wsX10_readRoute wsX4_read := goodIn_r _ [54, 55, 56, 57, 58, 15, 59, 26, 100, 101, 102] (by decide +kernel) (by decide +kernel)
set_option maxRecDepth 20000 in
theorem gX10_readRoute_X4_read : GoodIn wsX10_readRoute (wsV RX10 223 RX4 yX4_read wsX4_read) := goodIn_app (goodIn_of _ (by decide +kernel)) ggX10_readRoute_X4_read
set_option maxRecDepth 20000 in
theorem ggX10_readRoute_X8_storyAt : GoodIn wsX10_readRoute wsX8_storyAt := goodIn_r _ [63, 37, 103, 104, 105, 106, 107, 108] (by decide +kernel) (by decide +kernel)
set_option maxRecDepth 20000 in
theorem gX10_readRoute_X8_storyAt : GoodIn wsX10_readRoute (wsV RX10 104 RX8 yX8_storyAt wsX8_storyAt) := goodIn_app (goodIn_of _ (by decide +kernel)) ggX10_readRoute_X8_storyAt
set_option maxRecDepth 20000 in
theorem ggX10_readRoute_X8_gateAt : GoodIn wsX10_readRoute wsX8_gateAt := goodIn_r _ [67, 68, 103, 104, 105, 106, 107, 108] (by decide +kernel) (by decide +kernel)
set_option maxRecDepth 20000 in
theorem gX10_readRoute_X8_gateAt : GoodIn wsX10_readRoute (wsV RX10 89 RX8 yX8_gateAt wsX8_gateAt) := goodIn_app (goodIn_of _ (by decide +kernel)) ggX10_readRoute_X8_gateAt
set_option maxRecDepth 20000 in
theorem ggX10_readRoute_X10_isDay : GoodIn wsX10_readRoute wsX10_isDay := goodIn_r _ [71, 9, 10, 6, 11] (by decide +kernel) (by decide +kernel)
set_option maxRecDepth 20000 in
theorem gX10_readRoute_X10_isDay : GoodIn wsX10_readRoute (va_wsS RX10 129 yX10_isDay wsX10_isDay) := goodIn_app (goodIn_of _ (by decide +kernel)) ggX10_readRoute_X10_isDay
set_option maxRecDepth 20000 in
theorem ggX10_readRoute_X5_isBornBy : GoodIn wsX10_readRoute wsX5_isBornBy := goodIn_r _ [76, 77, 117, 118, 119] (by decide +kernel) (by decide +kernel)
set_option maxRecDepth 20000 in
theorem gX10_readRoute_X5_isBornBy : GoodIn wsX10_readRoute (wsV RX10 133 RX5 yX5_isBornBy wsX5_isBornBy) := goodIn_app (goodIn_of _ (by decide +kernel)) ggX10_readRoute_X5_isBornBy
set_option maxRecDepth 20000 in
theorem ggX10_readRoute_X3_pass : GoodIn wsX10_readRoute wsX3_pass := goodIn_r _ [81, 44, 45, 82, 46, 83, 84, 85, 86, 10, 6, 11, 87, 88, 89, 41, 90, 43, 91, 92, 93, 109, 110, 111, 112, 113, 114, 115, 116] (by decide +kernel) (by decide +kernel)
set_option maxRecDepth 20000 in
theorem gX10_readRoute_X3_pass : GoodIn wsX10_readRoute (wsV RX10 255 RX3 yX3_pass wsX3_pass) := goodIn_app (goodIn_of _ (by decide +kernel)) ggX10_readRoute_X3_pass
theorem dX10_readRoute_0 : decode cX10_readRoute 0 = .ok (.aload_n 0, 1) := by decide +kernel
theorem dX10_readRoute_1 : decode cX10_readRoute 1 = .ok (.iload_n 1, 1) := by decide +kernel
theorem dX10_readRoute_2 : decode cX10_readRoute 2 = .ok (.invokevirtual 50, 3) := by decide +kernel
theorem dX10_readRoute_5 : decode cX10_readRoute 5 = .ok (.astore 5, 2) := by decide +kernel
theorem dX10_readRoute_7 : decode cX10_readRoute 7 = .ok (.aload 5, 2) := by decide +kernel
theorem dX10_readRoute_9 : decode cX10_readRoute 9 = .ok (.ifnonnull 5, 3) := by decide +kernel
theorem dX10_readRoute_12 : decode cX10_readRoute 12 = .ok (.iconst (-1), 1) := by decide +kernel
theorem dX10_readRoute_13 : decode cX10_readRoute 13 = .ok (.ireturn, 1) := by decide +kernel
theorem dX10_readRoute_14 : decode cX10_readRoute 14 = .ok (.iload_n 2, 1) := by decide +kernel
theorem dX10_readRoute_15 : decode cX10_readRoute 15 = .ok (.iconst 0, 1) := by decide +kernel
theorem dX10_readRoute_16 : decode cX10_readRoute 16 = .ok (.iconst 2, 1) := by decide +kernel
theorem dX10_readRoute_17 : decode cX10_readRoute 17 = .ok (.invokestatic 54, 3) := by decide +kernel
theorem dX10_readRoute_20 : decode cX10_readRoute 20 = .ok (.ifCond .eq 14, 3) := by decide +kernel
theorem dX10_readRoute_23 : decode cX10_readRoute 23 = .ok (.iload 4, 2) := by decide +kernel
theorem dX10_readRoute_25 : decode cX10_readRoute 25 = .ok (.iconst 0, 1) := by decide +kernel
theorem dX10_readRoute_26 : decode cX10_readRoute 26 = .ok (.bipush 12, 2) := by decide +kernel
theorem dX10_readRoute_28 : decode cX10_readRoute 28 = .ok (.invokestatic 54, 3) := by decide +kernel
theorem dX10_readRoute_31 : decode cX10_readRoute 31 = .ok (.ifCond .ne 6, 3) := by decide +kernel
theorem dX10_readRoute_34 : decode cX10_readRoute 34 = .ok (.bipush (-2), 2) := by decide +kernel
theorem dX10_readRoute_36 : decode cX10_readRoute 36 = .ok (.ireturn, 1) := by decide +kernel
theorem dX10_readRoute_37 : decode cX10_readRoute 37 = .ok (.aload 5, 2) := by decide +kernel
theorem dX10_readRoute_39 : decode cX10_readRoute 39 = .ok (.iload_n 2, 1) := by decide +kernel
theorem dX10_readRoute_40 : decode cX10_readRoute 40 = .ok (.invokevirtual 58, 3) := by decide +kernel
theorem dX10_readRoute_43 : decode cX10_readRoute 43 = .ok (.istore 6, 2) := by decide +kernel
theorem dX10_readRoute_45 : decode cX10_readRoute 45 = .ok (.iload 6, 2) := by decide +kernel
theorem dX10_readRoute_47 : decode cX10_readRoute 47 = .ok (.ifCond .ne 19, 3) := by decide +kernel
theorem dX10_readRoute_50 : decode cX10_readRoute 50 = .ok (.aload 5, 2) := by decide +kernel
theorem dX10_readRoute_52 : decode cX10_readRoute 52 = .ok (.iload_n 3, 1) := by decide +kernel
theorem dX10_readRoute_53 : decode cX10_readRoute 53 = .ok (.iconst 3, 1) := by decide +kernel
theorem dX10_readRoute_54 : decode cX10_readRoute 54 = .ok (.iload 4, 2) := by decide +kernel
theorem dX10_readRoute_56 : decode cX10_readRoute 56 = .ok (.imul, 1) := by decide +kernel
theorem dX10_readRoute_57 : decode cX10_readRoute 57 = .ok (.invokevirtual 62, 3) := by decide +kernel
theorem dX10_readRoute_60 : decode cX10_readRoute 60 = .ok (.ifCond .ne 6, 3) := by decide +kernel
theorem dX10_readRoute_63 : decode cX10_readRoute 63 = .ok (.iconst 3, 1) := by decide +kernel
theorem dX10_readRoute_64 : decode cX10_readRoute 64 = .ok (.istore 6, 2) := by decide +kernel
theorem dX10_readRoute_66 : decode cX10_readRoute 66 = .ok (.iload 6, 2) := by decide +kernel
theorem dX10_readRoute_68 : decode cX10_readRoute 68 = .ok (.ifCond .eq 10, 3) := by decide +kernel
theorem dX10_readRoute_71 : decode cX10_readRoute 71 = .ok (.aload_n 0, 1) := by decide +kernel
theorem dX10_readRoute_72 : decode cX10_readRoute 72 = .ok (.iload 6, 2) := by decide +kernel
theorem dX10_readRoute_74 : decode cX10_readRoute 74 = .ok (.invokevirtual 66, 3) := by decide +kernel
theorem dX10_readRoute_77 : decode cX10_readRoute 77 = .ok (.ireturn, 1) := by decide +kernel
theorem dX10_readRoute_78 : decode cX10_readRoute 78 = .ok (.aload_n 0, 1) := by decide +kernel
theorem dX10_readRoute_79 : decode cX10_readRoute 79 = .ok (.getfield 20, 3) := by decide +kernel
theorem dX10_readRoute_82 : decode cX10_readRoute 82 = .ok (.invokevirtual 122, 3) := by decide +kernel
theorem dX10_readRoute_85 : decode cX10_readRoute 85 = .ok (.ifCond .ne 6, 3) := by decide +kernel
theorem dX10_readRoute_88 : decode cX10_readRoute 88 = .ok (.bipush (-3), 2) := by decide +kernel
theorem dX10_readRoute_90 : decode cX10_readRoute 90 = .ok (.ireturn, 1) := by decide +kernel
theorem dX10_readRoute_91 : decode cX10_readRoute 91 = .ok (.aload_n 0, 1) := by decide +kernel
theorem dX10_readRoute_92 : decode cX10_readRoute 92 = .ok (.getfield 27, 3) := by decide +kernel
theorem dX10_readRoute_95 : decode cX10_readRoute 95 = .ok (.invokevirtual 253, 3) := by decide +kernel
theorem dX10_readRoute_98 : decode cX10_readRoute 98 = .ok (.iconst 0, 1) := by decide +kernel
theorem dX10_readRoute_99 : decode cX10_readRoute 99 = .ok (.istore 7, 2) := by decide +kernel
theorem dX10_readRoute_101 : decode cX10_readRoute 101 = .ok (.iload 7, 2) := by decide +kernel
theorem dX10_readRoute_103 : decode cX10_readRoute 103 = .ok (.iload 4, 2) := by decide +kernel
theorem dX10_readRoute_105 : decode cX10_readRoute 105 = .ok (.if_icmp .ge 115, 3) := by decide +kernel
theorem dX10_readRoute_108 : decode cX10_readRoute 108 = .ok (.aload 5, 2) := by decide +kernel
theorem dX10_readRoute_110 : decode cX10_readRoute 110 = .ok (.iload_n 3, 1) := by decide +kernel
theorem dX10_readRoute_111 : decode cX10_readRoute 111 = .ok (.iconst 3, 1) := by decide +kernel
theorem dX10_readRoute_112 : decode cX10_readRoute 112 = .ok (.iload 7, 2) := by decide +kernel
theorem dX10_readRoute_114 : decode cX10_readRoute 114 = .ok (.imul, 1) := by decide +kernel
theorem dX10_readRoute_115 : decode cX10_readRoute 115 = .ok (.iadd, 1) := by decide +kernel
theorem dX10_readRoute_116 : decode cX10_readRoute 116 = .ok (.invokevirtual 223, 3) := by decide +kernel
theorem dX10_readRoute_119 : decode cX10_readRoute 119 = .ok (.istore 8, 2) := by decide +kernel
theorem dX10_readRoute_121 : decode cX10_readRoute 121 = .ok (.aload 5, 2) := by decide +kernel
theorem dX10_readRoute_123 : decode cX10_readRoute 123 = .ok (.iload_n 3, 1) := by decide +kernel
theorem dX10_readRoute_124 : decode cX10_readRoute 124 = .ok (.iconst 3, 1) := by decide +kernel
theorem dX10_readRoute_125 : decode cX10_readRoute 125 = .ok (.iload 7, 2) := by decide +kernel
theorem dX10_readRoute_127 : decode cX10_readRoute 127 = .ok (.imul, 1) := by decide +kernel
theorem dX10_readRoute_128 : decode cX10_readRoute 128 = .ok (.iadd, 1) := by decide +kernel
theorem dX10_readRoute_129 : decode cX10_readRoute 129 = .ok (.iconst 1, 1) := by decide +kernel
theorem dX10_readRoute_130 : decode cX10_readRoute 130 = .ok (.iadd, 1) := by decide +kernel
theorem dX10_readRoute_131 : decode cX10_readRoute 131 = .ok (.invokevirtual 223, 3) := by decide +kernel
theorem dX10_readRoute_134 : decode cX10_readRoute 134 = .ok (.istore 9, 2) := by decide +kernel
theorem dX10_readRoute_136 : decode cX10_readRoute 136 = .ok (.aload 5, 2) := by decide +kernel
theorem dX10_readRoute_138 : decode cX10_readRoute 138 = .ok (.iload_n 3, 1) := by decide +kernel
theorem dX10_readRoute_139 : decode cX10_readRoute 139 = .ok (.iconst 3, 1) := by decide +kernel
theorem dX10_readRoute_140 : decode cX10_readRoute 140 = .ok (.iload 7, 2) := by decide +kernel
theorem dX10_readRoute_142 : decode cX10_readRoute 142 = .ok (.imul, 1) := by decide +kernel
theorem dX10_readRoute_143 : decode cX10_readRoute 143 = .ok (.iadd, 1) := by decide +kernel
theorem dX10_readRoute_144 : decode cX10_readRoute 144 = .ok (.iconst 2, 1) := by decide +kernel
theorem dX10_readRoute_145 : decode cX10_readRoute 145 = .ok (.iadd, 1) := by decide +kernel
theorem dX10_readRoute_146 : decode cX10_readRoute 146 = .ok (.invokevirtual 223, 3) := by decide +kernel
theorem dX10_readRoute_149 : decode cX10_readRoute 149 = .ok (.istore 10, 2) := by decide +kernel
theorem dX10_readRoute_151 : decode cX10_readRoute 151 = .ok (.aload_n 0, 1) := by decide +kernel
theorem dX10_readRoute_152 : decode cX10_readRoute 152 = .ok (.getfield 20, 3) := by decide +kernel
theorem dX10_readRoute_155 : decode cX10_readRoute 155 = .ok (.iload 8, 2) := by decide +kernel
theorem dX10_readRoute_157 : decode cX10_readRoute 157 = .ok (.invokevirtual 104, 3) := by decide +kernel
theorem dX10_readRoute_160 : decode cX10_readRoute 160 = .ok (.astore 11, 2) := by decide +kernel
theorem dX10_readRoute_162 : decode cX10_readRoute 162 = .ok (.aload 11, 2) := by decide +kernel
theorem dX10_readRoute_164 : decode cX10_readRoute 164 = .ok (.ifnull 15, 3) := by decide +kernel
theorem dX10_readRoute_167 : decode cX10_readRoute 167 = .ok (.aload_n 0, 1) := by decide +kernel
theorem dX10_readRoute_168 : decode cX10_readRoute 168 = .ok (.getfield 20, 3) := by decide +kernel
theorem dX10_readRoute_171 : decode cX10_readRoute 171 = .ok (.iload 9, 2) := by decide +kernel
theorem dX10_readRoute_173 : decode cX10_readRoute 173 = .ok (.invokevirtual 89, 3) := by decide +kernel
theorem dX10_readRoute_176 : decode cX10_readRoute 176 = .ok (.ifnonnull 5, 3) := by decide +kernel
theorem dX10_readRoute_179 : decode cX10_readRoute 179 = .ok (.iconst (-1), 1) := by decide +kernel
theorem dX10_readRoute_180 : decode cX10_readRoute 180 = .ok (.ireturn, 1) := by decide +kernel
theorem dX10_readRoute_181 : decode cX10_readRoute 181 = .ok (.iload 10, 2) := by decide +kernel
theorem dX10_readRoute_183 : decode cX10_readRoute 183 = .ok (.invokestatic 129, 3) := by decide +kernel
theorem dX10_readRoute_186 : decode cX10_readRoute 186 = .ok (.ifCond .ne 6, 3) := by decide +kernel
theorem dX10_readRoute_189 : decode cX10_readRoute 189 = .ok (.bipush (-2), 2) := by decide +kernel
theorem dX10_readRoute_191 : decode cX10_readRoute 191 = .ok (.ireturn, 1) := by decide +kernel
theorem dX10_readRoute_192 : decode cX10_readRoute 192 = .ok (.aload_n 0, 1) := by decide +kernel
theorem dX10_readRoute_193 : decode cX10_readRoute 193 = .ok (.getfield 27, 3) := by decide +kernel
theorem dX10_readRoute_196 : decode cX10_readRoute 196 = .ok (.iload 7, 2) := by decide +kernel
theorem dX10_readRoute_198 : decode cX10_readRoute 198 = .ok (.iload 8, 2) := by decide +kernel
theorem dX10_readRoute_200 : decode cX10_readRoute 200 = .ok (.iload 9, 2) := by decide +kernel
theorem dX10_readRoute_202 : decode cX10_readRoute 202 = .ok (.iload 10, 2) := by decide +kernel
theorem dX10_readRoute_204 : decode cX10_readRoute 204 = .ok (.aload 11, 2) := by decide +kernel
theorem dX10_readRoute_206 : decode cX10_readRoute 206 = .ok (.iload 10, 2) := by decide +kernel
theorem dX10_readRoute_208 : decode cX10_readRoute 208 = .ok (.invokevirtual 133, 3) := by decide +kernel
theorem dX10_readRoute_211 : decode cX10_readRoute 211 = .ok (.invokevirtual 255, 3) := by decide +kernel
theorem dX10_readRoute_214 : decode cX10_readRoute 214 = .ok (.iinc 7 1, 3) := by decide +kernel
theorem dX10_readRoute_217 : decode cX10_readRoute 217 = .ok (.goto (-116), 3) := by decide +kernel
theorem dX10_readRoute_220 : decode cX10_readRoute 220 = .ok (.iconst 0, 1) := by decide +kernel
theorem dX10_readRoute_221 : decode cX10_readRoute 221 = .ok (.ireturn, 1) := by decide +kernel
set_option maxRecDepth 20000 in
theorem ggX10_bitIfSo_X8_collect : GoodIn wsX10_bitIfSo wsX8_collect := goodIn_r _ [12, 13, 14, 15, 16, 17, 18, 19, 20, 21, 22, 23, 24, 25, 26, 11, 27, 28, 29, 30, 31, 32, 33, 34, 35, 36, 37, 38, 39, 40, 41, 42, 43, 44, 45, 46, 47, 48, 49, 50, 51, 52, 53, 54, 55, 56, 57, 58, 59, 60, 61, 62, 63, 64, 65, 66, 67, 68, 69, 70, 71, 72, 73, 74, 75, 76, 77, 78, 79, 80, 81, 82, 83, 84, 85, 86, 87, 88, 89, 114, 115, 116, 117, 118, 119, 103, 104, 105, 106, 107, 108, 109, 110, 120, 121, 122, 123, 124, 125, 126, 127, 128, 129, 130, 131] (by decide +kernel) (by decide +kernel)
set_option maxRecDepth 20000 in
theorem gX10_bitIfSo_X8_collect : GoodIn wsX10_bitIfSo (wsV RX10 156 RX8 yX8_collect wsX8_collect) := goodIn_app (goodIn_of _ (by decide +kernel)) ggX10_bitIfSo_X8_collect
set_option maxRecDepth 20000 in
theorem ggX10_bitIfSo_X8_takenAt : GoodIn wsX10_bitIfSo wsX8_takenAt := goodIn_r _ [93, 13, 94, 95, 96, 114, 115, 116, 117, 118, 119] (by decide +kernel) (by decide +kernel)
set_option maxRecDepth 20000 in
theorem gX10_bitIfSo_X8_takenAt : GoodIn wsX10_bitIfSo (wsV RX10 163 RX8 yX8_takenAt wsX8_takenAt) := goodIn_app (goodIn_of _ (by decide +kernel)) ggX10_bitIfSo_X8_takenAt
theorem dX10_bitIfSo_0 : decode cX10_bitIfSo 0 = .ok (.aload_n 0, 1) := by decide +kernel
theorem dX10_bitIfSo_1 : decode cX10_bitIfSo 1 = .ok (.getfield 27, 3) := by decide +kernel
theorem dX10_bitIfSo_4 : decode cX10_bitIfSo 4 = .ok (.getfield 150, 3) := by decide +kernel
theorem dX10_bitIfSo_7 : decode cX10_bitIfSo 7 = .ok (.bipush (-9), 2) := by decide +kernel
theorem dX10_bitIfSo_9 : decode cX10_bitIfSo 9 = .ok (.if_icmp .eq 5, 3) := by decide +kernel
theorem dX10_bitIfSo_12 : decode cX10_bitIfSo 12 = .ok (.iconst 0, 1) := by decide +kernel
theorem dX10_bitIfSo_13 : decode cX10_bitIfSo 13 = .ok (.ireturn, 1) := by decide +kernel
theorem dX10_bitIfSo_14 : decode cX10_bitIfSo 14 = .ok (.aload_n 0, 1) := by decide +kernel
theorem dX10_bitIfSo_15 : decode cX10_bitIfSo 15 = .ok (.getfield 20, 3) := by decide +kernel
theorem dX10_bitIfSo_18 : decode cX10_bitIfSo 18 = .ok (.aload_n 0, 1) := by decide +kernel
theorem dX10_bitIfSo_19 : decode cX10_bitIfSo 19 = .ok (.getfield 27, 3) := by decide +kernel
theorem dX10_bitIfSo_22 : decode cX10_bitIfSo 22 = .ok (.invokevirtual 156, 3) := by decide +kernel
theorem dX10_bitIfSo_25 : decode cX10_bitIfSo 25 = .ok (.iconst 0, 1) := by decide +kernel
theorem dX10_bitIfSo_26 : decode cX10_bitIfSo 26 = .ok (.istore_n 2, 1) := by decide +kernel
theorem dX10_bitIfSo_27 : decode cX10_bitIfSo 27 = .ok (.iload_n 2, 1) := by decide +kernel
theorem dX10_bitIfSo_28 : decode cX10_bitIfSo 28 = .ok (.aload_n 0, 1) := by decide +kernel
theorem dX10_bitIfSo_29 : decode cX10_bitIfSo 29 = .ok (.getfield 34, 3) := by decide +kernel
theorem dX10_bitIfSo_32 : decode cX10_bitIfSo 32 = .ok (.getfield 82, 3) := by decide +kernel
theorem dX10_bitIfSo_35 : decode cX10_bitIfSo 35 = .ok (.if_icmp .ge 39, 3) := by decide +kernel
theorem dX10_bitIfSo_38 : decode cX10_bitIfSo 38 = .ok (.aload_n 0, 1) := by decide +kernel
theorem dX10_bitIfSo_39 : decode cX10_bitIfSo 39 = .ok (.getfield 20, 3) := by decide +kernel
theorem dX10_bitIfSo_42 : decode cX10_bitIfSo 42 = .ok (.aload_n 0, 1) := by decide +kernel
theorem dX10_bitIfSo_43 : decode cX10_bitIfSo 43 = .ok (.getfield 34, 3) := by decide +kernel
theorem dX10_bitIfSo_46 : decode cX10_bitIfSo 46 = .ok (.getfield 259, 3) := by decide +kernel
theorem dX10_bitIfSo_49 : decode cX10_bitIfSo 49 = .ok (.iload_n 2, 1) := by decide +kernel
theorem dX10_bitIfSo_50 : decode cX10_bitIfSo 50 = .ok (.iaload, 1) := by decide +kernel
theorem dX10_bitIfSo_51 : decode cX10_bitIfSo 51 = .ok (.invokevirtual 163, 3) := by decide +kernel
theorem dX10_bitIfSo_54 : decode cX10_bitIfSo 54 = .ok (.aload_n 0, 1) := by decide +kernel
theorem dX10_bitIfSo_55 : decode cX10_bitIfSo 55 = .ok (.getfield 34, 3) := by decide +kernel
theorem dX10_bitIfSo_58 : decode cX10_bitIfSo 58 = .ok (.getfield 261, 3) := by decide +kernel
theorem dX10_bitIfSo_61 : decode cX10_bitIfSo 61 = .ok (.iload_n 2, 1) := by decide +kernel
theorem dX10_bitIfSo_62 : decode cX10_bitIfSo 62 = .ok (.iaload, 1) := by decide +kernel
theorem dX10_bitIfSo_63 : decode cX10_bitIfSo 63 = .ok (.if_icmp .eq 5, 3) := by decide +kernel
theorem dX10_bitIfSo_66 : decode cX10_bitIfSo 66 = .ok (.iconst 0, 1) := by decide +kernel
theorem dX10_bitIfSo_67 : decode cX10_bitIfSo 67 = .ok (.ireturn, 1) := by decide +kernel
theorem dX10_bitIfSo_68 : decode cX10_bitIfSo 68 = .ok (.iinc 2 1, 3) := by decide +kernel
theorem dX10_bitIfSo_71 : decode cX10_bitIfSo 71 = .ok (.goto (-44), 3) := by decide +kernel
theorem dX10_bitIfSo_74 : decode cX10_bitIfSo 74 = .ok (.iconst 1, 1) := by decide +kernel
theorem dX10_bitIfSo_75 : decode cX10_bitIfSo 75 = .ok (.iload_n 1, 1) := by decide +kernel
theorem dX10_bitIfSo_76 : decode cX10_bitIfSo 76 = .ok (.ishl, 1) := by decide +kernel
theorem dX10_bitIfSo_77 : decode cX10_bitIfSo 77 = .ok (.ireturn, 1) := by decide +kernel
