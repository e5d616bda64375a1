theorem dX0_init_0 : decode cX0_init 0 = .ok (.aload_n 0, 1) := by decide +kernel
theorem dX0_init_1 : decode cX0_init 1 = .ok (.invokespecial 1, 3) := by decide +kernel
theorem dX0_init_4 : decode cX0_init 4 = .ok (.aload_n 0, 1) := by decide +kernel
theorem dX0_init_5 : decode cX0_init 5 = .ok (.iload_n 1, 1) := by decide +kernel
theorem dX0_init_6 : decode cX0_init 6 = .ok (.putfield 7, 3) := by decide +kernel
theorem dX0_init_9 : decode cX0_init 9 = .ok (.aload_n 0, 1) := by decide +kernel
theorem dX0_init_10 : decode cX0_init 10 = .ok (.iload_n 2, 1) := by decide +kernel
theorem dX0_init_11 : decode cX0_init 11 = .ok (.putfield 13, 3) := by decide +kernel
theorem dX0_init_14 : decode cX0_init 14 = .ok (.aload_n 0, 1) := by decide +kernel
theorem dX0_init_15 : decode cX0_init 15 = .ok (.iload_n 3, 1) := by decide +kernel
theorem dX0_init_16 : decode cX0_init 16 = .ok (.putfield 16, 3) := by decide +kernel
theorem dX0_init_19 : decode cX0_init 19 = .ok (.return_, 1) := by decide +kernel
theorem dX0_kind_0 : decode cX0_kind 0 = .ok (.iconst 0, 1) := by decide +kernel
theorem dX0_kind_1 : decode cX0_kind 1 = .ok (.ireturn, 1) := by decide +kernel
set_option maxRecDepth 20000 in
theorem ggX0_takes_X0_plainTakes : GoodIn wsX0_takes wsX0_plainTakes := goodIn_r _ [5, 6, 11, 12, 13, 14, 15, 16, 17, 18, 19] (by decide +kernel) (by decide +kernel)
set_option maxRecDepth 20000 in
theorem gX0_takes_X0_plainTakes : GoodIn wsX0_takes (wsV RX0 19 RX0 yX0_plainTakes wsX0_plainTakes) := goodIn_app (goodIn_of _ (by decide +kernel)) ggX0_takes_X0_plainTakes
set_option maxRecDepth 20000 in
theorem gX0_takes_X0_plainTakes_u19X1 : GoodIn wsX0_takes (va_wsU RX0 19 RX1 "GossipGate$Gate" ⟨"GossipGate$Gate", "plainTakes", "(II)I"⟩ yX0_plainTakes wsX0_plainTakes) := goodIn_app (goodIn_of _ (by decide +kernel)) ggX0_takes_X0_plainTakes
set_option maxRecDepth 20000 in
theorem gX0_takes_X0_plainTakes_u19X6 : GoodIn wsX0_takes (va_wsU RX0 19 RX6 "GossipGate$Gate" ⟨"GossipGate$Gate", "plainTakes", "(II)I"⟩ yX0_plainTakes wsX0_plainTakes) := goodIn_app (goodIn_of _ (by decide +kernel)) ggX0_takes_X0_plainTakes
theorem dX0_takes_0 : decode cX0_takes 0 = .ok (.aload_n 0, 1) := by decide +kernel
theorem dX0_takes_1 : decode cX0_takes 1 = .ok (.iload_n 1, 1) := by decide +kernel
theorem dX0_takes_2 : decode cX0_takes 2 = .ok (.iload_n 2, 1) := by decide +kernel
theorem dX0_takes_3 : decode cX0_takes 3 = .ok (.invokevirtual 19, 3) := by decide +kernel
theorem dX0_takes_6 : decode cX0_takes 6 = .ok (.ireturn, 1) := by decide +kernel
set_option maxRecDepth 20000 in
theorem ggX0_telling_X0_plainTelling : GoodIn wsX0_telling wsX0_plainTelling := goodIn_r _ [5, 6, 7, 8, 9, 10, 11, 12, 17, 18, 19, 20, 21, 22, 23, 24, 25, 26] (by decide +kernel) (by decide +kernel)
set_option maxRecDepth 20000 in
theorem gX0_telling_X0_plainTelling : GoodIn wsX0_telling (wsV RX0 23 RX0 yX0_plainTelling wsX0_plainTelling) := goodIn_app (goodIn_of _ (by decide +kernel)) ggX0_telling_X0_plainTelling
set_option maxRecDepth 20000 in
theorem gX0_telling_X0_plainTelling_u23X1 : GoodIn wsX0_telling (va_wsU RX0 23 RX1 "GossipGate$Gate" ⟨"GossipGate$Gate", "plainTelling", "(LGossipGate$Trace;)I"⟩ yX0_plainTelling wsX0_plainTelling) := goodIn_app (goodIn_of _ (by decide +kernel)) ggX0_telling_X0_plainTelling
set_option maxRecDepth 20000 in
theorem gX0_telling_X0_plainTelling_u23X6 : GoodIn wsX0_telling (va_wsU RX0 23 RX6 "GossipGate$Gate" ⟨"GossipGate$Gate", "plainTelling", "(LGossipGate$Trace;)I"⟩ yX0_plainTelling wsX0_plainTelling) := goodIn_app (goodIn_of _ (by decide +kernel)) ggX0_telling_X0_plainTelling
theorem dX0_telling_0 : decode cX0_telling 0 = .ok (.aload_n 0, 1) := by decide +kernel
theorem dX0_telling_1 : decode cX0_telling 1 = .ok (.aload_n 1, 1) := by decide +kernel
theorem dX0_telling_2 : decode cX0_telling 2 = .ok (.invokevirtual 23, 3) := by decide +kernel
theorem dX0_telling_5 : decode cX0_telling 5 = .ok (.ireturn, 1) := by decide +kernel
set_option maxRecDepth 20000 in
theorem ggX0_knocking_X9_leave : GoodIn wsX0_knocking wsX9_leave := goodIn_r _ [6, 7, 17] (by decide +kernel) (by decide +kernel)
set_option maxRecDepth 20000 in
theorem gX0_knocking_X9_leave : GoodIn wsX0_knocking (wsV RX0 27 RX9 yX9_leave wsX9_leave) := goodIn_app (goodIn_of _ (by decide +kernel)) ggX0_knocking_X9_leave
theorem dX0_knocking_0 : decode cX0_knocking 0 = .ok (.aload_n 1, 1) := by decide +kernel
theorem dX0_knocking_1 : decode cX0_knocking 1 = .ok (.iconst 4, 1) := by decide +kernel
theorem dX0_knocking_2 : decode cX0_knocking 2 = .ok (.invokevirtual 27, 3) := by decide +kernel
theorem dX0_knocking_5 : decode cX0_knocking 5 = .ok (.aload_n 0, 1) := by decide +kernel
theorem dX0_knocking_6 : decode cX0_knocking 6 = .ok (.getfield 7, 3) := by decide +kernel
theorem dX0_knocking_9 : decode cX0_knocking 9 = .ok (.ireturn, 1) := by decide +kernel
theorem dX0_plainTakes_0 : decode cX0_plainTakes 0 = .ok (.iload_n 1, 1) := by decide +kernel
theorem dX0_plainTakes_1 : decode cX0_plainTakes 1 = .ok (.aload_n 0, 1) := by decide +kernel
theorem dX0_plainTakes_2 : decode cX0_plainTakes 2 = .ok (.getfield 13, 3) := by decide +kernel
theorem dX0_plainTakes_5 : decode cX0_plainTakes 5 = .ok (.imul, 1) := by decide +kernel
theorem dX0_plainTakes_6 : decode cX0_plainTakes 6 = .ok (.iload_n 2, 1) := by decide +kernel
theorem dX0_plainTakes_7 : decode cX0_plainTakes 7 = .ok (.imul, 1) := by decide +kernel
theorem dX0_plainTakes_8 : decode cX0_plainTakes 8 = .ok (.ireturn, 1) := by decide +kernel
set_option maxRecDepth 20000 in
theorem ggX0_plainTelling_X9_leave : GoodIn wsX0_plainTelling wsX9_leave := goodIn_r _ [6, 7, 17] (by decide +kernel) (by decide +kernel)
set_option maxRecDepth 20000 in
theorem gX0_plainTelling_X9_leave : GoodIn wsX0_plainTelling (wsV RX0 27 RX9 yX9_leave wsX9_leave) := goodIn_app (goodIn_of _ (by decide +kernel)) ggX0_plainTelling_X9_leave
theorem dX0_plainTelling_0 : decode cX0_plainTelling 0 = .ok (.aload_n 1, 1) := by decide +kernel
theorem dX0_plainTelling_1 : decode cX0_plainTelling 1 = .ok (.iconst 1, 1) := by decide +kernel
theorem dX0_plainTelling_2 : decode cX0_plainTelling 2 = .ok (.invokevirtual 27, 3) := by decide +kernel
theorem dX0_plainTelling_5 : decode cX0_plainTelling 5 = .ok (.aload_n 0, 1) := by decide +kernel
theorem dX0_plainTelling_6 : decode cX0_plainTelling 6 = .ok (.getfield 13, 3) := by decide +kernel
theorem dX0_plainTelling_9 : decode cX0_plainTelling 9 = .ok (.ireturn, 1) := by decide +kernel
set_option maxRecDepth 20000 in
theorem ggX1_init_X6_init : GoodIn wsX1_init wsX6_init := goodIn_r _ [4, 5, 6, 7, 8, 9, 10, 11, 12, 13, 14, 15, 16, 17, 18, 19, 20, 21, 22, 23] (by decide +kernel) (by decide +kernel)
set_option maxRecDepth 20000 in
theorem gX1_init_X6_init : GoodIn wsX1_init (wsX6_init) := ggX1_init_X6_init
theorem dX1_init_0 : decode cX1_init 0 = .ok (.aload_n 0, 1) := by decide +kernel
theorem dX1_init_1 : decode cX1_init 1 = .ok (.iload_n 1, 1) := by decide +kernel
theorem dX1_init_2 : decode cX1_init 2 = .ok (.iload_n 2, 1) := by decide +kernel
theorem dX1_init_3 : decode cX1_init 3 = .ok (.iload_n 3, 1) := by decide +kernel
theorem dX1_init_4 : decode cX1_init 4 = .ok (.invokespecial 1, 3) := by decide +kernel
theorem dX1_init_7 : decode cX1_init 7 = .ok (.return_, 1) := by decide +kernel
theorem dX1_kind_0 : decode cX1_kind 0 = .ok (.iconst 2, 1) := by decide +kernel
theorem dX1_kind_1 : decode cX1_kind 1 = .ok (.ireturn, 1) := by decide +kernel
set_option maxRecDepth 20000 in
theorem ggX1_takes_X0_plainTakes : GoodIn wsX1_takes wsX0_plainTakes := goodIn_r _ [6, 7, 8, 9, 10, 11, 12, 13, 14, 15, 16] (by decide +kernel) (by decide +kernel)
set_option maxRecDepth 20000 in
theorem gX1_takes_X0_plainTakes_u7X1 : GoodIn wsX1_takes (va_wsU RX1 7 RX1 "GossipGate$Gate" ⟨"GossipGate$Lax", "plainTakes", "(II)I"⟩ yX0_plainTakes wsX0_plainTakes) := goodIn_app (goodIn_of _ (by decide +kernel)) ggX1_takes_X0_plainTakes
theorem dX1_takes_0 : decode cX1_takes 0 = .ok (.aload_n 0, 1) := by decide +kernel
theorem dX1_takes_1 : decode cX1_takes 1 = .ok (.iload_n 1, 1) := by decide +kernel
theorem dX1_takes_2 : decode cX1_takes 2 = .ok (.iload_n 2, 1) := by decide +kernel
theorem dX1_takes_3 : decode cX1_takes 3 = .ok (.invokevirtual 7, 3) := by decide +kernel
theorem dX1_takes_6 : decode cX1_takes 6 = .ok (.iconst 2, 1) := by decide +kernel
theorem dX1_takes_7 : decode cX1_takes 7 = .ok (.idiv, 1) := by decide +kernel
theorem dX1_takes_8 : decode cX1_takes 8 = .ok (.ireturn, 1) := by decide +kernel
set_option maxRecDepth 20000 in
theorem ggX1_telling_X9_leave : GoodIn wsX1_telling wsX9_leave := goodIn_r _ [5, 6, 33] (by decide +kernel) (by decide +kernel)
set_option maxRecDepth 20000 in
theorem gX1_telling_X9_leave : GoodIn wsX1_telling (wsV RX1 13 RX9 yX9_leave wsX9_leave) := goodIn_app (goodIn_of _ (by decide +kernel)) ggX1_telling_X9_leave
set_option maxRecDepth 20000 in
theorem ggX1_telling_X6_telling : GoodIn wsX1_telling wsX6_telling := goodIn_r _ [12, 13, 2, 3, 4, 5, 6, 14, 15, 16, 17, 18, 19, 20, 21, 22, 23, 24, 25, 26, 27, 28, 29, 33, 34, 35, 36, 37, 38, 39, 40, 41, 42] (by decide +kernel) (by decide +kernel)
set_option maxRecDepth 20000 in
theorem gX1_telling_X6_telling_s19 : GoodIn wsX1_telling (va_wsSU RX1 19 yX6_telling wsX6_telling) := goodIn_app (goodIn_of _ (by decide +kernel)) ggX1_telling_X6_telling
set_option maxRecDepth 20000 in
theorem ggX1_telling_X0_plainTelling : GoodIn wsX1_telling wsX0_plainTelling := goodIn_r _ [23, 24, 25, 2, 3, 4, 5, 6, 34, 35, 36, 37, 38, 39, 40, 41, 42, 33] (by decide +kernel) (by decide +kernel)
set_option maxRecDepth 20000 in
theorem gX1_telling_X0_plainTelling_u23X1 : GoodIn wsX1_telling (va_wsU RX1 23 RX1 "GossipGate$Gate" ⟨"GossipGate$Lax", "plainTelling", "(LGossipGate$Trace;)I"⟩ yX0_plainTelling wsX0_plainTelling) := goodIn_app (goodIn_of _ (by decide +kernel)) ggX1_telling_X0_plainTelling
theorem dX1_telling_0 : decode cX1_telling 0 = .ok (.aload_n 1, 1) := by decide +kernel
theorem dX1_telling_1 : decode cX1_telling 1 = .ok (.iconst 3, 1) := by decide +kernel
theorem dX1_telling_2 : decode cX1_telling 2 = .ok (.invokevirtual 13, 3) := by decide +kernel
theorem dX1_telling_5 : decode cX1_telling 5 = .ok (.aload_n 0, 1) := by decide +kernel
theorem dX1_telling_6 : decode cX1_telling 6 = .ok (.aload_n 1, 1) := by decide +kernel
theorem dX1_telling_7 : decode cX1_telling 7 = .ok (.invokespecial 19, 3) := by decide +kernel
theorem dX1_telling_10 : decode cX1_telling 10 = .ok (.istore_n 2, 1) := by decide +kernel
theorem dX1_telling_11 : decode cX1_telling 11 = .ok (.iload_n 2, 1) := by decide +kernel
theorem dX1_telling_12 : decode cX1_telling 12 = .ok (.aload_n 0, 1) := by decide +kernel
theorem dX1_telling_13 : decode cX1_telling 13 = .ok (.aload_n 1, 1) := by decide +kernel
theorem dX1_telling_14 : decode cX1_telling 14 = .ok (.invokevirtual 23, 3) := by decide +kernel
theorem dX1_telling_17 : decode cX1_telling 17 = .ok (.iadd, 1) := by decide +kernel
theorem dX1_telling_18 : decode cX1_telling 18 = .ok (.ireturn, 1) := by decide +kernel
set_option maxRecDepth 20000 in
theorem ggX1_knocking_X9_leave : GoodIn wsX1_knocking wsX9_leave := goodIn_r _ [5, 6, 7] (by decide +kernel) (by decide +kernel)
set_option maxRecDepth 20000 in
theorem gX1_knocking_X9_leave : GoodIn wsX1_knocking (wsV RX1 13 RX9 yX9_leave wsX9_leave) := goodIn_app (goodIn_of _ (by decide +kernel)) ggX1_knocking_X9_leave
theorem dX1_knocking_0 : decode cX1_knocking 0 = .ok (.aload_n 1, 1) := by decide +kernel
theorem dX1_knocking_1 : decode cX1_knocking 1 = .ok (.iconst 5, 1) := by decide +kernel
theorem dX1_knocking_2 : decode cX1_knocking 2 = .ok (.invokevirtual 13, 3) := by decide +kernel
theorem dX1_knocking_5 : decode cX1_knocking 5 = .ok (.bipush 90, 2) := by decide +kernel
theorem dX1_knocking_7 : decode cX1_knocking 7 = .ok (.ireturn, 1) := by decide +kernel
theorem dX2_init_0 : decode cX2_init 0 = .ok (.aload_n 0, 1) := by decide +kernel
theorem dX2_init_1 : decode cX2_init 1 = .ok (.invokespecial 3, 3) := by decide +kernel
theorem dX2_init_4 : decode cX2_init 4 = .ok (.aload_n 0, 1) := by decide +kernel
theorem dX2_init_5 : decode cX2_init 5 = .ok (.bipush 8, 2) := by decide +kernel
theorem dX2_init_7 : decode cX2_init 7 = .ok (.newarray .int, 2) := by decide +kernel
theorem dX2_init_9 : decode cX2_init 9 = .ok (.putfield 9, 3) := by decide +kernel
theorem dX2_init_12 : decode cX2_init 12 = .ok (.aload_n 0, 1) := by decide +kernel
theorem dX2_init_13 : decode cX2_init 13 = .ok (.bipush 8, 2) := by decide +kernel
theorem dX2_init_15 : decode cX2_init 15 = .ok (.newarray .int, 2) := by decide +kernel
theorem dX2_init_17 : decode cX2_init 17 = .ok (.putfield 15, 3) := by decide +kernel
theorem dX2_init_20 : decode cX2_init 20 = .ok (.aload_n 0, 1) := by decide +kernel
theorem dX2_init_21 : decode cX2_init 21 = .ok (.iconst 0, 1) := by decide +kernel
theorem dX2_init_22 : decode cX2_init 22 = .ok (.putfield 18, 3) := by decide +kernel
theorem dX2_init_25 : decode cX2_init 25 = .ok (.return_, 1) := by decide +kernel
theorem dX2_note_0 : decode cX2_note 0 = .ok (.aload_n 0, 1) := by decide +kernel
theorem dX2_note_1 : decode cX2_note 1 = .ok (.getfield 18, 3) := by decide +kernel
theorem dX2_note_4 : decode cX2_note 4 = .ok (.bipush 8, 2) := by decide +kernel
theorem dX2_note_6 : decode cX2_note 6 = .ok (.if_icmp .lt 6, 3) := by decide +kernel
theorem dX2_note_9 : decode cX2_note 9 = .ok (.bipush (-4), 2) := by decide +kernel
theorem dX2_note_11 : decode cX2_note 11 = .ok (.ireturn, 1) := by decide +kernel
theorem dX2_note_12 : decode cX2_note 12 = .ok (.aload_n 0, 1) := by decide +kernel
theorem dX2_note_13 : decode cX2_note 13 = .ok (.getfield 9, 3) := by decide +kernel
theorem dX2_note_16 : decode cX2_note 16 = .ok (.aload_n 0, 1) := by decide +kernel
theorem dX2_note_17 : decode cX2_note 17 = .ok (.getfield 18, 3) := by decide +kernel
theorem dX2_note_20 : decode cX2_note 20 = .ok (.iload_n 1, 1) := by decide +kernel
theorem dX2_note_21 : decode cX2_note 21 = .ok (.iastore, 1) := by decide +kernel
theorem dX2_note_22 : decode cX2_note 22 = .ok (.aload_n 0, 1) := by decide +kernel
theorem dX2_note_23 : decode cX2_note 23 = .ok (.getfield 15, 3) := by decide +kernel
theorem dX2_note_26 : decode cX2_note 26 = .ok (.aload_n 0, 1) := by decide +kernel
theorem dX2_note_27 : decode cX2_note 27 = .ok (.getfield 18, 3) := by decide +kernel
theorem dX2_note_30 : decode cX2_note 30 = .ok (.iload_n 2, 1) := by decide +kernel
theorem dX2_note_31 : decode cX2_note 31 = .ok (.iastore, 1) := by decide +kernel
theorem dX2_note_32 : decode cX2_note 32 = .ok (.aload_n 0, 1) := by decide +kernel
theorem dX2_note_33 : decode cX2_note 33 = .ok (.dup, 1) := by decide +kernel
theorem dX2_note_34 : decode cX2_note 34 = .ok (.getfield 18, 3) := by decide +kernel
theorem dX2_note_37 : decode cX2_note 37 = .ok (.iconst 1, 1) := by decide +kernel
theorem dX2_note_38 : decode cX2_note 38 = .ok (.iadd, 1) := by decide +kernel
theorem dX2_note_39 : decode cX2_note 39 = .ok (.putfield 18, 3) := by decide +kernel
theorem dX2_note_42 : decode cX2_note 42 = .ok (.aload_n 0, 1) := by decide +kernel
theorem dX2_note_43 : decode cX2_note 43 = .ok (.getfield 18, 3) := by decide +kernel
theorem dX2_note_46 : decode cX2_note 46 = .ok (.iconst 1, 1) := by decide +kernel
theorem dX2_note_47 : decode cX2_note 47 = .ok (.isub, 1) := by decide +kernel
theorem dX2_note_48 : decode cX2_note 48 = .ok (.ireturn, 1) := by decide +kernel
theorem dX3_init_0 : decode cX3_init 0 = .ok (.aload_n 0, 1) := by decide +kernel
theorem dX3_init_1 : decode cX3_init 1 = .ok (.invokespecial 3, 3) := by decide +kernel
theorem dX3_init_4 : decode cX3_init 4 = .ok (.aload_n 0, 1) := by decide +kernel
theorem dX3_init_5 : decode cX3_init 5 = .ok (.bipush 12, 2) := by decide +kernel
theorem dX3_init_7 : decode cX3_init 7 = .ok (.newarray .int, 2) := by decide +kernel
theorem dX3_init_9 : decode cX3_init 9 = .ok (.putfield 9, 3) := by decide +kernel
theorem dX3_init_12 : decode cX3_init 12 = .ok (.aload_n 0, 1) := by decide +kernel
theorem dX3_init_13 : decode cX3_init 13 = .ok (.bipush 12, 2) := by decide +kernel
theorem dX3_init_15 : decode cX3_init 15 = .ok (.newarray .int, 2) := by decide +kernel
theorem dX3_init_17 : decode cX3_init 17 = .ok (.putfield 15, 3) := by decide +kernel
theorem dX3_init_20 : decode cX3_init 20 = .ok (.aload_n 0, 1) := by decide +kernel
theorem dX3_init_21 : decode cX3_init 21 = .ok (.bipush 12, 2) := by decide +kernel
theorem dX3_init_23 : decode cX3_init 23 = .ok (.newarray .int, 2) := by decide +kernel
theorem dX3_init_25 : decode cX3_init 25 = .ok (.putfield 18, 3) := by decide +kernel
theorem dX3_init_28 : decode cX3_init 28 = .ok (.aload_n 0, 1) := by decide +kernel
theorem dX3_init_29 : decode cX3_init 29 = .ok (.bipush 12, 2) := by decide +kernel
theorem dX3_init_31 : decode cX3_init 31 = .ok (.newarray .int, 2) := by decide +kernel
theorem dX3_init_33 : decode cX3_init 33 = .ok (.putfield 21, 3) := by decide +kernel
theorem dX3_init_36 : decode cX3_init 36 = .ok (.aload_n 0, 1) := by decide +kernel
theorem dX3_init_37 : decode cX3_init 37 = .ok (.iconst 0, 1) := by decide +kernel
theorem dX3_init_38 : decode cX3_init 38 = .ok (.putfield 24, 3) := by decide +kernel
theorem dX3_init_41 : decode cX3_init 41 = .ok (.aload_n 0, 1) := by decide +kernel
theorem dX3_init_42 : decode cX3_init 42 = .ok (.bipush (-9), 2) := by decide +kernel
theorem dX3_init_44 : decode cX3_init 44 = .ok (.putfield 28, 3) := by decide +kernel
theorem dX3_init_47 : decode cX3_init 47 = .ok (.aload_n 0, 1) := by decide +kernel
theorem dX3_init_48 : decode cX3_init 48 = .ok (.iconst 4, 1) := by decide +kernel
theorem dX3_init_49 : decode cX3_init 49 = .ok (.newarray .int, 2) := by decide +kernel
theorem dX3_init_51 : decode cX3_init 51 = .ok (.putfield 31, 3) := by decide +kernel
theorem dX3_init_54 : decode cX3_init 54 = .ok (.aload_n 0, 1) := by decide +kernel
theorem dX3_init_55 : decode cX3_init 55 = .ok (.iconst 4, 1) := by decide +kernel
theorem dX3_init_56 : decode cX3_init 56 = .ok (.newarray .int, 2) := by decide +kernel
theorem dX3_init_58 : decode cX3_init 58 = .ok (.putfield 34, 3) := by decide +kernel
theorem dX3_init_61 : decode cX3_init 61 = .ok (.return_, 1) := by decide +kernel
set_option maxRecDepth 20000 in
theorem ggX3_begin_J7_fill_53178 : GoodIn wsX3_begin wsJ7_fill_53178 := goodIn_r _ [8] (by decide +kernel) (by decide +kernel)
set_option maxRecDepth 20000 in
theorem gX3_begin_J7_fill_53178 : GoodIn wsX3_begin (va_wsS RX3 37 yJ7_fill_53178 wsJ7_fill_53178) := goodIn_app (goodIn_of _ (by decide +kernel)) ggX3_begin_J7_fill_53178
theorem dX3_begin_0 : decode cX3_begin 0 = .ok (.aload_n 0, 1) := by decide +kernel
theorem dX3_begin_1 : decode cX3_begin 1 = .ok (.iconst 0, 1) := by decide +kernel
theorem dX3_begin_2 : decode cX3_begin 2 = .ok (.putfield 24, 3) := by decide +kernel
theorem dX3_begin_5 : decode cX3_begin 5 = .ok (.aload_n 0, 1) := by decide +kernel
theorem dX3_begin_6 : decode cX3_begin 6 = .ok (.bipush (-9), 2) := by decide +kernel
theorem dX3_begin_8 : decode cX3_begin 8 = .ok (.putfield 28, 3) := by decide +kernel
theorem dX3_begin_11 : decode cX3_begin 11 = .ok (.aload_n 0, 1) := by decide +kernel
theorem dX3_begin_12 : decode cX3_begin 12 = .ok (.getfield 31, 3) := by decide +kernel
theorem dX3_begin_15 : decode cX3_begin 15 = .ok (.iconst 0, 1) := by decide +kernel
theorem dX3_begin_16 : decode cX3_begin 16 = .ok (.invokestatic 37, 3) := by decide +kernel
theorem dX3_begin_19 : decode cX3_begin 19 = .ok (.aload_n 0, 1) := by decide +kernel
theorem dX3_begin_20 : decode cX3_begin 20 = .ok (.getfield 34, 3) := by decide +kernel
theorem dX3_begin_23 : decode cX3_begin 23 = .ok (.iconst 0, 1) := by decide +kernel
theorem dX3_begin_24 : decode cX3_begin 24 = .ok (.invokestatic 37, 3) := by decide +kernel
theorem dX3_begin_27 : decode cX3_begin 27 = .ok (.return_, 1) := by decide +kernel
set_option maxRecDepth 20000 in
theorem ggX3_pass_X10_isWithin : GoodIn wsX3_pass wsX10_isWithin := goodIn_r _ [11] (by decide +kernel) (by decide +kernel)
set_option maxRecDepth 20000 in
theorem gX3_pass_X10_isWithin_n43 : GoodIn wsX3_pass (wsX10_isWithin) := ggX3_pass_X10_isWithin
set_option maxRecDepth 20000 in
theorem ggX3_pass_X3_bundleOf : GoodIn wsX3_pass wsX3_bundleOf := goodIn_r _ [16, 17, 18, 19, 20, 3, 21, 22, 23, 24, 25, 26, 27, 28] (by decide +kernel) (by decide +kernel)
set_option maxRecDepth 20000 in
theorem gX3_pass_X3_bundleOf : GoodIn wsX3_pass (wsV RX3 47 RX3 yX3_bundleOf wsX3_bundleOf) := goodIn_app (goodIn_of _ (by decide +kernel)) ggX3_pass_X3_bundleOf
theorem dX3_pass_0 : decode cX3_pass 0 = .ok (.aload_n 0, 1) := by decide +kernel
theorem dX3_pass_1 : decode cX3_pass 1 = .ok (.getfield 28, 3) := by decide +kernel
theorem dX3_pass_4 : decode cX3_pass 4 = .ok (.bipush (-9), 2) := by decide +kernel
theorem dX3_pass_6 : decode cX3_pass 6 = .ok (.if_icmp .ne 12, 3) := by decide +kernel
theorem dX3_pass_9 : decode cX3_pass 9 = .ok (.iload_n 2, 1) := by decide +kernel
theorem dX3_pass_10 : decode cX3_pass 10 = .ok (.iconst 0, 1) := by decide +kernel
theorem dX3_pass_11 : decode cX3_pass 11 = .ok (.iconst 3, 1) := by decide +kernel
theorem dX3_pass_12 : decode cX3_pass 12 = .ok (.invokestatic 43, 3) := by decide +kernel
theorem dX3_pass_15 : decode cX3_pass 15 = .ok (.ifCond .ne 4, 3) := by decide +kernel
theorem dX3_pass_18 : decode cX3_pass 18 = .ok (.return_, 1) := by decide +kernel
theorem dX3_pass_19 : decode cX3_pass 19 = .ok (.iload 5, 2) := by decide +kernel
theorem dX3_pass_21 : decode cX3_pass 21 = .ok (.ifCond .eq 13, 3) := by decide +kernel
theorem dX3_pass_24 : decode cX3_pass 24 = .ok (.aload_n 0, 1) := by decide +kernel
theorem dX3_pass_25 : decode cX3_pass 25 = .ok (.getfield 31, 3) := by decide +kernel
theorem dX3_pass_28 : decode cX3_pass 28 = .ok (.iload_n 2, 1) := by decide +kernel
theorem dX3_pass_29 : decode cX3_pass 29 = .ok (.iaload, 1) := by decide +kernel
theorem dX3_pass_30 : decode cX3_pass 30 = .ok (.iconst 3, 1) := by decide +kernel
theorem dX3_pass_31 : decode cX3_pass 31 = .ok (.if_icmp .lt 9, 3) := by decide +kernel
theorem dX3_pass_34 : decode cX3_pass 34 = .ok (.aload_n 0, 1) := by decide +kernel
theorem dX3_pass_35 : decode cX3_pass 35 = .ok (.iload_n 1, 1) := by decide +kernel
theorem dX3_pass_36 : decode cX3_pass 36 = .ok (.putfield 28, 3) := by decide +kernel
theorem dX3_pass_39 : decode cX3_pass 39 = .ok (.return_, 1) := by decide +kernel
theorem dX3_pass_40 : decode cX3_pass 40 = .ok (.aload_n 0, 1) := by decide +kernel
theorem dX3_pass_41 : decode cX3_pass 41 = .ok (.iload_n 2, 1) := by decide +kernel
theorem dX3_pass_42 : decode cX3_pass 42 = .ok (.iload_n 3, 1) := by decide +kernel
theorem dX3_pass_43 : decode cX3_pass 43 = .ok (.iload 4, 2) := by decide +kernel
theorem dX3_pass_45 : decode cX3_pass 45 = .ok (.invokevirtual 47, 3) := by decide +kernel
theorem dX3_pass_48 : decode cX3_pass 48 = .ok (.istore 6, 2) := by decide +kernel
theorem dX3_pass_50 : decode cX3_pass 50 = .ok (.iload 6, 2) := by decide +kernel
theorem dX3_pass_52 : decode cX3_pass 52 = .ok (.bipush 12, 2) := by decide +kernel
theorem dX3_pass_54 : decode cX3_pass 54 = .ok (.if_icmp .ge 21, 3) := by decide +kernel
theorem dX3_pass_57 : decode cX3_pass 57 = .ok (.aload_n 0, 1) := by decide +kernel
theorem dX3_pass_58 : decode cX3_pass 58 = .ok (.getfield 21, 3) := by decide +kernel
theorem dX3_pass_61 : decode cX3_pass 61 = .ok (.iload 6, 2) := by decide +kernel
theorem dX3_pass_63 : decode cX3_pass 63 = .ok (.dup2, 1) := by decide +kernel
theorem dX3_pass_64 : decode cX3_pass 64 = .ok (.iaload, 1) := by decide +kernel
theorem dX3_pass_65 : decode cX3_pass 65 = .ok (.iconst 1, 1) := by decide +kernel
theorem dX3_pass_66 : decode cX3_pass 66 = .ok (.aload_n 0, 1) := by decide +kernel
theorem dX3_pass_67 : decode cX3_pass 67 = .ok (.getfield 31, 3) := by decide +kernel
theorem dX3_pass_70 : decode cX3_pass 70 = .ok (.iload_n 2, 1) := by decide +kernel
theorem dX3_pass_71 : decode cX3_pass 71 = .ok (.iaload, 1) := by decide +kernel
theorem dX3_pass_72 : decode cX3_pass 72 = .ok (.ishl, 1) := by decide +kernel
theorem dX3_pass_73 : decode cX3_pass 73 = .ok (.ior, 1) := by decide +kernel
theorem dX3_pass_74 : decode cX3_pass 74 = .ok (.iastore, 1) := by decide +kernel
theorem dX3_pass_75 : decode cX3_pass 75 = .ok (.aload_n 0, 1) := by decide +kernel
theorem dX3_pass_76 : decode cX3_pass 76 = .ok (.getfield 31, 3) := by decide +kernel
theorem dX3_pass_79 : decode cX3_pass 79 = .ok (.iload_n 2, 1) := by decide +kernel
theorem dX3_pass_80 : decode cX3_pass 80 = .ok (.dup2, 1) := by decide +kernel
theorem dX3_pass_81 : decode cX3_pass 81 = .ok (.iaload, 1) := by decide +kernel
theorem dX3_pass_82 : decode cX3_pass 82 = .ok (.iconst 1, 1) := by decide +kernel
theorem dX3_pass_83 : decode cX3_pass 83 = .ok (.iadd, 1) := by decide +kernel
theorem dX3_pass_84 : decode cX3_pass 84 = .ok (.iastore, 1) := by decide +kernel
theorem dX3_pass_85 : decode cX3_pass 85 = .ok (.aload_n 0, 1) := by decide +kernel
theorem dX3_pass_86 : decode cX3_pass 86 = .ok (.getfield 34, 3) := by decide +kernel
theorem dX3_pass_89 : decode cX3_pass 89 = .ok (.iload_n 2, 1) := by decide +kernel
theorem dX3_pass_90 : decode cX3_pass 90 = .ok (.aload_n 0, 1) := by decide +kernel
theorem dX3_pass_91 : decode cX3_pass 91 = .ok (.getfield 34, 3) := by decide +kernel
theorem dX3_pass_94 : decode cX3_pass 94 = .ok (.iload_n 2, 1) := by decide +kernel
theorem dX3_pass_95 : decode cX3_pass 95 = .ok (.iaload, 1) := by decide +kernel
theorem dX3_pass_96 : decode cX3_pass 96 = .ok (.iload 4, 2) := by decide +kernel
theorem dX3_pass_98 : decode cX3_pass 98 = .ok (.invokestatic 51, 3) := by decide +kernel
theorem dX3_pass_101 : decode cX3_pass 101 = .ok (.iastore, 1) := by decide +kernel
theorem dX3_pass_102 : decode cX3_pass 102 = .ok (.return_, 1) := by decide +kernel
set_option maxRecDepth 20000 in
theorem ggX3_wholeDay_X10_isWithin : GoodIn wsX3_wholeDay wsX10_isWithin := goodIn_r _ [5] (by decide +kernel) (by decide +kernel)
set_option maxRecDepth 20000 in
theorem gX3_wholeDay_X10_isWithin_n43 : GoodIn wsX3_wholeDay (wsX10_isWithin) := ggX3_wholeDay_X10_isWithin
theorem dX3_wholeDay_0 : decode cX3_wholeDay 0 = .ok (.iload_n 1, 1) := by decide +kernel
theorem dX3_wholeDay_1 : decode cX3_wholeDay 1 = .ok (.iconst 0, 1) := by decide +kernel
theorem dX3_wholeDay_2 : decode cX3_wholeDay 2 = .ok (.iconst 3, 1) := by decide +kernel
theorem dX3_wholeDay_3 : decode cX3_wholeDay 3 = .ok (.invokestatic 43, 3) := by decide +kernel
theorem dX3_wholeDay_6 : decode cX3_wholeDay 6 = .ok (.ifCond .eq 17, 3) := by decide +kernel
theorem dX3_wholeDay_9 : decode cX3_wholeDay 9 = .ok (.aload_n 0, 1) := by decide +kernel
theorem dX3_wholeDay_10 : decode cX3_wholeDay 10 = .ok (.getfield 31, 3) := by decide +kernel
theorem dX3_wholeDay_13 : decode cX3_wholeDay 13 = .ok (.iload_n 1, 1) := by decide +kernel
theorem dX3_wholeDay_14 : decode cX3_wholeDay 14 = .ok (.iaload, 1) := by decide +kernel
theorem dX3_wholeDay_15 : decode cX3_wholeDay 15 = .ok (.iconst 3, 1) := by decide +kernel
theorem dX3_wholeDay_16 : decode cX3_wholeDay 16 = .ok (.if_icmp .ne 7, 3) := by decide +kernel
theorem dX3_wholeDay_19 : decode cX3_wholeDay 19 = .ok (.iconst 1, 1) := by decide +kernel
theorem dX3_wholeDay_20 : decode cX3_wholeDay 20 = .ok (.goto 4, 3) := by decide +kernel
theorem dX3_wholeDay_23 : decode cX3_wholeDay 23 = .ok (.iconst 0, 1) := by decide +kernel
theorem dX3_wholeDay_24 : decode cX3_wholeDay 24 = .ok (.istore_n 2, 1) := by decide +kernel
theorem dX3_wholeDay_25 : decode cX3_wholeDay 25 = .ok (.iload_n 2, 1) := by decide +kernel
theorem dX3_wholeDay_26 : decode cX3_wholeDay 26 = .ok (.ifCond .eq 12, 3) := by decide +kernel
theorem dX3_wholeDay_29 : decode cX3_wholeDay 29 = .ok (.aload_n 0, 1) := by decide +kernel
theorem dX3_wholeDay_30 : decode cX3_wholeDay 30 = .ok (.getfield 34, 3) := by decide +kernel
theorem dX3_wholeDay_33 : decode cX3_wholeDay 33 = .ok (.iload_n 1, 1) := by decide +kernel
theorem dX3_wholeDay_34 : decode cX3_wholeDay 34 = .ok (.iaload, 1) := by decide +kernel
theorem dX3_wholeDay_35 : decode cX3_wholeDay 35 = .ok (.goto 5, 3) := by decide +kernel
theorem dX3_wholeDay_38 : decode cX3_wholeDay 38 = .ok (.bipush (-9), 2) := by decide +kernel
theorem dX3_wholeDay_40 : decode cX3_wholeDay 40 = .ok (.ireturn, 1) := by decide +kernel
theorem dX3_bundleOf_0 : decode cX3_bundleOf 0 = .ok (.iconst 0, 1) := by decide +kernel
theorem dX3_bundleOf_1 : decode cX3_bundleOf 1 = .ok (.istore 4, 2) := by decide +kernel
theorem dX3_bundleOf_3 : decode cX3_bundleOf 3 = .ok (.iload 4, 2) := by decide +kernel
theorem dX3_bundleOf_5 : decode cX3_bundleOf 5 = .ok (.aload_n 0, 1) := by decide +kernel
theorem dX3_bundleOf_6 : decode cX3_bundleOf 6 = .ok (.getfield 24, 3) := by decide +kernel
theorem dX3_bundleOf_9 : decode cX3_bundleOf 9 = .ok (.if_icmp .ge 45, 3) := by decide +kernel
theorem dX3_bundleOf_12 : decode cX3_bundleOf 12 = .ok (.aload_n 0, 1) := by decide +kernel
theorem dX3_bundleOf_13 : decode cX3_bundleOf 13 = .ok (.getfield 9, 3) := by decide +kernel
theorem dX3_bundleOf_16 : decode cX3_bundleOf 16 = .ok (.iload 4, 2) := by decide +kernel
theorem dX3_bundleOf_18 : decode cX3_bundleOf 18 = .ok (.iaload, 1) := by decide +kernel
theorem dX3_bundleOf_19 : decode cX3_bundleOf 19 = .ok (.iload_n 1, 1) := by decide +kernel
theorem dX3_bundleOf_20 : decode cX3_bundleOf 20 = .ok (.if_icmp .ne 28, 3) := by decide +kernel
theorem dX3_bundleOf_23 : decode cX3_bundleOf 23 = .ok (.aload_n 0, 1) := by decide +kernel
theorem dX3_bundleOf_24 : decode cX3_bundleOf 24 = .ok (.getfield 15, 3) := by decide +kernel
theorem dX3_bundleOf_27 : decode cX3_bundleOf 27 = .ok (.iload 4, 2) := by decide +kernel
theorem dX3_bundleOf_29 : decode cX3_bundleOf 29 = .ok (.iaload, 1) := by decide +kernel
theorem dX3_bundleOf_30 : decode cX3_bundleOf 30 = .ok (.iload_n 2, 1) := by decide +kernel
theorem dX3_bundleOf_31 : decode cX3_bundleOf 31 = .ok (.if_icmp .ne 17, 3) := by decide +kernel
theorem dX3_bundleOf_34 : decode cX3_bundleOf 34 = .ok (.aload_n 0, 1) := by decide +kernel
theorem dX3_bundleOf_35 : decode cX3_bundleOf 35 = .ok (.getfield 18, 3) := by decide +kernel
theorem dX3_bundleOf_38 : decode cX3_bundleOf 38 = .ok (.iload 4, 2) := by decide +kernel
theorem dX3_bundleOf_40 : decode cX3_bundleOf 40 = .ok (.iaload, 1) := by decide +kernel
theorem dX3_bundleOf_41 : decode cX3_bundleOf 41 = .ok (.iload_n 3, 1) := by decide +kernel
theorem dX3_bundleOf_42 : decode cX3_bundleOf 42 = .ok (.if_icmp .ne 6, 3) := by decide +kernel
theorem dX3_bundleOf_45 : decode cX3_bundleOf 45 = .ok (.iload 4, 2) := by decide +kernel
theorem dX3_bundleOf_47 : decode cX3_bundleOf 47 = .ok (.ireturn, 1) := by decide +kernel
theorem dX3_bundleOf_48 : decode cX3_bundleOf 48 = .ok (.iinc 4 1, 3) := by decide +kernel
theorem dX3_bundleOf_51 : decode cX3_bundleOf 51 = .ok (.goto (-48), 3) := by decide +kernel
theorem dX3_bundleOf_54 : decode cX3_bundleOf 54 = .ok (.aload_n 0, 1) := by decide +kernel
theorem dX3_bundleOf_55 : decode cX3_bundleOf 55 = .ok (.getfield 24, 3) := by decide +kernel
theorem dX3_bundleOf_58 : decode cX3_bundleOf 58 = .ok (.bipush 12, 2) := by decide +kernel
theorem dX3_bundleOf_60 : decode cX3_bundleOf 60 = .ok (.if_icmp .lt 6, 3) := by decide +kernel
theorem dX3_bundleOf_63 : decode cX3_bundleOf 63 = .ok (.bipush 12, 2) := by decide +kernel
theorem dX3_bundleOf_65 : decode cX3_bundleOf 65 = .ok (.ireturn, 1) := by decide +kernel
theorem dX3_bundleOf_66 : decode cX3_bundleOf 66 = .ok (.aload_n 0, 1) := by decide +kernel
theorem dX3_bundleOf_67 : decode cX3_bundleOf 67 = .ok (.getfield 9, 3) := by decide +kernel
theorem dX3_bundleOf_70 : decode cX3_bundleOf 70 = .ok (.aload_n 0, 1) := by decide +kernel
theorem dX3_bundleOf_71 : decode cX3_bundleOf 71 = .ok (.getfield 24, 3) := by decide +kernel
theorem dX3_bundleOf_74 : decode cX3_bundleOf 74 = .ok (.iload_n 1, 1) := by decide +kernel
theorem dX3_bundleOf_75 : decode cX3_bundleOf 75 = .ok (.iastore, 1) := by decide +kernel
theorem dX3_bundleOf_76 : decode cX3_bundleOf 76 = .ok (.aload_n 0, 1) := by decide +kernel
theorem dX3_bundleOf_77 : decode cX3_bundleOf 77 = .ok (.getfield 15, 3) := by decide +kernel
theorem dX3_bundleOf_80 : decode cX3_bundleOf 80 = .ok (.aload_n 0, 1) := by decide +kernel
theorem dX3_bundleOf_81 : decode cX3_bundleOf 81 = .ok (.getfield 24, 3) := by decide +kernel
theorem dX3_bundleOf_84 : decode cX3_bundleOf 84 = .ok (.iload_n 2, 1) := by decide +kernel
theorem dX3_bundleOf_85 : decode cX3_bundleOf 85 = .ok (.iastore, 1) := by decide +kernel
theorem dX3_bundleOf_86 : decode cX3_bundleOf 86 = .ok (.aload_n 0, 1) := by decide +kernel
theorem dX3_bundleOf_87 : decode cX3_bundleOf 87 = .ok (.getfield 18, 3) := by decide +kernel
theorem dX3_bundleOf_90 : decode cX3_bundleOf 90 = .ok (.aload_n 0, 1) := by decide +kernel
theorem dX3_bundleOf_91 : decode cX3_bundleOf 91 = .ok (.getfield 24, 3) := by decide +kernel
theorem dX3_bundleOf_94 : decode cX3_bundleOf 94 = .ok (.iload_n 3, 1) := by decide +kernel
theorem dX3_bundleOf_95 : decode cX3_bundleOf 95 = .ok (.iastore, 1) := by decide +kernel
theorem dX3_bundleOf_96 : decode cX3_bundleOf 96 = .ok (.aload_n 0, 1) := by decide +kernel
theorem dX3_bundleOf_97 : decode cX3_bundleOf 97 = .ok (.getfield 21, 3) := by decide +kernel
theorem dX3_bundleOf_100 : decode cX3_bundleOf 100 = .ok (.aload_n 0, 1) := by decide +kernel
theorem dX3_bundleOf_101 : decode cX3_bundleOf 101 = .ok (.getfield 24, 3) := by decide +kernel
theorem dX3_bundleOf_104 : decode cX3_bundleOf 104 = .ok (.iconst 0, 1) := by decide +kernel
theorem dX3_bundleOf_105 : decode cX3_bundleOf 105 = .ok (.iastore, 1) := by decide +kernel
theorem dX3_bundleOf_106 : decode cX3_bundleOf 106 = .ok (.aload_n 0, 1) := by decide +kernel
theorem dX3_bundleOf_107 : decode cX3_bundleOf 107 = .ok (.dup, 1) := by decide +kernel
theorem dX3_bundleOf_108 : decode cX3_bundleOf 108 = .ok (.getfield 24, 3) := by decide +kernel
theorem dX3_bundleOf_111 : decode cX3_bundleOf 111 = .ok (.iconst 1, 1) := by decide +kernel
theorem dX3_bundleOf_112 : decode cX3_bundleOf 112 = .ok (.iadd, 1) := by decide +kernel
theorem dX3_bundleOf_113 : decode cX3_bundleOf 113 = .ok (.putfield 24, 3) := by decide +kernel
theorem dX3_bundleOf_116 : decode cX3_bundleOf 116 = .ok (.aload_n 0, 1) := by decide +kernel
theorem dX3_bundleOf_117 : decode cX3_bundleOf 117 = .ok (.getfield 24, 3) := by decide +kernel
theorem dX3_bundleOf_120 : decode cX3_bundleOf 120 = .ok (.iconst 1, 1) := by decide +kernel
theorem dX3_bundleOf_121 : decode cX3_bundleOf 121 = .ok (.isub, 1) := by decide +kernel
theorem dX3_bundleOf_122 : decode cX3_bundleOf 122 = .ok (.ireturn, 1) := by decide +kernel
theorem dX4_init_0 : decode cX4_init 0 = .ok (.aload_n 0, 1) := by decide +kernel
theorem dX4_init_1 : decode cX4_init 1 = .ok (.invokespecial 3, 3) := by decide +kernel
theorem dX4_init_4 : decode cX4_init 4 = .ok (.aload_n 0, 1) := by decide +kernel
theorem dX4_init_5 : decode cX4_init 5 = .ok (.bipush 60, 2) := by decide +kernel
theorem dX4_init_7 : decode cX4_init 7 = .ok (.newarray .int, 2) := by decide +kernel
theorem dX4_init_9 : decode cX4_init 9 = .ok (.putfield 9, 3) := by decide +kernel
theorem dX4_init_12 : decode cX4_init 12 = .ok (.aload_n 0, 1) := by decide +kernel
theorem dX4_init_13 : decode cX4_init 13 = .ok (.iconst (-1), 1) := by decide +kernel
theorem dX4_init_14 : decode cX4_init 14 = .ok (.putfield 15, 3) := by decide +kernel
theorem dX4_init_17 : decode cX4_init 17 = .ok (.aload_n 0, 1) := by decide +kernel
theorem dX4_init_18 : decode cX4_init 18 = .ok (.iconst 0, 1) := by decide +kernel
theorem dX4_init_19 : decode cX4_init 19 = .ok (.putfield 19, 3) := by decide +kernel
theorem dX4_init_22 : decode cX4_init 22 = .ok (.return_, 1) := by decide +kernel
theorem dX4_isThere_0 : decode cX4_isThere 0 = .ok (.aload_n 0, 1) := by decide +kernel
theorem dX4_isThere_1 : decode cX4_isThere 1 = .ok (.getfield 15, 3) := by decide +kernel
theorem dX4_isThere_4 : decode cX4_isThere 4 = .ok (.iconst (-1), 1) := by decide +kernel
theorem dX4_isThere_5 : decode cX4_isThere 5 = .ok (.if_icmp .eq 7, 3) := by decide +kernel
theorem dX4_isThere_8 : decode cX4_isThere 8 = .ok (.iconst 1, 1) := by decide +kernel
theorem dX4_isThere_9 : decode cX4_isThere 9 = .ok (.goto 4, 3) := by decide +kernel
theorem dX4_isThere_12 : decode cX4_isThere 12 = .ok (.iconst 0, 1) := by decide +kernel
theorem dX4_isThere_13 : decode cX4_isThere 13 = .ok (.ireturn, 1) := by decide +kernel
set_option maxRecDepth 20000 in
theorem ggX4_begin_J7_fill_53178 : GoodIn wsX4_begin wsJ7_fill_53178 := goodIn_r _ [7] (by decide +kernel) (by decide +kernel)
set_option maxRecDepth 20000 in
theorem gX4_begin_J7_fill_53178 : GoodIn wsX4_begin (va_wsS RX4 22 yJ7_fill_53178 wsJ7_fill_53178) := goodIn_app (goodIn_of _ (by decide +kernel)) ggX4_begin_J7_fill_53178
theorem dX4_begin_0 : decode cX4_begin 0 = .ok (.aload_n 0, 1) := by decide +kernel
theorem dX4_begin_1 : decode cX4_begin 1 = .ok (.getfield 9, 3) := by decide +kernel
theorem dX4_begin_4 : decode cX4_begin 4 = .ok (.iconst 0, 1) := by decide +kernel
theorem dX4_begin_5 : decode cX4_begin 5 = .ok (.invokestatic 22, 3) := by decide +kernel
theorem dX4_begin_8 : decode cX4_begin 8 = .ok (.aload_n 0, 1) := by decide +kernel
theorem dX4_begin_9 : decode cX4_begin 9 = .ok (.iload_n 1, 1) := by decide +kernel
theorem dX4_begin_10 : decode cX4_begin 10 = .ok (.putfield 15, 3) := by decide +kernel
theorem dX4_begin_13 : decode cX4_begin 13 = .ok (.aload_n 0, 1) := by decide +kernel
theorem dX4_begin_14 : decode cX4_begin 14 = .ok (.iload_n 2, 1) := by decide +kernel
theorem dX4_begin_15 : decode cX4_begin 15 = .ok (.putfield 19, 3) := by decide +kernel
theorem dX4_begin_18 : decode cX4_begin 18 = .ok (.return_, 1) := by decide +kernel
theorem dX4_drop_0 : decode cX4_drop 0 = .ok (.aload_n 0, 1) := by decide +kernel
theorem dX4_drop_1 : decode cX4_drop 1 = .ok (.iconst (-1), 1) := by decide +kernel
theorem dX4_drop_2 : decode cX4_drop 2 = .ok (.putfield 15, 3) := by decide +kernel
theorem dX4_drop_5 : decode cX4_drop 5 = .ok (.aload_n 0, 1) := by decide +kernel
theorem dX4_drop_6 : decode cX4_drop 6 = .ok (.iconst 0, 1) := by decide +kernel
theorem dX4_drop_7 : decode cX4_drop 7 = .ok (.putfield 19, 3) := by decide +kernel
theorem dX4_drop_10 : decode cX4_drop 10 = .ok (.return_, 1) := by decide +kernel
theorem dX4_hasCell_0 : decode cX4_hasCell 0 = .ok (.iload_n 1, 1) := by decide +kernel
theorem dX4_hasCell_1 : decode cX4_hasCell 1 = .ok (.ifCond .lt 15, 3) := by decide +kernel
theorem dX4_hasCell_4 : decode cX4_hasCell 4 = .ok (.iload_n 1, 1) := by decide +kernel
theorem dX4_hasCell_5 : decode cX4_hasCell 5 = .ok (.aload_n 0, 1) := by decide +kernel
theorem dX4_hasCell_6 : decode cX4_hasCell 6 = .ok (.getfield 19, 3) := by decide +kernel
theorem dX4_hasCell_9 : decode cX4_hasCell 9 = .ok (.if_icmp .ge 7, 3) := by decide +kernel
theorem dX4_hasCell_12 : decode cX4_hasCell 12 = .ok (.iconst 1, 1) := by decide +kernel
theorem dX4_hasCell_13 : decode cX4_hasCell 13 = .ok (.goto 4, 3) := by decide +kernel
theorem dX4_hasCell_16 : decode cX4_hasCell 16 = .ok (.iconst 0, 1) := by decide +kernel
theorem dX4_hasCell_17 : decode cX4_hasCell 17 = .ok (.ireturn, 1) := by decide +kernel
theorem dX4_hasCells_0 : decode cX4_hasCells 0 = .ok (.iload_n 1, 1) := by decide +kernel
theorem dX4_hasCells_1 : decode cX4_hasCells 1 = .ok (.ifCond .lt 29, 3) := by decide +kernel
theorem dX4_hasCells_4 : decode cX4_hasCells 4 = .ok (.iload_n 1, 1) := by decide +kernel
theorem dX4_hasCells_5 : decode cX4_hasCells 5 = .ok (.aload_n 0, 1) := by decide +kernel
theorem dX4_hasCells_6 : decode cX4_hasCells 6 = .ok (.getfield 19, 3) := by decide +kernel
theorem dX4_hasCells_9 : decode cX4_hasCells 9 = .ok (.if_icmp .gt 21, 3) := by decide +kernel
theorem dX4_hasCells_12 : decode cX4_hasCells 12 = .ok (.iload_n 2, 1) := by decide +kernel
theorem dX4_hasCells_13 : decode cX4_hasCells 13 = .ok (.ifCond .lt 17, 3) := by decide +kernel
theorem dX4_hasCells_16 : decode cX4_hasCells 16 = .ok (.iload_n 2, 1) := by decide +kernel
theorem dX4_hasCells_17 : decode cX4_hasCells 17 = .ok (.aload_n 0, 1) := by decide +kernel
theorem dX4_hasCells_18 : decode cX4_hasCells 18 = .ok (.getfield 19, 3) := by decide +kernel
theorem dX4_hasCells_21 : decode cX4_hasCells 21 = .ok (.iload_n 1, 1) := by decide +kernel
theorem dX4_hasCells_22 : decode cX4_hasCells 22 = .ok (.isub, 1) := by decide +kernel
theorem dX4_hasCells_23 : decode cX4_hasCells 23 = .ok (.if_icmp .gt 7, 3) := by decide +kernel
theorem dX4_hasCells_26 : decode cX4_hasCells 26 = .ok (.iconst 1, 1) := by decide +kernel
theorem dX4_hasCells_27 : decode cX4_hasCells 27 = .ok (.goto 4, 3) := by decide +kernel
theorem dX4_hasCells_30 : decode cX4_hasCells 30 = .ok (.iconst 0, 1) := by decide +kernel
theorem dX4_hasCells_31 : decode cX4_hasCells 31 = .ok (.ireturn, 1) := by decide +kernel
set_option maxRecDepth 20000 in
theorem ggX4_faultTakenAs_X4_isThere : GoodIn wsX4_faultTakenAs wsX4_isThere := goodIn_r _ [6, 1, 7, 8, 9] (by decide +kernel) (by decide +kernel)
set_option maxRecDepth 20000 in
theorem gX4_faultTakenAs_X4_isThere : GoodIn wsX4_faultTakenAs (wsV RX4 28 RX4 yX4_isThere wsX4_isThere) := goodIn_app (goodIn_of _ (by decide +kernel)) ggX4_faultTakenAs_X4_isThere
theorem dX4_faultTakenAs_0 : decode cX4_faultTakenAs 0 = .ok (.aload_n 0, 1) := by decide +kernel
theorem dX4_faultTakenAs_1 : decode cX4_faultTakenAs 1 = .ok (.invokevirtual 28, 3) := by decide +kernel
theorem dX4_faultTakenAs_4 : decode cX4_faultTakenAs 4 = .ok (.ifCond .ne 5, 3) := by decide +kernel
theorem dX4_faultTakenAs_7 : decode cX4_faultTakenAs 7 = .ok (.iconst 1, 1) := by decide +kernel
theorem dX4_faultTakenAs_8 : decode cX4_faultTakenAs 8 = .ok (.ireturn, 1) := by decide +kernel
theorem dX4_faultTakenAs_9 : decode cX4_faultTakenAs 9 = .ok (.aload_n 0, 1) := by decide +kernel
theorem dX4_faultTakenAs_10 : decode cX4_faultTakenAs 10 = .ok (.getfield 15, 3) := by decide +kernel
theorem dX4_faultTakenAs_13 : decode cX4_faultTakenAs 13 = .ok (.iload_n 1, 1) := by decide +kernel
theorem dX4_faultTakenAs_14 : decode cX4_faultTakenAs 14 = .ok (.if_icmp .ne 7, 3) := by decide +kernel
theorem dX4_faultTakenAs_17 : decode cX4_faultTakenAs 17 = .ok (.iconst 0, 1) := by decide +kernel
theorem dX4_faultTakenAs_18 : decode cX4_faultTakenAs 18 = .ok (.goto 4, 3) := by decide +kernel
theorem dX4_faultTakenAs_21 : decode cX4_faultTakenAs 21 = .ok (.iconst 2, 1) := by decide +kernel
theorem dX4_faultTakenAs_22 : decode cX4_faultTakenAs 22 = .ok (.ireturn, 1) := by decide +kernel
set_option maxRecDepth 20000 in
theorem ggX4_read_X4_hasCell : GoodIn wsX4_read wsX4_hasCell := goodIn_r _ [6, 7, 8, 9, 10] (by decide +kernel) (by decide +kernel)
set_option maxRecDepth 20000 in
theorem gX4_read_X4_hasCell : GoodIn wsX4_read (wsV RX4 32 RX4 yX4_hasCell wsX4_hasCell) := goodIn_app (goodIn_of _ (by decide +kernel)) ggX4_read_X4_hasCell
theorem dX4_read_0 : decode cX4_read 0 = .ok (.aload_n 0, 1) := by decide +kernel
theorem dX4_read_1 : decode cX4_read 1 = .ok (.iload_n 1, 1) := by decide +kernel
theorem dX4_read_2 : decode cX4_read 2 = .ok (.invokevirtual 32, 3) := by decide +kernel
theorem dX4_read_5 : decode cX4_read 5 = .ok (.ifCond .eq 12, 3) := by decide +kernel
theorem dX4_read_8 : decode cX4_read 8 = .ok (.aload_n 0, 1) := by decide +kernel
theorem dX4_read_9 : decode cX4_read 9 = .ok (.getfield 9, 3) := by decide +kernel
theorem dX4_read_12 : decode cX4_read 12 = .ok (.iload_n 1, 1) := by decide +kernel
theorem dX4_read_13 : decode cX4_read 13 = .ok (.iaload, 1) := by decide +kernel
theorem dX4_read_14 : decode cX4_read 14 = .ok (.goto 4, 3) := by decide +kernel
theorem dX4_read_17 : decode cX4_read 17 = .ok (.iconst 0, 1) := by decide +kernel
theorem dX4_read_18 : decode cX4_read 18 = .ok (.ireturn, 1) := by decide +kernel
set_option maxRecDepth 20000 in
theorem ggX4_write_X4_hasCell : GoodIn wsX4_write wsX4_hasCell := goodIn_r _ [6, 7, 13, 14, 15] (by decide +kernel) (by decide +kernel)
set_option maxRecDepth 20000 in
theorem gX4_write_X4_hasCell : GoodIn wsX4_write (wsV RX4 32 RX4 yX4_hasCell wsX4_hasCell) := goodIn_app (goodIn_of _ (by decide +kernel)) ggX4_write_X4_hasCell
set_option maxRecDepth 20000 in
theorem ggX4_write_X4_cutToLane : GoodIn wsX4_write wsX4_cutToLane := goodIn_r _ [11, 12, 13, 14, 15] (by decide +kernel) (by decide +kernel)
set_option maxRecDepth 20000 in
theorem gX4_write_X4_cutToLane : GoodIn wsX4_write (wsV RX4 36 RX4 yX4_cutToLane wsX4_cutToLane) := goodIn_app (goodIn_of _ (by decide +kernel)) ggX4_write_X4_cutToLane
theorem dX4_write_0 : decode cX4_write 0 = .ok (.aload_n 0, 1) := by decide +kernel
theorem dX4_write_1 : decode cX4_write 1 = .ok (.iload_n 1, 1) := by decide +kernel
theorem dX4_write_2 : decode cX4_write 2 = .ok (.invokevirtual 32, 3) := by decide +kernel
theorem dX4_write_5 : decode cX4_write 5 = .ok (.ifCond .eq 14, 3) := by decide +kernel
theorem dX4_write_8 : decode cX4_write 8 = .ok (.aload_n 0, 1) := by decide +kernel
theorem dX4_write_9 : decode cX4_write 9 = .ok (.getfield 9, 3) := by decide +kernel
theorem dX4_write_12 : decode cX4_write 12 = .ok (.iload_n 1, 1) := by decide +kernel
theorem dX4_write_13 : decode cX4_write 13 = .ok (.aload_n 0, 1) := by decide +kernel
theorem dX4_write_14 : decode cX4_write 14 = .ok (.iload_n 2, 1) := by decide +kernel
theorem dX4_write_15 : decode cX4_write 15 = .ok (.invokevirtual 36, 3) := by decide +kernel
theorem dX4_write_18 : decode cX4_write 18 = .ok (.iastore, 1) := by decide +kernel
theorem dX4_write_19 : decode cX4_write 19 = .ok (.return_, 1) := by decide +kernel
theorem dX4_cutToLane_0 : decode cX4_cutToLane 0 = .ok (.aload_n 0, 1) := by decide +kernel
theorem dX4_cutToLane_1 : decode cX4_cutToLane 1 = .ok (.getfield 15, 3) := by decide +kernel
theorem dX4_cutToLane_4 : decode cX4_cutToLane 4 = .ok (.lookupswitch 34 #[(0, 28), (1, 31)], 28) := by decide +kernel
theorem dX4_cutToLane_32 : decode cX4_cutToLane 32 = .ok (.iload_n 1, 1) := by decide +kernel
theorem dX4_cutToLane_33 : decode cX4_cutToLane 33 = .ok (.i2b, 1) := by decide +kernel
theorem dX4_cutToLane_34 : decode cX4_cutToLane 34 = .ok (.ireturn, 1) := by decide +kernel
theorem dX4_cutToLane_35 : decode cX4_cutToLane 35 = .ok (.iload_n 1, 1) := by decide +kernel
theorem dX4_cutToLane_36 : decode cX4_cutToLane 36 = .ok (.i2s, 1) := by decide +kernel
theorem dX4_cutToLane_37 : decode cX4_cutToLane 37 = .ok (.ireturn, 1) := by decide +kernel
theorem dX4_cutToLane_38 : decode cX4_cutToLane 38 = .ok (.iload_n 1, 1) := by decide +kernel
theorem dX4_cutToLane_39 : decode cX4_cutToLane 39 = .ok (.ireturn, 1) := by decide +kernel
theorem dX5_init_0 : decode cX5_init 0 = .ok (.aload_n 0, 1) := by decide +kernel
theorem dX5_init_1 : decode cX5_init 1 = .ok (.invokespecial 3, 3) := by decide +kernel
theorem dX5_init_4 : decode cX5_init 4 = .ok (.aload_n 0, 1) := by decide +kernel
theorem dX5_init_5 : decode cX5_init 5 = .ok (.iload_n 1, 1) := by decide +kernel
theorem dX5_init_6 : decode cX5_init 6 = .ok (.putfield 9, 3) := by decide +kernel
theorem dX5_init_9 : decode cX5_init 9 = .ok (.aload_n 0, 1) := by decide +kernel
theorem dX5_init_10 : decode cX5_init 10 = .ok (.iload_n 2, 1) := by decide +kernel
theorem dX5_init_11 : decode cX5_init 11 = .ok (.putfield 15, 3) := by decide +kernel
theorem dX5_init_14 : decode cX5_init 14 = .ok (.aload_n 0, 1) := by decide +kernel
theorem dX5_init_15 : decode cX5_init 15 = .ok (.iload_n 3, 1) := by decide +kernel
theorem dX5_init_16 : decode cX5_init 16 = .ok (.putfield 18, 3) := by decide +kernel
theorem dX5_init_19 : decode cX5_init 19 = .ok (.return_, 1) := by decide +kernel
theorem dX5_isBornBy_0 : decode cX5_isBornBy 0 = .ok (.iload_n 1, 1) := by decide +kernel
theorem dX5_isBornBy_1 : decode cX5_isBornBy 1 = .ok (.aload_n 0, 1) := by decide +kernel
theorem dX5_isBornBy_2 : decode cX5_isBornBy 2 = .ok (.getfield 18, 3) := by decide +kernel
theorem dX5_isBornBy_5 : decode cX5_isBornBy 5 = .ok (.if_icmp .lt 7, 3) := by decide +kernel
theorem dX5_isBornBy_8 : decode cX5_isBornBy 8 = .ok (.iconst 1, 1) := by decide +kernel
theorem dX5_isBornBy_9 : decode cX5_isBornBy 9 = .ok (.goto 4, 3) := by decide +kernel
theorem dX5_isBornBy_12 : decode cX5_isBornBy 12 = .ok (.iconst 0, 1) := by decide +kernel
theorem dX5_isBornBy_13 : decode cX5_isBornBy 13 = .ok (.ireturn, 1) := by decide +kernel
theorem dX5_freshness_0 : decode cX5_freshness 0 = .ok (.iconst 0, 1) := by decide +kernel
theorem dX5_freshness_1 : decode cX5_freshness 1 = .ok (.iconst 4, 1) := by decide +kernel
theorem dX5_freshness_2 : decode cX5_freshness 2 = .ok (.iload_n 1, 1) := by decide +kernel
theorem dX5_freshness_3 : decode cX5_freshness 3 = .ok (.aload_n 0, 1) := by decide +kernel
theorem dX5_freshness_4 : decode cX5_freshness 4 = .ok (.getfield 18, 3) := by decide +kernel
theorem dX5_freshness_7 : decode cX5_freshness 7 = .ok (.isub, 1) := by decide +kernel
theorem dX5_freshness_8 : decode cX5_freshness 8 = .ok (.isub, 1) := by decide +kernel
theorem dX5_freshness_9 : decode cX5_freshness 9 = .ok (.invokestatic 21, 3) := by decide +kernel
theorem dX5_freshness_12 : decode cX5_freshness 12 = .ok (.ireturn, 1) := by decide +kernel
theorem dX5_sizeOfThird_0 : decode cX5_sizeOfThird 0 = .ok (.aload_n 0, 1) := by decide +kernel
theorem dX5_sizeOfThird_1 : decode cX5_sizeOfThird 1 = .ok (.getfield 9, 3) := by decide +kernel
theorem dX5_sizeOfThird_4 : decode cX5_sizeOfThird 4 = .ok (.iconst 3, 1) := by decide +kernel
theorem dX5_sizeOfThird_5 : decode cX5_sizeOfThird 5 = .ok (.idiv, 1) := by decide +kernel
theorem dX5_sizeOfThird_6 : decode cX5_sizeOfThird 6 = .ok (.iload_n 1, 1) := by decide +kernel
theorem dX5_sizeOfThird_7 : decode cX5_sizeOfThird 7 = .ok (.aload_n 0, 1) := by decide +kernel
theorem dX5_sizeOfThird_8 : decode cX5_sizeOfThird 8 = .ok (.getfield 9, 3) := by decide +kernel
theorem dX5_sizeOfThird_11 : decode cX5_sizeOfThird 11 = .ok (.iconst 3, 1) := by decide +kernel
theorem dX5_sizeOfThird_12 : decode cX5_sizeOfThird 12 = .ok (.irem, 1) := by decide +kernel
theorem dX5_sizeOfThird_13 : decode cX5_sizeOfThird 13 = .ok (.if_icmp .ge 7, 3) := by decide +kernel
theorem dX5_sizeOfThird_16 : decode cX5_sizeOfThird 16 = .ok (.iconst 1, 1) := by decide +kernel
theorem dX5_sizeOfThird_17 : decode cX5_sizeOfThird 17 = .ok (.goto 4, 3) := by decide +kernel
theorem dX5_sizeOfThird_20 : decode cX5_sizeOfThird 20 = .ok (.iconst 0, 1) := by decide +kernel
theorem dX5_sizeOfThird_21 : decode cX5_sizeOfThird 21 = .ok (.iadd, 1) := by decide +kernel
theorem dX5_sizeOfThird_22 : decode cX5_sizeOfThird 22 = .ok (.ireturn, 1) := by decide +kernel
set_option maxRecDepth 20000 in
theorem ggX5_sizeOf_X5_sizeOfThird : GoodIn wsX5_sizeOf wsX5_sizeOfThird := goodIn_r _ [5, 6, 7, 8, 9] (by decide +kernel) (by decide +kernel)
set_option maxRecDepth 20000 in
theorem gX5_sizeOf_X5_sizeOfThird : GoodIn wsX5_sizeOf (wsV RX5 27 RX5 yX5_sizeOfThird wsX5_sizeOfThird) := goodIn_app (goodIn_of _ (by decide +kernel)) ggX5_sizeOf_X5_sizeOfThird
theorem dX5_sizeOf_0 : decode cX5_sizeOf 0 = .ok (.iconst 0, 1) := by decide +kernel
theorem dX5_sizeOf_1 : decode cX5_sizeOf 1 = .ok (.istore_n 2, 1) := by decide +kernel
theorem dX5_sizeOf_2 : decode cX5_sizeOf 2 = .ok (.iconst 0, 1) := by decide +kernel
theorem dX5_sizeOf_3 : decode cX5_sizeOf 3 = .ok (.istore_n 3, 1) := by decide +kernel
theorem dX5_sizeOf_4 : decode cX5_sizeOf 4 = .ok (.iload_n 3, 1) := by decide +kernel
theorem dX5_sizeOf_5 : decode cX5_sizeOf 5 = .ok (.iconst 3, 1) := by decide +kernel
theorem dX5_sizeOf_6 : decode cX5_sizeOf 6 = .ok (.if_icmp .ge 25, 3) := by decide +kernel
theorem dX5_sizeOf_9 : decode cX5_sizeOf 9 = .ok (.iload_n 1, 1) := by decide +kernel
theorem dX5_sizeOf_10 : decode cX5_sizeOf 10 = .ok (.iconst 1, 1) := by decide +kernel
theorem dX5_sizeOf_11 : decode cX5_sizeOf 11 = .ok (.iload_n 3, 1) := by decide +kernel
theorem dX5_sizeOf_12 : decode cX5_sizeOf 12 = .ok (.ishl, 1) := by decide +kernel
theorem dX5_sizeOf_13 : decode cX5_sizeOf 13 = .ok (.iand, 1) := by decide +kernel
theorem dX5_sizeOf_14 : decode cX5_sizeOf 14 = .ok (.ifCond .eq 11, 3) := by decide +kernel
theorem dX5_sizeOf_17 : decode cX5_sizeOf 17 = .ok (.iload_n 2, 1) := by decide +kernel
theorem dX5_sizeOf_18 : decode cX5_sizeOf 18 = .ok (.aload_n 0, 1) := by decide +kernel
theorem dX5_sizeOf_19 : decode cX5_sizeOf 19 = .ok (.iload_n 3, 1) := by decide +kernel
theorem dX5_sizeOf_20 : decode cX5_sizeOf 20 = .ok (.invokevirtual 27, 3) := by decide +kernel
theorem dX5_sizeOf_23 : decode cX5_sizeOf 23 = .ok (.iadd, 1) := by decide +kernel
theorem dX5_sizeOf_24 : decode cX5_sizeOf 24 = .ok (.istore_n 2, 1) := by decide +kernel
theorem dX5_sizeOf_25 : decode cX5_sizeOf 25 = .ok (.iinc 3 1, 3) := by decide +kernel
theorem dX5_sizeOf_28 : decode cX5_sizeOf 28 = .ok (.goto (-24), 3) := by decide +kernel
theorem dX5_sizeOf_31 : decode cX5_sizeOf 31 = .ok (.iload_n 2, 1) := by decide +kernel
theorem dX5_sizeOf_32 : decode cX5_sizeOf 32 = .ok (.ireturn, 1) := by decide +kernel
set_option maxRecDepth 20000 in
theorem ggX6_init_X0_init : GoodIn wsX6_init wsX0_init := goodIn_r _ [4, 5, 6, 7, 8, 9, 10, 11, 12, 13, 14, 15, 16, 17, 18, 19] (by decide +kernel) (by decide +kernel)
set_option maxRecDepth 20000 in
theorem gX6_init_X0_init : GoodIn wsX6_init (wsX0_init) := ggX6_init_X0_init
theorem dX6_init_0 : decode cX6_init 0 = .ok (.aload_n 0, 1) := by decide +kernel
theorem dX6_init_1 : decode cX6_init 1 = .ok (.iload_n 1, 1) := by decide +kernel
theorem dX6_init_2 : decode cX6_init 2 = .ok (.iload_n 2, 1) := by decide +kernel
theorem dX6_init_3 : decode cX6_init 3 = .ok (.iload_n 3, 1) := by decide +kernel
theorem dX6_init_4 : decode cX6_init 4 = .ok (.invokespecial 1, 3) := by decide +kernel
theorem dX6_init_7 : decode cX6_init 7 = .ok (.return_, 1) := by decide +kernel
theorem dX6_kind_0 : decode cX6_kind 0 = .ok (.iconst 1, 1) := by decide +kernel
theorem dX6_kind_1 : decode cX6_kind 1 = .ok (.ireturn, 1) := by decide +kernel
theorem dX6_takes_0 : decode cX6_takes 0 = .ok (.iload_n 1, 1) := by decide +kernel
theorem dX6_takes_1 : decode cX6_takes 1 = .ok (.aload_n 0, 1) := by decide +kernel
theorem dX6_takes_2 : decode cX6_takes 2 = .ok (.getfield 7, 3) := by decide +kernel
theorem dX6_takes_5 : decode cX6_takes 5 = .ok (.iconst 1, 1) := by decide +kernel
theorem dX6_takes_6 : decode cX6_takes 6 = .ok (.iadd, 1) := by decide +kernel
theorem dX6_takes_7 : decode cX6_takes 7 = .ok (.imul, 1) := by decide +kernel
theorem dX6_takes_8 : decode cX6_takes 8 = .ok (.iload_n 2, 1) := by decide +kernel
theorem dX6_takes_9 : decode cX6_takes 9 = .ok (.imul, 1) := by decide +kernel
theorem dX6_takes_10 : decode cX6_takes 10 = .ok (.ireturn, 1) := by decide +kernel
set_option maxRecDepth 20000 in
theorem ggX6_telling_X9_leave : GoodIn wsX6_telling wsX9_leave := goodIn_r _ [5, 6, 23] (by decide +kernel) (by decide +kernel)
set_option maxRecDepth 20000 in
theorem gX6_telling_X9_leave : GoodIn wsX6_telling (wsV RX6 13 RX9 yX9_leave wsX9_leave) := goodIn_app (goodIn_of _ (by decide +kernel)) ggX6_telling_X9_leave
set_option maxRecDepth 20000 in
theorem ggX6_telling_X0_telling : GoodIn wsX6_telling wsX0_telling := goodIn_r _ [12, 13, 14, 15, 11, 16, 17, 18, 2, 3, 4, 5, 6, 19, 20, 21, 22, 24, 25, 26, 27, 28, 29, 30, 31, 32, 23] (by decide +kernel) (by decide +kernel)
set_option maxRecDepth 20000 in
theorem gX6_telling_X0_telling_s19 : GoodIn wsX6_telling (va_wsSU RX6 19 yX0_telling wsX0_telling) := goodIn_app (goodIn_of _ (by decide +kernel)) ggX6_telling_X0_telling
theorem dX6_telling_0 : decode cX6_telling 0 = .ok (.aload_n 1, 1) := by decide +kernel
theorem dX6_telling_1 : decode cX6_telling 1 = .ok (.iconst 2, 1) := by decide +kernel
theorem dX6_telling_2 : decode cX6_telling 2 = .ok (.invokevirtual 13, 3) := by decide +kernel
theorem dX6_telling_5 : decode cX6_telling 5 = .ok (.aload_n 0, 1) := by decide +kernel
theorem dX6_telling_6 : decode cX6_telling 6 = .ok (.aload_n 1, 1) := by decide +kernel
theorem dX6_telling_7 : decode cX6_telling 7 = .ok (.invokespecial 19, 3) := by decide +kernel
theorem dX6_telling_10 : decode cX6_telling 10 = .ok (.bipush 100, 2) := by decide +kernel
theorem dX6_telling_12 : decode cX6_telling 12 = .ok (.iadd, 1) := by decide +kernel
theorem dX6_telling_13 : decode cX6_telling 13 = .ok (.ireturn, 1) := by decide +kernel
theorem dX7_init_0 : decode cX7_init 0 = .ok (.aload_n 0, 1) := by decide +kernel
theorem dX7_init_1 : decode cX7_init 1 = .ok (.invokespecial 3, 3) := by decide +kernel
theorem dX7_init_4 : decode cX7_init 4 = .ok (.aload_n 0, 1) := by decide +kernel
theorem dX7_init_5 : decode cX7_init 5 = .ok (.iconst 0, 1) := by decide +kernel
theorem dX7_init_6 : decode cX7_init 6 = .ok (.putfield 9, 3) := by decide +kernel
theorem dX7_init_9 : decode cX7_init 9 = .ok (.aload_n 0, 1) := by decide +kernel
theorem dX7_init_10 : decode cX7_init 10 = .ok (.iconst 0, 1) := by decide +kernel
theorem dX7_init_11 : decode cX7_init 11 = .ok (.putfield 15, 3) := by decide +kernel
theorem dX7_init_14 : decode cX7_init 14 = .ok (.aload_n 0, 1) := by decide +kernel
theorem dX7_init_15 : decode cX7_init 15 = .ok (.aload_n 1, 1) := by decide +kernel
theorem dX7_init_16 : decode cX7_init 16 = .ok (.putfield 18, 3) := by decide +kernel
theorem dX7_init_19 : decode cX7_init 19 = .ok (.aload_n 0, 1) := by decide +kernel
theorem dX7_init_20 : decode cX7_init 20 = .ok (.iload_n 2, 1) := by decide +kernel
theorem dX7_init_21 : decode cX7_init 21 = .ok (.putfield 22, 3) := by decide +kernel
theorem dX7_init_24 : decode cX7_init 24 = .ok (.aload_n 0, 1) := by decide +kernel
theorem dX7_init_25 : decode cX7_init 25 = .ok (.iload_n 3, 1) := by decide +kernel
theorem dX7_init_26 : decode cX7_init 26 = .ok (.putfield 25, 3) := by decide +kernel
theorem dX7_init_29 : decode cX7_init 29 = .ok (.return_, 1) := by decide +kernel
set_option maxRecDepth 20000 in
theorem ggX7_firstFault_X7_goesOn : GoodIn wsX7_firstFault wsX7_goesOn := goodIn_r _ [7, 2, 8, 9, 10, 6, 11, 12, 13, 14, 15, 16, 17, 18, 19, 20, 21, 22, 23, 24, 25, 26, 27, 28, 29, 30, 31, 32, 33, 34, 35, 36, 37, 38, 39, 40, 41, 42, 43, 44, 45, 46, 47, 48, 49] (by decide +kernel) (by decide +kernel)
set_option maxRecDepth 20000 in
theorem gX7_firstFault_X7_goesOn : GoodIn wsX7_firstFault (wsV RX7 28 RX7 yX7_goesOn wsX7_goesOn) := goodIn_app (goodIn_of _ (by decide +kernel)) ggX7_firstFault_X7_goesOn
theorem dX7_firstFault_0 : decode cX7_firstFault 0 = .ok (.iconst 0, 1) := by decide +kernel
theorem dX7_firstFault_1 : decode cX7_firstFault 1 = .ok (.istore_n 1, 1) := by decide +kernel
theorem dX7_firstFault_2 : decode cX7_firstFault 2 = .ok (.iload_n 1, 1) := by decide +kernel
theorem dX7_firstFault_3 : decode cX7_firstFault 3 = .ok (.aload_n 0, 1) := by decide +kernel
theorem dX7_firstFault_4 : decode cX7_firstFault 4 = .ok (.getfield 25, 3) := by decide +kernel
theorem dX7_firstFault_7 : decode cX7_firstFault 7 = .ok (.if_icmp .ge 19, 3) := by decide +kernel
theorem dX7_firstFault_10 : decode cX7_firstFault 10 = .ok (.aload_n 0, 1) := by decide +kernel
theorem dX7_firstFault_11 : decode cX7_firstFault 11 = .ok (.iload_n 1, 1) := by decide +kernel
theorem dX7_firstFault_12 : decode cX7_firstFault 12 = .ok (.invokevirtual 28, 3) := by decide +kernel
theorem dX7_firstFault_15 : decode cX7_firstFault 15 = .ok (.ifCond .ne 5, 3) := by decide +kernel
theorem dX7_firstFault_18 : decode cX7_firstFault 18 = .ok (.iload_n 1, 1) := by decide +kernel
theorem dX7_firstFault_19 : decode cX7_firstFault 19 = .ok (.ireturn, 1) := by decide +kernel
theorem dX7_firstFault_20 : decode cX7_firstFault 20 = .ok (.iinc 1 1, 3) := by decide +kernel
theorem dX7_firstFault_23 : decode cX7_firstFault 23 = .ok (.goto (-21), 3) := by decide +kernel
theorem dX7_firstFault_26 : decode cX7_firstFault 26 = .ok (.aload_n 0, 1) := by decide +kernel
theorem dX7_firstFault_27 : decode cX7_firstFault 27 = .ok (.getfield 15, 3) := by decide +kernel
theorem dX7_firstFault_30 : decode cX7_firstFault 30 = .ok (.ifCond .le 17, 3) := by decide +kernel
theorem dX7_firstFault_33 : decode cX7_firstFault 33 = .ok (.aload_n 0, 1) := by decide +kernel
theorem dX7_firstFault_34 : decode cX7_firstFault 34 = .ok (.getfield 25, 3) := by decide +kernel
theorem dX7_firstFault_37 : decode cX7_firstFault 37 = .ok (.iconst 4, 1) := by decide +kernel
theorem dX7_firstFault_38 : decode cX7_firstFault 38 = .ok (.irem, 1) := by decide +kernel
theorem dX7_firstFault_39 : decode cX7_firstFault 39 = .ok (.iconst 1, 1) := by decide +kernel
theorem dX7_firstFault_40 : decode cX7_firstFault 40 = .ok (.if_icmp .ne 7, 3) := by decide +kernel
theorem dX7_firstFault_43 : decode cX7_firstFault 43 = .ok (.iconst 1, 1) := by decide +kernel
theorem dX7_firstFault_44 : decode cX7_firstFault 44 = .ok (.goto 4, 3) := by decide +kernel
theorem dX7_firstFault_47 : decode cX7_firstFault 47 = .ok (.iconst 0, 1) := by decide +kernel
theorem dX7_firstFault_48 : decode cX7_firstFault 48 = .ok (.istore_n 1, 1) := by decide +kernel
theorem dX7_firstFault_49 : decode cX7_firstFault 49 = .ok (.iload_n 1, 1) := by decide +kernel
theorem dX7_firstFault_50 : decode cX7_firstFault 50 = .ok (.ifCond .eq 8, 3) := by decide +kernel
theorem dX7_firstFault_53 : decode cX7_firstFault 53 = .ok (.bipush (-9), 2) := by decide +kernel
theorem dX7_firstFault_55 : decode cX7_firstFault 55 = .ok (.goto 7, 3) := by decide +kernel
theorem dX7_firstFault_58 : decode cX7_firstFault 58 = .ok (.aload_n 0, 1) := by decide +kernel
theorem dX7_firstFault_59 : decode cX7_firstFault 59 = .ok (.getfield 25, 3) := by decide +kernel
theorem dX7_firstFault_62 : decode cX7_firstFault 62 = .ok (.ireturn, 1) := by decide +kernel
set_option maxRecDepth 20000 in
theorem ggX7_gateKind_X7_codeAt : GoodIn wsX7_gateKind wsX7_codeAt := goodIn_r _ [5, 6, 7, 8, 9, 10, 11, 12, 13, 14, 15, 16, 17, 18, 22, 23, 24, 25, 26, 27, 28, 29] (by decide +kernel) (by decide +kernel)
set_option maxRecDepth 20000 in
theorem gX7_gateKind_X7_codeAt : GoodIn wsX7_gateKind (wsV RX7 32 RX7 yX7_codeAt wsX7_codeAt) := goodIn_app (goodIn_of _ (by decide +kernel)) ggX7_gateKind_X7_codeAt
set_option maxRecDepth 20000 in
theorem ggX7_gateKind_X7_kindOf : GoodIn wsX7_gateKind wsX7_kindOf := goodIn_r _ [21] (by decide +kernel) (by decide +kernel)
set_option maxRecDepth 20000 in
theorem gX7_gateKind_X7_kindOf : GoodIn wsX7_gateKind (va_wsS RX7 36 yX7_kindOf wsX7_kindOf) := goodIn_app (goodIn_of _ (by decide +kernel)) ggX7_gateKind_X7_kindOf
theorem dX7_gateKind_0 : decode cX7_gateKind 0 = .ok (.aload_n 0, 1) := by decide +kernel
theorem dX7_gateKind_1 : decode cX7_gateKind 1 = .ok (.iconst 1, 1) := by decide +kernel
theorem dX7_gateKind_2 : decode cX7_gateKind 2 = .ok (.iconst 4, 1) := by decide +kernel
theorem dX7_gateKind_3 : decode cX7_gateKind 3 = .ok (.iload_n 1, 1) := by decide +kernel
theorem dX7_gateKind_4 : decode cX7_gateKind 4 = .ok (.imul, 1) := by decide +kernel
theorem dX7_gateKind_5 : decode cX7_gateKind 5 = .ok (.iadd, 1) := by decide +kernel
theorem dX7_gateKind_6 : decode cX7_gateKind 6 = .ok (.iconst 1, 1) := by decide +kernel
theorem dX7_gateKind_7 : decode cX7_gateKind 7 = .ok (.iadd, 1) := by decide +kernel
theorem dX7_gateKind_8 : decode cX7_gateKind 8 = .ok (.invokevirtual 32, 3) := by decide +kernel
theorem dX7_gateKind_11 : decode cX7_gateKind 11 = .ok (.invokestatic 36, 3) := by decide +kernel
theorem dX7_gateKind_14 : decode cX7_gateKind 14 = .ok (.ireturn, 1) := by decide +kernel
set_option maxRecDepth 20000 in
theorem ggX7_gateDigit_X7_codeAt : GoodIn wsX7_gateDigit wsX7_codeAt := goodIn_r _ [5, 6, 7, 8, 9, 10, 11, 12, 13, 14, 15, 16, 17, 18, 19, 20, 21, 22, 23, 24, 25, 26] (by decide +kernel) (by decide +kernel)
set_option maxRecDepth 20000 in
theorem gX7_gateDigit_X7_codeAt : GoodIn wsX7_gateDigit (wsV RX7 32 RX7 yX7_codeAt wsX7_codeAt) := goodIn_app (goodIn_of _ (by decide +kernel)) ggX7_gateDigit_X7_codeAt
theorem dX7_gateDigit_0 : decode cX7_gateDigit 0 = .ok (.aload_n 0, 1) := by decide +kernel
theorem dX7_gateDigit_1 : decode cX7_gateDigit 1 = .ok (.iconst 1, 1) := by decide +kernel
theorem dX7_gateDigit_2 : decode cX7_gateDigit 2 = .ok (.iconst 4, 1) := by decide +kernel
theorem dX7_gateDigit_3 : decode cX7_gateDigit 3 = .ok (.iload_n 1, 1) := by decide +kernel
theorem dX7_gateDigit_4 : decode cX7_gateDigit 4 = .ok (.imul, 1) := by decide +kernel
theorem dX7_gateDigit_5 : decode cX7_gateDigit 5 = .ok (.iadd, 1) := by decide +kernel
theorem dX7_gateDigit_6 : decode cX7_gateDigit 6 = .ok (.iload_n 2, 1) := by decide +kernel
theorem dX7_gateDigit_7 : decode cX7_gateDigit 7 = .ok (.iadd, 1) := by decide +kernel
theorem dX7_gateDigit_8 : decode cX7_gateDigit 8 = .ok (.invokevirtual 32, 3) := by decide +kernel
theorem dX7_gateDigit_11 : decode cX7_gateDigit 11 = .ok (.bipush 48, 2) := by decide +kernel
theorem dX7_gateDigit_13 : decode cX7_gateDigit 13 = .ok (.isub, 1) := by decide +kernel
theorem dX7_gateDigit_14 : decode cX7_gateDigit 14 = .ok (.ireturn, 1) := by decide +kernel
set_option maxRecDepth 20000 in
theorem ggX7_storyDigit_X7_gateDigit : GoodIn wsX7_storyDigit wsX7_gateDigit := goodIn_r _ [6, 7, 8, 9, 5, 10, 11, 12, 13, 14, 15, 16, 17, 18, 19, 20, 21, 22, 23, 24, 25, 26, 27, 28, 29, 30, 31] (by decide +kernel) (by decide +kernel)
set_option maxRecDepth 20000 in
theorem gX7_storyDigit_X7_gateDigit : GoodIn wsX7_storyDigit (wsV RX7 39 RX7 yX7_gateDigit wsX7_gateDigit) := goodIn_app (goodIn_of _ (by decide +kernel)) ggX7_storyDigit_X7_gateDigit
theorem dX7_storyDigit_0 : decode cX7_storyDigit 0 = .ok (.aload_n 0, 1) := by decide +kernel
theorem dX7_storyDigit_1 : decode cX7_storyDigit 1 = .ok (.aload_n 0, 1) := by decide +kernel
theorem dX7_storyDigit_2 : decode cX7_storyDigit 2 = .ok (.getfield 9, 3) := by decide +kernel
theorem dX7_storyDigit_5 : decode cX7_storyDigit 5 = .ok (.iload_n 1, 1) := by decide +kernel
theorem dX7_storyDigit_6 : decode cX7_storyDigit 6 = .ok (.iadd, 1) := by decide +kernel
theorem dX7_storyDigit_7 : decode cX7_storyDigit 7 = .ok (.iload_n 2, 1) := by decide +kernel
theorem dX7_storyDigit_8 : decode cX7_storyDigit 8 = .ok (.invokevirtual 39, 3) := by decide +kernel
theorem dX7_storyDigit_11 : decode cX7_storyDigit 11 = .ok (.ireturn, 1) := by decide +kernel
set_option maxRecDepth 20000 in
theorem ggX7_codeAt_X4_read : GoodIn wsX7_codeAt wsX4_read := goodIn_r _ [7, 8, 9, 10, 11, 6, 12, 13, 19, 20, 21] (by decide +kernel) (by decide +kernel)
set_option maxRecDepth 20000 in
theorem gX7_codeAt_X4_read : GoodIn wsX7_codeAt (wsV RX7 43 RX4 yX4_read wsX4_read) := goodIn_app (goodIn_of _ (by decide +kernel)) ggX7_codeAt_X4_read
theorem dX7_codeAt_0 : decode cX7_codeAt 0 = .ok (.aload_n 0, 1) := by decide +kernel
theorem dX7_codeAt_1 : decode cX7_codeAt 1 = .ok (.getfield 18, 3) := by decide +kernel
theorem dX7_codeAt_4 : decode cX7_codeAt 4 = .ok (.aload_n 0, 1) := by decide +kernel
theorem dX7_codeAt_5 : decode cX7_codeAt 5 = .ok (.getfield 22, 3) := by decide +kernel
theorem dX7_codeAt_8 : decode cX7_codeAt 8 = .ok (.iload_n 1, 1) := by decide +kernel
theorem dX7_codeAt_9 : decode cX7_codeAt 9 = .ok (.iadd, 1) := by decide +kernel
theorem dX7_codeAt_10 : decode cX7_codeAt 10 = .ok (.invokevirtual 43, 3) := by decide +kernel
theorem dX7_codeAt_13 : decode cX7_codeAt 13 = .ok (.ireturn, 1) := by decide +kernel
set_option maxRecDepth 20000 in
theorem ggX7_goesOn_X7_codeAt : GoodIn wsX7_goesOn wsX7_codeAt := goodIn_r _ [6, 7, 8, 9, 10, 11, 12, 13, 14, 15, 16, 17, 18, 19, 37, 38, 39, 40, 41, 42, 43, 44] (by decide +kernel) (by decide +kernel)
set_option maxRecDepth 20000 in
theorem gX7_goesOn_X7_codeAt : GoodIn wsX7_goesOn (wsV RX7 32 RX7 yX7_codeAt wsX7_codeAt) := goodIn_app (goodIn_of _ (by decide +kernel)) ggX7_goesOn_X7_codeAt
set_option maxRecDepth 20000 in
theorem ggX7_goesOn_X7_beginsItem : GoodIn wsX7_goesOn wsX7_beginsItem := goodIn_r _ [23, 1, 24, 37, 38, 39, 40, 41] (by decide +kernel) (by decide +kernel)
set_option maxRecDepth 20000 in
theorem gX7_goesOn_X7_beginsItem : GoodIn wsX7_goesOn (wsV RX7 48 RX7 yX7_beginsItem wsX7_beginsItem) := goodIn_app (goodIn_of _ (by decide +kernel)) ggX7_goesOn_X7_beginsItem
set_option maxRecDepth 20000 in
theorem ggX7_goesOn_X7_fitsGate : GoodIn wsX7_goesOn wsX7_fitsGate := goodIn_r _ [27, 28, 29, 5, 30, 31, 32, 33] (by decide +kernel) (by decide +kernel)
set_option maxRecDepth 20000 in
theorem gX7_goesOn_X7_fitsGate : GoodIn wsX7_goesOn (va_wsS RX7 51 yX7_fitsGate wsX7_fitsGate) := goodIn_app (goodIn_of _ (by decide +kernel)) ggX7_goesOn_X7_fitsGate
set_option maxRecDepth 20000 in
theorem ggX7_goesOn_X7_fitsStory : GoodIn wsX7_goesOn wsX7_fitsStory := goodIn_r _ [36, 31, 32, 33] (by decide +kernel) (by decide +kernel)
set_option maxRecDepth 20000 in
theorem gX7_goesOn_X7_fitsStory : GoodIn wsX7_goesOn (va_wsS RX7 55 yX7_fitsStory wsX7_fitsStory) := goodIn_app (goodIn_of _ (by decide +kernel)) ggX7_goesOn_X7_fitsStory
theorem dX7_goesOn_0 : decode cX7_goesOn 0 = .ok (.aload_n 0, 1) := by decide +kernel
theorem dX7_goesOn_1 : decode cX7_goesOn 1 = .ok (.iload_n 1, 1) := by decide +kernel
theorem dX7_goesOn_2 : decode cX7_goesOn 2 = .ok (.invokevirtual 32, 3) := by decide +kernel
theorem dX7_goesOn_5 : decode cX7_goesOn 5 = .ok (.istore_n 2, 1) := by decide +kernel
theorem dX7_goesOn_6 : decode cX7_goesOn 6 = .ok (.iload_n 1, 1) := by decide +kernel
theorem dX7_goesOn_7 : decode cX7_goesOn 7 = .ok (.ifCond .ne 15, 3) := by decide +kernel
theorem dX7_goesOn_10 : decode cX7_goesOn 10 = .ok (.iload_n 2, 1) := by decide +kernel
theorem dX7_goesOn_11 : decode cX7_goesOn 11 = .ok (.bipush 106, 2) := by decide +kernel
theorem dX7_goesOn_13 : decode cX7_goesOn 13 = .ok (.if_icmp .ne 7, 3) := by decide +kernel
theorem dX7_goesOn_16 : decode cX7_goesOn 16 = .ok (.iconst 1, 1) := by decide +kernel
theorem dX7_goesOn_17 : decode cX7_goesOn 17 = .ok (.goto 4, 3) := by decide +kernel
theorem dX7_goesOn_20 : decode cX7_goesOn 20 = .ok (.iconst 0, 1) := by decide +kernel
theorem dX7_goesOn_21 : decode cX7_goesOn 21 = .ok (.ireturn, 1) := by decide +kernel
theorem dX7_goesOn_22 : decode cX7_goesOn 22 = .ok (.iload_n 1, 1) := by decide +kernel
theorem dX7_goesOn_23 : decode cX7_goesOn 23 = .ok (.iconst 1, 1) := by decide +kernel
theorem dX7_goesOn_24 : decode cX7_goesOn 24 = .ok (.isub, 1) := by decide +kernel
theorem dX7_goesOn_25 : decode cX7_goesOn 25 = .ok (.iconst 4, 1) := by decide +kernel
theorem dX7_goesOn_26 : decode cX7_goesOn 26 = .ok (.irem, 1) := by decide +kernel
theorem dX7_goesOn_27 : decode cX7_goesOn 27 = .ok (.istore_n 3, 1) := by decide +kernel
theorem dX7_goesOn_28 : decode cX7_goesOn 28 = .ok (.iload_n 3, 1) := by decide +kernel
theorem dX7_goesOn_29 : decode cX7_goesOn 29 = .ok (.ifCond .ne 9, 3) := by decide +kernel
theorem dX7_goesOn_32 : decode cX7_goesOn 32 = .ok (.aload_n 0, 1) := by decide +kernel
theorem dX7_goesOn_33 : decode cX7_goesOn 33 = .ok (.iload_n 2, 1) := by decide +kernel
theorem dX7_goesOn_34 : decode cX7_goesOn 34 = .ok (.invokevirtual 48, 3) := by decide +kernel
theorem dX7_goesOn_37 : decode cX7_goesOn 37 = .ok (.ireturn, 1) := by decide +kernel
theorem dX7_goesOn_38 : decode cX7_goesOn 38 = .ok (.aload_n 0, 1) := by decide +kernel
theorem dX7_goesOn_39 : decode cX7_goesOn 39 = .ok (.getfield 15, 3) := by decide +kernel
theorem dX7_goesOn_42 : decode cX7_goesOn 42 = .ok (.ifCond .ne 11, 3) := by decide +kernel
theorem dX7_goesOn_45 : decode cX7_goesOn 45 = .ok (.iload_n 3, 1) := by decide +kernel
theorem dX7_goesOn_46 : decode cX7_goesOn 46 = .ok (.iload_n 2, 1) := by decide +kernel
theorem dX7_goesOn_47 : decode cX7_goesOn 47 = .ok (.invokestatic 51, 3) := by decide +kernel
theorem dX7_goesOn_50 : decode cX7_goesOn 50 = .ok (.goto 8, 3) := by decide +kernel
theorem dX7_goesOn_53 : decode cX7_goesOn 53 = .ok (.iload_n 3, 1) := by decide +kernel
theorem dX7_goesOn_54 : decode cX7_goesOn 54 = .ok (.iload_n 2, 1) := by decide +kernel
theorem dX7_goesOn_55 : decode cX7_goesOn 55 = .ok (.invokestatic 55, 3) := by decide +kernel
theorem dX7_goesOn_58 : decode cX7_goesOn 58 = .ok (.ireturn, 1) := by decide +kernel
theorem dX7_beginsItem_0 : decode cX7_beginsItem 0 = .ok (.iload_n 1, 1) := by decide +kernel
theorem dX7_beginsItem_1 : decode cX7_beginsItem 1 = .ok (.bipush 44, 2) := by decide +kernel
theorem dX7_beginsItem_3 : decode cX7_beginsItem 3 = .ok (.if_icmp .ne 30, 3) := by decide +kernel
theorem dX7_beginsItem_6 : decode cX7_beginsItem 6 = .ok (.aload_n 0, 1) := by decide +kernel
theorem dX7_beginsItem_7 : decode cX7_beginsItem 7 = .ok (.getfield 15, 3) := by decide +kernel
theorem dX7_beginsItem_10 : decode cX7_beginsItem 10 = .ok (.ifCond .ne 23, 3) := by decide +kernel
theorem dX7_beginsItem_13 : decode cX7_beginsItem 13 = .ok (.aload_n 0, 1) := by decide +kernel
theorem dX7_beginsItem_14 : decode cX7_beginsItem 14 = .ok (.getfield 9, 3) := by decide +kernel
theorem dX7_beginsItem_17 : decode cX7_beginsItem 17 = .ok (.iconst 5, 1) := by decide +kernel
theorem dX7_beginsItem_18 : decode cX7_beginsItem 18 = .ok (.if_icmp .ge 15, 3) := by decide +kernel
theorem dX7_beginsItem_21 : decode cX7_beginsItem 21 = .ok (.aload_n 0, 1) := by decide +kernel
theorem dX7_beginsItem_22 : decode cX7_beginsItem 22 = .ok (.dup, 1) := by decide +kernel
theorem dX7_beginsItem_23 : decode cX7_beginsItem 23 = .ok (.getfield 9, 3) := by decide +kernel
theorem dX7_beginsItem_26 : decode cX7_beginsItem 26 = .ok (.iconst 1, 1) := by decide +kernel
theorem dX7_beginsItem_27 : decode cX7_beginsItem 27 = .ok (.iadd, 1) := by decide +kernel
theorem dX7_beginsItem_28 : decode cX7_beginsItem 28 = .ok (.putfield 9, 3) := by decide +kernel
theorem dX7_beginsItem_31 : decode cX7_beginsItem 31 = .ok (.iconst 1, 1) := by decide +kernel
theorem dX7_beginsItem_32 : decode cX7_beginsItem 32 = .ok (.ireturn, 1) := by decide +kernel
theorem dX7_beginsItem_33 : decode cX7_beginsItem 33 = .ok (.iload_n 1, 1) := by decide +kernel
theorem dX7_beginsItem_34 : decode cX7_beginsItem 34 = .ok (.bipush 59, 2) := by decide +kernel
theorem dX7_beginsItem_36 : decode cX7_beginsItem 36 = .ok (.if_icmp .ne 30, 3) := by decide +kernel
theorem dX7_beginsItem_39 : decode cX7_beginsItem 39 = .ok (.aload_n 0, 1) := by decide +kernel
theorem dX7_beginsItem_40 : decode cX7_beginsItem 40 = .ok (.getfield 9, 3) := by decide +kernel
theorem dX7_beginsItem_43 : decode cX7_beginsItem 43 = .ok (.ifCond .le 23, 3) := by decide +kernel
theorem dX7_beginsItem_46 : decode cX7_beginsItem 46 = .ok (.aload_n 0, 1) := by decide +kernel
theorem dX7_beginsItem_47 : decode cX7_beginsItem 47 = .ok (.getfield 15, 3) := by decide +kernel
theorem dX7_beginsItem_50 : decode cX7_beginsItem 50 = .ok (.iconst 4, 1) := by decide +kernel
theorem dX7_beginsItem_51 : decode cX7_beginsItem 51 = .ok (.if_icmp .ge 15, 3) := by decide +kernel
theorem dX7_beginsItem_54 : decode cX7_beginsItem 54 = .ok (.aload_n 0, 1) := by decide +kernel
theorem dX7_beginsItem_55 : decode cX7_beginsItem 55 = .ok (.dup, 1) := by decide +kernel
theorem dX7_beginsItem_56 : decode cX7_beginsItem 56 = .ok (.getfield 15, 3) := by decide +kernel
theorem dX7_beginsItem_59 : decode cX7_beginsItem 59 = .ok (.iconst 1, 1) := by decide +kernel
theorem dX7_beginsItem_60 : decode cX7_beginsItem 60 = .ok (.iadd, 1) := by decide +kernel
theorem dX7_beginsItem_61 : decode cX7_beginsItem 61 = .ok (.putfield 15, 3) := by decide +kernel
theorem dX7_beginsItem_64 : decode cX7_beginsItem 64 = .ok (.iconst 1, 1) := by decide +kernel
theorem dX7_beginsItem_65 : decode cX7_beginsItem 65 = .ok (.ireturn, 1) := by decide +kernel
theorem dX7_beginsItem_66 : decode cX7_beginsItem 66 = .ok (.iconst 0, 1) := by decide +kernel
theorem dX7_beginsItem_67 : decode cX7_beginsItem 67 = .ok (.ireturn, 1) := by decide +kernel
set_option maxRecDepth 20000 in
theorem ggX7_fitsGate_X7_kindOf : GoodIn wsX7_fitsGate wsX7_kindOf := goodIn_r _ [4] (by decide +kernel) (by decide +kernel)
set_option maxRecDepth 20000 in
theorem gX7_fitsGate_X7_kindOf : GoodIn wsX7_fitsGate (va_wsS RX7 36 yX7_kindOf wsX7_kindOf) := goodIn_app (goodIn_of _ (by decide +kernel)) ggX7_fitsGate_X7_kindOf
set_option maxRecDepth 20000 in
theorem ggX7_fitsGate_X10_isWithin : GoodIn wsX7_fitsGate wsX10_isWithin := goodIn_r _ [7] (by decide +kernel) (by decide +kernel)
set_option maxRecDepth 20000 in
theorem gX7_fitsGate_X10_isWithin_n58 : GoodIn wsX7_fitsGate (wsX10_isWithin) := ggX7_fitsGate_X10_isWithin
theorem dX7_fitsGate_0 : decode cX7_fitsGate 0 = .ok (.iload_n 0, 1) := by decide +kernel
theorem dX7_fitsGate_1 : decode cX7_fitsGate 1 = .ok (.lookupswitch 51 #[(1, 27), (2, 42)], 27) := by decide +kernel
theorem dX7_fitsGate_28 : decode cX7_fitsGate 28 = .ok (.iload_n 1, 1) := by decide +kernel
theorem dX7_fitsGate_29 : decode cX7_fitsGate 29 = .ok (.invokestatic 36, 3) := by decide +kernel
theorem dX7_fitsGate_32 : decode cX7_fitsGate 32 = .ok (.bipush (-9), 2) := by decide +kernel
theorem dX7_fitsGate_34 : decode cX7_fitsGate 34 = .ok (.if_icmp .eq 7, 3) := by decide +kernel
theorem dX7_fitsGate_37 : decode cX7_fitsGate 37 = .ok (.iconst 1, 1) := by decide +kernel
theorem dX7_fitsGate_38 : decode cX7_fitsGate 38 = .ok (.goto 4, 3) := by decide +kernel
theorem dX7_fitsGate_41 : decode cX7_fitsGate 41 = .ok (.iconst 0, 1) := by decide +kernel
theorem dX7_fitsGate_42 : decode cX7_fitsGate 42 = .ok (.ireturn, 1) := by decide +kernel
theorem dX7_fitsGate_43 : decode cX7_fitsGate 43 = .ok (.iload_n 1, 1) := by decide +kernel
theorem dX7_fitsGate_44 : decode cX7_fitsGate 44 = .ok (.bipush 49, 2) := by decide +kernel
theorem dX7_fitsGate_46 : decode cX7_fitsGate 46 = .ok (.bipush 57, 2) := by decide +kernel
theorem dX7_fitsGate_48 : decode cX7_fitsGate 48 = .ok (.invokestatic 58, 3) := by decide +kernel
theorem dX7_fitsGate_51 : decode cX7_fitsGate 51 = .ok (.ireturn, 1) := by decide +kernel
theorem dX7_fitsGate_52 : decode cX7_fitsGate 52 = .ok (.iload_n 1, 1) := by decide +kernel
theorem dX7_fitsGate_53 : decode cX7_fitsGate 53 = .ok (.bipush 48, 2) := by decide +kernel
theorem dX7_fitsGate_55 : decode cX7_fitsGate 55 = .ok (.bipush 54, 2) := by decide +kernel
theorem dX7_fitsGate_57 : decode cX7_fitsGate 57 = .ok (.invokestatic 58, 3) := by decide +kernel
theorem dX7_fitsGate_60 : decode cX7_fitsGate 60 = .ok (.ireturn, 1) := by decide +kernel
set_option maxRecDepth 20000 in
theorem ggX7_fitsStory_X10_isWithin : GoodIn wsX7_fitsStory wsX10_isWithin := goodIn_r _ [3] (by decide +kernel) (by decide +kernel)
set_option maxRecDepth 20000 in
theorem gX7_fitsStory_X10_isWithin_n58 : GoodIn wsX7_fitsStory (wsX10_isWithin) := ggX7_fitsStory_X10_isWithin
theorem dX7_fitsStory_0 : decode cX7_fitsStory 0 = .ok (.iload_n 0, 1) := by decide +kernel
theorem dX7_fitsStory_1 : decode cX7_fitsStory 1 = .ok (.lookupswitch 45 #[(1, 27), (2, 36)], 27) := by decide +kernel
theorem dX7_fitsStory_28 : decode cX7_fitsStory 28 = .ok (.iload_n 1, 1) := by decide +kernel
theorem dX7_fitsStory_29 : decode cX7_fitsStory 29 = .ok (.bipush 49, 2) := by decide +kernel
theorem dX7_fitsStory_31 : decode cX7_fitsStory 31 = .ok (.bipush 57, 2) := by decide +kernel
theorem dX7_fitsStory_33 : decode cX7_fitsStory 33 = .ok (.invokestatic 58, 3) := by decide +kernel
theorem dX7_fitsStory_36 : decode cX7_fitsStory 36 = .ok (.ireturn, 1) := by decide +kernel
theorem dX7_fitsStory_37 : decode cX7_fitsStory 37 = .ok (.iload_n 1, 1) := by decide +kernel
theorem dX7_fitsStory_38 : decode cX7_fitsStory 38 = .ok (.bipush 48, 2) := by decide +kernel
theorem dX7_fitsStory_40 : decode cX7_fitsStory 40 = .ok (.bipush 53, 2) := by decide +kernel
theorem dX7_fitsStory_42 : decode cX7_fitsStory 42 = .ok (.invokestatic 58, 3) := by decide +kernel
theorem dX7_fitsStory_45 : decode cX7_fitsStory 45 = .ok (.ireturn, 1) := by decide +kernel
theorem dX7_fitsStory_46 : decode cX7_fitsStory 46 = .ok (.iload_n 1, 1) := by decide +kernel
theorem dX7_fitsStory_47 : decode cX7_fitsStory 47 = .ok (.bipush 48, 2) := by decide +kernel
theorem dX7_fitsStory_49 : decode cX7_fitsStory 49 = .ok (.bipush 54, 2) := by decide +kernel
theorem dX7_fitsStory_51 : decode cX7_fitsStory 51 = .ok (.invokestatic 58, 3) := by decide +kernel
theorem dX7_fitsStory_54 : decode cX7_fitsStory 54 = .ok (.ireturn, 1) := by decide +kernel
theorem dX7_kindOf_0 : decode cX7_kindOf 0 = .ok (.iload_n 0, 1) := by decide +kernel
theorem dX7_kindOf_1 : decode cX7_kindOf 1 = .ok (.lookupswitch 41 #[(103, 35), (108, 39), (115, 37)], 35) := by decide +kernel
theorem dX7_kindOf_36 : decode cX7_kindOf 36 = .ok (.iconst 0, 1) := by decide +kernel
theorem dX7_kindOf_37 : decode cX7_kindOf 37 = .ok (.ireturn, 1) := by decide +kernel
theorem dX7_kindOf_38 : decode cX7_kindOf 38 = .ok (.iconst 1, 1) := by decide +kernel
theorem dX7_kindOf_39 : decode cX7_kindOf 39 = .ok (.ireturn, 1) := by decide +kernel
theorem dX7_kindOf_40 : decode cX7_kindOf 40 = .ok (.iconst 2, 1) := by decide +kernel
theorem dX7_kindOf_41 : decode cX7_kindOf 41 = .ok (.ireturn, 1) := by decide +kernel
theorem dX7_kindOf_42 : decode cX7_kindOf 42 = .ok (.bipush (-9), 2) := by decide +kernel
theorem dX7_kindOf_44 : decode cX7_kindOf 44 = .ok (.ireturn, 1) := by decide +kernel
theorem dX8_init_0 : decode cX8_init 0 = .ok (.aload_n 0, 1) := by decide +kernel
theorem dX8_init_1 : decode cX8_init 1 = .ok (.invokespecial 3, 3) := by decide +kernel
theorem dX8_init_4 : decode cX8_init 4 = .ok (.aload_n 0, 1) := by decide +kernel
theorem dX8_init_5 : decode cX8_init 5 = .ok (.iconst 0, 1) := by decide +kernel
theorem dX8_init_6 : decode cX8_init 6 = .ok (.anewarray 9, 3) := by decide +kernel
theorem dX8_init_9 : decode cX8_init 9 = .ok (.putfield 11, 3) := by decide +kernel
theorem dX8_init_12 : decode cX8_init 12 = .ok (.aload_n 0, 1) := by decide +kernel
theorem dX8_init_13 : decode cX8_init 13 = .ok (.iconst 0, 1) := by decide +kernel
theorem dX8_init_14 : decode cX8_init 14 = .ok (.anewarray 17, 3) := by decide +kernel
theorem dX8_init_17 : decode cX8_init 17 = .ok (.putfield 19, 3) := by decide +kernel
theorem dX8_init_20 : decode cX8_init 20 = .ok (.aload_n 0, 1) := by decide +kernel
theorem dX8_init_21 : decode cX8_init 21 = .ok (.iconst 0, 1) := by decide +kernel
theorem dX8_init_22 : decode cX8_init 22 = .ok (.putfield 23, 3) := by decide +kernel
theorem dX8_init_25 : decode cX8_init 25 = .ok (.aload_n 0, 1) := by decide +kernel
theorem dX8_init_26 : decode cX8_init 26 = .ok (.iconst 5, 1) := by decide +kernel
theorem dX8_init_27 : decode cX8_init 27 = .ok (.newarray .int, 2) := by decide +kernel
theorem dX8_init_29 : decode cX8_init 29 = .ok (.putfield 27, 3) := by decide +kernel
theorem dX8_init_32 : decode cX8_init 32 = .ok (.aload_n 0, 1) := by decide +kernel
theorem dX8_init_33 : decode cX8_init 33 = .ok (.bipush 40, 2) := by decide +kernel
theorem dX8_init_35 : decode cX8_init 35 = .ok (.newarray .int, 2) := by decide +kernel
theorem dX8_init_37 : decode cX8_init 37 = .ok (.putfield 31, 3) := by decide +kernel
theorem dX8_init_40 : decode cX8_init 40 = .ok (.aload_n 0, 1) := by decide +kernel
theorem dX8_init_41 : decode cX8_init 41 = .ok (.bipush 8, 2) := by decide +kernel
theorem dX8_init_43 : decode cX8_init 43 = .ok (.newarray .int, 2) := by decide +kernel
theorem dX8_init_45 : decode cX8_init 45 = .ok (.putfield 34, 3) := by decide +kernel
theorem dX8_init_48 : decode cX8_init 48 = .ok (.return_, 1) := by decide +kernel
set_option maxRecDepth 20000 in
theorem ggX8_newGate_X6_init : GoodIn wsX8_newGate wsX6_init := goodIn_r _ [12, 13, 14, 9, 15, 16, 17, 18, 19, 20, 21, 33, 34, 35, 30, 31, 32, 27, 28, 29] (by decide +kernel) (by decide +kernel)
set_option maxRecDepth 20000 in
theorem gX8_newGate_X6_init : GoodIn wsX8_newGate (wsX6_init) := ggX8_newGate_X6_init
set_option maxRecDepth 20000 in
theorem ggX8_newGate_X1_init : GoodIn wsX8_newGate wsX1_init := goodIn_r _ [24, 25, 11, 3, 12, 13, 14, 9, 15, 16, 17, 18, 19, 20, 21, 33, 34, 35, 30, 31, 32, 27, 28, 29] (by decide +kernel) (by decide +kernel)
set_option maxRecDepth 20000 in
theorem gX8_newGate_X1_init : GoodIn wsX8_newGate (wsX1_init) := ggX8_newGate_X1_init
set_option maxRecDepth 20000 in
theorem ggX8_newGate_X0_init : GoodIn wsX8_newGate wsX0_init := goodIn_r _ [15, 16, 17, 18, 19, 20, 21, 33, 34, 35, 30, 31, 32, 27, 28, 29] (by decide +kernel) (by decide +kernel)
set_option maxRecDepth 20000 in
theorem gX8_newGate_X0_init : GoodIn wsX8_newGate (wsX0_init) := ggX8_newGate_X0_init
theorem dX8_newGate_0 : decode cX8_newGate 0 = .ok (.iload_n 0, 1) := by decide +kernel
theorem dX8_newGate_1 : decode cX8_newGate 1 = .ok (.lookupswitch 49 #[(1, 27), (2, 38)], 27) := by decide +kernel
theorem dX8_newGate_28 : decode cX8_newGate 28 = .ok (.new 37, 3) := by decide +kernel
theorem dX8_newGate_31 : decode cX8_newGate 31 = .ok (.dup, 1) := by decide +kernel
theorem dX8_newGate_32 : decode cX8_newGate 32 = .ok (.iload_n 1, 1) := by decide +kernel
theorem dX8_newGate_33 : decode cX8_newGate 33 = .ok (.iload_n 2, 1) := by decide +kernel
theorem dX8_newGate_34 : decode cX8_newGate 34 = .ok (.iload_n 3, 1) := by decide +kernel
theorem dX8_newGate_35 : decode cX8_newGate 35 = .ok (.invokespecial 39, 3) := by decide +kernel
theorem dX8_newGate_38 : decode cX8_newGate 38 = .ok (.areturn, 1) := by decide +kernel
theorem dX8_newGate_39 : decode cX8_newGate 39 = .ok (.new 42, 3) := by decide +kernel
theorem dX8_newGate_42 : decode cX8_newGate 42 = .ok (.dup, 1) := by decide +kernel
theorem dX8_newGate_43 : decode cX8_newGate 43 = .ok (.iload_n 1, 1) := by decide +kernel
theorem dX8_newGate_44 : decode cX8_newGate 44 = .ok (.iload_n 2, 1) := by decide +kernel
theorem dX8_newGate_45 : decode cX8_newGate 45 = .ok (.iload_n 3, 1) := by decide +kernel
theorem dX8_newGate_46 : decode cX8_newGate 46 = .ok (.invokespecial 44, 3) := by decide +kernel
theorem dX8_newGate_49 : decode cX8_newGate 49 = .ok (.areturn, 1) := by decide +kernel
theorem dX8_newGate_50 : decode cX8_newGate 50 = .ok (.new 9, 3) := by decide +kernel
theorem dX8_newGate_53 : decode cX8_newGate 53 = .ok (.dup, 1) := by decide +kernel
theorem dX8_newGate_54 : decode cX8_newGate 54 = .ok (.iload_n 1, 1) := by decide +kernel
theorem dX8_newGate_55 : decode cX8_newGate 55 = .ok (.iload_n 2, 1) := by decide +kernel
theorem dX8_newGate_56 : decode cX8_newGate 56 = .ok (.iload_n 3, 1) := by decide +kernel
theorem dX8_newGate_57 : decode cX8_newGate 57 = .ok (.invokespecial 45, 3) := by decide +kernel
theorem dX8_newGate_60 : decode cX8_newGate 60 = .ok (.areturn, 1) := by decide +kernel
theorem dX8_penceOf_0 : decode cX8_penceOf 0 = .ok (.iload_n 0, 1) := by decide +kernel
theorem dX8_penceOf_1 : decode cX8_penceOf 1 = .ok (.bipush 18, 2) := by decide +kernel
theorem dX8_penceOf_3 : decode cX8_penceOf 3 = .ok (.ishr, 1) := by decide +kernel
theorem dX8_penceOf_4 : decode cX8_penceOf 4 = .ok (.ireturn, 1) := by decide +kernel
set_option maxRecDepth 20000 in
theorem ggX8_spotOf_X8_spotShift : GoodIn wsX8_spotOf wsX8_spotShift := goodIn_r _ [4] (by decide +kernel) (by decide +kernel)
set_option maxRecDepth 20000 in
theorem gX8_spotOf_X8_spotShift : GoodIn wsX8_spotOf (va_wsS RX8 46 yX8_spotShift wsX8_spotShift) := goodIn_app (goodIn_of _ (by decide +kernel)) ggX8_spotOf_X8_spotShift
theorem dX8_spotOf_0 : decode cX8_spotOf 0 = .ok (.iload_n 0, 1) := by decide +kernel
theorem dX8_spotOf_1 : decode cX8_spotOf 1 = .ok (.iload_n 1, 1) := by decide +kernel
theorem dX8_spotOf_2 : decode cX8_spotOf 2 = .ok (.invokestatic 46, 3) := by decide +kernel
theorem dX8_spotOf_5 : decode cX8_spotOf 5 = .ok (.ishr, 1) := by decide +kernel
theorem dX8_spotOf_6 : decode cX8_spotOf 6 = .ok (.bipush 63, 2) := by decide +kernel
theorem dX8_spotOf_8 : decode cX8_spotOf 8 = .ok (.iand, 1) := by decide +kernel
theorem dX8_spotOf_9 : decode cX8_spotOf 9 = .ok (.ireturn, 1) := by decide +kernel
set_option maxRecDepth 20000 in
theorem ggX8_settle_X7_gateKind : GoodIn wsX8_settle wsX7_gateKind := goodIn_r _ [14, 15, 16, 17, 13, 18, 19, 20, 21, 22, 23, 24, 25, 26, 27, 28, 29, 30, 31, 32, 33, 34, 81, 82, 83, 84, 85, 95, 96, 97] (by decide +kernel) (by decide +kernel)
set_option maxRecDepth 20000 in
theorem gX8_settle_X7_gateKind : GoodIn wsX8_settle (wsV RX8 55 RX7 yX7_gateKind wsX7_gateKind) := goodIn_app (goodIn_of _ (by decide +kernel)) ggX8_settle_X7_gateKind
set_option maxRecDepth 20000 in
theorem ggX8_settle_X7_gateDigit : GoodIn wsX8_settle wsX7_gateDigit := goodIn_r _ [38, 15, 16, 17, 13, 18, 19, 20, 21, 22, 23, 24, 25, 26, 27, 28, 29, 30, 31, 81, 82, 83, 84, 85, 95, 96, 97] (by decide +kernel) (by decide +kernel)
set_option maxRecDepth 20000 in
theorem gX8_settle_X7_gateDigit : GoodIn wsX8_settle (wsV RX8 58 RX7 yX7_gateDigit wsX7_gateDigit) := goodIn_app (goodIn_of _ (by decide +kernel)) ggX8_settle_X7_gateDigit
set_option maxRecDepth 20000 in
theorem ggX8_settle_X8_newGate : GoodIn wsX8_settle wsX8_newGate := goodIn_r _ [42, 43, 44, 45, 46, 47, 48, 2, 49, 50, 51, 52, 53, 54, 55, 56, 57, 58, 59, 60, 61, 62, 63, 64, 65, 66, 67, 98, 99, 100, 101, 102, 103, 104, 105, 106] (by decide +kernel) (by decide +kernel)
set_option maxRecDepth 20000 in
theorem gX8_settle_X8_newGate : GoodIn wsX8_settle (va_wsS RX8 62 yX8_newGate wsX8_newGate) := goodIn_app (goodIn_of _ (by decide +kernel)) ggX8_settle_X8_newGate
set_option maxRecDepth 20000 in
theorem ggX8_settle_X7_storyDigit : GoodIn wsX8_settle wsX7_storyDigit := goodIn_r _ [71, 72, 73, 36, 37, 13, 38, 15, 16, 17, 18, 19, 20, 21, 22, 23, 24, 25, 26, 27, 28, 29, 30, 31, 81, 82, 83, 84, 85, 95, 96, 97] (by decide +kernel) (by decide +kernel)
set_option maxRecDepth 20000 in
theorem gX8_settle_X7_storyDigit : GoodIn wsX8_settle (wsV RX8 69 RX7 yX7_storyDigit wsX7_storyDigit) := goodIn_app (goodIn_of _ (by decide +kernel)) ggX8_settle_X7_storyDigit
set_option maxRecDepth 20000 in
theorem ggX8_settle_X5_init : GoodIn wsX8_settle wsX5_init := goodIn_r _ [76, 77, 58, 59, 78, 79, 80, 92, 93, 94] (by decide +kernel) (by decide +kernel)
set_option maxRecDepth 20000 in
theorem gX8_settle_X5_init : GoodIn wsX8_settle (wsX5_init) := ggX8_settle_X5_init
theorem dX8_settle_0 : decode cX8_settle 0 = .ok (.aload_n 0, 1) := by decide +kernel
theorem dX8_settle_1 : decode cX8_settle 1 = .ok (.aload_n 1, 1) := by decide +kernel
theorem dX8_settle_2 : decode cX8_settle 2 = .ok (.getfield 50, 3) := by decide +kernel
theorem dX8_settle_5 : decode cX8_settle 5 = .ok (.anewarray 9, 3) := by decide +kernel
theorem dX8_settle_8 : decode cX8_settle 8 = .ok (.putfield 11, 3) := by decide +kernel
theorem dX8_settle_11 : decode cX8_settle 11 = .ok (.iconst 0, 1) := by decide +kernel
theorem dX8_settle_12 : decode cX8_settle 12 = .ok (.istore_n 2, 1) := by decide +kernel
theorem dX8_settle_13 : decode cX8_settle 13 = .ok (.iload_n 2, 1) := by decide +kernel
theorem dX8_settle_14 : decode cX8_settle 14 = .ok (.aload_n 0, 1) := by decide +kernel
theorem dX8_settle_15 : decode cX8_settle 15 = .ok (.getfield 11, 3) := by decide +kernel
theorem dX8_settle_18 : decode cX8_settle 18 = .ok (.arraylength, 1) := by decide +kernel
theorem dX8_settle_19 : decode cX8_settle 19 = .ok (.if_icmp .ge 36, 3) := by decide +kernel
theorem dX8_settle_22 : decode cX8_settle 22 = .ok (.aload_n 0, 1) := by decide +kernel
theorem dX8_settle_23 : decode cX8_settle 23 = .ok (.getfield 11, 3) := by decide +kernel
theorem dX8_settle_26 : decode cX8_settle 26 = .ok (.iload_n 2, 1) := by decide +kernel
theorem dX8_settle_27 : decode cX8_settle 27 = .ok (.aload_n 1, 1) := by decide +kernel
theorem dX8_settle_28 : decode cX8_settle 28 = .ok (.iload_n 2, 1) := by decide +kernel
theorem dX8_settle_29 : decode cX8_settle 29 = .ok (.invokevirtual 55, 3) := by decide +kernel
theorem dX8_settle_32 : decode cX8_settle 32 = .ok (.iload_n 2, 1) := by decide +kernel
theorem dX8_settle_33 : decode cX8_settle 33 = .ok (.aload_n 1, 1) := by decide +kernel
theorem dX8_settle_34 : decode cX8_settle 34 = .ok (.iload_n 2, 1) := by decide +kernel
theorem dX8_settle_35 : decode cX8_settle 35 = .ok (.iconst 2, 1) := by decide +kernel
theorem dX8_settle_36 : decode cX8_settle 36 = .ok (.invokevirtual 58, 3) := by decide +kernel
theorem dX8_settle_39 : decode cX8_settle 39 = .ok (.aload_n 1, 1) := by decide +kernel
theorem dX8_settle_40 : decode cX8_settle 40 = .ok (.iload_n 2, 1) := by decide +kernel
theorem dX8_settle_41 : decode cX8_settle 41 = .ok (.iconst 3, 1) := by decide +kernel
theorem dX8_settle_42 : decode cX8_settle 42 = .ok (.invokevirtual 58, 3) := by decide +kernel
theorem dX8_settle_45 : decode cX8_settle 45 = .ok (.invokestatic 62, 3) := by decide +kernel
theorem dX8_settle_48 : decode cX8_settle 48 = .ok (.aastore, 1) := by decide +kernel
theorem dX8_settle_49 : decode cX8_settle 49 = .ok (.iinc 2 1, 3) := by decide +kernel
theorem dX8_settle_52 : decode cX8_settle 52 = .ok (.goto (-39), 3) := by decide +kernel
theorem dX8_settle_55 : decode cX8_settle 55 = .ok (.aload_n 0, 1) := by decide +kernel
theorem dX8_settle_56 : decode cX8_settle 56 = .ok (.aload_n 1, 1) := by decide +kernel
theorem dX8_settle_57 : decode cX8_settle 57 = .ok (.getfield 66, 3) := by decide +kernel
theorem dX8_settle_60 : decode cX8_settle 60 = .ok (.anewarray 17, 3) := by decide +kernel
theorem dX8_settle_63 : decode cX8_settle 63 = .ok (.putfield 19, 3) := by decide +kernel
theorem dX8_settle_66 : decode cX8_settle 66 = .ok (.iconst 0, 1) := by decide +kernel
theorem dX8_settle_67 : decode cX8_settle 67 = .ok (.istore_n 2, 1) := by decide +kernel
theorem dX8_settle_68 : decode cX8_settle 68 = .ok (.iload_n 2, 1) := by decide +kernel
theorem dX8_settle_69 : decode cX8_settle 69 = .ok (.aload_n 0, 1) := by decide +kernel
theorem dX8_settle_70 : decode cX8_settle 70 = .ok (.getfield 19, 3) := by decide +kernel
theorem dX8_settle_73 : decode cX8_settle 73 = .ok (.arraylength, 1) := by decide +kernel
theorem dX8_settle_74 : decode cX8_settle 74 = .ok (.if_icmp .ge 40, 3) := by decide +kernel
theorem dX8_settle_77 : decode cX8_settle 77 = .ok (.aload_n 0, 1) := by decide +kernel
theorem dX8_settle_78 : decode cX8_settle 78 = .ok (.getfield 19, 3) := by decide +kernel
theorem dX8_settle_81 : decode cX8_settle 81 = .ok (.iload_n 2, 1) := by decide +kernel
theorem dX8_settle_82 : decode cX8_settle 82 = .ok (.new 17, 3) := by decide +kernel
theorem dX8_settle_85 : decode cX8_settle 85 = .ok (.dup, 1) := by decide +kernel
theorem dX8_settle_86 : decode cX8_settle 86 = .ok (.aload_n 1, 1) := by decide +kernel
theorem dX8_settle_87 : decode cX8_settle 87 = .ok (.iload_n 2, 1) := by decide +kernel
theorem dX8_settle_88 : decode cX8_settle 88 = .ok (.iconst 1, 1) := by decide +kernel
theorem dX8_settle_89 : decode cX8_settle 89 = .ok (.invokevirtual 69, 3) := by decide +kernel
theorem dX8_settle_92 : decode cX8_settle 92 = .ok (.aload_n 1, 1) := by decide +kernel
theorem dX8_settle_93 : decode cX8_settle 93 = .ok (.iload_n 2, 1) := by decide +kernel
theorem dX8_settle_94 : decode cX8_settle 94 = .ok (.iconst 2, 1) := by decide +kernel
theorem dX8_settle_95 : decode cX8_settle 95 = .ok (.invokevirtual 69, 3) := by decide +kernel
theorem dX8_settle_98 : decode cX8_settle 98 = .ok (.aload_n 1, 1) := by decide +kernel
theorem dX8_settle_99 : decode cX8_settle 99 = .ok (.iload_n 2, 1) := by decide +kernel
theorem dX8_settle_100 : decode cX8_settle 100 = .ok (.iconst 3, 1) := by decide +kernel
theorem dX8_settle_101 : decode cX8_settle 101 = .ok (.invokevirtual 69, 3) := by decide +kernel
theorem dX8_settle_104 : decode cX8_settle 104 = .ok (.invokespecial 72, 3) := by decide +kernel
theorem dX8_settle_107 : decode cX8_settle 107 = .ok (.aastore, 1) := by decide +kernel
theorem dX8_settle_108 : decode cX8_settle 108 = .ok (.iinc 2 1, 3) := by decide +kernel
theorem dX8_settle_111 : decode cX8_settle 111 = .ok (.goto (-43), 3) := by decide +kernel
theorem dX8_settle_114 : decode cX8_settle 114 = .ok (.aload_n 0, 1) := by decide +kernel
theorem dX8_settle_115 : decode cX8_settle 115 = .ok (.iconst 0, 1) := by decide +kernel
theorem dX8_settle_116 : decode cX8_settle 116 = .ok (.putfield 23, 3) := by decide +kernel
theorem dX8_settle_119 : decode cX8_settle 119 = .ok (.return_, 1) := by decide +kernel
theorem dX8_stands_0 : decode cX8_stands 0 = .ok (.aload_n 0, 1) := by decide +kernel
theorem dX8_stands_1 : decode cX8_stands 1 = .ok (.getfield 19, 3) := by decide +kernel
theorem dX8_stands_4 : decode cX8_stands 4 = .ok (.arraylength, 1) := by decide +kernel
theorem dX8_stands_5 : decode cX8_stands 5 = .ok (.ifCond .le 7, 3) := by decide +kernel
theorem dX8_stands_8 : decode cX8_stands 8 = .ok (.iconst 1, 1) := by decide +kernel
theorem dX8_stands_9 : decode cX8_stands 9 = .ok (.goto 4, 3) := by decide +kernel
theorem dX8_stands_12 : decode cX8_stands 12 = .ok (.iconst 0, 1) := by decide +kernel
theorem dX8_stands_13 : decode cX8_stands 13 = .ok (.ireturn, 1) := by decide +kernel
theorem dX8_gateAt_0 : decode cX8_gateAt 0 = .ok (.iload_n 1, 1) := by decide +kernel
theorem dX8_gateAt_1 : decode cX8_gateAt 1 = .ok (.ifCond .lt 21, 3) := by decide +kernel
theorem dX8_gateAt_4 : decode cX8_gateAt 4 = .ok (.iload_n 1, 1) := by decide +kernel
theorem dX8_gateAt_5 : decode cX8_gateAt 5 = .ok (.aload_n 0, 1) := by decide +kernel
theorem dX8_gateAt_6 : decode cX8_gateAt 6 = .ok (.getfield 11, 3) := by decide +kernel
theorem dX8_gateAt_9 : decode cX8_gateAt 9 = .ok (.arraylength, 1) := by decide +kernel
theorem dX8_gateAt_10 : decode cX8_gateAt 10 = .ok (.if_icmp .ge 12, 3) := by decide +kernel
theorem dX8_gateAt_13 : decode cX8_gateAt 13 = .ok (.aload_n 0, 1) := by decide +kernel
theorem dX8_gateAt_14 : decode cX8_gateAt 14 = .ok (.getfield 11, 3) := by decide +kernel
theorem dX8_gateAt_17 : decode cX8_gateAt 17 = .ok (.iload_n 1, 1) := by decide +kernel
theorem dX8_gateAt_18 : decode cX8_gateAt 18 = .ok (.aaload, 1) := by decide +kernel
theorem dX8_gateAt_19 : decode cX8_gateAt 19 = .ok (.goto 4, 3) := by decide +kernel
theorem dX8_gateAt_22 : decode cX8_gateAt 22 = .ok (.aconst_null, 1) := by decide +kernel
theorem dX8_gateAt_23 : decode cX8_gateAt 23 = .ok (.areturn, 1) := by decide +kernel
theorem dX8_storyAt_0 : decode cX8_storyAt 0 = .ok (.iload_n 1, 1) := by decide +kernel
theorem dX8_storyAt_1 : decode cX8_storyAt 1 = .ok (.ifCond .lt 21, 3) := by decide +kernel
theorem dX8_storyAt_4 : decode cX8_storyAt 4 = .ok (.iload_n 1, 1) := by decide +kernel
theorem dX8_storyAt_5 : decode cX8_storyAt 5 = .ok (.aload_n 0, 1) := by decide +kernel
theorem dX8_storyAt_6 : decode cX8_storyAt 6 = .ok (.getfield 19, 3) := by decide +kernel
theorem dX8_storyAt_9 : decode cX8_storyAt 9 = .ok (.arraylength, 1) := by decide +kernel
theorem dX8_storyAt_10 : decode cX8_storyAt 10 = .ok (.if_icmp .ge 12, 3) := by decide +kernel
theorem dX8_storyAt_13 : decode cX8_storyAt 13 = .ok (.aload_n 0, 1) := by decide +kernel
theorem dX8_storyAt_14 : decode cX8_storyAt 14 = .ok (.getfield 19, 3) := by decide +kernel
theorem dX8_storyAt_17 : decode cX8_storyAt 17 = .ok (.iload_n 1, 1) := by decide +kernel
theorem dX8_storyAt_18 : decode cX8_storyAt 18 = .ok (.aaload, 1) := by decide +kernel
theorem dX8_storyAt_19 : decode cX8_storyAt 19 = .ok (.goto 4, 3) := by decide +kernel
theorem dX8_storyAt_22 : decode cX8_storyAt 22 = .ok (.aconst_null, 1) := by decide +kernel
theorem dX8_storyAt_23 : decode cX8_storyAt 23 = .ok (.areturn, 1) := by decide +kernel
set_option maxRecDepth 20000 in
theorem ggX8_setGate_X8_gateAt : GoodIn wsX8_setGate wsX8_gateAt := goodIn_r _ [7, 2, 17, 18, 19, 20, 21, 22] (by decide +kernel) (by decide +kernel)
set_option maxRecDepth 20000 in
theorem gX8_setGate_X8_gateAt : GoodIn wsX8_setGate (wsV RX8 76 RX8 yX8_gateAt wsX8_gateAt) := goodIn_app (goodIn_of _ (by decide +kernel)) ggX8_setGate_X8_gateAt
theorem dX8_setGate_0 : decode cX8_setGate 0 = .ok (.aload_n 0, 1) := by decide +kernel
theorem dX8_setGate_1 : decode cX8_setGate 1 = .ok (.aload_n 1, 1) := by decide +kernel
theorem dX8_setGate_2 : decode cX8_setGate 2 = .ok (.getfield 73, 3) := by decide +kernel
theorem dX8_setGate_5 : decode cX8_setGate 5 = .ok (.invokevirtual 76, 3) := by decide +kernel
theorem dX8_setGate_8 : decode cX8_setGate 8 = .ok (.ifnull 13, 3) := by decide +kernel
theorem dX8_setGate_11 : decode cX8_setGate 11 = .ok (.aload_n 0, 1) := by decide +kernel
theorem dX8_setGate_12 : decode cX8_setGate 12 = .ok (.getfield 11, 3) := by decide +kernel
theorem dX8_setGate_15 : decode cX8_setGate 15 = .ok (.aload_n 1, 1) := by decide +kernel
theorem dX8_setGate_16 : decode cX8_setGate 16 = .ok (.getfield 73, 3) := by decide +kernel
theorem dX8_setGate_19 : decode cX8_setGate 19 = .ok (.aload_n 1, 1) := by decide +kernel
theorem dX8_setGate_20 : decode cX8_setGate 20 = .ok (.aastore, 1) := by decide +kernel
theorem dX8_setGate_21 : decode cX8_setGate 21 = .ok (.return_, 1) := by decide +kernel
set_option maxRecDepth 20000 in
theorem ggX8_dutyOf_X5_sizeOf : GoodIn wsX8_dutyOf wsX5_sizeOf := goodIn_r _ [8, 9, 10, 11, 7, 12, 13, 68, 69, 70] (by decide +kernel) (by decide +kernel)
set_option maxRecDepth 20000 in
theorem gX8_dutyOf_X5_sizeOf : GoodIn wsX8_dutyOf (wsV RX8 80 RX5 yX5_sizeOf wsX5_sizeOf) := goodIn_app (goodIn_of _ (by decide +kernel)) ggX8_dutyOf_X5_sizeOf
set_option maxRecDepth 20000 in
theorem ggX8_dutyOf_X5_freshness : GoodIn wsX8_dutyOf wsX5_freshness := goodIn_r _ [17, 18, 19, 20, 21, 22, 68, 69, 70] (by decide +kernel) (by decide +kernel)
set_option maxRecDepth 20000 in
theorem gX8_dutyOf_X5_freshness : GoodIn wsX8_dutyOf (wsV RX8 89 RX5 yX5_freshness wsX5_freshness) := goodIn_app (goodIn_of _ (by decide +kernel)) ggX8_dutyOf_X5_freshness
set_option maxRecDepth 20000 in
theorem ggX8_dutyOf_X0_takes : GoodIn wsX8_dutyOf wsX0_takes := goodIn_r _ [27, 28, 29, 30, 26, 31, 32, 33, 34, 35, 36, 59, 60, 61, 62, 63, 64, 65, 66, 67] (by decide +kernel) (by decide +kernel)
set_option maxRecDepth 20000 in
theorem gX8_dutyOf_X0_takes : GoodIn wsX8_dutyOf (wsV RX8 92 RX0 yX0_takes wsX0_takes) := goodIn_app (goodIn_of _ (by decide +kernel)) ggX8_dutyOf_X0_takes
set_option maxRecDepth 20000 in
theorem ggX8_dutyOf_X1_takes : GoodIn wsX8_dutyOf wsX1_takes := goodIn_r _ [43, 44, 45, 46, 29, 26, 31, 32, 59, 60, 61, 62, 63, 64, 65, 66, 67] (by decide +kernel) (by decide +kernel)
set_option maxRecDepth 20000 in
theorem gX8_dutyOf_X1_takes_u92X1 : GoodIn wsX8_dutyOf (va_wsO RX8 92 RX1 "GossipGate$Gate" ⟨"GossipGate$Gate", "takes", "(II)I"⟩ yX1_takes wsX1_takes) := goodIn_app (goodIn_of _ (by decide +kernel)) ggX8_dutyOf_X1_takes
set_option maxRecDepth 20000 in
theorem ggX8_dutyOf_X6_takes : GoodIn wsX8_dutyOf wsX6_takes := goodIn_r _ [50, 51, 52, 59, 60, 61, 62, 63, 64, 65, 66, 67] (by decide +kernel) (by decide +kernel)
set_option maxRecDepth 20000 in
theorem gX8_dutyOf_X6_takes_u92X6 : GoodIn wsX8_dutyOf (va_wsO RX8 92 RX6 "GossipGate$Gate" ⟨"GossipGate$Gate", "takes", "(II)I"⟩ yX6_takes wsX6_takes) := goodIn_app (goodIn_of _ (by decide +kernel)) ggX8_dutyOf_X6_takes
theorem dX8_dutyOf_0 : decode cX8_dutyOf 0 = .ok (.aload_n 2, 1) := by decide +kernel
theorem dX8_dutyOf_1 : decode cX8_dutyOf 1 = .ok (.iload 4, 2) := by decide +kernel
theorem dX8_dutyOf_3 : decode cX8_dutyOf 3 = .ok (.invokevirtual 80, 3) := by decide +kernel
theorem dX8_dutyOf_6 : decode cX8_dutyOf 6 = .ok (.istore 5, 2) := by decide +kernel
theorem dX8_dutyOf_8 : decode cX8_dutyOf 8 = .ok (.iload 5, 2) := by decide +kernel
theorem dX8_dutyOf_10 : decode cX8_dutyOf 10 = .ok (.aload_n 0, 1) := by decide +kernel
theorem dX8_dutyOf_11 : decode cX8_dutyOf 11 = .ok (.getfield 23, 3) := by decide +kernel
theorem dX8_dutyOf_14 : decode cX8_dutyOf 14 = .ok (.if_icmp .le 14, 3) := by decide +kernel
theorem dX8_dutyOf_17 : decode cX8_dutyOf 17 = .ok (.aload_n 1, 1) := by decide +kernel
theorem dX8_dutyOf_18 : decode cX8_dutyOf 18 = .ok (.getfield 83, 3) := by decide +kernel
theorem dX8_dutyOf_21 : decode cX8_dutyOf 21 = .ok (.aload_n 2, 1) := by decide +kernel
theorem dX8_dutyOf_22 : decode cX8_dutyOf 22 = .ok (.getfield 86, 3) := by decide +kernel
theorem dX8_dutyOf_25 : decode cX8_dutyOf 25 = .ok (.if_icmp .ne 5, 3) := by decide +kernel
theorem dX8_dutyOf_28 : decode cX8_dutyOf 28 = .ok (.iconst 0, 1) := by decide +kernel
theorem dX8_dutyOf_29 : decode cX8_dutyOf 29 = .ok (.ireturn, 1) := by decide +kernel
theorem dX8_dutyOf_30 : decode cX8_dutyOf 30 = .ok (.aload_n 1, 1) := by decide +kernel
theorem dX8_dutyOf_31 : decode cX8_dutyOf 31 = .ok (.iload 5, 2) := by decide +kernel
theorem dX8_dutyOf_33 : decode cX8_dutyOf 33 = .ok (.aload_n 2, 1) := by decide +kernel
theorem dX8_dutyOf_34 : decode cX8_dutyOf 34 = .ok (.iload_n 3, 1) := by decide +kernel
theorem dX8_dutyOf_35 : decode cX8_dutyOf 35 = .ok (.invokevirtual 89, 3) := by decide +kernel
theorem dX8_dutyOf_38 : decode cX8_dutyOf 38 = .ok (.invokevirtual 92, 3) := by decide +kernel
theorem dX8_dutyOf_41 : decode cX8_dutyOf 41 = .ok (.ireturn, 1) := by decide +kernel
set_option maxRecDepth 20000 in
theorem ggX8_collect_J7_fill_53178 : GoodIn wsX8_collect wsJ7_fill_53178 := goodIn_r _ [11] (by decide +kernel) (by decide +kernel)
set_option maxRecDepth 20000 in
theorem gX8_collect_J7_fill_53178 : GoodIn wsX8_collect (va_wsS RX8 95 yJ7_fill_53178 wsJ7_fill_53178) := goodIn_app (goodIn_of _ (by decide +kernel)) ggX8_collect_J7_fill_53178
set_option maxRecDepth 20000 in
theorem ggX8_collect_X8_gateAt : GoodIn wsX8_collect wsX8_gateAt := goodIn_r _ [16, 17, 79, 80, 81, 82, 83, 84] (by decide +kernel) (by decide +kernel)
set_option maxRecDepth 20000 in
theorem gX8_collect_X8_gateAt : GoodIn wsX8_collect (wsV RX8 76 RX8 yX8_gateAt wsX8_gateAt) := goodIn_app (goodIn_of _ (by decide +kernel)) ggX8_collect_X8_gateAt
set_option maxRecDepth 20000 in
theorem ggX8_collect_X8_storyAt : GoodIn wsX8_collect wsX8_storyAt := goodIn_r _ [21, 22, 79, 80, 81, 82, 83, 84] (by decide +kernel) (by decide +kernel)
set_option maxRecDepth 20000 in
theorem gX8_collect_X8_storyAt : GoodIn wsX8_collect (wsV RX8 110 RX8 yX8_storyAt wsX8_storyAt) := goodIn_app (goodIn_of _ (by decide +kernel)) ggX8_collect_X8_storyAt
set_option maxRecDepth 20000 in
theorem ggX8_collect_X8_dutyOf : GoodIn wsX8_collect wsX8_dutyOf := goodIn_r _ [26, 27, 28, 29, 30, 31, 32, 33, 34, 35, 36, 37, 38, 39, 40, 41, 42, 43, 44, 45, 46, 47, 48, 49, 50, 51, 52, 53, 54, 55, 56, 57, 58, 59, 60, 61, 62, 63, 64, 65, 66, 67, 68, 69, 70, 71, 72, 73, 74, 75, 76, 77, 78, 79, 80, 81, 82, 83, 84, 93, 94, 95, 96, 97, 98, 99, 100, 101, 102, 103, 104] (by decide +kernel) (by decide +kernel)
set_option maxRecDepth 20000 in
theorem gX8_collect_X8_dutyOf : GoodIn wsX8_collect (wsV RX8 120 RX8 yX8_dutyOf wsX8_dutyOf) := goodIn_app (goodIn_of _ (by decide +kernel)) ggX8_collect_X8_dutyOf
theorem dX8_collect_0 : decode cX8_collect 0 = .ok (.aload_n 0, 1) := by decide +kernel
theorem dX8_collect_1 : decode cX8_collect 1 = .ok (.getfield 27, 3) := by decide +kernel
theorem dX8_collect_4 : decode cX8_collect 4 = .ok (.iconst 0, 1) := by decide +kernel
theorem dX8_collect_5 : decode cX8_collect 5 = .ok (.invokestatic 95, 3) := by decide +kernel
theorem dX8_collect_8 : decode cX8_collect 8 = .ok (.iconst 0, 1) := by decide +kernel
theorem dX8_collect_9 : decode cX8_collect 9 = .ok (.istore_n 2, 1) := by decide +kernel
theorem dX8_collect_10 : decode cX8_collect 10 = .ok (.iload_n 2, 1) := by decide +kernel
theorem dX8_collect_11 : decode cX8_collect 11 = .ok (.aload_n 1, 1) := by decide +kernel
theorem dX8_collect_12 : decode cX8_collect 12 = .ok (.getfield 101, 3) := by decide +kernel
theorem dX8_collect_15 : decode cX8_collect 15 = .ok (.if_icmp .ge 72, 3) := by decide +kernel
theorem dX8_collect_18 : decode cX8_collect 18 = .ok (.aload_n 0, 1) := by decide +kernel
theorem dX8_collect_19 : decode cX8_collect 19 = .ok (.aload_n 1, 1) := by decide +kernel
theorem dX8_collect_20 : decode cX8_collect 20 = .ok (.getfield 106, 3) := by decide +kernel
theorem dX8_collect_23 : decode cX8_collect 23 = .ok (.iload_n 2, 1) := by decide +kernel
theorem dX8_collect_24 : decode cX8_collect 24 = .ok (.iaload, 1) := by decide +kernel
theorem dX8_collect_25 : decode cX8_collect 25 = .ok (.invokevirtual 76, 3) := by decide +kernel
theorem dX8_collect_28 : decode cX8_collect 28 = .ok (.astore_n 3, 1) := by decide +kernel
theorem dX8_collect_29 : decode cX8_collect 29 = .ok (.aload_n 0, 1) := by decide +kernel
theorem dX8_collect_30 : decode cX8_collect 30 = .ok (.aload_n 1, 1) := by decide +kernel
theorem dX8_collect_31 : decode cX8_collect 31 = .ok (.getfield 108, 3) := by decide +kernel
theorem dX8_collect_34 : decode cX8_collect 34 = .ok (.iload_n 2, 1) := by decide +kernel
theorem dX8_collect_35 : decode cX8_collect 35 = .ok (.iaload, 1) := by decide +kernel
theorem dX8_collect_36 : decode cX8_collect 36 = .ok (.invokevirtual 110, 3) := by decide +kernel
theorem dX8_collect_39 : decode cX8_collect 39 = .ok (.astore 4, 2) := by decide +kernel
theorem dX8_collect_41 : decode cX8_collect 41 = .ok (.aload_n 3, 1) := by decide +kernel
theorem dX8_collect_42 : decode cX8_collect 42 = .ok (.ifnull 39, 3) := by decide +kernel
theorem dX8_collect_45 : decode cX8_collect 45 = .ok (.aload 4, 2) := by decide +kernel
theorem dX8_collect_47 : decode cX8_collect 47 = .ok (.ifnull 34, 3) := by decide +kernel
theorem dX8_collect_50 : decode cX8_collect 50 = .ok (.aload_n 0, 1) := by decide +kernel
theorem dX8_collect_51 : decode cX8_collect 51 = .ok (.getfield 27, 3) := by decide +kernel
theorem dX8_collect_54 : decode cX8_collect 54 = .ok (.aload_n 3, 1) := by decide +kernel
theorem dX8_collect_55 : decode cX8_collect 55 = .ok (.getfield 73, 3) := by decide +kernel
theorem dX8_collect_58 : decode cX8_collect 58 = .ok (.dup2, 1) := by decide +kernel
theorem dX8_collect_59 : decode cX8_collect 59 = .ok (.iaload, 1) := by decide +kernel
theorem dX8_collect_60 : decode cX8_collect 60 = .ok (.aload_n 0, 1) := by decide +kernel
theorem dX8_collect_61 : decode cX8_collect 61 = .ok (.aload_n 3, 1) := by decide +kernel
theorem dX8_collect_62 : decode cX8_collect 62 = .ok (.aload 4, 2) := by decide +kernel
theorem dX8_collect_64 : decode cX8_collect 64 = .ok (.aload_n 1, 1) := by decide +kernel
theorem dX8_collect_65 : decode cX8_collect 65 = .ok (.getfield 114, 3) := by decide +kernel
theorem dX8_collect_68 : decode cX8_collect 68 = .ok (.iload_n 2, 1) := by decide +kernel
theorem dX8_collect_69 : decode cX8_collect 69 = .ok (.iaload, 1) := by decide +kernel
theorem dX8_collect_70 : decode cX8_collect 70 = .ok (.aload_n 1, 1) := by decide +kernel
theorem dX8_collect_71 : decode cX8_collect 71 = .ok (.getfield 117, 3) := by decide +kernel
theorem dX8_collect_74 : decode cX8_collect 74 = .ok (.iload_n 2, 1) := by decide +kernel
theorem dX8_collect_75 : decode cX8_collect 75 = .ok (.iaload, 1) := by decide +kernel
theorem dX8_collect_76 : decode cX8_collect 76 = .ok (.invokevirtual 120, 3) := by decide +kernel
theorem dX8_collect_79 : decode cX8_collect 79 = .ok (.iadd, 1) := by decide +kernel
theorem dX8_collect_80 : decode cX8_collect 80 = .ok (.iastore, 1) := by decide +kernel
theorem dX8_collect_81 : decode cX8_collect 81 = .ok (.iinc 2 1, 3) := by decide +kernel
theorem dX8_collect_84 : decode cX8_collect 84 = .ok (.goto (-74), 3) := by decide +kernel
theorem dX8_collect_87 : decode cX8_collect 87 = .ok (.return_, 1) := by decide +kernel
set_option maxRecDepth 20000 in
theorem ggX8_takenAt_X10_isWithin : GoodIn wsX8_takenAt wsX10_isWithin := goodIn_r _ [4] (by decide +kernel) (by decide +kernel)
set_option maxRecDepth 20000 in
theorem gX8_takenAt_X10_isWithin_n124 : GoodIn wsX8_takenAt (wsX10_isWithin) := ggX8_takenAt_X10_isWithin
theorem dX8_takenAt_0 : decode cX8_takenAt 0 = .ok (.iload_n 1, 1) := by decide +kernel
theorem dX8_takenAt_1 : decode cX8_takenAt 1 = .ok (.iconst 0, 1) := by decide +kernel
theorem dX8_takenAt_2 : decode cX8_takenAt 2 = .ok (.iconst 4, 1) := by decide +kernel
theorem dX8_takenAt_3 : decode cX8_takenAt 3 = .ok (.invokestatic 124, 3) := by decide +kernel
theorem dX8_takenAt_6 : decode cX8_takenAt 6 = .ok (.ifCond .eq 12, 3) := by decide +kernel
theorem dX8_takenAt_9 : decode cX8_takenAt 9 = .ok (.aload_n 0, 1) := by decide +kernel
theorem dX8_takenAt_10 : decode cX8_takenAt 10 = .ok (.getfield 27, 3) := by decide +kernel
theorem dX8_takenAt_13 : decode cX8_takenAt 13 = .ok (.iload_n 1, 1) := by decide +kernel
theorem dX8_takenAt_14 : decode cX8_takenAt 14 = .ok (.iaload, 1) := by decide +kernel
theorem dX8_takenAt_15 : decode cX8_takenAt 15 = .ok (.goto 4, 3) := by decide +kernel
theorem dX8_takenAt_18 : decode cX8_takenAt 18 = .ok (.iconst 0, 1) := by decide +kernel
theorem dX8_takenAt_19 : decode cX8_takenAt 19 = .ok (.ireturn, 1) := by decide +kernel
theorem dX8_takenInAll_0 : decode cX8_takenInAll 0 = .ok (.iconst 0, 1) := by decide +kernel
theorem dX8_takenInAll_1 : decode cX8_takenInAll 1 = .ok (.istore_n 1, 1) := by decide +kernel
theorem dX8_takenInAll_2 : decode cX8_takenInAll 2 = .ok (.aload_n 0, 1) := by decide +kernel
theorem dX8_takenInAll_3 : decode cX8_takenInAll 3 = .ok (.getfield 27, 3) := by decide +kernel
theorem dX8_takenInAll_6 : decode cX8_takenInAll 6 = .ok (.astore_n 2, 1) := by decide +kernel
theorem dX8_takenInAll_7 : decode cX8_takenInAll 7 = .ok (.aload_n 2, 1) := by decide +kernel
theorem dX8_takenInAll_8 : decode cX8_takenInAll 8 = .ok (.arraylength, 1) := by decide +kernel
theorem dX8_takenInAll_9 : decode cX8_takenInAll 9 = .ok (.istore_n 3, 1) := by decide +kernel
theorem dX8_takenInAll_10 : decode cX8_takenInAll 10 = .ok (.iconst 0, 1) := by decide +kernel
theorem dX8_takenInAll_11 : decode cX8_takenInAll 11 = .ok (.istore 4, 2) := by decide +kernel
theorem dX8_takenInAll_13 : decode cX8_takenInAll 13 = .ok (.iload 4, 2) := by decide +kernel
theorem dX8_takenInAll_15 : decode cX8_takenInAll 15 = .ok (.iload_n 3, 1) := by decide +kernel
theorem dX8_takenInAll_16 : decode cX8_takenInAll 16 = .ok (.if_icmp .ge 20, 3) := by decide +kernel
theorem dX8_takenInAll_19 : decode cX8_takenInAll 19 = .ok (.aload_n 2, 1) := by decide +kernel
theorem dX8_takenInAll_20 : decode cX8_takenInAll 20 = .ok (.iload 4, 2) := by decide +kernel
theorem dX8_takenInAll_22 : decode cX8_takenInAll 22 = .ok (.iaload, 1) := by decide +kernel
theorem dX8_takenInAll_23 : decode cX8_takenInAll 23 = .ok (.istore 5, 2) := by decide +kernel
theorem dX8_takenInAll_25 : decode cX8_takenInAll 25 = .ok (.iload_n 1, 1) := by decide +kernel
theorem dX8_takenInAll_26 : decode cX8_takenInAll 26 = .ok (.iload 5, 2) := by decide +kernel
theorem dX8_takenInAll_28 : decode cX8_takenInAll 28 = .ok (.iadd, 1) := by decide +kernel
theorem dX8_takenInAll_29 : decode cX8_takenInAll 29 = .ok (.istore_n 1, 1) := by decide +kernel
theorem dX8_takenInAll_30 : decode cX8_takenInAll 30 = .ok (.iinc 4 1, 3) := by decide +kernel
theorem dX8_takenInAll_33 : decode cX8_takenInAll 33 = .ok (.goto (-20), 3) := by decide +kernel
theorem dX8_takenInAll_36 : decode cX8_takenInAll 36 = .ok (.iload_n 1, 1) := by decide +kernel
theorem dX8_takenInAll_37 : decode cX8_takenInAll 37 = .ok (.ireturn, 1) := by decide +kernel
set_option maxRecDepth 20000 in
theorem ggX8_leastKey_X8_forgetKeys : GoodIn wsX8_leastKey wsX8_forgetKeys := goodIn_r _ [7, 2, 8, 9, 10, 11, 12, 96, 97, 98, 99, 100, 101] (by decide +kernel) (by decide +kernel)
set_option maxRecDepth 20000 in
theorem gX8_leastKey_X8_forgetKeys : GoodIn wsX8_leastKey (wsV RX8 128 RX8 yX8_forgetKeys wsX8_forgetKeys) := goodIn_app (goodIn_of _ (by decide +kernel)) ggX8_leastKey_X8_forgetKeys
set_option maxRecDepth 20000 in
theorem ggX8_leastKey_X8_openDay : GoodIn wsX8_leastKey wsX8_openDay := goodIn_r _ [16, 17, 18, 19, 20, 6, 21, 22, 23, 24, 25, 26, 27, 28, 29, 30, 31, 32, 33, 34, 35, 36, 37, 38, 39, 40, 41, 42, 43, 44, 45, 46, 47, 48, 49, 50, 51, 52, 53, 54, 55, 56, 57, 58, 59, 60, 61, 62, 63, 64, 65, 66, 67, 68, 69, 70, 71, 72, 73, 74, 75, 76, 77, 78, 79, 80, 81, 82, 83, 2, 84, 85, 86, 87, 88, 89, 90, 91, 92, 96, 97, 98, 99, 100, 101, 102, 103, 104, 105, 106, 107, 108, 109, 110, 93, 94, 95] (by decide +kernel) (by decide +kernel)
set_option maxRecDepth 20000 in
theorem gX8_leastKey_X8_openDay : GoodIn wsX8_leastKey (wsV RX8 134 RX8 yX8_openDay wsX8_openDay) := goodIn_app (goodIn_of _ (by decide +kernel)) ggX8_leastKey_X8_openDay
theorem dX8_leastKey_0 : decode cX8_leastKey 0 = .ok (.aload_n 0, 1) := by decide +kernel
theorem dX8_leastKey_1 : decode cX8_leastKey 1 = .ok (.invokevirtual 128, 3) := by decide +kernel
theorem dX8_leastKey_4 : decode cX8_leastKey 4 = .ok (.aload_n 1, 1) := by decide +kernel
theorem dX8_leastKey_5 : decode cX8_leastKey 5 = .ok (.getfield 131, 3) := by decide +kernel
theorem dX8_leastKey_8 : decode cX8_leastKey 8 = .ok (.istore 4, 2) := by decide +kernel
theorem dX8_leastKey_10 : decode cX8_leastKey 10 = .ok (.iload 4, 2) := by decide +kernel
theorem dX8_leastKey_12 : decode cX8_leastKey 12 = .ok (.iload_n 2, 1) := by decide +kernel
theorem dX8_leastKey_13 : decode cX8_leastKey 13 = .ok (.if_icmp .gt 17, 3) := by decide +kernel
theorem dX8_leastKey_16 : decode cX8_leastKey 16 = .ok (.aload_n 0, 1) := by decide +kernel
theorem dX8_leastKey_17 : decode cX8_leastKey 17 = .ok (.aload_n 1, 1) := by decide +kernel
theorem dX8_leastKey_18 : decode cX8_leastKey 18 = .ok (.iload 4, 2) := by decide +kernel
theorem dX8_leastKey_20 : decode cX8_leastKey 20 = .ok (.iload_n 3, 1) := by decide +kernel
theorem dX8_leastKey_21 : decode cX8_leastKey 21 = .ok (.invokevirtual 134, 3) := by decide +kernel
theorem dX8_leastKey_24 : decode cX8_leastKey 24 = .ok (.iinc 4 1, 3) := by decide +kernel
theorem dX8_leastKey_27 : decode cX8_leastKey 27 = .ok (.goto (-17), 3) := by decide +kernel
theorem dX8_leastKey_30 : decode cX8_leastKey 30 = .ok (.aload_n 0, 1) := by decide +kernel
theorem dX8_leastKey_31 : decode cX8_leastKey 31 = .ok (.getfield 34, 3) := by decide +kernel
theorem dX8_leastKey_34 : decode cX8_leastKey 34 = .ok (.bipush 7, 2) := by decide +kernel
theorem dX8_leastKey_36 : decode cX8_leastKey 36 = .ok (.iaload, 1) := by decide +kernel
theorem dX8_leastKey_37 : decode cX8_leastKey 37 = .ok (.ireturn, 1) := by decide +kernel
set_option maxRecDepth 20000 in
theorem ggX8_freeDay_X8_forgetKeys : GoodIn wsX8_freeDay wsX8_forgetKeys := goodIn_r _ [7, 2, 8, 9, 10, 11, 12, 99, 100, 101, 102, 103, 104] (by decide +kernel) (by decide +kernel)
set_option maxRecDepth 20000 in
theorem gX8_freeDay_X8_forgetKeys : GoodIn wsX8_freeDay (wsV RX8 128 RX8 yX8_forgetKeys wsX8_forgetKeys) := goodIn_app (goodIn_of _ (by decide +kernel)) ggX8_freeDay_X8_forgetKeys
set_option maxRecDepth 20000 in
theorem ggX8_freeDay_X8_openDay : GoodIn wsX8_freeDay wsX8_openDay := goodIn_r _ [16, 17, 18, 19, 20, 6, 21, 22, 23, 24, 25, 26, 27, 28, 29, 30, 31, 32, 33, 34, 35, 36, 37, 38, 39, 40, 41, 42, 43, 44, 45, 46, 47, 48, 49, 50, 51, 52, 53, 54, 55, 56, 57, 58, 59, 60, 61, 62, 63, 64, 65, 66, 67, 68, 69, 70, 71, 72, 73, 74, 75, 76, 77, 78, 79, 80, 81, 82, 83, 2, 84, 85, 86, 87, 88, 89, 90, 91, 92, 99, 100, 101, 102, 103, 104, 105, 106, 107, 108, 109, 110, 111, 112, 113, 96, 97, 98] (by decide +kernel) (by decide +kernel)
set_option maxRecDepth 20000 in
theorem gX8_freeDay_X8_openDay : GoodIn wsX8_freeDay (wsV RX8 134 RX8 yX8_openDay wsX8_openDay) := goodIn_app (goodIn_of _ (by decide +kernel)) ggX8_freeDay_X8_openDay
set_option maxRecDepth 20000 in
theorem ggX8_freeDay_X8_penceOf : GoodIn wsX8_freeDay wsX8_penceOf := goodIn_r _ [95] (by decide +kernel) (by decide +kernel)
set_option maxRecDepth 20000 in
theorem gX8_freeDay_X8_penceOf : GoodIn wsX8_freeDay (va_wsS RX8 138 yX8_penceOf wsX8_penceOf) := goodIn_app (goodIn_of _ (by decide +kernel)) ggX8_freeDay_X8_penceOf
theorem dX8_freeDay_0 : decode cX8_freeDay 0 = .ok (.aload_n 0, 1) := by decide +kernel
theorem dX8_freeDay_1 : decode cX8_freeDay 1 = .ok (.invokevirtual 128, 3) := by decide +kernel
theorem dX8_freeDay_4 : decode cX8_freeDay 4 = .ok (.aload_n 1, 1) := by decide +kernel
theorem dX8_freeDay_5 : decode cX8_freeDay 5 = .ok (.getfield 131, 3) := by decide +kernel
theorem dX8_freeDay_8 : decode cX8_freeDay 8 = .ok (.istore_n 2, 1) := by decide +kernel
theorem dX8_freeDay_9 : decode cX8_freeDay 9 = .ok (.iload_n 2, 1) := by decide +kernel
theorem dX8_freeDay_10 : decode cX8_freeDay 10 = .ok (.bipush 7, 2) := by decide +kernel
theorem dX8_freeDay_12 : decode cX8_freeDay 12 = .ok (.if_icmp .gt 31, 3) := by decide +kernel
theorem dX8_freeDay_15 : decode cX8_freeDay 15 = .ok (.aload_n 0, 1) := by decide +kernel
theorem dX8_freeDay_16 : decode cX8_freeDay 16 = .ok (.aload_n 1, 1) := by decide +kernel
theorem dX8_freeDay_17 : decode cX8_freeDay 17 = .ok (.iload_n 2, 1) := by decide +kernel
theorem dX8_freeDay_18 : decode cX8_freeDay 18 = .ok (.iconst (-1), 1) := by decide +kernel
theorem dX8_freeDay_19 : decode cX8_freeDay 19 = .ok (.invokevirtual 134, 3) := by decide +kernel
theorem dX8_freeDay_22 : decode cX8_freeDay 22 = .ok (.aload_n 0, 1) := by decide +kernel
theorem dX8_freeDay_23 : decode cX8_freeDay 23 = .ok (.getfield 34, 3) := by decide +kernel
theorem dX8_freeDay_26 : decode cX8_freeDay 26 = .ok (.bipush 7, 2) := by decide +kernel
theorem dX8_freeDay_28 : decode cX8_freeDay 28 = .ok (.iaload, 1) := by decide +kernel
theorem dX8_freeDay_29 : decode cX8_freeDay 29 = .ok (.invokestatic 138, 3) := by decide +kernel
theorem dX8_freeDay_32 : decode cX8_freeDay 32 = .ok (.ifCond .ne 5, 3) := by decide +kernel
theorem dX8_freeDay_35 : decode cX8_freeDay 35 = .ok (.iload_n 2, 1) := by decide +kernel
theorem dX8_freeDay_36 : decode cX8_freeDay 36 = .ok (.ireturn, 1) := by decide +kernel
theorem dX8_freeDay_37 : decode cX8_freeDay 37 = .ok (.iinc 2 1, 3) := by decide +kernel
theorem dX8_freeDay_40 : decode cX8_freeDay 40 = .ok (.goto (-31), 3) := by decide +kernel
theorem dX8_freeDay_43 : decode cX8_freeDay 43 = .ok (.bipush (-9), 2) := by decide +kernel
theorem dX8_freeDay_45 : decode cX8_freeDay 45 = .ok (.ireturn, 1) := by decide +kernel
set_option maxRecDepth 20000 in
theorem ggX8_waysWithin_X8_setPrices : GoodIn wsX8_waysWithin wsX8_setPrices := goodIn_r _ [6, 1, 7, 8, 9, 10, 11, 5, 12, 13, 14, 15, 16, 17, 18, 19, 20, 21, 22, 23, 24, 25, 26, 27, 28, 29, 30, 31, 32, 33, 34, 35, 36, 37, 38, 39, 40, 41, 42, 43, 44, 45, 46, 47, 48, 49, 50, 51, 52, 53, 54, 55, 56, 57, 58, 59, 60, 61, 62, 63, 64, 69, 70, 71, 72, 73, 74, 75, 76, 77, 78, 79, 80, 81, 82, 83, 84, 85, 86] (by decide +kernel) (by decide +kernel)
set_option maxRecDepth 20000 in
theorem gX8_waysWithin_X8_setPrices : GoodIn wsX8_waysWithin (wsV RX8 141 RX8 yX8_setPrices wsX8_setPrices) := goodIn_app (goodIn_of _ (by decide +kernel)) ggX8_waysWithin_X8_setPrices
set_option maxRecDepth 20000 in
theorem ggX8_waysWithin_X8_pricedBy : GoodIn wsX8_waysWithin wsX8_pricedBy := goodIn_r _ [68, 1, 7, 69, 70, 71, 72, 73, 74] (by decide +kernel) (by decide +kernel)
set_option maxRecDepth 20000 in
theorem gX8_waysWithin_X8_pricedBy : GoodIn wsX8_waysWithin (wsV RX8 145 RX8 yX8_pricedBy wsX8_pricedBy) := goodIn_app (goodIn_of _ (by decide +kernel)) ggX8_waysWithin_X8_pricedBy
theorem dX8_waysWithin_0 : decode cX8_waysWithin 0 = .ok (.aload_n 0, 1) := by decide +kernel
theorem dX8_waysWithin_1 : decode cX8_waysWithin 1 = .ok (.aload_n 1, 1) := by decide +kernel
theorem dX8_waysWithin_2 : decode cX8_waysWithin 2 = .ok (.iload_n 2, 1) := by decide +kernel
theorem dX8_waysWithin_3 : decode cX8_waysWithin 3 = .ok (.invokevirtual 141, 3) := by decide +kernel
theorem dX8_waysWithin_6 : decode cX8_waysWithin 6 = .ok (.iconst 0, 1) := by decide +kernel
theorem dX8_waysWithin_7 : decode cX8_waysWithin 7 = .ok (.istore 4, 2) := by decide +kernel
theorem dX8_waysWithin_9 : decode cX8_waysWithin 9 = .ok (.iconst 0, 1) := by decide +kernel
theorem dX8_waysWithin_10 : decode cX8_waysWithin 10 = .ok (.istore 5, 2) := by decide +kernel
theorem dX8_waysWithin_12 : decode cX8_waysWithin 12 = .ok (.iload 5, 2) := by decide +kernel
theorem dX8_waysWithin_14 : decode cX8_waysWithin 14 = .ok (.aload_n 0, 1) := by decide +kernel
theorem dX8_waysWithin_15 : decode cX8_waysWithin 15 = .ok (.getfield 11, 3) := by decide +kernel
theorem dX8_waysWithin_18 : decode cX8_waysWithin 18 = .ok (.arraylength, 1) := by decide +kernel
theorem dX8_waysWithin_19 : decode cX8_waysWithin 19 = .ok (.if_icmp .ge 64, 3) := by decide +kernel
theorem dX8_waysWithin_22 : decode cX8_waysWithin 22 = .ok (.iconst 0, 1) := by decide +kernel
theorem dX8_waysWithin_23 : decode cX8_waysWithin 23 = .ok (.istore 6, 2) := by decide +kernel
theorem dX8_waysWithin_25 : decode cX8_waysWithin 25 = .ok (.iload 6, 2) := by decide +kernel
theorem dX8_waysWithin_27 : decode cX8_waysWithin 27 = .ok (.aload_n 0, 1) := by decide +kernel
theorem dX8_waysWithin_28 : decode cX8_waysWithin 28 = .ok (.getfield 11, 3) := by decide +kernel
theorem dX8_waysWithin_31 : decode cX8_waysWithin 31 = .ok (.arraylength, 1) := by decide +kernel
theorem dX8_waysWithin_32 : decode cX8_waysWithin 32 = .ok (.if_icmp .ge 45, 3) := by decide +kernel
theorem dX8_waysWithin_35 : decode cX8_waysWithin 35 = .ok (.iconst 0, 1) := by decide +kernel
theorem dX8_waysWithin_36 : decode cX8_waysWithin 36 = .ok (.istore 7, 2) := by decide +kernel
theorem dX8_waysWithin_38 : decode cX8_waysWithin 38 = .ok (.iload 7, 2) := by decide +kernel
theorem dX8_waysWithin_40 : decode cX8_waysWithin 40 = .ok (.aload_n 0, 1) := by decide +kernel
theorem dX8_waysWithin_41 : decode cX8_waysWithin 41 = .ok (.getfield 11, 3) := by decide +kernel
theorem dX8_waysWithin_44 : decode cX8_waysWithin 44 = .ok (.arraylength, 1) := by decide +kernel
theorem dX8_waysWithin_45 : decode cX8_waysWithin 45 = .ok (.if_icmp .ge 26, 3) := by decide +kernel
theorem dX8_waysWithin_48 : decode cX8_waysWithin 48 = .ok (.aload_n 0, 1) := by decide +kernel
theorem dX8_waysWithin_49 : decode cX8_waysWithin 49 = .ok (.iload 5, 2) := by decide +kernel
theorem dX8_waysWithin_51 : decode cX8_waysWithin 51 = .ok (.iload 6, 2) := by decide +kernel
theorem dX8_waysWithin_53 : decode cX8_waysWithin 53 = .ok (.iload 7, 2) := by decide +kernel
theorem dX8_waysWithin_55 : decode cX8_waysWithin 55 = .ok (.invokevirtual 145, 3) := by decide +kernel
theorem dX8_waysWithin_58 : decode cX8_waysWithin 58 = .ok (.iload_n 3, 1) := by decide +kernel
theorem dX8_waysWithin_59 : decode cX8_waysWithin 59 = .ok (.if_icmp .gt 6, 3) := by decide +kernel
theorem dX8_waysWithin_62 : decode cX8_waysWithin 62 = .ok (.iinc 4 1, 3) := by decide +kernel
theorem dX8_waysWithin_65 : decode cX8_waysWithin 65 = .ok (.iinc 7 1, 3) := by decide +kernel
theorem dX8_waysWithin_68 : decode cX8_waysWithin 68 = .ok (.goto (-30), 3) := by decide +kernel
theorem dX8_waysWithin_71 : decode cX8_waysWithin 71 = .ok (.iinc 6 1, 3) := by decide +kernel
theorem dX8_waysWithin_74 : decode cX8_waysWithin 74 = .ok (.goto (-49), 3) := by decide +kernel
theorem dX8_waysWithin_77 : decode cX8_waysWithin 77 = .ok (.iinc 5 1, 3) := by decide +kernel
theorem dX8_waysWithin_80 : decode cX8_waysWithin 80 = .ok (.goto (-68), 3) := by decide +kernel
theorem dX8_waysWithin_83 : decode cX8_waysWithin 83 = .ok (.iload 4, 2) := by decide +kernel
theorem dX8_waysWithin_85 : decode cX8_waysWithin 85 = .ok (.ireturn, 1) := by decide +kernel
theorem dX8_pricedBy_0 : decode cX8_pricedBy 0 = .ok (.iconst 0, 1) := by decide +kernel
theorem dX8_pricedBy_1 : decode cX8_pricedBy 1 = .ok (.istore 4, 2) := by decide +kernel
theorem dX8_pricedBy_3 : decode cX8_pricedBy 3 = .ok (.iconst 0, 1) := by decide +kernel
theorem dX8_pricedBy_4 : decode cX8_pricedBy 4 = .ok (.istore 5, 2) := by decide +kernel
theorem dX8_pricedBy_6 : decode cX8_pricedBy 6 = .ok (.iload 5, 2) := by decide +kernel
theorem dX8_pricedBy_8 : decode cX8_pricedBy 8 = .ok (.aload_n 0, 1) := by decide +kernel
theorem dX8_pricedBy_9 : decode cX8_pricedBy 9 = .ok (.getfield 11, 3) := by decide +kernel
theorem dX8_pricedBy_12 : decode cX8_pricedBy 12 = .ok (.arraylength, 1) := by decide +kernel
theorem dX8_pricedBy_13 : decode cX8_pricedBy 13 = .ok (.if_icmp .ge 64, 3) := by decide +kernel
theorem dX8_pricedBy_16 : decode cX8_pricedBy 16 = .ok (.iload_n 1, 1) := by decide +kernel
theorem dX8_pricedBy_17 : decode cX8_pricedBy 17 = .ok (.iload 5, 2) := by decide +kernel
theorem dX8_pricedBy_19 : decode cX8_pricedBy 19 = .ok (.if_icmp .ne 7, 3) := by decide +kernel
theorem dX8_pricedBy_22 : decode cX8_pricedBy 22 = .ok (.iconst 1, 1) := by decide +kernel
theorem dX8_pricedBy_23 : decode cX8_pricedBy 23 = .ok (.goto 4, 3) := by decide +kernel
theorem dX8_pricedBy_26 : decode cX8_pricedBy 26 = .ok (.iconst 0, 1) := by decide +kernel
theorem dX8_pricedBy_27 : decode cX8_pricedBy 27 = .ok (.iload_n 2, 1) := by decide +kernel
theorem dX8_pricedBy_28 : decode cX8_pricedBy 28 = .ok (.iload 5, 2) := by decide +kernel
theorem dX8_pricedBy_30 : decode cX8_pricedBy 30 = .ok (.if_icmp .ne 7, 3) := by decide +kernel
theorem dX8_pricedBy_33 : decode cX8_pricedBy 33 = .ok (.iconst 2, 1) := by decide +kernel
theorem dX8_pricedBy_34 : decode cX8_pricedBy 34 = .ok (.goto 4, 3) := by decide +kernel
theorem dX8_pricedBy_37 : decode cX8_pricedBy 37 = .ok (.iconst 0, 1) := by decide +kernel
theorem dX8_pricedBy_38 : decode cX8_pricedBy 38 = .ok (.ior, 1) := by decide +kernel
theorem dX8_pricedBy_39 : decode cX8_pricedBy 39 = .ok (.iload_n 3, 1) := by decide +kernel
theorem dX8_pricedBy_40 : decode cX8_pricedBy 40 = .ok (.iload 5, 2) := by decide +kernel
theorem dX8_pricedBy_42 : decode cX8_pricedBy 42 = .ok (.if_icmp .ne 7, 3) := by decide +kernel
theorem dX8_pricedBy_45 : decode cX8_pricedBy 45 = .ok (.iconst 4, 1) := by decide +kernel
theorem dX8_pricedBy_46 : decode cX8_pricedBy 46 = .ok (.goto 4, 3) := by decide +kernel
theorem dX8_pricedBy_49 : decode cX8_pricedBy 49 = .ok (.iconst 0, 1) := by decide +kernel
theorem dX8_pricedBy_50 : decode cX8_pricedBy 50 = .ok (.ior, 1) := by decide +kernel
theorem dX8_pricedBy_51 : decode cX8_pricedBy 51 = .ok (.istore 6, 2) := by decide +kernel
theorem dX8_pricedBy_53 : decode cX8_pricedBy 53 = .ok (.iload 4, 2) := by decide +kernel
theorem dX8_pricedBy_55 : decode cX8_pricedBy 55 = .ok (.aload_n 0, 1) := by decide +kernel
theorem dX8_pricedBy_56 : decode cX8_pricedBy 56 = .ok (.getfield 31, 3) := by decide +kernel
theorem dX8_pricedBy_59 : decode cX8_pricedBy 59 = .ok (.iload 5, 2) := by decide +kernel
theorem dX8_pricedBy_61 : decode cX8_pricedBy 61 = .ok (.bipush 8, 2) := by decide +kernel
theorem dX8_pricedBy_63 : decode cX8_pricedBy 63 = .ok (.imul, 1) := by decide +kernel
theorem dX8_pricedBy_64 : decode cX8_pricedBy 64 = .ok (.iload 6, 2) := by decide +kernel
theorem dX8_pricedBy_66 : decode cX8_pricedBy 66 = .ok (.iadd, 1) := by decide +kernel
theorem dX8_pricedBy_67 : decode cX8_pricedBy 67 = .ok (.iaload, 1) := by decide +kernel
theorem dX8_pricedBy_68 : decode cX8_pricedBy 68 = .ok (.iadd, 1) := by decide +kernel
theorem dX8_pricedBy_69 : decode cX8_pricedBy 69 = .ok (.istore 4, 2) := by decide +kernel
theorem dX8_pricedBy_71 : decode cX8_pricedBy 71 = .ok (.iinc 5 1, 3) := by decide +kernel
theorem dX8_pricedBy_74 : decode cX8_pricedBy 74 = .ok (.goto (-68), 3) := by decide +kernel
theorem dX8_pricedBy_77 : decode cX8_pricedBy 77 = .ok (.iload 4, 2) := by decide +kernel
theorem dX8_pricedBy_79 : decode cX8_pricedBy 79 = .ok (.ireturn, 1) := by decide +kernel
set_option maxRecDepth 20000 in
theorem ggX8_setPrices_X8_dutyOf : GoodIn wsX8_setPrices wsX8_dutyOf := goodIn_r _ [8, 9, 10, 11, 12, 13, 14, 15, 16, 17, 18, 19, 20, 21, 22, 23, 24, 25, 26, 27, 28, 29, 30, 31, 32, 33, 34, 35, 36, 37, 38, 39, 40, 41, 42, 43, 44, 45, 46, 47, 48, 49, 50, 51, 52, 53, 54, 55, 56, 57, 58, 59, 60, 61, 62, 63, 64, 65, 66, 67, 68, 69, 70, 71, 72, 73, 74, 75, 76, 77, 78] (by decide +kernel) (by decide +kernel)
set_option maxRecDepth 20000 in
theorem gX8_setPrices_X8_dutyOf : GoodIn wsX8_setPrices (wsV RX8 120 RX8 yX8_dutyOf wsX8_dutyOf) := goodIn_app (goodIn_of _ (by decide +kernel)) ggX8_setPrices_X8_dutyOf
theorem dX8_setPrices_0 : decode cX8_setPrices 0 = .ok (.aload_n 0, 1) := by decide +kernel
theorem dX8_setPrices_1 : decode cX8_setPrices 1 = .ok (.getfield 11, 3) := by decide +kernel
theorem dX8_setPrices_4 : decode cX8_setPrices 4 = .ok (.astore_n 3, 1) := by decide +kernel
theorem dX8_setPrices_5 : decode cX8_setPrices 5 = .ok (.aload_n 3, 1) := by decide +kernel
theorem dX8_setPrices_6 : decode cX8_setPrices 6 = .ok (.arraylength, 1) := by decide +kernel
theorem dX8_setPrices_7 : decode cX8_setPrices 7 = .ok (.istore 4, 2) := by decide +kernel
theorem dX8_setPrices_9 : decode cX8_setPrices 9 = .ok (.iconst 0, 1) := by decide +kernel
theorem dX8_setPrices_10 : decode cX8_setPrices 10 = .ok (.istore 5, 2) := by decide +kernel
theorem dX8_setPrices_12 : decode cX8_setPrices 12 = .ok (.iload 5, 2) := by decide +kernel
theorem dX8_setPrices_14 : decode cX8_setPrices 14 = .ok (.iload 4, 2) := by decide +kernel
theorem dX8_setPrices_16 : decode cX8_setPrices 16 = .ok (.if_icmp .ge 57, 3) := by decide +kernel
theorem dX8_setPrices_19 : decode cX8_setPrices 19 = .ok (.aload_n 3, 1) := by decide +kernel
theorem dX8_setPrices_20 : decode cX8_setPrices 20 = .ok (.iload 5, 2) := by decide +kernel
theorem dX8_setPrices_22 : decode cX8_setPrices 22 = .ok (.aaload, 1) := by decide +kernel
theorem dX8_setPrices_23 : decode cX8_setPrices 23 = .ok (.astore 6, 2) := by decide +kernel
theorem dX8_setPrices_25 : decode cX8_setPrices 25 = .ok (.iconst 0, 1) := by decide +kernel
theorem dX8_setPrices_26 : decode cX8_setPrices 26 = .ok (.istore 7, 2) := by decide +kernel
theorem dX8_setPrices_28 : decode cX8_setPrices 28 = .ok (.iload 7, 2) := by decide +kernel
theorem dX8_setPrices_30 : decode cX8_setPrices 30 = .ok (.bipush 8, 2) := by decide +kernel
theorem dX8_setPrices_32 : decode cX8_setPrices 32 = .ok (.if_icmp .ge 35, 3) := by decide +kernel
theorem dX8_setPrices_35 : decode cX8_setPrices 35 = .ok (.aload_n 0, 1) := by decide +kernel
theorem dX8_setPrices_36 : decode cX8_setPrices 36 = .ok (.getfield 31, 3) := by decide +kernel
theorem dX8_setPrices_39 : decode cX8_setPrices 39 = .ok (.aload 6, 2) := by decide +kernel
theorem dX8_setPrices_41 : decode cX8_setPrices 41 = .ok (.getfield 73, 3) := by decide +kernel
theorem dX8_setPrices_44 : decode cX8_setPrices 44 = .ok (.bipush 8, 2) := by decide +kernel
theorem dX8_setPrices_46 : decode cX8_setPrices 46 = .ok (.imul, 1) := by decide +kernel
theorem dX8_setPrices_47 : decode cX8_setPrices 47 = .ok (.iload 7, 2) := by decide +kernel
theorem dX8_setPrices_49 : decode cX8_setPrices 49 = .ok (.iadd, 1) := by decide +kernel
theorem dX8_setPrices_50 : decode cX8_setPrices 50 = .ok (.aload_n 0, 1) := by decide +kernel
theorem dX8_setPrices_51 : decode cX8_setPrices 51 = .ok (.aload 6, 2) := by decide +kernel
theorem dX8_setPrices_53 : decode cX8_setPrices 53 = .ok (.aload_n 1, 1) := by decide +kernel
theorem dX8_setPrices_54 : decode cX8_setPrices 54 = .ok (.iload_n 2, 1) := by decide +kernel
theorem dX8_setPrices_55 : decode cX8_setPrices 55 = .ok (.iload 7, 2) := by decide +kernel
theorem dX8_setPrices_57 : decode cX8_setPrices 57 = .ok (.invokevirtual 120, 3) := by decide +kernel
theorem dX8_setPrices_60 : decode cX8_setPrices 60 = .ok (.iastore, 1) := by decide +kernel
theorem dX8_setPrices_61 : decode cX8_setPrices 61 = .ok (.iinc 7 1, 3) := by decide +kernel
theorem dX8_setPrices_64 : decode cX8_setPrices 64 = .ok (.goto (-36), 3) := by decide +kernel
theorem dX8_setPrices_67 : decode cX8_setPrices 67 = .ok (.iinc 5 1, 3) := by decide +kernel
theorem dX8_setPrices_70 : decode cX8_setPrices 70 = .ok (.goto (-58), 3) := by decide +kernel
theorem dX8_setPrices_73 : decode cX8_setPrices 73 = .ok (.return_, 1) := by decide +kernel
set_option maxRecDepth 20000 in
theorem ggX8_forgetKeys_J7_fill_53178 : GoodIn wsX8_forgetKeys wsJ7_fill_53178 := goodIn_r _ [6] (by decide +kernel) (by decide +kernel)
set_option maxRecDepth 20000 in
theorem gX8_forgetKeys_J7_fill_53178 : GoodIn wsX8_forgetKeys (va_wsS RX8 95 yJ7_fill_53178 wsJ7_fill_53178) := goodIn_app (goodIn_of _ (by decide +kernel)) ggX8_forgetKeys_J7_fill_53178
theorem dX8_forgetKeys_0 : decode cX8_forgetKeys 0 = .ok (.aload_n 0, 1) := by decide +kernel
theorem dX8_forgetKeys_1 : decode cX8_forgetKeys 1 = .ok (.getfield 34, 3) := by decide +kernel
theorem dX8_forgetKeys_4 : decode cX8_forgetKeys 4 = .ok (.ldc 149, 2) := by decide +kernel
theorem dX8_forgetKeys_6 : decode cX8_forgetKeys 6 = .ok (.invokestatic 95, 3) := by decide +kernel
theorem dX8_forgetKeys_9 : decode cX8_forgetKeys 9 = .ok (.aload_n 0, 1) := by decide +kernel
theorem dX8_forgetKeys_10 : decode cX8_forgetKeys 10 = .ok (.getfield 34, 3) := by decide +kernel
theorem dX8_forgetKeys_13 : decode cX8_forgetKeys 13 = .ok (.iconst 0, 1) := by decide +kernel
theorem dX8_forgetKeys_14 : decode cX8_forgetKeys 14 = .ok (.iconst 0, 1) := by decide +kernel
theorem dX8_forgetKeys_15 : decode cX8_forgetKeys 15 = .ok (.iastore, 1) := by decide +kernel
theorem dX8_forgetKeys_16 : decode cX8_forgetKeys 16 = .ok (.return_, 1) := by decide +kernel
set_option maxRecDepth 20000 in
theorem ggX8_openDay_X8_setPrices : GoodIn wsX8_openDay wsX8_setPrices := goodIn_r _ [6, 1, 7, 8, 9, 10, 11, 5, 12, 13, 14, 15, 16, 17, 18, 19, 20, 21, 22, 23, 24, 25, 26, 27, 28, 29, 30, 31, 32, 33, 34, 35, 36, 37, 38, 39, 40, 41, 42, 43, 44, 45, 46, 47, 48, 49, 50, 51, 52, 53, 54, 55, 56, 57, 58, 59, 60, 61, 62, 63, 64, 79, 80, 81, 82, 83, 84, 85, 86, 87, 88, 89, 90, 91, 92, 93, 94, 95, 96] (by decide +kernel) (by decide +kernel)
set_option maxRecDepth 20000 in
theorem gX8_openDay_X8_setPrices : GoodIn wsX8_openDay (wsV RX8 141 RX8 yX8_setPrices wsX8_setPrices) := goodIn_app (goodIn_of _ (by decide +kernel)) ggX8_openDay_X8_setPrices
set_option maxRecDepth 20000 in
theorem ggX8_openDay_X8_openSpot : GoodIn wsX8_openDay wsX8_openSpot := goodIn_r _ [68, 69, 7, 70, 71, 33, 72, 73, 74, 5, 75, 76, 77, 78, 79, 80, 81, 82, 83, 84] (by decide +kernel) (by decide +kernel)
set_option maxRecDepth 20000 in
theorem gX8_openDay_X8_openSpot : GoodIn wsX8_openDay (wsV RX8 150 RX8 yX8_openSpot wsX8_openSpot) := goodIn_app (goodIn_of _ (by decide +kernel)) ggX8_openDay_X8_openSpot
theorem dX8_openDay_0 : decode cX8_openDay 0 = .ok (.aload_n 0, 1) := by decide +kernel
theorem dX8_openDay_1 : decode cX8_openDay 1 = .ok (.aload_n 1, 1) := by decide +kernel
theorem dX8_openDay_2 : decode cX8_openDay 2 = .ok (.iload_n 2, 1) := by decide +kernel
theorem dX8_openDay_3 : decode cX8_openDay 3 = .ok (.invokevirtual 141, 3) := by decide +kernel
theorem dX8_openDay_6 : decode cX8_openDay 6 = .ok (.iconst 0, 1) := by decide +kernel
theorem dX8_openDay_7 : decode cX8_openDay 7 = .ok (.istore 4, 2) := by decide +kernel
theorem dX8_openDay_9 : decode cX8_openDay 9 = .ok (.iload 4, 2) := by decide +kernel
theorem dX8_openDay_11 : decode cX8_openDay 11 = .ok (.aload_n 0, 1) := by decide +kernel
theorem dX8_openDay_12 : decode cX8_openDay 12 = .ok (.getfield 11, 3) := by decide +kernel
theorem dX8_openDay_15 : decode cX8_openDay 15 = .ok (.arraylength, 1) := by decide +kernel
theorem dX8_openDay_16 : decode cX8_openDay 16 = .ok (.if_icmp .ge 28, 3) := by decide +kernel
theorem dX8_openDay_19 : decode cX8_openDay 19 = .ok (.iload 4, 2) := by decide +kernel
theorem dX8_openDay_21 : decode cX8_openDay 21 = .ok (.iload_n 3, 1) := by decide +kernel
theorem dX8_openDay_22 : decode cX8_openDay 22 = .ok (.if_icmp .eq 16, 3) := by decide +kernel
theorem dX8_openDay_25 : decode cX8_openDay 25 = .ok (.aload_n 0, 1) := by decide +kernel
theorem dX8_openDay_26 : decode cX8_openDay 26 = .ok (.iload 4, 2) := by decide +kernel
theorem dX8_openDay_28 : decode cX8_openDay 28 = .ok (.bipush 10, 2) := by decide +kernel
theorem dX8_openDay_30 : decode cX8_openDay 30 = .ok (.iload 4, 2) := by decide +kernel
theorem dX8_openDay_32 : decode cX8_openDay 32 = .ok (.imul, 1) := by decide +kernel
theorem dX8_openDay_33 : decode cX8_openDay 33 = .ok (.iload_n 2, 1) := by decide +kernel
theorem dX8_openDay_34 : decode cX8_openDay 34 = .ok (.iadd, 1) := by decide +kernel
theorem dX8_openDay_35 : decode cX8_openDay 35 = .ok (.invokevirtual 150, 3) := by decide +kernel
theorem dX8_openDay_38 : decode cX8_openDay 38 = .ok (.iinc 4 1, 3) := by decide +kernel
theorem dX8_openDay_41 : decode cX8_openDay 41 = .ok (.goto (-32), 3) := by decide +kernel
theorem dX8_openDay_44 : decode cX8_openDay 44 = .ok (.return_, 1) := by decide +kernel
set_option maxRecDepth 20000 in
theorem ggX8_openSpot_X8_keyOf : GoodIn wsX8_openSpot wsX8_keyOf := goodIn_r _ [10, 11, 12, 9, 13] (by decide +kernel) (by decide +kernel)
set_option maxRecDepth 20000 in
theorem gX8_openSpot_X8_keyOf : GoodIn wsX8_openSpot (va_wsS RX8 154 yX8_keyOf wsX8_keyOf) := goodIn_app (goodIn_of _ (by decide +kernel)) ggX8_openSpot_X8_keyOf
theorem dX8_openSpot_0 : decode cX8_openSpot 0 = .ok (.bipush 7, 2) := by decide +kernel
theorem dX8_openSpot_2 : decode cX8_openSpot 2 = .ok (.istore_n 3, 1) := by decide +kernel
theorem dX8_openSpot_3 : decode cX8_openSpot 3 = .ok (.iload_n 3, 1) := by decide +kernel
theorem dX8_openSpot_4 : decode cX8_openSpot 4 = .ok (.ifCond .le 80, 3) := by decide +kernel
theorem dX8_openSpot_7 : decode cX8_openSpot 7 = .ok (.iconst 1, 1) := by decide +kernel
theorem dX8_openSpot_8 : decode cX8_openSpot 8 = .ok (.istore 4, 2) := by decide +kernel
theorem dX8_openSpot_10 : decode cX8_openSpot 10 = .ok (.iload 4, 2) := by decide +kernel
theorem dX8_openSpot_12 : decode cX8_openSpot 12 = .ok (.iload_n 3, 1) := by decide +kernel
theorem dX8_openSpot_13 : decode cX8_openSpot 13 = .ok (.if_icmp .gt 65, 3) := by decide +kernel
theorem dX8_openSpot_16 : decode cX8_openSpot 16 = .ok (.iload 4, 2) := by decide +kernel
theorem dX8_openSpot_18 : decode cX8_openSpot 18 = .ok (.iload_n 3, 1) := by decide +kernel
theorem dX8_openSpot_19 : decode cX8_openSpot 19 = .ok (.iand, 1) := by decide +kernel
theorem dX8_openSpot_20 : decode cX8_openSpot 20 = .ok (.iload 4, 2) := by decide +kernel
theorem dX8_openSpot_22 : decode cX8_openSpot 22 = .ok (.if_icmp .ne 50, 3) := by decide +kernel
theorem dX8_openSpot_25 : decode cX8_openSpot 25 = .ok (.aload_n 0, 1) := by decide +kernel
theorem dX8_openSpot_26 : decode cX8_openSpot 26 = .ok (.getfield 34, 3) := by decide +kernel
theorem dX8_openSpot_29 : decode cX8_openSpot 29 = .ok (.iload_n 3, 1) := by decide +kernel
theorem dX8_openSpot_30 : decode cX8_openSpot 30 = .ok (.iload 4, 2) := by decide +kernel
theorem dX8_openSpot_32 : decode cX8_openSpot 32 = .ok (.ixor, 1) := by decide +kernel
theorem dX8_openSpot_33 : decode cX8_openSpot 33 = .ok (.iaload, 1) := by decide +kernel
theorem dX8_openSpot_34 : decode cX8_openSpot 34 = .ok (.aload_n 0, 1) := by decide +kernel
theorem dX8_openSpot_35 : decode cX8_openSpot 35 = .ok (.getfield 31, 3) := by decide +kernel
theorem dX8_openSpot_38 : decode cX8_openSpot 38 = .ok (.iload_n 1, 1) := by decide +kernel
theorem dX8_openSpot_39 : decode cX8_openSpot 39 = .ok (.bipush 8, 2) := by decide +kernel
theorem dX8_openSpot_41 : decode cX8_openSpot 41 = .ok (.imul, 1) := by decide +kernel
theorem dX8_openSpot_42 : decode cX8_openSpot 42 = .ok (.iload 4, 2) := by decide +kernel
theorem dX8_openSpot_44 : decode cX8_openSpot 44 = .ok (.iadd, 1) := by decide +kernel
theorem dX8_openSpot_45 : decode cX8_openSpot 45 = .ok (.iaload, 1) := by decide +kernel
theorem dX8_openSpot_46 : decode cX8_openSpot 46 = .ok (.iload 4, 2) := by decide +kernel
theorem dX8_openSpot_48 : decode cX8_openSpot 48 = .ok (.iload_n 2, 1) := by decide +kernel
theorem dX8_openSpot_49 : decode cX8_openSpot 49 = .ok (.invokestatic 154, 3) := by decide +kernel
theorem dX8_openSpot_52 : decode cX8_openSpot 52 = .ok (.iadd, 1) := by decide +kernel
theorem dX8_openSpot_53 : decode cX8_openSpot 53 = .ok (.istore 5, 2) := by decide +kernel
theorem dX8_openSpot_55 : decode cX8_openSpot 55 = .ok (.aload_n 0, 1) := by decide +kernel
theorem dX8_openSpot_56 : decode cX8_openSpot 56 = .ok (.getfield 34, 3) := by decide +kernel
theorem dX8_openSpot_59 : decode cX8_openSpot 59 = .ok (.iload_n 3, 1) := by decide +kernel
theorem dX8_openSpot_60 : decode cX8_openSpot 60 = .ok (.aload_n 0, 1) := by decide +kernel
theorem dX8_openSpot_61 : decode cX8_openSpot 61 = .ok (.getfield 34, 3) := by decide +kernel
theorem dX8_openSpot_64 : decode cX8_openSpot 64 = .ok (.iload_n 3, 1) := by decide +kernel
theorem dX8_openSpot_65 : decode cX8_openSpot 65 = .ok (.iaload, 1) := by decide +kernel
theorem dX8_openSpot_66 : decode cX8_openSpot 66 = .ok (.iload 5, 2) := by decide +kernel
theorem dX8_openSpot_68 : decode cX8_openSpot 68 = .ok (.invokestatic 157, 3) := by decide +kernel
theorem dX8_openSpot_71 : decode cX8_openSpot 71 = .ok (.iastore, 1) := by decide +kernel
theorem dX8_openSpot_72 : decode cX8_openSpot 72 = .ok (.iinc 4 1, 3) := by decide +kernel
theorem dX8_openSpot_75 : decode cX8_openSpot 75 = .ok (.goto (-65), 3) := by decide +kernel
theorem dX8_openSpot_78 : decode cX8_openSpot 78 = .ok (.iinc 3 (-1), 3) := by decide +kernel
theorem dX8_openSpot_81 : decode cX8_openSpot 81 = .ok (.goto (-78), 3) := by decide +kernel
theorem dX8_openSpot_84 : decode cX8_openSpot 84 = .ok (.return_, 1) := by decide +kernel
set_option maxRecDepth 20000 in
theorem ggX8_keyOf_X8_spotShift : GoodIn wsX8_keyOf wsX8_spotShift := goodIn_r _ [4] (by decide +kernel) (by decide +kernel)
set_option maxRecDepth 20000 in
theorem gX8_keyOf_X8_spotShift : GoodIn wsX8_keyOf (va_wsS RX8 46 yX8_spotShift wsX8_spotShift) := goodIn_app (goodIn_of _ (by decide +kernel)) ggX8_keyOf_X8_spotShift
theorem dX8_keyOf_0 : decode cX8_keyOf 0 = .ok (.iload_n 0, 1) := by decide +kernel
theorem dX8_keyOf_1 : decode cX8_keyOf 1 = .ok (.bipush 18, 2) := by decide +kernel
theorem dX8_keyOf_3 : decode cX8_keyOf 3 = .ok (.ishl, 1) := by decide +kernel
theorem dX8_keyOf_4 : decode cX8_keyOf 4 = .ok (.istore_n 3, 1) := by decide +kernel
theorem dX8_keyOf_5 : decode cX8_keyOf 5 = .ok (.iconst 0, 1) := by decide +kernel
theorem dX8_keyOf_6 : decode cX8_keyOf 6 = .ok (.istore 4, 2) := by decide +kernel
theorem dX8_keyOf_8 : decode cX8_keyOf 8 = .ok (.iload 4, 2) := by decide +kernel
theorem dX8_keyOf_10 : decode cX8_keyOf 10 = .ok (.iconst 3, 1) := by decide +kernel
theorem dX8_keyOf_11 : decode cX8_keyOf 11 = .ok (.if_icmp .ge 28, 3) := by decide +kernel
theorem dX8_keyOf_14 : decode cX8_keyOf 14 = .ok (.iload_n 1, 1) := by decide +kernel
theorem dX8_keyOf_15 : decode cX8_keyOf 15 = .ok (.iconst 1, 1) := by decide +kernel
theorem dX8_keyOf_16 : decode cX8_keyOf 16 = .ok (.iload 4, 2) := by decide +kernel
theorem dX8_keyOf_18 : decode cX8_keyOf 18 = .ok (.ishl, 1) := by decide +kernel
theorem dX8_keyOf_19 : decode cX8_keyOf 19 = .ok (.iand, 1) := by decide +kernel
theorem dX8_keyOf_20 : decode cX8_keyOf 20 = .ok (.ifCond .eq 13, 3) := by decide +kernel
theorem dX8_keyOf_23 : decode cX8_keyOf 23 = .ok (.iload_n 3, 1) := by decide +kernel
theorem dX8_keyOf_24 : decode cX8_keyOf 24 = .ok (.iload_n 2, 1) := by decide +kernel
theorem dX8_keyOf_25 : decode cX8_keyOf 25 = .ok (.iload 4, 2) := by decide +kernel
theorem dX8_keyOf_27 : decode cX8_keyOf 27 = .ok (.invokestatic 46, 3) := by decide +kernel
theorem dX8_keyOf_30 : decode cX8_keyOf 30 = .ok (.ishl, 1) := by decide +kernel
theorem dX8_keyOf_31 : decode cX8_keyOf 31 = .ok (.iadd, 1) := by decide +kernel
theorem dX8_keyOf_32 : decode cX8_keyOf 32 = .ok (.istore_n 3, 1) := by decide +kernel
theorem dX8_keyOf_33 : decode cX8_keyOf 33 = .ok (.iinc 4 1, 3) := by decide +kernel
theorem dX8_keyOf_36 : decode cX8_keyOf 36 = .ok (.goto (-28), 3) := by decide +kernel
theorem dX8_keyOf_39 : decode cX8_keyOf 39 = .ok (.iload_n 3, 1) := by decide +kernel
theorem dX8_keyOf_40 : decode cX8_keyOf 40 = .ok (.ireturn, 1) := by decide +kernel
theorem dX8_spotShift_0 : decode cX8_spotShift 0 = .ok (.bipush 6, 2) := by decide +kernel
theorem dX8_spotShift_2 : decode cX8_spotShift 2 = .ok (.iconst 2, 1) := by decide +kernel
theorem dX8_spotShift_3 : decode cX8_spotShift 3 = .ok (.iload_n 0, 1) := by decide +kernel
theorem dX8_spotShift_4 : decode cX8_spotShift 4 = .ok (.isub, 1) := by decide +kernel
theorem dX8_spotShift_5 : decode cX8_spotShift 5 = .ok (.imul, 1) := by decide +kernel
theorem dX8_spotShift_6 : decode cX8_spotShift 6 = .ok (.ireturn, 1) := by decide +kernel
theorem dX9_init_0 : decode cX9_init 0 = .ok (.aload_n 0, 1) := by decide +kernel
theorem dX9_init_1 : decode cX9_init 1 = .ok (.invokespecial 1, 3) := by decide +kernel
theorem dX9_init_4 : decode cX9_init 4 = .ok (.aload_n 0, 1) := by decide +kernel
theorem dX9_init_5 : decode cX9_init 5 = .ok (.iconst 0, 1) := by decide +kernel
theorem dX9_init_6 : decode cX9_init 6 = .ok (.putfield 7, 3) := by decide +kernel
theorem dX9_init_9 : decode cX9_init 9 = .ok (.return_, 1) := by decide +kernel
theorem dX9_leave_0 : decode cX9_leave 0 = .ok (.aload_n 0, 1) := by decide +kernel
theorem dX9_leave_1 : decode cX9_leave 1 = .ok (.bipush 31, 2) := by decide +kernel
theorem dX9_leave_3 : decode cX9_leave 3 = .ok (.aload_n 0, 1) := by decide +kernel
theorem dX9_leave_4 : decode cX9_leave 4 = .ok (.getfield 7, 3) := by decide +kernel
theorem dX9_leave_7 : decode cX9_leave 7 = .ok (.imul, 1) := by decide +kernel
theorem dX9_leave_8 : decode cX9_leave 8 = .ok (.iload_n 1, 1) := by decide +kernel
theorem dX9_leave_9 : decode cX9_leave 9 = .ok (.iadd, 1) := by decide +kernel
theorem dX9_leave_10 : decode cX9_leave 10 = .ok (.putfield 7, 3) := by decide +kernel
theorem dX9_leave_13 : decode cX9_leave 13 = .ok (.return_, 1) := by decide +kernel
theorem dJ9_max_7cf53_0 : decode cJ9_max_7cf53 0 = .ok (.iload_n 0, 1) := by decide +kernel
theorem dJ9_max_7cf53_1 : decode cJ9_max_7cf53 1 = .ok (.iload_n 1, 1) := by decide +kernel
theorem dJ9_max_7cf53_2 : decode cJ9_max_7cf53 2 = .ok (.if_icmp .lt 7, 3) := by decide +kernel
theorem dJ9_max_7cf53_5 : decode cJ9_max_7cf53 5 = .ok (.iload_n 0, 1) := by decide +kernel
theorem dJ9_max_7cf53_6 : decode cJ9_max_7cf53 6 = .ok (.goto 4, 3) := by decide +kernel
theorem dJ9_max_7cf53_9 : decode cJ9_max_7cf53 9 = .ok (.iload_n 1, 1) := by decide +kernel
theorem dJ9_max_7cf53_10 : decode cJ9_max_7cf53 10 = .ok (.ireturn, 1) := by decide +kernel
theorem dJ9_min_7cf53_0 : decode cJ9_min_7cf53 0 = .ok (.iload_n 0, 1) := by decide +kernel
theorem dJ9_min_7cf53_1 : decode cJ9_min_7cf53 1 = .ok (.iload_n 1, 1) := by decide +kernel
theorem dJ9_min_7cf53_2 : decode cJ9_min_7cf53 2 = .ok (.if_icmp .gt 7, 3) := by decide +kernel
theorem dJ9_min_7cf53_5 : decode cJ9_min_7cf53 5 = .ok (.iload_n 0, 1) := by decide +kernel
theorem dJ9_min_7cf53_6 : decode cJ9_min_7cf53 6 = .ok (.goto 4, 3) := by decide +kernel
theorem dJ9_min_7cf53_9 : decode cJ9_min_7cf53 9 = .ok (.iload_n 1, 1) := by decide +kernel
theorem dJ9_min_7cf53_10 : decode cJ9_min_7cf53 10 = .ok (.ireturn, 1) := by decide +kernel
theorem dJ7_fill_53178_0 : decode cJ7_fill_53178 0 = .ok (.iconst 0, 1) := by decide +kernel
theorem dJ7_fill_53178_1 : decode cJ7_fill_53178 1 = .ok (.istore_n 2, 1) := by decide +kernel
theorem dJ7_fill_53178_2 : decode cJ7_fill_53178 2 = .ok (.aload_n 0, 1) := by decide +kernel
theorem dJ7_fill_53178_3 : decode cJ7_fill_53178 3 = .ok (.arraylength, 1) := by decide +kernel
theorem dJ7_fill_53178_4 : decode cJ7_fill_53178 4 = .ok (.istore_n 3, 1) := by decide +kernel
theorem dJ7_fill_53178_5 : decode cJ7_fill_53178 5 = .ok (.iload_n 2, 1) := by decide +kernel
theorem dJ7_fill_53178_6 : decode cJ7_fill_53178 6 = .ok (.iload_n 3, 1) := by decide +kernel
theorem dJ7_fill_53178_7 : decode cJ7_fill_53178 7 = .ok (.if_icmp .ge 13, 3) := by decide +kernel
theorem dJ7_fill_53178_10 : decode cJ7_fill_53178 10 = .ok (.aload_n 0, 1) := by decide +kernel
theorem dJ7_fill_53178_11 : decode cJ7_fill_53178 11 = .ok (.iload_n 2, 1) := by decide +kernel
theorem dJ7_fill_53178_12 : decode cJ7_fill_53178 12 = .ok (.iload_n 1, 1) := by decide +kernel
theorem dJ7_fill_53178_13 : decode cJ7_fill_53178 13 = .ok (.iastore, 1) := by decide +kernel
theorem dJ7_fill_53178_14 : decode cJ7_fill_53178 14 = .ok (.iinc 2 1, 3) := by decide +kernel
theorem dJ7_fill_53178_17 : decode cJ7_fill_53178 17 = .ok (.goto (-12), 3) := by decide +kernel
theorem dJ7_fill_53178_20 : decode cJ7_fill_53178 20 = .ok (.return_, 1) := by decide +kernel
