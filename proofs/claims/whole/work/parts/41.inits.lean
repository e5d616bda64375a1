abbrev rm_ci_X9 : Room := { frames := 1, cells := 0, slots := 0, locals := 20 }
set_option maxHeartbeats 4000000 in
set_option maxRecDepth 100000 in
theorem ci_X9 {l : Launch} {D : va_G} {ty : gT} {A : Nat → Prop} {a : Nat} {wr : va_W} : gM l D ty A yX9_init wsX9_init rm_ci_X9 [.ref a] ((a, .inr (9, [.int 0])) :: wr) (fun u => u = (a, .inr (9, [.int 0])) :: wr) 0 0 := by
  refine gM_enter (cc := cX9_init) (maxL := 1) (by decide) rfl (Nat.le_of_ble_eq_true rfl) ?_
  intro p e s m args below meth c Q ls hnmi F hl hw hret
  have hnmi : meth.name = "<init>" := hnmi
  have F : CallFix p m c cX9_init 1 s args wsX9_init RX9 := F
  obtain ⟨hx, hb, hml, hown, hts⟩ := id F
  have hl : lv_has ls 1 [(0, .ref a)] := hl
  have hinX9 : ∀ w ∈ wsX90, w ∈ wsX9_init := by first | exact fun w h => List.mem_cons_of_mem _ (List.mem_append_right _ h) | decide +kernel
  have kO := hts (.methodLink RX9 1 objectInit) (by decide +kernel)
  have kOc := hts (.code objectInit ⟨#[0xb1]⟩ 1 none) (by decide +kernel)
  have kOi := hts (.instanceMethod objectInit) (by decide +kernel)
  have kf7 := hts (.fieldLink RX9 7 "GossipGate$Trace" "value" "I") (by decide +kernel)
  refine lv_aload_n hx hb dX9_init_0 rfl (lv_at hl 0 rfl) ?_
  refine W.objInit hx hb hown kO kOi kOc rfl (by rw [hml]; exact hl.1) rfl dX9_init_1 (Nat.le_of_ble_eq_true rfl) (Nat.le_of_ble_eq_true rfl) ?_
  refine W.eq (g2 := F0 m 4 ls []) rfl ?_
  refine lv_aload_n hx hb dX9_init_4 rfl (lv_at hl 0 rfl) ?_
  refine lv_iconst (v := 0) hx hb dX9_init_5 (by decide) ?_
  refine g_putv (C := RX9) (T := TX9) (N := 1) (ci := 9) F hinX9 tyX9 tyX9_ok nmX9 hw 0 rfl rfl 0 (by decide) kf7 rfl (fy := .int) (by decide +kernel) rfl rfl (Nat.le_of_ble_eq_true rfl) (ws1 := (a, .inr (9, [.int 0])) :: wr) rfl dX9_init_6 (fun H locs hw => ?_)
  refine W.widen (k := 0) (n := 0) (Nat.le_of_ble_eq_true rfl) (Nat.le_of_ble_eq_true rfl) ?_
  exact hret _ _ _ _ _ rfl hw dX9_init_9

abbrev rm_ci_X4 : Room := { frames := 1, cells := 1, slots := 60, locals := 20 }
set_option maxHeartbeats 4000000 in
set_option maxRecDepth 100000 in
theorem ci_X4 {l : Launch} {D : va_G} {ty : gT} {A : Nat → Prop} {a : Nat} {wr : va_W} : gM l D ty A yX4_init wsX4_init rm_ci_X4 [.ref a] ((a, .inr (4, [.null, .int 0, .int 0])) :: wr) (fun u => ∃ q1 : Nat, u = (q1, .inl (ty 0, 60, .inl (fun _ => 0))) :: (a, .inr (4, [.ref q1, .int (-1), .int 0])) :: wr) 1 60 := by
  refine gM_enter (cc := cX4_init) (maxL := 1) (by decide) rfl (Nat.le_of_ble_eq_true rfl) ?_
  intro p e s m args below meth c Q ls hnmi F hl hw hret
  have hnmi : meth.name = "<init>" := hnmi
  have F : CallFix p m c cX4_init 1 s args wsX4_init RX4 := F
  obtain ⟨hx, hb, hml, hown, hts⟩ := id F
  have hl : lv_has ls 1 [(0, .ref a)] := hl
  have hinX4 : ∀ w ∈ wsX40, w ∈ wsX4_init := by first | exact fun w h => List.mem_cons_of_mem _ (List.mem_append_right _ h) | decide +kernel
  have kO := hts (.methodLink RX4 3 objectInit) (by decide +kernel)
  have kOc := hts (.code objectInit ⟨#[0xb1]⟩ 1 none) (by decide +kernel)
  have kOi := hts (.instanceMethod objectInit) (by decide +kernel)
  have karr := hts (.arrayClass .int) (by decide +kernel)
  have kf15 := hts (.fieldLink RX4 15 "GossipGate$Row" "lane" "I") (by decide +kernel)
  have kf19 := hts (.fieldLink RX4 19 "GossipGate$Row" "length" "I") (by decide +kernel)
  have kf9 := hts (.fieldLink RX4 9 "GossipGate$Row" "cells" "[I") (by decide +kernel)
  refine lv_aload_n hx hb dX4_init_0 rfl (lv_at hl 0 rfl) ?_
  refine W.objInit hx hb hown kO kOi kOc rfl (by rw [hml]; exact hl.1) rfl dX4_init_1 (Nat.le_of_ble_eq_true rfl) (Nat.le_of_ble_eq_true rfl) ?_
  refine W.eq (g2 := F0 m 4 ls []) rfl ?_
  refine lv_aload_n hx hb dX4_init_4 rfl (lv_at hl 0 rfl) ?_
  refine lv_bipush (v := 60) hx hb dX4_init_5 (by decide) ?_
  refine g_newa (N' := 60) F karr hw (by decide) (by decide) (by decide) (Nat.le_of_ble_eq_true rfl) (Nat.le_of_ble_eq_true rfl) dX4_init_7 (fun q1 H hw => ?_)
  refine g_putF (C := RX4) (T := TX4) (N := 3) (ci := 4) F hinX4 tyX4 tyX4_ok nmX4 hnmi hw 1 rfl rfl 0 (by decide) kf9 rfl rfl (fy := .array .int) (by decide +kernel) rfl rfl (Nat.le_of_ble_eq_true rfl) (ws1 := (q1, .inl (ty 0, 60, .inl (fun _ => 0))) :: (a, .inr (4, [.ref q1, .int 0, .int 0])) :: wr) rfl dX4_init_9 (fun H locs hw => ?_)
  refine lv_aload_n hx hb dX4_init_12 rfl (lv_at hl 0 rfl) ?_
  refine lv_iconst (v := (-1)) hx hb dX4_init_13 (by decide) ?_
  refine g_putv (C := RX4) (T := TX4) (N := 3) (ci := 4) F hinX4 tyX4 tyX4_ok nmX4 hw 1 rfl rfl 1 (by decide) kf15 rfl (fy := .int) (by decide +kernel) rfl rfl (Nat.le_of_ble_eq_true rfl) (ws1 := (q1, .inl (ty 0, 60, .inl (fun _ => 0))) :: (a, .inr (4, [.ref q1, .int (-1), .int 0])) :: wr) rfl dX4_init_14 (fun H locs hw => ?_)
  refine lv_aload_n hx hb dX4_init_17 rfl (lv_at hl 0 rfl) ?_
  refine lv_iconst (v := 0) hx hb dX4_init_18 (by decide) ?_
  refine g_putv (C := RX4) (T := TX4) (N := 3) (ci := 4) F hinX4 tyX4 tyX4_ok nmX4 hw 1 rfl rfl 2 (by decide) kf19 rfl (fy := .int) (by decide +kernel) rfl rfl (Nat.le_of_ble_eq_true rfl) (ws1 := (q1, .inl (ty 0, 60, .inl (fun _ => 0))) :: (a, .inr (4, [.ref q1, .int (-1), .int 0])) :: wr) rfl dX4_init_19 (fun H locs hw => ?_)
  refine W.widen (k := 1) (n := 60) (Nat.le_of_ble_eq_true rfl) (Nat.le_of_ble_eq_true rfl) ?_
  exact hret _ _ _ _ _ ⟨q1, rfl⟩ hw dX4_init_22

abbrev rm_ci_X2 : Room := { frames := 1, cells := 2, slots := 16, locals := 20 }
set_option maxHeartbeats 4000000 in
set_option maxRecDepth 100000 in
theorem ci_X2 {l : Launch} {D : va_G} {ty : gT} {A : Nat → Prop} {a : Nat} {wr : va_W} : gM l D ty A yX2_init wsX2_init rm_ci_X2 [.ref a] ((a, .inr (2, [.null, .null, .int 0])) :: wr) (fun u => ∃ q1 q2 : Nat, u = (q2, .inl (ty 0, 8, .inl (fun _ => 0))) :: (q1, .inl (ty 0, 8, .inl (fun _ => 0))) :: (a, .inr (2, [.ref q1, .ref q2, .int 0])) :: wr) 2 16 := by
  refine gM_enter (cc := cX2_init) (maxL := 1) (by decide) rfl (Nat.le_of_ble_eq_true rfl) ?_
  intro p e s m args below meth c Q ls hnmi F hl hw hret
  have hnmi : meth.name = "<init>" := hnmi
  have F : CallFix p m c cX2_init 1 s args wsX2_init RX2 := F
  obtain ⟨hx, hb, hml, hown, hts⟩ := id F
  have hl : lv_has ls 1 [(0, .ref a)] := hl
  have hinX2 : ∀ w ∈ wsX20, w ∈ wsX2_init := by first | exact fun w h => List.mem_cons_of_mem _ (List.mem_append_right _ h) | decide +kernel
  have kO := hts (.methodLink RX2 3 objectInit) (by decide +kernel)
  have kOc := hts (.code objectInit ⟨#[0xb1]⟩ 1 none) (by decide +kernel)
  have kOi := hts (.instanceMethod objectInit) (by decide +kernel)
  have karr := hts (.arrayClass .int) (by decide +kernel)
  have kf15 := hts (.fieldLink RX2 15 "GossipGate$Readings" "pence" "[I") (by decide +kernel)
  have kf18 := hts (.fieldLink RX2 18 "GossipGate$Readings" "count" "I") (by decide +kernel)
  have kf9 := hts (.fieldLink RX2 9 "GossipGate$Readings" "gates" "[I") (by decide +kernel)
  refine lv_aload_n hx hb dX2_init_0 rfl (lv_at hl 0 rfl) ?_
  refine W.objInit hx hb hown kO kOi kOc rfl (by rw [hml]; exact hl.1) rfl dX2_init_1 (Nat.le_of_ble_eq_true rfl) (Nat.le_of_ble_eq_true rfl) ?_
  refine W.eq (g2 := F0 m 4 ls []) rfl ?_
  refine lv_aload_n hx hb dX2_init_4 rfl (lv_at hl 0 rfl) ?_
  refine lv_bipush (v := 8) hx hb dX2_init_5 (by decide) ?_
  refine g_newa (N' := 8) F karr hw (by decide) (by decide) (by decide) (Nat.le_of_ble_eq_true rfl) (Nat.le_of_ble_eq_true rfl) dX2_init_7 (fun q1 H hw => ?_)
  refine g_putF (C := RX2) (T := TX2) (N := 3) (ci := 2) F hinX2 tyX2 tyX2_ok nmX2 hnmi hw 1 rfl rfl 0 (by decide) kf9 rfl rfl (fy := .array .int) (by decide +kernel) rfl rfl (Nat.le_of_ble_eq_true rfl) (ws1 := (q1, .inl (ty 0, 8, .inl (fun _ => 0))) :: (a, .inr (2, [.ref q1, .null, .int 0])) :: wr) rfl dX2_init_9 (fun H locs hw => ?_)
  refine lv_aload_n hx hb dX2_init_12 rfl (lv_at hl 0 rfl) ?_
  refine lv_bipush (v := 8) hx hb dX2_init_13 (by decide) ?_
  refine g_newa (N' := 8) F karr hw (by decide) (by decide) (by decide) (Nat.le_of_ble_eq_true rfl) (Nat.le_of_ble_eq_true rfl) dX2_init_15 (fun q2 H hw => ?_)
  refine g_putF (C := RX2) (T := TX2) (N := 3) (ci := 2) F hinX2 tyX2 tyX2_ok nmX2 hnmi hw 2 rfl rfl 1 (by decide) kf15 rfl rfl (fy := .array .int) (by decide +kernel) rfl rfl (Nat.le_of_ble_eq_true rfl) (ws1 := (q2, .inl (ty 0, 8, .inl (fun _ => 0))) :: (q1, .inl (ty 0, 8, .inl (fun _ => 0))) :: (a, .inr (2, [.ref q1, .ref q2, .int 0])) :: wr) rfl dX2_init_17 (fun H locs hw => ?_)
  refine lv_aload_n hx hb dX2_init_20 rfl (lv_at hl 0 rfl) ?_
  refine lv_iconst (v := 0) hx hb dX2_init_21 (by decide) ?_
  refine g_putv (C := RX2) (T := TX2) (N := 3) (ci := 2) F hinX2 tyX2 tyX2_ok nmX2 hw 2 rfl rfl 2 (by decide) kf18 rfl (fy := .int) (by decide +kernel) rfl rfl (Nat.le_of_ble_eq_true rfl) (ws1 := (q2, .inl (ty 0, 8, .inl (fun _ => 0))) :: (q1, .inl (ty 0, 8, .inl (fun _ => 0))) :: (a, .inr (2, [.ref q1, .ref q2, .int 0])) :: wr) rfl dX2_init_22 (fun H locs hw => ?_)
  refine W.widen (k := 2) (n := 16) (Nat.le_of_ble_eq_true rfl) (Nat.le_of_ble_eq_true rfl) ?_
  exact hret _ _ _ _ _ ⟨q1, q2, rfl⟩ hw dX2_init_25

abbrev rm_ci_X3 : Room := { frames := 1, cells := 6, slots := 56, locals := 20 }
set_option maxHeartbeats 4000000 in
set_option maxRecDepth 100000 in
theorem ci_X3 {l : Launch} {D : va_G} {ty : gT} {A : Nat → Prop} {a : Nat} {wr : va_W} : gM l D ty A yX3_init wsX3_init rm_ci_X3 [.ref a] ((a, .inr (3, [.null, .null, .null, .null, .int 0, .int 0, .null, .null])) :: wr) (fun u => ∃ q1 q2 q3 q4 q5 q6 : Nat, u = (q6, .inl (ty 0, 4, .inl (fun _ => 0))) :: (q5, .inl (ty 0, 4, .inl (fun _ => 0))) :: (q4, .inl (ty 0, 12, .inl (fun _ => 0))) :: (q3, .inl (ty 0, 12, .inl (fun _ => 0))) :: (q2, .inl (ty 0, 12, .inl (fun _ => 0))) :: (q1, .inl (ty 0, 12, .inl (fun _ => 0))) :: (a, .inr (3, [.ref q1, .ref q2, .ref q3, .ref q4, .int 0, .int (-9), .ref q5, .ref q6])) :: wr) 6 56 := by
  refine gM_enter (cc := cX3_init) (maxL := 1) (by decide) rfl (Nat.le_of_ble_eq_true rfl) ?_
  intro p e s m args below meth c Q ls hnmi F hl hw hret
  have hnmi : meth.name = "<init>" := hnmi
  have F : CallFix p m c cX3_init 1 s args wsX3_init RX3 := F
  obtain ⟨hx, hb, hml, hown, hts⟩ := id F
  have hl : lv_has ls 1 [(0, .ref a)] := hl
  have hinX3 : ∀ w ∈ wsX30, w ∈ wsX3_init := by first | exact fun w h => List.mem_cons_of_mem _ (List.mem_append_right _ h) | decide +kernel
  have kO := hts (.methodLink RX3 3 objectInit) (by decide +kernel)
  have kOc := hts (.code objectInit ⟨#[0xb1]⟩ 1 none) (by decide +kernel)
  have kOi := hts (.instanceMethod objectInit) (by decide +kernel)
  have karr := hts (.arrayClass .int) (by decide +kernel)
  have kf15 := hts (.fieldLink RX3 15 "GossipGate$Route" "gates" "[I") (by decide +kernel)
  have kf18 := hts (.fieldLink RX3 18 "GossipGate$Route" "days" "[I") (by decide +kernel)
  have kf21 := hts (.fieldLink RX3 21 "GossipGate$Route" "thirds" "[I") (by decide +kernel)
  have kf24 := hts (.fieldLink RX3 24 "GossipGate$Route" "bundles" "I") (by decide +kernel)
  have kf28 := hts (.fieldLink RX3 28 "GossipGate$Route" "firstWrong" "I") (by decide +kernel)
  have kf31 := hts (.fieldLink RX3 31 "GossipGate$Route" "gone" "[I") (by decide +kernel)
  have kf34 := hts (.fieldLink RX3 34 "GossipGate$Route" "lastDays" "[I") (by decide +kernel)
  have kf9 := hts (.fieldLink RX3 9 "GossipGate$Route" "stories" "[I") (by decide +kernel)
  refine lv_aload_n hx hb dX3_init_0 rfl (lv_at hl 0 rfl) ?_
  refine W.objInit hx hb hown kO kOi kOc rfl (by rw [hml]; exact hl.1) rfl dX3_init_1 (Nat.le_of_ble_eq_true rfl) (Nat.le_of_ble_eq_true rfl) ?_
  refine W.eq (g2 := F0 m 4 ls []) rfl ?_
  refine lv_aload_n hx hb dX3_init_4 rfl (lv_at hl 0 rfl) ?_
  refine lv_bipush (v := 12) hx hb dX3_init_5 (by decide) ?_
  refine g_newa (N' := 12) F karr hw (by decide) (by decide) (by decide) (Nat.le_of_ble_eq_true rfl) (Nat.le_of_ble_eq_true rfl) dX3_init_7 (fun q1 H hw => ?_)
  refine g_putF (C := RX3) (T := TX3) (N := 8) (ci := 3) F hinX3 tyX3 tyX3_ok nmX3 hnmi hw 1 rfl rfl 0 (by decide) kf9 rfl rfl (fy := .array .int) (by decide +kernel) rfl rfl (Nat.le_of_ble_eq_true rfl) (ws1 := (q1, .inl (ty 0, 12, .inl (fun _ => 0))) :: (a, .inr (3, [.ref q1, .null, .null, .null, .int 0, .int 0, .null, .null])) :: wr) rfl dX3_init_9 (fun H locs hw => ?_)
  refine lv_aload_n hx hb dX3_init_12 rfl (lv_at hl 0 rfl) ?_
  refine lv_bipush (v := 12) hx hb dX3_init_13 (by decide) ?_
  refine g_newa (N' := 12) F karr hw (by decide) (by decide) (by decide) (Nat.le_of_ble_eq_true rfl) (Nat.le_of_ble_eq_true rfl) dX3_init_15 (fun q2 H hw => ?_)
  refine g_putF (C := RX3) (T := TX3) (N := 8) (ci := 3) F hinX3 tyX3 tyX3_ok nmX3 hnmi hw 2 rfl rfl 1 (by decide) kf15 rfl rfl (fy := .array .int) (by decide +kernel) rfl rfl (Nat.le_of_ble_eq_true rfl) (ws1 := (q2, .inl (ty 0, 12, .inl (fun _ => 0))) :: (q1, .inl (ty 0, 12, .inl (fun _ => 0))) :: (a, .inr (3, [.ref q1, .ref q2, .null, .null, .int 0, .int 0, .null, .null])) :: wr) rfl dX3_init_17 (fun H locs hw => ?_)
  refine lv_aload_n hx hb dX3_init_20 rfl (lv_at hl 0 rfl) ?_
  refine lv_bipush (v := 12) hx hb dX3_init_21 (by decide) ?_
  refine g_newa (N' := 12) F karr hw (by decide) (by decide) (by decide) (Nat.le_of_ble_eq_true rfl) (Nat.le_of_ble_eq_true rfl) dX3_init_23 (fun q3 H hw => ?_)
  refine g_putF (C := RX3) (T := TX3) (N := 8) (ci := 3) F hinX3 tyX3 tyX3_ok nmX3 hnmi hw 3 rfl rfl 2 (by decide) kf18 rfl rfl (fy := .array .int) (by decide +kernel) rfl rfl (Nat.le_of_ble_eq_true rfl) (ws1 := (q3, .inl (ty 0, 12, .inl (fun _ => 0))) :: (q2, .inl (ty 0, 12, .inl (fun _ => 0))) :: (q1, .inl (ty 0, 12, .inl (fun _ => 0))) :: (a, .inr (3, [.ref q1, .ref q2, .ref q3, .null, .int 0, .int 0, .null, .null])) :: wr) rfl dX3_init_25 (fun H locs hw => ?_)
  refine lv_aload_n hx hb dX3_init_28 rfl (lv_at hl 0 rfl) ?_
  refine lv_bipush (v := 12) hx hb dX3_init_29 (by decide) ?_
  refine g_newa (N' := 12) F karr hw (by decide) (by decide) (by decide) (Nat.le_of_ble_eq_true rfl) (Nat.le_of_ble_eq_true rfl) dX3_init_31 (fun q4 H hw => ?_)
  refine g_putF (C := RX3) (T := TX3) (N := 8) (ci := 3) F hinX3 tyX3 tyX3_ok nmX3 hnmi hw 4 rfl rfl 3 (by decide) kf21 rfl rfl (fy := .array .int) (by decide +kernel) rfl rfl (Nat.le_of_ble_eq_true rfl) (ws1 := (q4, .inl (ty 0, 12, .inl (fun _ => 0))) :: (q3, .inl (ty 0, 12, .inl (fun _ => 0))) :: (q2, .inl (ty 0, 12, .inl (fun _ => 0))) :: (q1, .inl (ty 0, 12, .inl (fun _ => 0))) :: (a, .inr (3, [.ref q1, .ref q2, .ref q3, .ref q4, .int 0, .int 0, .null, .null])) :: wr) rfl dX3_init_33 (fun H locs hw => ?_)
  refine lv_aload_n hx hb dX3_init_36 rfl (lv_at hl 0 rfl) ?_
  refine lv_iconst (v := 0) hx hb dX3_init_37 (by decide) ?_
  refine g_putv (C := RX3) (T := TX3) (N := 8) (ci := 3) F hinX3 tyX3 tyX3_ok nmX3 hw 4 rfl rfl 4 (by decide) kf24 rfl (fy := .int) (by decide +kernel) rfl rfl (Nat.le_of_ble_eq_true rfl) (ws1 := (q4, .inl (ty 0, 12, .inl (fun _ => 0))) :: (q3, .inl (ty 0, 12, .inl (fun _ => 0))) :: (q2, .inl (ty 0, 12, .inl (fun _ => 0))) :: (q1, .inl (ty 0, 12, .inl (fun _ => 0))) :: (a, .inr (3, [.ref q1, .ref q2, .ref q3, .ref q4, .int 0, .int 0, .null, .null])) :: wr) rfl dX3_init_38 (fun H locs hw => ?_)
  refine lv_aload_n hx hb dX3_init_41 rfl (lv_at hl 0 rfl) ?_
  refine lv_bipush (v := (-9)) hx hb dX3_init_42 (by decide) ?_
  refine g_putv (C := RX3) (T := TX3) (N := 8) (ci := 3) F hinX3 tyX3 tyX3_ok nmX3 hw 4 rfl rfl 5 (by decide) kf28 rfl (fy := .int) (by decide +kernel) rfl rfl (Nat.le_of_ble_eq_true rfl) (ws1 := (q4, .inl (ty 0, 12, .inl (fun _ => 0))) :: (q3, .inl (ty 0, 12, .inl (fun _ => 0))) :: (q2, .inl (ty 0, 12, .inl (fun _ => 0))) :: (q1, .inl (ty 0, 12, .inl (fun _ => 0))) :: (a, .inr (3, [.ref q1, .ref q2, .ref q3, .ref q4, .int 0, .int (-9), .null, .null])) :: wr) rfl dX3_init_44 (fun H locs hw => ?_)
  refine lv_aload_n hx hb dX3_init_47 rfl (lv_at hl 0 rfl) ?_
  refine lv_iconst (v := 4) hx hb dX3_init_48 (by decide) ?_
  refine g_newa (N' := 4) F karr hw (by decide) (by decide) (by decide) (Nat.le_of_ble_eq_true rfl) (Nat.le_of_ble_eq_true rfl) dX3_init_49 (fun q5 H hw => ?_)
  refine g_putF (C := RX3) (T := TX3) (N := 8) (ci := 3) F hinX3 tyX3 tyX3_ok nmX3 hnmi hw 5 rfl rfl 6 (by decide) kf31 rfl rfl (fy := .array .int) (by decide +kernel) rfl rfl (Nat.le_of_ble_eq_true rfl) (ws1 := (q5, .inl (ty 0, 4, .inl (fun _ => 0))) :: (q4, .inl (ty 0, 12, .inl (fun _ => 0))) :: (q3, .inl (ty 0, 12, .inl (fun _ => 0))) :: (q2, .inl (ty 0, 12, .inl (fun _ => 0))) :: (q1, .inl (ty 0, 12, .inl (fun _ => 0))) :: (a, .inr (3, [.ref q1, .ref q2, .ref q3, .ref q4, .int 0, .int (-9), .ref q5, .null])) :: wr) rfl dX3_init_51 (fun H locs hw => ?_)
  refine lv_aload_n hx hb dX3_init_54 rfl (lv_at hl 0 rfl) ?_
  refine lv_iconst (v := 4) hx hb dX3_init_55 (by decide) ?_
  refine g_newa (N' := 4) F karr hw (by decide) (by decide) (by decide) (Nat.le_of_ble_eq_true rfl) (Nat.le_of_ble_eq_true rfl) dX3_init_56 (fun q6 H hw => ?_)
  refine g_putF (C := RX3) (T := TX3) (N := 8) (ci := 3) F hinX3 tyX3 tyX3_ok nmX3 hnmi hw 6 rfl rfl 7 (by decide) kf34 rfl rfl (fy := .array .int) (by decide +kernel) rfl rfl (Nat.le_of_ble_eq_true rfl) (ws1 := (q6, .inl (ty 0, 4, .inl (fun _ => 0))) :: (q5, .inl (ty 0, 4, .inl (fun _ => 0))) :: (q4, .inl (ty 0, 12, .inl (fun _ => 0))) :: (q3, .inl (ty 0, 12, .inl (fun _ => 0))) :: (q2, .inl (ty 0, 12, .inl (fun _ => 0))) :: (q1, .inl (ty 0, 12, .inl (fun _ => 0))) :: (a, .inr (3, [.ref q1, .ref q2, .ref q3, .ref q4, .int 0, .int (-9), .ref q5, .ref q6])) :: wr) rfl dX3_init_58 (fun H locs hw => ?_)
  refine W.widen (k := 6) (n := 56) (Nat.le_of_ble_eq_true rfl) (Nat.le_of_ble_eq_true rfl) ?_
  exact hret _ _ _ _ _ ⟨q1, q2, q3, q4, q5, q6, rfl⟩ hw dX3_init_61

abbrev rm_ci_X5 : Room := { frames := 1, cells := 0, slots := 0, locals := 20 }
set_option maxHeartbeats 4000000 in
set_option maxRecDepth 100000 in
theorem ci_X5 {l : Launch} {D : va_G} {ty : gT} {A : Nat → Prop} {a : Nat} {wr : va_W} {x1 : Int32} {x2 : Int32} {x3 : Int32} : gM l D ty A yX5_init wsX5_init rm_ci_X5 [.ref a, .int x1, .int x2, .int x3] ((a, .inr (5, [.int 0, .int 0, .int 0])) :: wr) (fun u => u = (a, .inr (5, [.int x1, .int x2, .int x3])) :: wr) 0 0 := by
  refine gM_enter (cc := cX5_init) (maxL := 4) (by decide) rfl (Nat.le_of_ble_eq_true rfl) ?_
  intro p e s m args below meth c Q ls hnmi F hl hw hret
  have hnmi : meth.name = "<init>" := hnmi
  have F : CallFix p m c cX5_init 4 s args wsX5_init RX5 := F
  obtain ⟨hx, hb, hml, hown, hts⟩ := id F
  have hl : lv_has ls 4 [(0, .ref a), (1, .int x1), (2, .int x2), (3, .int x3)] := hl
  have hinX5 : ∀ w ∈ wsX50, w ∈ wsX5_init := by first | exact fun w h => List.mem_cons_of_mem _ (List.mem_append_right _ h) | decide +kernel
  have kO := hts (.methodLink RX5 3 objectInit) (by decide +kernel)
  have kOc := hts (.code objectInit ⟨#[0xb1]⟩ 1 none) (by decide +kernel)
  have kOi := hts (.instanceMethod objectInit) (by decide +kernel)
  have kf15 := hts (.fieldLink RX5 15 "GossipGate$Story" "person" "I") (by decide +kernel)
  have kf18 := hts (.fieldLink RX5 18 "GossipGate$Story" "born" "I") (by decide +kernel)
  have kf9 := hts (.fieldLink RX5 9 "GossipGate$Story" "large" "I") (by decide +kernel)
  refine lv_aload_n hx hb dX5_init_0 rfl (lv_at hl 0 rfl) ?_
  refine W.objInit hx hb hown kO kOi kOc rfl (by rw [hml]; exact hl.1) rfl dX5_init_1 (Nat.le_of_ble_eq_true rfl) (Nat.le_of_ble_eq_true rfl) ?_
  refine W.eq (g2 := F0 m 4 ls []) rfl ?_
  refine lv_aload_n hx hb dX5_init_4 rfl (lv_at hl 0 rfl) ?_
  refine lv_iload_n hx hb dX5_init_5 rfl (lv_at hl 1 rfl) ?_
  refine g_putv (C := RX5) (T := TX5) (N := 3) (ci := 5) F hinX5 tyX5 tyX5_ok nmX5 hw 0 rfl rfl 0 (by decide) kf9 rfl (fy := .int) (by decide +kernel) rfl rfl (Nat.le_of_ble_eq_true rfl) (ws1 := (a, .inr (5, [.int x1, .int 0, .int 0])) :: wr) rfl dX5_init_6 (fun H locs hw => ?_)
  refine lv_aload_n hx hb dX5_init_9 rfl (lv_at hl 0 rfl) ?_
  refine lv_iload_n hx hb dX5_init_10 rfl (lv_at hl 2 rfl) ?_
  refine g_putv (C := RX5) (T := TX5) (N := 3) (ci := 5) F hinX5 tyX5 tyX5_ok nmX5 hw 0 rfl rfl 1 (by decide) kf15 rfl (fy := .int) (by decide +kernel) rfl rfl (Nat.le_of_ble_eq_true rfl) (ws1 := (a, .inr (5, [.int x1, .int x2, .int 0])) :: wr) rfl dX5_init_11 (fun H locs hw => ?_)
  refine lv_aload_n hx hb dX5_init_14 rfl (lv_at hl 0 rfl) ?_
  refine lv_iload_n hx hb dX5_init_15 rfl (lv_at hl 3 rfl) ?_
  refine g_putF (C := RX5) (T := TX5) (N := 3) (ci := 5) F hinX5 tyX5 tyX5_ok nmX5 hnmi hw 0 rfl rfl 2 (by decide) kf18 rfl rfl (fy := .int) (by decide +kernel) rfl rfl (Nat.le_of_ble_eq_true rfl) (ws1 := (a, .inr (5, [.int x1, .int x2, .int x3])) :: wr) rfl dX5_init_16 (fun H locs hw => ?_)
  refine W.widen (k := 0) (n := 0) (Nat.le_of_ble_eq_true rfl) (Nat.le_of_ble_eq_true rfl) ?_
  exact hret _ _ _ _ _ rfl hw dX5_init_19

abbrev rm_ci_X7 : Room := { frames := 1, cells := 0, slots := 0, locals := 20 }
set_option maxHeartbeats 4000000 in
set_option maxRecDepth 100000 in
theorem ci_X7 {l : Launch} {D : va_G} {ty : gT} {A : Nat → Prop} {a : Nat} {wr : va_W} {b1 : Nat} {x2 : Int32} {x3 : Int32} : gM l D ty A yX7_init wsX7_init rm_ci_X7 [.ref a, .ref b1, .int x2, .int x3] ((a, .inr (7, [.null, .int 0, .int 0, .int 0, .int 0])) :: wr) (fun u => u = (a, .inr (7, [.ref b1, .int x2, .int x3, .int 0, .int 0])) :: wr) 0 0 := by
  refine gM_enter (cc := cX7_init) (maxL := 4) (by decide) rfl (Nat.le_of_ble_eq_true rfl) ?_
  intro p e s m args below meth c Q ls hnmi F hl hw hret
  have hnmi : meth.name = "<init>" := hnmi
  have F : CallFix p m c cX7_init 4 s args wsX7_init RX7 := F
  obtain ⟨hx, hb, hml, hown, hts⟩ := id F
  have hl : lv_has ls 4 [(0, .ref a), (1, .ref b1), (2, .int x2), (3, .int x3)] := hl
  have hinX7 : ∀ w ∈ wsX70, w ∈ wsX7_init := by first | exact fun w h => List.mem_cons_of_mem _ (List.mem_append_right _ h) | decide +kernel
  have kO := hts (.methodLink RX7 3 objectInit) (by decide +kernel)
  have kOc := hts (.code objectInit ⟨#[0xb1]⟩ 1 none) (by decide +kernel)
  have kOi := hts (.instanceMethod objectInit) (by decide +kernel)
  have kf15 := hts (.fieldLink RX7 15 "GossipGate$Text" "storyCount" "I") (by decide +kernel)
  have kf18 := hts (.fieldLink RX7 18 "GossipGate$Text" "row" "LGossipGate$Row;") (by decide +kernel)
  have kf22 := hts (.fieldLink RX7 22 "GossipGate$Text" "start" "I") (by decide +kernel)
  have kf25 := hts (.fieldLink RX7 25 "GossipGate$Text" "length" "I") (by decide +kernel)
  have kf9 := hts (.fieldLink RX7 9 "GossipGate$Text" "gateCount" "I") (by decide +kernel)
  refine lv_aload_n hx hb dX7_init_0 rfl (lv_at hl 0 rfl) ?_
  refine W.objInit hx hb hown kO kOi kOc rfl (by rw [hml]; exact hl.1) rfl dX7_init_1 (Nat.le_of_ble_eq_true rfl) (Nat.le_of_ble_eq_true rfl) ?_
  refine W.eq (g2 := F0 m 4 ls []) rfl ?_
  refine lv_aload_n hx hb dX7_init_4 rfl (lv_at hl 0 rfl) ?_
  refine lv_iconst (v := 0) hx hb dX7_init_5 (by decide) ?_
  refine g_putv (C := RX7) (T := TX7) (N := 5) (ci := 7) F hinX7 tyX7 tyX7_ok nmX7 hw 0 rfl rfl 3 (by decide) kf9 rfl (fy := .int) (by decide +kernel) rfl rfl (Nat.le_of_ble_eq_true rfl) (ws1 := (a, .inr (7, [.null, .int 0, .int 0, .int 0, .int 0])) :: wr) rfl dX7_init_6 (fun H locs hw => ?_)
  refine lv_aload_n hx hb dX7_init_9 rfl (lv_at hl 0 rfl) ?_
  refine lv_iconst (v := 0) hx hb dX7_init_10 (by decide) ?_
  refine g_putv (C := RX7) (T := TX7) (N := 5) (ci := 7) F hinX7 tyX7 tyX7_ok nmX7 hw 0 rfl rfl 4 (by decide) kf15 rfl (fy := .int) (by decide +kernel) rfl rfl (Nat.le_of_ble_eq_true rfl) (ws1 := (a, .inr (7, [.null, .int 0, .int 0, .int 0, .int 0])) :: wr) rfl dX7_init_11 (fun H locs hw => ?_)
  refine lv_aload_n hx hb dX7_init_14 rfl (lv_at hl 0 rfl) ?_
  refine lv_aload_n hx hb dX7_init_15 rfl (lv_at hl 1 rfl) ?_
  refine g_putF (C := RX7) (T := TX7) (N := 5) (ci := 7) F hinX7 tyX7 tyX7_ok nmX7 hnmi hw 0 rfl rfl 0 (by decide) kf18 rfl rfl (fy := .object "GossipGate$Row") (by decide +kernel) rfl rfl (Nat.le_of_ble_eq_true rfl) (ws1 := (a, .inr (7, [.ref b1, .int 0, .int 0, .int 0, .int 0])) :: wr) rfl dX7_init_16 (fun H locs hw => ?_)
  refine lv_aload_n hx hb dX7_init_19 rfl (lv_at hl 0 rfl) ?_
  refine lv_iload_n hx hb dX7_init_20 rfl (lv_at hl 2 rfl) ?_
  refine g_putF (C := RX7) (T := TX7) (N := 5) (ci := 7) F hinX7 tyX7 tyX7_ok nmX7 hnmi hw 0 rfl rfl 1 (by decide) kf22 rfl rfl (fy := .int) (by decide +kernel) rfl rfl (Nat.le_of_ble_eq_true rfl) (ws1 := (a, .inr (7, [.ref b1, .int x2, .int 0, .int 0, .int 0])) :: wr) rfl dX7_init_21 (fun H locs hw => ?_)
  refine lv_aload_n hx hb dX7_init_24 rfl (lv_at hl 0 rfl) ?_
  refine lv_iload_n hx hb dX7_init_25 rfl (lv_at hl 3 rfl) ?_
  refine g_putF (C := RX7) (T := TX7) (N := 5) (ci := 7) F hinX7 tyX7 tyX7_ok nmX7 hnmi hw 0 rfl rfl 2 (by decide) kf25 rfl rfl (fy := .int) (by decide +kernel) rfl rfl (Nat.le_of_ble_eq_true rfl) (ws1 := (a, .inr (7, [.ref b1, .int x2, .int x3, .int 0, .int 0])) :: wr) rfl dX7_init_26 (fun H locs hw => ?_)
  refine W.widen (k := 0) (n := 0) (Nat.le_of_ble_eq_true rfl) (Nat.le_of_ble_eq_true rfl) ?_
  exact hret _ _ _ _ _ rfl hw dX7_init_29

abbrev rm_ci_X8 : Room := { frames := 1, cells := 5, slots := 53, locals := 20 }
set_option maxHeartbeats 4000000 in
set_option maxRecDepth 100000 in
theorem ci_X8 {l : Launch} {D : va_G} {ty : gT} {A : Nat → Prop} {a : Nat} {wr : va_W} : gM l D ty A yX8_init wsX8_init rm_ci_X8 [.ref a] ((a, .inr (8, [.null, .null, .int 0, .null, .null, .null])) :: wr) (fun u => ∃ q1 q2 q3 q4 q5 : Nat, u = (q5, .inl (ty 0, 8, .inl (fun _ => 0))) :: (q4, .inl (ty 0, 40, .inl (fun _ => 0))) :: (q3, .inl (ty 0, 5, .inl (fun _ => 0))) :: (q2, .inl (ty 3, 0, .inr (.inr (.inr (.inr (fun _ => none)))))) :: (q1, .inl (ty 1, 0, .inr (.inr (.inr (.inr (fun _ => none)))))) :: (a, .inr (8, [.ref q1, .ref q2, .int 0, .ref q3, .ref q4, .ref q5])) :: wr) 5 53 := by
  refine gM_enter (cc := cX8_init) (maxL := 1) (by decide) rfl (Nat.le_of_ble_eq_true rfl) ?_
  intro p e s m args below meth c Q ls hnmi F hl hw hret
  have hnmi : meth.name = "<init>" := hnmi
  have F : CallFix p m c cX8_init 1 s args wsX8_init RX8 := F
  obtain ⟨hx, hb, hml, hown, hts⟩ := id F
  have hl : lv_has ls 1 [(0, .ref a)] := hl
  have hinX8 : ∀ w ∈ wsX80, w ∈ wsX8_init := by first | exact fun w h => List.mem_cons_of_mem _ (List.mem_append_right _ h) | decide +kernel
  have kO := hts (.methodLink RX8 3 objectInit) (by decide +kernel)
  have kOc := hts (.code objectInit ⟨#[0xb1]⟩ 1 none) (by decide +kernel)
  have kOi := hts (.instanceMethod objectInit) (by decide +kernel)
  have karr := hts (.arrayClass .int) (by decide +kernel)
  have kcl17 := hts (.classLink RX8 17 RX5) (by decide +kernel)
  have kcl9 := hts (.classLink RX8 9 RX0) (by decide +kernel)
  have kf11 := hts (.fieldLink RX8 11 "GossipGate$Town" "gates" "[LGossipGate$Gate;") (by decide +kernel)
  have kf19 := hts (.fieldLink RX8 19 "GossipGate$Town" "stories" "[LGossipGate$Story;") (by decide +kernel)
  have kf23 := hts (.fieldLink RX8 23 "GossipGate$Town" "harmlessSize" "I") (by decide +kernel)
  have kf27 := hts (.fieldLink RX8 27 "GossipGate$Town" "takings" "[I") (by decide +kernel)
  have kf31 := hts (.fieldLink RX8 31 "GossipGate$Town" "prices" "[I") (by decide +kernel)
  have kf34 := hts (.fieldLink RX8 34 "GossipGate$Town" "bestKeys" "[I") (by decide +kernel)
  refine lv_aload_n hx hb dX8_init_0 rfl (lv_at hl 0 rfl) ?_
  refine W.objInit hx hb hown kO kOi kOc rfl (by rw [hml]; exact hl.1) rfl dX8_init_1 (Nat.le_of_ble_eq_true rfl) (Nat.le_of_ble_eq_true rfl) ?_
  refine W.eq (g2 := F0 m 4 ls []) rfl ?_
  refine lv_aload_n hx hb dX8_init_4 rfl (lv_at hl 0 rfl) ?_
  refine lv_iconst (v := 0) hx hb dX8_init_5 (by decide) ?_
  refine g_newq (N' := 0) (t := 1) F kcl9 hw.2.2.2.2.2.2.2.2.1.1 hw rfl (by decide) (by decide) (by decide) (Nat.le_of_ble_eq_true rfl) (Nat.le_of_ble_eq_true rfl) dX8_init_6 (fun q1 H hw => ?_)
  refine g_putv (C := RX8) (T := TX8) (N := 6) (ci := 8) F hinX8 tyX8 tyX8_ok nmX8 hw 1 rfl rfl 0 (by decide) kf11 rfl (fy := .array (.object "GossipGate$Gate")) (by decide +kernel) rfl rfl (Nat.le_of_ble_eq_true rfl) (ws1 := (q1, .inl (ty 1, 0, .inr (.inr (.inr (.inr (fun _ => none)))))) :: (a, .inr (8, [.ref q1, .null, .int 0, .null, .null, .null])) :: wr) rfl dX8_init_9 (fun H locs hw => ?_)
  refine lv_aload_n hx hb dX8_init_12 rfl (lv_at hl 0 rfl) ?_
  refine lv_iconst (v := 0) hx hb dX8_init_13 (by decide) ?_
  refine g_newq (N' := 0) (t := 3) F kcl17 hw.2.2.2.2.2.2.2.2.1.2.2 hw rfl (by decide) (by decide) (by decide) (Nat.le_of_ble_eq_true rfl) (Nat.le_of_ble_eq_true rfl) dX8_init_14 (fun q2 H hw => ?_)
  refine g_putv (C := RX8) (T := TX8) (N := 6) (ci := 8) F hinX8 tyX8 tyX8_ok nmX8 hw 2 rfl rfl 1 (by decide) kf19 rfl (fy := .array (.object "GossipGate$Story")) (by decide +kernel) rfl rfl (Nat.le_of_ble_eq_true rfl) (ws1 := (q2, .inl (ty 3, 0, .inr (.inr (.inr (.inr (fun _ => none)))))) :: (q1, .inl (ty 1, 0, .inr (.inr (.inr (.inr (fun _ => none)))))) :: (a, .inr (8, [.ref q1, .ref q2, .int 0, .null, .null, .null])) :: wr) rfl dX8_init_17 (fun H locs hw => ?_)
  refine lv_aload_n hx hb dX8_init_20 rfl (lv_at hl 0 rfl) ?_
  refine lv_iconst (v := 0) hx hb dX8_init_21 (by decide) ?_
  refine g_putv (C := RX8) (T := TX8) (N := 6) (ci := 8) F hinX8 tyX8 tyX8_ok nmX8 hw 2 rfl rfl 2 (by decide) kf23 rfl (fy := .int) (by decide +kernel) rfl rfl (Nat.le_of_ble_eq_true rfl) (ws1 := (q2, .inl (ty 3, 0, .inr (.inr (.inr (.inr (fun _ => none)))))) :: (q1, .inl (ty 1, 0, .inr (.inr (.inr (.inr (fun _ => none)))))) :: (a, .inr (8, [.ref q1, .ref q2, .int 0, .null, .null, .null])) :: wr) rfl dX8_init_22 (fun H locs hw => ?_)
  refine lv_aload_n hx hb dX8_init_25 rfl (lv_at hl 0 rfl) ?_
  refine lv_iconst (v := 5) hx hb dX8_init_26 (by decide) ?_
  refine g_newa (N' := 5) F karr hw (by decide) (by decide) (by decide) (Nat.le_of_ble_eq_true rfl) (Nat.le_of_ble_eq_true rfl) dX8_init_27 (fun q3 H hw => ?_)
  refine g_putF (C := RX8) (T := TX8) (N := 6) (ci := 8) F hinX8 tyX8 tyX8_ok nmX8 hnmi hw 3 rfl rfl 3 (by decide) kf27 rfl rfl (fy := .array .int) (by decide +kernel) rfl rfl (Nat.le_of_ble_eq_true rfl) (ws1 := (q3, .inl (ty 0, 5, .inl (fun _ => 0))) :: (q2, .inl (ty 3, 0, .inr (.inr (.inr (.inr (fun _ => none)))))) :: (q1, .inl (ty 1, 0, .inr (.inr (.inr (.inr (fun _ => none)))))) :: (a, .inr (8, [.ref q1, .ref q2, .int 0, .ref q3, .null, .null])) :: wr) rfl dX8_init_29 (fun H locs hw => ?_)
  refine lv_aload_n hx hb dX8_init_32 rfl (lv_at hl 0 rfl) ?_
  refine lv_bipush (v := 40) hx hb dX8_init_33 (by decide) ?_
  refine g_newa (N' := 40) F karr hw (by decide) (by decide) (by decide) (Nat.le_of_ble_eq_true rfl) (Nat.le_of_ble_eq_true rfl) dX8_init_35 (fun q4 H hw => ?_)
  refine g_putF (C := RX8) (T := TX8) (N := 6) (ci := 8) F hinX8 tyX8 tyX8_ok nmX8 hnmi hw 4 rfl rfl 4 (by decide) kf31 rfl rfl (fy := .array .int) (by decide +kernel) rfl rfl (Nat.le_of_ble_eq_true rfl) (ws1 := (q4, .inl (ty 0, 40, .inl (fun _ => 0))) :: (q3, .inl (ty 0, 5, .inl (fun _ => 0))) :: (q2, .inl (ty 3, 0, .inr (.inr (.inr (.inr (fun _ => none)))))) :: (q1, .inl (ty 1, 0, .inr (.inr (.inr (.inr (fun _ => none)))))) :: (a, .inr (8, [.ref q1, .ref q2, .int 0, .ref q3, .ref q4, .null])) :: wr) rfl dX8_init_37 (fun H locs hw => ?_)
  refine lv_aload_n hx hb dX8_init_40 rfl (lv_at hl 0 rfl) ?_
  refine lv_bipush (v := 8) hx hb dX8_init_41 (by decide) ?_
  refine g_newa (N' := 8) F karr hw (by decide) (by decide) (by decide) (Nat.le_of_ble_eq_true rfl) (Nat.le_of_ble_eq_true rfl) dX8_init_43 (fun q5 H hw => ?_)
  refine g_putF (C := RX8) (T := TX8) (N := 6) (ci := 8) F hinX8 tyX8 tyX8_ok nmX8 hnmi hw 5 rfl rfl 5 (by decide) kf34 rfl rfl (fy := .array .int) (by decide +kernel) rfl rfl (Nat.le_of_ble_eq_true rfl) (ws1 := (q5, .inl (ty 0, 8, .inl (fun _ => 0))) :: (q4, .inl (ty 0, 40, .inl (fun _ => 0))) :: (q3, .inl (ty 0, 5, .inl (fun _ => 0))) :: (q2, .inl (ty 3, 0, .inr (.inr (.inr (.inr (fun _ => none)))))) :: (q1, .inl (ty 1, 0, .inr (.inr (.inr (.inr (fun _ => none)))))) :: (a, .inr (8, [.ref q1, .ref q2, .int 0, .ref q3, .ref q4, .ref q5])) :: wr) rfl dX8_init_45 (fun H locs hw => ?_)
  refine W.widen (k := 5) (n := 53) (Nat.le_of_ble_eq_true rfl) (Nat.le_of_ble_eq_true rfl) ?_
  exact hret _ _ _ _ _ ⟨q1, q2, q3, q4, q5, rfl⟩ hw dX8_init_48

abbrev rm_ci_X0 : Room := { frames := 1, cells := 0, slots := 0, locals := 20 }
set_option maxHeartbeats 4000000 in
set_option maxRecDepth 100000 in
theorem ci_X0 {l : Launch} {D : va_G} {ty : gT} {A : Nat → Prop} {a : Nat} {wr : va_W} {x1 : Int32} {x2 : Int32} {x3 : Int32} : gM l D ty A yX0_init wsX0_init rm_ci_X0 [.ref a, .int x1, .int x2, .int x3] ((a, .inr (0, [.int 0, .int 0, .int 0])) :: wr) (fun u => u = (a, .inr (0, [.int x1, .int x3, .int x2])) :: wr) 0 0 := by
  refine gM_enter (cc := cX0_init) (maxL := 4) (by decide) rfl (Nat.le_of_ble_eq_true rfl) ?_
  intro p e s m args below meth c Q ls hnmi F hl hw hret
  have hnmi : meth.name = "<init>" := hnmi
  have F : CallFix p m c cX0_init 4 s args wsX0_init RX0 := F
  obtain ⟨hx, hb, hml, hown, hts⟩ := id F
  have hl : lv_has ls 4 [(0, .ref a), (1, .int x1), (2, .int x2), (3, .int x3)] := hl
  have hinX0 : ∀ w ∈ wsX00, w ∈ wsX0_init := by first | exact fun w h => List.mem_cons_of_mem _ (List.mem_append_left _ (List.mem_append_left _ (List.mem_append_right _ h))) | decide +kernel
  have kO := hts (.methodLink RX0 1 objectInit) (by decide +kernel)
  have kOc := hts (.code objectInit ⟨#[0xb1]⟩ 1 none) (by decide +kernel)
  have kOi := hts (.instanceMethod objectInit) (by decide +kernel)
  have kf13 := hts (.fieldLink RX0 13 "GossipGate$Gate" "rate" "I") (by decide +kernel)
  have kf16 := hts (.fieldLink RX0 16 "GossipGate$Gate" "deaf" "I") (by decide +kernel)
  have kf7 := hts (.fieldLink RX0 7 "GossipGate$Gate" "number" "I") (by decide +kernel)
  refine lv_aload_n hx hb dX0_init_0 rfl (lv_at hl 0 rfl) ?_
  refine W.objInit hx hb hown kO kOi kOc rfl (by rw [hml]; exact hl.1) rfl dX0_init_1 (Nat.le_of_ble_eq_true rfl) (Nat.le_of_ble_eq_true rfl) ?_
  refine W.eq (g2 := F0 m 4 ls []) rfl ?_
  refine lv_aload_n hx hb dX0_init_4 rfl (lv_at hl 0 rfl) ?_
  refine lv_iload_n hx hb dX0_init_5 rfl (lv_at hl 1 rfl) ?_
  refine g_putF (C := RX0) (T := TX0) (N := 3) (ci := 0) F hinX0 tyX0 tyX0_ok nmX0 hnmi hw 0 rfl rfl 0 (by decide) kf7 rfl rfl (fy := .int) (by decide +kernel) rfl rfl (Nat.le_of_ble_eq_true rfl) (ws1 := (a, .inr (0, [.int x1, .int 0, .int 0])) :: wr) rfl dX0_init_6 (fun H locs hw => ?_)
  refine lv_aload_n hx hb dX0_init_9 rfl (lv_at hl 0 rfl) ?_
  refine lv_iload_n hx hb dX0_init_10 rfl (lv_at hl 2 rfl) ?_
  refine g_putv (C := RX0) (T := TX0) (N := 3) (ci := 0) F hinX0 tyX0 tyX0_ok nmX0 hw 0 rfl rfl 2 (by decide) kf13 rfl (fy := .int) (by decide +kernel) rfl rfl (Nat.le_of_ble_eq_true rfl) (ws1 := (a, .inr (0, [.int x1, .int 0, .int x2])) :: wr) rfl dX0_init_11 (fun H locs hw => ?_)
  refine lv_aload_n hx hb dX0_init_14 rfl (lv_at hl 0 rfl) ?_
  refine lv_iload_n hx hb dX0_init_15 rfl (lv_at hl 3 rfl) ?_
  refine g_putF (C := RX0) (T := TX0) (N := 3) (ci := 0) F hinX0 tyX0 tyX0_ok nmX0 hnmi hw 0 rfl rfl 1 (by decide) kf16 rfl rfl (fy := .int) (by decide +kernel) rfl rfl (Nat.le_of_ble_eq_true rfl) (ws1 := (a, .inr (0, [.int x1, .int x3, .int x2])) :: wr) rfl dX0_init_16 (fun H locs hw => ?_)
  refine W.widen (k := 0) (n := 0) (Nat.le_of_ble_eq_true rfl) (Nat.le_of_ble_eq_true rfl) ?_
  exact hret _ _ _ _ _ rfl hw dX0_init_19

abbrev rm_ci_X0_X6 : Room := { frames := 1, cells := 0, slots := 0, locals := 20 }
set_option maxHeartbeats 4000000 in
set_option maxRecDepth 100000 in
theorem ci_X0_X6 {l : Launch} {D : va_G} {ty : gT} {A : Nat → Prop} {a : Nat} {wr : va_W} {x1 : Int32} {x2 : Int32} {x3 : Int32} : gM l D ty A yX0_init wsX0_init rm_ci_X0_X6 [.ref a, .int x1, .int x2, .int x3] ((a, .inr (6, [.int 0, .int 0, .int 0])) :: wr) (fun u => u = (a, .inr (6, [.int x1, .int x3, .int x2])) :: wr) 0 0 := by
  refine gM_enter (cc := cX0_init) (maxL := 4) (by decide) rfl (Nat.le_of_ble_eq_true rfl) ?_
  intro p e s m args below meth c Q ls hnmi F hl hw hret
  have hnmi : meth.name = "<init>" := hnmi
  have F : CallFix p m c cX0_init 4 s args wsX0_init RX0 := F
  obtain ⟨hx, hb, hml, hown, hts⟩ := id F
  have hl : lv_has ls 4 [(0, .ref a), (1, .int x1), (2, .int x2), (3, .int x3)] := hl
  have hinX6 : ∀ w ∈ wsX60, w ∈ wsX0_init := by first | exact fun w h => List.mem_cons_of_mem _ (List.mem_append_right _ h) | decide +kernel
  have kO := hts (.methodLink RX0 1 objectInit) (by decide +kernel)
  have kOc := hts (.code objectInit ⟨#[0xb1]⟩ 1 none) (by decide +kernel)
  have kOi := hts (.instanceMethod objectInit) (by decide +kernel)
  have kf13 := hts (.fieldLink RX0 13 "GossipGate$Gate" "rate" "I") (by decide +kernel)
  have kf16 := hts (.fieldLink RX0 16 "GossipGate$Gate" "deaf" "I") (by decide +kernel)
  have kf7 := hts (.fieldLink RX0 7 "GossipGate$Gate" "number" "I") (by decide +kernel)
  refine lv_aload_n hx hb dX0_init_0 rfl (lv_at hl 0 rfl) ?_
  refine W.objInit hx hb hown kO kOi kOc rfl (by rw [hml]; exact hl.1) rfl dX0_init_1 (Nat.le_of_ble_eq_true rfl) (Nat.le_of_ble_eq_true rfl) ?_
  refine W.eq (g2 := F0 m 4 ls []) rfl ?_
  refine lv_aload_n hx hb dX0_init_4 rfl (lv_at hl 0 rfl) ?_
  refine lv_iload_n hx hb dX0_init_5 rfl (lv_at hl 1 rfl) ?_
  refine g_putF (C := RX6) (T := TX6) (N := 3) (ci := 6) F hinX6 tyX6 tyX6_ok nmX6 hnmi hw 0 rfl rfl 0 (by decide) kf7 rfl rfl (fy := .int) (by decide +kernel) rfl rfl (Nat.le_of_ble_eq_true rfl) (ws1 := (a, .inr (6, [.int x1, .int 0, .int 0])) :: wr) rfl dX0_init_6 (fun H locs hw => ?_)
  refine lv_aload_n hx hb dX0_init_9 rfl (lv_at hl 0 rfl) ?_
  refine lv_iload_n hx hb dX0_init_10 rfl (lv_at hl 2 rfl) ?_
  refine g_putv (C := RX6) (T := TX6) (N := 3) (ci := 6) F hinX6 tyX6 tyX6_ok nmX6 hw 0 rfl rfl 2 (by decide) kf13 rfl (fy := .int) (by decide +kernel) rfl rfl (Nat.le_of_ble_eq_true rfl) (ws1 := (a, .inr (6, [.int x1, .int 0, .int x2])) :: wr) rfl dX0_init_11 (fun H locs hw => ?_)
  refine lv_aload_n hx hb dX0_init_14 rfl (lv_at hl 0 rfl) ?_
  refine lv_iload_n hx hb dX0_init_15 rfl (lv_at hl 3 rfl) ?_
  refine g_putF (C := RX6) (T := TX6) (N := 3) (ci := 6) F hinX6 tyX6 tyX6_ok nmX6 hnmi hw 0 rfl rfl 1 (by decide) kf16 rfl rfl (fy := .int) (by decide +kernel) rfl rfl (Nat.le_of_ble_eq_true rfl) (ws1 := (a, .inr (6, [.int x1, .int x3, .int x2])) :: wr) rfl dX0_init_16 (fun H locs hw => ?_)
  refine W.widen (k := 0) (n := 0) (Nat.le_of_ble_eq_true rfl) (Nat.le_of_ble_eq_true rfl) ?_
  exact hret _ _ _ _ _ rfl hw dX0_init_19

abbrev rm_ci_X0_X1 : Room := { frames := 1, cells := 0, slots := 0, locals := 20 }
set_option maxHeartbeats 4000000 in
set_option maxRecDepth 100000 in
theorem ci_X0_X1 {l : Launch} {D : va_G} {ty : gT} {A : Nat → Prop} {a : Nat} {wr : va_W} {x1 : Int32} {x2 : Int32} {x3 : Int32} : gM l D ty A yX0_init wsX0_init rm_ci_X0_X1 [.ref a, .int x1, .int x2, .int x3] ((a, .inr (1, [.int 0, .int 0, .int 0])) :: wr) (fun u => u = (a, .inr (1, [.int x1, .int x3, .int x2])) :: wr) 0 0 := by
  refine gM_enter (cc := cX0_init) (maxL := 4) (by decide) rfl (Nat.le_of_ble_eq_true rfl) ?_
  intro p e s m args below meth c Q ls hnmi F hl hw hret
  have hnmi : meth.name = "<init>" := hnmi
  have F : CallFix p m c cX0_init 4 s args wsX0_init RX0 := F
  obtain ⟨hx, hb, hml, hown, hts⟩ := id F
  have hl : lv_has ls 4 [(0, .ref a), (1, .int x1), (2, .int x2), (3, .int x3)] := hl
  have hinX1 : ∀ w ∈ wsX10, w ∈ wsX0_init := by first | exact fun w h => List.mem_cons_of_mem _ (List.mem_append_left _ (List.mem_append_right _ h)) | decide +kernel
  have kO := hts (.methodLink RX0 1 objectInit) (by decide +kernel)
  have kOc := hts (.code objectInit ⟨#[0xb1]⟩ 1 none) (by decide +kernel)
  have kOi := hts (.instanceMethod objectInit) (by decide +kernel)
  have kf13 := hts (.fieldLink RX0 13 "GossipGate$Gate" "rate" "I") (by decide +kernel)
  have kf16 := hts (.fieldLink RX0 16 "GossipGate$Gate" "deaf" "I") (by decide +kernel)
  have kf7 := hts (.fieldLink RX0 7 "GossipGate$Gate" "number" "I") (by decide +kernel)
  refine lv_aload_n hx hb dX0_init_0 rfl (lv_at hl 0 rfl) ?_
  refine W.objInit hx hb hown kO kOi kOc rfl (by rw [hml]; exact hl.1) rfl dX0_init_1 (Nat.le_of_ble_eq_true rfl) (Nat.le_of_ble_eq_true rfl) ?_
  refine W.eq (g2 := F0 m 4 ls []) rfl ?_
  refine lv_aload_n hx hb dX0_init_4 rfl (lv_at hl 0 rfl) ?_
  refine lv_iload_n hx hb dX0_init_5 rfl (lv_at hl 1 rfl) ?_
  refine g_putF (C := RX1) (T := TX1) (N := 3) (ci := 1) F hinX1 tyX1 tyX1_ok nmX1 hnmi hw 0 rfl rfl 0 (by decide) kf7 rfl rfl (fy := .int) (by decide +kernel) rfl rfl (Nat.le_of_ble_eq_true rfl) (ws1 := (a, .inr (1, [.int x1, .int 0, .int 0])) :: wr) rfl dX0_init_6 (fun H locs hw => ?_)
  refine lv_aload_n hx hb dX0_init_9 rfl (lv_at hl 0 rfl) ?_
  refine lv_iload_n hx hb dX0_init_10 rfl (lv_at hl 2 rfl) ?_
  refine g_putv (C := RX1) (T := TX1) (N := 3) (ci := 1) F hinX1 tyX1 tyX1_ok nmX1 hw 0 rfl rfl 2 (by decide) kf13 rfl (fy := .int) (by decide +kernel) rfl rfl (Nat.le_of_ble_eq_true rfl) (ws1 := (a, .inr (1, [.int x1, .int 0, .int x2])) :: wr) rfl dX0_init_11 (fun H locs hw => ?_)
  refine lv_aload_n hx hb dX0_init_14 rfl (lv_at hl 0 rfl) ?_
  refine lv_iload_n hx hb dX0_init_15 rfl (lv_at hl 3 rfl) ?_
  refine g_putF (C := RX1) (T := TX1) (N := 3) (ci := 1) F hinX1 tyX1 tyX1_ok nmX1 hnmi hw 0 rfl rfl 1 (by decide) kf16 rfl rfl (fy := .int) (by decide +kernel) rfl rfl (Nat.le_of_ble_eq_true rfl) (ws1 := (a, .inr (1, [.int x1, .int x3, .int x2])) :: wr) rfl dX0_init_16 (fun H locs hw => ?_)
  refine W.widen (k := 0) (n := 0) (Nat.le_of_ble_eq_true rfl) (Nat.le_of_ble_eq_true rfl) ?_
  exact hret _ _ _ _ _ rfl hw dX0_init_19

abbrev rm_ci_X6 : Room := { frames := 2, cells := 0, slots := 0, locals := 43 }
set_option maxHeartbeats 4000000 in
set_option maxRecDepth 100000 in
theorem ci_X6 {l : Launch} {D : va_G} {ty : gT} {A : Nat → Prop} {a : Nat} {wr : va_W} {x1 : Int32} {x2 : Int32} {x3 : Int32} : gM l D ty A yX6_init wsX6_init rm_ci_X6 [.ref a, .int x1, .int x2, .int x3] ((a, .inr (6, [.int 0, .int 0, .int 0])) :: wr) (fun u => u = (a, .inr (6, [.int x1, .int x3, .int x2])) :: wr) 0 0 := by
  refine gM_enter (cc := cX6_init) (maxL := 4) (by decide) rfl (Nat.le_of_ble_eq_true rfl) ?_
  intro p e s m args below meth c Q ls hnmi F hl hw hret
  have hnmi : meth.name = "<init>" := hnmi
  have F : CallFix p m c cX6_init 4 s args wsX6_init RX6 := F
  obtain ⟨hx, hb, hml, hown, hts⟩ := id F
  have hl : lv_has ls 4 [(0, .ref a), (1, .int x1), (2, .int x2), (3, .int x3)] := hl
  have kimX0_init := hts (.instanceMethod yX0_init) (by decide +kernel)
  have kitX0 := hts (.initialized RX0) (by decide +kernel)
  have kml1 := hts (.methodLink RX6 1 yX0_init) (by decide +kernel)
  refine lv_aload_n hx hb dX6_init_0 rfl (lv_at hl 0 rfl) ?_
  refine lv_iload_n hx hb dX6_init_1 rfl (lv_at hl 1 rfl) ?_
  refine lv_iload_n hx hb dX6_init_2 rfl (lv_at hl 2 rfl) ?_
  refine lv_iload_n hx hb dX6_init_3 rfl (lv_at hl 3 rfl) ?_
  refine g_mC (va_runI F (As := [.int x1, .int x2, .int x3]) (rest := []) (ci_X0_X6 (wr := (wr))) (cwI 3 hts gX6_init_X0_init rfl rfl rfl kitX0 kml1 kimX0_init rfl (by decide +kernel) ⟨Nat.le_of_ble_eq_true rfl, Nat.le_of_ble_eq_true rfl⟩) ⟨gO_blind, hw.pre _⟩ rfl rfl hl.1 rfl (lv_room (Nat.le_of_ble_eq_true rfl)) dX6_init_4 ⟨(Nat.le_of_ble_eq_true rfl), (Nat.le_of_ble_eq_true rfl)⟩) hw (fun u H locs hu hw => ?_)
  subst hu
  refine W.widen (k := 0) (n := 0) (Nat.le_of_ble_eq_true rfl) (Nat.le_of_ble_eq_true rfl) ?_
  exact hret _ _ _ _ _ rfl hw dX6_init_7

abbrev rm_ci_X6_X1 : Room := { frames := 2, cells := 0, slots := 0, locals := 43 }
set_option maxHeartbeats 4000000 in
set_option maxRecDepth 100000 in
theorem ci_X6_X1 {l : Launch} {D : va_G} {ty : gT} {A : Nat → Prop} {a : Nat} {wr : va_W} {x1 : Int32} {x2 : Int32} {x3 : Int32} : gM l D ty A yX6_init wsX6_init rm_ci_X6_X1 [.ref a, .int x1, .int x2, .int x3] ((a, .inr (1, [.int 0, .int 0, .int 0])) :: wr) (fun u => u = (a, .inr (1, [.int x1, .int x3, .int x2])) :: wr) 0 0 := by
  refine gM_enter (cc := cX6_init) (maxL := 4) (by decide) rfl (Nat.le_of_ble_eq_true rfl) ?_
  intro p e s m args below meth c Q ls hnmi F hl hw hret
  have hnmi : meth.name = "<init>" := hnmi
  have F : CallFix p m c cX6_init 4 s args wsX6_init RX6 := F
  obtain ⟨hx, hb, hml, hown, hts⟩ := id F
  have hl : lv_has ls 4 [(0, .ref a), (1, .int x1), (2, .int x2), (3, .int x3)] := hl
  have kimX0_init := hts (.instanceMethod yX0_init) (by decide +kernel)
  have kitX0 := hts (.initialized RX0) (by decide +kernel)
  have kml1 := hts (.methodLink RX6 1 yX0_init) (by decide +kernel)
  refine lv_aload_n hx hb dX6_init_0 rfl (lv_at hl 0 rfl) ?_
  refine lv_iload_n hx hb dX6_init_1 rfl (lv_at hl 1 rfl) ?_
  refine lv_iload_n hx hb dX6_init_2 rfl (lv_at hl 2 rfl) ?_
  refine lv_iload_n hx hb dX6_init_3 rfl (lv_at hl 3 rfl) ?_
  refine g_mC (va_runI F (As := [.int x1, .int x2, .int x3]) (rest := []) (ci_X0_X1 (wr := (wr))) (cwI 3 hts gX6_init_X0_init rfl rfl rfl kitX0 kml1 kimX0_init rfl (by decide +kernel) ⟨Nat.le_of_ble_eq_true rfl, Nat.le_of_ble_eq_true rfl⟩) ⟨gO_blind, hw.pre _⟩ rfl rfl hl.1 rfl (lv_room (Nat.le_of_ble_eq_true rfl)) dX6_init_4 ⟨(Nat.le_of_ble_eq_true rfl), (Nat.le_of_ble_eq_true rfl)⟩) hw (fun u H locs hu hw => ?_)
  subst hu
  refine W.widen (k := 0) (n := 0) (Nat.le_of_ble_eq_true rfl) (Nat.le_of_ble_eq_true rfl) ?_
  exact hret _ _ _ _ _ rfl hw dX6_init_7

abbrev rm_ci_X1 : Room := { frames := 3, cells := 0, slots := 0, locals := 66 }
set_option maxHeartbeats 4000000 in
set_option maxRecDepth 100000 in
theorem ci_X1 {l : Launch} {D : va_G} {ty : gT} {A : Nat → Prop} {a : Nat} {wr : va_W} {x1 : Int32} {x2 : Int32} {x3 : Int32} : gM l D ty A yX1_init wsX1_init rm_ci_X1 [.ref a, .int x1, .int x2, .int x3] ((a, .inr (1, [.int 0, .int 0, .int 0])) :: wr) (fun u => u = (a, .inr (1, [.int x1, .int x3, .int x2])) :: wr) 0 0 := by
  refine gM_enter (cc := cX1_init) (maxL := 4) (by decide) rfl (Nat.le_of_ble_eq_true rfl) ?_
  intro p e s m args below meth c Q ls hnmi F hl hw hret
  have hnmi : meth.name = "<init>" := hnmi
  have F : CallFix p m c cX1_init 4 s args wsX1_init RX1 := F
  obtain ⟨hx, hb, hml, hown, hts⟩ := id F
  have hl : lv_has ls 4 [(0, .ref a), (1, .int x1), (2, .int x2), (3, .int x3)] := hl
  have kimX6_init := hts (.instanceMethod yX6_init) (by decide +kernel)
  have kitX6 := hts (.initialized RX6) (by decide +kernel)
  have kml1 := hts (.methodLink RX1 1 yX6_init) (by decide +kernel)
  refine lv_aload_n hx hb dX1_init_0 rfl (lv_at hl 0 rfl) ?_
  refine lv_iload_n hx hb dX1_init_1 rfl (lv_at hl 1 rfl) ?_
  refine lv_iload_n hx hb dX1_init_2 rfl (lv_at hl 2 rfl) ?_
  refine lv_iload_n hx hb dX1_init_3 rfl (lv_at hl 3 rfl) ?_
  refine g_mC (va_runI F (As := [.int x1, .int x2, .int x3]) (rest := []) (ci_X6_X1 (wr := (wr))) (cwI 3 hts gX1_init_X6_init rfl rfl rfl kitX6 kml1 kimX6_init rfl (by decide +kernel) ⟨Nat.le_of_ble_eq_true rfl, Nat.le_of_ble_eq_true rfl⟩) ⟨gO_blind, hw.pre _⟩ rfl rfl hl.1 rfl (lv_room (Nat.le_of_ble_eq_true rfl)) dX1_init_4 ⟨(Nat.le_of_ble_eq_true rfl), (Nat.le_of_ble_eq_true rfl)⟩) hw (fun u H locs hu hw => ?_)
  subst hu
  refine W.widen (k := 0) (n := 0) (Nat.le_of_ble_eq_true rfl) (Nat.le_of_ble_eq_true rfl) ?_
  exact hret _ _ _ _ _ rfl hw dX1_init_7

abbrev rm_ci_X11 : Room := { frames := 1, cells := 20, slots := 527, locals := 20 }
set_option maxHeartbeats 4000000 in
set_option maxRecDepth 100000 in
theorem ci_X11 {l : Launch} {D : va_G} {ty : gT} {A : Nat → Prop} {a : Nat} {wr : va_W} : gM l D ty A yX11_init wsX11_init rm_ci_X11 [.ref a] ((a, .inr (11, [.int 0, .int 0, .null, .null, .null, .int 0, .int 0, .int 0, .null, .null, .null, .null, .null, .null, .int 0, .int 0, .int 0, .int 0, .null, .null, .int 0, .null, .null, .null, .null, .null, .null, .null, .int 0, .int 0, .int 0, .int 0, .null, .null])) :: wr) (fun u => ∃ q1 q2 q3 q4 q5 q6 q7 q8 q9 q10 q11 q12 q13 q14 q15 q16 q17 q18 q19 q20 : Nat, u = (q20, .inl (ty 0, 8, .inl (fun _ => 0))) :: (q19, .inl (ty 0, 8, .inl (fun _ => 0))) :: (q18, .inl (ty 0, 5, .inl (fun _ => 0))) :: (q17, .inl (ty 0, 4, .inl (fun _ => 0))) :: (q16, .inl (ty 0, 4, .inl (fun _ => 0))) :: (q15, .inl (ty 0, 160, .inl (fun _ => 0))) :: (q14, .inl (ty 0, 12, .inl (fun _ => 0))) :: (q13, .inl (ty 0, 12, .inl (fun _ => 0))) :: (q12, .inl (ty 0, 12, .inl (fun _ => 0))) :: (q11, .inl (ty 0, 12, .inl (fun _ => 0))) :: (q10, .inl (ty 0, 15, .inl (fun _ => 0))) :: (q9, .inl (ty 0, 4, .inl (fun _ => 0))) :: (q8, .inl (ty 0, 4, .inl (fun _ => 0))) :: (q7, .inl (ty 0, 4, .inl (fun _ => 0))) :: (q6, .inl (ty 0, 5, .inl (fun _ => 0))) :: (q5, .inl (ty 0, 5, .inl (fun _ => 0))) :: (q4, .inl (ty 0, 5, .inl (fun _ => 0))) :: (q3, .inl (ty 0, 240, .inl (fun _ => 0))) :: (q2, .inl (ty 0, 4, .inl (fun _ => 0))) :: (q1, .inl (ty 0, 4, .inl (upd (upd (upd (upd (fun _ => 0) (0 : Int32).toNatClampNeg (-9)) (1 : Int32).toNatClampNeg (-9)) (2 : Int32).toNatClampNeg (-9)) (3 : Int32).toNatClampNeg (-9)))) :: (a, .inr (11, [.int 0, .int 0, .ref q1, .ref q2, .ref q3, .int 0, .int 0, .int 0, .ref q4, .ref q5, .ref q6, .ref q7, .ref q8, .ref q9, .int (-9), .int 0, .int 0, .int 0, .ref q10, .ref q11, .int 0, .ref q12, .ref q13, .ref q14, .ref q15, .ref q16, .ref q17, .ref q18, .int 0, .int 0, .int 0, .int 0, .ref q19, .ref q20])) :: wr) 20 527 := by
  refine gM_enter (cc := cX11_init) (maxL := 1) (by decide) rfl (Nat.le_of_ble_eq_true rfl) ?_
  intro p e s m args below meth c Q ls hnmi F hl hw hret
  have hnmi : meth.name = "<init>" := hnmi
  have F : CallFix p m c cX11_init 1 s args wsX11_init RX11 := F
  obtain ⟨hx, hb, hml, hown, hts⟩ := id F
  have hl : lv_has ls 1 [(0, .ref a)] := hl
  have hinX11 : ∀ w ∈ wsX110, w ∈ wsX11_init := by first | exact fun w h => List.mem_cons_of_mem _ (List.mem_append_right _ h) | decide +kernel
  have kO := hts (.methodLink RX11 1 objectInit) (by decide +kernel)
  have kOc := hts (.code objectInit ⟨#[0xb1]⟩ 1 none) (by decide +kernel)
  have kOi := hts (.instanceMethod objectInit) (by decide +kernel)
  have karr := hts (.arrayClass .int) (by decide +kernel)
  have kf13 := hts (.fieldLink RX11 13 "GossipGateModel" "sheetLong" "[I") (by decide +kernel)
  have kf16 := hts (.fieldLink RX11 16 "GossipGateModel" "cells" "[I") (by decide +kernel)
  have kf19 := hts (.fieldLink RX11 19 "GossipGateModel" "kind" "[I") (by decide +kernel)
  have kf22 := hts (.fieldLink RX11 22 "GossipGateModel" "rateOf" "[I") (by decide +kernel)
  have kf25 := hts (.fieldLink RX11 25 "GossipGateModel" "deaf" "[I") (by decide +kernel)
  have kf28 := hts (.fieldLink RX11 28 "GossipGateModel" "large" "[I") (by decide +kernel)
  have kf31 := hts (.fieldLink RX11 31 "GossipGateModel" "person" "[I") (by decide +kernel)
  have kf34 := hts (.fieldLink RX11 34 "GossipGateModel" "born" "[I") (by decide +kernel)
  have kf37 := hts (.fieldLink RX11 37 "GossipGateModel" "shut" "I") (by decide +kernel)
  have kf41 := hts (.fieldLink RX11 41 "GossipGateModel" "readGate" "[I") (by decide +kernel)
  have kf44 := hts (.fieldLink RX11 44 "GossipGateModel" "readStory" "[I") (by decide +kernel)
  have kf47 := hts (.fieldLink RX11 47 "GossipGateModel" "passageOf" "[I") (by decide +kernel)
  have kf50 := hts (.fieldLink RX11 50 "GossipGateModel" "passageBy" "[I") (by decide +kernel)
  have kf53 := hts (.fieldLink RX11 53 "GossipGateModel" "passageOn" "[I") (by decide +kernel)
  have kf56 := hts (.fieldLink RX11 56 "GossipGateModel" "together" "[I") (by decide +kernel)
  have kf59 := hts (.fieldLink RX11 59 "GossipGateModel" "went" "[I") (by decide +kernel)
  have kf62 := hts (.fieldLink RX11 62 "GossipGateModel" "lastOf" "[I") (by decide +kernel)
  have kf65 := hts (.fieldLink RX11 65 "GossipGateModel" "takenAt" "[I") (by decide +kernel)
  have kf68 := hts (.fieldLink RX11 68 "GossipGateModel" "readAt" "[I") (by decide +kernel)
  have kf71 := hts (.fieldLink RX11 71 "GossipGateModel" "readTook" "[I") (by decide +kernel)
  have kf9 := hts (.fieldLink RX11 9 "GossipGateModel" "sorts" "[I") (by decide +kernel)
  refine lv_aload_n hx hb dX11_init_0 rfl (lv_at hl 0 rfl) ?_
  refine W.objInit hx hb hown kO kOi kOc rfl (by rw [hml]; exact hl.1) rfl dX11_init_1 (Nat.le_of_ble_eq_true rfl) (Nat.le_of_ble_eq_true rfl) ?_
  refine W.eq (g2 := F0 m 4 ls []) rfl ?_
  refine lv_aload_n hx hb dX11_init_4 rfl (lv_at hl 0 rfl) ?_
  refine lv_iconst (v := 4) hx hb dX11_init_5 (by decide) ?_
  refine g_newa (N' := 4) F karr hw (by decide) (by decide) (by decide) (Nat.le_of_ble_eq_true rfl) (Nat.le_of_ble_eq_true rfl) dX11_init_6 (fun q1 H hw => ?_)
  refine lv_dup hx hb dX11_init_8 rfl ?_
  refine lv_iconst (v := 0) hx hb dX11_init_9 (by decide) ?_
  refine lv_bipush (v := (-9)) hx hb dX11_init_10 (by decide) ?_
  refine g_iast hx hb hw 0 rfl (by decide) (ws1 := (q1, .inl (ty 0, 4, .inl (upd (fun _ => 0) (0 : Int32).toNatClampNeg (-9)))) :: (a, .inr (11, [.int 0, .int 0, .null, .null, .null, .int 0, .int 0, .int 0, .null, .null, .null, .null, .null, .null, .int 0, .int 0, .int 0, .int 0, .null, .null, .int 0, .null, .null, .null, .null, .null, .null, .null, .int 0, .int 0, .int 0, .int 0, .null, .null])) :: wr) rfl dX11_init_12 (fun H locs hw => ?_)
  refine lv_dup hx hb dX11_init_13 rfl ?_
  refine lv_iconst (v := 1) hx hb dX11_init_14 (by decide) ?_
  refine lv_bipush (v := (-9)) hx hb dX11_init_15 (by decide) ?_
  refine g_iast hx hb hw 0 rfl (by decide) (ws1 := (q1, .inl (ty 0, 4, .inl (upd (upd (fun _ => 0) (0 : Int32).toNatClampNeg (-9)) (1 : Int32).toNatClampNeg (-9)))) :: (a, .inr (11, [.int 0, .int 0, .null, .null, .null, .int 0, .int 0, .int 0, .null, .null, .null, .null, .null, .null, .int 0, .int 0, .int 0, .int 0, .null, .null, .int 0, .null, .null, .null, .null, .null, .null, .null, .int 0, .int 0, .int 0, .int 0, .null, .null])) :: wr) rfl dX11_init_17 (fun H locs hw => ?_)
  refine lv_dup hx hb dX11_init_18 rfl ?_
  refine lv_iconst (v := 2) hx hb dX11_init_19 (by decide) ?_
  refine lv_bipush (v := (-9)) hx hb dX11_init_20 (by decide) ?_
  refine g_iast hx hb hw 0 rfl (by decide) (ws1 := (q1, .inl (ty 0, 4, .inl (upd (upd (upd (fun _ => 0) (0 : Int32).toNatClampNeg (-9)) (1 : Int32).toNatClampNeg (-9)) (2 : Int32).toNatClampNeg (-9)))) :: (a, .inr (11, [.int 0, .int 0, .null, .null, .null, .int 0, .int 0, .int 0, .null, .null, .null, .null, .null, .null, .int 0, .int 0, .int 0, .int 0, .null, .null, .int 0, .null, .null, .null, .null, .null, .null, .null, .int 0, .int 0, .int 0, .int 0, .null, .null])) :: wr) rfl dX11_init_22 (fun H locs hw => ?_)
  refine lv_dup hx hb dX11_init_23 rfl ?_
  refine lv_iconst (v := 3) hx hb dX11_init_24 (by decide) ?_
  refine lv_bipush (v := (-9)) hx hb dX11_init_25 (by decide) ?_
  refine g_iast hx hb hw 0 rfl (by decide) (ws1 := (q1, .inl (ty 0, 4, .inl (upd (upd (upd (upd (fun _ => 0) (0 : Int32).toNatClampNeg (-9)) (1 : Int32).toNatClampNeg (-9)) (2 : Int32).toNatClampNeg (-9)) (3 : Int32).toNatClampNeg (-9)))) :: (a, .inr (11, [.int 0, .int 0, .null, .null, .null, .int 0, .int 0, .int 0, .null, .null, .null, .null, .null, .null, .int 0, .int 0, .int 0, .int 0, .null, .null, .int 0, .null, .null, .null, .null, .null, .null, .null, .int 0, .int 0, .int 0, .int 0, .null, .null])) :: wr) rfl dX11_init_27 (fun H locs hw => ?_)
  refine g_putF (C := RX11) (T := TX11) (N := 34) (ci := 11) F hinX11 tyX11 tyX11_ok nmX11 hnmi hw 1 rfl rfl 2 (by decide) kf9 rfl rfl (fy := .array .int) (by decide +kernel) rfl rfl (Nat.le_of_ble_eq_true rfl) (ws1 := (q1, .inl (ty 0, 4, .inl (upd (upd (upd (upd (fun _ => 0) (0 : Int32).toNatClampNeg (-9)) (1 : Int32).toNatClampNeg (-9)) (2 : Int32).toNatClampNeg (-9)) (3 : Int32).toNatClampNeg (-9)))) :: (a, .inr (11, [.int 0, .int 0, .ref q1, .null, .null, .int 0, .int 0, .int 0, .null, .null, .null, .null, .null, .null, .int 0, .int 0, .int 0, .int 0, .null, .null, .int 0, .null, .null, .null, .null, .null, .null, .null, .int 0, .int 0, .int 0, .int 0, .null, .null])) :: wr) rfl dX11_init_28 (fun H locs hw => ?_)
  refine lv_aload_n hx hb dX11_init_31 rfl (lv_at hl 0 rfl) ?_
  refine lv_iconst (v := 4) hx hb dX11_init_32 (by decide) ?_
  refine g_newa (N' := 4) F karr hw (by decide) (by decide) (by decide) (Nat.le_of_ble_eq_true rfl) (Nat.le_of_ble_eq_true rfl) dX11_init_33 (fun q2 H hw => ?_)
  refine g_putF (C := RX11) (T := TX11) (N := 34) (ci := 11) F hinX11 tyX11 tyX11_ok nmX11 hnmi hw 2 rfl rfl 3 (by decide) kf13 rfl rfl (fy := .array .int) (by decide +kernel) rfl rfl (Nat.le_of_ble_eq_true rfl) (ws1 := (q2, .inl (ty 0, 4, .inl (fun _ => 0))) :: (q1, .inl (ty 0, 4, .inl (upd (upd (upd (upd (fun _ => 0) (0 : Int32).toNatClampNeg (-9)) (1 : Int32).toNatClampNeg (-9)) (2 : Int32).toNatClampNeg (-9)) (3 : Int32).toNatClampNeg (-9)))) :: (a, .inr (11, [.int 0, .int 0, .ref q1, .ref q2, .null, .int 0, .int 0, .int 0, .null, .null, .null, .null, .null, .null, .int 0, .int 0, .int 0, .int 0, .null, .null, .int 0, .null, .null, .null, .null, .null, .null, .null, .int 0, .int 0, .int 0, .int 0, .null, .null])) :: wr) rfl dX11_init_35 (fun H locs hw => ?_)
  refine lv_aload_n hx hb dX11_init_38 rfl (lv_at hl 0 rfl) ?_
  refine lv_sipush (v := 240) hx hb dX11_init_39 (by decide) ?_
  refine g_newa (N' := 240) F karr hw (by decide) (by decide) (by decide) (Nat.le_of_ble_eq_true rfl) (Nat.le_of_ble_eq_true rfl) dX11_init_42 (fun q3 H hw => ?_)
  refine g_putF (C := RX11) (T := TX11) (N := 34) (ci := 11) F hinX11 tyX11 tyX11_ok nmX11 hnmi hw 3 rfl rfl 4 (by decide) kf16 rfl rfl (fy := .array .int) (by decide +kernel) rfl rfl (Nat.le_of_ble_eq_true rfl) (ws1 := (q3, .inl (ty 0, 240, .inl (fun _ => 0))) :: (q2, .inl (ty 0, 4, .inl (fun _ => 0))) :: (q1, .inl (ty 0, 4, .inl (upd (upd (upd (upd (fun _ => 0) (0 : Int32).toNatClampNeg (-9)) (1 : Int32).toNatClampNeg (-9)) (2 : Int32).toNatClampNeg (-9)) (3 : Int32).toNatClampNeg (-9)))) :: (a, .inr (11, [.int 0, .int 0, .ref q1, .ref q2, .ref q3, .int 0, .int 0, .int 0, .null, .null, .null, .null, .null, .null, .int 0, .int 0, .int 0, .int 0, .null, .null, .int 0, .null, .null, .null, .null, .null, .null, .null, .int 0, .int 0, .int 0, .int 0, .null, .null])) :: wr) rfl dX11_init_44 (fun H locs hw => ?_)
  refine lv_aload_n hx hb dX11_init_47 rfl (lv_at hl 0 rfl) ?_
  refine lv_iconst (v := 5) hx hb dX11_init_48 (by decide) ?_
  refine g_newa (N' := 5) F karr hw (by decide) (by decide) (by decide) (Nat.le_of_ble_eq_true rfl) (Nat.le_of_ble_eq_true rfl) dX11_init_49 (fun q4 H hw => ?_)
  refine g_putF (C := RX11) (T := TX11) (N := 34) (ci := 11) F hinX11 tyX11 tyX11_ok nmX11 hnmi hw 4 rfl rfl 8 (by decide) kf19 rfl rfl (fy := .array .int) (by decide +kernel) rfl rfl (Nat.le_of_ble_eq_true rfl) (ws1 := (q4, .inl (ty 0, 5, .inl (fun _ => 0))) :: (q3, .inl (ty 0, 240, .inl (fun _ => 0))) :: (q2, .inl (ty 0, 4, .inl (fun _ => 0))) :: (q1, .inl (ty 0, 4, .inl (upd (upd (upd (upd (fun _ => 0) (0 : Int32).toNatClampNeg (-9)) (1 : Int32).toNatClampNeg (-9)) (2 : Int32).toNatClampNeg (-9)) (3 : Int32).toNatClampNeg (-9)))) :: (a, .inr (11, [.int 0, .int 0, .ref q1, .ref q2, .ref q3, .int 0, .int 0, .int 0, .ref q4, .null, .null, .null, .null, .null, .int 0, .int 0, .int 0, .int 0, .null, .null, .int 0, .null, .null, .null, .null, .null, .null, .null, .int 0, .int 0, .int 0, .int 0, .null, .null])) :: wr) rfl dX11_init_51 (fun H locs hw => ?_)
  refine lv_aload_n hx hb dX11_init_54 rfl (lv_at hl 0 rfl) ?_
  refine lv_iconst (v := 5) hx hb dX11_init_55 (by decide) ?_
  refine g_newa (N' := 5) F karr hw (by decide) (by decide) (by decide) (Nat.le_of_ble_eq_true rfl) (Nat.le_of_ble_eq_true rfl) dX11_init_56 (fun q5 H hw => ?_)
  refine g_putF (C := RX11) (T := TX11) (N := 34) (ci := 11) F hinX11 tyX11 tyX11_ok nmX11 hnmi hw 5 rfl rfl 9 (by decide) kf22 rfl rfl (fy := .array .int) (by decide +kernel) rfl rfl (Nat.le_of_ble_eq_true rfl) (ws1 := (q5, .inl (ty 0, 5, .inl (fun _ => 0))) :: (q4, .inl (ty 0, 5, .inl (fun _ => 0))) :: (q3, .inl (ty 0, 240, .inl (fun _ => 0))) :: (q2, .inl (ty 0, 4, .inl (fun _ => 0))) :: (q1, .inl (ty 0, 4, .inl (upd (upd (upd (upd (fun _ => 0) (0 : Int32).toNatClampNeg (-9)) (1 : Int32).toNatClampNeg (-9)) (2 : Int32).toNatClampNeg (-9)) (3 : Int32).toNatClampNeg (-9)))) :: (a, .inr (11, [.int 0, .int 0, .ref q1, .ref q2, .ref q3, .int 0, .int 0, .int 0, .ref q4, .ref q5, .null, .null, .null, .null, .int 0, .int 0, .int 0, .int 0, .null, .null, .int 0, .null, .null, .null, .null, .null, .null, .null, .int 0, .int 0, .int 0, .int 0, .null, .null])) :: wr) rfl dX11_init_58 (fun H locs hw => ?_)
  refine lv_aload_n hx hb dX11_init_61 rfl (lv_at hl 0 rfl) ?_
  refine lv_iconst (v := 5) hx hb dX11_init_62 (by decide) ?_
  refine g_newa (N' := 5) F karr hw (by decide) (by decide) (by decide) (Nat.le_of_ble_eq_true rfl) (Nat.le_of_ble_eq_true rfl) dX11_init_63 (fun q6 H hw => ?_)
  refine g_putF (C := RX11) (T := TX11) (N := 34) (ci := 11) F hinX11 tyX11 tyX11_ok nmX11 hnmi hw 6 rfl rfl 10 (by decide) kf25 rfl rfl (fy := .array .int) (by decide +kernel) rfl rfl (Nat.le_of_ble_eq_true rfl) (ws1 := (q6, .inl (ty 0, 5, .inl (fun _ => 0))) :: (q5, .inl (ty 0, 5, .inl (fun _ => 0))) :: (q4, .inl (ty 0, 5, .inl (fun _ => 0))) :: (q3, .inl (ty 0, 240, .inl (fun _ => 0))) :: (q2, .inl (ty 0, 4, .inl (fun _ => 0))) :: (q1, .inl (ty 0, 4, .inl (upd (upd (upd (upd (fun _ => 0) (0 : Int32).toNatClampNeg (-9)) (1 : Int32).toNatClampNeg (-9)) (2 : Int32).toNatClampNeg (-9)) (3 : Int32).toNatClampNeg (-9)))) :: (a, .inr (11, [.int 0, .int 0, .ref q1, .ref q2, .ref q3, .int 0, .int 0, .int 0, .ref q4, .ref q5, .ref q6, .null, .null, .null, .int 0, .int 0, .int 0, .int 0, .null, .null, .int 0, .null, .null, .null, .null, .null, .null, .null, .int 0, .int 0, .int 0, .int 0, .null, .null])) :: wr) rfl dX11_init_65 (fun H locs hw => ?_)
  refine lv_aload_n hx hb dX11_init_68 rfl (lv_at hl 0 rfl) ?_
  refine lv_iconst (v := 4) hx hb dX11_init_69 (by decide) ?_
  refine g_newa (N' := 4) F karr hw (by decide) (by decide) (by decide) (Nat.le_of_ble_eq_true rfl) (Nat.le_of_ble_eq_true rfl) dX11_init_70 (fun q7 H hw => ?_)
  refine g_putF (C := RX11) (T := TX11) (N := 34) (ci := 11) F hinX11 tyX11 tyX11_ok nmX11 hnmi hw 7 rfl rfl 11 (by decide) kf28 rfl rfl (fy := .array .int) (by decide +kernel) rfl rfl (Nat.le_of_ble_eq_true rfl) (ws1 := (q7, .inl (ty 0, 4, .inl (fun _ => 0))) :: (q6, .inl (ty 0, 5, .inl (fun _ => 0))) :: (q5, .inl (ty 0, 5, .inl (fun _ => 0))) :: (q4, .inl (ty 0, 5, .inl (fun _ => 0))) :: (q3, .inl (ty 0, 240, .inl (fun _ => 0))) :: (q2, .inl (ty 0, 4, .inl (fun _ => 0))) :: (q1, .inl (ty 0, 4, .inl (upd (upd (upd (upd (fun _ => 0) (0 : Int32).toNatClampNeg (-9)) (1 : Int32).toNatClampNeg (-9)) (2 : Int32).toNatClampNeg (-9)) (3 : Int32).toNatClampNeg (-9)))) :: (a, .inr (11, [.int 0, .int 0, .ref q1, .ref q2, .ref q3, .int 0, .int 0, .int 0, .ref q4, .ref q5, .ref q6, .ref q7, .null, .null, .int 0, .int 0, .int 0, .int 0, .null, .null, .int 0, .null, .null, .null, .null, .null, .null, .null, .int 0, .int 0, .int 0, .int 0, .null, .null])) :: wr) rfl dX11_init_72 (fun H locs hw => ?_)
  refine lv_aload_n hx hb dX11_init_75 rfl (lv_at hl 0 rfl) ?_
  refine lv_iconst (v := 4) hx hb dX11_init_76 (by decide) ?_
  refine g_newa (N' := 4) F karr hw (by decide) (by decide) (by decide) (Nat.le_of_ble_eq_true rfl) (Nat.le_of_ble_eq_true rfl) dX11_init_77 (fun q8 H hw => ?_)
  refine g_putF (C := RX11) (T := TX11) (N := 34) (ci := 11) F hinX11 tyX11 tyX11_ok nmX11 hnmi hw 8 rfl rfl 12 (by decide) kf31 rfl rfl (fy := .array .int) (by decide +kernel) rfl rfl (Nat.le_of_ble_eq_true rfl) (ws1 := (q8, .inl (ty 0, 4, .inl (fun _ => 0))) :: (q7, .inl (ty 0, 4, .inl (fun _ => 0))) :: (q6, .inl (ty 0, 5, .inl (fun _ => 0))) :: (q5, .inl (ty 0, 5, .inl (fun _ => 0))) :: (q4, .inl (ty 0, 5, .inl (fun _ => 0))) :: (q3, .inl (ty 0, 240, .inl (fun _ => 0))) :: (q2, .inl (ty 0, 4, .inl (fun _ => 0))) :: (q1, .inl (ty 0, 4, .inl (upd (upd (upd (upd (fun _ => 0) (0 : Int32).toNatClampNeg (-9)) (1 : Int32).toNatClampNeg (-9)) (2 : Int32).toNatClampNeg (-9)) (3 : Int32).toNatClampNeg (-9)))) :: (a, .inr (11, [.int 0, .int 0, .ref q1, .ref q2, .ref q3, .int 0, .int 0, .int 0, .ref q4, .ref q5, .ref q6, .ref q7, .ref q8, .null, .int 0, .int 0, .int 0, .int 0, .null, .null, .int 0, .null, .null, .null, .null, .null, .null, .null, .int 0, .int 0, .int 0, .int 0, .null, .null])) :: wr) rfl dX11_init_79 (fun H locs hw => ?_)
  refine lv_aload_n hx hb dX11_init_82 rfl (lv_at hl 0 rfl) ?_
  refine lv_iconst (v := 4) hx hb dX11_init_83 (by decide) ?_
  refine g_newa (N' := 4) F karr hw (by decide) (by decide) (by decide) (Nat.le_of_ble_eq_true rfl) (Nat.le_of_ble_eq_true rfl) dX11_init_84 (fun q9 H hw => ?_)
  refine g_putF (C := RX11) (T := TX11) (N := 34) (ci := 11) F hinX11 tyX11 tyX11_ok nmX11 hnmi hw 9 rfl rfl 13 (by decide) kf34 rfl rfl (fy := .array .int) (by decide +kernel) rfl rfl (Nat.le_of_ble_eq_true rfl) (ws1 := (q9, .inl (ty 0, 4, .inl (fun _ => 0))) :: (q8, .inl (ty 0, 4, .inl (fun _ => 0))) :: (q7, .inl (ty 0, 4, .inl (fun _ => 0))) :: (q6, .inl (ty 0, 5, .inl (fun _ => 0))) :: (q5, .inl (ty 0, 5, .inl (fun _ => 0))) :: (q4, .inl (ty 0, 5, .inl (fun _ => 0))) :: (q3, .inl (ty 0, 240, .inl (fun _ => 0))) :: (q2, .inl (ty 0, 4, .inl (fun _ => 0))) :: (q1, .inl (ty 0, 4, .inl (upd (upd (upd (upd (fun _ => 0) (0 : Int32).toNatClampNeg (-9)) (1 : Int32).toNatClampNeg (-9)) (2 : Int32).toNatClampNeg (-9)) (3 : Int32).toNatClampNeg (-9)))) :: (a, .inr (11, [.int 0, .int 0, .ref q1, .ref q2, .ref q3, .int 0, .int 0, .int 0, .ref q4, .ref q5, .ref q6, .ref q7, .ref q8, .ref q9, .int 0, .int 0, .int 0, .int 0, .null, .null, .int 0, .null, .null, .null, .null, .null, .null, .null, .int 0, .int 0, .int 0, .int 0, .null, .null])) :: wr) rfl dX11_init_86 (fun H locs hw => ?_)
  refine lv_aload_n hx hb dX11_init_89 rfl (lv_at hl 0 rfl) ?_
  refine lv_bipush (v := (-9)) hx hb dX11_init_90 (by decide) ?_
  refine g_putv (C := RX11) (T := TX11) (N := 34) (ci := 11) F hinX11 tyX11 tyX11_ok nmX11 hw 9 rfl rfl 14 (by decide) kf37 rfl (fy := .int) (by decide +kernel) rfl rfl (Nat.le_of_ble_eq_true rfl) (ws1 := (q9, .inl (ty 0, 4, .inl (fun _ => 0))) :: (q8, .inl (ty 0, 4, .inl (fun _ => 0))) :: (q7, .inl (ty 0, 4, .inl (fun _ => 0))) :: (q6, .inl (ty 0, 5, .inl (fun _ => 0))) :: (q5, .inl (ty 0, 5, .inl (fun _ => 0))) :: (q4, .inl (ty 0, 5, .inl (fun _ => 0))) :: (q3, .inl (ty 0, 240, .inl (fun _ => 0))) :: (q2, .inl (ty 0, 4, .inl (fun _ => 0))) :: (q1, .inl (ty 0, 4, .inl (upd (upd (upd (upd (fun _ => 0) (0 : Int32).toNatClampNeg (-9)) (1 : Int32).toNatClampNeg (-9)) (2 : Int32).toNatClampNeg (-9)) (3 : Int32).toNatClampNeg (-9)))) :: (a, .inr (11, [.int 0, .int 0, .ref q1, .ref q2, .ref q3, .int 0, .int 0, .int 0, .ref q4, .ref q5, .ref q6, .ref q7, .ref q8, .ref q9, .int (-9), .int 0, .int 0, .int 0, .null, .null, .int 0, .null, .null, .null, .null, .null, .null, .null, .int 0, .int 0, .int 0, .int 0, .null, .null])) :: wr) rfl dX11_init_92 (fun H locs hw => ?_)
  refine lv_aload_n hx hb dX11_init_95 rfl (lv_at hl 0 rfl) ?_
  refine lv_bipush (v := 15) hx hb dX11_init_96 (by decide) ?_
  refine g_newa (N' := 15) F karr hw (by decide) (by decide) (by decide) (Nat.le_of_ble_eq_true rfl) (Nat.le_of_ble_eq_true rfl) dX11_init_98 (fun q10 H hw => ?_)
  refine g_putF (C := RX11) (T := TX11) (N := 34) (ci := 11) F hinX11 tyX11 tyX11_ok nmX11 hnmi hw 10 rfl rfl 18 (by decide) kf41 rfl rfl (fy := .array .int) (by decide +kernel) rfl rfl (Nat.le_of_ble_eq_true rfl) (ws1 := (q10, .inl (ty 0, 15, .inl (fun _ => 0))) :: (q9, .inl (ty 0, 4, .inl (fun _ => 0))) :: (q8, .inl (ty 0, 4, .inl (fun _ => 0))) :: (q7, .inl (ty 0, 4, .inl (fun _ => 0))) :: (q6, .inl (ty 0, 5, .inl (fun _ => 0))) :: (q5, .inl (ty 0, 5, .inl (fun _ => 0))) :: (q4, .inl (ty 0, 5, .inl (fun _ => 0))) :: (q3, .inl (ty 0, 240, .inl (fun _ => 0))) :: (q2, .inl (ty 0, 4, .inl (fun _ => 0))) :: (q1, .inl (ty 0, 4, .inl (upd (upd (upd (upd (fun _ => 0) (0 : Int32).toNatClampNeg (-9)) (1 : Int32).toNatClampNeg (-9)) (2 : Int32).toNatClampNeg (-9)) (3 : Int32).toNatClampNeg (-9)))) :: (a, .inr (11, [.int 0, .int 0, .ref q1, .ref q2, .ref q3, .int 0, .int 0, .int 0, .ref q4, .ref q5, .ref q6, .ref q7, .ref q8, .ref q9, .int (-9), .int 0, .int 0, .int 0, .ref q10, .null, .int 0, .null, .null, .null, .null, .null, .null, .null, .int 0, .int 0, .int 0, .int 0, .null, .null])) :: wr) rfl dX11_init_100 (fun H locs hw => ?_)
  refine lv_aload_n hx hb dX11_init_103 rfl (lv_at hl 0 rfl) ?_
  refine lv_bipush (v := 12) hx hb dX11_init_104 (by decide) ?_
  refine g_newa (N' := 12) F karr hw (by decide) (by decide) (by decide) (Nat.le_of_ble_eq_true rfl) (Nat.le_of_ble_eq_true rfl) dX11_init_106 (fun q11 H hw => ?_)
  refine g_putF (C := RX11) (T := TX11) (N := 34) (ci := 11) F hinX11 tyX11 tyX11_ok nmX11 hnmi hw 11 rfl rfl 19 (by decide) kf44 rfl rfl (fy := .array .int) (by decide +kernel) rfl rfl (Nat.le_of_ble_eq_true rfl) (ws1 := (q11, .inl (ty 0, 12, .inl (fun _ => 0))) :: (q10, .inl (ty 0, 15, .inl (fun _ => 0))) :: (q9, .inl (ty 0, 4, .inl (fun _ => 0))) :: (q8, .inl (ty 0, 4, .inl (fun _ => 0))) :: (q7, .inl (ty 0, 4, .inl (fun _ => 0))) :: (q6, .inl (ty 0, 5, .inl (fun _ => 0))) :: (q5, .inl (ty 0, 5, .inl (fun _ => 0))) :: (q4, .inl (ty 0, 5, .inl (fun _ => 0))) :: (q3, .inl (ty 0, 240, .inl (fun _ => 0))) :: (q2, .inl (ty 0, 4, .inl (fun _ => 0))) :: (q1, .inl (ty 0, 4, .inl (upd (upd (upd (upd (fun _ => 0) (0 : Int32).toNatClampNeg (-9)) (1 : Int32).toNatClampNeg (-9)) (2 : Int32).toNatClampNeg (-9)) (3 : Int32).toNatClampNeg (-9)))) :: (a, .inr (11, [.int 0, .int 0, .ref q1, .ref q2, .ref q3, .int 0, .int 0, .int 0, .ref q4, .ref q5, .ref q6, .ref q7, .ref q8, .ref q9, .int (-9), .int 0, .int 0, .int 0, .ref q10, .ref q11, .int 0, .null, .null, .null, .null, .null, .null, .null, .int 0, .int 0, .int 0, .int 0, .null, .null])) :: wr) rfl dX11_init_108 (fun H locs hw => ?_)
  refine lv_aload_n hx hb dX11_init_111 rfl (lv_at hl 0 rfl) ?_
  refine lv_bipush (v := 12) hx hb dX11_init_112 (by decide) ?_
  refine g_newa (N' := 12) F karr hw (by decide) (by decide) (by decide) (Nat.le_of_ble_eq_true rfl) (Nat.le_of_ble_eq_true rfl) dX11_init_114 (fun q12 H hw => ?_)
  refine g_putF (C := RX11) (T := TX11) (N := 34) (ci := 11) F hinX11 tyX11 tyX11_ok nmX11 hnmi hw 12 rfl rfl 21 (by decide) kf47 rfl rfl (fy := .array .int) (by decide +kernel) rfl rfl (Nat.le_of_ble_eq_true rfl) (ws1 := (q12, .inl (ty 0, 12, .inl (fun _ => 0))) :: (q11, .inl (ty 0, 12, .inl (fun _ => 0))) :: (q10, .inl (ty 0, 15, .inl (fun _ => 0))) :: (q9, .inl (ty 0, 4, .inl (fun _ => 0))) :: (q8, .inl (ty 0, 4, .inl (fun _ => 0))) :: (q7, .inl (ty 0, 4, .inl (fun _ => 0))) :: (q6, .inl (ty 0, 5, .inl (fun _ => 0))) :: (q5, .inl (ty 0, 5, .inl (fun _ => 0))) :: (q4, .inl (ty 0, 5, .inl (fun _ => 0))) :: (q3, .inl (ty 0, 240, .inl (fun _ => 0))) :: (q2, .inl (ty 0, 4, .inl (fun _ => 0))) :: (q1, .inl (ty 0, 4, .inl (upd (upd (upd (upd (fun _ => 0) (0 : Int32).toNatClampNeg (-9)) (1 : Int32).toNatClampNeg (-9)) (2 : Int32).toNatClampNeg (-9)) (3 : Int32).toNatClampNeg (-9)))) :: (a, .inr (11, [.int 0, .int 0, .ref q1, .ref q2, .ref q3, .int 0, .int 0, .int 0, .ref q4, .ref q5, .ref q6, .ref q7, .ref q8, .ref q9, .int (-9), .int 0, .int 0, .int 0, .ref q10, .ref q11, .int 0, .ref q12, .null, .null, .null, .null, .null, .null, .int 0, .int 0, .int 0, .int 0, .null, .null])) :: wr) rfl dX11_init_116 (fun H locs hw => ?_)
  refine lv_aload_n hx hb dX11_init_119 rfl (lv_at hl 0 rfl) ?_
  refine lv_bipush (v := 12) hx hb dX11_init_120 (by decide) ?_
  refine g_newa (N' := 12) F karr hw (by decide) (by decide) (by decide) (Nat.le_of_ble_eq_true rfl) (Nat.le_of_ble_eq_true rfl) dX11_init_122 (fun q13 H hw => ?_)
  refine g_putF (C := RX11) (T := TX11) (N := 34) (ci := 11) F hinX11 tyX11 tyX11_ok nmX11 hnmi hw 13 rfl rfl 22 (by decide) kf50 rfl rfl (fy := .array .int) (by decide +kernel) rfl rfl (Nat.le_of_ble_eq_true rfl) (ws1 := (q13, .inl (ty 0, 12, .inl (fun _ => 0))) :: (q12, .inl (ty 0, 12, .inl (fun _ => 0))) :: (q11, .inl (ty 0, 12, .inl (fun _ => 0))) :: (q10, .inl (ty 0, 15, .inl (fun _ => 0))) :: (q9, .inl (ty 0, 4, .inl (fun _ => 0))) :: (q8, .inl (ty 0, 4, .inl (fun _ => 0))) :: (q7, .inl (ty 0, 4, .inl (fun _ => 0))) :: (q6, .inl (ty 0, 5, .inl (fun _ => 0))) :: (q5, .inl (ty 0, 5, .inl (fun _ => 0))) :: (q4, .inl (ty 0, 5, .inl (fun _ => 0))) :: (q3, .inl (ty 0, 240, .inl (fun _ => 0))) :: (q2, .inl (ty 0, 4, .inl (fun _ => 0))) :: (q1, .inl (ty 0, 4, .inl (upd (upd (upd (upd (fun _ => 0) (0 : Int32).toNatClampNeg (-9)) (1 : Int32).toNatClampNeg (-9)) (2 : Int32).toNatClampNeg (-9)) (3 : Int32).toNatClampNeg (-9)))) :: (a, .inr (11, [.int 0, .int 0, .ref q1, .ref q2, .ref q3, .int 0, .int 0, .int 0, .ref q4, .ref q5, .ref q6, .ref q7, .ref q8, .ref q9, .int (-9), .int 0, .int 0, .int 0, .ref q10, .ref q11, .int 0, .ref q12, .ref q13, .null, .null, .null, .null, .null, .int 0, .int 0, .int 0, .int 0, .null, .null])) :: wr) rfl dX11_init_124 (fun H locs hw => ?_)
  refine lv_aload_n hx hb dX11_init_127 rfl (lv_at hl 0 rfl) ?_
  refine lv_bipush (v := 12) hx hb dX11_init_128 (by decide) ?_
  refine g_newa (N' := 12) F karr hw (by decide) (by decide) (by decide) (Nat.le_of_ble_eq_true rfl) (Nat.le_of_ble_eq_true rfl) dX11_init_130 (fun q14 H hw => ?_)
  refine g_putF (C := RX11) (T := TX11) (N := 34) (ci := 11) F hinX11 tyX11 tyX11_ok nmX11 hnmi hw 14 rfl rfl 23 (by decide) kf53 rfl rfl (fy := .array .int) (by decide +kernel) rfl rfl (Nat.le_of_ble_eq_true rfl) (ws1 := (q14, .inl (ty 0, 12, .inl (fun _ => 0))) :: (q13, .inl (ty 0, 12, .inl (fun _ => 0))) :: (q12, .inl (ty 0, 12, .inl (fun _ => 0))) :: (q11, .inl (ty 0, 12, .inl (fun _ => 0))) :: (q10, .inl (ty 0, 15, .inl (fun _ => 0))) :: (q9, .inl (ty 0, 4, .inl (fun _ => 0))) :: (q8, .inl (ty 0, 4, .inl (fun _ => 0))) :: (q7, .inl (ty 0, 4, .inl (fun _ => 0))) :: (q6, .inl (ty 0, 5, .inl (fun _ => 0))) :: (q5, .inl (ty 0, 5, .inl (fun _ => 0))) :: (q4, .inl (ty 0, 5, .inl (fun _ => 0))) :: (q3, .inl (ty 0, 240, .inl (fun _ => 0))) :: (q2, .inl (ty 0, 4, .inl (fun _ => 0))) :: (q1, .inl (ty 0, 4, .inl (upd (upd (upd (upd (fun _ => 0) (0 : Int32).toNatClampNeg (-9)) (1 : Int32).toNatClampNeg (-9)) (2 : Int32).toNatClampNeg (-9)) (3 : Int32).toNatClampNeg (-9)))) :: (a, .inr (11, [.int 0, .int 0, .ref q1, .ref q2, .ref q3, .int 0, .int 0, .int 0, .ref q4, .ref q5, .ref q6, .ref q7, .ref q8, .ref q9, .int (-9), .int 0, .int 0, .int 0, .ref q10, .ref q11, .int 0, .ref q12, .ref q13, .ref q14, .null, .null, .null, .null, .int 0, .int 0, .int 0, .int 0, .null, .null])) :: wr) rfl dX11_init_132 (fun H locs hw => ?_)
  refine lv_aload_n hx hb dX11_init_135 rfl (lv_at hl 0 rfl) ?_
  refine lv_sipush (v := 160) hx hb dX11_init_136 (by decide) ?_
  refine g_newa (N' := 160) F karr hw (by decide) (by decide) (by decide) (Nat.le_of_ble_eq_true rfl) (Nat.le_of_ble_eq_true rfl) dX11_init_139 (fun q15 H hw => ?_)
  refine g_putF (C := RX11) (T := TX11) (N := 34) (ci := 11) F hinX11 tyX11 tyX11_ok nmX11 hnmi hw 15 rfl rfl 24 (by decide) kf56 rfl rfl (fy := .array .int) (by decide +kernel) rfl rfl (Nat.le_of_ble_eq_true rfl) (ws1 := (q15, .inl (ty 0, 160, .inl (fun _ => 0))) :: (q14, .inl (ty 0, 12, .inl (fun _ => 0))) :: (q13, .inl (ty 0, 12, .inl (fun _ => 0))) :: (q12, .inl (ty 0, 12, .inl (fun _ => 0))) :: (q11, .inl (ty 0, 12, .inl (fun _ => 0))) :: (q10, .inl (ty 0, 15, .inl (fun _ => 0))) :: (q9, .inl (ty 0, 4, .inl (fun _ => 0))) :: (q8, .inl (ty 0, 4, .inl (fun _ => 0))) :: (q7, .inl (ty 0, 4, .inl (fun _ => 0))) :: (q6, .inl (ty 0, 5, .inl (fun _ => 0))) :: (q5, .inl (ty 0, 5, .inl (fun _ => 0))) :: (q4, .inl (ty 0, 5, .inl (fun _ => 0))) :: (q3, .inl (ty 0, 240, .inl (fun _ => 0))) :: (q2, .inl (ty 0, 4, .inl (fun _ => 0))) :: (q1, .inl (ty 0, 4, .inl (upd (upd (upd (upd (fun _ => 0) (0 : Int32).toNatClampNeg (-9)) (1 : Int32).toNatClampNeg (-9)) (2 : Int32).toNatClampNeg (-9)) (3 : Int32).toNatClampNeg (-9)))) :: (a, .inr (11, [.int 0, .int 0, .ref q1, .ref q2, .ref q3, .int 0, .int 0, .int 0, .ref q4, .ref q5, .ref q6, .ref q7, .ref q8, .ref q9, .int (-9), .int 0, .int 0, .int 0, .ref q10, .ref q11, .int 0, .ref q12, .ref q13, .ref q14, .ref q15, .null, .null, .null, .int 0, .int 0, .int 0, .int 0, .null, .null])) :: wr) rfl dX11_init_141 (fun H locs hw => ?_)
  refine lv_aload_n hx hb dX11_init_144 rfl (lv_at hl 0 rfl) ?_
  refine lv_iconst (v := 4) hx hb dX11_init_145 (by decide) ?_
  refine g_newa (N' := 4) F karr hw (by decide) (by decide) (by decide) (Nat.le_of_ble_eq_true rfl) (Nat.le_of_ble_eq_true rfl) dX11_init_146 (fun q16 H hw => ?_)
  refine g_putF (C := RX11) (T := TX11) (N := 34) (ci := 11) F hinX11 tyX11 tyX11_ok nmX11 hnmi hw 16 rfl rfl 25 (by decide) kf59 rfl rfl (fy := .array .int) (by decide +kernel) rfl rfl (Nat.le_of_ble_eq_true rfl) (ws1 := (q16, .inl (ty 0, 4, .inl (fun _ => 0))) :: (q15, .inl (ty 0, 160, .inl (fun _ => 0))) :: (q14, .inl (ty 0, 12, .inl (fun _ => 0))) :: (q13, .inl (ty 0, 12, .inl (fun _ => 0))) :: (q12, .inl (ty 0, 12, .inl (fun _ => 0))) :: (q11, .inl (ty 0, 12, .inl (fun _ => 0))) :: (q10, .inl (ty 0, 15, .inl (fun _ => 0))) :: (q9, .inl (ty 0, 4, .inl (fun _ => 0))) :: (q8, .inl (ty 0, 4, .inl (fun _ => 0))) :: (q7, .inl (ty 0, 4, .inl (fun _ => 0))) :: (q6, .inl (ty 0, 5, .inl (fun _ => 0))) :: (q5, .inl (ty 0, 5, .inl (fun _ => 0))) :: (q4, .inl (ty 0, 5, .inl (fun _ => 0))) :: (q3, .inl (ty 0, 240, .inl (fun _ => 0))) :: (q2, .inl (ty 0, 4, .inl (fun _ => 0))) :: (q1, .inl (ty 0, 4, .inl (upd (upd (upd (upd (fun _ => 0) (0 : Int32).toNatClampNeg (-9)) (1 : Int32).toNatClampNeg (-9)) (2 : Int32).toNatClampNeg (-9)) (3 : Int32).toNatClampNeg (-9)))) :: (a, .inr (11, [.int 0, .int 0, .ref q1, .ref q2, .ref q3, .int 0, .int 0, .int 0, .ref q4, .ref q5, .ref q6, .ref q7, .ref q8, .ref q9, .int (-9), .int 0, .int 0, .int 0, .ref q10, .ref q11, .int 0, .ref q12, .ref q13, .ref q14, .ref q15, .ref q16, .null, .null, .int 0, .int 0, .int 0, .int 0, .null, .null])) :: wr) rfl dX11_init_148 (fun H locs hw => ?_)
  refine lv_aload_n hx hb dX11_init_151 rfl (lv_at hl 0 rfl) ?_
  refine lv_iconst (v := 4) hx hb dX11_init_152 (by decide) ?_
  refine g_newa (N' := 4) F karr hw (by decide) (by decide) (by decide) (Nat.le_of_ble_eq_true rfl) (Nat.le_of_ble_eq_true rfl) dX11_init_153 (fun q17 H hw => ?_)
  refine g_putF (C := RX11) (T := TX11) (N := 34) (ci := 11) F hinX11 tyX11 tyX11_ok nmX11 hnmi hw 17 rfl rfl 26 (by decide) kf62 rfl rfl (fy := .array .int) (by decide +kernel) rfl rfl (Nat.le_of_ble_eq_true rfl) (ws1 := (q17, .inl (ty 0, 4, .inl (fun _ => 0))) :: (q16, .inl (ty 0, 4, .inl (fun _ => 0))) :: (q15, .inl (ty 0, 160, .inl (fun _ => 0))) :: (q14, .inl (ty 0, 12, .inl (fun _ => 0))) :: (q13, .inl (ty 0, 12, .inl (fun _ => 0))) :: (q12, .inl (ty 0, 12, .inl (fun _ => 0))) :: (q11, .inl (ty 0, 12, .inl (fun _ => 0))) :: (q10, .inl (ty 0, 15, .inl (fun _ => 0))) :: (q9, .inl (ty 0, 4, .inl (fun _ => 0))) :: (q8, .inl (ty 0, 4, .inl (fun _ => 0))) :: (q7, .inl (ty 0, 4, .inl (fun _ => 0))) :: (q6, .inl (ty 0, 5, .inl (fun _ => 0))) :: (q5, .inl (ty 0, 5, .inl (fun _ => 0))) :: (q4, .inl (ty 0, 5, .inl (fun _ => 0))) :: (q3, .inl (ty 0, 240, .inl (fun _ => 0))) :: (q2, .inl (ty 0, 4, .inl (fun _ => 0))) :: (q1, .inl (ty 0, 4, .inl (upd (upd (upd (upd (fun _ => 0) (0 : Int32).toNatClampNeg (-9)) (1 : Int32).toNatClampNeg (-9)) (2 : Int32).toNatClampNeg (-9)) (3 : Int32).toNatClampNeg (-9)))) :: (a, .inr (11, [.int 0, .int 0, .ref q1, .ref q2, .ref q3, .int 0, .int 0, .int 0, .ref q4, .ref q5, .ref q6, .ref q7, .ref q8, .ref q9, .int (-9), .int 0, .int 0, .int 0, .ref q10, .ref q11, .int 0, .ref q12, .ref q13, .ref q14, .ref q15, .ref q16, .ref q17, .null, .int 0, .int 0, .int 0, .int 0, .null, .null])) :: wr) rfl dX11_init_155 (fun H locs hw => ?_)
  refine lv_aload_n hx hb dX11_init_158 rfl (lv_at hl 0 rfl) ?_
  refine lv_iconst (v := 5) hx hb dX11_init_159 (by decide) ?_
  refine g_newa (N' := 5) F karr hw (by decide) (by decide) (by decide) (Nat.le_of_ble_eq_true rfl) (Nat.le_of_ble_eq_true rfl) dX11_init_160 (fun q18 H hw => ?_)
  refine g_putF (C := RX11) (T := TX11) (N := 34) (ci := 11) F hinX11 tyX11 tyX11_ok nmX11 hnmi hw 18 rfl rfl 27 (by decide) kf65 rfl rfl (fy := .array .int) (by decide +kernel) rfl rfl (Nat.le_of_ble_eq_true rfl) (ws1 := (q18, .inl (ty 0, 5, .inl (fun _ => 0))) :: (q17, .inl (ty 0, 4, .inl (fun _ => 0))) :: (q16, .inl (ty 0, 4, .inl (fun _ => 0))) :: (q15, .inl (ty 0, 160, .inl (fun _ => 0))) :: (q14, .inl (ty 0, 12, .inl (fun _ => 0))) :: (q13, .inl (ty 0, 12, .inl (fun _ => 0))) :: (q12, .inl (ty 0, 12, .inl (fun _ => 0))) :: (q11, .inl (ty 0, 12, .inl (fun _ => 0))) :: (q10, .inl (ty 0, 15, .inl (fun _ => 0))) :: (q9, .inl (ty 0, 4, .inl (fun _ => 0))) :: (q8, .inl (ty 0, 4, .inl (fun _ => 0))) :: (q7, .inl (ty 0, 4, .inl (fun _ => 0))) :: (q6, .inl (ty 0, 5, .inl (fun _ => 0))) :: (q5, .inl (ty 0, 5, .inl (fun _ => 0))) :: (q4, .inl (ty 0, 5, .inl (fun _ => 0))) :: (q3, .inl (ty 0, 240, .inl (fun _ => 0))) :: (q2, .inl (ty 0, 4, .inl (fun _ => 0))) :: (q1, .inl (ty 0, 4, .inl (upd (upd (upd (upd (fun _ => 0) (0 : Int32).toNatClampNeg (-9)) (1 : Int32).toNatClampNeg (-9)) (2 : Int32).toNatClampNeg (-9)) (3 : Int32).toNatClampNeg (-9)))) :: (a, .inr (11, [.int 0, .int 0, .ref q1, .ref q2, .ref q3, .int 0, .int 0, .int 0, .ref q4, .ref q5, .ref q6, .ref q7, .ref q8, .ref q9, .int (-9), .int 0, .int 0, .int 0, .ref q10, .ref q11, .int 0, .ref q12, .ref q13, .ref q14, .ref q15, .ref q16, .ref q17, .ref q18, .int 0, .int 0, .int 0, .int 0, .null, .null])) :: wr) rfl dX11_init_162 (fun H locs hw => ?_)
  refine lv_aload_n hx hb dX11_init_165 rfl (lv_at hl 0 rfl) ?_
  refine lv_bipush (v := 8) hx hb dX11_init_166 (by decide) ?_
  refine g_newa (N' := 8) F karr hw (by decide) (by decide) (by decide) (Nat.le_of_ble_eq_true rfl) (Nat.le_of_ble_eq_true rfl) dX11_init_168 (fun q19 H hw => ?_)
  refine g_putF (C := RX11) (T := TX11) (N := 34) (ci := 11) F hinX11 tyX11 tyX11_ok nmX11 hnmi hw 19 rfl rfl 32 (by decide) kf68 rfl rfl (fy := .array .int) (by decide +kernel) rfl rfl (Nat.le_of_ble_eq_true rfl) (ws1 := (q19, .inl (ty 0, 8, .inl (fun _ => 0))) :: (q18, .inl (ty 0, 5, .inl (fun _ => 0))) :: (q17, .inl (ty 0, 4, .inl (fun _ => 0))) :: (q16, .inl (ty 0, 4, .inl (fun _ => 0))) :: (q15, .inl (ty 0, 160, .inl (fun _ => 0))) :: (q14, .inl (ty 0, 12, .inl (fun _ => 0))) :: (q13, .inl (ty 0, 12, .inl (fun _ => 0))) :: (q12, .inl (ty 0, 12, .inl (fun _ => 0))) :: (q11, .inl (ty 0, 12, .inl (fun _ => 0))) :: (q10, .inl (ty 0, 15, .inl (fun _ => 0))) :: (q9, .inl (ty 0, 4, .inl (fun _ => 0))) :: (q8, .inl (ty 0, 4, .inl (fun _ => 0))) :: (q7, .inl (ty 0, 4, .inl (fun _ => 0))) :: (q6, .inl (ty 0, 5, .inl (fun _ => 0))) :: (q5, .inl (ty 0, 5, .inl (fun _ => 0))) :: (q4, .inl (ty 0, 5, .inl (fun _ => 0))) :: (q3, .inl (ty 0, 240, .inl (fun _ => 0))) :: (q2, .inl (ty 0, 4, .inl (fun _ => 0))) :: (q1, .inl (ty 0, 4, .inl (upd (upd (upd (upd (fun _ => 0) (0 : Int32).toNatClampNeg (-9)) (1 : Int32).toNatClampNeg (-9)) (2 : Int32).toNatClampNeg (-9)) (3 : Int32).toNatClampNeg (-9)))) :: (a, .inr (11, [.int 0, .int 0, .ref q1, .ref q2, .ref q3, .int 0, .int 0, .int 0, .ref q4, .ref q5, .ref q6, .ref q7, .ref q8, .ref q9, .int (-9), .int 0, .int 0, .int 0, .ref q10, .ref q11, .int 0, .ref q12, .ref q13, .ref q14, .ref q15, .ref q16, .ref q17, .ref q18, .int 0, .int 0, .int 0, .int 0, .ref q19, .null])) :: wr) rfl dX11_init_170 (fun H locs hw => ?_)
  refine lv_aload_n hx hb dX11_init_173 rfl (lv_at hl 0 rfl) ?_
  refine lv_bipush (v := 8) hx hb dX11_init_174 (by decide) ?_
  refine g_newa (N' := 8) F karr hw (by decide) (by decide) (by decide) (Nat.le_of_ble_eq_true rfl) (Nat.le_of_ble_eq_true rfl) dX11_init_176 (fun q20 H hw => ?_)
  refine g_putF (C := RX11) (T := TX11) (N := 34) (ci := 11) F hinX11 tyX11 tyX11_ok nmX11 hnmi hw 20 rfl rfl 33 (by decide) kf71 rfl rfl (fy := .array .int) (by decide +kernel) rfl rfl (Nat.le_of_ble_eq_true rfl) (ws1 := (q20, .inl (ty 0, 8, .inl (fun _ => 0))) :: (q19, .inl (ty 0, 8, .inl (fun _ => 0))) :: (q18, .inl (ty 0, 5, .inl (fun _ => 0))) :: (q17, .inl (ty 0, 4, .inl (fun _ => 0))) :: (q16, .inl (ty 0, 4, .inl (fun _ => 0))) :: (q15, .inl (ty 0, 160, .inl (fun _ => 0))) :: (q14, .inl (ty 0, 12, .inl (fun _ => 0))) :: (q13, .inl (ty 0, 12, .inl (fun _ => 0))) :: (q12, .inl (ty 0, 12, .inl (fun _ => 0))) :: (q11, .inl (ty 0, 12, .inl (fun _ => 0))) :: (q10, .inl (ty 0, 15, .inl (fun _ => 0))) :: (q9, .inl (ty 0, 4, .inl (fun _ => 0))) :: (q8, .inl (ty 0, 4, .inl (fun _ => 0))) :: (q7, .inl (ty 0, 4, .inl (fun _ => 0))) :: (q6, .inl (ty 0, 5, .inl (fun _ => 0))) :: (q5, .inl (ty 0, 5, .inl (fun _ => 0))) :: (q4, .inl (ty 0, 5, .inl (fun _ => 0))) :: (q3, .inl (ty 0, 240, .inl (fun _ => 0))) :: (q2, .inl (ty 0, 4, .inl (fun _ => 0))) :: (q1, .inl (ty 0, 4, .inl (upd (upd (upd (upd (fun _ => 0) (0 : Int32).toNatClampNeg (-9)) (1 : Int32).toNatClampNeg (-9)) (2 : Int32).toNatClampNeg (-9)) (3 : Int32).toNatClampNeg (-9)))) :: (a, .inr (11, [.int 0, .int 0, .ref q1, .ref q2, .ref q3, .int 0, .int 0, .int 0, .ref q4, .ref q5, .ref q6, .ref q7, .ref q8, .ref q9, .int (-9), .int 0, .int 0, .int 0, .ref q10, .ref q11, .int 0, .ref q12, .ref q13, .ref q14, .ref q15, .ref q16, .ref q17, .ref q18, .int 0, .int 0, .int 0, .int 0, .ref q19, .ref q20])) :: wr) rfl dX11_init_178 (fun H locs hw => ?_)
  refine W.widen (k := 20) (n := 527) (Nat.le_of_ble_eq_true rfl) (Nat.le_of_ble_eq_true rfl) ?_
  exact hret _ _ _ _ _ ⟨q1, q2, q3, q4, q5, q6, q7, q8, q9, q10, q11, q12, q13, q14, q15, q16, q17, q18, q19, q20, rfl⟩ hw dX11_init_181

abbrev rm_ci_X10 : Room := { frames := 2, cells := 26, slots := 399, locals := 40 }
set_option maxHeartbeats 4000000 in
set_option maxRecDepth 100000 in
theorem ci_X10 {l : Launch} {D : va_G} {ty : gT} {A : Nat → Prop} {a : Nat} {wr : va_W} : gM l D ty A yX10_init wsX10_init rm_ci_X10 [.ref a] ((a, .inr (10, [.null, .null, .null, .null, .null, .int 0])) :: wr) (fun u => ∃ q1 q2 q3 q4 q5 q6 q7 q8 q9 q10 q11 q12 q13 q14 q15 q16 q17 q18 q19 q20 q21 q22 q23 q24 q25 q26 : Nat, u = (q26, .inl (ty 0, 60, .inl (fun _ => 0))) :: (q25, .inr (4, [.ref q26, .int (-1), .int 0])) :: (q24, .inl (ty 0, 60, .inl (fun _ => 0))) :: (q23, .inr (4, [.ref q24, .int (-1), .int 0])) :: (q22, .inl (ty 0, 60, .inl (fun _ => 0))) :: (q21, .inr (4, [.ref q22, .int (-1), .int 0])) :: (q20, .inl (ty 0, 60, .inl (fun _ => 0))) :: (q19, .inr (4, [.ref q20, .int (-1), .int 0])) :: (q18, .inr (9, [.int 0])) :: (q17, .inl (ty 0, 8, .inl (fun _ => 0))) :: (q16, .inl (ty 0, 8, .inl (fun _ => 0))) :: (q15, .inr (2, [.ref q16, .ref q17, .int 0])) :: (q14, .inl (ty 0, 4, .inl (fun _ => 0))) :: (q13, .inl (ty 0, 4, .inl (fun _ => 0))) :: (q12, .inl (ty 0, 12, .inl (fun _ => 0))) :: (q11, .inl (ty 0, 12, .inl (fun _ => 0))) :: (q10, .inl (ty 0, 12, .inl (fun _ => 0))) :: (q9, .inl (ty 0, 12, .inl (fun _ => 0))) :: (q8, .inr (3, [.ref q9, .ref q10, .ref q11, .ref q12, .int 0, .int (-9), .ref q13, .ref q14])) :: (q7, .inl (ty 0, 8, .inl (fun _ => 0))) :: (q6, .inl (ty 0, 40, .inl (fun _ => 0))) :: (q5, .inl (ty 0, 5, .inl (fun _ => 0))) :: (q4, .inl (ty 3, 0, .inr (.inr (.inr (.inr (fun _ => none)))))) :: (q3, .inl (ty 1, 0, .inr (.inr (.inr (.inr (fun _ => none)))))) :: (q2, .inr (8, [.ref q3, .ref q4, .int 0, .ref q5, .ref q6, .ref q7])) :: (q1, .inl (ty 2, 4, .inr (.inr (.inr (.inr (va_up (va_up (va_up (va_up (fun _ => none) (0 : Int32).toNatClampNeg (some q19)) (1 : Int32).toNatClampNeg (some q21)) (2 : Int32).toNatClampNeg (some q23)) (3 : Int32).toNatClampNeg (some q25))))))) :: (a, .inr (10, [.ref q1, .ref q2, .ref q8, .ref q15, .ref q18, .int 0])) :: wr) 26 399 := by
  refine gM_enter (cc := cX10_init) (maxL := 2) (by decide) rfl (Nat.le_of_ble_eq_true rfl) ?_
  intro p e s m args below meth c Q ls hnmi F hl hw hret
  have hnmi : meth.name = "<init>" := hnmi
  have F : CallFix p m c cX10_init 2 s args wsX10_init RX10 := F
  obtain ⟨hx, hb, hml, hown, hts⟩ := id F
  have hl : lv_has ls 2 [(0, .ref a)] := hl
  have hinX10 : ∀ w ∈ wsX100, w ∈ wsX10_init := by first | exact fun w h => List.mem_cons_of_mem _ (List.mem_append_left _ (List.mem_append_left _ (List.mem_append_left _ (List.mem_append_left _ (List.mem_append_left _ (List.mem_append_right _ h)))))) | decide +kernel
  have hinX2 : ∀ w ∈ wsX20, w ∈ wsX10_init := by first | exact fun w h => List.mem_cons_of_mem _ (List.mem_append_left _ (List.mem_append_left _ (List.mem_append_right _ h))) | decide +kernel
  have hinX3 : ∀ w ∈ wsX30, w ∈ wsX10_init := by first | exact fun w h => List.mem_cons_of_mem _ (List.mem_append_left _ (List.mem_append_left _ (List.mem_append_left _ (List.mem_append_right _ h)))) | decide +kernel
  have hinX4 : ∀ w ∈ wsX40, w ∈ wsX10_init := by first | exact fun w h => List.mem_cons_of_mem _ (List.mem_append_right _ h) | decide +kernel
  have hinX8 : ∀ w ∈ wsX80, w ∈ wsX10_init := by first | exact fun w h => List.mem_cons_of_mem _ (List.mem_append_left _ (List.mem_append_left _ (List.mem_append_left _ (List.mem_append_left _ (List.mem_append_right _ h))))) | decide +kernel
  have hinX9 : ∀ w ∈ wsX90, w ∈ wsX10_init := by first | exact fun w h => List.mem_cons_of_mem _ (List.mem_append_left _ (List.mem_append_right _ h)) | decide +kernel
  have kO := hts (.methodLink RX10 3 objectInit) (by decide +kernel)
  have kOc := hts (.code objectInit ⟨#[0xb1]⟩ 1 none) (by decide +kernel)
  have kOi := hts (.instanceMethod objectInit) (by decide +kernel)
  have kcl11 := hts (.classLink RX10 11 RX4) (by decide +kernel)
  have kcl17 := hts (.classLink RX10 17 RX8) (by decide +kernel)
  have kcl24 := hts (.classLink RX10 24 RX3) (by decide +kernel)
  have kcl31 := hts (.classLink RX10 31 RX2) (by decide +kernel)
  have kcl38 := hts (.classLink RX10 38 RX9) (by decide +kernel)
  have kf13 := hts (.fieldLink RX10 13 "GossipGate" "rows" "[LGossipGate$Row;") (by decide +kernel)
  have kf20 := hts (.fieldLink RX10 20 "GossipGate" "theTown" "LGossipGate$Town;") (by decide +kernel)
  have kf27 := hts (.fieldLink RX10 27 "GossipGate" "route" "LGossipGate$Route;") (by decide +kernel)
  have kf34 := hts (.fieldLink RX10 34 "GossipGate" "readings" "LGossipGate$Readings;") (by decide +kernel)
  have kf41 := hts (.fieldLink RX10 41 "GossipGate" "steps" "LGossipGate$Trace;") (by decide +kernel)
  have kf45 := hts (.fieldLink RX10 45 "GossipGate" "latestFault" "I") (by decide +kernel)
  have kimX2_init := hts (.instanceMethod yX2_init) (by decide +kernel)
  have kimX3_init := hts (.instanceMethod yX3_init) (by decide +kernel)
  have kimX4_init := hts (.instanceMethod yX4_init) (by decide +kernel)
  have kimX8_init := hts (.instanceMethod yX8_init) (by decide +kernel)
  have kimX9_init := hts (.instanceMethod yX9_init) (by decide +kernel)
  have kinX2 := hts (.instantiable RX2 3) (by decide +kernel)
  have kinX3 := hts (.instantiable RX3 8) (by decide +kernel)
  have kinX4 := hts (.instantiable RX4 3) (by decide +kernel)
  have kinX8 := hts (.instantiable RX8 6) (by decide +kernel)
  have kinX9 := hts (.instantiable RX9 1) (by decide +kernel)
  have kitX2 := hts (.initialized RX2) (by decide +kernel)
  have kitX3 := hts (.initialized RX3) (by decide +kernel)
  have kitX4 := hts (.initialized RX4) (by decide +kernel)
  have kitX8 := hts (.initialized RX8) (by decide +kernel)
  have kitX9 := hts (.initialized RX9) (by decide +kernel)
  refine lv_aload_n hx hb dX10_init_0 rfl (lv_at hl 0 rfl) ?_
  refine W.objInit hx hb hown kO kOi kOc rfl (by rw [hml]; exact hl.1) rfl dX10_init_1 (Nat.le_of_ble_eq_true rfl) (Nat.le_of_ble_eq_true rfl) ?_
  refine W.eq (g2 := F0 m 4 ls []) rfl ?_
  refine lv_aload_n hx hb dX10_init_4 rfl (lv_at hl 0 rfl) ?_
  refine lv_iconst (v := 4) hx hb dX10_init_5 (by decide) ?_
  refine g_newq (N' := 4) (t := 2) F kcl11 hw.2.2.2.2.2.2.2.2.1.2.1 hw rfl (by decide) (by decide) (by decide) (Nat.le_of_ble_eq_true rfl) (Nat.le_of_ble_eq_true rfl) dX10_init_6 (fun q1 H hw => ?_)
  refine g_putF (C := RX10) (T := TX10) (N := 6) (ci := 10) F hinX10 tyX10 tyX10_ok nmX10 hnmi hw 1 rfl rfl 0 (by decide) kf13 rfl rfl (fy := .array (.object "GossipGate$Row")) (by decide +kernel) rfl rfl (Nat.le_of_ble_eq_true rfl) (ws1 := (q1, .inl (ty 2, 4, .inr (.inr (.inr (.inr (fun _ => none)))))) :: (a, .inr (10, [.ref q1, .null, .null, .null, .null, .int 0])) :: wr) rfl dX10_init_9 (fun H locs hw => ?_)
  refine lv_aload_n hx hb dX10_init_12 rfl (lv_at hl 0 rfl) ?_
  refine g_new (C := RX8) (T := TX8) (N := 6) (ci := 8) (fs := [.null, .null, .int 0, .null, .null, .null]) F hinX8 tyX8 tyX8_ok kcl17 kinX8 kitX8 hw rfl (fun j hj => by rcases (show j = 0 ∨ j = 1 ∨ j = 2 ∨ j = 3 ∨ j = 4 ∨ j = 5 by omega) with rfl | rfl | rfl | rfl | rfl | rfl <;> rfl) (Nat.le_of_ble_eq_true rfl) (Nat.le_of_ble_eq_true rfl) dX10_init_13 (fun q2 H hw => ?_)
  refine lv_dup hx hb dX10_init_16 rfl ?_
  refine g_mC (va_runIN F (As := []) (rest := [.ref q2, .ref a]) (ci_X8 (wr := ((q1, .inl (ty 2, 4, .inr (.inr (.inr (.inr (fun _ => none)))))) :: (a, .inr (10, [.ref q1, .null, .null, .null, .null, .int 0])) :: wr))) ⟨va_cnB 0 hts gX10_init_X8_init_n19 rfl rfl rfl hw.2.2.2.2.2.2.2.2.2.1 kitX8 (by decide +kernel) ⟨Nat.le_of_ble_eq_true rfl, Nat.le_of_ble_eq_true rfl⟩, rfl, kimX8_init⟩ ⟨gO_blind, hw.pre _⟩ rfl rfl hl.1 rfl (lv_room (Nat.le_of_ble_eq_true rfl)) dX10_init_17 ⟨(Nat.le_of_ble_eq_true rfl), (Nat.le_of_ble_eq_true rfl)⟩) hw (fun u H locs hu hw => ?_)
  obtain ⟨q3, q4, q5, q6, q7, rfl⟩ := hu
  refine g_putF (C := RX10) (T := TX10) (N := 6) (ci := 10) F hinX10 tyX10 tyX10_ok nmX10 hnmi hw 7 rfl rfl 1 (by decide) kf20 rfl rfl (fy := .object "GossipGate$Town") (by decide +kernel) rfl rfl (Nat.le_of_ble_eq_true rfl) (ws1 := (q7, .inl (ty 0, 8, .inl (fun _ => 0))) :: (q6, .inl (ty 0, 40, .inl (fun _ => 0))) :: (q5, .inl (ty 0, 5, .inl (fun _ => 0))) :: (q4, .inl (ty 3, 0, .inr (.inr (.inr (.inr (fun _ => none)))))) :: (q3, .inl (ty 1, 0, .inr (.inr (.inr (.inr (fun _ => none)))))) :: (q2, .inr (8, [.ref q3, .ref q4, .int 0, .ref q5, .ref q6, .ref q7])) :: (q1, .inl (ty 2, 4, .inr (.inr (.inr (.inr (fun _ => none)))))) :: (a, .inr (10, [.ref q1, .ref q2, .null, .null, .null, .int 0])) :: wr) rfl dX10_init_20 (fun H locs hw => ?_)
  refine lv_aload_n hx hb dX10_init_23 rfl (lv_at hl 0 rfl) ?_
  refine g_new (C := RX3) (T := TX3) (N := 8) (ci := 3) (fs := [.null, .null, .null, .null, .int 0, .int 0, .null, .null]) F hinX3 tyX3 tyX3_ok kcl24 kinX3 kitX3 hw rfl (fun j hj => by rcases (show j = 0 ∨ j = 1 ∨ j = 2 ∨ j = 3 ∨ j = 4 ∨ j = 5 ∨ j = 6 ∨ j = 7 by omega) with rfl | rfl | rfl | rfl | rfl | rfl | rfl | rfl <;> rfl) (Nat.le_of_ble_eq_true rfl) (Nat.le_of_ble_eq_true rfl) dX10_init_24 (fun q8 H hw => ?_)
  refine lv_dup hx hb dX10_init_27 rfl ?_
  refine g_mC (va_runIN F (As := []) (rest := [.ref q8, .ref a]) (ci_X3 (wr := ((q7, .inl (ty 0, 8, .inl (fun _ => 0))) :: (q6, .inl (ty 0, 40, .inl (fun _ => 0))) :: (q5, .inl (ty 0, 5, .inl (fun _ => 0))) :: (q4, .inl (ty 3, 0, .inr (.inr (.inr (.inr (fun _ => none)))))) :: (q3, .inl (ty 1, 0, .inr (.inr (.inr (.inr (fun _ => none)))))) :: (q2, .inr (8, [.ref q3, .ref q4, .int 0, .ref q5, .ref q6, .ref q7])) :: (q1, .inl (ty 2, 4, .inr (.inr (.inr (.inr (fun _ => none)))))) :: (a, .inr (10, [.ref q1, .ref q2, .null, .null, .null, .int 0])) :: wr))) ⟨va_cnB 0 hts gX10_init_X3_init_n26 rfl rfl rfl hw.2.2.2.2.2.2.2.2.2.2.1 kitX3 (by decide +kernel) ⟨Nat.le_of_ble_eq_true rfl, Nat.le_of_ble_eq_true rfl⟩, rfl, kimX3_init⟩ ⟨gO_blind, hw.pre _⟩ rfl rfl hl.1 rfl (lv_room (Nat.le_of_ble_eq_true rfl)) dX10_init_28 ⟨(Nat.le_of_ble_eq_true rfl), (Nat.le_of_ble_eq_true rfl)⟩) hw (fun u H locs hu hw => ?_)
  obtain ⟨q9, q10, q11, q12, q13, q14, rfl⟩ := hu
  refine g_putF (C := RX10) (T := TX10) (N := 6) (ci := 10) F hinX10 tyX10 tyX10_ok nmX10 hnmi hw 14 rfl rfl 2 (by decide) kf27 rfl rfl (fy := .object "GossipGate$Route") (by decide +kernel) rfl rfl (Nat.le_of_ble_eq_true rfl) (ws1 := (q14, .inl (ty 0, 4, .inl (fun _ => 0))) :: (q13, .inl (ty 0, 4, .inl (fun _ => 0))) :: (q12, .inl (ty 0, 12, .inl (fun _ => 0))) :: (q11, .inl (ty 0, 12, .inl (fun _ => 0))) :: (q10, .inl (ty 0, 12, .inl (fun _ => 0))) :: (q9, .inl (ty 0, 12, .inl (fun _ => 0))) :: (q8, .inr (3, [.ref q9, .ref q10, .ref q11, .ref q12, .int 0, .int (-9), .ref q13, .ref q14])) :: (q7, .inl (ty 0, 8, .inl (fun _ => 0))) :: (q6, .inl (ty 0, 40, .inl (fun _ => 0))) :: (q5, .inl (ty 0, 5, .inl (fun _ => 0))) :: (q4, .inl (ty 3, 0, .inr (.inr (.inr (.inr (fun _ => none)))))) :: (q3, .inl (ty 1, 0, .inr (.inr (.inr (.inr (fun _ => none)))))) :: (q2, .inr (8, [.ref q3, .ref q4, .int 0, .ref q5, .ref q6, .ref q7])) :: (q1, .inl (ty 2, 4, .inr (.inr (.inr (.inr (fun _ => none)))))) :: (a, .inr (10, [.ref q1, .ref q2, .ref q8, .null, .null, .int 0])) :: wr) rfl dX10_init_31 (fun H locs hw => ?_)
  refine lv_aload_n hx hb dX10_init_34 rfl (lv_at hl 0 rfl) ?_
  refine g_new (C := RX2) (T := TX2) (N := 3) (ci := 2) (fs := [.null, .null, .int 0]) F hinX2 tyX2 tyX2_ok kcl31 kinX2 kitX2 hw rfl (fun j hj => by rcases (show j = 0 ∨ j = 1 ∨ j = 2 by omega) with rfl | rfl | rfl <;> rfl) (Nat.le_of_ble_eq_true rfl) (Nat.le_of_ble_eq_true rfl) dX10_init_35 (fun q15 H hw => ?_)
  refine lv_dup hx hb dX10_init_38 rfl ?_
  refine g_mC (va_runIN F (As := []) (rest := [.ref q15, .ref a]) (ci_X2 (wr := ((q14, .inl (ty 0, 4, .inl (fun _ => 0))) :: (q13, .inl (ty 0, 4, .inl (fun _ => 0))) :: (q12, .inl (ty 0, 12, .inl (fun _ => 0))) :: (q11, .inl (ty 0, 12, .inl (fun _ => 0))) :: (q10, .inl (ty 0, 12, .inl (fun _ => 0))) :: (q9, .inl (ty 0, 12, .inl (fun _ => 0))) :: (q8, .inr (3, [.ref q9, .ref q10, .ref q11, .ref q12, .int 0, .int (-9), .ref q13, .ref q14])) :: (q7, .inl (ty 0, 8, .inl (fun _ => 0))) :: (q6, .inl (ty 0, 40, .inl (fun _ => 0))) :: (q5, .inl (ty 0, 5, .inl (fun _ => 0))) :: (q4, .inl (ty 3, 0, .inr (.inr (.inr (.inr (fun _ => none)))))) :: (q3, .inl (ty 1, 0, .inr (.inr (.inr (.inr (fun _ => none)))))) :: (q2, .inr (8, [.ref q3, .ref q4, .int 0, .ref q5, .ref q6, .ref q7])) :: (q1, .inl (ty 2, 4, .inr (.inr (.inr (.inr (fun _ => none)))))) :: (a, .inr (10, [.ref q1, .ref q2, .ref q8, .null, .null, .int 0])) :: wr))) ⟨va_cnB 0 hts gX10_init_X2_init_n33 rfl rfl rfl hw.2.2.2.2.2.2.2.2.2.2.2.1 kitX2 (by decide +kernel) ⟨Nat.le_of_ble_eq_true rfl, Nat.le_of_ble_eq_true rfl⟩, rfl, kimX2_init⟩ ⟨gO_blind, hw.pre _⟩ rfl rfl hl.1 rfl (lv_room (Nat.le_of_ble_eq_true rfl)) dX10_init_39 ⟨(Nat.le_of_ble_eq_true rfl), (Nat.le_of_ble_eq_true rfl)⟩) hw (fun u H locs hu hw => ?_)
  obtain ⟨q16, q17, rfl⟩ := hu
  refine g_putF (C := RX10) (T := TX10) (N := 6) (ci := 10) F hinX10 tyX10 tyX10_ok nmX10 hnmi hw 17 rfl rfl 3 (by decide) kf34 rfl rfl (fy := .object "GossipGate$Readings") (by decide +kernel) rfl rfl (Nat.le_of_ble_eq_true rfl) (ws1 := (q17, .inl (ty 0, 8, .inl (fun _ => 0))) :: (q16, .inl (ty 0, 8, .inl (fun _ => 0))) :: (q15, .inr (2, [.ref q16, .ref q17, .int 0])) :: (q14, .inl (ty 0, 4, .inl (fun _ => 0))) :: (q13, .inl (ty 0, 4, .inl (fun _ => 0))) :: (q12, .inl (ty 0, 12, .inl (fun _ => 0))) :: (q11, .inl (ty 0, 12, .inl (fun _ => 0))) :: (q10, .inl (ty 0, 12, .inl (fun _ => 0))) :: (q9, .inl (ty 0, 12, .inl (fun _ => 0))) :: (q8, .inr (3, [.ref q9, .ref q10, .ref q11, .ref q12, .int 0, .int (-9), .ref q13, .ref q14])) :: (q7, .inl (ty 0, 8, .inl (fun _ => 0))) :: (q6, .inl (ty 0, 40, .inl (fun _ => 0))) :: (q5, .inl (ty 0, 5, .inl (fun _ => 0))) :: (q4, .inl (ty 3, 0, .inr (.inr (.inr (.inr (fun _ => none)))))) :: (q3, .inl (ty 1, 0, .inr (.inr (.inr (.inr (fun _ => none)))))) :: (q2, .inr (8, [.ref q3, .ref q4, .int 0, .ref q5, .ref q6, .ref q7])) :: (q1, .inl (ty 2, 4, .inr (.inr (.inr (.inr (fun _ => none)))))) :: (a, .inr (10, [.ref q1, .ref q2, .ref q8, .ref q15, .null, .int 0])) :: wr) rfl dX10_init_42 (fun H locs hw => ?_)
  refine lv_aload_n hx hb dX10_init_45 rfl (lv_at hl 0 rfl) ?_
  refine g_new (C := RX9) (T := TX9) (N := 1) (ci := 9) (fs := [.int 0]) F hinX9 tyX9 tyX9_ok kcl38 kinX9 kitX9 hw rfl (fun j hj => by rcases (show j = 0 by omega) with rfl <;> rfl) (Nat.le_of_ble_eq_true rfl) (Nat.le_of_ble_eq_true rfl) dX10_init_46 (fun q18 H hw => ?_)
  refine lv_dup hx hb dX10_init_49 rfl ?_
  refine g_mC (va_runIN F (As := []) (rest := [.ref q18, .ref a]) (ci_X9 (wr := ((q17, .inl (ty 0, 8, .inl (fun _ => 0))) :: (q16, .inl (ty 0, 8, .inl (fun _ => 0))) :: (q15, .inr (2, [.ref q16, .ref q17, .int 0])) :: (q14, .inl (ty 0, 4, .inl (fun _ => 0))) :: (q13, .inl (ty 0, 4, .inl (fun _ => 0))) :: (q12, .inl (ty 0, 12, .inl (fun _ => 0))) :: (q11, .inl (ty 0, 12, .inl (fun _ => 0))) :: (q10, .inl (ty 0, 12, .inl (fun _ => 0))) :: (q9, .inl (ty 0, 12, .inl (fun _ => 0))) :: (q8, .inr (3, [.ref q9, .ref q10, .ref q11, .ref q12, .int 0, .int (-9), .ref q13, .ref q14])) :: (q7, .inl (ty 0, 8, .inl (fun _ => 0))) :: (q6, .inl (ty 0, 40, .inl (fun _ => 0))) :: (q5, .inl (ty 0, 5, .inl (fun _ => 0))) :: (q4, .inl (ty 3, 0, .inr (.inr (.inr (.inr (fun _ => none)))))) :: (q3, .inl (ty 1, 0, .inr (.inr (.inr (.inr (fun _ => none)))))) :: (q2, .inr (8, [.ref q3, .ref q4, .int 0, .ref q5, .ref q6, .ref q7])) :: (q1, .inl (ty 2, 4, .inr (.inr (.inr (.inr (fun _ => none)))))) :: (a, .inr (10, [.ref q1, .ref q2, .ref q8, .ref q15, .null, .int 0])) :: wr))) ⟨va_cnB 0 hts gX10_init_X9_init_n40 rfl rfl rfl hw.2.2.2.2.2.2.2.2.2.2.2.2.1 kitX9 (by decide +kernel) ⟨Nat.le_of_ble_eq_true rfl, Nat.le_of_ble_eq_true rfl⟩, rfl, kimX9_init⟩ ⟨gO_blind, hw.pre _⟩ rfl rfl hl.1 rfl (lv_room (Nat.le_of_ble_eq_true rfl)) dX10_init_50 ⟨(Nat.le_of_ble_eq_true rfl), (Nat.le_of_ble_eq_true rfl)⟩) hw (fun u H locs hu hw => ?_)
  subst hu
  refine g_putF (C := RX10) (T := TX10) (N := 6) (ci := 10) F hinX10 tyX10 tyX10_ok nmX10 hnmi hw 18 rfl rfl 4 (by decide) kf41 rfl rfl (fy := .object "GossipGate$Trace") (by decide +kernel) rfl rfl (Nat.le_of_ble_eq_true rfl) (ws1 := (q18, .inr (9, [.int 0])) :: (q17, .inl (ty 0, 8, .inl (fun _ => 0))) :: (q16, .inl (ty 0, 8, .inl (fun _ => 0))) :: (q15, .inr (2, [.ref q16, .ref q17, .int 0])) :: (q14, .inl (ty 0, 4, .inl (fun _ => 0))) :: (q13, .inl (ty 0, 4, .inl (fun _ => 0))) :: (q12, .inl (ty 0, 12, .inl (fun _ => 0))) :: (q11, .inl (ty 0, 12, .inl (fun _ => 0))) :: (q10, .inl (ty 0, 12, .inl (fun _ => 0))) :: (q9, .inl (ty 0, 12, .inl (fun _ => 0))) :: (q8, .inr (3, [.ref q9, .ref q10, .ref q11, .ref q12, .int 0, .int (-9), .ref q13, .ref q14])) :: (q7, .inl (ty 0, 8, .inl (fun _ => 0))) :: (q6, .inl (ty 0, 40, .inl (fun _ => 0))) :: (q5, .inl (ty 0, 5, .inl (fun _ => 0))) :: (q4, .inl (ty 3, 0, .inr (.inr (.inr (.inr (fun _ => none)))))) :: (q3, .inl (ty 1, 0, .inr (.inr (.inr (.inr (fun _ => none)))))) :: (q2, .inr (8, [.ref q3, .ref q4, .int 0, .ref q5, .ref q6, .ref q7])) :: (q1, .inl (ty 2, 4, .inr (.inr (.inr (.inr (fun _ => none)))))) :: (a, .inr (10, [.ref q1, .ref q2, .ref q8, .ref q15, .ref q18, .int 0])) :: wr) rfl dX10_init_53 (fun H locs hw => ?_)
  refine lv_aload_n hx hb dX10_init_56 rfl (lv_at hl 0 rfl) ?_
  refine lv_iconst (v := 0) hx hb dX10_init_57 (by decide) ?_
  refine g_putv (C := RX10) (T := TX10) (N := 6) (ci := 10) F hinX10 tyX10 tyX10_ok nmX10 hw 18 rfl rfl 5 (by decide) kf45 rfl (fy := .int) (by decide +kernel) rfl rfl (Nat.le_of_ble_eq_true rfl) (ws1 := (q18, .inr (9, [.int 0])) :: (q17, .inl (ty 0, 8, .inl (fun _ => 0))) :: (q16, .inl (ty 0, 8, .inl (fun _ => 0))) :: (q15, .inr (2, [.ref q16, .ref q17, .int 0])) :: (q14, .inl (ty 0, 4, .inl (fun _ => 0))) :: (q13, .inl (ty 0, 4, .inl (fun _ => 0))) :: (q12, .inl (ty 0, 12, .inl (fun _ => 0))) :: (q11, .inl (ty 0, 12, .inl (fun _ => 0))) :: (q10, .inl (ty 0, 12, .inl (fun _ => 0))) :: (q9, .inl (ty 0, 12, .inl (fun _ => 0))) :: (q8, .inr (3, [.ref q9, .ref q10, .ref q11, .ref q12, .int 0, .int (-9), .ref q13, .ref q14])) :: (q7, .inl (ty 0, 8, .inl (fun _ => 0))) :: (q6, .inl (ty 0, 40, .inl (fun _ => 0))) :: (q5, .inl (ty 0, 5, .inl (fun _ => 0))) :: (q4, .inl (ty 3, 0, .inr (.inr (.inr (.inr (fun _ => none)))))) :: (q3, .inl (ty 1, 0, .inr (.inr (.inr (.inr (fun _ => none)))))) :: (q2, .inr (8, [.ref q3, .ref q4, .int 0, .ref q5, .ref q6, .ref q7])) :: (q1, .inl (ty 2, 4, .inr (.inr (.inr (.inr (fun _ => none)))))) :: (a, .inr (10, [.ref q1, .ref q2, .ref q8, .ref q15, .ref q18, .int 0])) :: wr) rfl dX10_init_58 (fun H locs hw => ?_)
  refine lv_iconst (v := 0) hx hb dX10_init_61 (by decide) ?_
  refine lv_istore_n (lv' := [(1, .int 0), (0, .ref a)]) hx hb dX10_init_62 rfl hl (by decide) rfl (fun ls hl => ?_)
  refine lv_iload_n hx hb dX10_init_63 rfl (lv_at hl 0 rfl) ?_
  refine lv_iconst (v := 4) hx hb dX10_init_64 (by decide) ?_
  refine lv_icmp_ge (tgt := 87) hx hb dX10_init_65 (by decide) (fun c0 => absurd c0 (by decide)) (fun _ => ?_)
  refine lv_aload_n hx hb dX10_init_68 rfl (lv_at hl 1 rfl) ?_
  refine g_get (C := RX10) (T := TX10) (N := 6) (v := .ref q1) hx hb hts hinX10 hown hw 18 rfl rfl 0 (by decide) kf13 rfl dX10_init_69 ?_
  refine lv_iload_n hx hb dX10_init_72 rfl (lv_at hl 0 rfl) ?_
  refine g_new (C := RX4) (T := TX4) (N := 3) (ci := 4) (fs := [.null, .int 0, .int 0]) F hinX4 tyX4 tyX4_ok kcl11 kinX4 kitX4 hw rfl (fun j hj => by rcases (show j = 0 ∨ j = 1 ∨ j = 2 by omega) with rfl | rfl | rfl <;> rfl) (Nat.le_of_ble_eq_true rfl) (Nat.le_of_ble_eq_true rfl) dX10_init_73 (fun q19 H hw => ?_)
  refine lv_dup hx hb dX10_init_76 rfl ?_
  refine g_mC (va_runIN F (As := []) (rest := [.ref q19, .int 0, .ref q1]) (ci_X4 (wr := ((q18, .inr (9, [.int 0])) :: (q17, .inl (ty 0, 8, .inl (fun _ => 0))) :: (q16, .inl (ty 0, 8, .inl (fun _ => 0))) :: (q15, .inr (2, [.ref q16, .ref q17, .int 0])) :: (q14, .inl (ty 0, 4, .inl (fun _ => 0))) :: (q13, .inl (ty 0, 4, .inl (fun _ => 0))) :: (q12, .inl (ty 0, 12, .inl (fun _ => 0))) :: (q11, .inl (ty 0, 12, .inl (fun _ => 0))) :: (q10, .inl (ty 0, 12, .inl (fun _ => 0))) :: (q9, .inl (ty 0, 12, .inl (fun _ => 0))) :: (q8, .inr (3, [.ref q9, .ref q10, .ref q11, .ref q12, .int 0, .int (-9), .ref q13, .ref q14])) :: (q7, .inl (ty 0, 8, .inl (fun _ => 0))) :: (q6, .inl (ty 0, 40, .inl (fun _ => 0))) :: (q5, .inl (ty 0, 5, .inl (fun _ => 0))) :: (q4, .inl (ty 3, 0, .inr (.inr (.inr (.inr (fun _ => none)))))) :: (q3, .inl (ty 1, 0, .inr (.inr (.inr (.inr (fun _ => none)))))) :: (q2, .inr (8, [.ref q3, .ref q4, .int 0, .ref q5, .ref q6, .ref q7])) :: (q1, .inl (ty 2, 4, .inr (.inr (.inr (.inr (fun _ => none)))))) :: (a, .inr (10, [.ref q1, .ref q2, .ref q8, .ref q15, .ref q18, .int 0])) :: wr))) ⟨va_cnB 0 hts gX10_init_X4_init_n49 rfl rfl rfl hw.2.2.2.2.2.2.2.2.2.2.2.2.2 kitX4 (by decide +kernel) ⟨Nat.le_of_ble_eq_true rfl, Nat.le_of_ble_eq_true rfl⟩, rfl, kimX4_init⟩ ⟨gO_blind, hw.pre _⟩ rfl rfl hl.1 rfl (lv_room (Nat.le_of_ble_eq_true rfl)) dX10_init_77 ⟨(Nat.le_of_ble_eq_true rfl), (Nat.le_of_ble_eq_true rfl)⟩) hw (fun u H locs hu hw => ?_)
  obtain ⟨q20, rfl⟩ := hu
  refine g_astq (q0 := 19) (qk := 1) (cj := 4) (t := 2) F hw rfl rfl rfl rfl (by decide) (ws1 := (q20, .inl (ty 0, 60, .inl (fun _ => 0))) :: (q19, .inr (4, [.ref q20, .int (-1), .int 0])) :: (q18, .inr (9, [.int 0])) :: (q17, .inl (ty 0, 8, .inl (fun _ => 0))) :: (q16, .inl (ty 0, 8, .inl (fun _ => 0))) :: (q15, .inr (2, [.ref q16, .ref q17, .int 0])) :: (q14, .inl (ty 0, 4, .inl (fun _ => 0))) :: (q13, .inl (ty 0, 4, .inl (fun _ => 0))) :: (q12, .inl (ty 0, 12, .inl (fun _ => 0))) :: (q11, .inl (ty 0, 12, .inl (fun _ => 0))) :: (q10, .inl (ty 0, 12, .inl (fun _ => 0))) :: (q9, .inl (ty 0, 12, .inl (fun _ => 0))) :: (q8, .inr (3, [.ref q9, .ref q10, .ref q11, .ref q12, .int 0, .int (-9), .ref q13, .ref q14])) :: (q7, .inl (ty 0, 8, .inl (fun _ => 0))) :: (q6, .inl (ty 0, 40, .inl (fun _ => 0))) :: (q5, .inl (ty 0, 5, .inl (fun _ => 0))) :: (q4, .inl (ty 3, 0, .inr (.inr (.inr (.inr (fun _ => none)))))) :: (q3, .inl (ty 1, 0, .inr (.inr (.inr (.inr (fun _ => none)))))) :: (q2, .inr (8, [.ref q3, .ref q4, .int 0, .ref q5, .ref q6, .ref q7])) :: (q1, .inl (ty 2, 4, .inr (.inr (.inr (.inr (va_up (fun _ => none) (0 : Int32).toNatClampNeg (some q19))))))) :: (a, .inr (10, [.ref q1, .ref q2, .ref q8, .ref q15, .ref q18, .int 0])) :: wr) rfl dX10_init_80 (fun H locs hw => ?_)
  refine lv_iinc (v := 1) (lv' := [(1, .int 1), (0, .ref a)]) hx hb dX10_init_81 hl (k := 0) rfl (by decide) (by decide) rfl (fun ls hl => ?_)
  refine lv_goto (tgt := 63) hx hb dX10_init_84 (by decide) ?_
  refine lv_iload_n hx hb dX10_init_63 rfl (lv_at hl 0 rfl) ?_
  refine lv_iconst (v := 4) hx hb dX10_init_64 (by decide) ?_
  refine lv_icmp_ge (tgt := 87) hx hb dX10_init_65 (by decide) (fun c0 => absurd c0 (by decide)) (fun _ => ?_)
  refine lv_aload_n hx hb dX10_init_68 rfl (lv_at hl 1 rfl) ?_
  refine g_get (C := RX10) (T := TX10) (N := 6) (v := .ref q1) hx hb hts hinX10 hown hw 20 rfl rfl 0 (by decide) kf13 rfl dX10_init_69 ?_
  refine lv_iload_n hx hb dX10_init_72 rfl (lv_at hl 0 rfl) ?_
  refine g_new (C := RX4) (T := TX4) (N := 3) (ci := 4) (fs := [.null, .int 0, .int 0]) F hinX4 tyX4 tyX4_ok kcl11 kinX4 kitX4 hw rfl (fun j hj => by rcases (show j = 0 ∨ j = 1 ∨ j = 2 by omega) with rfl | rfl | rfl <;> rfl) (Nat.le_of_ble_eq_true rfl) (Nat.le_of_ble_eq_true rfl) dX10_init_73 (fun q21 H hw => ?_)
  refine lv_dup hx hb dX10_init_76 rfl ?_
  refine g_mC (va_runIN F (As := []) (rest := [.ref q21, .int 1, .ref q1]) (ci_X4 (wr := ((q20, .inl (ty 0, 60, .inl (fun _ => 0))) :: (q19, .inr (4, [.ref q20, .int (-1), .int 0])) :: (q18, .inr (9, [.int 0])) :: (q17, .inl (ty 0, 8, .inl (fun _ => 0))) :: (q16, .inl (ty 0, 8, .inl (fun _ => 0))) :: (q15, .inr (2, [.ref q16, .ref q17, .int 0])) :: (q14, .inl (ty 0, 4, .inl (fun _ => 0))) :: (q13, .inl (ty 0, 4, .inl (fun _ => 0))) :: (q12, .inl (ty 0, 12, .inl (fun _ => 0))) :: (q11, .inl (ty 0, 12, .inl (fun _ => 0))) :: (q10, .inl (ty 0, 12, .inl (fun _ => 0))) :: (q9, .inl (ty 0, 12, .inl (fun _ => 0))) :: (q8, .inr (3, [.ref q9, .ref q10, .ref q11, .ref q12, .int 0, .int (-9), .ref q13, .ref q14])) :: (q7, .inl (ty 0, 8, .inl (fun _ => 0))) :: (q6, .inl (ty 0, 40, .inl (fun _ => 0))) :: (q5, .inl (ty 0, 5, .inl (fun _ => 0))) :: (q4, .inl (ty 3, 0, .inr (.inr (.inr (.inr (fun _ => none)))))) :: (q3, .inl (ty 1, 0, .inr (.inr (.inr (.inr (fun _ => none)))))) :: (q2, .inr (8, [.ref q3, .ref q4, .int 0, .ref q5, .ref q6, .ref q7])) :: (q1, .inl (ty 2, 4, .inr (.inr (.inr (.inr (va_up (fun _ => none) (0 : Int32).toNatClampNeg (some q19))))))) :: (a, .inr (10, [.ref q1, .ref q2, .ref q8, .ref q15, .ref q18, .int 0])) :: wr))) ⟨va_cnB 0 hts gX10_init_X4_init_n49 rfl rfl rfl hw.2.2.2.2.2.2.2.2.2.2.2.2.2 kitX4 (by decide +kernel) ⟨Nat.le_of_ble_eq_true rfl, Nat.le_of_ble_eq_true rfl⟩, rfl, kimX4_init⟩ ⟨gO_blind, hw.pre _⟩ rfl rfl hl.1 rfl (lv_room (Nat.le_of_ble_eq_true rfl)) dX10_init_77 ⟨(Nat.le_of_ble_eq_true rfl), (Nat.le_of_ble_eq_true rfl)⟩) hw (fun u H locs hu hw => ?_)
  obtain ⟨q22, rfl⟩ := hu
  refine g_astq (q0 := 21) (qk := 1) (cj := 4) (t := 2) F hw rfl rfl rfl rfl (by decide) (ws1 := (q22, .inl (ty 0, 60, .inl (fun _ => 0))) :: (q21, .inr (4, [.ref q22, .int (-1), .int 0])) :: (q20, .inl (ty 0, 60, .inl (fun _ => 0))) :: (q19, .inr (4, [.ref q20, .int (-1), .int 0])) :: (q18, .inr (9, [.int 0])) :: (q17, .inl (ty 0, 8, .inl (fun _ => 0))) :: (q16, .inl (ty 0, 8, .inl (fun _ => 0))) :: (q15, .inr (2, [.ref q16, .ref q17, .int 0])) :: (q14, .inl (ty 0, 4, .inl (fun _ => 0))) :: (q13, .inl (ty 0, 4, .inl (fun _ => 0))) :: (q12, .inl (ty 0, 12, .inl (fun _ => 0))) :: (q11, .inl (ty 0, 12, .inl (fun _ => 0))) :: (q10, .inl (ty 0, 12, .inl (fun _ => 0))) :: (q9, .inl (ty 0, 12, .inl (fun _ => 0))) :: (q8, .inr (3, [.ref q9, .ref q10, .ref q11, .ref q12, .int 0, .int (-9), .ref q13, .ref q14])) :: (q7, .inl (ty 0, 8, .inl (fun _ => 0))) :: (q6, .inl (ty 0, 40, .inl (fun _ => 0))) :: (q5, .inl (ty 0, 5, .inl (fun _ => 0))) :: (q4, .inl (ty 3, 0, .inr (.inr (.inr (.inr (fun _ => none)))))) :: (q3, .inl (ty 1, 0, .inr (.inr (.inr (.inr (fun _ => none)))))) :: (q2, .inr (8, [.ref q3, .ref q4, .int 0, .ref q5, .ref q6, .ref q7])) :: (q1, .inl (ty 2, 4, .inr (.inr (.inr (.inr (va_up (va_up (fun _ => none) (0 : Int32).toNatClampNeg (some q19)) (1 : Int32).toNatClampNeg (some q21))))))) :: (a, .inr (10, [.ref q1, .ref q2, .ref q8, .ref q15, .ref q18, .int 0])) :: wr) rfl dX10_init_80 (fun H locs hw => ?_)
  refine lv_iinc (v := 2) (lv' := [(1, .int 2), (0, .ref a)]) hx hb dX10_init_81 hl (k := 0) rfl (by decide) (by decide) rfl (fun ls hl => ?_)
  refine lv_goto (tgt := 63) hx hb dX10_init_84 (by decide) ?_
  refine lv_iload_n hx hb dX10_init_63 rfl (lv_at hl 0 rfl) ?_
  refine lv_iconst (v := 4) hx hb dX10_init_64 (by decide) ?_
  refine lv_icmp_ge (tgt := 87) hx hb dX10_init_65 (by decide) (fun c0 => absurd c0 (by decide)) (fun _ => ?_)
  refine lv_aload_n hx hb dX10_init_68 rfl (lv_at hl 1 rfl) ?_
  refine g_get (C := RX10) (T := TX10) (N := 6) (v := .ref q1) hx hb hts hinX10 hown hw 22 rfl rfl 0 (by decide) kf13 rfl dX10_init_69 ?_
  refine lv_iload_n hx hb dX10_init_72 rfl (lv_at hl 0 rfl) ?_
  refine g_new (C := RX4) (T := TX4) (N := 3) (ci := 4) (fs := [.null, .int 0, .int 0]) F hinX4 tyX4 tyX4_ok kcl11 kinX4 kitX4 hw rfl (fun j hj => by rcases (show j = 0 ∨ j = 1 ∨ j = 2 by omega) with rfl | rfl | rfl <;> rfl) (Nat.le_of_ble_eq_true rfl) (Nat.le_of_ble_eq_true rfl) dX10_init_73 (fun q23 H hw => ?_)
  refine lv_dup hx hb dX10_init_76 rfl ?_
  refine g_mC (va_runIN F (As := []) (rest := [.ref q23, .int 2, .ref q1]) (ci_X4 (wr := ((q22, .inl (ty 0, 60, .inl (fun _ => 0))) :: (q21, .inr (4, [.ref q22, .int (-1), .int 0])) :: (q20, .inl (ty 0, 60, .inl (fun _ => 0))) :: (q19, .inr (4, [.ref q20, .int (-1), .int 0])) :: (q18, .inr (9, [.int 0])) :: (q17, .inl (ty 0, 8, .inl (fun _ => 0))) :: (q16, .inl (ty 0, 8, .inl (fun _ => 0))) :: (q15, .inr (2, [.ref q16, .ref q17, .int 0])) :: (q14, .inl (ty 0, 4, .inl (fun _ => 0))) :: (q13, .inl (ty 0, 4, .inl (fun _ => 0))) :: (q12, .inl (ty 0, 12, .inl (fun _ => 0))) :: (q11, .inl (ty 0, 12, .inl (fun _ => 0))) :: (q10, .inl (ty 0, 12, .inl (fun _ => 0))) :: (q9, .inl (ty 0, 12, .inl (fun _ => 0))) :: (q8, .inr (3, [.ref q9, .ref q10, .ref q11, .ref q12, .int 0, .int (-9), .ref q13, .ref q14])) :: (q7, .inl (ty 0, 8, .inl (fun _ => 0))) :: (q6, .inl (ty 0, 40, .inl (fun _ => 0))) :: (q5, .inl (ty 0, 5, .inl (fun _ => 0))) :: (q4, .inl (ty 3, 0, .inr (.inr (.inr (.inr (fun _ => none)))))) :: (q3, .inl (ty 1, 0, .inr (.inr (.inr (.inr (fun _ => none)))))) :: (q2, .inr (8, [.ref q3, .ref q4, .int 0, .ref q5, .ref q6, .ref q7])) :: (q1, .inl (ty 2, 4, .inr (.inr (.inr (.inr (va_up (va_up (fun _ => none) (0 : Int32).toNatClampNeg (some q19)) (1 : Int32).toNatClampNeg (some q21))))))) :: (a, .inr (10, [.ref q1, .ref q2, .ref q8, .ref q15, .ref q18, .int 0])) :: wr))) ⟨va_cnB 0 hts gX10_init_X4_init_n49 rfl rfl rfl hw.2.2.2.2.2.2.2.2.2.2.2.2.2 kitX4 (by decide +kernel) ⟨Nat.le_of_ble_eq_true rfl, Nat.le_of_ble_eq_true rfl⟩, rfl, kimX4_init⟩ ⟨gO_blind, hw.pre _⟩ rfl rfl hl.1 rfl (lv_room (Nat.le_of_ble_eq_true rfl)) dX10_init_77 ⟨(Nat.le_of_ble_eq_true rfl), (Nat.le_of_ble_eq_true rfl)⟩) hw (fun u H locs hu hw => ?_)
  obtain ⟨q24, rfl⟩ := hu
  refine g_astq (q0 := 23) (qk := 1) (cj := 4) (t := 2) F hw rfl rfl rfl rfl (by decide) (ws1 := (q24, .inl (ty 0, 60, .inl (fun _ => 0))) :: (q23, .inr (4, [.ref q24, .int (-1), .int 0])) :: (q22, .inl (ty 0, 60, .inl (fun _ => 0))) :: (q21, .inr (4, [.ref q22, .int (-1), .int 0])) :: (q20, .inl (ty 0, 60, .inl (fun _ => 0))) :: (q19, .inr (4, [.ref q20, .int (-1), .int 0])) :: (q18, .inr (9, [.int 0])) :: (q17, .inl (ty 0, 8, .inl (fun _ => 0))) :: (q16, .inl (ty 0, 8, .inl (fun _ => 0))) :: (q15, .inr (2, [.ref q16, .ref q17, .int 0])) :: (q14, .inl (ty 0, 4, .inl (fun _ => 0))) :: (q13, .inl (ty 0, 4, .inl (fun _ => 0))) :: (q12, .inl (ty 0, 12, .inl (fun _ => 0))) :: (q11, .inl (ty 0, 12, .inl (fun _ => 0))) :: (q10, .inl (ty 0, 12, .inl (fun _ => 0))) :: (q9, .inl (ty 0, 12, .inl (fun _ => 0))) :: (q8, .inr (3, [.ref q9, .ref q10, .ref q11, .ref q12, .int 0, .int (-9), .ref q13, .ref q14])) :: (q7, .inl (ty 0, 8, .inl (fun _ => 0))) :: (q6, .inl (ty 0, 40, .inl (fun _ => 0))) :: (q5, .inl (ty 0, 5, .inl (fun _ => 0))) :: (q4, .inl (ty 3, 0, .inr (.inr (.inr (.inr (fun _ => none)))))) :: (q3, .inl (ty 1, 0, .inr (.inr (.inr (.inr (fun _ => none)))))) :: (q2, .inr (8, [.ref q3, .ref q4, .int 0, .ref q5, .ref q6, .ref q7])) :: (q1, .inl (ty 2, 4, .inr (.inr (.inr (.inr (va_up (va_up (va_up (fun _ => none) (0 : Int32).toNatClampNeg (some q19)) (1 : Int32).toNatClampNeg (some q21)) (2 : Int32).toNatClampNeg (some q23))))))) :: (a, .inr (10, [.ref q1, .ref q2, .ref q8, .ref q15, .ref q18, .int 0])) :: wr) rfl dX10_init_80 (fun H locs hw => ?_)
  refine lv_iinc (v := 3) (lv' := [(1, .int 3), (0, .ref a)]) hx hb dX10_init_81 hl (k := 0) rfl (by decide) (by decide) rfl (fun ls hl => ?_)
  refine lv_goto (tgt := 63) hx hb dX10_init_84 (by decide) ?_
  refine lv_iload_n hx hb dX10_init_63 rfl (lv_at hl 0 rfl) ?_
  refine lv_iconst (v := 4) hx hb dX10_init_64 (by decide) ?_
  refine lv_icmp_ge (tgt := 87) hx hb dX10_init_65 (by decide) (fun c0 => absurd c0 (by decide)) (fun _ => ?_)
  refine lv_aload_n hx hb dX10_init_68 rfl (lv_at hl 1 rfl) ?_
  refine g_get (C := RX10) (T := TX10) (N := 6) (v := .ref q1) hx hb hts hinX10 hown hw 24 rfl rfl 0 (by decide) kf13 rfl dX10_init_69 ?_
  refine lv_iload_n hx hb dX10_init_72 rfl (lv_at hl 0 rfl) ?_
  refine g_new (C := RX4) (T := TX4) (N := 3) (ci := 4) (fs := [.null, .int 0, .int 0]) F hinX4 tyX4 tyX4_ok kcl11 kinX4 kitX4 hw rfl (fun j hj => by rcases (show j = 0 ∨ j = 1 ∨ j = 2 by omega) with rfl | rfl | rfl <;> rfl) (Nat.le_of_ble_eq_true rfl) (Nat.le_of_ble_eq_true rfl) dX10_init_73 (fun q25 H hw => ?_)
  refine lv_dup hx hb dX10_init_76 rfl ?_
  refine g_mC (va_runIN F (As := []) (rest := [.ref q25, .int 3, .ref q1]) (ci_X4 (wr := ((q24, .inl (ty 0, 60, .inl (fun _ => 0))) :: (q23, .inr (4, [.ref q24, .int (-1), .int 0])) :: (q22, .inl (ty 0, 60, .inl (fun _ => 0))) :: (q21, .inr (4, [.ref q22, .int (-1), .int 0])) :: (q20, .inl (ty 0, 60, .inl (fun _ => 0))) :: (q19, .inr (4, [.ref q20, .int (-1), .int 0])) :: (q18, .inr (9, [.int 0])) :: (q17, .inl (ty 0, 8, .inl (fun _ => 0))) :: (q16, .inl (ty 0, 8, .inl (fun _ => 0))) :: (q15, .inr (2, [.ref q16, .ref q17, .int 0])) :: (q14, .inl (ty 0, 4, .inl (fun _ => 0))) :: (q13, .inl (ty 0, 4, .inl (fun _ => 0))) :: (q12, .inl (ty 0, 12, .inl (fun _ => 0))) :: (q11, .inl (ty 0, 12, .inl (fun _ => 0))) :: (q10, .inl (ty 0, 12, .inl (fun _ => 0))) :: (q9, .inl (ty 0, 12, .inl (fun _ => 0))) :: (q8, .inr (3, [.ref q9, .ref q10, .ref q11, .ref q12, .int 0, .int (-9), .ref q13, .ref q14])) :: (q7, .inl (ty 0, 8, .inl (fun _ => 0))) :: (q6, .inl (ty 0, 40, .inl (fun _ => 0))) :: (q5, .inl (ty 0, 5, .inl (fun _ => 0))) :: (q4, .inl (ty 3, 0, .inr (.inr (.inr (.inr (fun _ => none)))))) :: (q3, .inl (ty 1, 0, .inr (.inr (.inr (.inr (fun _ => none)))))) :: (q2, .inr (8, [.ref q3, .ref q4, .int 0, .ref q5, .ref q6, .ref q7])) :: (q1, .inl (ty 2, 4, .inr (.inr (.inr (.inr (va_up (va_up (va_up (fun _ => none) (0 : Int32).toNatClampNeg (some q19)) (1 : Int32).toNatClampNeg (some q21)) (2 : Int32).toNatClampNeg (some q23))))))) :: (a, .inr (10, [.ref q1, .ref q2, .ref q8, .ref q15, .ref q18, .int 0])) :: wr))) ⟨va_cnB 0 hts gX10_init_X4_init_n49 rfl rfl rfl hw.2.2.2.2.2.2.2.2.2.2.2.2.2 kitX4 (by decide +kernel) ⟨Nat.le_of_ble_eq_true rfl, Nat.le_of_ble_eq_true rfl⟩, rfl, kimX4_init⟩ ⟨gO_blind, hw.pre _⟩ rfl rfl hl.1 rfl (lv_room (Nat.le_of_ble_eq_true rfl)) dX10_init_77 ⟨(Nat.le_of_ble_eq_true rfl), (Nat.le_of_ble_eq_true rfl)⟩) hw (fun u H locs hu hw => ?_)
  obtain ⟨q26, rfl⟩ := hu
  refine g_astq (q0 := 25) (qk := 1) (cj := 4) (t := 2) F hw rfl rfl rfl rfl (by decide) (ws1 := (q26, .inl (ty 0, 60, .inl (fun _ => 0))) :: (q25, .inr (4, [.ref q26, .int (-1), .int 0])) :: (q24, .inl (ty 0, 60, .inl (fun _ => 0))) :: (q23, .inr (4, [.ref q24, .int (-1), .int 0])) :: (q22, .inl (ty 0, 60, .inl (fun _ => 0))) :: (q21, .inr (4, [.ref q22, .int (-1), .int 0])) :: (q20, .inl (ty 0, 60, .inl (fun _ => 0))) :: (q19, .inr (4, [.ref q20, .int (-1), .int 0])) :: (q18, .inr (9, [.int 0])) :: (q17, .inl (ty 0, 8, .inl (fun _ => 0))) :: (q16, .inl (ty 0, 8, .inl (fun _ => 0))) :: (q15, .inr (2, [.ref q16, .ref q17, .int 0])) :: (q14, .inl (ty 0, 4, .inl (fun _ => 0))) :: (q13, .inl (ty 0, 4, .inl (fun _ => 0))) :: (q12, .inl (ty 0, 12, .inl (fun _ => 0))) :: (q11, .inl (ty 0, 12, .inl (fun _ => 0))) :: (q10, .inl (ty 0, 12, .inl (fun _ => 0))) :: (q9, .inl (ty 0, 12, .inl (fun _ => 0))) :: (q8, .inr (3, [.ref q9, .ref q10, .ref q11, .ref q12, .int 0, .int (-9), .ref q13, .ref q14])) :: (q7, .inl (ty 0, 8, .inl (fun _ => 0))) :: (q6, .inl (ty 0, 40, .inl (fun _ => 0))) :: (q5, .inl (ty 0, 5, .inl (fun _ => 0))) :: (q4, .inl (ty 3, 0, .inr (.inr (.inr (.inr (fun _ => none)))))) :: (q3, .inl (ty 1, 0, .inr (.inr (.inr (.inr (fun _ => none)))))) :: (q2, .inr (8, [.ref q3, .ref q4, .int 0, .ref q5, .ref q6, .ref q7])) :: (q1, .inl (ty 2, 4, .inr (.inr (.inr (.inr (va_up (va_up (va_up (va_up (fun _ => none) (0 : Int32).toNatClampNeg (some q19)) (1 : Int32).toNatClampNeg (some q21)) (2 : Int32).toNatClampNeg (some q23)) (3 : Int32).toNatClampNeg (some q25))))))) :: (a, .inr (10, [.ref q1, .ref q2, .ref q8, .ref q15, .ref q18, .int 0])) :: wr) rfl dX10_init_80 (fun H locs hw => ?_)
  refine lv_iinc (v := 4) (lv' := [(1, .int 4), (0, .ref a)]) hx hb dX10_init_81 hl (k := 0) rfl (by decide) (by decide) rfl (fun ls hl => ?_)
  refine lv_goto (tgt := 63) hx hb dX10_init_84 (by decide) ?_
  refine lv_iload_n hx hb dX10_init_63 rfl (lv_at hl 0 rfl) ?_
  refine lv_iconst (v := 4) hx hb dX10_init_64 (by decide) ?_
  refine lv_icmp_ge (tgt := 87) hx hb dX10_init_65 (by decide) (fun _ => ?_) (fun c0 => absurd (by decide) c0)
  refine W.widen (k := 26) (n := 399) (Nat.le_of_ble_eq_true rfl) (Nat.le_of_ble_eq_true rfl) ?_
  exact hret _ _ _ _ _ ⟨q1, q2, q3, q4, q5, q6, q7, q8, q9, q10, q11, q12, q13, q14, q15, q16, q17, q18, q19, q20, q21, q22, q23, q24, q25, q26, rfl⟩ hw dX10_init_87
