abbrev rm_cg_kind : Room := { frames := 0, cells := 0, slots := 0, locals := 0 }
set_option maxHeartbeats 4000000 in
set_option maxRecDepth 100000 in
theorem ccg_kind {l : Launch} {D : va_G} {ty : gT} {A : Nat → Prop} {ad : Nat → Nat} {wr : va_W} {G : Nat} {S : Nat} {kg : Nat} {X : gC} {r : Int32} (hf : cg_kind G S kg X = some r) : gI l D ty A yX0_kind wsX0_kind rm_cg_kind [.ref (ad (100 + kg))] (cw ty ad G S X wr) r (cw ty ad G S X wr) := by
  refine gI_enter (cc := cX0_kind) (maxL := 1) (by decide) rfl (Nat.le_of_ble_eq_true rfl) ?_
  intro p e s m args below meth c Q ls F hl hw hret
  have F : CallFix p m c cX0_kind 1 s args wsX0_kind RX0 := F
  obtain ⟨hx, hb, hml, hown, hts⟩ := id F
  have hl : lv_has ls 1 [(0, .ref (ad (100 + kg)))] := hl
  unfold cg_kind at hf
  refine lv_iconst (v := 0) hx hb dX0_kind_0 (by decide) ?_
  exact hret 0 _ _ _ _ _ (Option.some.inj hf) rfl hw dX0_kind_1

abbrev rm_cg_plainTakes : Room := { frames := 0, cells := 0, slots := 0, locals := 0 }
set_option maxHeartbeats 4000000 in
set_option maxRecDepth 100000 in
theorem ccg_plainTakes {l : Launch} {D : va_G} {ty : gT} {A : Nat → Prop} {ad : Nat → Nat} {wr : va_W} {G : Nat} {S : Nat} {kg : Nat} {x1 : Int32} {x2 : Int32} {X : gC} {r : Int32} (hf : cg_plainTakes G S kg X x1 x2 = some r) : gI l D ty A yX0_plainTakes wsX0_plainTakes rm_cg_plainTakes [.ref (ad (100 + kg)), .int x1, .int x2] (cw ty ad G S X wr) r (cw ty ad G S X wr) := by
  refine gI_enter (cc := cX0_plainTakes) (maxL := 3) (by decide) rfl (Nat.le_of_ble_eq_true rfl) ?_
  intro p e s m args below meth c Q ls F hl hw hret
  have F : CallFix p m c cX0_plainTakes 3 s args wsX0_plainTakes RX0 := F
  obtain ⟨hx, hb, hml, hown, hts⟩ := id F
  have hl : lv_has ls 3 [(0, .ref (ad (100 + kg))), (1, .int x1), (2, .int x2)] := hl
  have hinX0 : ∀ w ∈ wsX00, w ∈ wsX0_plainTakes := by first | exact fun w h => List.mem_cons_of_mem _ (List.mem_append_left _ (List.mem_append_left _ (List.mem_append_right _ h))) | decide +kernel
  have hinX1 : ∀ w ∈ wsX10, w ∈ wsX0_plainTakes := by first | exact fun w h => List.mem_cons_of_mem _ (List.mem_append_left _ (List.mem_append_right _ h)) | decide +kernel
  have hinX6 : ∀ w ∈ wsX60, w ∈ wsX0_plainTakes := by first | exact fun w h => List.mem_cons_of_mem _ (List.mem_append_right _ h) | decide +kernel
  have kf13 := hts (.fieldLink RX0 13 "GossipGate$Gate" "rate" "I") (by decide +kernel)
  unfold cg_plainTakes at hf
  refine lv_iload_n hx hb dX0_plainTakes_0 rfl (lv_at hl 1 rfl) ?_
  refine lv_aload_n hx hb dX0_plainTakes_1 rfl (lv_at hl 0 rfl) ?_
  obtain ⟨g1, hf⟩ := g_g hf
  refine cw_gate_get_2 F hinX0 hinX1 hinX6 hw g1 kf13 dX0_plainTakes_2 ?_
  refine lv_imul hx hb dX0_plainTakes_5 ?_
  refine lv_iload_n hx hb dX0_plainTakes_6 rfl (lv_at hl 2 rfl) ?_
  refine lv_imul hx hb dX0_plainTakes_7 ?_
  exact hret ((x1 * (X.2.2 1 kg)) * x2) _ _ _ _ _ (Option.some.inj hf) rfl hw dX0_plainTakes_8

abbrev rm_cg_takes : Room := { frames := 1, cells := 0, slots := 0, locals := 22 }
set_option maxHeartbeats 4000000 in
set_option maxRecDepth 100000 in
theorem ccg_takes {l : Launch} {D : va_G} {ty : gT} {A : Nat → Prop} {ad : Nat → Nat} {wr : va_W} {G : Nat} {S : Nat} {kg : Nat} {x1 : Int32} {x2 : Int32} {X : gC} {r : Int32} (hf : cg_takes G S kg X x1 x2 = some r) : gI l D ty A yX0_takes wsX0_takes rm_cg_takes [.ref (ad (100 + kg)), .int x1, .int x2] (cw ty ad G S X wr) r (cw ty ad G S X wr) := by
  refine gI_enter (cc := cX0_takes) (maxL := 3) (by decide) rfl (Nat.le_of_ble_eq_true rfl) ?_
  intro p e s m args below meth c Q ls F hl hw hret
  have F : CallFix p m c cX0_takes 3 s args wsX0_takes RX0 := F
  obtain ⟨hx, hb, hml, hown, hts⟩ := id F
  have hl : lv_has ls 3 [(0, .ref (ad (100 + kg))), (1, .int x1), (2, .int x2)] := hl
  unfold cg_takes at hf
  refine lv_aload_n hx hb dX0_takes_0 rfl (lv_at hl 0 rfl) ?_
  refine lv_iload_n hx hb dX0_takes_1 rfl (lv_at hl 1 rfl) ?_
  refine lv_iload_n hx hb dX0_takes_2 rfl (lv_at hl 2 rfl) ?_
  obtain ⟨g1, hf⟩ := g_g hf
  by_cases c2 : X.2.2 0 kg = 1
  · replace hf := g_t c2 hf
    obtain ⟨r5, h4, hf⟩ := g_b1 hf
    refine g_uI F (As := [.int x1, .int x2]) (rest := []) (ccg_plainTakes h4) (va_cwU 2 hts gX0_takes_X0_plainTakes_u19X6 rfl rfl rfl rfl (by decide +kernel) ⟨Nat.le_of_ble_eq_true rfl, Nat.le_of_ble_eq_true rfl⟩) hw (hw.recv (ci := 6) (q0 := kg + 27) rfl rfl (cw_gateK g1 (kc_1 c2))) rfl hl.1 rfl (Nat.le_of_ble_eq_true rfl) dX0_takes_3 (fun H locs hw => ?_)
    exact hret r5 _ _ _ _ _ (Option.some.inj hf) rfl hw dX0_takes_6
  replace hf := g_f c2 hf
  by_cases c3 : X.2.2 0 kg = 2
  · replace hf := g_t c3 hf
    obtain ⟨r7, h6, hf⟩ := g_b1 hf
    refine g_uI F (As := [.int x1, .int x2]) (rest := []) (ccg_plainTakes h6) (va_cwU 2 hts gX0_takes_X0_plainTakes_u19X1 rfl rfl rfl rfl (by decide +kernel) ⟨Nat.le_of_ble_eq_true rfl, Nat.le_of_ble_eq_true rfl⟩) hw (hw.recv (ci := 1) (q0 := kg + 27) rfl rfl (cw_gateK g1 (kc_2 c2 c3))) rfl hl.1 rfl (Nat.le_of_ble_eq_true rfl) dX0_takes_3 (fun H locs hw => ?_)
    exact hret r7 _ _ _ _ _ (Option.some.inj hf) rfl hw dX0_takes_6
  · replace hf := g_f c3 hf
    obtain ⟨r9, h8, hf⟩ := g_b1 hf
    refine g_cI F (As := [.int x1, .int x2]) (rest := []) (ccg_plainTakes h8) (cwV 2 hts gX0_takes_X0_plainTakes rfl rfl rfl (by decide +kernel) ⟨Nat.le_of_ble_eq_true rfl, Nat.le_of_ble_eq_true rfl⟩) hw (hw.recv (ci := 0) (q0 := kg + 27) rfl rfl (cw_gateK g1 (kc_0 c2 c3))) rfl hl.1 rfl (Nat.le_of_ble_eq_true rfl) dX0_takes_3 (fun H locs hw => ?_)
    exact hret r9 _ _ _ _ _ (Option.some.inj hf) rfl hw dX0_takes_6

abbrev rm_ft_leave : Room := { frames := 0, cells := 0, slots := 0, locals := 0 }
set_option maxHeartbeats 4000000 in
set_option maxRecDepth 100000 in
theorem cft_leave {l : Launch} {D : va_G} {ty : gT} {A : Nat → Prop} {ad : Nat → Nat} {K : gK} {wr : va_W} {x1 : Int32} {σ : gS} {σ' : gS} (hf : ft_leave σ x1 = some ((), σ')) : gV l D ty A yX9_leave wsX9_leave rm_ft_leave [.ref (ad 26), .int x1] (cf ty ad K σ wr) (cf ty ad K σ' wr) := by
  refine gV_enter (cc := cX9_leave) (maxL := 2) (by decide) rfl (Nat.le_of_ble_eq_true rfl) ?_
  intro p e s m args below meth c Q ls F hl hw hret
  have F : CallFix p m c cX9_leave 2 s args wsX9_leave RX9 := F
  obtain ⟨hx, hb, hml, hown, hts⟩ := id F
  have hl : lv_has ls 2 [(0, .ref (ad 26)), (1, .int x1)] := hl
  have hinX9 : ∀ w ∈ wsX90, w ∈ wsX9_leave := by first | exact fun w h => List.mem_cons_of_mem _ (List.mem_append_right _ h) | decide +kernel
  have kf7 := hts (.fieldLink RX9 7 "GossipGate$Trace" "value" "I") (by decide +kernel)
  unfold ft_leave at hf
  refine lv_aload_n hx hb dX9_leave_0 rfl (lv_at hl 0 rfl) ?_
  refine lv_bipush (v := 31) hx hb dX9_leave_1 (by decide) ?_
  refine lv_aload_n hx hb dX9_leave_3 rfl (lv_at hl 0 rfl) ?_
  refine cf_get_X9_0 F hinX9 hw kf7 dX9_leave_4 ?_
  refine lv_imul hx hb dX9_leave_7 ?_
  refine lv_iload_n hx hb dX9_leave_8 rfl (lv_at hl 1 rfl) ?_
  refine lv_iadd hx hb dX9_leave_9 ?_
  refine cf_put_X9_0 F hinX9 hw kf7 dX9_leave_10 (fun H locs hw => ?_)
  obtain ⟨σ1, eσ1, hf⟩ := g_let hf
  have hw := cf_re eσ1 hw
  exact hret _ _ _ _ _ (congrArg (fun t => cf ty ad K t wr) (g_i2 hf)) hw dX9_leave_13

abbrev rm_cg_plainTelling : Room := { frames := 1, cells := 0, slots := 0, locals := 21 }
set_option maxHeartbeats 4000000 in
set_option maxRecDepth 100000 in
theorem ccg_plainTelling {l : Launch} {D : va_G} {ty : gT} {A : Nat → Prop} {ad : Nat → Nat} {wr : va_W} {G : Nat} {S : Nat} {kg : Nat} {X : gC} {r : Int32} {σ' : gC} (hf : cg_plainTelling G S kg X = some (r, σ')) : gI l D ty A yX0_plainTelling wsX0_plainTelling rm_cg_plainTelling [.ref (ad (100 + kg)), .ref (ad 26)] (cw ty ad G S X wr) r (cw ty ad G S σ' wr) := by
  refine gI_enter (cc := cX0_plainTelling) (maxL := 2) (by decide) rfl (Nat.le_of_ble_eq_true rfl) ?_
  intro p e s m args below meth c Q ls F hl hw hret
  have F : CallFix p m c cX0_plainTelling 2 s args wsX0_plainTelling RX0 := F
  obtain ⟨hx, hb, hml, hown, hts⟩ := id F
  have hl : lv_has ls 2 [(0, .ref (ad (100 + kg))), (1, .ref (ad 26))] := hl
  have hinX0 : ∀ w ∈ wsX00, w ∈ wsX0_plainTelling := by first | exact fun w h => List.mem_cons_of_mem _ (List.mem_append_left _ (List.mem_append_left _ (List.mem_append_left _ (List.mem_append_right _ h)))) | decide +kernel
  have hinX1 : ∀ w ∈ wsX10, w ∈ wsX0_plainTelling := by first | exact fun w h => List.mem_cons_of_mem _ (List.mem_append_left _ (List.mem_append_left _ (List.mem_append_right _ h))) | decide +kernel
  have hinX6 : ∀ w ∈ wsX60, w ∈ wsX0_plainTelling := by first | exact fun w h => List.mem_cons_of_mem _ (List.mem_append_left _ (List.mem_append_right _ h)) | decide +kernel
  have kf13 := hts (.fieldLink RX0 13 "GossipGate$Gate" "rate" "I") (by decide +kernel)
  unfold cg_plainTelling at hf
  refine lv_aload_n hx hb dX0_plainTelling_0 rfl (lv_at hl 1 rfl) ?_
  refine lv_iconst (v := 1) hx hb dX0_plainTelling_1 (by decide) ?_
  obtain ⟨r2, X3, h1, hf⟩ := g_b2 hf
  refine g_cV F (As := [.int 1]) (rest := []) (cft_leave h1) (cwV 1 hts gX0_plainTelling_X9_leave rfl rfl rfl (by decide +kernel) ⟨Nat.le_of_ble_eq_true rfl, Nat.le_of_ble_eq_true rfl⟩) hw (hw.recv (ci := 9) (q0 := 26) rfl rfl rfl) rfl hl.1 rfl (Nat.le_of_ble_eq_true rfl) dX0_plainTelling_2 (fun H locs hw => ?_)
  obtain ⟨X4, eX4, hf⟩ := g_let hf
  have hw := cw_re eX4 hw
  refine lv_aload_n hx hb dX0_plainTelling_5 rfl (lv_at hl 0 rfl) ?_
  obtain ⟨g5, hf⟩ := g_g hf
  refine cw_gate_get_2 F hinX0 hinX1 hinX6 hw g5 kf13 dX0_plainTelling_6 ?_
  exact hret (X4.2.2 1 kg) _ _ _ _ _ (g_i1 hf) (congrArg (fun t => cw ty ad G S t wr) (g_i2 hf)) hw dX0_plainTelling_9

abbrev rm_cg_telling : Room := { frames := 2, cells := 0, slots := 0, locals := 42 }
set_option maxHeartbeats 4000000 in
set_option maxRecDepth 100000 in
theorem ccg_telling {l : Launch} {D : va_G} {ty : gT} {A : Nat → Prop} {ad : Nat → Nat} {wr : va_W} {G : Nat} {S : Nat} {kg : Nat} {X : gC} {r : Int32} {σ' : gC} (hf : cg_telling G S kg X = some (r, σ')) : gI l D ty A yX0_telling wsX0_telling rm_cg_telling [.ref (ad (100 + kg)), .ref (ad 26)] (cw ty ad G S X wr) r (cw ty ad G S σ' wr) := by
  refine gI_enter (cc := cX0_telling) (maxL := 2) (by decide) rfl (Nat.le_of_ble_eq_true rfl) ?_
  intro p e s m args below meth c Q ls F hl hw hret
  have F : CallFix p m c cX0_telling 2 s args wsX0_telling RX0 := F
  obtain ⟨hx, hb, hml, hown, hts⟩ := id F
  have hl : lv_has ls 2 [(0, .ref (ad (100 + kg))), (1, .ref (ad 26))] := hl
  unfold cg_telling at hf
  refine lv_aload_n hx hb dX0_telling_0 rfl (lv_at hl 0 rfl) ?_
  refine lv_aload_n hx hb dX0_telling_1 rfl (lv_at hl 1 rfl) ?_
  obtain ⟨g1, hf⟩ := g_g hf
  by_cases c2 : X.2.2 0 kg = 1
  · replace hf := g_t c2 hf
    obtain ⟨r5, X6, h4, hf⟩ := g_b2 hf
    refine g_uI F (As := [.ref (ad 26)]) (rest := []) (ccg_plainTelling h4) (va_cwU 1 hts gX0_telling_X0_plainTelling_u23X6 rfl rfl rfl rfl (by decide +kernel) ⟨Nat.le_of_ble_eq_true rfl, Nat.le_of_ble_eq_true rfl⟩) hw (hw.recv (ci := 6) (q0 := kg + 27) rfl rfl (cw_gateK g1 (kc_1 c2))) rfl hl.1 rfl (Nat.le_of_ble_eq_true rfl) dX0_telling_2 (fun H locs hw => ?_)
    exact hret r5 _ _ _ _ _ (g_i1 hf) (congrArg (fun t => cw ty ad G S t wr) (g_i2 hf)) hw dX0_telling_5
  replace hf := g_f c2 hf
  by_cases c3 : X.2.2 0 kg = 2
  · replace hf := g_t c3 hf
    obtain ⟨r8, X9, h7, hf⟩ := g_b2 hf
    refine g_uI F (As := [.ref (ad 26)]) (rest := []) (ccg_plainTelling h7) (va_cwU 1 hts gX0_telling_X0_plainTelling_u23X1 rfl rfl rfl rfl (by decide +kernel) ⟨Nat.le_of_ble_eq_true rfl, Nat.le_of_ble_eq_true rfl⟩) hw (hw.recv (ci := 1) (q0 := kg + 27) rfl rfl (cw_gateK g1 (kc_2 c2 c3))) rfl hl.1 rfl (Nat.le_of_ble_eq_true rfl) dX0_telling_2 (fun H locs hw => ?_)
    exact hret r8 _ _ _ _ _ (g_i1 hf) (congrArg (fun t => cw ty ad G S t wr) (g_i2 hf)) hw dX0_telling_5
  · replace hf := g_f c3 hf
    obtain ⟨r11, X12, h10, hf⟩ := g_b2 hf
    refine g_cI F (As := [.ref (ad 26)]) (rest := []) (ccg_plainTelling h10) (cwV 1 hts gX0_telling_X0_plainTelling rfl rfl rfl (by decide +kernel) ⟨Nat.le_of_ble_eq_true rfl, Nat.le_of_ble_eq_true rfl⟩) hw (hw.recv (ci := 0) (q0 := kg + 27) rfl rfl (cw_gateK g1 (kc_0 c2 c3))) rfl hl.1 rfl (Nat.le_of_ble_eq_true rfl) dX0_telling_2 (fun H locs hw => ?_)
    exact hret r11 _ _ _ _ _ (g_i1 hf) (congrArg (fun t => cw ty ad G S t wr) (g_i2 hf)) hw dX0_telling_5

abbrev rm_cg_knocking : Room := { frames := 1, cells := 0, slots := 0, locals := 21 }
set_option maxHeartbeats 4000000 in
set_option maxRecDepth 100000 in
theorem ccg_knocking {l : Launch} {D : va_G} {ty : gT} {A : Nat → Prop} {ad : Nat → Nat} {wr : va_W} {G : Nat} {S : Nat} {kg : Nat} {X : gC} {r : Int32} {σ' : gC} (hf : cg_knocking G S kg X = some (r, σ')) : gI l D ty A yX0_knocking wsX0_knocking rm_cg_knocking [.ref (ad (100 + kg)), .ref (ad 26)] (cw ty ad G S X wr) r (cw ty ad G S σ' wr) := by
  refine gI_enter (cc := cX0_knocking) (maxL := 2) (by decide) rfl (Nat.le_of_ble_eq_true rfl) ?_
  intro p e s m args below meth c Q ls F hl hw hret
  have F : CallFix p m c cX0_knocking 2 s args wsX0_knocking RX0 := F
  obtain ⟨hx, hb, hml, hown, hts⟩ := id F
  have hl : lv_has ls 2 [(0, .ref (ad (100 + kg))), (1, .ref (ad 26))] := hl
  have hinX0 : ∀ w ∈ wsX00, w ∈ wsX0_knocking := by first | exact fun w h => List.mem_cons_of_mem _ (List.mem_append_left _ (List.mem_append_left _ (List.mem_append_left _ (List.mem_append_right _ h)))) | decide +kernel
  have hinX1 : ∀ w ∈ wsX10, w ∈ wsX0_knocking := by first | exact fun w h => List.mem_cons_of_mem _ (List.mem_append_left _ (List.mem_append_left _ (List.mem_append_right _ h))) | decide +kernel
  have hinX6 : ∀ w ∈ wsX60, w ∈ wsX0_knocking := by first | exact fun w h => List.mem_cons_of_mem _ (List.mem_append_left _ (List.mem_append_right _ h)) | decide +kernel
  have kf7 := hts (.fieldLink RX0 7 "GossipGate$Gate" "number" "I") (by decide +kernel)
  unfold cg_knocking at hf
  refine lv_aload_n hx hb dX0_knocking_0 rfl (lv_at hl 1 rfl) ?_
  refine lv_iconst (v := 4) hx hb dX0_knocking_1 (by decide) ?_
  obtain ⟨r2, X3, h1, hf⟩ := g_b2 hf
  refine g_cV F (As := [.int 4]) (rest := []) (cft_leave h1) (cwV 1 hts gX0_knocking_X9_leave rfl rfl rfl (by decide +kernel) ⟨Nat.le_of_ble_eq_true rfl, Nat.le_of_ble_eq_true rfl⟩) hw (hw.recv (ci := 9) (q0 := 26) rfl rfl rfl) rfl hl.1 rfl (Nat.le_of_ble_eq_true rfl) dX0_knocking_2 (fun H locs hw => ?_)
  obtain ⟨X4, eX4, hf⟩ := g_let hf
  have hw := cw_re eX4 hw
  refine lv_aload_n hx hb dX0_knocking_5 rfl (lv_at hl 0 rfl) ?_
  obtain ⟨g5, hf⟩ := g_g hf
  refine cw_gate_get_0 F hinX0 hinX1 hinX6 hw g5 kf7 dX0_knocking_6 ?_
  exact hret (nI kg) _ _ _ _ _ (g_i1 hf) (congrArg (fun t => cw ty ad G S t wr) (g_i2 hf)) hw dX0_knocking_9

abbrev rm_ci_kind : Room := { frames := 0, cells := 0, slots := 0, locals := 0 }
set_option maxHeartbeats 4000000 in
set_option maxRecDepth 100000 in
theorem cci_kind {l : Launch} {D : va_G} {ty : gT} {A : Nat → Prop} {ad : Nat → Nat} {wr : va_W} {G : Nat} {S : Nat} {kg : Nat} {X : gC} {r : Int32} (hf : ci_kind G S kg X = some r) : gI l D ty A yX1_kind wsX1_kind rm_ci_kind [.ref (ad (100 + kg))] (cw ty ad G S X wr) r (cw ty ad G S X wr) := by
  refine gI_enter (cc := cX1_kind) (maxL := 1) (by decide) rfl (Nat.le_of_ble_eq_true rfl) ?_
  intro p e s m args below meth c Q ls F hl hw hret
  have F : CallFix p m c cX1_kind 1 s args wsX1_kind RX1 := F
  obtain ⟨hx, hb, hml, hown, hts⟩ := id F
  have hl : lv_has ls 1 [(0, .ref (ad (100 + kg)))] := hl
  unfold ci_kind at hf
  refine lv_iconst (v := 2) hx hb dX1_kind_0 (by decide) ?_
  exact hret 2 _ _ _ _ _ (Option.some.inj hf) rfl hw dX1_kind_1

abbrev rm_ci_takes : Room := { frames := 1, cells := 0, slots := 0, locals := 22 }
set_option maxHeartbeats 4000000 in
set_option maxRecDepth 100000 in
theorem cci_takes {l : Launch} {D : va_G} {ty : gT} {A : Nat → Prop} {ad : Nat → Nat} {wr : va_W} {G : Nat} {S : Nat} {kg : Nat} {x1 : Int32} {x2 : Int32} {X : gC} {r : Int32} (hf : ci_takes G S kg X x1 x2 = some r) : gI l D ty A yX1_takes wsX1_takes rm_ci_takes [.ref (ad (100 + kg)), .int x1, .int x2] (cw ty ad G S X wr) r (cw ty ad G S X wr) := by
  refine gI_enter (cc := cX1_takes) (maxL := 3) (by decide) rfl (Nat.le_of_ble_eq_true rfl) ?_
  intro p e s m args below meth c Q ls F hl hw hret
  have F : CallFix p m c cX1_takes 3 s args wsX1_takes RX1 := F
  obtain ⟨hx, hb, hml, hown, hts⟩ := id F
  have hl : lv_has ls 3 [(0, .ref (ad (100 + kg))), (1, .int x1), (2, .int x2)] := hl
  unfold ci_takes at hf
  refine lv_aload_n hx hb dX1_takes_0 rfl (lv_at hl 0 rfl) ?_
  refine lv_iload_n hx hb dX1_takes_1 rfl (lv_at hl 1 rfl) ?_
  refine lv_iload_n hx hb dX1_takes_2 rfl (lv_at hl 2 rfl) ?_
  obtain ⟨g1, hf⟩ := g_g hf
  by_cases c2 : X.2.2 0 kg = 1
  · replace hf := g_t c2 hf
    cases hf
  replace hf := g_f c2 hf
  by_cases c3 : X.2.2 0 kg = 2
  · replace hf := g_t c3 hf
    obtain ⟨r5, h4, hf⟩ := g_b1 hf
    refine g_uI F (As := [.int x1, .int x2]) (rest := []) (ccg_plainTakes h4) (va_cwU 2 hts gX1_takes_X0_plainTakes_u7X1 rfl rfl rfl rfl (by decide +kernel) ⟨Nat.le_of_ble_eq_true rfl, Nat.le_of_ble_eq_true rfl⟩) hw (hw.recv (ci := 1) (q0 := kg + 27) rfl rfl (cw_gateK g1 (kc_2 c2 c3))) rfl hl.1 rfl (Nat.le_of_ble_eq_true rfl) dX1_takes_3 (fun H locs hw => ?_)
    refine lv_iconst (v := 2) hx hb dX1_takes_6 (by decide) ?_
    refine lv_idiv hx hb dX1_takes_7 (by decide) ?_
    exact hret (r5 / 2) _ _ _ _ _ (Option.some.inj hf) rfl hw dX1_takes_8
  · replace hf := g_f c3 hf
    cases hf

abbrev rm_ch_telling : Room := { frames := 3, cells := 0, slots := 0, locals := 63 }
set_option maxHeartbeats 4000000 in
set_option maxRecDepth 100000 in
theorem cch_telling {l : Launch} {D : va_G} {ty : gT} {A : Nat → Prop} {ad : Nat → Nat} {wr : va_W} {G : Nat} {S : Nat} {kg : Nat} {X : gC} {r : Int32} {σ' : gC} (hf : ch_telling G S kg X = some (r, σ')) : gI l D ty A yX6_telling wsX6_telling rm_ch_telling [.ref (ad (100 + kg)), .ref (ad 26)] (cw ty ad G S X wr) r (cw ty ad G S σ' wr) := by
  refine gI_enter (cc := cX6_telling) (maxL := 2) (by decide) rfl (Nat.le_of_ble_eq_true rfl) ?_
  intro p e s m args below meth c Q ls F hl hw hret
  have F : CallFix p m c cX6_telling 2 s args wsX6_telling RX6 := F
  obtain ⟨hx, hb, hml, hown, hts⟩ := id F
  have hl : lv_has ls 2 [(0, .ref (ad (100 + kg))), (1, .ref (ad 26))] := hl
  unfold ch_telling at hf
  refine lv_aload_n hx hb dX6_telling_0 rfl (lv_at hl 1 rfl) ?_
  refine lv_iconst (v := 2) hx hb dX6_telling_1 (by decide) ?_
  obtain ⟨r2, X3, h1, hf⟩ := g_b2 hf
  refine g_cV F (As := [.int 2]) (rest := []) (cft_leave h1) (cwV 1 hts gX6_telling_X9_leave rfl rfl rfl (by decide +kernel) ⟨Nat.le_of_ble_eq_true rfl, Nat.le_of_ble_eq_true rfl⟩) hw (hw.recv (ci := 9) (q0 := 26) rfl rfl rfl) rfl hl.1 rfl (Nat.le_of_ble_eq_true rfl) dX6_telling_2 (fun H locs hw => ?_)
  obtain ⟨X4, eX4, hf⟩ := g_let hf
  have hw := cw_re eX4 hw
  refine lv_aload_n hx hb dX6_telling_5 rfl (lv_at hl 0 rfl) ?_
  refine lv_aload_n hx hb dX6_telling_6 rfl (lv_at hl 1 rfl) ?_
  obtain ⟨g5, hf⟩ := g_g hf
  by_cases c6 : X4.2.2 0 kg = 1
  · replace hf := g_t c6 hf
    obtain ⟨r9, X10, h8, hf⟩ := g_b2 hf
    refine g_pI (hw.2.1.1 6 _ rfl).2 F (As := [.ref (ad 26)]) (rest := []) (ccg_telling h8) (va_cwSU 1 hts gX6_telling_X0_telling_s19 rfl rfl rfl (by decide +kernel) ⟨Nat.le_of_ble_eq_true rfl, Nat.le_of_ble_eq_true rfl⟩) hw (hw.recv (ci := 6) (q0 := kg + 27) rfl rfl (cw_gateK g5 (kc_1 c6))) rfl hl.1 rfl (Nat.le_of_ble_eq_true rfl) dX6_telling_7 (fun H locs hw => ?_)
    refine lv_bipush (v := 100) hx hb dX6_telling_10 (by decide) ?_
    refine lv_iadd hx hb dX6_telling_12 ?_
    exact hret (r9 + 100) _ _ _ _ _ (g_i1 hf) (congrArg (fun t => cw ty ad G S t wr) (g_i2 hf)) hw dX6_telling_13
  replace hf := g_f c6 hf
  by_cases c7 : X4.2.2 0 kg = 2
  · replace hf := g_t c7 hf
    obtain ⟨r12, X13, h11, hf⟩ := g_b2 hf
    refine g_pI (hw.2.1.1 1 _ rfl).2 F (As := [.ref (ad 26)]) (rest := []) (ccg_telling h11) (va_cwSU 1 hts gX6_telling_X0_telling_s19 rfl rfl rfl (by decide +kernel) ⟨Nat.le_of_ble_eq_true rfl, Nat.le_of_ble_eq_true rfl⟩) hw (hw.recv (ci := 1) (q0 := kg + 27) rfl rfl (cw_gateK g5 (kc_2 c6 c7))) rfl hl.1 rfl (Nat.le_of_ble_eq_true rfl) dX6_telling_7 (fun H locs hw => ?_)
    refine lv_bipush (v := 100) hx hb dX6_telling_10 (by decide) ?_
    refine lv_iadd hx hb dX6_telling_12 ?_
    exact hret (r12 + 100) _ _ _ _ _ (g_i1 hf) (congrArg (fun t => cw ty ad G S t wr) (g_i2 hf)) hw dX6_telling_13
  · replace hf := g_f c7 hf
    obtain ⟨r15, X16, h14, hf⟩ := g_b2 hf
    refine g_pI (hw.2.1.1 0 _ rfl).2 F (As := [.ref (ad 26)]) (rest := []) (ccg_telling h14) (va_cwSU 1 hts gX6_telling_X0_telling_s19 rfl rfl rfl (by decide +kernel) ⟨Nat.le_of_ble_eq_true rfl, Nat.le_of_ble_eq_true rfl⟩) hw (hw.recv (ci := 0) (q0 := kg + 27) rfl rfl (cw_gateK g5 (kc_0 c6 c7))) rfl hl.1 rfl (Nat.le_of_ble_eq_true rfl) dX6_telling_7 (fun H locs hw => ?_)
    refine lv_bipush (v := 100) hx hb dX6_telling_10 (by decide) ?_
    refine lv_iadd hx hb dX6_telling_12 ?_
    exact hret (r15 + 100) _ _ _ _ _ (g_i1 hf) (congrArg (fun t => cw ty ad G S t wr) (g_i2 hf)) hw dX6_telling_13

abbrev rm_ci_telling : Room := { frames := 4, cells := 0, slots := 0, locals := 84 }
set_option maxHeartbeats 4000000 in
set_option maxRecDepth 100000 in
theorem cci_telling {l : Launch} {D : va_G} {ty : gT} {A : Nat → Prop} {ad : Nat → Nat} {wr : va_W} {G : Nat} {S : Nat} {kg : Nat} {X : gC} {r : Int32} {σ' : gC} (hf : ci_telling G S kg X = some (r, σ')) : gI l D ty A yX1_telling wsX1_telling rm_ci_telling [.ref (ad (100 + kg)), .ref (ad 26)] (cw ty ad G S X wr) r (cw ty ad G S σ' wr) := by
  refine gI_enter (cc := cX1_telling) (maxL := 3) (by decide) rfl (Nat.le_of_ble_eq_true rfl) ?_
  intro p e s m args below meth c Q ls F hl hw hret
  have F : CallFix p m c cX1_telling 3 s args wsX1_telling RX1 := F
  obtain ⟨hx, hb, hml, hown, hts⟩ := id F
  have hl : lv_has ls 3 [(0, .ref (ad (100 + kg))), (1, .ref (ad 26))] := hl
  unfold ci_telling at hf
  refine lv_aload_n hx hb dX1_telling_0 rfl (lv_at hl 1 rfl) ?_
  refine lv_iconst (v := 3) hx hb dX1_telling_1 (by decide) ?_
  obtain ⟨r2, X3, h1, hf⟩ := g_b2 hf
  refine g_cV F (As := [.int 3]) (rest := []) (cft_leave h1) (cwV 1 hts gX1_telling_X9_leave rfl rfl rfl (by decide +kernel) ⟨Nat.le_of_ble_eq_true rfl, Nat.le_of_ble_eq_true rfl⟩) hw (hw.recv (ci := 9) (q0 := 26) rfl rfl rfl) rfl hl.1 rfl (Nat.le_of_ble_eq_true rfl) dX1_telling_2 (fun H locs hw => ?_)
  obtain ⟨X4, eX4, hf⟩ := g_let hf
  have hw := cw_re eX4 hw
  refine lv_aload_n hx hb dX1_telling_5 rfl (lv_at hl 0 rfl) ?_
  refine lv_aload_n hx hb dX1_telling_6 rfl (lv_at hl 1 rfl) ?_
  obtain ⟨g5, hf⟩ := g_g hf
  by_cases c6 : X4.2.2 0 kg = 1
  · replace hf := g_t c6 hf
    obtain ⟨r9, X10, h8, hf⟩ := g_b2 hf
    refine g_pI (hw.2.1.1 6 _ rfl).2 F (As := [.ref (ad 26)]) (rest := []) (cch_telling h8) (va_cwSU 1 hts gX1_telling_X6_telling_s19 rfl rfl rfl (by decide +kernel) ⟨Nat.le_of_ble_eq_true rfl, Nat.le_of_ble_eq_true rfl⟩) hw (hw.recv (ci := 6) (q0 := kg + 27) rfl rfl (cw_gateK g5 (kc_1 c6))) rfl hl.1 rfl (Nat.le_of_ble_eq_true rfl) dX1_telling_7 (fun H locs hw => ?_)
    refine lv_istore_n (lv' := [(2, .int r9), (0, .ref (ad (100 + kg))), (1, .ref (ad 26))]) hx hb dX1_telling_10 rfl hl (by decide) rfl (fun ls hl => ?_)
    refine lv_iload_n hx hb dX1_telling_11 rfl (lv_at hl 0 rfl) ?_
    refine lv_aload_n hx hb dX1_telling_12 rfl (lv_at hl 1 rfl) ?_
    refine lv_aload_n hx hb dX1_telling_13 rfl (lv_at hl 2 rfl) ?_
    by_cases c11 : X10.2.2 0 kg = 1
    · replace hf := g_t c11 hf
      cases hf
    replace hf := g_f c11 hf
    by_cases c12 : X10.2.2 0 kg = 2
    · replace hf := g_t c12 hf
      obtain ⟨r14, X15, h13, hf⟩ := g_b2 hf
      refine g_uI F (As := [.ref (ad 26)]) (rest := [.int r9]) (ccg_plainTelling h13) (va_cwU 1 hts gX1_telling_X0_plainTelling_u23X1 rfl rfl rfl rfl (by decide +kernel) ⟨Nat.le_of_ble_eq_true rfl, Nat.le_of_ble_eq_true rfl⟩) hw (hw.recv (ci := 1) (q0 := kg + 27) rfl rfl (cw_gateK g5 (kc_2 c11 c12))) rfl hl.1 rfl (Nat.le_of_ble_eq_true rfl) dX1_telling_14 (fun H locs hw => ?_)
      refine lv_iadd hx hb dX1_telling_17 ?_
      exact hret (r9 + r14) _ _ _ _ _ (g_i1 hf) (congrArg (fun t => cw ty ad G S t wr) (g_i2 hf)) hw dX1_telling_18
    · replace hf := g_f c12 hf
      cases hf
  replace hf := g_f c6 hf
  by_cases c7 : X4.2.2 0 kg = 2
  · replace hf := g_t c7 hf
    obtain ⟨r17, X18, h16, hf⟩ := g_b2 hf
    refine g_pI (hw.2.1.1 1 _ rfl).2 F (As := [.ref (ad 26)]) (rest := []) (cch_telling h16) (va_cwSU 1 hts gX1_telling_X6_telling_s19 rfl rfl rfl (by decide +kernel) ⟨Nat.le_of_ble_eq_true rfl, Nat.le_of_ble_eq_true rfl⟩) hw (hw.recv (ci := 1) (q0 := kg + 27) rfl rfl (cw_gateK g5 (kc_2 c6 c7))) rfl hl.1 rfl (Nat.le_of_ble_eq_true rfl) dX1_telling_7 (fun H locs hw => ?_)
    refine lv_istore_n (lv' := [(2, .int r17), (0, .ref (ad (100 + kg))), (1, .ref (ad 26))]) hx hb dX1_telling_10 rfl hl (by decide) rfl (fun ls hl => ?_)
    refine lv_iload_n hx hb dX1_telling_11 rfl (lv_at hl 0 rfl) ?_
    refine lv_aload_n hx hb dX1_telling_12 rfl (lv_at hl 1 rfl) ?_
    refine lv_aload_n hx hb dX1_telling_13 rfl (lv_at hl 2 rfl) ?_
    by_cases c19 : X18.2.2 0 kg = 1
    · replace hf := g_t c19 hf
      cases hf
    replace hf := g_f c19 hf
    by_cases c20 : X18.2.2 0 kg = 2
    · replace hf := g_t c20 hf
      obtain ⟨r22, X23, h21, hf⟩ := g_b2 hf
      refine g_uI F (As := [.ref (ad 26)]) (rest := [.int r17]) (ccg_plainTelling h21) (va_cwU 1 hts gX1_telling_X0_plainTelling_u23X1 rfl rfl rfl rfl (by decide +kernel) ⟨Nat.le_of_ble_eq_true rfl, Nat.le_of_ble_eq_true rfl⟩) hw (hw.recv (ci := 1) (q0 := kg + 27) rfl rfl (cw_gateK g5 (kc_2 c19 c20))) rfl hl.1 rfl (Nat.le_of_ble_eq_true rfl) dX1_telling_14 (fun H locs hw => ?_)
      refine lv_iadd hx hb dX1_telling_17 ?_
      exact hret (r17 + r22) _ _ _ _ _ (g_i1 hf) (congrArg (fun t => cw ty ad G S t wr) (g_i2 hf)) hw dX1_telling_18
    · replace hf := g_f c20 hf
      cases hf
  · replace hf := g_f c7 hf
    obtain ⟨r25, X26, h24, hf⟩ := g_b2 hf
    refine g_pI (hw.2.1.1 0 _ rfl).2 F (As := [.ref (ad 26)]) (rest := []) (cch_telling h24) (va_cwSU 1 hts gX1_telling_X6_telling_s19 rfl rfl rfl (by decide +kernel) ⟨Nat.le_of_ble_eq_true rfl, Nat.le_of_ble_eq_true rfl⟩) hw (hw.recv (ci := 0) (q0 := kg + 27) rfl rfl (cw_gateK g5 (kc_0 c6 c7))) rfl hl.1 rfl (Nat.le_of_ble_eq_true rfl) dX1_telling_7 (fun H locs hw => ?_)
    refine lv_istore_n (lv' := [(2, .int r25), (0, .ref (ad (100 + kg))), (1, .ref (ad 26))]) hx hb dX1_telling_10 rfl hl (by decide) rfl (fun ls hl => ?_)
    refine lv_iload_n hx hb dX1_telling_11 rfl (lv_at hl 0 rfl) ?_
    refine lv_aload_n hx hb dX1_telling_12 rfl (lv_at hl 1 rfl) ?_
    refine lv_aload_n hx hb dX1_telling_13 rfl (lv_at hl 2 rfl) ?_
    by_cases c27 : X26.2.2 0 kg = 1
    · replace hf := g_t c27 hf
      cases hf
    replace hf := g_f c27 hf
    by_cases c28 : X26.2.2 0 kg = 2
    · replace hf := g_t c28 hf
      obtain ⟨r30, X31, h29, hf⟩ := g_b2 hf
      refine g_uI F (As := [.ref (ad 26)]) (rest := [.int r25]) (ccg_plainTelling h29) (va_cwU 1 hts gX1_telling_X0_plainTelling_u23X1 rfl rfl rfl rfl (by decide +kernel) ⟨Nat.le_of_ble_eq_true rfl, Nat.le_of_ble_eq_true rfl⟩) hw (hw.recv (ci := 1) (q0 := kg + 27) rfl rfl (cw_gateK g5 (kc_2 c27 c28))) rfl hl.1 rfl (Nat.le_of_ble_eq_true rfl) dX1_telling_14 (fun H locs hw => ?_)
      refine lv_iadd hx hb dX1_telling_17 ?_
      exact hret (r25 + r30) _ _ _ _ _ (g_i1 hf) (congrArg (fun t => cw ty ad G S t wr) (g_i2 hf)) hw dX1_telling_18
    · replace hf := g_f c28 hf
      cases hf

abbrev rm_ci_knocking : Room := { frames := 1, cells := 0, slots := 0, locals := 21 }
set_option maxHeartbeats 4000000 in
set_option maxRecDepth 100000 in
theorem cci_knocking {l : Launch} {D : va_G} {ty : gT} {A : Nat → Prop} {ad : Nat → Nat} {wr : va_W} {G : Nat} {S : Nat} {kg : Nat} {X : gC} {r : Int32} {σ' : gC} (hf : ci_knocking G S kg X = some (r, σ')) : gI l D ty A yX1_knocking wsX1_knocking rm_ci_knocking [.ref (ad (100 + kg)), .ref (ad 26)] (cw ty ad G S X wr) r (cw ty ad G S σ' wr) := by
  refine gI_enter (cc := cX1_knocking) (maxL := 2) (by decide) rfl (Nat.le_of_ble_eq_true rfl) ?_
  intro p e s m args below meth c Q ls F hl hw hret
  have F : CallFix p m c cX1_knocking 2 s args wsX1_knocking RX1 := F
  obtain ⟨hx, hb, hml, hown, hts⟩ := id F
  have hl : lv_has ls 2 [(0, .ref (ad (100 + kg))), (1, .ref (ad 26))] := hl
  unfold ci_knocking at hf
  refine lv_aload_n hx hb dX1_knocking_0 rfl (lv_at hl 1 rfl) ?_
  refine lv_iconst (v := 5) hx hb dX1_knocking_1 (by decide) ?_
  obtain ⟨r2, X3, h1, hf⟩ := g_b2 hf
  refine g_cV F (As := [.int 5]) (rest := []) (cft_leave h1) (cwV 1 hts gX1_knocking_X9_leave rfl rfl rfl (by decide +kernel) ⟨Nat.le_of_ble_eq_true rfl, Nat.le_of_ble_eq_true rfl⟩) hw (hw.recv (ci := 9) (q0 := 26) rfl rfl rfl) rfl hl.1 rfl (Nat.le_of_ble_eq_true rfl) dX1_knocking_2 (fun H locs hw => ?_)
  obtain ⟨X4, eX4, hf⟩ := g_let hf
  have hw := cw_re eX4 hw
  refine lv_bipush (v := 90) hx hb dX1_knocking_5 (by decide) ?_
  exact hret 90 _ _ _ _ _ (g_i1 hf) (congrArg (fun t => cw ty ad G S t wr) (g_i2 hf)) hw dX1_knocking_7

abbrev rm_fd_note : Room := { frames := 0, cells := 0, slots := 0, locals := 0 }
set_option maxHeartbeats 4000000 in
set_option maxRecDepth 100000 in
theorem cfd_note {l : Launch} {D : va_G} {ty : gT} {A : Nat → Prop} {ad : Nat → Nat} {K : gK} {wr : va_W} {x1 : Int32} {x2 : Int32} {σ : gS} {r : Int32} {σ' : gS} (hf : fd_note σ x1 x2 = some (r, σ')) : gI l D ty A yX2_note wsX2_note rm_fd_note [.ref (ad 23), .int x1, .int x2] (cf ty ad K σ wr) r (cf ty ad K σ' wr) := by
  refine gI_enter (cc := cX2_note) (maxL := 3) (by decide) rfl (Nat.le_of_ble_eq_true rfl) ?_
  intro p e s m args below meth c Q ls F hl hw hret
  have F : CallFix p m c cX2_note 3 s args wsX2_note RX2 := F
  obtain ⟨hx, hb, hml, hown, hts⟩ := id F
  have hl : lv_has ls 3 [(0, .ref (ad 23)), (1, .int x1), (2, .int x2)] := hl
  have hinX2 : ∀ w ∈ wsX20, w ∈ wsX2_note := by first | exact fun w h => List.mem_cons_of_mem _ (List.mem_append_right _ h) | decide +kernel
  have kf15 := hts (.fieldLink RX2 15 "GossipGate$Readings" "pence" "[I") (by decide +kernel)
  have kf18 := hts (.fieldLink RX2 18 "GossipGate$Readings" "count" "I") (by decide +kernel)
  have kf9 := hts (.fieldLink RX2 9 "GossipGate$Readings" "gates" "[I") (by decide +kernel)
  unfold fd_note at hf
  refine lv_aload_n hx hb dX2_note_0 rfl (lv_at hl 0 rfl) ?_
  refine cf_get_X2_2 F hinX2 hw kf18 dX2_note_1 ?_
  refine lv_bipush (v := 8) hx hb dX2_note_4 (by decide) ?_
  refine lv_icmp_lt (tgt := 12) hx hb dX2_note_6 (by decide) (fun c1 => ?_) (fun c1 => ?_)
  · have hf := g_t c1 hf
    refine lv_aload_n hx hb dX2_note_12 rfl (lv_at hl 0 rfl) ?_
    refine cf_get_X2_0 F hinX2 hw kf9 dX2_note_13 ?_
    refine lv_aload_n hx hb dX2_note_16 rfl (lv_at hl 0 rfl) ?_
    refine cf_get_X2_2 F hinX2 hw kf18 dX2_note_17 ?_
    refine lv_iload_n hx hb dX2_note_20 rfl (lv_at hl 1 rfl) ?_
    obtain ⟨g2, hf⟩ := g_g hf
    refine cf_st_24 F hw g2 dX2_note_21 (fun H locs hw => ?_)
    obtain ⟨σ3, eσ3, hf⟩ := g_let hf
    have hw := cf_re eσ3 hw
    refine lv_aload_n hx hb dX2_note_22 rfl (lv_at hl 0 rfl) ?_
    refine cf_get_X2_1 F hinX2 hw kf15 dX2_note_23 ?_
    refine lv_aload_n hx hb dX2_note_26 rfl (lv_at hl 0 rfl) ?_
    refine cf_get_X2_2 F hinX2 hw kf18 dX2_note_27 ?_
    refine lv_iload_n hx hb dX2_note_30 rfl (lv_at hl 2 rfl) ?_
    obtain ⟨g4, hf⟩ := g_g hf
    refine cf_st_25 F hw g4 dX2_note_31 (fun H locs hw => ?_)
    obtain ⟨σ5, eσ5, hf⟩ := g_let hf
    have hw := cf_re eσ5 hw
    refine lv_aload_n hx hb dX2_note_32 rfl (lv_at hl 0 rfl) ?_
    refine lv_dup hx hb dX2_note_33 rfl ?_
    refine cf_get_X2_2 F hinX2 hw kf18 dX2_note_34 ?_
    refine lv_iconst (v := 1) hx hb dX2_note_37 (by decide) ?_
    refine lv_iadd hx hb dX2_note_38 ?_
    refine cf_put_X2_2 F hinX2 hw kf18 dX2_note_39 (fun H locs hw => ?_)
    obtain ⟨σ6, eσ6, hf⟩ := g_let hf
    have hw := cf_re eσ6 hw
    refine lv_aload_n hx hb dX2_note_42 rfl (lv_at hl 0 rfl) ?_
    refine cf_get_X2_2 F hinX2 hw kf18 dX2_note_43 ?_
    refine lv_iconst (v := 1) hx hb dX2_note_46 (by decide) ?_
    refine lv_isub hx hb dX2_note_47 ?_
    exact hret ((σ6.1 5) - 1) _ _ _ _ _ (g_i1 hf) (congrArg (fun t => cf ty ad K t wr) (g_i2 hf)) hw dX2_note_48
  · have hf := g_f c1 hf
    refine lv_bipush (v := (-4)) hx hb dX2_note_9 (by decide) ?_
    exact hret (-4) _ _ _ _ _ (g_i1 hf) (congrArg (fun t => cf ty ad K t wr) (g_i2 hf)) hw dX2_note_11

abbrev rm_fo_begin : Room := { frames := 1, cells := 0, slots := 0, locals := 23 }
set_option maxHeartbeats 4000000 in
set_option maxRecDepth 100000 in
theorem cfo_begin {l : Launch} {D : va_G} {ty : gT} {A : Nat → Prop} {ad : Nat → Nat} {K : gK} {wr : va_W} {σ : gS} {σ' : gS} (hf : fo_begin σ = some ((), σ')) : gV l D ty A yX3_begin wsX3_begin rm_fo_begin [.ref (ad 16)] (cf ty ad K σ wr) (cf ty ad K σ' wr) := by
  refine gV_enter (cc := cX3_begin) (maxL := 1) (by decide) rfl (Nat.le_of_ble_eq_true rfl) ?_
  intro p e s m args below meth c Q ls F hl hw hret
  have F : CallFix p m c cX3_begin 1 s args wsX3_begin RX3 := F
  obtain ⟨hx, hb, hml, hown, hts⟩ := id F
  have hl : lv_has ls 1 [(0, .ref (ad 16))] := hl
  have hinX3 : ∀ w ∈ wsX30, w ∈ wsX3_begin := by first | exact fun w h => List.mem_cons_of_mem _ (List.mem_append_right _ h) | decide +kernel
  have kf24 := hts (.fieldLink RX3 24 "GossipGate$Route" "bundles" "I") (by decide +kernel)
  have kf28 := hts (.fieldLink RX3 28 "GossipGate$Route" "firstWrong" "I") (by decide +kernel)
  have kf31 := hts (.fieldLink RX3 31 "GossipGate$Route" "gone" "[I") (by decide +kernel)
  have kf34 := hts (.fieldLink RX3 34 "GossipGate$Route" "lastDays" "[I") (by decide +kernel)
  unfold fo_begin at hf
  refine lv_aload_n hx hb dX3_begin_0 rfl (lv_at hl 0 rfl) ?_
  refine lv_iconst (v := 0) hx hb dX3_begin_1 (by decide) ?_
  refine cf_put_X3_4 F hinX3 hw kf24 dX3_begin_2 (fun H locs hw => ?_)
  obtain ⟨σ1, eσ1, hf⟩ := g_let hf
  have hw := cf_re eσ1 hw
  refine lv_aload_n hx hb dX3_begin_5 rfl (lv_at hl 0 rfl) ?_
  refine lv_bipush (v := (-9)) hx hb dX3_begin_6 (by decide) ?_
  refine cf_put_X3_5 F hinX3 hw kf28 dX3_begin_8 (fun H locs hw => ?_)
  obtain ⟨σ2, eσ2, hf⟩ := g_let hf
  have hw := cf_re eσ2 hw
  refine lv_aload_n hx hb dX3_begin_11 rfl (lv_at hl 0 rfl) ?_
  refine cf_get_X3_6 F hinX3 hw kf31 dX3_begin_12 ?_
  refine lv_iconst (v := 0) hx hb dX3_begin_15 (by decide) ?_
  refine g_sV F (As := [.ref (ad 21), .int 0]) (rest := []) (c_fill (x := (0 : Int32)) (q0 := 21) (n := 4) (by decide) rfl) (va_cwS 2 hts gX3_begin_J7_fill_53178 rfl rfl rfl (by decide +kernel) ⟨Nat.le_of_ble_eq_true rfl, Nat.le_of_ble_eq_true rfl⟩) hw rfl hl.1 rfl (Nat.le_of_ble_eq_true rfl) dX3_begin_16 (fun H locs hw => ?_)
  replace hw := gW.eq cf_fill_21 hw
  obtain ⟨σ3, eσ3, hf⟩ := g_let hf
  have hw := cf_re eσ3 hw
  refine lv_aload_n hx hb dX3_begin_19 rfl (lv_at hl 0 rfl) ?_
  refine cf_get_X3_7 F hinX3 hw kf34 dX3_begin_20 ?_
  refine lv_iconst (v := 0) hx hb dX3_begin_23 (by decide) ?_
  refine g_sV F (As := [.ref (ad 22), .int 0]) (rest := []) (c_fill (x := (0 : Int32)) (q0 := 22) (n := 4) (by decide) rfl) (va_cwS 2 hts gX3_begin_J7_fill_53178 rfl rfl rfl (by decide +kernel) ⟨Nat.le_of_ble_eq_true rfl, Nat.le_of_ble_eq_true rfl⟩) hw rfl hl.1 rfl (Nat.le_of_ble_eq_true rfl) dX3_begin_24 (fun H locs hw => ?_)
  replace hw := gW.eq cf_fill_22 hw
  obtain ⟨σ4, eσ4, hf⟩ := g_let hf
  have hw := cf_re eσ4 hw
  exact hret _ _ _ _ _ (congrArg (fun t => cf ty ad K t wr) (g_i2 hf)) hw dX3_begin_27

abbrev rm_cx_isWithin : Room := { frames := 0, cells := 0, slots := 0, locals := 0 }
set_option maxHeartbeats 4000000 in
set_option maxRecDepth 100000 in
theorem ccx_isWithin {l : Launch} {D : va_G} {ty : gT} {A : Nat → Prop} {ws : va_W} {x1 : Int32} {x2 : Int32} {x3 : Int32} {r : Bool} (hf : cx_isWithin x1 x2 x3 = some r) : gI l D ty A yX10_isWithin wsX10_isWithin rm_cx_isWithin [.int x1, .int x2, .int x3] ws (bI r) ws := by
  refine gZ_enter (cc := cX10_isWithin) (maxL := 3) (by decide) rfl (Nat.le_of_ble_eq_true rfl) ?_
  intro p e s m args below meth c Q ls F hl hw hret
  have F : CallFix p m c cX10_isWithin 3 s args wsX10_isWithin RX10 := F
  obtain ⟨hx, hb, hml, hown, hts⟩ := id F
  have hl : lv_has ls 3 [(0, .int x1), (1, .int x2), (2, .int x3)] := hl
  unfold cx_isWithin at hf
  refine lv_iload_n hx hb dX10_isWithin_0 rfl (lv_at hl 0 rfl) ?_
  refine lv_iload_n hx hb dX10_isWithin_1 rfl (lv_at hl 1 rfl) ?_
  refine lv_icmp_lt (tgt := 14) hx hb dX10_isWithin_2 (by decide) (fun c1 => ?_) (fun c1 => ?_)
  · have hf := g_t c1 hf
    refine lv_iconst (v := 0) hx hb dX10_isWithin_14 (by decide) ?_
    exact hret false _ _ _ _ _ (Option.some.inj hf) rfl hw dX10_isWithin_15
  · have hf := g_f c1 hf
    refine lv_iload_n hx hb dX10_isWithin_5 rfl (lv_at hl 0 rfl) ?_
    refine lv_iload_n hx hb dX10_isWithin_6 rfl (lv_at hl 2 rfl) ?_
    refine lv_icmp_gt (tgt := 14) hx hb dX10_isWithin_7 (by decide) (fun c2 => ?_) (fun c2 => ?_)
    · have hf := g_t c2 hf
      refine lv_iconst (v := 0) hx hb dX10_isWithin_14 (by decide) ?_
      exact hret false _ _ _ _ _ (Option.some.inj hf) rfl hw dX10_isWithin_15
    · have hf := g_f c2 hf
      refine lv_iconst (v := 1) hx hb dX10_isWithin_10 (by decide) ?_
      refine lv_goto (tgt := 15) hx hb dX10_isWithin_11 (by decide) ?_
      exact hret true _ _ _ _ _ (Option.some.inj hf) rfl hw dX10_isWithin_15

abbrev rm_fo_bundleOf : Room := { frames := 0, cells := 0, slots := 0, locals := 0 }
set_option maxHeartbeats 4000000 in
set_option maxRecDepth 100000 in
theorem cfo_bundleOf {l : Launch} {D : va_G} {ty : gT} {A : Nat → Prop} {ad : Nat → Nat} {K : gK} {wr : va_W} {x1 : Int32} {x2 : Int32} {x3 : Int32} {σ : gS} {r : Int32} {σ' : gS} (hf : fo_bundleOf σ x1 x2 x3 = some (r, σ')) : gI l D ty A yX3_bundleOf wsX3_bundleOf rm_fo_bundleOf [.ref (ad 16), .int x1, .int x2, .int x3] (cf ty ad K σ wr) r (cf ty ad K σ' wr) := by
  refine gI_enter (cc := cX3_bundleOf) (maxL := 5) (by decide) rfl (Nat.le_of_ble_eq_true rfl) ?_
  intro p e s m args below meth c Q ls F hl hw hret
  have F : CallFix p m c cX3_bundleOf 5 s args wsX3_bundleOf RX3 := F
  obtain ⟨hx, hb, hml, hown, hts⟩ := id F
  have hl : lv_has ls 5 [(0, .ref (ad 16)), (1, .int x1), (2, .int x2), (3, .int x3)] := hl
  have hinX3 : ∀ w ∈ wsX30, w ∈ wsX3_bundleOf := by first | exact fun w h => List.mem_cons_of_mem _ (List.mem_append_right _ h) | decide +kernel
  have kf15 := hts (.fieldLink RX3 15 "GossipGate$Route" "gates" "[I") (by decide +kernel)
  have kf18 := hts (.fieldLink RX3 18 "GossipGate$Route" "days" "[I") (by decide +kernel)
  have kf21 := hts (.fieldLink RX3 21 "GossipGate$Route" "thirds" "[I") (by decide +kernel)
  have kf24 := hts (.fieldLink RX3 24 "GossipGate$Route" "bundles" "I") (by decide +kernel)
  have kf9 := hts (.fieldLink RX3 9 "GossipGate$Route" "stories" "[I") (by decide +kernel)
  have B3 : ∀ (n3 : Nat) (v1 : Int32) (v2 : Int32) (v3 : Int32) (v4 : Int32) (σ : gS) (H : Heap) (locs : List Loc) (ls : Array Slot), lv_has ls 5 [(0, .ref (ad 16)), (1, .int v1), (2, .int v2), (3, .int v3), (4, .int v4)] → gW D ty A (cf ty ad K σ wr) s s.heap H locs → fo_bundleOf_b3 n3 v1 v2 v3 v4 σ = some (r, σ') → W p l e rm_fo_bundleOf s m args below meth c H locs 0 0 Q (F0 m 3 ls []) := by
    intro n3
    induction n3 with
    | zero => intro v1 v2 v3 v4 σ H locs ls hl hw hf; cases hf
    | succ n3 ih3 =>
      have B48 : ∀ (v1 : Int32) (v2 : Int32) (v3 : Int32) (v4 : Int32) (σ : gS) (H : Heap) (locs : List Loc) (ls : Array Slot), lv_has ls 5 [(0, .ref (ad 16)), (1, .int v1), (2, .int v2), (3, .int v3), (4, .int v4)] → gW D ty A (cf ty ad K σ wr) s s.heap H locs → fo_bundleOf_b48 (fo_bundleOf_b3 n3) v1 v2 v3 v4 σ = some (r, σ') → W p l e rm_fo_bundleOf s m args below meth c H locs 0 0 Q (F0 m 48 ls []) := by
        intro v1 v2 v3 v4 σ H locs ls hl hw hf
        unfold fo_bundleOf_b48 at hf
        refine lv_iinc (v := v4 + 1) (lv' := [(4, .int (v4 + 1)), (0, .ref (ad 16)), (1, .int v1), (2, .int v2), (3, .int v3)]) hx hb dX3_bundleOf_48 hl (k := 4) rfl rfl (by decide) rfl (fun ls hl => ?_)
        refine lv_goto (tgt := 3) hx hb dX3_bundleOf_51 (by decide) ?_
        exact ih3 v1 v2 v3 (v4 + 1) σ _ _ _ (lv_sub hl [1, 2, 3, 4, 0] rfl) hw hf
      intro v1 v2 v3 v4 σ H locs ls hl hw hf
      rw [fo_bundleOf_b3] at hf
      refine lv_iload hx hb dX3_bundleOf_3 (lv_at hl 4 rfl) ?_
      refine lv_aload_n hx hb dX3_bundleOf_5 rfl (lv_at hl 0 rfl) ?_
      refine cf_get_X3_4 F hinX3 hw kf24 dX3_bundleOf_6 ?_
      refine lv_icmp_ge (tgt := 54) hx hb dX3_bundleOf_9 (by decide) (fun c1 => ?_) (fun c1 => ?_)
      · have hf := g_t c1 hf
        refine lv_aload_n hx hb dX3_bundleOf_54 rfl (lv_at hl 0 rfl) ?_
        refine cf_get_X3_4 F hinX3 hw kf24 dX3_bundleOf_55 ?_
        refine lv_bipush (v := 12) hx hb dX3_bundleOf_58 (by decide) ?_
        refine lv_icmp_lt (tgt := 66) hx hb dX3_bundleOf_60 (by decide) (fun c2 => ?_) (fun c2 => ?_)
        · have hf := g_t c2 hf
          refine lv_aload_n hx hb dX3_bundleOf_66 rfl (lv_at hl 0 rfl) ?_
          refine cf_get_X3_0 F hinX3 hw kf9 dX3_bundleOf_67 ?_
          refine lv_aload_n hx hb dX3_bundleOf_70 rfl (lv_at hl 0 rfl) ?_
          refine cf_get_X3_4 F hinX3 hw kf24 dX3_bundleOf_71 ?_
          refine lv_iload_n hx hb dX3_bundleOf_74 rfl (lv_at hl 1 rfl) ?_
          obtain ⟨g3, hf⟩ := g_g hf
          refine cf_st_17 F hw g3 dX3_bundleOf_75 (fun H locs hw => ?_)
          obtain ⟨σ4, eσ4, hf⟩ := g_let hf
          have hw := cf_re eσ4 hw
          refine lv_aload_n hx hb dX3_bundleOf_76 rfl (lv_at hl 0 rfl) ?_
          refine cf_get_X3_1 F hinX3 hw kf15 dX3_bundleOf_77 ?_
          refine lv_aload_n hx hb dX3_bundleOf_80 rfl (lv_at hl 0 rfl) ?_
          refine cf_get_X3_4 F hinX3 hw kf24 dX3_bundleOf_81 ?_
          refine lv_iload_n hx hb dX3_bundleOf_84 rfl (lv_at hl 2 rfl) ?_
          obtain ⟨g5, hf⟩ := g_g hf
          refine cf_st_18 F hw g5 dX3_bundleOf_85 (fun H locs hw => ?_)
          obtain ⟨σ6, eσ6, hf⟩ := g_let hf
          have hw := cf_re eσ6 hw
          refine lv_aload_n hx hb dX3_bundleOf_86 rfl (lv_at hl 0 rfl) ?_
          refine cf_get_X3_2 F hinX3 hw kf18 dX3_bundleOf_87 ?_
          refine lv_aload_n hx hb dX3_bundleOf_90 rfl (lv_at hl 0 rfl) ?_
          refine cf_get_X3_4 F hinX3 hw kf24 dX3_bundleOf_91 ?_
          refine lv_iload_n hx hb dX3_bundleOf_94 rfl (lv_at hl 3 rfl) ?_
          obtain ⟨g7, hf⟩ := g_g hf
          refine cf_st_19 F hw g7 dX3_bundleOf_95 (fun H locs hw => ?_)
          obtain ⟨σ8, eσ8, hf⟩ := g_let hf
          have hw := cf_re eσ8 hw
          refine lv_aload_n hx hb dX3_bundleOf_96 rfl (lv_at hl 0 rfl) ?_
          refine cf_get_X3_3 F hinX3 hw kf21 dX3_bundleOf_97 ?_
          refine lv_aload_n hx hb dX3_bundleOf_100 rfl (lv_at hl 0 rfl) ?_
          refine cf_get_X3_4 F hinX3 hw kf24 dX3_bundleOf_101 ?_
          refine lv_iconst (v := 0) hx hb dX3_bundleOf_104 (by decide) ?_
          obtain ⟨g9, hf⟩ := g_g hf
          refine cf_st_20 F hw g9 dX3_bundleOf_105 (fun H locs hw => ?_)
          obtain ⟨σ10, eσ10, hf⟩ := g_let hf
          have hw := cf_re eσ10 hw
          refine lv_aload_n hx hb dX3_bundleOf_106 rfl (lv_at hl 0 rfl) ?_
          refine lv_dup hx hb dX3_bundleOf_107 rfl ?_
          refine cf_get_X3_4 F hinX3 hw kf24 dX3_bundleOf_108 ?_
          refine lv_iconst (v := 1) hx hb dX3_bundleOf_111 (by decide) ?_
          refine lv_iadd hx hb dX3_bundleOf_112 ?_
          refine cf_put_X3_4 F hinX3 hw kf24 dX3_bundleOf_113 (fun H locs hw => ?_)
          obtain ⟨σ11, eσ11, hf⟩ := g_let hf
          have hw := cf_re eσ11 hw
          refine lv_aload_n hx hb dX3_bundleOf_116 rfl (lv_at hl 0 rfl) ?_
          refine cf_get_X3_4 F hinX3 hw kf24 dX3_bundleOf_117 ?_
          refine lv_iconst (v := 1) hx hb dX3_bundleOf_120 (by decide) ?_
          refine lv_isub hx hb dX3_bundleOf_121 ?_
          exact hret ((σ11.1 3) - 1) _ _ _ _ _ (g_i1 hf) (congrArg (fun t => cf ty ad K t wr) (g_i2 hf)) hw dX3_bundleOf_122
        · have hf := g_f c2 hf
          refine lv_bipush (v := 12) hx hb dX3_bundleOf_63 (by decide) ?_
          exact hret 12 _ _ _ _ _ (g_i1 hf) (congrArg (fun t => cf ty ad K t wr) (g_i2 hf)) hw dX3_bundleOf_65
      · have hf := g_f c1 hf
        refine lv_aload_n hx hb dX3_bundleOf_12 rfl (lv_at hl 0 rfl) ?_
        refine cf_get_X3_0 F hinX3 hw kf9 dX3_bundleOf_13 ?_
        refine lv_iload hx hb dX3_bundleOf_16 (lv_at hl 4 rfl) ?_
        obtain ⟨g12, hf⟩ := g_g hf
        refine cf_ld_17 F hw g12 dX3_bundleOf_18 ?_
        refine lv_iload_n hx hb dX3_bundleOf_19 rfl (lv_at hl 1 rfl) ?_
        refine lv_icmp_ne (tgt := 48) hx hb dX3_bundleOf_20 (by decide) (fun c13 => ?_) (fun c13 => ?_)
        · have hf := g_f c13 hf
          exact B48 v1 v2 v3 v4 σ _ _ _ (lv_sub hl [0, 1, 2, 3, 4] rfl) hw hf
        · have hf := g_t c13 hf
          refine lv_aload_n hx hb dX3_bundleOf_23 rfl (lv_at hl 0 rfl) ?_
          refine cf_get_X3_1 F hinX3 hw kf15 dX3_bundleOf_24 ?_
          refine lv_iload hx hb dX3_bundleOf_27 (lv_at hl 4 rfl) ?_
          refine cf_ld_18 F hw g12 dX3_bundleOf_29 ?_
          refine lv_iload_n hx hb dX3_bundleOf_30 rfl (lv_at hl 2 rfl) ?_
          refine lv_icmp_ne (tgt := 48) hx hb dX3_bundleOf_31 (by decide) (fun c14 => ?_) (fun c14 => ?_)
          · have hf := g_f c14 hf
            exact B48 v1 v2 v3 v4 σ _ _ _ (lv_sub hl [0, 1, 2, 3, 4] rfl) hw hf
          · have hf := g_t c14 hf
            refine lv_aload_n hx hb dX3_bundleOf_34 rfl (lv_at hl 0 rfl) ?_
            refine cf_get_X3_2 F hinX3 hw kf18 dX3_bundleOf_35 ?_
            refine lv_iload hx hb dX3_bundleOf_38 (lv_at hl 4 rfl) ?_
            refine cf_ld_19 F hw g12 dX3_bundleOf_40 ?_
            refine lv_iload_n hx hb dX3_bundleOf_41 rfl (lv_at hl 3 rfl) ?_
            refine lv_icmp_ne (tgt := 48) hx hb dX3_bundleOf_42 (by decide) (fun c15 => ?_) (fun c15 => ?_)
            · have hf := g_f c15 hf
              exact B48 v1 v2 v3 v4 σ _ _ _ (lv_sub hl [0, 1, 2, 3, 4] rfl) hw hf
            · have hf := g_t c15 hf
              refine lv_iload hx hb dX3_bundleOf_45 (lv_at hl 4 rfl) ?_
              exact hret v4 _ _ _ _ _ (g_i1 hf) (congrArg (fun t => cf ty ad K t wr) (g_i2 hf)) hw dX3_bundleOf_47
  unfold fo_bundleOf at hf
  refine lv_iconst (v := 0) hx hb dX3_bundleOf_0 (by decide) ?_
  refine lv_istore (lv' := [(4, .int 0), (0, .ref (ad 16)), (1, .int x1), (2, .int x2), (3, .int x3)]) hx hb dX3_bundleOf_1 hl (by decide) rfl (fun ls hl => ?_)
  exact B3 1000 x1 x2 x3 0 σ _ _ _ (lv_sub hl [1, 2, 3, 4, 0] rfl) hw hf

abbrev rm_fo_pass : Room := { frames := 1, cells := 0, slots := 0, locals := 24 }
set_option maxHeartbeats 4000000 in
set_option maxRecDepth 100000 in
theorem cfo_pass {l : Launch} {D : va_G} {ty : gT} {A : Nat → Prop} {ad : Nat → Nat} {K : gK} {wr : va_W} {x1 : Int32} {x2 : Int32} {x3 : Int32} {x4 : Int32} {x5 : Int32} {σ : gS} {σ' : gS} (hf : fo_pass σ x1 x2 x3 x4 x5 = some ((), σ')) : gV l D ty A yX3_pass wsX3_pass rm_fo_pass [.ref (ad 16), .int x1, .int x2, .int x3, .int x4, .int x5] (cf ty ad K σ wr) (cf ty ad K σ' wr) := by
  refine gV_enter (cc := cX3_pass) (maxL := 7) (by decide) rfl (Nat.le_of_ble_eq_true rfl) ?_
  intro p e s m args below meth c Q ls F hl hw hret
  have F : CallFix p m c cX3_pass 7 s args wsX3_pass RX3 := F
  obtain ⟨hx, hb, hml, hown, hts⟩ := id F
  have hl : lv_has ls 7 [(0, .ref (ad 16)), (1, .int x1), (2, .int x2), (3, .int x3), (4, .int x4), (5, .int x5)] := hl
  have hinX3 : ∀ w ∈ wsX30, w ∈ wsX3_pass := by first | exact fun w h => List.mem_cons_of_mem _ (List.mem_append_right _ h) | decide +kernel
  have kf21 := hts (.fieldLink RX3 21 "GossipGate$Route" "thirds" "[I") (by decide +kernel)
  have kf28 := hts (.fieldLink RX3 28 "GossipGate$Route" "firstWrong" "I") (by decide +kernel)
  have kf31 := hts (.fieldLink RX3 31 "GossipGate$Route" "gone" "[I") (by decide +kernel)
  have kf34 := hts (.fieldLink RX3 34 "GossipGate$Route" "lastDays" "[I") (by decide +kernel)
  have kmCmax := hts (.code Lib.Math.max.name Lib.Math.max.code 2 (some .int)) (by decide +kernel)
  have kmImax := hts (.initialized "java/lang/Math") (by decide +kernel)
  have kmLmax := hts (.methodLink RX3 51 Lib.Math.max.name) (by decide +kernel)
  have kmSmax := hts (.static Lib.Math.max.name) (by decide +kernel)
  have B75 : ∀ (v2 : Int32) (v4 : Int32) (σ : gS) (H : Heap) (locs : List Loc) (ls : Array Slot), lv_has ls 7 [(0, .ref (ad 16)), (2, .int v2), (4, .int v4)] → gW D ty A (cf ty ad K σ wr) s s.heap H locs → fo_pass_b75 v2 v4 σ = some ((), σ') → W p l e rm_fo_pass s m args below meth c H locs 0 0 Q (F0 m 75 ls []) := by
    intro v2 v4 σ H locs ls hl hw hf
    unfold fo_pass_b75 at hf
    refine lv_aload_n hx hb dX3_pass_75 rfl (lv_at hl 0 rfl) ?_
    refine cf_get_X3_6 F hinX3 hw kf31 dX3_pass_76 ?_
    refine lv_iload_n hx hb dX3_pass_79 rfl (lv_at hl 1 rfl) ?_
    refine lv_dup2_11 hx hb dX3_pass_80 rfl rfl ?_
    obtain ⟨g1, hf⟩ := g_g hf
    refine cf_ld_21 F hw g1 dX3_pass_81 ?_
    refine lv_iconst (v := 1) hx hb dX3_pass_82 (by decide) ?_
    refine lv_iadd hx hb dX3_pass_83 ?_
    refine cf_st_21 F hw g1 dX3_pass_84 (fun H locs hw => ?_)
    obtain ⟨σ2, eσ2, hf⟩ := g_let hf
    have hw := cf_re eσ2 hw
    refine lv_aload_n hx hb dX3_pass_85 rfl (lv_at hl 0 rfl) ?_
    refine cf_get_X3_7 F hinX3 hw kf34 dX3_pass_86 ?_
    refine lv_iload_n hx hb dX3_pass_89 rfl (lv_at hl 1 rfl) ?_
    refine lv_aload_n hx hb dX3_pass_90 rfl (lv_at hl 0 rfl) ?_
    refine cf_get_X3_7 F hinX3 hw kf34 dX3_pass_91 ?_
    refine lv_iload_n hx hb dX3_pass_94 rfl (lv_at hl 1 rfl) ?_
    refine cf_ld_22 F hw g1 dX3_pass_95 ?_
    refine lv_iload hx hb dX3_pass_96 (lv_at hl 2 rfl) ?_
    refine va_mmax hx hb (hml.trans hl.1.symm) hown kmLmax kmSmax kmImax kmCmax (Nat.le_of_ble_eq_true rfl) (Nat.le_of_ble_eq_true rfl) (Nat.zero_le _) (Nat.zero_le _) dX3_pass_98 ?_
    refine cf_st_22 F hw g1 dX3_pass_101 (fun H locs hw => ?_)
    obtain ⟨σ3, eσ3, hf⟩ := g_let hf
    have hw := cf_re eσ3 hw
    exact hret _ _ _ _ _ (congrArg (fun t => cf ty ad K t wr) (g_i2 hf)) hw dX3_pass_102
  unfold fo_pass at hf
  refine lv_aload_n hx hb dX3_pass_0 rfl (lv_at hl 0 rfl) ?_
  refine cf_get_X3_5 F hinX3 hw kf28 dX3_pass_1 ?_
  refine lv_bipush (v := (-9)) hx hb dX3_pass_4 (by decide) ?_
  refine lv_icmp_ne (tgt := 18) hx hb dX3_pass_6 (by decide) (fun c4 => ?_) (fun c4 => ?_)
  · have hf := g_f c4 hf
    exact hret _ _ _ _ _ (congrArg (fun t => cf ty ad K t wr) (g_i2 hf)) hw dX3_pass_18
  · have hf := g_t c4 hf
    refine lv_iload_n hx hb dX3_pass_9 rfl (lv_at hl 2 rfl) ?_
    refine lv_iconst (v := 0) hx hb dX3_pass_10 (by decide) ?_
    refine lv_iconst (v := 3) hx hb dX3_pass_11 (by decide) ?_
    obtain ⟨r6, h5, hf⟩ := g_b1 hf
    refine g_nI F (As := [.int x2, .int 0, .int 3]) (rest := []) (ccx_isWithin h5) ⟨va_cnB 3 hts gX3_pass_X10_isWithin_n43 rfl rfl rfl hw.2.2.2.2.2.2.2.1.1 (hts (.initialized RX10) (by decide +kernel)) (by decide +kernel) ⟨Nat.le_of_ble_eq_true rfl, Nat.le_of_ble_eq_true rfl⟩, hts (.static yX10_isWithin) (by decide +kernel), trivial⟩ hw rfl hl.1 rfl (Nat.le_of_ble_eq_true rfl) dX3_pass_12 (fun H locs hw => ?_)
    refine lv_if_ne (tgt := 19) hx hb dX3_pass_15 (by decide) (fun c7 => ?_) (fun c7 => ?_)
    · have hf := g_t (bI_nz c7) hf
      refine lv_iload hx hb dX3_pass_19 (lv_at hl 5 rfl) ?_
      refine lv_if_eq (tgt := 34) hx hb dX3_pass_21 (by decide) (fun c8 => ?_) (fun c8 => ?_)
      · have hf := g_t c8 hf
        refine lv_aload_n hx hb dX3_pass_34 rfl (lv_at hl 0 rfl) ?_
        refine lv_iload_n hx hb dX3_pass_35 rfl (lv_at hl 1 rfl) ?_
        refine cf_put_X3_5 F hinX3 hw kf28 dX3_pass_36 (fun H locs hw => ?_)
        obtain ⟨σ9, eσ9, hf⟩ := g_let hf
        have hw := cf_re eσ9 hw
        exact hret _ _ _ _ _ (congrArg (fun t => cf ty ad K t wr) (g_i2 hf)) hw dX3_pass_39
      · have hf := g_f c8 hf
        refine lv_aload_n hx hb dX3_pass_24 rfl (lv_at hl 0 rfl) ?_
        refine cf_get_X3_6 F hinX3 hw kf31 dX3_pass_25 ?_
        refine lv_iload_n hx hb dX3_pass_28 rfl (lv_at hl 2 rfl) ?_
        obtain ⟨g10, hf⟩ := g_g hf
        refine cf_ld_21 F hw g10 dX3_pass_29 ?_
        refine lv_iconst (v := 3) hx hb dX3_pass_30 (by decide) ?_
        refine lv_icmp_lt (tgt := 40) hx hb dX3_pass_31 (by decide) (fun c11 => ?_) (fun c11 => ?_)
        · have hf := g_t c11 hf
          refine lv_aload_n hx hb dX3_pass_40 rfl (lv_at hl 0 rfl) ?_
          refine lv_iload_n hx hb dX3_pass_41 rfl (lv_at hl 2 rfl) ?_
          refine lv_iload_n hx hb dX3_pass_42 rfl (lv_at hl 3 rfl) ?_
          refine lv_iload hx hb dX3_pass_43 (lv_at hl 4 rfl) ?_
          obtain ⟨r13, σ14, h12, hf⟩ := g_b2 hf
          refine g_cI F (As := [.int x2, .int x3, .int x4]) (rest := []) (cfo_bundleOf h12) (cwV 3 hts gX3_pass_X3_bundleOf rfl rfl rfl (by decide +kernel) ⟨Nat.le_of_ble_eq_true rfl, Nat.le_of_ble_eq_true rfl⟩) hw (hw.recv (ci := 3) (q0 := 16) rfl rfl rfl) rfl hl.1 rfl (Nat.le_of_ble_eq_true rfl) dX3_pass_45 (fun H locs hw => ?_)
          refine lv_istore (lv' := [(6, .int r13), (0, .ref (ad 16)), (1, .int x1), (2, .int x2), (3, .int x3), (4, .int x4), (5, .int x5)]) hx hb dX3_pass_48 hl (by decide) rfl (fun ls hl => ?_)
          refine lv_iload hx hb dX3_pass_50 (lv_at hl 0 rfl) ?_
          refine lv_bipush (v := 12) hx hb dX3_pass_52 (by decide) ?_
          refine lv_icmp_ge (tgt := 75) hx hb dX3_pass_54 (by decide) (fun c15 => ?_) (fun c15 => ?_)
          · have hf := g_t c15 hf
            exact B75 x2 x4 σ14 _ _ _ (lv_sub hl [1, 3, 5] rfl) hw hf
          · have hf := g_f c15 hf
            refine lv_aload_n hx hb dX3_pass_57 rfl (lv_at hl 1 rfl) ?_
            refine cf_get_X3_3 F hinX3 hw kf21 dX3_pass_58 ?_
            refine lv_iload hx hb dX3_pass_61 (lv_at hl 0 rfl) ?_
            refine lv_dup2_11 hx hb dX3_pass_63 rfl rfl ?_
            obtain ⟨g16, hf⟩ := g_g hf
            refine cf_ld_20 F hw g16 dX3_pass_64 ?_
            refine lv_iconst (v := 1) hx hb dX3_pass_65 (by decide) ?_
            refine lv_aload_n hx hb dX3_pass_66 rfl (lv_at hl 1 rfl) ?_
            refine cf_get_X3_6 F hinX3 hw kf31 dX3_pass_67 ?_
            refine lv_iload_n hx hb dX3_pass_70 rfl (lv_at hl 3 rfl) ?_
            refine cf_ld_21 F hw g10 dX3_pass_71 ?_
            refine lv_ishl hx hb dX3_pass_72 ?_
            refine lv_ior hx hb dX3_pass_73 ?_
            refine cf_st_20 F hw g16 dX3_pass_74 (fun H locs hw => ?_)
            obtain ⟨σ17, eσ17, hf⟩ := g_let hf
            have hw := cf_re eσ17 hw
            exact B75 x2 x4 σ17 _ _ _ (lv_sub hl [1, 3, 5] rfl) hw hf
        · have hf := g_f c11 hf
          refine lv_aload_n hx hb dX3_pass_34 rfl (lv_at hl 0 rfl) ?_
          refine lv_iload_n hx hb dX3_pass_35 rfl (lv_at hl 1 rfl) ?_
          refine cf_put_X3_5 F hinX3 hw kf28 dX3_pass_36 (fun H locs hw => ?_)
          obtain ⟨σ18, eσ18, hf⟩ := g_let hf
          have hw := cf_re eσ18 hw
          exact hret _ _ _ _ _ (congrArg (fun t => cf ty ad K t wr) (g_i2 hf)) hw dX3_pass_39
    · have hf := g_f (bI_z c7) hf
      exact hret _ _ _ _ _ (congrArg (fun t => cf ty ad K t wr) (g_i2 hf)) hw dX3_pass_18

abbrev rm_fo_wholeDay : Room := { frames := 1, cells := 0, slots := 0, locals := 22 }
set_option maxHeartbeats 4000000 in
set_option maxRecDepth 100000 in
theorem cfo_wholeDay {l : Launch} {D : va_G} {ty : gT} {A : Nat → Prop} {ad : Nat → Nat} {K : gK} {wr : va_W} {x1 : Int32} {σ : gS} {r : Int32} (hf : fo_wholeDay σ x1 = some r) : gI l D ty A yX3_wholeDay wsX3_wholeDay rm_fo_wholeDay [.ref (ad 16), .int x1] (cf ty ad K σ wr) r (cf ty ad K σ wr) := by
  refine gI_enter (cc := cX3_wholeDay) (maxL := 3) (by decide) rfl (Nat.le_of_ble_eq_true rfl) ?_
  intro p e s m args below meth c Q ls F hl hw hret
  have F : CallFix p m c cX3_wholeDay 3 s args wsX3_wholeDay RX3 := F
  obtain ⟨hx, hb, hml, hown, hts⟩ := id F
  have hl : lv_has ls 3 [(0, .ref (ad 16)), (1, .int x1)] := hl
  have hinX3 : ∀ w ∈ wsX30, w ∈ wsX3_wholeDay := by first | exact fun w h => List.mem_cons_of_mem _ (List.mem_append_right _ h) | decide +kernel
  have kf31 := hts (.fieldLink RX3 31 "GossipGate$Route" "gone" "[I") (by decide +kernel)
  have kf34 := hts (.fieldLink RX3 34 "GossipGate$Route" "lastDays" "[I") (by decide +kernel)
  have B24 : ∀ (v1 : Int32) (s0 : Int32) (H : Heap) (locs : List Loc) (ls : Array Slot), lv_has ls 3 [(0, .ref (ad 16)), (1, .int v1)] → gW D ty A (cf ty ad K σ wr) s s.heap H locs → fo_wholeDay_b24 σ v1 s0 = some r → W p l e rm_fo_wholeDay s m args below meth c H locs 0 0 Q (F0 m 24 ls [.int s0]) := by
    intro v1 s0 H locs ls hl hw hf
    unfold fo_wholeDay_b24 at hf
    refine lv_istore_n (lv' := [(2, .int s0), (0, .ref (ad 16)), (1, .int v1)]) hx hb dX3_wholeDay_24 rfl hl (by decide) rfl (fun ls hl => ?_)
    refine lv_iload_n hx hb dX3_wholeDay_25 rfl (lv_at hl 0 rfl) ?_
    refine lv_if_eq (tgt := 38) hx hb dX3_wholeDay_26 (by decide) (fun c1 => ?_) (fun c1 => ?_)
    · have hf := g_t c1 hf
      refine lv_bipush (v := (-9)) hx hb dX3_wholeDay_38 (by decide) ?_
      exact hret (-9) _ _ _ _ _ (Option.some.inj hf) rfl hw dX3_wholeDay_40
    · have hf := g_f c1 hf
      refine lv_aload_n hx hb dX3_wholeDay_29 rfl (lv_at hl 1 rfl) ?_
      refine cf_get_X3_7 F hinX3 hw kf34 dX3_wholeDay_30 ?_
      refine lv_iload_n hx hb dX3_wholeDay_33 rfl (lv_at hl 2 rfl) ?_
      obtain ⟨g2, hf⟩ := g_g hf
      refine cf_ld_22 F hw g2 dX3_wholeDay_34 ?_
      refine lv_goto (tgt := 40) hx hb dX3_wholeDay_35 (by decide) ?_
      exact hret (σ.2 14 v1.toNatClampNeg) _ _ _ _ _ (Option.some.inj hf) rfl hw dX3_wholeDay_40
  have B23 : ∀ (v1 : Int32) (H : Heap) (locs : List Loc) (ls : Array Slot), lv_has ls 3 [(0, .ref (ad 16)), (1, .int v1)] → gW D ty A (cf ty ad K σ wr) s s.heap H locs → fo_wholeDay_b23 σ v1 = some r → W p l e rm_fo_wholeDay s m args below meth c H locs 0 0 Q (F0 m 23 ls []) := by
    intro v1 H locs ls hl hw hf
    unfold fo_wholeDay_b23 at hf
    refine lv_iconst (v := 0) hx hb dX3_wholeDay_23 (by decide) ?_
    exact B24 v1 0 _ _ _ (lv_sub hl [0, 1] rfl) hw hf
  unfold fo_wholeDay at hf
  refine lv_iload_n hx hb dX3_wholeDay_0 rfl (lv_at hl 1 rfl) ?_
  refine lv_iconst (v := 0) hx hb dX3_wholeDay_1 (by decide) ?_
  refine lv_iconst (v := 3) hx hb dX3_wholeDay_2 (by decide) ?_
  obtain ⟨r4, h3, hf⟩ := g_b1 hf
  refine g_nI F (As := [.int x1, .int 0, .int 3]) (rest := []) (ccx_isWithin h3) ⟨va_cnB 3 hts gX3_wholeDay_X10_isWithin_n43 rfl rfl rfl hw.2.2.2.2.2.2.2.1.1 (hts (.initialized RX10) (by decide +kernel)) (by decide +kernel) ⟨Nat.le_of_ble_eq_true rfl, Nat.le_of_ble_eq_true rfl⟩, hts (.static yX10_isWithin) (by decide +kernel), trivial⟩ hw rfl hl.1 rfl (Nat.le_of_ble_eq_true rfl) dX3_wholeDay_3 (fun H locs hw => ?_)
  refine lv_if_eq (tgt := 23) hx hb dX3_wholeDay_6 (by decide) (fun c5 => ?_) (fun c5 => ?_)
  · have hf := g_f (bI_z c5) hf
    exact B23 x1 _ _ _ (lv_sub hl [0, 1] rfl) hw hf
  · have hf := g_t (bI_nz c5) hf
    refine lv_aload_n hx hb dX3_wholeDay_9 rfl (lv_at hl 0 rfl) ?_
    refine cf_get_X3_6 F hinX3 hw kf31 dX3_wholeDay_10 ?_
    refine lv_iload_n hx hb dX3_wholeDay_13 rfl (lv_at hl 1 rfl) ?_
    obtain ⟨g6, hf⟩ := g_g hf
    refine cf_ld_21 F hw g6 dX3_wholeDay_14 ?_
    refine lv_iconst (v := 3) hx hb dX3_wholeDay_15 (by decide) ?_
    refine lv_icmp_ne (tgt := 23) hx hb dX3_wholeDay_16 (by decide) (fun c7 => ?_) (fun c7 => ?_)
    · have hf := g_f c7 hf
      exact B23 x1 _ _ _ (lv_sub hl [0, 1] rfl) hw hf
    · have hf := g_t c7 hf
      refine lv_iconst (v := 1) hx hb dX3_wholeDay_19 (by decide) ?_
      refine lv_goto (tgt := 24) hx hb dX3_wholeDay_20 (by decide) ?_
      exact B24 x1 1 _ _ _ (lv_sub hl [0, 1] rfl) hw hf

abbrev rm_fr_isThere : Room := { frames := 0, cells := 0, slots := 0, locals := 0 }
set_option maxHeartbeats 4000000 in
set_option maxRecDepth 100000 in
theorem cfr_isThere {l : Launch} {D : va_G} {ty : gT} {A : Nat → Prop} {ad : Nat → Nat} {K : gK} {wr : va_W} {kr : Nat} {σ : gS} {r : Bool} (hf : fr_isThere kr σ = some r) : gI l D ty A yX4_isThere wsX4_isThere rm_fr_isThere [.ref (ad (2 + kr))] (cf ty ad K σ wr) (bI r) (cf ty ad K σ wr) := by
  refine gZ_enter (cc := cX4_isThere) (maxL := 1) (by decide) rfl (Nat.le_of_ble_eq_true rfl) ?_
  intro p e s m args below meth c Q ls F hl hw hret
  have F : CallFix p m c cX4_isThere 1 s args wsX4_isThere RX4 := F
  obtain ⟨hx, hb, hml, hown, hts⟩ := id F
  have hl : lv_has ls 1 [(0, .ref (ad (2 + kr)))] := hl
  have hinX4 : ∀ w ∈ wsX40, w ∈ wsX4_isThere := by first | exact fun w h => List.mem_cons_of_mem _ (List.mem_append_right _ h) | decide +kernel
  have kf15 := hts (.fieldLink RX4 15 "GossipGate$Row" "lane" "I") (by decide +kernel)
  unfold fr_isThere at hf
  refine lv_aload_n hx hb dX4_isThere_0 rfl (lv_at hl 0 rfl) ?_
  obtain ⟨g1, hf⟩ := g_g hf
  refine cf_row_get_1 F hinX4 hw g1 kf15 dX4_isThere_1 ?_
  refine lv_iconst (v := (-1)) hx hb dX4_isThere_4 (by decide) ?_
  refine lv_icmp_eq (tgt := 12) hx hb dX4_isThere_5 (by decide) (fun c2 => ?_) (fun c2 => ?_)
  · have hf := g_t c2 hf
    refine lv_iconst (v := 0) hx hb dX4_isThere_12 (by decide) ?_
    exact hret false _ _ _ _ _ (Option.some.inj hf) rfl hw dX4_isThere_13
  · have hf := g_f c2 hf
    refine lv_iconst (v := 1) hx hb dX4_isThere_8 (by decide) ?_
    refine lv_goto (tgt := 13) hx hb dX4_isThere_9 (by decide) ?_
    exact hret true _ _ _ _ _ (Option.some.inj hf) rfl hw dX4_isThere_13

abbrev rm_fr_begin : Room := { frames := 1, cells := 0, slots := 0, locals := 23 }
set_option maxHeartbeats 4000000 in
set_option maxRecDepth 100000 in
theorem cfr_begin {l : Launch} {D : va_G} {ty : gT} {A : Nat → Prop} {ad : Nat → Nat} {K : gK} {wr : va_W} {kr : Nat} {x1 : Int32} {x2 : Int32} {σ : gS} {σ' : gS} (hf : fr_begin kr σ x1 x2 = some ((), σ')) : gV l D ty A yX4_begin wsX4_begin rm_fr_begin [.ref (ad (2 + kr)), .int x1, .int x2] (cf ty ad K σ wr) (cf ty ad K σ' wr) := by
  refine gV_enter (cc := cX4_begin) (maxL := 3) (by decide) rfl (Nat.le_of_ble_eq_true rfl) ?_
  intro p e s m args below meth c Q ls F hl hw hret
  have F : CallFix p m c cX4_begin 3 s args wsX4_begin RX4 := F
  obtain ⟨hx, hb, hml, hown, hts⟩ := id F
  have hl : lv_has ls 3 [(0, .ref (ad (2 + kr))), (1, .int x1), (2, .int x2)] := hl
  have hinX4 : ∀ w ∈ wsX40, w ∈ wsX4_begin := by first | exact fun w h => List.mem_cons_of_mem _ (List.mem_append_right _ h) | decide +kernel
  have kf15 := hts (.fieldLink RX4 15 "GossipGate$Row" "lane" "I") (by decide +kernel)
  have kf19 := hts (.fieldLink RX4 19 "GossipGate$Row" "length" "I") (by decide +kernel)
  have kf9 := hts (.fieldLink RX4 9 "GossipGate$Row" "cells" "[I") (by decide +kernel)
  unfold fr_begin at hf
  refine lv_aload_n hx hb dX4_begin_0 rfl (lv_at hl 0 rfl) ?_
  obtain ⟨g1, hf⟩ := g_g hf
  refine cf_row_get_0 F hinX4 hw g1 kf9 dX4_begin_1 ?_
  refine lv_iconst (v := 0) hx hb dX4_begin_4 (by decide) ?_
  refine g_sV F (As := [.ref (ad (6 + kr)), .int 0]) (rest := []) (c_fill (x := (0 : Int32)) (q0 := 6 + kr) (n := 60) (by decide) (cf_cells g1)) (va_cwS 2 hts gX4_begin_J7_fill_53178 rfl rfl rfl (by decide +kernel) ⟨Nat.le_of_ble_eq_true rfl, Nat.le_of_ble_eq_true rfl⟩) hw rfl hl.1 rfl (Nat.le_of_ble_eq_true rfl) dX4_begin_5 (fun H locs hw => ?_)
  replace hw := gW.eq (cf_row_fill g1) hw
  obtain ⟨σ2, eσ2, hf⟩ := g_let hf
  have hw := cf_re eσ2 hw
  refine lv_aload_n hx hb dX4_begin_8 rfl (lv_at hl 0 rfl) ?_
  refine lv_iload_n hx hb dX4_begin_9 rfl (lv_at hl 1 rfl) ?_
  refine cf_row_put_1 F hinX4 hw g1 kf15 dX4_begin_10 (fun H locs hw => ?_)
  obtain ⟨σ3, eσ3, hf⟩ := g_let hf
  have hw := cf_re eσ3 hw
  refine lv_aload_n hx hb dX4_begin_13 rfl (lv_at hl 0 rfl) ?_
  refine lv_iload_n hx hb dX4_begin_14 rfl (lv_at hl 2 rfl) ?_
  refine cf_row_put_2 F hinX4 hw g1 kf19 dX4_begin_15 (fun H locs hw => ?_)
  obtain ⟨σ4, eσ4, hf⟩ := g_let hf
  have hw := cf_re eσ4 hw
  exact hret _ _ _ _ _ (congrArg (fun t => cf ty ad K t wr) (g_i2 hf)) hw dX4_begin_18

abbrev rm_fr_drop : Room := { frames := 0, cells := 0, slots := 0, locals := 0 }
set_option maxHeartbeats 4000000 in
set_option maxRecDepth 100000 in
theorem cfr_drop {l : Launch} {D : va_G} {ty : gT} {A : Nat → Prop} {ad : Nat → Nat} {K : gK} {wr : va_W} {kr : Nat} {σ : gS} {σ' : gS} (hf : fr_drop kr σ = some ((), σ')) : gV l D ty A yX4_drop wsX4_drop rm_fr_drop [.ref (ad (2 + kr))] (cf ty ad K σ wr) (cf ty ad K σ' wr) := by
  refine gV_enter (cc := cX4_drop) (maxL := 1) (by decide) rfl (Nat.le_of_ble_eq_true rfl) ?_
  intro p e s m args below meth c Q ls F hl hw hret
  have F : CallFix p m c cX4_drop 1 s args wsX4_drop RX4 := F
  obtain ⟨hx, hb, hml, hown, hts⟩ := id F
  have hl : lv_has ls 1 [(0, .ref (ad (2 + kr)))] := hl
  have hinX4 : ∀ w ∈ wsX40, w ∈ wsX4_drop := by first | exact fun w h => List.mem_cons_of_mem _ (List.mem_append_right _ h) | decide +kernel
  have kf15 := hts (.fieldLink RX4 15 "GossipGate$Row" "lane" "I") (by decide +kernel)
  have kf19 := hts (.fieldLink RX4 19 "GossipGate$Row" "length" "I") (by decide +kernel)
  unfold fr_drop at hf
  refine lv_aload_n hx hb dX4_drop_0 rfl (lv_at hl 0 rfl) ?_
  refine lv_iconst (v := (-1)) hx hb dX4_drop_1 (by decide) ?_
  obtain ⟨g1, hf⟩ := g_g hf
  refine cf_row_put_1 F hinX4 hw g1 kf15 dX4_drop_2 (fun H locs hw => ?_)
  obtain ⟨σ2, eσ2, hf⟩ := g_let hf
  have hw := cf_re eσ2 hw
  refine lv_aload_n hx hb dX4_drop_5 rfl (lv_at hl 0 rfl) ?_
  refine lv_iconst (v := 0) hx hb dX4_drop_6 (by decide) ?_
  refine cf_row_put_2 F hinX4 hw g1 kf19 dX4_drop_7 (fun H locs hw => ?_)
  obtain ⟨σ3, eσ3, hf⟩ := g_let hf
  have hw := cf_re eσ3 hw
  exact hret _ _ _ _ _ (congrArg (fun t => cf ty ad K t wr) (g_i2 hf)) hw dX4_drop_10

abbrev rm_fr_hasCell : Room := { frames := 0, cells := 0, slots := 0, locals := 0 }
set_option maxHeartbeats 4000000 in
set_option maxRecDepth 100000 in
theorem cfr_hasCell {l : Launch} {D : va_G} {ty : gT} {A : Nat → Prop} {ad : Nat → Nat} {K : gK} {wr : va_W} {kr : Nat} {x1 : Int32} {σ : gS} {r : Bool} (hf : fr_hasCell kr σ x1 = some r) : gI l D ty A yX4_hasCell wsX4_hasCell rm_fr_hasCell [.ref (ad (2 + kr)), .int x1] (cf ty ad K σ wr) (bI r) (cf ty ad K σ wr) := by
  refine gZ_enter (cc := cX4_hasCell) (maxL := 2) (by decide) rfl (Nat.le_of_ble_eq_true rfl) ?_
  intro p e s m args below meth c Q ls F hl hw hret
  have F : CallFix p m c cX4_hasCell 2 s args wsX4_hasCell RX4 := F
  obtain ⟨hx, hb, hml, hown, hts⟩ := id F
  have hl : lv_has ls 2 [(0, .ref (ad (2 + kr))), (1, .int x1)] := hl
  have hinX4 : ∀ w ∈ wsX40, w ∈ wsX4_hasCell := by first | exact fun w h => List.mem_cons_of_mem _ (List.mem_append_right _ h) | decide +kernel
  have kf19 := hts (.fieldLink RX4 19 "GossipGate$Row" "length" "I") (by decide +kernel)
  unfold fr_hasCell at hf
  refine lv_iload_n hx hb dX4_hasCell_0 rfl (lv_at hl 1 rfl) ?_
  refine lv_if_lt (tgt := 16) hx hb dX4_hasCell_1 (by decide) (fun c1 => ?_) (fun c1 => ?_)
  · have hf := g_t c1 hf
    refine lv_iconst (v := 0) hx hb dX4_hasCell_16 (by decide) ?_
    exact hret false _ _ _ _ _ (Option.some.inj hf) rfl hw dX4_hasCell_17
  · have hf := g_f c1 hf
    refine lv_iload_n hx hb dX4_hasCell_4 rfl (lv_at hl 1 rfl) ?_
    refine lv_aload_n hx hb dX4_hasCell_5 rfl (lv_at hl 0 rfl) ?_
    obtain ⟨g2, hf⟩ := g_g hf
    refine cf_row_get_2 F hinX4 hw g2 kf19 dX4_hasCell_6 ?_
    refine lv_icmp_ge (tgt := 16) hx hb dX4_hasCell_9 (by decide) (fun c3 => ?_) (fun c3 => ?_)
    · have hf := g_t c3 hf
      refine lv_iconst (v := 0) hx hb dX4_hasCell_16 (by decide) ?_
      exact hret false _ _ _ _ _ (Option.some.inj hf) rfl hw dX4_hasCell_17
    · have hf := g_f c3 hf
      refine lv_iconst (v := 1) hx hb dX4_hasCell_12 (by decide) ?_
      refine lv_goto (tgt := 17) hx hb dX4_hasCell_13 (by decide) ?_
      exact hret true _ _ _ _ _ (Option.some.inj hf) rfl hw dX4_hasCell_17

abbrev rm_fr_hasCells : Room := { frames := 0, cells := 0, slots := 0, locals := 0 }
set_option maxHeartbeats 4000000 in
set_option maxRecDepth 100000 in
theorem cfr_hasCells {l : Launch} {D : va_G} {ty : gT} {A : Nat → Prop} {ad : Nat → Nat} {K : gK} {wr : va_W} {kr : Nat} {x1 : Int32} {x2 : Int32} {σ : gS} {r : Bool} (hf : fr_hasCells kr σ x1 x2 = some r) : gI l D ty A yX4_hasCells wsX4_hasCells rm_fr_hasCells [.ref (ad (2 + kr)), .int x1, .int x2] (cf ty ad K σ wr) (bI r) (cf ty ad K σ wr) := by
  refine gZ_enter (cc := cX4_hasCells) (maxL := 3) (by decide) rfl (Nat.le_of_ble_eq_true rfl) ?_
  intro p e s m args below meth c Q ls F hl hw hret
  have F : CallFix p m c cX4_hasCells 3 s args wsX4_hasCells RX4 := F
  obtain ⟨hx, hb, hml, hown, hts⟩ := id F
  have hl : lv_has ls 3 [(0, .ref (ad (2 + kr))), (1, .int x1), (2, .int x2)] := hl
  have hinX4 : ∀ w ∈ wsX40, w ∈ wsX4_hasCells := by first | exact fun w h => List.mem_cons_of_mem _ (List.mem_append_right _ h) | decide +kernel
  have kf19 := hts (.fieldLink RX4 19 "GossipGate$Row" "length" "I") (by decide +kernel)
  unfold fr_hasCells at hf
  refine lv_iload_n hx hb dX4_hasCells_0 rfl (lv_at hl 1 rfl) ?_
  refine lv_if_lt (tgt := 30) hx hb dX4_hasCells_1 (by decide) (fun c1 => ?_) (fun c1 => ?_)
  · have hf := g_t c1 hf
    refine lv_iconst (v := 0) hx hb dX4_hasCells_30 (by decide) ?_
    exact hret false _ _ _ _ _ (Option.some.inj hf) rfl hw dX4_hasCells_31
  · have hf := g_f c1 hf
    refine lv_iload_n hx hb dX4_hasCells_4 rfl (lv_at hl 1 rfl) ?_
    refine lv_aload_n hx hb dX4_hasCells_5 rfl (lv_at hl 0 rfl) ?_
    obtain ⟨g2, hf⟩ := g_g hf
    refine cf_row_get_2 F hinX4 hw g2 kf19 dX4_hasCells_6 ?_
    refine lv_icmp_gt (tgt := 30) hx hb dX4_hasCells_9 (by decide) (fun c3 => ?_) (fun c3 => ?_)
    · have hf := g_t c3 hf
      refine lv_iconst (v := 0) hx hb dX4_hasCells_30 (by decide) ?_
      exact hret false _ _ _ _ _ (Option.some.inj hf) rfl hw dX4_hasCells_31
    · have hf := g_f c3 hf
      refine lv_iload_n hx hb dX4_hasCells_12 rfl (lv_at hl 2 rfl) ?_
      refine lv_if_lt (tgt := 30) hx hb dX4_hasCells_13 (by decide) (fun c4 => ?_) (fun c4 => ?_)
      · have hf := g_t c4 hf
        refine lv_iconst (v := 0) hx hb dX4_hasCells_30 (by decide) ?_
        exact hret false _ _ _ _ _ (Option.some.inj hf) rfl hw dX4_hasCells_31
      · have hf := g_f c4 hf
        refine lv_iload_n hx hb dX4_hasCells_16 rfl (lv_at hl 2 rfl) ?_
        refine lv_aload_n hx hb dX4_hasCells_17 rfl (lv_at hl 0 rfl) ?_
        refine cf_row_get_2 F hinX4 hw g2 kf19 dX4_hasCells_18 ?_
        refine lv_iload_n hx hb dX4_hasCells_21 rfl (lv_at hl 1 rfl) ?_
        refine lv_isub hx hb dX4_hasCells_22 ?_
        refine lv_icmp_gt (tgt := 30) hx hb dX4_hasCells_23 (by decide) (fun c5 => ?_) (fun c5 => ?_)
        · have hf := g_t c5 hf
          refine lv_iconst (v := 0) hx hb dX4_hasCells_30 (by decide) ?_
          exact hret false _ _ _ _ _ (Option.some.inj hf) rfl hw dX4_hasCells_31
        · have hf := g_f c5 hf
          refine lv_iconst (v := 1) hx hb dX4_hasCells_26 (by decide) ?_
          refine lv_goto (tgt := 31) hx hb dX4_hasCells_27 (by decide) ?_
          exact hret true _ _ _ _ _ (Option.some.inj hf) rfl hw dX4_hasCells_31

abbrev rm_fr_faultTakenAs : Room := { frames := 1, cells := 0, slots := 0, locals := 20 }
set_option maxHeartbeats 4000000 in
set_option maxRecDepth 100000 in
theorem cfr_faultTakenAs {l : Launch} {D : va_G} {ty : gT} {A : Nat → Prop} {ad : Nat → Nat} {K : gK} {wr : va_W} {kr : Nat} {x1 : Int32} {σ : gS} {r : Int32} (hf : fr_faultTakenAs kr σ x1 = some r) : gI l D ty A yX4_faultTakenAs wsX4_faultTakenAs rm_fr_faultTakenAs [.ref (ad (2 + kr)), .int x1] (cf ty ad K σ wr) r (cf ty ad K σ wr) := by
  refine gI_enter (cc := cX4_faultTakenAs) (maxL := 2) (by decide) rfl (Nat.le_of_ble_eq_true rfl) ?_
  intro p e s m args below meth c Q ls F hl hw hret
  have F : CallFix p m c cX4_faultTakenAs 2 s args wsX4_faultTakenAs RX4 := F
  obtain ⟨hx, hb, hml, hown, hts⟩ := id F
  have hl : lv_has ls 2 [(0, .ref (ad (2 + kr))), (1, .int x1)] := hl
  have hinX4 : ∀ w ∈ wsX40, w ∈ wsX4_faultTakenAs := by first | exact fun w h => List.mem_cons_of_mem _ (List.mem_append_right _ h) | decide +kernel
  have kf15 := hts (.fieldLink RX4 15 "GossipGate$Row" "lane" "I") (by decide +kernel)
  unfold fr_faultTakenAs at hf
  refine lv_aload_n hx hb dX4_faultTakenAs_0 rfl (lv_at hl 0 rfl) ?_
  obtain ⟨g2, hf⟩ := g_g hf
  obtain ⟨r3, h1, hf⟩ := g_b1 hf
  refine g_cI F (As := []) (rest := []) (cfr_isThere h1) (cwV 0 hts gX4_faultTakenAs_X4_isThere rfl rfl rfl (by decide +kernel) ⟨Nat.le_of_ble_eq_true rfl, Nat.le_of_ble_eq_true rfl⟩) hw (hw.recv (ci := 4) (q0 := 2 + kr) rfl rfl (cf_row g2)) rfl hl.1 rfl (Nat.le_of_ble_eq_true rfl) dX4_faultTakenAs_1 (fun H locs hw => ?_)
  refine lv_if_ne (tgt := 9) hx hb dX4_faultTakenAs_4 (by decide) (fun c4 => ?_) (fun c4 => ?_)
  · have hf := g_t (bI_nz c4) hf
    refine lv_aload_n hx hb dX4_faultTakenAs_9 rfl (lv_at hl 0 rfl) ?_
    refine cf_row_get_1 F hinX4 hw g2 kf15 dX4_faultTakenAs_10 ?_
    refine lv_iload_n hx hb dX4_faultTakenAs_13 rfl (lv_at hl 1 rfl) ?_
    refine lv_icmp_ne (tgt := 21) hx hb dX4_faultTakenAs_14 (by decide) (fun c5 => ?_) (fun c5 => ?_)
    · have hf := g_f c5 hf
      refine lv_iconst (v := 2) hx hb dX4_faultTakenAs_21 (by decide) ?_
      exact hret 2 _ _ _ _ _ (Option.some.inj hf) rfl hw dX4_faultTakenAs_22
    · have hf := g_t c5 hf
      refine lv_iconst (v := 0) hx hb dX4_faultTakenAs_17 (by decide) ?_
      refine lv_goto (tgt := 22) hx hb dX4_faultTakenAs_18 (by decide) ?_
      exact hret 0 _ _ _ _ _ (Option.some.inj hf) rfl hw dX4_faultTakenAs_22
  · have hf := g_f (bI_z c4) hf
    refine lv_iconst (v := 1) hx hb dX4_faultTakenAs_7 (by decide) ?_
    exact hret 1 _ _ _ _ _ (Option.some.inj hf) rfl hw dX4_faultTakenAs_8

abbrev rm_fr_read : Room := { frames := 1, cells := 0, slots := 0, locals := 21 }
set_option maxHeartbeats 4000000 in
set_option maxRecDepth 100000 in
theorem cfr_read {l : Launch} {D : va_G} {ty : gT} {A : Nat → Prop} {ad : Nat → Nat} {K : gK} {wr : va_W} {kr : Nat} {x1 : Int32} {σ : gS} {r : Int32} (hf : fr_read kr σ x1 = some r) : gI l D ty A yX4_read wsX4_read rm_fr_read [.ref (ad (2 + kr)), .int x1] (cf ty ad K σ wr) r (cf ty ad K σ wr) := by
  refine gI_enter (cc := cX4_read) (maxL := 2) (by decide) rfl (Nat.le_of_ble_eq_true rfl) ?_
  intro p e s m args below meth c Q ls F hl hw hret
  have F : CallFix p m c cX4_read 2 s args wsX4_read RX4 := F
  obtain ⟨hx, hb, hml, hown, hts⟩ := id F
  have hl : lv_has ls 2 [(0, .ref (ad (2 + kr))), (1, .int x1)] := hl
  have hinX4 : ∀ w ∈ wsX40, w ∈ wsX4_read := by first | exact fun w h => List.mem_cons_of_mem _ (List.mem_append_right _ h) | decide +kernel
  have kf9 := hts (.fieldLink RX4 9 "GossipGate$Row" "cells" "[I") (by decide +kernel)
  unfold fr_read at hf
  refine lv_aload_n hx hb dX4_read_0 rfl (lv_at hl 0 rfl) ?_
  refine lv_iload_n hx hb dX4_read_1 rfl (lv_at hl 1 rfl) ?_
  obtain ⟨g2, hf⟩ := g_g hf
  obtain ⟨r3, h1, hf⟩ := g_b1 hf
  refine g_cI F (As := [.int x1]) (rest := []) (cfr_hasCell h1) (cwV 1 hts gX4_read_X4_hasCell rfl rfl rfl (by decide +kernel) ⟨Nat.le_of_ble_eq_true rfl, Nat.le_of_ble_eq_true rfl⟩) hw (hw.recv (ci := 4) (q0 := 2 + kr) rfl rfl (cf_row g2)) rfl hl.1 rfl (Nat.le_of_ble_eq_true rfl) dX4_read_2 (fun H locs hw => ?_)
  refine lv_if_eq (tgt := 17) hx hb dX4_read_5 (by decide) (fun c4 => ?_) (fun c4 => ?_)
  · have hf := g_f (bI_z c4) hf
    refine lv_iconst (v := 0) hx hb dX4_read_17 (by decide) ?_
    exact hret 0 _ _ _ _ _ (Option.some.inj hf) rfl hw dX4_read_18
  · have hf := g_t (bI_nz c4) hf
    refine lv_aload_n hx hb dX4_read_8 rfl (lv_at hl 0 rfl) ?_
    refine cf_row_get_0 F hinX4 hw g2 kf9 dX4_read_9 ?_
    refine lv_iload_n hx hb dX4_read_12 rfl (lv_at hl 1 rfl) ?_
    obtain ⟨g5, hf⟩ := g_g hf
    refine cf_row_ld F hw g2 g5 dX4_read_13 ?_
    refine lv_goto (tgt := 18) hx hb dX4_read_14 (by decide) ?_
    exact hret (σ.2 (2 + kr) x1.toNatClampNeg) _ _ _ _ _ (Option.some.inj hf) rfl hw dX4_read_18

abbrev rm_fr_cutToLane : Room := { frames := 0, cells := 0, slots := 0, locals := 0 }
set_option maxHeartbeats 4000000 in
set_option maxRecDepth 100000 in
theorem cfr_cutToLane {l : Launch} {D : va_G} {ty : gT} {A : Nat → Prop} {ad : Nat → Nat} {K : gK} {wr : va_W} {kr : Nat} {x1 : Int32} {σ : gS} {r : Int32} (hf : fr_cutToLane kr σ x1 = some r) : gI l D ty A yX4_cutToLane wsX4_cutToLane rm_fr_cutToLane [.ref (ad (2 + kr)), .int x1] (cf ty ad K σ wr) r (cf ty ad K σ wr) := by
  refine gI_enter (cc := cX4_cutToLane) (maxL := 2) (by decide) rfl (Nat.le_of_ble_eq_true rfl) ?_
  intro p e s m args below meth c Q ls F hl hw hret
  have F : CallFix p m c cX4_cutToLane 2 s args wsX4_cutToLane RX4 := F
  obtain ⟨hx, hb, hml, hown, hts⟩ := id F
  have hl : lv_has ls 2 [(0, .ref (ad (2 + kr))), (1, .int x1)] := hl
  have hinX4 : ∀ w ∈ wsX40, w ∈ wsX4_cutToLane := by first | exact fun w h => List.mem_cons_of_mem _ (List.mem_append_right _ h) | decide +kernel
  have kf15 := hts (.fieldLink RX4 15 "GossipGate$Row" "lane" "I") (by decide +kernel)
  unfold fr_cutToLane at hf
  refine lv_aload_n hx hb dX4_cutToLane_0 rfl (lv_at hl 0 rfl) ?_
  obtain ⟨g1, hf⟩ := g_g hf
  refine cf_row_get_1 F hinX4 hw g1 kf15 dX4_cutToLane_1 ?_
  by_cases c2 : (σ.2 0 kr) = 0
  · have hf := g_t c2 hf
    refine lv_lookup (off := 28) (tgt := 32) hx hb dX4_cutToLane_4 (by decide) (by rw [c2]; decide) (by decide) ?_
    refine lv_iload_n hx hb dX4_cutToLane_32 rfl (lv_at hl 1 rfl) ?_
    refine lv_i2b hx hb dX4_cutToLane_33 rfl ?_
    exact hret x1.toInt8.toInt32 _ _ _ _ _ (Option.some.inj hf) rfl hw dX4_cutToLane_34
  have hf := g_f c2 hf
  by_cases c3 : (σ.2 0 kr) = 1
  · have hf := g_t c3 hf
    refine lv_lookup (off := 31) (tgt := 35) hx hb dX4_cutToLane_4 (by decide) (by rw [c3]; decide) (by decide) ?_
    refine lv_iload_n hx hb dX4_cutToLane_35 rfl (lv_at hl 1 rfl) ?_
    refine lv_i2s hx hb dX4_cutToLane_36 rfl ?_
    exact hret x1.toInt16.toInt32 _ _ _ _ _ (Option.some.inj hf) rfl hw dX4_cutToLane_37
  have hf := g_f c3 hf
  refine lv_lookup (off := 34) (tgt := 38) hx hb dX4_cutToLane_4 (by decide) (by have tc2 := g_ti (k := 0) 0 (by decide) c2; have tc3 := g_ti (k := 1) 1 (by decide) c3; simp [Op.lookupswitch.offset_cons, Op.lookupswitch.offset_nil]; omega) (by decide) ?_
  refine lv_iload_n hx hb dX4_cutToLane_38 rfl (lv_at hl 1 rfl) ?_
  exact hret x1 _ _ _ _ _ (Option.some.inj hf) rfl hw dX4_cutToLane_39

abbrev rm_fr_write : Room := { frames := 1, cells := 0, slots := 0, locals := 21 }
set_option maxHeartbeats 4000000 in
set_option maxRecDepth 100000 in
theorem cfr_write {l : Launch} {D : va_G} {ty : gT} {A : Nat → Prop} {ad : Nat → Nat} {K : gK} {wr : va_W} {kr : Nat} {x1 : Int32} {x2 : Int32} {σ : gS} {σ' : gS} (hf : fr_write kr σ x1 x2 = some ((), σ')) : gV l D ty A yX4_write wsX4_write rm_fr_write [.ref (ad (2 + kr)), .int x1, .int x2] (cf ty ad K σ wr) (cf ty ad K σ' wr) := by
  refine gV_enter (cc := cX4_write) (maxL := 3) (by decide) rfl (Nat.le_of_ble_eq_true rfl) ?_
  intro p e s m args below meth c Q ls F hl hw hret
  have F : CallFix p m c cX4_write 3 s args wsX4_write RX4 := F
  obtain ⟨hx, hb, hml, hown, hts⟩ := id F
  have hl : lv_has ls 3 [(0, .ref (ad (2 + kr))), (1, .int x1), (2, .int x2)] := hl
  have hinX4 : ∀ w ∈ wsX40, w ∈ wsX4_write := by first | exact fun w h => List.mem_cons_of_mem _ (List.mem_append_right _ h) | decide +kernel
  have kf9 := hts (.fieldLink RX4 9 "GossipGate$Row" "cells" "[I") (by decide +kernel)
  unfold fr_write at hf
  refine lv_aload_n hx hb dX4_write_0 rfl (lv_at hl 0 rfl) ?_
  refine lv_iload_n hx hb dX4_write_1 rfl (lv_at hl 1 rfl) ?_
  obtain ⟨g2, hf⟩ := g_g hf
  obtain ⟨r3, h1, hf⟩ := g_b1 hf
  refine g_cI F (As := [.int x1]) (rest := []) (cfr_hasCell h1) (cwV 1 hts gX4_write_X4_hasCell rfl rfl rfl (by decide +kernel) ⟨Nat.le_of_ble_eq_true rfl, Nat.le_of_ble_eq_true rfl⟩) hw (hw.recv (ci := 4) (q0 := 2 + kr) rfl rfl (cf_row g2)) rfl hl.1 rfl (Nat.le_of_ble_eq_true rfl) dX4_write_2 (fun H locs hw => ?_)
  refine lv_if_eq (tgt := 19) hx hb dX4_write_5 (by decide) (fun c4 => ?_) (fun c4 => ?_)
  · have hf := g_f (bI_z c4) hf
    exact hret _ _ _ _ _ (congrArg (fun t => cf ty ad K t wr) (g_i2 hf)) hw dX4_write_19
  · have hf := g_t (bI_nz c4) hf
    refine lv_aload_n hx hb dX4_write_8 rfl (lv_at hl 0 rfl) ?_
    refine cf_row_get_0 F hinX4 hw g2 kf9 dX4_write_9 ?_
    refine lv_iload_n hx hb dX4_write_12 rfl (lv_at hl 1 rfl) ?_
    refine lv_aload_n hx hb dX4_write_13 rfl (lv_at hl 0 rfl) ?_
    refine lv_iload_n hx hb dX4_write_14 rfl (lv_at hl 2 rfl) ?_
    obtain ⟨r6, h5, hf⟩ := g_b1 hf
    refine g_cI F (As := [.int x2]) (rest := [.int x1, .ref (ad (6 + kr))]) (cfr_cutToLane h5) (cwV 1 hts gX4_write_X4_cutToLane rfl rfl rfl (by decide +kernel) ⟨Nat.le_of_ble_eq_true rfl, Nat.le_of_ble_eq_true rfl⟩) hw (hw.recv (ci := 4) (q0 := 2 + kr) rfl rfl (cf_row g2)) rfl hl.1 rfl (Nat.le_of_ble_eq_true rfl) dX4_write_15 (fun H locs hw => ?_)
    obtain ⟨g7, hf⟩ := g_g hf
    refine cf_row_st F hw g2 g7 dX4_write_18 (fun H locs hw => ?_)
    obtain ⟨σ8, eσ8, hf⟩ := g_let hf
    have hw := cf_re eσ8 hw
    exact hret _ _ _ _ _ (congrArg (fun t => cf ty ad K t wr) (g_i2 hf)) hw dX4_write_19

abbrev rm_cs_isBornBy : Room := { frames := 0, cells := 0, slots := 0, locals := 0 }
set_option maxHeartbeats 4000000 in
set_option maxRecDepth 100000 in
theorem ccs_isBornBy {l : Launch} {D : va_G} {ty : gT} {A : Nat → Prop} {ad : Nat → Nat} {wr : va_W} {G : Nat} {S : Nat} {kg : Nat} {x1 : Int32} {X : gC} {r : Bool} (hf : cs_isBornBy G S kg X x1 = some r) : gI l D ty A yX5_isBornBy wsX5_isBornBy rm_cs_isBornBy [.ref (ad (200 + kg)), .int x1] (cw ty ad G S X wr) (bI r) (cw ty ad G S X wr) := by
  refine gZ_enter (cc := cX5_isBornBy) (maxL := 2) (by decide) rfl (Nat.le_of_ble_eq_true rfl) ?_
  intro p e s m args below meth c Q ls F hl hw hret
  have F : CallFix p m c cX5_isBornBy 2 s args wsX5_isBornBy RX5 := F
  obtain ⟨hx, hb, hml, hown, hts⟩ := id F
  have hl : lv_has ls 2 [(0, .ref (ad (200 + kg))), (1, .int x1)] := hl
  have hinX5 : ∀ w ∈ wsX50, w ∈ wsX5_isBornBy := by first | exact fun w h => List.mem_cons_of_mem _ (List.mem_append_right _ h) | decide +kernel
  have kf18 := hts (.fieldLink RX5 18 "GossipGate$Story" "born" "I") (by decide +kernel)
  unfold cs_isBornBy at hf
  refine lv_iload_n hx hb dX5_isBornBy_0 rfl (lv_at hl 1 rfl) ?_
  refine lv_aload_n hx hb dX5_isBornBy_1 rfl (lv_at hl 0 rfl) ?_
  obtain ⟨g1, hf⟩ := g_g hf
  refine cw_story_get_2 F hinX5 hw g1 kf18 dX5_isBornBy_2 ?_
  refine lv_icmp_lt (tgt := 12) hx hb dX5_isBornBy_5 (by decide) (fun c2 => ?_) (fun c2 => ?_)
  · have hf := g_t c2 hf
    refine lv_iconst (v := 0) hx hb dX5_isBornBy_12 (by decide) ?_
    exact hret false _ _ _ _ _ (Option.some.inj hf) rfl hw dX5_isBornBy_13
  · have hf := g_f c2 hf
    refine lv_iconst (v := 1) hx hb dX5_isBornBy_8 (by decide) ?_
    refine lv_goto (tgt := 13) hx hb dX5_isBornBy_9 (by decide) ?_
    exact hret true _ _ _ _ _ (Option.some.inj hf) rfl hw dX5_isBornBy_13

abbrev rm_cs_freshness : Room := { frames := 1, cells := 0, slots := 0, locals := 21 }
set_option maxHeartbeats 4000000 in
set_option maxRecDepth 100000 in
theorem ccs_freshness {l : Launch} {D : va_G} {ty : gT} {A : Nat → Prop} {ad : Nat → Nat} {wr : va_W} {G : Nat} {S : Nat} {kg : Nat} {x1 : Int32} {X : gC} {r : Int32} (hf : cs_freshness G S kg X x1 = some r) : gI l D ty A yX5_freshness wsX5_freshness rm_cs_freshness [.ref (ad (200 + kg)), .int x1] (cw ty ad G S X wr) r (cw ty ad G S X wr) := by
  refine gI_enter (cc := cX5_freshness) (maxL := 2) (by decide) rfl (Nat.le_of_ble_eq_true rfl) ?_
  intro p e s m args below meth c Q ls F hl hw hret
  have F : CallFix p m c cX5_freshness 2 s args wsX5_freshness RX5 := F
  obtain ⟨hx, hb, hml, hown, hts⟩ := id F
  have hl : lv_has ls 2 [(0, .ref (ad (200 + kg))), (1, .int x1)] := hl
  have hinX5 : ∀ w ∈ wsX50, w ∈ wsX5_freshness := by first | exact fun w h => List.mem_cons_of_mem _ (List.mem_append_right _ h) | decide +kernel
  have kf18 := hts (.fieldLink RX5 18 "GossipGate$Story" "born" "I") (by decide +kernel)
  have kmCmax := hts (.code Lib.Math.max.name Lib.Math.max.code 2 (some .int)) (by decide +kernel)
  have kmImax := hts (.initialized "java/lang/Math") (by decide +kernel)
  have kmLmax := hts (.methodLink RX5 21 Lib.Math.max.name) (by decide +kernel)
  have kmSmax := hts (.static Lib.Math.max.name) (by decide +kernel)
  unfold cs_freshness at hf
  refine lv_iconst (v := 0) hx hb dX5_freshness_0 (by decide) ?_
  refine lv_iconst (v := 4) hx hb dX5_freshness_1 (by decide) ?_
  refine lv_iload_n hx hb dX5_freshness_2 rfl (lv_at hl 1 rfl) ?_
  refine lv_aload_n hx hb dX5_freshness_3 rfl (lv_at hl 0 rfl) ?_
  obtain ⟨g1, hf⟩ := g_g hf
  refine cw_story_get_2 F hinX5 hw g1 kf18 dX5_freshness_4 ?_
  refine lv_isub hx hb dX5_freshness_7 ?_
  refine lv_isub hx hb dX5_freshness_8 ?_
  refine va_mmax hx hb (hml.trans hl.1.symm) hown kmLmax kmSmax kmImax kmCmax (Nat.le_of_ble_eq_true rfl) (Nat.le_of_ble_eq_true rfl) (Nat.zero_le _) (Nat.zero_le _) dX5_freshness_9 ?_
  exact hret (if (0 : Int32) < ((4 : Int32) - (x1 - (X.2.2 5 kg))) then ((4 : Int32) - (x1 - (X.2.2 5 kg))) else (0 : Int32)) _ _ _ _ _ (Option.some.inj hf) rfl hw dX5_freshness_12

abbrev rm_cs_sizeOfThird : Room := { frames := 0, cells := 0, slots := 0, locals := 0 }
set_option maxHeartbeats 4000000 in
set_option maxRecDepth 100000 in
theorem ccs_sizeOfThird {l : Launch} {D : va_G} {ty : gT} {A : Nat → Prop} {ad : Nat → Nat} {wr : va_W} {G : Nat} {S : Nat} {kg : Nat} {x1 : Int32} {X : gC} {r : Int32} (hf : cs_sizeOfThird G S kg X x1 = some r) : gI l D ty A yX5_sizeOfThird wsX5_sizeOfThird rm_cs_sizeOfThird [.ref (ad (200 + kg)), .int x1] (cw ty ad G S X wr) r (cw ty ad G S X wr) := by
  refine gI_enter (cc := cX5_sizeOfThird) (maxL := 2) (by decide) rfl (Nat.le_of_ble_eq_true rfl) ?_
  intro p e s m args below meth c Q ls F hl hw hret
  have F : CallFix p m c cX5_sizeOfThird 2 s args wsX5_sizeOfThird RX5 := F
  obtain ⟨hx, hb, hml, hown, hts⟩ := id F
  have hl : lv_has ls 2 [(0, .ref (ad (200 + kg))), (1, .int x1)] := hl
  have hinX5 : ∀ w ∈ wsX50, w ∈ wsX5_sizeOfThird := by first | exact fun w h => List.mem_cons_of_mem _ (List.mem_append_right _ h) | decide +kernel
  have kf9 := hts (.fieldLink RX5 9 "GossipGate$Story" "large" "I") (by decide +kernel)
  unfold cs_sizeOfThird at hf
  refine lv_aload_n hx hb dX5_sizeOfThird_0 rfl (lv_at hl 0 rfl) ?_
  obtain ⟨g1, hf⟩ := g_g hf
  refine cw_story_get_0 F hinX5 hw g1 kf9 dX5_sizeOfThird_1 ?_
  refine lv_iconst (v := 3) hx hb dX5_sizeOfThird_4 (by decide) ?_
  refine lv_idiv hx hb dX5_sizeOfThird_5 (by decide) ?_
  refine lv_iload_n hx hb dX5_sizeOfThird_6 rfl (lv_at hl 1 rfl) ?_
  refine lv_aload_n hx hb dX5_sizeOfThird_7 rfl (lv_at hl 0 rfl) ?_
  refine cw_story_get_0 F hinX5 hw g1 kf9 dX5_sizeOfThird_8 ?_
  refine lv_iconst (v := 3) hx hb dX5_sizeOfThird_11 (by decide) ?_
  refine lv_irem hx hb dX5_sizeOfThird_12 (by decide) ?_
  refine lv_icmp_ge (tgt := 20) hx hb dX5_sizeOfThird_13 (by decide) (fun c2 => ?_) (fun c2 => ?_)
  · have hf := g_t c2 hf
    refine lv_iconst (v := 0) hx hb dX5_sizeOfThird_20 (by decide) ?_
    refine lv_iadd hx hb dX5_sizeOfThird_21 ?_
    exact hret (((X.2.2 3 kg) / 3) + 0) _ _ _ _ _ (Option.some.inj hf) rfl hw dX5_sizeOfThird_22
  · have hf := g_f c2 hf
    refine lv_iconst (v := 1) hx hb dX5_sizeOfThird_16 (by decide) ?_
    refine lv_goto (tgt := 21) hx hb dX5_sizeOfThird_17 (by decide) ?_
    refine lv_iadd hx hb dX5_sizeOfThird_21 ?_
    exact hret (((X.2.2 3 kg) / 3) + 1) _ _ _ _ _ (Option.some.inj hf) rfl hw dX5_sizeOfThird_22

abbrev rm_cs_sizeOf : Room := { frames := 1, cells := 0, slots := 0, locals := 21 }
set_option maxHeartbeats 4000000 in
set_option maxRecDepth 100000 in
theorem ccs_sizeOf {l : Launch} {D : va_G} {ty : gT} {A : Nat → Prop} {ad : Nat → Nat} {wr : va_W} {G : Nat} {S : Nat} {kg : Nat} {x1 : Int32} {X : gC} {r : Int32} (hf : cs_sizeOf G S kg X x1 = some r) : gI l D ty A yX5_sizeOf wsX5_sizeOf rm_cs_sizeOf [.ref (ad (200 + kg)), .int x1] (cw ty ad G S X wr) r (cw ty ad G S X wr) := by
  refine gI_enter (cc := cX5_sizeOf) (maxL := 4) (by decide) rfl (Nat.le_of_ble_eq_true rfl) ?_
  intro p e s m args below meth c Q ls F hl hw hret
  have F : CallFix p m c cX5_sizeOf 4 s args wsX5_sizeOf RX5 := F
  obtain ⟨hx, hb, hml, hown, hts⟩ := id F
  have hl : lv_has ls 4 [(0, .ref (ad (200 + kg))), (1, .int x1)] := hl
  have B4 : ∀ (n4 : Nat) (v1 : Int32) (v2 : Int32) (v3 : Int32) (H : Heap) (locs : List Loc) (ls : Array Slot), lv_has ls 4 [(0, .ref (ad (200 + kg))), (1, .int v1), (2, .int v2), (3, .int v3)] → gW D ty A (cw ty ad G S X wr) s s.heap H locs → cs_sizeOf_b4 G S kg X n4 v1 v2 v3 = some r → W p l e rm_cs_sizeOf s m args below meth c H locs 0 0 Q (F0 m 4 ls []) := by
    intro n4
    induction n4 with
    | zero => intro v1 v2 v3 H locs ls hl hw hf; cases hf
    | succ n4 ih4 =>
      have B25 : ∀ (v1 : Int32) (v2 : Int32) (v3 : Int32) (H : Heap) (locs : List Loc) (ls : Array Slot), lv_has ls 4 [(0, .ref (ad (200 + kg))), (1, .int v1), (2, .int v2), (3, .int v3)] → gW D ty A (cw ty ad G S X wr) s s.heap H locs → cs_sizeOf_b25 G S kg X (cs_sizeOf_b4 G S kg X n4) v1 v2 v3 = some r → W p l e rm_cs_sizeOf s m args below meth c H locs 0 0 Q (F0 m 25 ls []) := by
        intro v1 v2 v3 H locs ls hl hw hf
        unfold cs_sizeOf_b25 at hf
        refine lv_iinc (v := v3 + 1) (lv' := [(3, .int (v3 + 1)), (0, .ref (ad (200 + kg))), (1, .int v1), (2, .int v2)]) hx hb dX5_sizeOf_25 hl (k := 3) rfl rfl (by decide) rfl (fun ls hl => ?_)
        refine lv_goto (tgt := 4) hx hb dX5_sizeOf_28 (by decide) ?_
        exact ih4 v1 v2 (v3 + 1) _ _ _ (lv_sub hl [1, 2, 3, 0] rfl) hw hf
      intro v1 v2 v3 H locs ls hl hw hf
      rw [cs_sizeOf_b4] at hf
      refine lv_iload_n hx hb dX5_sizeOf_4 rfl (lv_at hl 3 rfl) ?_
      refine lv_iconst (v := 3) hx hb dX5_sizeOf_5 (by decide) ?_
      refine lv_icmp_ge (tgt := 31) hx hb dX5_sizeOf_6 (by decide) (fun c1 => ?_) (fun c1 => ?_)
      · have hf := g_t c1 hf
        refine lv_iload_n hx hb dX5_sizeOf_31 rfl (lv_at hl 2 rfl) ?_
        exact hret v2 _ _ _ _ _ (Option.some.inj hf) rfl hw dX5_sizeOf_32
      · have hf := g_f c1 hf
        refine lv_iload_n hx hb dX5_sizeOf_9 rfl (lv_at hl 1 rfl) ?_
        refine lv_iconst (v := 1) hx hb dX5_sizeOf_10 (by decide) ?_
        refine lv_iload_n hx hb dX5_sizeOf_11 rfl (lv_at hl 3 rfl) ?_
        refine lv_ishl hx hb dX5_sizeOf_12 ?_
        refine lv_iand hx hb dX5_sizeOf_13 ?_
        refine lv_if_eq (tgt := 25) hx hb dX5_sizeOf_14 (by decide) (fun c2 => ?_) (fun c2 => ?_)
        · have hf := g_t c2 hf
          exact B25 v1 v2 v3 _ _ _ (lv_sub hl [0, 1, 2, 3] rfl) hw hf
        · have hf := g_f c2 hf
          refine lv_iload_n hx hb dX5_sizeOf_17 rfl (lv_at hl 2 rfl) ?_
          refine lv_aload_n hx hb dX5_sizeOf_18 rfl (lv_at hl 0 rfl) ?_
          refine lv_iload_n hx hb dX5_sizeOf_19 rfl (lv_at hl 3 rfl) ?_
          obtain ⟨g4, hf⟩ := g_g hf
          obtain ⟨r5, h3, hf⟩ := g_b1 hf
          refine g_cI F (As := [.int v3]) (rest := [.int v2]) (ccs_sizeOfThird h3) (cwV 1 hts gX5_sizeOf_X5_sizeOfThird rfl rfl rfl (by decide +kernel) ⟨Nat.le_of_ble_eq_true rfl, Nat.le_of_ble_eq_true rfl⟩) hw (hw.recv (ci := 5) (q0 := G + kg + 27) rfl rfl (cw_story g4)) rfl hl.1 rfl (Nat.le_of_ble_eq_true rfl) dX5_sizeOf_20 (fun H locs hw => ?_)
          refine lv_iadd hx hb dX5_sizeOf_23 ?_
          refine lv_istore_n (lv' := [(2, .int (v2 + r5)), (0, .ref (ad (200 + kg))), (1, .int v1), (3, .int v3)]) hx hb dX5_sizeOf_24 rfl hl (by decide) rfl (fun ls hl => ?_)
          exact B25 v1 (v2 + r5) v3 _ _ _ (lv_sub hl [1, 2, 0, 3] rfl) hw hf
  unfold cs_sizeOf at hf
  refine lv_iconst (v := 0) hx hb dX5_sizeOf_0 (by decide) ?_
  refine lv_istore_n (lv' := [(2, .int 0), (0, .ref (ad (200 + kg))), (1, .int x1)]) hx hb dX5_sizeOf_1 rfl hl (by decide) rfl (fun ls hl => ?_)
  refine lv_iconst (v := 0) hx hb dX5_sizeOf_2 (by decide) ?_
  refine lv_istore_n (lv' := [(3, .int 0), (2, .int 0), (0, .ref (ad (200 + kg))), (1, .int x1)]) hx hb dX5_sizeOf_3 rfl hl (by decide) rfl (fun ls hl => ?_)
  exact B4 1000 x1 0 0 _ _ _ (lv_sub hl [2, 3, 1, 0] rfl) hw hf

abbrev rm_ch_kind : Room := { frames := 0, cells := 0, slots := 0, locals := 0 }
set_option maxHeartbeats 4000000 in
set_option maxRecDepth 100000 in
theorem cch_kind {l : Launch} {D : va_G} {ty : gT} {A : Nat → Prop} {ad : Nat → Nat} {wr : va_W} {G : Nat} {S : Nat} {kg : Nat} {X : gC} {r : Int32} (hf : ch_kind G S kg X = some r) : gI l D ty A yX6_kind wsX6_kind rm_ch_kind [.ref (ad (100 + kg))] (cw ty ad G S X wr) r (cw ty ad G S X wr) := by
  refine gI_enter (cc := cX6_kind) (maxL := 1) (by decide) rfl (Nat.le_of_ble_eq_true rfl) ?_
  intro p e s m args below meth c Q ls F hl hw hret
  have F : CallFix p m c cX6_kind 1 s args wsX6_kind RX6 := F
  obtain ⟨hx, hb, hml, hown, hts⟩ := id F
  have hl : lv_has ls 1 [(0, .ref (ad (100 + kg)))] := hl
  unfold ch_kind at hf
  refine lv_iconst (v := 1) hx hb dX6_kind_0 (by decide) ?_
  exact hret 1 _ _ _ _ _ (Option.some.inj hf) rfl hw dX6_kind_1

abbrev rm_ch_takes : Room := { frames := 0, cells := 0, slots := 0, locals := 0 }
set_option maxHeartbeats 4000000 in
set_option maxRecDepth 100000 in
theorem cch_takes {l : Launch} {D : va_G} {ty : gT} {A : Nat → Prop} {ad : Nat → Nat} {wr : va_W} {G : Nat} {S : Nat} {kg : Nat} {x1 : Int32} {x2 : Int32} {X : gC} {r : Int32} (hf : ch_takes G S kg X x1 x2 = some r) : gI l D ty A yX6_takes wsX6_takes rm_ch_takes [.ref (ad (100 + kg)), .int x1, .int x2] (cw ty ad G S X wr) r (cw ty ad G S X wr) := by
  refine gI_enter (cc := cX6_takes) (maxL := 3) (by decide) rfl (Nat.le_of_ble_eq_true rfl) ?_
  intro p e s m args below meth c Q ls F hl hw hret
  have F : CallFix p m c cX6_takes 3 s args wsX6_takes RX6 := F
  obtain ⟨hx, hb, hml, hown, hts⟩ := id F
  have hl : lv_has ls 3 [(0, .ref (ad (100 + kg))), (1, .int x1), (2, .int x2)] := hl
  have hinX0 : ∀ w ∈ wsX00, w ∈ wsX6_takes := by first | exact fun w h => List.mem_cons_of_mem _ (List.mem_append_left _ (List.mem_append_left _ (List.mem_append_right _ h))) | decide +kernel
  have hinX1 : ∀ w ∈ wsX10, w ∈ wsX6_takes := by first | exact fun w h => List.mem_cons_of_mem _ (List.mem_append_left _ (List.mem_append_right _ h)) | decide +kernel
  have hinX6 : ∀ w ∈ wsX60, w ∈ wsX6_takes := by first | exact fun w h => List.mem_cons_of_mem _ (List.mem_append_right _ h) | decide +kernel
  have kf7 := hts (.fieldLink RX6 7 "GossipGate$Strict" "rate" "I") (by decide +kernel)
  have ks7 := hts (.sameField "GossipGate$Strict" "GossipGate$Gate" "rate" "I") (by decide +kernel)
  unfold ch_takes at hf
  refine lv_iload_n hx hb dX6_takes_0 rfl (lv_at hl 1 rfl) ?_
  refine lv_aload_n hx hb dX6_takes_1 rfl (lv_at hl 0 rfl) ?_
  obtain ⟨g1, hf⟩ := g_g hf
  refine cw_gate_getS_2 F hinX0 hinX1 hinX6 hw g1 kf7 ks7 dX6_takes_2 ?_
  refine lv_iconst (v := 1) hx hb dX6_takes_5 (by decide) ?_
  refine lv_iadd hx hb dX6_takes_6 ?_
  refine lv_imul hx hb dX6_takes_7 ?_
  refine lv_iload_n hx hb dX6_takes_8 rfl (lv_at hl 2 rfl) ?_
  refine lv_imul hx hb dX6_takes_9 ?_
  exact hret ((x1 * ((X.2.2 1 kg) + 1)) * x2) _ _ _ _ _ (Option.some.inj hf) rfl hw dX6_takes_10

abbrev rm_tt_beginsItem : Room := { frames := 0, cells := 0, slots := 0, locals := 0 }
set_option maxHeartbeats 4000000 in
set_option maxRecDepth 100000 in
theorem ctt_beginsItem {l : Launch} {D : va_G} {ty : gT} {A : Nat → Prop} {ad : Nat → Nat} {K : gK} {wr : va_W} {tx : Nat} {σ : gS} {kr : Nat} {x1 : Int32} {τ : gS} {r : Bool} {σ' : gS} (hf : tt_beginsItem σ kr τ x1 = some (r, σ')) : gI l D ty A yX7_beginsItem wsX7_beginsItem rm_tt_beginsItem [.ref tx, .int x1] (tw ty ad K σ tx kr τ wr) (bI r) (tw ty ad K σ tx kr σ' wr) := by
  refine gZ_enter (cc := cX7_beginsItem) (maxL := 2) (by decide) rfl (Nat.le_of_ble_eq_true rfl) ?_
  intro p e s m args below meth c Q ls F hl hw hret
  have F : CallFix p m c cX7_beginsItem 2 s args wsX7_beginsItem RX7 := F
  obtain ⟨hx, hb, hml, hown, hts⟩ := id F
  have hl : lv_has ls 2 [(0, .ref tx), (1, .int x1)] := hl
  have hinX7 : ∀ w ∈ wsX70, w ∈ wsX7_beginsItem := by first | exact fun w h => List.mem_cons_of_mem _ (List.mem_append_right _ h) | decide +kernel
  have kf15 := hts (.fieldLink RX7 15 "GossipGate$Text" "storyCount" "I") (by decide +kernel)
  have kf9 := hts (.fieldLink RX7 9 "GossipGate$Text" "gateCount" "I") (by decide +kernel)
  have B33 : ∀ (v1 : Int32) (τ : gS) (H : Heap) (locs : List Loc) (ls : Array Slot), lv_has ls 2 [(0, .ref tx), (1, .int v1)] → gW D ty A (tw ty ad K σ tx kr τ wr) s s.heap H locs → tt_beginsItem_b33 σ kr v1 τ = some (r, σ') → W p l e rm_tt_beginsItem s m args below meth c H locs 0 0 Q (F0 m 33 ls []) := by
    intro v1 τ H locs ls hl hw hf
    unfold tt_beginsItem_b33 at hf
    refine lv_iload_n hx hb dX7_beginsItem_33 rfl (lv_at hl 1 rfl) ?_
    refine lv_bipush (v := 59) hx hb dX7_beginsItem_34 (by decide) ?_
    refine lv_icmp_ne (tgt := 66) hx hb dX7_beginsItem_36 (by decide) (fun c1 => ?_) (fun c1 => ?_)
    · have hf := g_f c1 hf
      refine lv_iconst (v := 0) hx hb dX7_beginsItem_66 (by decide) ?_
      exact hret false _ _ _ _ _ (g_i1 hf) (congrArg (fun t => tw ty ad K σ tx kr t wr) (g_i2 hf)) hw dX7_beginsItem_67
    · have hf := g_t c1 hf
      refine lv_aload_n hx hb dX7_beginsItem_39 rfl (lv_at hl 0 rfl) ?_
      refine tw_get_3 F hinX7 hw kf9 dX7_beginsItem_40 ?_
      refine lv_if_le (tgt := 66) hx hb dX7_beginsItem_43 (by decide) (fun c2 => ?_) (fun c2 => ?_)
      · have hf := g_t c2 hf
        refine lv_iconst (v := 0) hx hb dX7_beginsItem_66 (by decide) ?_
        exact hret false _ _ _ _ _ (g_i1 hf) (congrArg (fun t => tw ty ad K σ tx kr t wr) (g_i2 hf)) hw dX7_beginsItem_67
      · have hf := g_f c2 hf
        refine lv_aload_n hx hb dX7_beginsItem_46 rfl (lv_at hl 0 rfl) ?_
        refine tw_get_4 F hinX7 hw kf15 dX7_beginsItem_47 ?_
        refine lv_iconst (v := 4) hx hb dX7_beginsItem_50 (by decide) ?_
        refine lv_icmp_ge (tgt := 66) hx hb dX7_beginsItem_51 (by decide) (fun c3 => ?_) (fun c3 => ?_)
        · have hf := g_t c3 hf
          refine lv_iconst (v := 0) hx hb dX7_beginsItem_66 (by decide) ?_
          exact hret false _ _ _ _ _ (g_i1 hf) (congrArg (fun t => tw ty ad K σ tx kr t wr) (g_i2 hf)) hw dX7_beginsItem_67
        · have hf := g_f c3 hf
          refine lv_aload_n hx hb dX7_beginsItem_54 rfl (lv_at hl 0 rfl) ?_
          refine lv_dup hx hb dX7_beginsItem_55 rfl ?_
          refine tw_get_4 F hinX7 hw kf15 dX7_beginsItem_56 ?_
          refine lv_iconst (v := 1) hx hb dX7_beginsItem_59 (by decide) ?_
          refine lv_iadd hx hb dX7_beginsItem_60 ?_
          refine tw_put_4 F hinX7 hw kf15 dX7_beginsItem_61 (fun H locs hw => ?_)
          obtain ⟨τ4, eτ4, hf⟩ := g_let hf
          have hw := tw_re eτ4 hw
          refine lv_iconst (v := 1) hx hb dX7_beginsItem_64 (by decide) ?_
          exact hret true _ _ _ _ _ (g_i1 hf) (congrArg (fun t => tw ty ad K σ tx kr t wr) (g_i2 hf)) hw dX7_beginsItem_65
  unfold tt_beginsItem at hf
  refine lv_iload_n hx hb dX7_beginsItem_0 rfl (lv_at hl 1 rfl) ?_
  refine lv_bipush (v := 44) hx hb dX7_beginsItem_1 (by decide) ?_
  refine lv_icmp_ne (tgt := 33) hx hb dX7_beginsItem_3 (by decide) (fun c5 => ?_) (fun c5 => ?_)
  · have hf := g_f c5 hf
    exact B33 x1 τ _ _ _ (lv_sub hl [0, 1] rfl) hw hf
  · have hf := g_t c5 hf
    refine lv_aload_n hx hb dX7_beginsItem_6 rfl (lv_at hl 0 rfl) ?_
    refine tw_get_4 F hinX7 hw kf15 dX7_beginsItem_7 ?_
    refine lv_if_ne (tgt := 33) hx hb dX7_beginsItem_10 (by decide) (fun c6 => ?_) (fun c6 => ?_)
    · have hf := g_f c6 hf
      exact B33 x1 τ _ _ _ (lv_sub hl [0, 1] rfl) hw hf
    · have hf := g_t c6 hf
      refine lv_aload_n hx hb dX7_beginsItem_13 rfl (lv_at hl 0 rfl) ?_
      refine tw_get_3 F hinX7 hw kf9 dX7_beginsItem_14 ?_
      refine lv_iconst (v := 5) hx hb dX7_beginsItem_17 (by decide) ?_
      refine lv_icmp_ge (tgt := 33) hx hb dX7_beginsItem_18 (by decide) (fun c7 => ?_) (fun c7 => ?_)
      · have hf := g_t c7 hf
        exact B33 x1 τ _ _ _ (lv_sub hl [0, 1] rfl) hw hf
      · have hf := g_f c7 hf
        refine lv_aload_n hx hb dX7_beginsItem_21 rfl (lv_at hl 0 rfl) ?_
        refine lv_dup hx hb dX7_beginsItem_22 rfl ?_
        refine tw_get_3 F hinX7 hw kf9 dX7_beginsItem_23 ?_
        refine lv_iconst (v := 1) hx hb dX7_beginsItem_26 (by decide) ?_
        refine lv_iadd hx hb dX7_beginsItem_27 ?_
        refine tw_put_3 F hinX7 hw kf9 dX7_beginsItem_28 (fun H locs hw => ?_)
        obtain ⟨τ8, eτ8, hf⟩ := g_let hf
        have hw := tw_re eτ8 hw
        refine lv_iconst (v := 1) hx hb dX7_beginsItem_31 (by decide) ?_
        exact hret true _ _ _ _ _ (g_i1 hf) (congrArg (fun t => tw ty ad K σ tx kr t wr) (g_i2 hf)) hw dX7_beginsItem_32

abbrev rm_tt_codeAt : Room := { frames := 2, cells := 0, slots := 0, locals := 42 }
set_option maxHeartbeats 4000000 in
set_option maxRecDepth 100000 in
theorem ctt_codeAt {l : Launch} {D : va_G} {ty : gT} {A : Nat → Prop} {ad : Nat → Nat} {K : gK} {wr : va_W} {tx : Nat} {σ : gS} {kr : Nat} {x1 : Int32} {τ : gS} {r : Int32} (hf : tt_codeAt σ kr τ x1 = some r) : gI l D ty A yX7_codeAt wsX7_codeAt rm_tt_codeAt [.ref tx, .int x1] (tw ty ad K σ tx kr τ wr) r (tw ty ad K σ tx kr τ wr) := by
  refine gI_enter (cc := cX7_codeAt) (maxL := 2) (by decide) rfl (Nat.le_of_ble_eq_true rfl) ?_
  intro p e s m args below meth c Q ls F hl hw hret
  have F : CallFix p m c cX7_codeAt 2 s args wsX7_codeAt RX7 := F
  obtain ⟨hx, hb, hml, hown, hts⟩ := id F
  have hl : lv_has ls 2 [(0, .ref tx), (1, .int x1)] := hl
  have hinX7 : ∀ w ∈ wsX70, w ∈ wsX7_codeAt := by first | exact fun w h => List.mem_cons_of_mem _ (List.mem_append_left _ (List.mem_append_right _ h)) | decide +kernel
  have kf18 := hts (.fieldLink RX7 18 "GossipGate$Text" "row" "LGossipGate$Row;") (by decide +kernel)
  have kf22 := hts (.fieldLink RX7 22 "GossipGate$Text" "start" "I") (by decide +kernel)
  unfold tt_codeAt at hf
  refine lv_aload_n hx hb dX7_codeAt_0 rfl (lv_at hl 0 rfl) ?_
  refine tw_get_0 F hinX7 hw kf18 dX7_codeAt_1 ?_
  refine lv_aload_n hx hb dX7_codeAt_4 rfl (lv_at hl 0 rfl) ?_
  refine tw_get_1 F hinX7 hw kf22 dX7_codeAt_5 ?_
  refine lv_iload_n hx hb dX7_codeAt_8 rfl (lv_at hl 1 rfl) ?_
  refine lv_iadd hx hb dX7_codeAt_9 ?_
  obtain ⟨g2, hf⟩ := g_g hf
  obtain ⟨r3, h1, hf⟩ := g_b1 hf
  refine g_cI F (As := [.int ((τ.1 0) + x1)]) (rest := []) (cfr_read h1) (cwV 1 hts gX7_codeAt_X4_read rfl rfl rfl (by decide +kernel) ⟨Nat.le_of_ble_eq_true rfl, Nat.le_of_ble_eq_true rfl⟩) hw (hw.recv (ci := 4) (q0 := 2 + kr) rfl rfl (cf_row g2)) rfl hl.1 rfl (Nat.le_of_ble_eq_true rfl) dX7_codeAt_10 (fun H locs hw => ?_)
  exact hret r3 _ _ _ _ _ (Option.some.inj hf) rfl hw dX7_codeAt_13

abbrev rm_tt_kindOf : Room := { frames := 0, cells := 0, slots := 0, locals := 0 }
set_option maxHeartbeats 4000000 in
set_option maxRecDepth 100000 in
theorem ctt_kindOf {l : Launch} {D : va_G} {ty : gT} {A : Nat → Prop} {ws : va_W} {x1 : Int32} {r : Int32} (hf : tt_kindOf x1 = some r) : gI l D ty A yX7_kindOf wsX7_kindOf rm_tt_kindOf [.int x1] ws r ws := by
  refine gI_enter (cc := cX7_kindOf) (maxL := 1) (by decide) rfl (Nat.le_of_ble_eq_true rfl) ?_
  intro p e s m args below meth c Q ls F hl hw hret
  have F : CallFix p m c cX7_kindOf 1 s args wsX7_kindOf RX7 := F
  obtain ⟨hx, hb, hml, hown, hts⟩ := id F
  have hl : lv_has ls 1 [(0, .int x1)] := hl
  unfold tt_kindOf at hf
  refine lv_iload_n hx hb dX7_kindOf_0 rfl (lv_at hl 0 rfl) ?_
  by_cases c1 : x1 = 103
  · have hf := g_t c1 hf
    refine lv_lookup (off := 35) (tgt := 36) hx hb dX7_kindOf_1 (by decide) (by rw [c1]; decide) (by decide) ?_
    refine lv_iconst (v := 0) hx hb dX7_kindOf_36 (by decide) ?_
    exact hret 0 _ _ _ _ _ (Option.some.inj hf) rfl hw dX7_kindOf_37
  have hf := g_f c1 hf
  by_cases c2 : x1 = 108
  · have hf := g_t c2 hf
    refine lv_lookup (off := 39) (tgt := 40) hx hb dX7_kindOf_1 (by decide) (by rw [c2]; decide) (by decide) ?_
    refine lv_iconst (v := 2) hx hb dX7_kindOf_40 (by decide) ?_
    exact hret 2 _ _ _ _ _ (Option.some.inj hf) rfl hw dX7_kindOf_41
  have hf := g_f c2 hf
  by_cases c3 : x1 = 115
  · have hf := g_t c3 hf
    refine lv_lookup (off := 37) (tgt := 38) hx hb dX7_kindOf_1 (by decide) (by rw [c3]; decide) (by decide) ?_
    refine lv_iconst (v := 1) hx hb dX7_kindOf_38 (by decide) ?_
    exact hret 1 _ _ _ _ _ (Option.some.inj hf) rfl hw dX7_kindOf_39
  have hf := g_f c3 hf
  refine lv_lookup (off := 41) (tgt := 42) hx hb dX7_kindOf_1 (by decide) (by have tc1 := g_ti (k := 103) 103 (by decide) c1; have tc2 := g_ti (k := 108) 108 (by decide) c2; have tc3 := g_ti (k := 115) 115 (by decide) c3; simp [Op.lookupswitch.offset_cons, Op.lookupswitch.offset_nil]; omega) (by decide) ?_
  refine lv_bipush (v := (-9)) hx hb dX7_kindOf_42 (by decide) ?_
  exact hret (-9) _ _ _ _ _ (Option.some.inj hf) rfl hw dX7_kindOf_44

abbrev rm_tt_fitsGate : Room := { frames := 1, cells := 0, slots := 0, locals := 22 }
set_option maxHeartbeats 4000000 in
set_option maxRecDepth 100000 in
theorem ctt_fitsGate {l : Launch} {D : va_G} {ty : gT} {A : Nat → Prop} {ws : va_W} {x1 : Int32} {x2 : Int32} {r : Bool} (hf : tt_fitsGate x1 x2 = some r) : gI l D ty A yX7_fitsGate wsX7_fitsGate rm_tt_fitsGate [.int x1, .int x2] ws (bI r) ws := by
  refine gZ_enter (cc := cX7_fitsGate) (maxL := 2) (by decide) rfl (Nat.le_of_ble_eq_true rfl) ?_
  intro p e s m args below meth c Q ls F hl hw hret
  have F : CallFix p m c cX7_fitsGate 2 s args wsX7_fitsGate RX7 := F
  obtain ⟨hx, hb, hml, hown, hts⟩ := id F
  have hl : lv_has ls 2 [(0, .int x1), (1, .int x2)] := hl
  unfold tt_fitsGate at hf
  refine lv_iload_n hx hb dX7_fitsGate_0 rfl (lv_at hl 0 rfl) ?_
  by_cases c1 : x1 = 1
  · have hf := g_t c1 hf
    refine lv_lookup (off := 27) (tgt := 28) hx hb dX7_fitsGate_1 (by decide) (by rw [c1]; decide) (by decide) ?_
    refine lv_iload_n hx hb dX7_fitsGate_28 rfl (lv_at hl 1 rfl) ?_
    obtain ⟨r3, h2, hf⟩ := g_b1 hf
    refine g_sI F (As := [.int x2]) (rest := []) (ctt_kindOf h2) (va_cwS 1 hts gX7_fitsGate_X7_kindOf rfl rfl rfl (by decide +kernel) ⟨Nat.le_of_ble_eq_true rfl, Nat.le_of_ble_eq_true rfl⟩) hw rfl hl.1 rfl (Nat.le_of_ble_eq_true rfl) dX7_fitsGate_29 (fun H locs hw => ?_)
    refine lv_bipush (v := (-9)) hx hb dX7_fitsGate_32 (by decide) ?_
    refine lv_icmp_eq (tgt := 41) hx hb dX7_fitsGate_34 (by decide) (fun c4 => ?_) (fun c4 => ?_)
    · have hf := g_t c4 hf
      refine lv_iconst (v := 0) hx hb dX7_fitsGate_41 (by decide) ?_
      exact hret false _ _ _ _ _ (Option.some.inj hf) rfl hw dX7_fitsGate_42
    · have hf := g_f c4 hf
      refine lv_iconst (v := 1) hx hb dX7_fitsGate_37 (by decide) ?_
      refine lv_goto (tgt := 42) hx hb dX7_fitsGate_38 (by decide) ?_
      exact hret true _ _ _ _ _ (Option.some.inj hf) rfl hw dX7_fitsGate_42
  have hf := g_f c1 hf
  by_cases c5 : x1 = 2
  · have hf := g_t c5 hf
    refine lv_lookup (off := 42) (tgt := 43) hx hb dX7_fitsGate_1 (by decide) (by rw [c5]; decide) (by decide) ?_
    refine lv_iload_n hx hb dX7_fitsGate_43 rfl (lv_at hl 1 rfl) ?_
    refine lv_bipush (v := 49) hx hb dX7_fitsGate_44 (by decide) ?_
    refine lv_bipush (v := 57) hx hb dX7_fitsGate_46 (by decide) ?_
    obtain ⟨r7, h6, hf⟩ := g_b1 hf
    refine g_nI F (As := [.int x2, .int 49, .int 57]) (rest := []) (ccx_isWithin h6) ⟨va_cnB 3 hts gX7_fitsGate_X10_isWithin_n58 rfl rfl rfl hw.2.2.2.2.2.2.2.1.2.1 (hts (.initialized RX10) (by decide +kernel)) (by decide +kernel) ⟨Nat.le_of_ble_eq_true rfl, Nat.le_of_ble_eq_true rfl⟩, hts (.static yX10_isWithin) (by decide +kernel), trivial⟩ hw rfl hl.1 rfl (Nat.le_of_ble_eq_true rfl) dX7_fitsGate_48 (fun H locs hw => ?_)
    exact hret r7 _ _ _ _ _ (Option.some.inj hf) rfl hw dX7_fitsGate_51
  have hf := g_f c5 hf
  refine lv_lookup (off := 51) (tgt := 52) hx hb dX7_fitsGate_1 (by decide) (by have tc1 := g_ti (k := 1) 1 (by decide) c1; have tc5 := g_ti (k := 2) 2 (by decide) c5; simp [Op.lookupswitch.offset_cons, Op.lookupswitch.offset_nil]; omega) (by decide) ?_
  refine lv_iload_n hx hb dX7_fitsGate_52 rfl (lv_at hl 1 rfl) ?_
  refine lv_bipush (v := 48) hx hb dX7_fitsGate_53 (by decide) ?_
  refine lv_bipush (v := 54) hx hb dX7_fitsGate_55 (by decide) ?_
  obtain ⟨r9, h8, hf⟩ := g_b1 hf
  refine g_nI F (As := [.int x2, .int 48, .int 54]) (rest := []) (ccx_isWithin h8) ⟨va_cnB 3 hts gX7_fitsGate_X10_isWithin_n58 rfl rfl rfl hw.2.2.2.2.2.2.2.1.2.1 (hts (.initialized RX10) (by decide +kernel)) (by decide +kernel) ⟨Nat.le_of_ble_eq_true rfl, Nat.le_of_ble_eq_true rfl⟩, hts (.static yX10_isWithin) (by decide +kernel), trivial⟩ hw rfl hl.1 rfl (Nat.le_of_ble_eq_true rfl) dX7_fitsGate_57 (fun H locs hw => ?_)
  exact hret r9 _ _ _ _ _ (Option.some.inj hf) rfl hw dX7_fitsGate_60

abbrev rm_tt_fitsStory : Room := { frames := 1, cells := 0, slots := 0, locals := 22 }
set_option maxHeartbeats 4000000 in
set_option maxRecDepth 100000 in
theorem ctt_fitsStory {l : Launch} {D : va_G} {ty : gT} {A : Nat → Prop} {ws : va_W} {x1 : Int32} {x2 : Int32} {r : Bool} (hf : tt_fitsStory x1 x2 = some r) : gI l D ty A yX7_fitsStory wsX7_fitsStory rm_tt_fitsStory [.int x1, .int x2] ws (bI r) ws := by
  refine gZ_enter (cc := cX7_fitsStory) (maxL := 2) (by decide) rfl (Nat.le_of_ble_eq_true rfl) ?_
  intro p e s m args below meth c Q ls F hl hw hret
  have F : CallFix p m c cX7_fitsStory 2 s args wsX7_fitsStory RX7 := F
  obtain ⟨hx, hb, hml, hown, hts⟩ := id F
  have hl : lv_has ls 2 [(0, .int x1), (1, .int x2)] := hl
  unfold tt_fitsStory at hf
  refine lv_iload_n hx hb dX7_fitsStory_0 rfl (lv_at hl 0 rfl) ?_
  by_cases c1 : x1 = 1
  · have hf := g_t c1 hf
    refine lv_lookup (off := 27) (tgt := 28) hx hb dX7_fitsStory_1 (by decide) (by rw [c1]; decide) (by decide) ?_
    refine lv_iload_n hx hb dX7_fitsStory_28 rfl (lv_at hl 1 rfl) ?_
    refine lv_bipush (v := 49) hx hb dX7_fitsStory_29 (by decide) ?_
    refine lv_bipush (v := 57) hx hb dX7_fitsStory_31 (by decide) ?_
    obtain ⟨r3, h2, hf⟩ := g_b1 hf
    refine g_nI F (As := [.int x2, .int 49, .int 57]) (rest := []) (ccx_isWithin h2) ⟨va_cnB 3 hts gX7_fitsStory_X10_isWithin_n58 rfl rfl rfl hw.2.2.2.2.2.2.2.1.2.1 (hts (.initialized RX10) (by decide +kernel)) (by decide +kernel) ⟨Nat.le_of_ble_eq_true rfl, Nat.le_of_ble_eq_true rfl⟩, hts (.static yX10_isWithin) (by decide +kernel), trivial⟩ hw rfl hl.1 rfl (Nat.le_of_ble_eq_true rfl) dX7_fitsStory_33 (fun H locs hw => ?_)
    exact hret r3 _ _ _ _ _ (Option.some.inj hf) rfl hw dX7_fitsStory_36
  have hf := g_f c1 hf
  by_cases c4 : x1 = 2
  · have hf := g_t c4 hf
    refine lv_lookup (off := 36) (tgt := 37) hx hb dX7_fitsStory_1 (by decide) (by rw [c4]; decide) (by decide) ?_
    refine lv_iload_n hx hb dX7_fitsStory_37 rfl (lv_at hl 1 rfl) ?_
    refine lv_bipush (v := 48) hx hb dX7_fitsStory_38 (by decide) ?_
    refine lv_bipush (v := 53) hx hb dX7_fitsStory_40 (by decide) ?_
    obtain ⟨r6, h5, hf⟩ := g_b1 hf
    refine g_nI F (As := [.int x2, .int 48, .int 53]) (rest := []) (ccx_isWithin h5) ⟨va_cnB 3 hts gX7_fitsStory_X10_isWithin_n58 rfl rfl rfl hw.2.2.2.2.2.2.2.1.2.1 (hts (.initialized RX10) (by decide +kernel)) (by decide +kernel) ⟨Nat.le_of_ble_eq_true rfl, Nat.le_of_ble_eq_true rfl⟩, hts (.static yX10_isWithin) (by decide +kernel), trivial⟩ hw rfl hl.1 rfl (Nat.le_of_ble_eq_true rfl) dX7_fitsStory_42 (fun H locs hw => ?_)
    exact hret r6 _ _ _ _ _ (Option.some.inj hf) rfl hw dX7_fitsStory_45
  have hf := g_f c4 hf
  refine lv_lookup (off := 45) (tgt := 46) hx hb dX7_fitsStory_1 (by decide) (by have tc1 := g_ti (k := 1) 1 (by decide) c1; have tc4 := g_ti (k := 2) 2 (by decide) c4; simp [Op.lookupswitch.offset_cons, Op.lookupswitch.offset_nil]; omega) (by decide) ?_
  refine lv_iload_n hx hb dX7_fitsStory_46 rfl (lv_at hl 1 rfl) ?_
  refine lv_bipush (v := 48) hx hb dX7_fitsStory_47 (by decide) ?_
  refine lv_bipush (v := 54) hx hb dX7_fitsStory_49 (by decide) ?_
  obtain ⟨r8, h7, hf⟩ := g_b1 hf
  refine g_nI F (As := [.int x2, .int 48, .int 54]) (rest := []) (ccx_isWithin h7) ⟨va_cnB 3 hts gX7_fitsStory_X10_isWithin_n58 rfl rfl rfl hw.2.2.2.2.2.2.2.1.2.1 (hts (.initialized RX10) (by decide +kernel)) (by decide +kernel) ⟨Nat.le_of_ble_eq_true rfl, Nat.le_of_ble_eq_true rfl⟩, hts (.static yX10_isWithin) (by decide +kernel), trivial⟩ hw rfl hl.1 rfl (Nat.le_of_ble_eq_true rfl) dX7_fitsStory_51 (fun H locs hw => ?_)
  exact hret r8 _ _ _ _ _ (Option.some.inj hf) rfl hw dX7_fitsStory_54
