abbrev rm_cx_ofGate : Room := { frames := 1, cells := 0, slots := 0, locals := 21 }
set_option maxHeartbeats 4000000 in
set_option maxRecDepth 100000 in
theorem ccx_ofGate {l : Launch} {D : va_G} {ty : gT} {A : Nat → Prop} {ad : Nat → Nat} {wr : va_W} {G : Nat} {S : Nat} {x1 : Int32} {x2 : Int32} {X : gC} {r : Int32} (hf : cx_ofGate G S X x1 x2 = some r) : gI l D ty A yX10_ofGate wsX10_ofGate rm_cx_ofGate [.ref (ad 0), .int x1, .int x2] (cw ty ad G S X wr) r (cw ty ad G S X wr) := by
  refine gI_enter (cc := cX10_ofGate) (maxL := 4) (by decide) rfl (Nat.le_of_ble_eq_true rfl) ?_
  intro p e s m args below meth c Q ls F hl hw hret
  have F : CallFix p m c cX10_ofGate 4 s args wsX10_ofGate RX10 := F
  obtain ⟨hx, hb, hml, hown, hts⟩ := id F
  have hl : lv_has ls 4 [(0, .ref (ad 0)), (1, .int x1), (2, .int x2)] := hl
  have hinX0 : ∀ w ∈ wsX00, w ∈ wsX10_ofGate := by first | exact fun w h => List.mem_cons_of_mem _ (List.mem_append_left _ (List.mem_append_left _ (List.mem_append_left _ (List.mem_append_right _ h)))) | decide +kernel
  have hinX1 : ∀ w ∈ wsX10, w ∈ wsX10_ofGate := by first | exact fun w h => List.mem_cons_of_mem _ (List.mem_append_left _ (List.mem_append_left _ (List.mem_append_right _ h))) | decide +kernel
  have hinX10 : ∀ w ∈ wsX100, w ∈ wsX10_ofGate := by first | exact fun w h => List.mem_cons_of_mem _ (List.mem_append_left _ (List.mem_append_left _ (List.mem_append_left _ (List.mem_append_left _ (List.mem_append_right _ h))))) | decide +kernel
  have hinX6 : ∀ w ∈ wsX60, w ∈ wsX10_ofGate := by first | exact fun w h => List.mem_cons_of_mem _ (List.mem_append_left _ (List.mem_append_right _ h)) | decide +kernel
  have kf101 := hts (.fieldLink RX10 101 "GossipGate$Gate" "deaf" "I") (by decide +kernel)
  have kf20 := hts (.fieldLink RX10 20 "GossipGate" "theTown" "LGossipGate$Town;") (by decide +kernel)
  have kf98 := hts (.fieldLink RX10 98 "GossipGate$Gate" "rate" "I") (by decide +kernel)
  unfold cx_ofGate at hf
  refine lv_aload_n hx hb dX10_ofGate_0 rfl (lv_at hl 0 rfl) ?_
  refine cf_get_X10_1 F hinX10 hw kf20 dX10_ofGate_1 ?_
  refine lv_iload_n hx hb dX10_ofGate_4 rfl (lv_at hl 1 rfl) ?_
  obtain ⟨r2, h1, hf⟩ := g_b1 hf
  refine g_cQ F (As := [.int x1]) (rest := []) (cct_gateAt h1) (cwV 1 hts gX10_ofGate_X8_gateAt rfl rfl rfl (by decide +kernel) ⟨Nat.le_of_ble_eq_true rfl, Nat.le_of_ble_eq_true rfl⟩) hw (hw.recv (ci := 8) (q0 := 10) rfl rfl rfl) rfl hl.1 rfl (Nat.le_of_ble_eq_true rfl) dX10_ofGate_5 (fun H locs hw => ?_)
  rcases r2 with _ | k3
  · replace hf := gN_n hf
    refine lv_astore_nN (lv' := [(3, .null), (0, .ref (ad 0)), (1, .int x1), (2, .int x2)]) hx hb dX10_ofGate_8 rfl hl (by decide) rfl (fun ls hl => ?_)
    refine lv_aload_nN hx hb dX10_ofGate_9 rfl (lv_at hl 0 rfl) ?_
    refine lv_ifnonnullN hx hb dX10_ofGate_10 ?_
    refine lv_iconst (v := (-1)) hx hb dX10_ofGate_13 (by decide) ?_
    exact hret (-1) _ _ _ _ _ (Option.some.inj hf) rfl hw dX10_ofGate_14
  · replace hf := gN_s hf
    refine lv_astore_n (lv' := [(3, .ref (ad (100 + k3))), (0, .ref (ad 0)), (1, .int x1), (2, .int x2)]) hx hb dX10_ofGate_8 rfl hl (by decide) rfl (fun ls hl => ?_)
    refine lv_aload_n hx hb dX10_ofGate_9 rfl (lv_at hl 0 rfl) ?_
    refine lv_ifnonnull (tgt := 15) hx hb dX10_ofGate_10 (by decide) ?_
    refine lv_iload_n hx hb dX10_ofGate_15 rfl (lv_at hl 3 rfl) ?_
    by_cases c4 : x2 = 0
    · have hf := g_t c4 hf
      refine lv_tableIn (off := 28) (tgt := 44) hx hb dX10_ofGate_16 (by rw [c4]; decide) (by rw [c4]; decide) (by rw [c4]; rfl) (by decide) ?_
      refine lv_aload_n hx hb dX10_ofGate_44 rfl (lv_at hl 0 rfl) ?_
      obtain ⟨g5, hf⟩ := g_g hf
      by_cases c6 : X.2.2 0 k3 = 1
      · replace hf := g_t c6 hf
        obtain ⟨r9, h8, hf⟩ := g_b1 hf
        refine g_uI F (As := []) (rest := []) (cch_kind h8) (va_cwO 0 hts gX10_ofGate_X6_kind_u93X6 rfl rfl rfl (b0 := cX0_kind) (m0 := 1) (r0 := some .int) (by decide +kernel) (by decide +kernel) ⟨Nat.le_of_ble_eq_true rfl, Nat.le_of_ble_eq_true rfl⟩) hw (hw.recv (ci := 6) (q0 := k3 + 27) rfl rfl (cw_gateK g5 (kc_1 c6))) rfl hl.1 rfl (Nat.le_of_ble_eq_true rfl) dX10_ofGate_45 (fun H locs hw => ?_)
        exact hret r9 _ _ _ _ _ (Option.some.inj hf) rfl hw dX10_ofGate_48
      replace hf := g_f c6 hf
      by_cases c7 : X.2.2 0 k3 = 2
      · replace hf := g_t c7 hf
        obtain ⟨r11, h10, hf⟩ := g_b1 hf
        refine g_uI F (As := []) (rest := []) (cci_kind h10) (va_cwO 0 hts gX10_ofGate_X1_kind_u93X1 rfl rfl rfl (b0 := cX0_kind) (m0 := 1) (r0 := some .int) (by decide +kernel) (by decide +kernel) ⟨Nat.le_of_ble_eq_true rfl, Nat.le_of_ble_eq_true rfl⟩) hw (hw.recv (ci := 1) (q0 := k3 + 27) rfl rfl (cw_gateK g5 (kc_2 c6 c7))) rfl hl.1 rfl (Nat.le_of_ble_eq_true rfl) dX10_ofGate_45 (fun H locs hw => ?_)
        exact hret r11 _ _ _ _ _ (Option.some.inj hf) rfl hw dX10_ofGate_48
      · replace hf := g_f c7 hf
        obtain ⟨r13, h12, hf⟩ := g_b1 hf
        refine g_cI F (As := []) (rest := []) (ccg_kind h12) (cwV 0 hts gX10_ofGate_X0_kind rfl rfl rfl (by decide +kernel) ⟨Nat.le_of_ble_eq_true rfl, Nat.le_of_ble_eq_true rfl⟩) hw (hw.recv (ci := 0) (q0 := k3 + 27) rfl rfl (cw_gateK g5 (kc_0 c6 c7))) rfl hl.1 rfl (Nat.le_of_ble_eq_true rfl) dX10_ofGate_45 (fun H locs hw => ?_)
        exact hret r13 _ _ _ _ _ (Option.some.inj hf) rfl hw dX10_ofGate_48
    have hf := g_f c4 hf
    by_cases c14 : x2 = 1
    · have hf := g_t c14 hf
      refine lv_tableIn (off := 33) (tgt := 49) hx hb dX10_ofGate_16 (by rw [c14]; decide) (by rw [c14]; decide) (by rw [c14]; rfl) (by decide) ?_
      refine lv_aload_n hx hb dX10_ofGate_49 rfl (lv_at hl 0 rfl) ?_
      obtain ⟨g15, hf⟩ := g_g hf
      refine cw_gate_get_2 F hinX0 hinX1 hinX6 hw g15 kf98 dX10_ofGate_50 ?_
      exact hret (X.2.2 1 k3) _ _ _ _ _ (Option.some.inj hf) rfl hw dX10_ofGate_53
    have hf := g_f c14 hf
    by_cases c16 : x2 = 2
    · have hf := g_t c16 hf
      refine lv_tableIn (off := 38) (tgt := 54) hx hb dX10_ofGate_16 (by rw [c16]; decide) (by rw [c16]; decide) (by rw [c16]; rfl) (by decide) ?_
      refine lv_aload_n hx hb dX10_ofGate_54 rfl (lv_at hl 0 rfl) ?_
      obtain ⟨g17, hf⟩ := g_g hf
      refine cw_gate_get_1 F hinX0 hinX1 hinX6 hw g17 kf101 dX10_ofGate_55 ?_
      exact hret (X.2.2 2 k3) _ _ _ _ _ (Option.some.inj hf) rfl hw dX10_ofGate_58
    have hf := g_f c16 hf
    refine lv_tableOut (tgt := 59) hx hb dX10_ofGate_16 (by have tc4 := g_ti (k := 0) 0 (by decide) c4; have tc14 := g_ti (k := 1) 1 (by decide) c14; have tc16 := g_ti (k := 2) 2 (by decide) c16; omega) (by decide) ?_
    refine lv_bipush (v := (-2)) hx hb dX10_ofGate_59 (by decide) ?_
    exact hret (-2) _ _ _ _ _ (Option.some.inj hf) rfl hw dX10_ofGate_61

abbrev rm_cx_ofStory : Room := { frames := 1, cells := 0, slots := 0, locals := 21 }
set_option maxHeartbeats 4000000 in
set_option maxRecDepth 100000 in
theorem ccx_ofStory {l : Launch} {D : va_G} {ty : gT} {A : Nat → Prop} {ad : Nat → Nat} {wr : va_W} {G : Nat} {S : Nat} {x1 : Int32} {x2 : Int32} {X : gC} {r : Int32} (hf : cx_ofStory G S X x1 x2 = some r) : gI l D ty A yX10_ofStory wsX10_ofStory rm_cx_ofStory [.ref (ad 0), .int x1, .int x2] (cw ty ad G S X wr) r (cw ty ad G S X wr) := by
  refine gI_enter (cc := cX10_ofStory) (maxL := 4) (by decide) rfl (Nat.le_of_ble_eq_true rfl) ?_
  intro p e s m args below meth c Q ls F hl hw hret
  have F : CallFix p m c cX10_ofStory 4 s args wsX10_ofStory RX10 := F
  obtain ⟨hx, hb, hml, hown, hts⟩ := id F
  have hl : lv_has ls 4 [(0, .ref (ad 0)), (1, .int x1), (2, .int x2)] := hl
  have hinX10 : ∀ w ∈ wsX100, w ∈ wsX10_ofStory := by first | exact fun w h => List.mem_cons_of_mem _ (List.mem_append_left _ (List.mem_append_left _ (List.mem_append_right _ h))) | decide +kernel
  have hinX5 : ∀ w ∈ wsX50, w ∈ wsX10_ofStory := by first | exact fun w h => List.mem_cons_of_mem _ (List.mem_append_left _ (List.mem_append_right _ h)) | decide +kernel
  have kf108 := hts (.fieldLink RX10 108 "GossipGate$Story" "large" "I") (by decide +kernel)
  have kf113 := hts (.fieldLink RX10 113 "GossipGate$Story" "person" "I") (by decide +kernel)
  have kf116 := hts (.fieldLink RX10 116 "GossipGate$Story" "born" "I") (by decide +kernel)
  have kf20 := hts (.fieldLink RX10 20 "GossipGate" "theTown" "LGossipGate$Town;") (by decide +kernel)
  have B71 : ∀ (v2 : Int32) (v3 : Nat) (H : Heap) (locs : List Loc) (ls : Array Slot), lv_has ls 4 [(2, .int v2), (3, .ref (ad (200 + v3)))] → gW D ty A (cw ty ad G S X wr) s s.heap H locs → cx_ofStory_b71 G S X v2 v3 = some r → W p l e rm_cx_ofStory s m args below meth c H locs 0 0 Q (F0 m 71 ls []) := by
    intro v2 v3 H locs ls hl hw hf
    unfold cx_ofStory_b71 at hf
    refine lv_aload_n hx hb dX10_ofStory_71 rfl (lv_at hl 1 rfl) ?_
    refine lv_iload_n hx hb dX10_ofStory_72 rfl (lv_at hl 0 rfl) ?_
    refine lv_iconst (v := 3) hx hb dX10_ofStory_73 (by decide) ?_
    refine lv_isub hx hb dX10_ofStory_74 ?_
    obtain ⟨g2, hf⟩ := g_g hf
    obtain ⟨r3, h1, hf⟩ := g_b1 hf
    refine g_cI F (As := [.int (v2 - 3)]) (rest := []) (ccs_sizeOfThird h1) (cwV 1 hts gX10_ofStory_X5_sizeOfThird rfl rfl rfl (by decide +kernel) ⟨Nat.le_of_ble_eq_true rfl, Nat.le_of_ble_eq_true rfl⟩) hw (hw.recv (ci := 5) (q0 := G + v3 + 27) rfl rfl (cw_story g2)) rfl hl.1 rfl (Nat.le_of_ble_eq_true rfl) dX10_ofStory_75 (fun H locs hw => ?_)
    exact hret r3 _ _ _ _ _ (Option.some.inj hf) rfl hw dX10_ofStory_78
  unfold cx_ofStory at hf
  refine lv_aload_n hx hb dX10_ofStory_0 rfl (lv_at hl 0 rfl) ?_
  refine cf_get_X10_1 F hinX10 hw kf20 dX10_ofStory_1 ?_
  refine lv_iload_n hx hb dX10_ofStory_4 rfl (lv_at hl 1 rfl) ?_
  obtain ⟨r5, h4, hf⟩ := g_b1 hf
  refine g_cQ F (As := [.int x1]) (rest := []) (cct_storyAt h4) (cwV 1 hts gX10_ofStory_X8_storyAt rfl rfl rfl (by decide +kernel) ⟨Nat.le_of_ble_eq_true rfl, Nat.le_of_ble_eq_true rfl⟩) hw (hw.recv (ci := 8) (q0 := 10) rfl rfl rfl) rfl hl.1 rfl (Nat.le_of_ble_eq_true rfl) dX10_ofStory_5 (fun H locs hw => ?_)
  rcases r5 with _ | k6
  · replace hf := gN_n hf
    refine lv_astore_nN (lv' := [(3, .null), (0, .ref (ad 0)), (1, .int x1), (2, .int x2)]) hx hb dX10_ofStory_8 rfl hl (by decide) rfl (fun ls hl => ?_)
    refine lv_aload_nN hx hb dX10_ofStory_9 rfl (lv_at hl 0 rfl) ?_
    refine lv_ifnonnullN hx hb dX10_ofStory_10 ?_
    refine lv_iconst (v := (-1)) hx hb dX10_ofStory_13 (by decide) ?_
    exact hret (-1) _ _ _ _ _ (Option.some.inj hf) rfl hw dX10_ofStory_14
  · replace hf := gN_s hf
    refine lv_astore_n (lv' := [(3, .ref (ad (200 + k6))), (0, .ref (ad 0)), (1, .int x1), (2, .int x2)]) hx hb dX10_ofStory_8 rfl hl (by decide) rfl (fun ls hl => ?_)
    refine lv_aload_n hx hb dX10_ofStory_9 rfl (lv_at hl 0 rfl) ?_
    refine lv_ifnonnull (tgt := 15) hx hb dX10_ofStory_10 (by decide) ?_
    refine lv_iload_n hx hb dX10_ofStory_15 rfl (lv_at hl 3 rfl) ?_
    by_cases c7 : x2 = 0
    · have hf := g_t c7 hf
      refine lv_tableIn (off := 40) (tgt := 56) hx hb dX10_ofStory_16 (by rw [c7]; decide) (by rw [c7]; decide) (by rw [c7]; rfl) (by decide) ?_
      refine lv_aload_n hx hb dX10_ofStory_56 rfl (lv_at hl 0 rfl) ?_
      obtain ⟨g8, hf⟩ := g_g hf
      refine cw_story_get_0 F hinX5 hw g8 kf108 dX10_ofStory_57 ?_
      exact hret (X.2.2 3 k6) _ _ _ _ _ (Option.some.inj hf) rfl hw dX10_ofStory_60
    have hf := g_f c7 hf
    by_cases c9 : x2 = 1
    · have hf := g_t c9 hf
      refine lv_tableIn (off := 45) (tgt := 61) hx hb dX10_ofStory_16 (by rw [c9]; decide) (by rw [c9]; decide) (by rw [c9]; rfl) (by decide) ?_
      refine lv_aload_n hx hb dX10_ofStory_61 rfl (lv_at hl 0 rfl) ?_
      obtain ⟨g10, hf⟩ := g_g hf
      refine cw_story_get_1 F hinX5 hw g10 kf113 dX10_ofStory_62 ?_
      exact hret (X.2.2 4 k6) _ _ _ _ _ (Option.some.inj hf) rfl hw dX10_ofStory_65
    have hf := g_f c9 hf
    by_cases c11 : x2 = 2
    · have hf := g_t c11 hf
      refine lv_tableIn (off := 50) (tgt := 66) hx hb dX10_ofStory_16 (by rw [c11]; decide) (by rw [c11]; decide) (by rw [c11]; rfl) (by decide) ?_
      refine lv_aload_n hx hb dX10_ofStory_66 rfl (lv_at hl 0 rfl) ?_
      obtain ⟨g12, hf⟩ := g_g hf
      refine cw_story_get_2 F hinX5 hw g12 kf116 dX10_ofStory_67 ?_
      exact hret (X.2.2 5 k6) _ _ _ _ _ (Option.some.inj hf) rfl hw dX10_ofStory_70
    have hf := g_f c11 hf
    by_cases c13 : x2 = 3
    · have hf := g_t c13 hf
      refine lv_tableIn (off := 55) (tgt := 71) hx hb dX10_ofStory_16 (by rw [c13]; decide) (by rw [c13]; decide) (by rw [c13]; rfl) (by decide) ?_
      exact B71 x2 k6 _ _ _ (lv_sub hl [3, 0] rfl) hw hf
    have hf := g_f c13 hf
    by_cases c14 : x2 = 4
    · have hf := g_t c14 hf
      refine lv_tableIn (off := 55) (tgt := 71) hx hb dX10_ofStory_16 (by rw [c14]; decide) (by rw [c14]; decide) (by rw [c14]; rfl) (by decide) ?_
      exact B71 x2 k6 _ _ _ (lv_sub hl [3, 0] rfl) hw hf
    have hf := g_f c14 hf
    by_cases c15 : x2 = 5
    · have hf := g_t c15 hf
      refine lv_tableIn (off := 55) (tgt := 71) hx hb dX10_ofStory_16 (by rw [c15]; decide) (by rw [c15]; decide) (by rw [c15]; rfl) (by decide) ?_
      exact B71 x2 k6 _ _ _ (lv_sub hl [3, 0] rfl) hw hf
    have hf := g_f c15 hf
    refine lv_tableOut (tgt := 79) hx hb dX10_ofStory_16 (by have tc7 := g_ti (k := 0) 0 (by decide) c7; have tc9 := g_ti (k := 1) 1 (by decide) c9; have tc11 := g_ti (k := 2) 2 (by decide) c11; have tc13 := g_ti (k := 3) 3 (by decide) c13; have tc14 := g_ti (k := 4) 4 (by decide) c14; have tc15 := g_ti (k := 5) 5 (by decide) c15; omega) (by decide) ?_
    refine lv_bipush (v := (-2)) hx hb dX10_ofStory_79 (by decide) ?_
    exact hret (-2) _ _ _ _ _ (Option.some.inj hf) rfl hw dX10_ofStory_81

abbrev rm_cx_harmless : Room := { frames := 1, cells := 0, slots := 0, locals := 22 }
set_option maxHeartbeats 4000000 in
set_option maxRecDepth 100000 in
theorem ccx_harmless {l : Launch} {D : va_G} {ty : gT} {A : Nat → Prop} {ad : Nat → Nat} {wr : va_W} {G : Nat} {S : Nat} {x1 : Int32} {X : gC} {r : Int32} {σ' : gC} (hf : cx_harmless G S X x1 = some (r, σ')) : gI l D ty A yX10_harmless wsX10_harmless rm_cx_harmless [.ref (ad 0), .int x1] (cw ty ad G S X wr) r (cw ty ad G S σ' wr) := by
  refine gI_enter (cc := cX10_harmless) (maxL := 3) (by decide) rfl (Nat.le_of_ble_eq_true rfl) ?_
  intro p e s m args below meth c Q ls F hl hw hret
  have F : CallFix p m c cX10_harmless 3 s args wsX10_harmless RX10 := F
  obtain ⟨hx, hb, hml, hown, hts⟩ := id F
  have hl : lv_has ls 3 [(0, .ref (ad 0)), (1, .int x1)] := hl
  have hinX10 : ∀ w ∈ wsX100, w ∈ wsX10_harmless := by first | exact fun w h => List.mem_cons_of_mem _ (List.mem_append_left _ (List.mem_append_right _ h)) | decide +kernel
  have hinX8 : ∀ w ∈ wsX80, w ∈ wsX10_harmless := by first | exact fun w h => List.mem_cons_of_mem _ (List.mem_append_right _ h) | decide +kernel
  have kf126 := hts (.fieldLink RX10 126 "GossipGate$Town" "harmlessSize" "I") (by decide +kernel)
  have kf20 := hts (.fieldLink RX10 20 "GossipGate" "theTown" "LGossipGate$Town;") (by decide +kernel)
  unfold cx_harmless at hf
  refine lv_iload_n hx hb dX10_harmless_0 rfl (lv_at hl 1 rfl) ?_
  refine lv_iconst (v := 0) hx hb dX10_harmless_1 (by decide) ?_
  refine lv_bipush (v := 9) hx hb dX10_harmless_2 (by decide) ?_
  obtain ⟨r2, h1, hf⟩ := g_b1 hf
  refine g_sI F (As := [.int x1, .int 0, .int 9]) (rest := []) (ccx_isWithin h1) (va_cwS 3 hts gX10_harmless_X10_isWithin rfl rfl rfl (by decide +kernel) ⟨Nat.le_of_ble_eq_true rfl, Nat.le_of_ble_eq_true rfl⟩) hw rfl hl.1 rfl (Nat.le_of_ble_eq_true rfl) dX10_harmless_4 (fun H locs hw => ?_)
  refine lv_if_ne (tgt := 13) hx hb dX10_harmless_7 (by decide) (fun c3 => ?_) (fun c3 => ?_)
  · have hf := g_t (bI_nz c3) hf
    refine lv_aload_n hx hb dX10_harmless_13 rfl (lv_at hl 0 rfl) ?_
    refine cf_get_X10_1 F hinX10 hw kf20 dX10_harmless_14 ?_
    obtain ⟨r5, h4, hf⟩ := g_b1 hf
    refine g_cI F (As := []) (rest := []) (cct_stands h4) (cwV 0 hts gX10_harmless_X8_stands rfl rfl rfl (by decide +kernel) ⟨Nat.le_of_ble_eq_true rfl, Nat.le_of_ble_eq_true rfl⟩) hw (hw.recv (ci := 8) (q0 := 10) rfl rfl rfl) rfl hl.1 rfl (Nat.le_of_ble_eq_true rfl) dX10_harmless_17 (fun H locs hw => ?_)
    refine lv_if_ne (tgt := 26) hx hb dX10_harmless_20 (by decide) (fun c6 => ?_) (fun c6 => ?_)
    · have hf := g_t (bI_nz c6) hf
      refine lv_aload_n hx hb dX10_harmless_26 rfl (lv_at hl 0 rfl) ?_
      refine cf_get_X10_1 F hinX10 hw kf20 dX10_harmless_27 ?_
      refine cf_get_X8_2 F hinX8 hw kf126 dX10_harmless_30 ?_
      refine lv_istore_n (lv' := [(2, .int (X.1.1 2)), (0, .ref (ad 0)), (1, .int x1)]) hx hb dX10_harmless_33 rfl hl (by decide) rfl (fun ls hl => ?_)
      refine lv_aload_n hx hb dX10_harmless_34 rfl (lv_at hl 1 rfl) ?_
      refine cf_get_X10_1 F hinX10 hw kf20 dX10_harmless_35 ?_
      refine lv_iload_n hx hb dX10_harmless_38 rfl (lv_at hl 2 rfl) ?_
      refine cf_put_X8_2 F hinX8 hw kf126 dX10_harmless_39 (fun H locs hw => ?_)
      obtain ⟨X7, eX7, hf⟩ := g_let hf
      have hw := cw_re eX7 hw
      refine lv_iload_n hx hb dX10_harmless_42 rfl (lv_at hl 0 rfl) ?_
      exact hret (X.1.1 2) _ _ _ _ _ (g_i1 hf) (congrArg (fun t => cw ty ad G S t wr) (g_i2 hf)) hw dX10_harmless_43
    · have hf := g_f (bI_z c6) hf
      refine lv_bipush (v := (-3)) hx hb dX10_harmless_23 (by decide) ?_
      exact hret (-3) _ _ _ _ _ (g_i1 hf) (congrArg (fun t => cw ty ad G S t wr) (g_i2 hf)) hw dX10_harmless_25
  · have hf := g_f (bI_z c3) hf
    refine lv_bipush (v := (-2)) hx hb dX10_harmless_10 (by decide) ?_
    exact hret (-2) _ _ _ _ _ (g_i1 hf) (congrArg (fun t => cw ty ad G S t wr) (g_i2 hf)) hw dX10_harmless_12

abbrev rm_cx_rate : Room := { frames := 1, cells := 0, slots := 0, locals := 22 }
set_option maxHeartbeats 4000000 in
set_option maxRecDepth 100000 in
theorem ccx_rate {l : Launch} {D : va_G} {ty : gT} {A : Nat → Prop} {ad : Nat → Nat} {wr : va_W} {G : Nat} {S : Nat} {x1 : Int32} {x2 : Int32} {X : gC} {r : Int32} {σ' : gC} (hf : cx_rate G S X x1 x2 = some (r, σ')) : gI l D ty A yX10_rate wsX10_rate rm_cx_rate [.ref (ad 0), .int x1, .int x2] (cw ty ad G S X wr) r (cw ty ad G S σ' wr) := by
  refine gI_enter (cc := cX10_rate) (maxL := 5) (by decide) rfl (Nat.le_of_ble_eq_true rfl) ?_
  intro p e s m args below meth c Q ls F hl hw hret
  have F : CallFix p m c cX10_rate 5 s args wsX10_rate RX10 := F
  obtain ⟨hx, hb, hml, hown, hts⟩ := id F
  have hl : lv_has ls 5 [(0, .ref (ad 0)), (1, .int x1), (2, .int x2)] := hl
  have hinX0 : ∀ w ∈ wsX00, w ∈ wsX10_rate := by first | exact fun w h => List.mem_cons_of_mem _ (List.mem_append_left _ (List.mem_append_left _ (List.mem_append_left _ (List.mem_append_right _ h)))) | decide +kernel
  have hinX1 : ∀ w ∈ wsX10, w ∈ wsX10_rate := by first | exact fun w h => List.mem_cons_of_mem _ (List.mem_append_left _ (List.mem_append_left _ (List.mem_append_right _ h))) | decide +kernel
  have hinX10 : ∀ w ∈ wsX100, w ∈ wsX10_rate := by first | exact fun w h => List.mem_cons_of_mem _ (List.mem_append_left _ (List.mem_append_left _ (List.mem_append_left _ (List.mem_append_left _ (List.mem_append_right _ h))))) | decide +kernel
  have hinX6 : ∀ w ∈ wsX60, w ∈ wsX10_rate := by first | exact fun w h => List.mem_cons_of_mem _ (List.mem_append_left _ (List.mem_append_right _ h)) | decide +kernel
  have kf20 := hts (.fieldLink RX10 20 "GossipGate" "theTown" "LGossipGate$Town;") (by decide +kernel)
  have kf98 := hts (.fieldLink RX10 98 "GossipGate$Gate" "rate" "I") (by decide +kernel)
  unfold cx_rate at hf
  refine lv_aload_n hx hb dX10_rate_0 rfl (lv_at hl 0 rfl) ?_
  refine cf_get_X10_1 F hinX10 hw kf20 dX10_rate_1 ?_
  refine lv_iload_n hx hb dX10_rate_4 rfl (lv_at hl 1 rfl) ?_
  obtain ⟨r2, h1, hf⟩ := g_b1 hf
  refine g_cQ F (As := [.int x1]) (rest := []) (cct_gateAt h1) (cwV 1 hts gX10_rate_X8_gateAt rfl rfl rfl (by decide +kernel) ⟨Nat.le_of_ble_eq_true rfl, Nat.le_of_ble_eq_true rfl⟩) hw (hw.recv (ci := 8) (q0 := 10) rfl rfl rfl) rfl hl.1 rfl (Nat.le_of_ble_eq_true rfl) dX10_rate_5 (fun H locs hw => ?_)
  rcases r2 with _ | k3
  · replace hf := gN_n hf
    refine lv_astore_nN (lv' := [(3, .null), (0, .ref (ad 0)), (1, .int x1), (2, .int x2)]) hx hb dX10_rate_8 rfl hl (by decide) rfl (fun ls hl => ?_)
    refine lv_aload_nN hx hb dX10_rate_9 rfl (lv_at hl 0 rfl) ?_
    refine lv_ifnonnullN hx hb dX10_rate_10 ?_
    refine lv_iconst (v := (-1)) hx hb dX10_rate_13 (by decide) ?_
    exact hret (-1) _ _ _ _ _ (g_i1 hf) (congrArg (fun t => cw ty ad G S t wr) (g_i2 hf)) hw dX10_rate_14
  · replace hf := gN_s hf
    refine lv_astore_n (lv' := [(3, .ref (ad (100 + k3))), (0, .ref (ad 0)), (1, .int x1), (2, .int x2)]) hx hb dX10_rate_8 rfl hl (by decide) rfl (fun ls hl => ?_)
    refine lv_aload_n hx hb dX10_rate_9 rfl (lv_at hl 0 rfl) ?_
    refine lv_ifnonnull (tgt := 15) hx hb dX10_rate_10 (by decide) ?_
    refine lv_iload_n hx hb dX10_rate_15 rfl (lv_at hl 3 rfl) ?_
    refine lv_iconst (v := 1) hx hb dX10_rate_16 (by decide) ?_
    refine lv_bipush (v := 9) hx hb dX10_rate_17 (by decide) ?_
    obtain ⟨r5, h4, hf⟩ := g_b1 hf
    refine g_sI F (As := [.int x2, .int 1, .int 9]) (rest := []) (ccx_isWithin h4) (va_cwS 3 hts gX10_rate_X10_isWithin rfl rfl rfl (by decide +kernel) ⟨Nat.le_of_ble_eq_true rfl, Nat.le_of_ble_eq_true rfl⟩) hw rfl hl.1 rfl (Nat.le_of_ble_eq_true rfl) dX10_rate_19 (fun H locs hw => ?_)
    refine lv_if_ne (tgt := 28) hx hb dX10_rate_22 (by decide) (fun c6 => ?_) (fun c6 => ?_)
    · have hf := g_t (bI_nz c6) hf
      refine lv_aload_n hx hb dX10_rate_28 rfl (lv_at hl 0 rfl) ?_
      obtain ⟨g7, hf⟩ := g_g hf
      refine cw_gate_get_2 F hinX0 hinX1 hinX6 hw g7 kf98 dX10_rate_29 ?_
      refine lv_istore (lv' := [(4, .int (X.2.2 1 k3)), (3, .ref (ad (100 + k3))), (0, .ref (ad 0)), (1, .int x1), (2, .int x2)]) hx hb dX10_rate_32 hl (by decide) rfl (fun ls hl => ?_)
      refine lv_aload_n hx hb dX10_rate_34 rfl (lv_at hl 1 rfl) ?_
      refine lv_iload_n hx hb dX10_rate_35 rfl (lv_at hl 4 rfl) ?_
      refine cw_gate_put_2 F hinX0 hinX1 hinX6 hw g7 kf98 dX10_rate_36 (fun H locs hw => ?_)
      obtain ⟨X8, eX8, hf⟩ := g_let hf
      have hw := cw_re eX8 hw
      refine lv_iload hx hb dX10_rate_39 (lv_at hl 0 rfl) ?_
      exact hret (X.2.2 1 k3) _ _ _ _ _ (g_i1 hf) (congrArg (fun t => cw ty ad G S t wr) (g_i2 hf)) hw dX10_rate_41
    · have hf := g_f (bI_z c6) hf
      refine lv_bipush (v := (-2)) hx hb dX10_rate_25 (by decide) ?_
      exact hret (-2) _ _ _ _ _ (g_i1 hf) (congrArg (fun t => cw ty ad G S t wr) (g_i2 hf)) hw dX10_rate_27

abbrev rm_cx_isDay : Room := { frames := 1, cells := 0, slots := 0, locals := 22 }
set_option maxHeartbeats 4000000 in
set_option maxRecDepth 100000 in
theorem ccx_isDay {l : Launch} {D : va_G} {ty : gT} {A : Nat → Prop} {ws : va_W} {x1 : Int32} {r : Bool} (hf : cx_isDay x1 = some r) : gI l D ty A yX10_isDay wsX10_isDay rm_cx_isDay [.int x1] ws (bI r) ws := by
  refine gZ_enter (cc := cX10_isDay) (maxL := 1) (by decide) rfl (Nat.le_of_ble_eq_true rfl) ?_
  intro p e s m args below meth c Q ls F hl hw hret
  have F : CallFix p m c cX10_isDay 1 s args wsX10_isDay RX10 := F
  obtain ⟨hx, hb, hml, hown, hts⟩ := id F
  have hl : lv_has ls 1 [(0, .int x1)] := hl
  unfold cx_isDay at hf
  refine lv_iload_n hx hb dX10_isDay_0 rfl (lv_at hl 0 rfl) ?_
  refine lv_iconst (v := 0) hx hb dX10_isDay_1 (by decide) ?_
  refine lv_bipush (v := 7) hx hb dX10_isDay_2 (by decide) ?_
  obtain ⟨r2, h1, hf⟩ := g_b1 hf
  refine g_sI F (As := [.int x1, .int 0, .int 7]) (rest := []) (ccx_isWithin h1) (va_cwS 3 hts gX10_isDay_X10_isWithin rfl rfl rfl (by decide +kernel) ⟨Nat.le_of_ble_eq_true rfl, Nat.le_of_ble_eq_true rfl⟩) hw rfl hl.1 rfl (Nat.le_of_ble_eq_true rfl) dX10_isDay_4 (fun H locs hw => ?_)
  exact hret r2 _ _ _ _ _ (Option.some.inj hf) rfl hw dX10_isDay_7

abbrev rm_cx_fresh : Room := { frames := 2, cells := 0, slots := 0, locals := 42 }
set_option maxHeartbeats 4000000 in
set_option maxRecDepth 100000 in
theorem ccx_fresh {l : Launch} {D : va_G} {ty : gT} {A : Nat → Prop} {ad : Nat → Nat} {wr : va_W} {G : Nat} {S : Nat} {x1 : Int32} {x2 : Int32} {X : gC} {r : Int32} (hf : cx_fresh G S X x1 x2 = some r) : gI l D ty A yX10_fresh wsX10_fresh rm_cx_fresh [.ref (ad 0), .int x1, .int x2] (cw ty ad G S X wr) r (cw ty ad G S X wr) := by
  refine gI_enter (cc := cX10_fresh) (maxL := 4) (by decide) rfl (Nat.le_of_ble_eq_true rfl) ?_
  intro p e s m args below meth c Q ls F hl hw hret
  have F : CallFix p m c cX10_fresh 4 s args wsX10_fresh RX10 := F
  obtain ⟨hx, hb, hml, hown, hts⟩ := id F
  have hl : lv_has ls 4 [(0, .ref (ad 0)), (1, .int x1), (2, .int x2)] := hl
  have hinX10 : ∀ w ∈ wsX100, w ∈ wsX10_fresh := by first | exact fun w h => List.mem_cons_of_mem _ (List.mem_append_left _ (List.mem_append_left _ (List.mem_append_right _ h))) | decide +kernel
  have kf20 := hts (.fieldLink RX10 20 "GossipGate" "theTown" "LGossipGate$Town;") (by decide +kernel)
  unfold cx_fresh at hf
  refine lv_aload_n hx hb dX10_fresh_0 rfl (lv_at hl 0 rfl) ?_
  refine cf_get_X10_1 F hinX10 hw kf20 dX10_fresh_1 ?_
  refine lv_iload_n hx hb dX10_fresh_4 rfl (lv_at hl 1 rfl) ?_
  obtain ⟨r2, h1, hf⟩ := g_b1 hf
  refine g_cQ F (As := [.int x1]) (rest := []) (cct_storyAt h1) (cwV 1 hts gX10_fresh_X8_storyAt rfl rfl rfl (by decide +kernel) ⟨Nat.le_of_ble_eq_true rfl, Nat.le_of_ble_eq_true rfl⟩) hw (hw.recv (ci := 8) (q0 := 10) rfl rfl rfl) rfl hl.1 rfl (Nat.le_of_ble_eq_true rfl) dX10_fresh_5 (fun H locs hw => ?_)
  rcases r2 with _ | k3
  · replace hf := gN_n hf
    refine lv_astore_nN (lv' := [(3, .null), (0, .ref (ad 0)), (1, .int x1), (2, .int x2)]) hx hb dX10_fresh_8 rfl hl (by decide) rfl (fun ls hl => ?_)
    refine lv_aload_nN hx hb dX10_fresh_9 rfl (lv_at hl 0 rfl) ?_
    refine lv_ifnonnullN hx hb dX10_fresh_10 ?_
    refine lv_iconst (v := (-1)) hx hb dX10_fresh_13 (by decide) ?_
    exact hret (-1) _ _ _ _ _ (Option.some.inj hf) rfl hw dX10_fresh_14
  · replace hf := gN_s hf
    refine lv_astore_n (lv' := [(3, .ref (ad (200 + k3))), (0, .ref (ad 0)), (1, .int x1), (2, .int x2)]) hx hb dX10_fresh_8 rfl hl (by decide) rfl (fun ls hl => ?_)
    refine lv_aload_n hx hb dX10_fresh_9 rfl (lv_at hl 0 rfl) ?_
    refine lv_ifnonnull (tgt := 15) hx hb dX10_fresh_10 (by decide) ?_
    refine lv_iload_n hx hb dX10_fresh_15 rfl (lv_at hl 3 rfl) ?_
    obtain ⟨r5, h4, hf⟩ := g_b1 hf
    refine g_sI F (As := [.int x2]) (rest := []) (ccx_isDay h4) (va_cwS 1 hts gX10_fresh_X10_isDay rfl rfl rfl (by decide +kernel) ⟨Nat.le_of_ble_eq_true rfl, Nat.le_of_ble_eq_true rfl⟩) hw rfl hl.1 rfl (Nat.le_of_ble_eq_true rfl) dX10_fresh_16 (fun H locs hw => ?_)
    refine lv_if_ne (tgt := 25) hx hb dX10_fresh_19 (by decide) (fun c6 => ?_) (fun c6 => ?_)
    · have hf := g_t (bI_nz c6) hf
      refine lv_aload_n hx hb dX10_fresh_25 rfl (lv_at hl 0 rfl) ?_
      refine lv_iload_n hx hb dX10_fresh_26 rfl (lv_at hl 3 rfl) ?_
      obtain ⟨g8, hf⟩ := g_g hf
      obtain ⟨r9, h7, hf⟩ := g_b1 hf
      refine g_cI F (As := [.int x2]) (rest := []) (ccs_isBornBy h7) (cwV 1 hts gX10_fresh_X5_isBornBy rfl rfl rfl (by decide +kernel) ⟨Nat.le_of_ble_eq_true rfl, Nat.le_of_ble_eq_true rfl⟩) hw (hw.recv (ci := 5) (q0 := G + k3 + 27) rfl rfl (cw_story g8)) rfl hl.1 rfl (Nat.le_of_ble_eq_true rfl) dX10_fresh_27 (fun H locs hw => ?_)
      refine lv_if_eq (tgt := 41) hx hb dX10_fresh_30 (by decide) (fun c10 => ?_) (fun c10 => ?_)
      · have hf := g_f (bI_z c10) hf
        refine lv_bipush (v := (-9)) hx hb dX10_fresh_41 (by decide) ?_
        exact hret (-9) _ _ _ _ _ (Option.some.inj hf) rfl hw dX10_fresh_43
      · have hf := g_t (bI_nz c10) hf
        refine lv_aload_n hx hb dX10_fresh_33 rfl (lv_at hl 0 rfl) ?_
        refine lv_iload_n hx hb dX10_fresh_34 rfl (lv_at hl 3 rfl) ?_
        obtain ⟨r12, h11, hf⟩ := g_b1 hf
        refine g_cI F (As := [.int x2]) (rest := []) (ccs_freshness h11) (cwV 1 hts gX10_fresh_X5_freshness rfl rfl rfl (by decide +kernel) ⟨Nat.le_of_ble_eq_true rfl, Nat.le_of_ble_eq_true rfl⟩) hw (hw.recv (ci := 5) (q0 := G + k3 + 27) rfl rfl (cw_story g8)) rfl hl.1 rfl (Nat.le_of_ble_eq_true rfl) dX10_fresh_35 (fun H locs hw => ?_)
        refine lv_goto (tgt := 43) hx hb dX10_fresh_38 (by decide) ?_
        exact hret r12 _ _ _ _ _ (Option.some.inj hf) rfl hw dX10_fresh_43
    · have hf := g_f (bI_z c6) hf
      refine lv_bipush (v := (-2)) hx hb dX10_fresh_22 (by decide) ?_
      exact hret (-2) _ _ _ _ _ (Option.some.inj hf) rfl hw dX10_fresh_24

abbrev rm_cx_duty : Room := { frames := 3, cells := 0, slots := 0, locals := 69 }
set_option maxHeartbeats 4000000 in
set_option maxRecDepth 100000 in
theorem ccx_duty {l : Launch} {D : va_G} {ty : gT} {A : Nat → Prop} {ad : Nat → Nat} {wr : va_W} {G : Nat} {S : Nat} {x1 : Int32} {x2 : Int32} {x3 : Int32} {x4 : Int32} {X : gC} {r : Int32} (hf : cx_duty G S X x1 x2 x3 x4 = some r) : gI l D ty A yX10_duty wsX10_duty rm_cx_duty [.ref (ad 0), .int x1, .int x2, .int x3, .int x4] (cw ty ad G S X wr) r (cw ty ad G S X wr) := by
  refine gI_enter (cc := cX10_duty) (maxL := 7) (by decide) rfl (Nat.le_of_ble_eq_true rfl) ?_
  intro p e s m args below meth c Q ls F hl hw hret
  have F : CallFix p m c cX10_duty 7 s args wsX10_duty RX10 := F
  obtain ⟨hx, hb, hml, hown, hts⟩ := id F
  have hl : lv_has ls 7 [(0, .ref (ad 0)), (1, .int x1), (2, .int x2), (3, .int x3), (4, .int x4)] := hl
  have hinX10 : ∀ w ∈ wsX100, w ∈ wsX10_duty := by first | exact fun w h => List.mem_cons_of_mem _ (List.mem_append_left _ (List.mem_append_left _ (List.mem_append_left _ (List.mem_append_left _ (List.mem_append_left _ (List.mem_append_right _ h)))))) | decide +kernel
  have kf20 := hts (.fieldLink RX10 20 "GossipGate" "theTown" "LGossipGate$Town;") (by decide +kernel)
  unfold cx_duty at hf
  refine lv_aload_n hx hb dX10_duty_0 rfl (lv_at hl 0 rfl) ?_
  refine cf_get_X10_1 F hinX10 hw kf20 dX10_duty_1 ?_
  refine lv_iload_n hx hb dX10_duty_4 rfl (lv_at hl 1 rfl) ?_
  obtain ⟨r2, h1, hf⟩ := g_b1 hf
  refine g_cQ F (As := [.int x1]) (rest := []) (cct_gateAt h1) (cwV 1 hts gX10_duty_X8_gateAt rfl rfl rfl (by decide +kernel) ⟨Nat.le_of_ble_eq_true rfl, Nat.le_of_ble_eq_true rfl⟩) hw (hw.recv (ci := 8) (q0 := 10) rfl rfl rfl) rfl hl.1 rfl (Nat.le_of_ble_eq_true rfl) dX10_duty_5 (fun H locs hw => ?_)
  rcases r2 with _ | k3
  · replace hf := gN_n hf
    refine lv_astoreN (lv' := [(5, .null), (0, .ref (ad 0)), (1, .int x1), (2, .int x2), (3, .int x3), (4, .int x4)]) hx hb dX10_duty_8 hl (by decide) rfl (fun ls hl => ?_)
    refine lv_aload_n hx hb dX10_duty_10 rfl (lv_at hl 1 rfl) ?_
    refine cf_get_X10_1 F hinX10 hw kf20 dX10_duty_11 ?_
    refine lv_iload_n hx hb dX10_duty_14 rfl (lv_at hl 3 rfl) ?_
    obtain ⟨r5, h4, hf⟩ := g_b1 hf
    refine g_cQ F (As := [.int x2]) (rest := []) (cct_storyAt h4) (cwV 1 hts gX10_duty_X8_storyAt rfl rfl rfl (by decide +kernel) ⟨Nat.le_of_ble_eq_true rfl, Nat.le_of_ble_eq_true rfl⟩) hw (hw.recv (ci := 8) (q0 := 10) rfl rfl rfl) rfl hl.1 rfl (Nat.le_of_ble_eq_true rfl) dX10_duty_15 (fun H locs hw => ?_)
    rcases r5 with _ | k6
    · replace hf := gN_n hf
      refine lv_astoreN (lv' := [(6, .null), (5, .null), (0, .ref (ad 0)), (1, .int x1), (2, .int x2), (3, .int x3), (4, .int x4)]) hx hb dX10_duty_18 hl (by decide) rfl (fun ls hl => ?_)
      refine lv_aloadN hx hb dX10_duty_20 (lv_at hl 1 rfl) ?_
      refine lv_ifnullN (tgt := 30) hx hb dX10_duty_22 (by decide) ?_
      refine lv_iconst (v := (-1)) hx hb dX10_duty_30 (by decide) ?_
      exact hret (-1) _ _ _ _ _ (Option.some.inj hf) rfl hw dX10_duty_31
    · replace hf := gN_s hf
      refine lv_astore (lv' := [(6, .ref (ad (200 + k6))), (5, .null), (0, .ref (ad 0)), (1, .int x1), (2, .int x2), (3, .int x3), (4, .int x4)]) hx hb dX10_duty_18 hl (by decide) rfl (fun ls hl => ?_)
      refine lv_aloadN hx hb dX10_duty_20 (lv_at hl 1 rfl) ?_
      refine lv_ifnullN (tgt := 30) hx hb dX10_duty_22 (by decide) ?_
      refine lv_iconst (v := (-1)) hx hb dX10_duty_30 (by decide) ?_
      exact hret (-1) _ _ _ _ _ (Option.some.inj hf) rfl hw dX10_duty_31
  · replace hf := gN_s hf
    refine lv_astore (lv' := [(5, .ref (ad (100 + k3))), (0, .ref (ad 0)), (1, .int x1), (2, .int x2), (3, .int x3), (4, .int x4)]) hx hb dX10_duty_8 hl (by decide) rfl (fun ls hl => ?_)
    refine lv_aload_n hx hb dX10_duty_10 rfl (lv_at hl 1 rfl) ?_
    refine cf_get_X10_1 F hinX10 hw kf20 dX10_duty_11 ?_
    refine lv_iload_n hx hb dX10_duty_14 rfl (lv_at hl 3 rfl) ?_
    obtain ⟨r8, h7, hf⟩ := g_b1 hf
    refine g_cQ F (As := [.int x2]) (rest := []) (cct_storyAt h7) (cwV 1 hts gX10_duty_X8_storyAt rfl rfl rfl (by decide +kernel) ⟨Nat.le_of_ble_eq_true rfl, Nat.le_of_ble_eq_true rfl⟩) hw (hw.recv (ci := 8) (q0 := 10) rfl rfl rfl) rfl hl.1 rfl (Nat.le_of_ble_eq_true rfl) dX10_duty_15 (fun H locs hw => ?_)
    rcases r8 with _ | k9
    · replace hf := gN_n hf
      refine lv_astoreN (lv' := [(6, .null), (5, .ref (ad (100 + k3))), (0, .ref (ad 0)), (1, .int x1), (2, .int x2), (3, .int x3), (4, .int x4)]) hx hb dX10_duty_18 hl (by decide) rfl (fun ls hl => ?_)
      refine lv_aload hx hb dX10_duty_20 (lv_at hl 1 rfl) ?_
      refine lv_ifnull hx hb dX10_duty_22 ?_
      refine lv_aloadN hx hb dX10_duty_25 (lv_at hl 0 rfl) ?_
      refine lv_ifnonnullN hx hb dX10_duty_27 ?_
      refine lv_iconst (v := (-1)) hx hb dX10_duty_30 (by decide) ?_
      exact hret (-1) _ _ _ _ _ (Option.some.inj hf) rfl hw dX10_duty_31
    · replace hf := gN_s hf
      refine lv_astore (lv' := [(6, .ref (ad (200 + k9))), (5, .ref (ad (100 + k3))), (0, .ref (ad 0)), (1, .int x1), (2, .int x2), (3, .int x3), (4, .int x4)]) hx hb dX10_duty_18 hl (by decide) rfl (fun ls hl => ?_)
      refine lv_aload hx hb dX10_duty_20 (lv_at hl 1 rfl) ?_
      refine lv_ifnull hx hb dX10_duty_22 ?_
      refine lv_aload hx hb dX10_duty_25 (lv_at hl 0 rfl) ?_
      refine lv_ifnonnull (tgt := 32) hx hb dX10_duty_27 (by decide) ?_
      refine lv_iload_n hx hb dX10_duty_32 rfl (lv_at hl 5 rfl) ?_
      obtain ⟨r11, h10, hf⟩ := g_b1 hf
      refine g_sI F (As := [.int x3]) (rest := []) (ccx_isDay h10) (va_cwS 1 hts gX10_duty_X10_isDay rfl rfl rfl (by decide +kernel) ⟨Nat.le_of_ble_eq_true rfl, Nat.le_of_ble_eq_true rfl⟩) hw rfl hl.1 rfl (Nat.le_of_ble_eq_true rfl) dX10_duty_33 (fun H locs hw => ?_)
      refine lv_if_eq (tgt := 50) hx hb dX10_duty_36 (by decide) (fun c12 => ?_) (fun c12 => ?_)
      · have hf := g_f (bI_z c12) hf
        refine lv_bipush (v := (-2)) hx hb dX10_duty_50 (by decide) ?_
        exact hret (-2) _ _ _ _ _ (Option.some.inj hf) rfl hw dX10_duty_52
      · have hf := g_t (bI_nz c12) hf
        refine lv_iload hx hb dX10_duty_39 (lv_at hl 6 rfl) ?_
        refine lv_iconst (v := 0) hx hb dX10_duty_41 (by decide) ?_
        refine lv_bipush (v := 7) hx hb dX10_duty_42 (by decide) ?_
        obtain ⟨r14, h13, hf⟩ := g_b1 hf
        refine g_sI F (As := [.int x4, .int 0, .int 7]) (rest := []) (ccx_isWithin h13) (va_cwS 3 hts gX10_duty_X10_isWithin rfl rfl rfl (by decide +kernel) ⟨Nat.le_of_ble_eq_true rfl, Nat.le_of_ble_eq_true rfl⟩) hw rfl hl.1 rfl (Nat.le_of_ble_eq_true rfl) dX10_duty_44 (fun H locs hw => ?_)
        refine lv_if_ne (tgt := 53) hx hb dX10_duty_47 (by decide) (fun c15 => ?_) (fun c15 => ?_)
        · have hf := g_t (bI_nz c15) hf
          refine lv_aload hx hb dX10_duty_53 (lv_at hl 0 rfl) ?_
          refine lv_iload_n hx hb dX10_duty_55 rfl (lv_at hl 5 rfl) ?_
          obtain ⟨g17, hf⟩ := g_g hf
          obtain ⟨r18, h16, hf⟩ := g_b1 hf
          refine g_cI F (As := [.int x3]) (rest := []) (ccs_isBornBy h16) (cwV 1 hts gX10_duty_X5_isBornBy rfl rfl rfl (by decide +kernel) ⟨Nat.le_of_ble_eq_true rfl, Nat.le_of_ble_eq_true rfl⟩) hw (hw.recv (ci := 5) (q0 := G + k9 + 27) rfl rfl (cw_story g17)) rfl hl.1 rfl (Nat.le_of_ble_eq_true rfl) dX10_duty_56 (fun H locs hw => ?_)
          refine lv_if_eq (tgt := 79) hx hb dX10_duty_59 (by decide) (fun c19 => ?_) (fun c19 => ?_)
          · have hf := g_f (bI_z c19) hf
            refine lv_bipush (v := (-9)) hx hb dX10_duty_79 (by decide) ?_
            exact hret (-9) _ _ _ _ _ (Option.some.inj hf) rfl hw dX10_duty_81
          · have hf := g_t (bI_nz c19) hf
            refine lv_aload_n hx hb dX10_duty_62 rfl (lv_at hl 2 rfl) ?_
            refine cf_get_X10_1 F hinX10 hw kf20 dX10_duty_63 ?_
            refine lv_aload hx hb dX10_duty_66 (lv_at hl 1 rfl) ?_
            refine lv_aload hx hb dX10_duty_68 (lv_at hl 0 rfl) ?_
            refine lv_iload_n hx hb dX10_duty_70 rfl (lv_at hl 5 rfl) ?_
            refine lv_iload hx hb dX10_duty_71 (lv_at hl 6 rfl) ?_
            obtain ⟨r21, h20, hf⟩ := g_b1 hf
            refine g_cI F (As := [.ref (ad (100 + k3)), .ref (ad (200 + k9)), .int x3, .int x4]) (rest := []) (cct_dutyOf h20) (cwV 4 hts gX10_duty_X8_dutyOf rfl rfl rfl (by decide +kernel) ⟨Nat.le_of_ble_eq_true rfl, Nat.le_of_ble_eq_true rfl⟩) hw (hw.recv (ci := 8) (q0 := 10) rfl rfl rfl) rfl hl.1 rfl (Nat.le_of_ble_eq_true rfl) dX10_duty_73 (fun H locs hw => ?_)
            refine lv_goto (tgt := 81) hx hb dX10_duty_76 (by decide) ?_
            exact hret r21 _ _ _ _ _ (Option.some.inj hf) rfl hw dX10_duty_81
        · have hf := g_f (bI_z c15) hf
          refine lv_bipush (v := (-2)) hx hb dX10_duty_50 (by decide) ?_
          exact hret (-2) _ _ _ _ _ (Option.some.inj hf) rfl hw dX10_duty_52

abbrev rm_cx_isAskedOfPassages : Room := { frames := 1, cells := 0, slots := 0, locals := 22 }
set_option maxHeartbeats 4000000 in
set_option maxRecDepth 100000 in
theorem ccx_isAskedOfPassages {l : Launch} {D : va_G} {ty : gT} {A : Nat → Prop} {ws : va_W} {x1 : Int32} {r : Bool} (hf : cx_isAskedOfPassages x1 = some r) : gI l D ty A yX10_isAskedOfPassages wsX10_isAskedOfPassages rm_cx_isAskedOfPassages [.int x1] ws (bI r) ws := by
  refine gZ_enter (cc := cX10_isAskedOfPassages) (maxL := 1) (by decide) rfl (Nat.le_of_ble_eq_true rfl) ?_
  intro p e s m args below meth c Q ls F hl hw hret
  have F : CallFix p m c cX10_isAskedOfPassages 1 s args wsX10_isAskedOfPassages RX10 := F
  obtain ⟨hx, hb, hml, hown, hts⟩ := id F
  have hl : lv_has ls 1 [(0, .int x1)] := hl
  have B31 : ∀ (H : Heap) (locs : List Loc) (ls : Array Slot), lv_has ls 1 [] → gW D ty A ws s s.heap H locs → cx_isAskedOfPassages_b31 = some r → W p l e rm_cx_isAskedOfPassages s m args below meth c H locs 0 0 Q (F0 m 31 ls []) := by
    intro H locs ls hl hw hf
    unfold cx_isAskedOfPassages_b31 at hf
    refine lv_iconst (v := 1) hx hb dX10_isAskedOfPassages_31 (by decide) ?_
    refine lv_goto (tgt := 36) hx hb dX10_isAskedOfPassages_32 (by decide) ?_
    exact hret true _ _ _ _ _ (Option.some.inj hf) rfl hw dX10_isAskedOfPassages_36
  unfold cx_isAskedOfPassages at hf
  refine lv_iload_n hx hb dX10_isAskedOfPassages_0 rfl (lv_at hl 0 rfl) ?_
  refine lv_iconst (v := 0) hx hb dX10_isAskedOfPassages_1 (by decide) ?_
  refine lv_iconst (v := 1) hx hb dX10_isAskedOfPassages_2 (by decide) ?_
  obtain ⟨r2, h1, hf⟩ := g_b1 hf
  refine g_sI F (As := [.int x1, .int 0, .int 1]) (rest := []) (ccx_isWithin h1) (va_cwS 3 hts gX10_isAskedOfPassages_X10_isWithin rfl rfl rfl (by decide +kernel) ⟨Nat.le_of_ble_eq_true rfl, Nat.le_of_ble_eq_true rfl⟩) hw rfl hl.1 rfl (Nat.le_of_ble_eq_true rfl) dX10_isAskedOfPassages_3 (fun H locs hw => ?_)
  refine lv_if_ne (tgt := 31) hx hb dX10_isAskedOfPassages_6 (by decide) (fun c3 => ?_) (fun c3 => ?_)
  · have hf := g_t (bI_nz c3) hf
    exact B31  _ _ _ (lv_sub hl [] rfl) hw hf
  · have hf := g_f (bI_z c3) hf
    refine lv_iload_n hx hb dX10_isAskedOfPassages_9 rfl (lv_at hl 0 rfl) ?_
    refine lv_bipush (v := 10) hx hb dX10_isAskedOfPassages_10 (by decide) ?_
    refine lv_bipush (v := 13) hx hb dX10_isAskedOfPassages_12 (by decide) ?_
    obtain ⟨r5, h4, hf⟩ := g_b1 hf
    refine g_sI F (As := [.int x1, .int 10, .int 13]) (rest := []) (ccx_isWithin h4) (va_cwS 3 hts gX10_isAskedOfPassages_X10_isWithin rfl rfl rfl (by decide +kernel) ⟨Nat.le_of_ble_eq_true rfl, Nat.le_of_ble_eq_true rfl⟩) hw rfl hl.1 rfl (Nat.le_of_ble_eq_true rfl) dX10_isAskedOfPassages_14 (fun H locs hw => ?_)
    refine lv_if_ne (tgt := 31) hx hb dX10_isAskedOfPassages_17 (by decide) (fun c6 => ?_) (fun c6 => ?_)
    · have hf := g_t (bI_nz c6) hf
      exact B31  _ _ _ (lv_sub hl [] rfl) hw hf
    · have hf := g_f (bI_z c6) hf
      refine lv_iload_n hx hb dX10_isAskedOfPassages_20 rfl (lv_at hl 0 rfl) ?_
      refine lv_bipush (v := 20) hx hb dX10_isAskedOfPassages_21 (by decide) ?_
      refine lv_bipush (v := 24) hx hb dX10_isAskedOfPassages_23 (by decide) ?_
      obtain ⟨r8, h7, hf⟩ := g_b1 hf
      refine g_sI F (As := [.int x1, .int 20, .int 24]) (rest := []) (ccx_isWithin h7) (va_cwS 3 hts gX10_isAskedOfPassages_X10_isWithin rfl rfl rfl (by decide +kernel) ⟨Nat.le_of_ble_eq_true rfl, Nat.le_of_ble_eq_true rfl⟩) hw rfl hl.1 rfl (Nat.le_of_ble_eq_true rfl) dX10_isAskedOfPassages_25 (fun H locs hw => ?_)
      refine lv_if_eq (tgt := 35) hx hb dX10_isAskedOfPassages_28 (by decide) (fun c9 => ?_) (fun c9 => ?_)
      · have hf := g_f (bI_z c9) hf
        refine lv_iconst (v := 0) hx hb dX10_isAskedOfPassages_35 (by decide) ?_
        exact hret false _ _ _ _ _ (Option.some.inj hf) rfl hw dX10_isAskedOfPassages_36
      · have hf := g_t (bI_nz c9) hf
        exact B31  _ _ _ (lv_sub hl [] rfl) hw hf

abbrev rm_cx_failBy : Room := { frames := 0, cells := 0, slots := 0, locals := 0 }
set_option maxHeartbeats 4000000 in
set_option maxRecDepth 100000 in
theorem ccx_failBy {l : Launch} {D : va_G} {ty : gT} {A : Nat → Prop} {ad : Nat → Nat} {wr : va_W} {G : Nat} {S : Nat} {x1 : Int32} {X : gC} {r : Int32} {σ' : gC} (hf : cx_failBy G S X x1 = some (r, σ')) : gI l D ty A yX10_failBy wsX10_failBy rm_cx_failBy [.ref (ad 0), .int x1] (cw ty ad G S X wr) r (cw ty ad G S σ' wr) := by
  refine gI_enter (cc := cX10_failBy) (maxL := 2) (by decide) rfl (Nat.le_of_ble_eq_true rfl) ?_
  intro p e s m args below meth c Q ls F hl hw hret
  have F : CallFix p m c cX10_failBy 2 s args wsX10_failBy RX10 := F
  obtain ⟨hx, hb, hml, hown, hts⟩ := id F
  have hl : lv_has ls 2 [(0, .ref (ad 0)), (1, .int x1)] := hl
  have hinX10 : ∀ w ∈ wsX100, w ∈ wsX10_failBy := by first | exact fun w h => List.mem_cons_of_mem _ (List.mem_append_right _ h) | decide +kernel
  have kf45 := hts (.fieldLink RX10 45 "GossipGate" "latestFault" "I") (by decide +kernel)
  unfold cx_failBy at hf
  refine lv_aload_n hx hb dX10_failBy_0 rfl (lv_at hl 0 rfl) ?_
  refine lv_iload_n hx hb dX10_failBy_1 rfl (lv_at hl 1 rfl) ?_
  refine cf_put_X10_5 F hinX10 hw kf45 dX10_failBy_2 (fun H locs hw => ?_)
  obtain ⟨X1, eX1, hf⟩ := g_let hf
  have hw := cw_re eX1 hw
  refine lv_bipush (v := (-10)) hx hb dX10_failBy_5 (by decide) ?_
  refine lv_iload_n hx hb dX10_failBy_7 rfl (lv_at hl 1 rfl) ?_
  refine lv_isub hx hb dX10_failBy_8 ?_
  exact hret (((-10) : Int32) - x1) _ _ _ _ _ (g_i1 hf) (congrArg (fun t => cw ty ad G S t wr) (g_i2 hf)) hw dX10_failBy_9

abbrev rm_cx_rowAt : Room := { frames := 1, cells := 0, slots := 0, locals := 22 }
set_option maxHeartbeats 4000000 in
set_option maxRecDepth 100000 in
theorem ccx_rowAt {l : Launch} {D : va_G} {ty : gT} {A : Nat → Prop} {ad : Nat → Nat} {wr : va_W} {G : Nat} {S : Nat} {x1 : Int32} {X : gC} {r : (Option Nat)} (hf : cx_rowAt G S X x1 = some r) : gQ l D ty A yX10_rowAt wsX10_rowAt rm_cx_rowAt [.ref (ad 0), .int x1] (cw ty ad G S X wr) (Option.map (fun k => ad (2 + k)) r) (cw ty ad G S X wr) := by
  refine gQ_enter (cc := cX10_rowAt) (maxL := 2) (by decide) rfl (Nat.le_of_ble_eq_true rfl) ?_
  intro p e s m args below meth c Q ls F hl hw hret
  have F : CallFix p m c cX10_rowAt 2 s args wsX10_rowAt RX10 := F
  obtain ⟨hx, hb, hml, hown, hts⟩ := id F
  have hl : lv_has ls 2 [(0, .ref (ad 0)), (1, .int x1)] := hl
  have hinX10 : ∀ w ∈ wsX100, w ∈ wsX10_rowAt := by first | exact fun w h => List.mem_cons_of_mem _ (List.mem_append_right _ h) | decide +kernel
  have kf13 := hts (.fieldLink RX10 13 "GossipGate" "rows" "[LGossipGate$Row;") (by decide +kernel)
  unfold cx_rowAt at hf
  refine lv_iload_n hx hb dX10_rowAt_0 rfl (lv_at hl 1 rfl) ?_
  refine lv_iconst (v := 0) hx hb dX10_rowAt_1 (by decide) ?_
  refine lv_iconst (v := 3) hx hb dX10_rowAt_2 (by decide) ?_
  obtain ⟨r2, h1, hf⟩ := g_b1 hf
  refine g_sI F (As := [.int x1, .int 0, .int 3]) (rest := []) (ccx_isWithin h1) (va_cwS 3 hts gX10_rowAt_X10_isWithin rfl rfl rfl (by decide +kernel) ⟨Nat.le_of_ble_eq_true rfl, Nat.le_of_ble_eq_true rfl⟩) hw rfl hl.1 rfl (Nat.le_of_ble_eq_true rfl) dX10_rowAt_3 (fun H locs hw => ?_)
  refine lv_if_eq (tgt := 18) hx hb dX10_rowAt_6 (by decide) (fun c3 => ?_) (fun c3 => ?_)
  · have hf := g_f (bI_z c3) hf
    refine lv_null hx hb dX10_rowAt_18 ?_
    exact hret none _ _ _ _ _ (congrArg (Option.map (fun k => ad (2 + k))) (Option.some.inj hf)) rfl hw dX10_rowAt_19
  · have hf := g_t (bI_nz c3) hf
    refine lv_aload_n hx hb dX10_rowAt_9 rfl (lv_at hl 0 rfl) ?_
    refine cf_get_X10_0 F hinX10 hw kf13 dX10_rowAt_10 ?_
    refine lv_iload_n hx hb dX10_rowAt_13 rfl (lv_at hl 1 rfl) ?_
    obtain ⟨g4, hf⟩ := g_g hf
    refine cf_rows F hw g4 dX10_rowAt_14 ?_
    refine lv_goto (tgt := 19) hx hb dX10_rowAt_15 (by decide) ?_
    exact hret (some (ad (2 + x1.toNatClampNeg))) _ _ _ _ _ (congrArg (Option.map (fun k => ad (2 + k))) (Option.some.inj hf)) rfl hw dX10_rowAt_19

abbrev rm_cx_readRoute : Room := { frames := 2, cells := 0, slots := 0, locals := 50 }
set_option maxHeartbeats 4000000 in
set_option maxRecDepth 100000 in
theorem ccx_readRoute {l : Launch} {D : va_G} {ty : gT} {A : Nat → Prop} {ad : Nat → Nat} {wr : va_W} {G : Nat} {S : Nat} {x1 : Int32} {x2 : Int32} {x3 : Int32} {x4 : Int32} {X : gC} {r : Int32} {σ' : gC} (hf : cx_readRoute G S X x1 x2 x3 x4 = some (r, σ')) : gI l D ty A yX10_readRoute wsX10_readRoute rm_cx_readRoute [.ref (ad 0), .int x1, .int x2, .int x3, .int x4] (cw ty ad G S X wr) r (cw ty ad G S σ' wr) := by
  refine gI_enter (cc := cX10_readRoute) (maxL := 12) (by decide) rfl (Nat.le_of_ble_eq_true rfl) ?_
  intro p e s m args below meth c Q ls F hl hw hret
  have F : CallFix p m c cX10_readRoute 12 s args wsX10_readRoute RX10 := F
  obtain ⟨hx, hb, hml, hown, hts⟩ := id F
  have hl : lv_has ls 12 [(0, .ref (ad 0)), (1, .int x1), (2, .int x2), (3, .int x3), (4, .int x4)] := hl
  have hinX10 : ∀ w ∈ wsX100, w ∈ wsX10_readRoute := by first | exact fun w h => List.mem_cons_of_mem _ (List.mem_append_left _ (List.mem_append_left _ (List.mem_append_left _ (List.mem_append_left _ (List.mem_append_right _ h))))) | decide +kernel
  have kf20 := hts (.fieldLink RX10 20 "GossipGate" "theTown" "LGossipGate$Town;") (by decide +kernel)
  have kf27 := hts (.fieldLink RX10 27 "GossipGate" "route" "LGossipGate$Route;") (by decide +kernel)
  have B101 : ∀ (n101 : Nat) (v3 : Int32) (v4 : Int32) (v5 : Nat) (v7 : Int32) (X : gC) (H : Heap) (locs : List Loc) (ls : Array Slot), lv_has ls 12 [(0, .ref (ad 0)), (3, .int v3), (4, .int v4), (5, .ref (ad (2 + v5))), (7, .int v7)] → gW D ty A (cw ty ad G S X wr) s s.heap H locs → cx_readRoute_b101 G S n101 v3 v4 v5 v7 X = some (r, σ') → W p l e rm_cx_readRoute s m args below meth c H locs 0 0 Q (F0 m 101 ls []) := by
    intro n101
    induction n101 with
    | zero => intro v3 v4 v5 v7 X H locs ls hl hw hf; cases hf
    | succ n101 ih101 =>
      intro v3 v4 v5 v7 X H locs ls hl hw hf
      rw [cx_readRoute_b101] at hf
      refine lv_iload hx hb dX10_readRoute_101 (lv_at hl 4 rfl) ?_
      refine lv_iload hx hb dX10_readRoute_103 (lv_at hl 2 rfl) ?_
      refine lv_icmp_ge (tgt := 220) hx hb dX10_readRoute_105 (by decide) (fun c1 => ?_) (fun c1 => ?_)
      · have hf := g_t c1 hf
        refine lv_iconst (v := 0) hx hb dX10_readRoute_220 (by decide) ?_
        exact hret 0 _ _ _ _ _ (g_i1 hf) (congrArg (fun t => cw ty ad G S t wr) (g_i2 hf)) hw dX10_readRoute_221
      · have hf := g_f c1 hf
        refine lv_aload hx hb dX10_readRoute_108 (lv_at hl 3 rfl) ?_
        refine lv_iload_n hx hb dX10_readRoute_110 rfl (lv_at hl 1 rfl) ?_
        refine lv_iconst (v := 3) hx hb dX10_readRoute_111 (by decide) ?_
        refine lv_iload hx hb dX10_readRoute_112 (lv_at hl 4 rfl) ?_
        refine lv_imul hx hb dX10_readRoute_114 ?_
        refine lv_iadd hx hb dX10_readRoute_115 ?_
        obtain ⟨g3, hf⟩ := g_g hf
        obtain ⟨r4, h2, hf⟩ := g_b1 hf
        refine g_cI F (As := [.int (v3 + ((3 : Int32) * v7))]) (rest := []) (cfr_read h2) (cwV 1 hts gX10_readRoute_X4_read rfl rfl rfl (by decide +kernel) ⟨Nat.le_of_ble_eq_true rfl, Nat.le_of_ble_eq_true rfl⟩) hw (hw.recv (ci := 4) (q0 := 2 + v5) rfl rfl (cf_row g3)) rfl hl.1 rfl (Nat.le_of_ble_eq_true rfl) dX10_readRoute_116 (fun H locs hw => ?_)
        refine lv_istore (lv' := [(8, .int r4), (0, .ref (ad 0)), (3, .int v3), (4, .int v4), (5, .ref (ad (2 + v5))), (7, .int v7)]) hx hb dX10_readRoute_119 hl (by decide) rfl (fun ls hl => ?_)
        refine lv_aload hx hb dX10_readRoute_121 (lv_at hl 4 rfl) ?_
        refine lv_iload_n hx hb dX10_readRoute_123 rfl (lv_at hl 2 rfl) ?_
        refine lv_iconst (v := 3) hx hb dX10_readRoute_124 (by decide) ?_
        refine lv_iload hx hb dX10_readRoute_125 (lv_at hl 5 rfl) ?_
        refine lv_imul hx hb dX10_readRoute_127 ?_
        refine lv_iadd hx hb dX10_readRoute_128 ?_
        refine lv_iconst (v := 1) hx hb dX10_readRoute_129 (by decide) ?_
        refine lv_iadd hx hb dX10_readRoute_130 ?_
        obtain ⟨r6, h5, hf⟩ := g_b1 hf
        refine g_cI F (As := [.int ((v3 + ((3 : Int32) * v7)) + 1)]) (rest := []) (cfr_read h5) (cwV 1 hts gX10_readRoute_X4_read rfl rfl rfl (by decide +kernel) ⟨Nat.le_of_ble_eq_true rfl, Nat.le_of_ble_eq_true rfl⟩) hw (hw.recv (ci := 4) (q0 := 2 + v5) rfl rfl (cf_row g3)) rfl hl.1 rfl (Nat.le_of_ble_eq_true rfl) dX10_readRoute_131 (fun H locs hw => ?_)
        refine lv_istore (lv' := [(9, .int r6), (8, .int r4), (0, .ref (ad 0)), (3, .int v3), (4, .int v4), (5, .ref (ad (2 + v5))), (7, .int v7)]) hx hb dX10_readRoute_134 hl (by decide) rfl (fun ls hl => ?_)
        refine lv_aload hx hb dX10_readRoute_136 (lv_at hl 5 rfl) ?_
        refine lv_iload_n hx hb dX10_readRoute_138 rfl (lv_at hl 3 rfl) ?_
        refine lv_iconst (v := 3) hx hb dX10_readRoute_139 (by decide) ?_
        refine lv_iload hx hb dX10_readRoute_140 (lv_at hl 6 rfl) ?_
        refine lv_imul hx hb dX10_readRoute_142 ?_
        refine lv_iadd hx hb dX10_readRoute_143 ?_
        refine lv_iconst (v := 2) hx hb dX10_readRoute_144 (by decide) ?_
        refine lv_iadd hx hb dX10_readRoute_145 ?_
        obtain ⟨r8, h7, hf⟩ := g_b1 hf
        refine g_cI F (As := [.int ((v3 + ((3 : Int32) * v7)) + 2)]) (rest := []) (cfr_read h7) (cwV 1 hts gX10_readRoute_X4_read rfl rfl rfl (by decide +kernel) ⟨Nat.le_of_ble_eq_true rfl, Nat.le_of_ble_eq_true rfl⟩) hw (hw.recv (ci := 4) (q0 := 2 + v5) rfl rfl (cf_row g3)) rfl hl.1 rfl (Nat.le_of_ble_eq_true rfl) dX10_readRoute_146 (fun H locs hw => ?_)
        refine lv_istore (lv' := [(10, .int r8), (9, .int r6), (8, .int r4), (0, .ref (ad 0)), (3, .int v3), (4, .int v4), (5, .ref (ad (2 + v5))), (7, .int v7)]) hx hb dX10_readRoute_149 hl (by decide) rfl (fun ls hl => ?_)
        refine lv_aload_n hx hb dX10_readRoute_151 rfl (lv_at hl 3 rfl) ?_
        refine cf_get_X10_1 F hinX10 hw kf20 dX10_readRoute_152 ?_
        refine lv_iload hx hb dX10_readRoute_155 (lv_at hl 2 rfl) ?_
        obtain ⟨r10, h9, hf⟩ := g_b1 hf
        refine g_cQ F (As := [.int r4]) (rest := []) (cct_storyAt h9) (cwV 1 hts gX10_readRoute_X8_storyAt rfl rfl rfl (by decide +kernel) ⟨Nat.le_of_ble_eq_true rfl, Nat.le_of_ble_eq_true rfl⟩) hw (hw.recv (ci := 8) (q0 := 10) rfl rfl rfl) rfl hl.1 rfl (Nat.le_of_ble_eq_true rfl) dX10_readRoute_157 (fun H locs hw => ?_)
        rcases r10 with _ | k11
        · replace hf := gN_n hf
          refine lv_astoreN (lv' := [(11, .null), (10, .int r8), (9, .int r6), (8, .int r4), (0, .ref (ad 0)), (3, .int v3), (4, .int v4), (5, .ref (ad (2 + v5))), (7, .int v7)]) hx hb dX10_readRoute_160 hl (by decide) rfl (fun ls hl => ?_)
          refine lv_aloadN hx hb dX10_readRoute_162 (lv_at hl 0 rfl) ?_
          refine lv_ifnullN (tgt := 179) hx hb dX10_readRoute_164 (by decide) ?_
          refine lv_iconst (v := (-1)) hx hb dX10_readRoute_179 (by decide) ?_
          exact hret (-1) _ _ _ _ _ (g_i1 hf) (congrArg (fun t => cw ty ad G S t wr) (g_i2 hf)) hw dX10_readRoute_180
        · replace hf := gN_s hf
          refine lv_astore (lv' := [(11, .ref (ad (200 + k11))), (10, .int r8), (9, .int r6), (8, .int r4), (0, .ref (ad 0)), (3, .int v3), (4, .int v4), (5, .ref (ad (2 + v5))), (7, .int v7)]) hx hb dX10_readRoute_160 hl (by decide) rfl (fun ls hl => ?_)
          refine lv_aload hx hb dX10_readRoute_162 (lv_at hl 0 rfl) ?_
          refine lv_ifnull hx hb dX10_readRoute_164 ?_
          refine lv_aload_n hx hb dX10_readRoute_167 rfl (lv_at hl 4 rfl) ?_
          refine cf_get_X10_1 F hinX10 hw kf20 dX10_readRoute_168 ?_
          refine lv_iload hx hb dX10_readRoute_171 (lv_at hl 2 rfl) ?_
          obtain ⟨r13, h12, hf⟩ := g_b1 hf
          refine g_cQ F (As := [.int r6]) (rest := []) (cct_gateAt h12) (cwV 1 hts gX10_readRoute_X8_gateAt rfl rfl rfl (by decide +kernel) ⟨Nat.le_of_ble_eq_true rfl, Nat.le_of_ble_eq_true rfl⟩) hw (hw.recv (ci := 8) (q0 := 10) rfl rfl rfl) rfl hl.1 rfl (Nat.le_of_ble_eq_true rfl) dX10_readRoute_173 (fun H locs hw => ?_)
          rcases r13 with _ | k14
          · replace hf := gN_n hf
            refine lv_ifnonnullN hx hb dX10_readRoute_176 ?_
            refine lv_iconst (v := (-1)) hx hb dX10_readRoute_179 (by decide) ?_
            exact hret (-1) _ _ _ _ _ (g_i1 hf) (congrArg (fun t => cw ty ad G S t wr) (g_i2 hf)) hw dX10_readRoute_180
          · replace hf := gN_s hf
            refine lv_ifnonnull (tgt := 181) hx hb dX10_readRoute_176 (by decide) ?_
            refine lv_iload hx hb dX10_readRoute_181 (lv_at hl 1 rfl) ?_
            obtain ⟨r16, h15, hf⟩ := g_b1 hf
            refine g_sI F (As := [.int r8]) (rest := []) (ccx_isDay h15) (va_cwS 1 hts gX10_readRoute_X10_isDay rfl rfl rfl (by decide +kernel) ⟨Nat.le_of_ble_eq_true rfl, Nat.le_of_ble_eq_true rfl⟩) hw rfl hl.1 rfl (Nat.le_of_ble_eq_true rfl) dX10_readRoute_183 (fun H locs hw => ?_)
            refine lv_if_ne (tgt := 192) hx hb dX10_readRoute_186 (by decide) (fun c17 => ?_) (fun c17 => ?_)
            · have hf := g_t (bI_nz c17) hf
              refine lv_aload_n hx hb dX10_readRoute_192 rfl (lv_at hl 4 rfl) ?_
              refine cf_get_X10_2 F hinX10 hw kf27 dX10_readRoute_193 ?_
              refine lv_iload hx hb dX10_readRoute_196 (lv_at hl 8 rfl) ?_
              refine lv_iload hx hb dX10_readRoute_198 (lv_at hl 3 rfl) ?_
              refine lv_iload hx hb dX10_readRoute_200 (lv_at hl 2 rfl) ?_
              refine lv_iload hx hb dX10_readRoute_202 (lv_at hl 1 rfl) ?_
              refine lv_aload hx hb dX10_readRoute_204 (lv_at hl 0 rfl) ?_
              refine lv_iload hx hb dX10_readRoute_206 (lv_at hl 1 rfl) ?_
              obtain ⟨g19, hf⟩ := g_g hf
              obtain ⟨r20, h18, hf⟩ := g_b1 hf
              refine g_cI F (As := [.int r8]) (rest := [.int r8, .int r6, .int r4, .int v7, .ref (ad 16)]) (ccs_isBornBy h18) (cwV 1 hts gX10_readRoute_X5_isBornBy rfl rfl rfl (by decide +kernel) ⟨Nat.le_of_ble_eq_true rfl, Nat.le_of_ble_eq_true rfl⟩) hw (hw.recv (ci := 5) (q0 := G + k11 + 27) rfl rfl (cw_story g19)) rfl hl.1 rfl (Nat.le_of_ble_eq_true rfl) dX10_readRoute_208 (fun H locs hw => ?_)
              obtain ⟨r22, X23, h21, hf⟩ := g_b2 hf
              refine g_cV F (As := [.int v7, .int r4, .int r6, .int r8, .int (bI r20)]) (rest := []) (cfo_pass h21) (cwV 5 hts gX10_readRoute_X3_pass rfl rfl rfl (by decide +kernel) ⟨Nat.le_of_ble_eq_true rfl, Nat.le_of_ble_eq_true rfl⟩) hw (hw.recv (ci := 3) (q0 := 16) rfl rfl rfl) rfl hl.1 rfl (Nat.le_of_ble_eq_true rfl) dX10_readRoute_211 (fun H locs hw => ?_)
              obtain ⟨X24, eX24, hf⟩ := g_let hf
              have hw := cw_re eX24 hw
              refine lv_iinc (v := v7 + 1) (lv' := [(7, .int (v7 + 1)), (11, .ref (ad (200 + k11))), (10, .int r8), (9, .int r6), (8, .int r4), (0, .ref (ad 0)), (3, .int v3), (4, .int v4), (5, .ref (ad (2 + v5)))]) hx hb dX10_readRoute_214 hl (k := 8) rfl rfl (by decide) rfl (fun ls hl => ?_)
              refine lv_goto (tgt := 101) hx hb dX10_readRoute_217 (by decide) ?_
              exact ih101 v3 v4 v5 (v7 + 1) X24 _ _ _ (lv_sub hl [5, 6, 7, 8, 0] rfl) hw hf
            · have hf := g_f (bI_z c17) hf
              refine lv_bipush (v := (-2)) hx hb dX10_readRoute_189 (by decide) ?_
              exact hret (-2) _ _ _ _ _ (g_i1 hf) (congrArg (fun t => cw ty ad G S t wr) (g_i2 hf)) hw dX10_readRoute_191
  have B66 : ∀ (v3 : Int32) (v4 : Int32) (v5 : Nat) (v6 : Int32) (X : gC) (H : Heap) (locs : List Loc) (ls : Array Slot), lv_has ls 12 [(0, .ref (ad 0)), (3, .int v3), (4, .int v4), (5, .ref (ad (2 + v5))), (6, .int v6)] → gW D ty A (cw ty ad G S X wr) s s.heap H locs → cx_readRoute_b66 G S v3 v4 v5 v6 X = some (r, σ') → W p l e rm_cx_readRoute s m args below meth c H locs 0 0 Q (F0 m 66 ls []) := by
    intro v3 v4 v5 v6 X H locs ls hl hw hf
    unfold cx_readRoute_b66 at hf
    refine lv_iload hx hb dX10_readRoute_66 (lv_at hl 4 rfl) ?_
    refine lv_if_eq (tgt := 78) hx hb dX10_readRoute_68 (by decide) (fun c25 => ?_) (fun c25 => ?_)
    · have hf := g_t c25 hf
      refine lv_aload_n hx hb dX10_readRoute_78 rfl (lv_at hl 0 rfl) ?_
      refine cf_get_X10_1 F hinX10 hw kf20 dX10_readRoute_79 ?_
      obtain ⟨r27, h26, hf⟩ := g_b1 hf
      refine g_cI F (As := []) (rest := []) (cct_stands h26) (cwV 0 hts gX10_readRoute_X8_stands rfl rfl rfl (by decide +kernel) ⟨Nat.le_of_ble_eq_true rfl, Nat.le_of_ble_eq_true rfl⟩) hw (hw.recv (ci := 8) (q0 := 10) rfl rfl rfl) rfl hl.1 rfl (Nat.le_of_ble_eq_true rfl) dX10_readRoute_82 (fun H locs hw => ?_)
      refine lv_if_ne (tgt := 91) hx hb dX10_readRoute_85 (by decide) (fun c28 => ?_) (fun c28 => ?_)
      · have hf := g_t (bI_nz c28) hf
        refine lv_aload_n hx hb dX10_readRoute_91 rfl (lv_at hl 0 rfl) ?_
        refine cf_get_X10_2 F hinX10 hw kf27 dX10_readRoute_92 ?_
        obtain ⟨r30, X31, h29, hf⟩ := g_b2 hf
        refine g_cV F (As := []) (rest := []) (cfo_begin h29) (cwV 0 hts gX10_readRoute_X3_begin rfl rfl rfl (by decide +kernel) ⟨Nat.le_of_ble_eq_true rfl, Nat.le_of_ble_eq_true rfl⟩) hw (hw.recv (ci := 3) (q0 := 16) rfl rfl rfl) rfl hl.1 rfl (Nat.le_of_ble_eq_true rfl) dX10_readRoute_95 (fun H locs hw => ?_)
        obtain ⟨X32, eX32, hf⟩ := g_let hf
        have hw := cw_re eX32 hw
        refine lv_iconst (v := 0) hx hb dX10_readRoute_98 (by decide) ?_
        refine lv_istore (lv' := [(7, .int 0), (0, .ref (ad 0)), (3, .int v3), (4, .int v4), (5, .ref (ad (2 + v5))), (6, .int v6)]) hx hb dX10_readRoute_99 hl (by decide) rfl (fun ls hl => ?_)
        exact B101 1000 v3 v4 v5 0 X32 _ _ _ (lv_sub hl [1, 2, 3, 4, 0] rfl) hw hf
      · have hf := g_f (bI_z c28) hf
        refine lv_bipush (v := (-3)) hx hb dX10_readRoute_88 (by decide) ?_
        exact hret (-3) _ _ _ _ _ (g_i1 hf) (congrArg (fun t => cw ty ad G S t wr) (g_i2 hf)) hw dX10_readRoute_90
    · have hf := g_f c25 hf
      refine lv_aload_n hx hb dX10_readRoute_71 rfl (lv_at hl 0 rfl) ?_
      refine lv_iload hx hb dX10_readRoute_72 (lv_at hl 4 rfl) ?_
      obtain ⟨r34, X35, h33, hf⟩ := g_b2 hf
      refine g_cI F (As := [.int v6]) (rest := []) (ccx_failBy h33) (cwV 1 hts gX10_readRoute_X10_failBy rfl rfl rfl (by decide +kernel) ⟨Nat.le_of_ble_eq_true rfl, Nat.le_of_ble_eq_true rfl⟩) hw (hw.recv (ci := 10) (q0 := 0) rfl rfl rfl) rfl hl.1 rfl (Nat.le_of_ble_eq_true rfl) dX10_readRoute_74 (fun H locs hw => ?_)
      exact hret r34 _ _ _ _ _ (g_i1 hf) (congrArg (fun t => cw ty ad G S t wr) (g_i2 hf)) hw dX10_readRoute_77
  unfold cx_readRoute at hf
  refine lv_aload_n hx hb dX10_readRoute_0 rfl (lv_at hl 0 rfl) ?_
  refine lv_iload_n hx hb dX10_readRoute_1 rfl (lv_at hl 1 rfl) ?_
  obtain ⟨r37, h36, hf⟩ := g_b1 hf
  refine g_cQ F (As := [.int x1]) (rest := []) (ccx_rowAt h36) (cwV 1 hts gX10_readRoute_X10_rowAt rfl rfl rfl (by decide +kernel) ⟨Nat.le_of_ble_eq_true rfl, Nat.le_of_ble_eq_true rfl⟩) hw (hw.recv (ci := 10) (q0 := 0) rfl rfl rfl) rfl hl.1 rfl (Nat.le_of_ble_eq_true rfl) dX10_readRoute_2 (fun H locs hw => ?_)
  rcases r37 with _ | k38
  · replace hf := gN_n hf
    refine lv_astoreN (lv' := [(5, .null), (0, .ref (ad 0)), (1, .int x1), (2, .int x2), (3, .int x3), (4, .int x4)]) hx hb dX10_readRoute_5 hl (by decide) rfl (fun ls hl => ?_)
    refine lv_aloadN hx hb dX10_readRoute_7 (lv_at hl 0 rfl) ?_
    refine lv_ifnonnullN hx hb dX10_readRoute_9 ?_
    refine lv_iconst (v := (-1)) hx hb dX10_readRoute_12 (by decide) ?_
    exact hret (-1) _ _ _ _ _ (g_i1 hf) (congrArg (fun t => cw ty ad G S t wr) (g_i2 hf)) hw dX10_readRoute_13
  · replace hf := gN_s hf
    refine lv_astore (lv' := [(5, .ref (ad (2 + k38))), (0, .ref (ad 0)), (1, .int x1), (2, .int x2), (3, .int x3), (4, .int x4)]) hx hb dX10_readRoute_5 hl (by decide) rfl (fun ls hl => ?_)
    refine lv_aload hx hb dX10_readRoute_7 (lv_at hl 0 rfl) ?_
    refine lv_ifnonnull (tgt := 14) hx hb dX10_readRoute_9 (by decide) ?_
    refine lv_iload_n hx hb dX10_readRoute_14 rfl (lv_at hl 3 rfl) ?_
    refine lv_iconst (v := 0) hx hb dX10_readRoute_15 (by decide) ?_
    refine lv_iconst (v := 2) hx hb dX10_readRoute_16 (by decide) ?_
    obtain ⟨r40, h39, hf⟩ := g_b1 hf
    refine g_sI F (As := [.int x2, .int 0, .int 2]) (rest := []) (ccx_isWithin h39) (va_cwS 3 hts gX10_readRoute_X10_isWithin rfl rfl rfl (by decide +kernel) ⟨Nat.le_of_ble_eq_true rfl, Nat.le_of_ble_eq_true rfl⟩) hw rfl hl.1 rfl (Nat.le_of_ble_eq_true rfl) dX10_readRoute_17 (fun H locs hw => ?_)
    refine lv_if_eq (tgt := 34) hx hb dX10_readRoute_20 (by decide) (fun c41 => ?_) (fun c41 => ?_)
    · have hf := g_f (bI_z c41) hf
      refine lv_bipush (v := (-2)) hx hb dX10_readRoute_34 (by decide) ?_
      exact hret (-2) _ _ _ _ _ (g_i1 hf) (congrArg (fun t => cw ty ad G S t wr) (g_i2 hf)) hw dX10_readRoute_36
    · have hf := g_t (bI_nz c41) hf
      refine lv_iload hx hb dX10_readRoute_23 (lv_at hl 5 rfl) ?_
      refine lv_iconst (v := 0) hx hb dX10_readRoute_25 (by decide) ?_
      refine lv_bipush (v := 12) hx hb dX10_readRoute_26 (by decide) ?_
      obtain ⟨r43, h42, hf⟩ := g_b1 hf
      refine g_sI F (As := [.int x4, .int 0, .int 12]) (rest := []) (ccx_isWithin h42) (va_cwS 3 hts gX10_readRoute_X10_isWithin rfl rfl rfl (by decide +kernel) ⟨Nat.le_of_ble_eq_true rfl, Nat.le_of_ble_eq_true rfl⟩) hw rfl hl.1 rfl (Nat.le_of_ble_eq_true rfl) dX10_readRoute_28 (fun H locs hw => ?_)
      refine lv_if_ne (tgt := 37) hx hb dX10_readRoute_31 (by decide) (fun c44 => ?_) (fun c44 => ?_)
      · have hf := g_t (bI_nz c44) hf
        refine lv_aload hx hb dX10_readRoute_37 (lv_at hl 0 rfl) ?_
        refine lv_iload_n hx hb dX10_readRoute_39 rfl (lv_at hl 3 rfl) ?_
        obtain ⟨g46, hf⟩ := g_g hf
        obtain ⟨r47, h45, hf⟩ := g_b1 hf
        refine g_cI F (As := [.int x2]) (rest := []) (cfr_faultTakenAs h45) (cwV 1 hts gX10_readRoute_X4_faultTakenAs rfl rfl rfl (by decide +kernel) ⟨Nat.le_of_ble_eq_true rfl, Nat.le_of_ble_eq_true rfl⟩) hw (hw.recv (ci := 4) (q0 := 2 + k38) rfl rfl (cf_row g46)) rfl hl.1 rfl (Nat.le_of_ble_eq_true rfl) dX10_readRoute_40 (fun H locs hw => ?_)
        refine lv_istore (lv' := [(6, .int r47), (5, .ref (ad (2 + k38))), (0, .ref (ad 0)), (1, .int x1), (2, .int x2), (3, .int x3), (4, .int x4)]) hx hb dX10_readRoute_43 hl (by decide) rfl (fun ls hl => ?_)
        refine lv_iload hx hb dX10_readRoute_45 (lv_at hl 0 rfl) ?_
        refine lv_if_ne (tgt := 66) hx hb dX10_readRoute_47 (by decide) (fun c48 => ?_) (fun c48 => ?_)
        · have hf := g_f c48 hf
          exact B66 x3 x4 k38 r47 X _ _ _ (lv_sub hl [2, 5, 6, 1, 0] rfl) hw hf
        · have hf := g_t c48 hf
          refine lv_aload hx hb dX10_readRoute_50 (lv_at hl 1 rfl) ?_
          refine lv_iload_n hx hb dX10_readRoute_52 rfl (lv_at hl 5 rfl) ?_
          refine lv_iconst (v := 3) hx hb dX10_readRoute_53 (by decide) ?_
          refine lv_iload hx hb dX10_readRoute_54 (lv_at hl 6 rfl) ?_
          refine lv_imul hx hb dX10_readRoute_56 ?_
          obtain ⟨r50, h49, hf⟩ := g_b1 hf
          refine g_cI F (As := [.int x3, .int ((3 : Int32) * x4)]) (rest := []) (cfr_hasCells h49) (cwV 2 hts gX10_readRoute_X4_hasCells rfl rfl rfl (by decide +kernel) ⟨Nat.le_of_ble_eq_true rfl, Nat.le_of_ble_eq_true rfl⟩) hw (hw.recv (ci := 4) (q0 := 2 + k38) rfl rfl (cf_row g46)) rfl hl.1 rfl (Nat.le_of_ble_eq_true rfl) dX10_readRoute_57 (fun H locs hw => ?_)
          refine lv_if_ne (tgt := 66) hx hb dX10_readRoute_60 (by decide) (fun c51 => ?_) (fun c51 => ?_)
          · have hf := g_t (bI_nz c51) hf
            exact B66 x3 x4 k38 r47 X _ _ _ (lv_sub hl [2, 5, 6, 1, 0] rfl) hw hf
          · have hf := g_f (bI_z c51) hf
            refine lv_iconst (v := 3) hx hb dX10_readRoute_63 (by decide) ?_
            refine lv_istore (lv' := [(6, .int 3), (5, .ref (ad (2 + k38))), (0, .ref (ad 0)), (1, .int x1), (2, .int x2), (3, .int x3), (4, .int x4)]) hx hb dX10_readRoute_64 hl (by decide) rfl (fun ls hl => ?_)
            exact B66 x3 x4 k38 3 X _ _ _ (lv_sub hl [2, 5, 6, 1, 0] rfl) hw hf
      · have hf := g_f (bI_z c44) hf
        refine lv_bipush (v := (-2)) hx hb dX10_readRoute_34 (by decide) ?_
        exact hret (-2) _ _ _ _ _ (g_i1 hf) (congrArg (fun t => cw ty ad G S t wr) (g_i2 hf)) hw dX10_readRoute_36

abbrev rm_cx_passages : Room := { frames := 4, cells := 0, slots := 0, locals := 93 }
set_option maxHeartbeats 4000000 in
set_option maxRecDepth 100000 in
theorem ccx_passages {l : Launch} {D : va_G} {ty : gT} {A : Nat → Prop} {ad : Nat → Nat} {wr : va_W} {G : Nat} {S : Nat} {x1 : Int32} {x2 : Int32} {x3 : Int32} {x4 : Int32} {x5 : Int32} {X : gC} {r : Int32} {σ' : gC} (hf : cx_passages G S X x1 x2 x3 x4 x5 = some (r, σ')) : gI l D ty A yX10_passages wsX10_passages rm_cx_passages [.ref (ad 0), .int x1, .int x2, .int x3, .int x4, .int x5] (cw ty ad G S X wr) r (cw ty ad G S σ' wr) := by
  refine gI_enter (cc := cX10_passages) (maxL := 7) (by decide) rfl (Nat.le_of_ble_eq_true rfl) ?_
  intro p e s m args below meth c Q ls F hl hw hret
  have F : CallFix p m c cX10_passages 7 s args wsX10_passages RX10 := F
  obtain ⟨hx, hb, hml, hown, hts⟩ := id F
  have hl : lv_has ls 7 [(0, .ref (ad 0)), (1, .int x1), (2, .int x2), (3, .int x3), (4, .int x4), (5, .int x5)] := hl
  have hinX10 : ∀ w ∈ wsX100, w ∈ wsX10_passages := by first | exact fun w h => List.mem_cons_of_mem _ (List.mem_append_left _ (List.mem_append_left _ (List.mem_append_left _ (List.mem_append_left _ (List.mem_append_left _ (List.mem_append_left _ (List.mem_append_left _ (List.mem_append_right _ h)))))))) | decide +kernel
  have hinX3 : ∀ w ∈ wsX30, w ∈ wsX10_passages := by first | exact fun w h => List.mem_cons_of_mem _ (List.mem_append_left _ (List.mem_append_left _ (List.mem_append_left _ (List.mem_append_left _ (List.mem_append_left _ (List.mem_append_left _ (List.mem_append_right _ h))))))) | decide +kernel
  have kf150 := hts (.fieldLink RX10 150 "GossipGate$Route" "firstWrong" "I") (by decide +kernel)
  have kf20 := hts (.fieldLink RX10 20 "GossipGate" "theTown" "LGossipGate$Town;") (by decide +kernel)
  have kf27 := hts (.fieldLink RX10 27 "GossipGate" "route" "LGossipGate$Route;") (by decide +kernel)
  have kf45 := hts (.fieldLink RX10 45 "GossipGate" "latestFault" "I") (by decide +kernel)
  have B129 : ∀ (v5 : Int32) (X : gC) (H : Heap) (locs : List Loc) (ls : Array Slot), lv_has ls 7 [(0, .ref (ad 0)), (5, .int v5)] → gW D ty A (cw ty ad G S X wr) s s.heap H locs → cx_passages_b129 G S v5 X = some (r, σ') → W p l e rm_cx_passages s m args below meth c H locs 0 0 Q (F0 m 129 ls []) := by
    intro v5 X H locs ls hl hw hf
    unfold cx_passages_b129 at hf
    refine lv_aload_n hx hb dX10_passages_129 rfl (lv_at hl 0 rfl) ?_
    refine cf_get_X10_1 F hinX10 hw kf20 dX10_passages_130 ?_
    refine lv_aload_n hx hb dX10_passages_133 rfl (lv_at hl 0 rfl) ?_
    refine cf_get_X10_2 F hinX10 hw kf27 dX10_passages_134 ?_
    obtain ⟨r2, X3, h1, hf⟩ := g_b2 hf
    refine g_cV F (As := [.ref (ad 16)]) (rest := []) (cct_collect h1) (cwV 1 hts gX10_passages_X8_collect rfl rfl rfl (by decide +kernel) ⟨Nat.le_of_ble_eq_true rfl, Nat.le_of_ble_eq_true rfl⟩) hw (hw.recv (ci := 8) (q0 := 10) rfl rfl rfl) rfl hl.1 rfl (Nat.le_of_ble_eq_true rfl) dX10_passages_137 (fun H locs hw => ?_)
    refine lv_iload hx hb dX10_passages_140 (lv_at hl 1 rfl) ?_
    refine lv_if_ne (tgt := 153) hx hb dX10_passages_142 (by decide) (fun c4 => ?_) (fun c4 => ?_)
    · have hf := g_f c4 hf
      refine lv_aload_n hx hb dX10_passages_153 rfl (lv_at hl 0 rfl) ?_
      refine cf_get_X10_1 F hinX10 hw kf20 dX10_passages_154 ?_
      refine lv_iload hx hb dX10_passages_157 (lv_at hl 1 rfl) ?_
      refine lv_bipush (v := 20) hx hb dX10_passages_159 (by decide) ?_
      refine lv_isub hx hb dX10_passages_161 ?_
      obtain ⟨r6, h5, hf⟩ := g_b1 hf
      refine g_cQ F (As := [.int (v5 - 20)]) (rest := []) (cct_gateAt h5) (cwV 1 hts gX10_passages_X8_gateAt rfl rfl rfl (by decide +kernel) ⟨Nat.le_of_ble_eq_true rfl, Nat.le_of_ble_eq_true rfl⟩) hw (hw.recv (ci := 8) (q0 := 10) rfl rfl rfl) rfl hl.1 rfl (Nat.le_of_ble_eq_true rfl) dX10_passages_162 (fun H locs hw => ?_)
      rcases r6 with _ | k7
      · replace hf := gN_n hf
        refine lv_ifnonnullN hx hb dX10_passages_165 ?_
        refine lv_bipush (v := (-9)) hx hb dX10_passages_168 (by decide) ?_
        refine lv_goto (tgt := 185) hx hb dX10_passages_170 (by decide) ?_
        exact hret (-9) _ _ _ _ _ (g_i1 hf) (congrArg (fun t => cw ty ad G S t wr) (g_i2 hf)) hw dX10_passages_185
      · replace hf := gN_s hf
        refine lv_ifnonnull (tgt := 173) hx hb dX10_passages_165 (by decide) ?_
        refine lv_aload_n hx hb dX10_passages_173 rfl (lv_at hl 0 rfl) ?_
        refine cf_get_X10_1 F hinX10 hw kf20 dX10_passages_174 ?_
        refine lv_iload hx hb dX10_passages_177 (lv_at hl 1 rfl) ?_
        refine lv_bipush (v := 20) hx hb dX10_passages_179 (by decide) ?_
        refine lv_isub hx hb dX10_passages_181 ?_
        obtain ⟨r9, h8, hf⟩ := g_b1 hf
        refine g_cI F (As := [.int (v5 - 20)]) (rest := []) (cct_takenAt h8) (cwV 1 hts gX10_passages_X8_takenAt rfl rfl rfl (by decide +kernel) ⟨Nat.le_of_ble_eq_true rfl, Nat.le_of_ble_eq_true rfl⟩) hw (hw.recv (ci := 8) (q0 := 10) rfl rfl rfl) rfl hl.1 rfl (Nat.le_of_ble_eq_true rfl) dX10_passages_182 (fun H locs hw => ?_)
        exact hret r9 _ _ _ _ _ (g_i1 hf) (congrArg (fun t => cw ty ad G S t wr) (g_i2 hf)) hw dX10_passages_185
    · have hf := g_t c4 hf
      refine lv_aload_n hx hb dX10_passages_145 rfl (lv_at hl 0 rfl) ?_
      refine cf_get_X10_1 F hinX10 hw kf20 dX10_passages_146 ?_
      obtain ⟨r11, h10, hf⟩ := g_b1 hf
      refine g_cI F (As := []) (rest := []) (cct_takenInAll h10) (cwV 0 hts gX10_passages_X8_takenInAll rfl rfl rfl (by decide +kernel) ⟨Nat.le_of_ble_eq_true rfl, Nat.le_of_ble_eq_true rfl⟩) hw (hw.recv (ci := 8) (q0 := 10) rfl rfl rfl) rfl hl.1 rfl (Nat.le_of_ble_eq_true rfl) dX10_passages_149 (fun H locs hw => ?_)
      exact hret r11 _ _ _ _ _ (g_i1 hf) (congrArg (fun t => cw ty ad G S t wr) (g_i2 hf)) hw dX10_passages_152
  unfold cx_passages at hf
  refine lv_aload_n hx hb dX10_passages_0 rfl (lv_at hl 0 rfl) ?_
  refine lv_iconst (v := 0) hx hb dX10_passages_1 (by decide) ?_
  refine cf_put_X10_5 F hinX10 hw kf45 dX10_passages_2 (fun H locs hw => ?_)
  obtain ⟨X12, eX12, hf⟩ := g_let hf
  have hw := cw_re eX12 hw
  refine lv_aload_n hx hb dX10_passages_5 rfl (lv_at hl 0 rfl) ?_
  refine lv_iload_n hx hb dX10_passages_6 rfl (lv_at hl 1 rfl) ?_
  obtain ⟨r14, h13, hf⟩ := g_b1 hf
  refine g_cQ F (As := [.int x1]) (rest := []) (ccx_rowAt h13) (cwV 1 hts gX10_passages_X10_rowAt rfl rfl rfl (by decide +kernel) ⟨Nat.le_of_ble_eq_true rfl, Nat.le_of_ble_eq_true rfl⟩) hw (hw.recv (ci := 10) (q0 := 0) rfl rfl rfl) rfl hl.1 rfl (Nat.le_of_ble_eq_true rfl) dX10_passages_7 (fun H locs hw => ?_)
  rcases r14 with _ | k15
  · replace hf := gN_n hf
    refine lv_ifnonnullN hx hb dX10_passages_10 ?_
    refine lv_iconst (v := (-1)) hx hb dX10_passages_13 (by decide) ?_
    exact hret (-1) _ _ _ _ _ (g_i1 hf) (congrArg (fun t => cw ty ad G S t wr) (g_i2 hf)) hw dX10_passages_14
  · replace hf := gN_s hf
    refine lv_ifnonnull (tgt := 15) hx hb dX10_passages_10 (by decide) ?_
    refine lv_iload hx hb dX10_passages_15 (lv_at hl 5 rfl) ?_
    obtain ⟨r17, h16, hf⟩ := g_b1 hf
    refine g_sI F (As := [.int x5]) (rest := []) (ccx_isAskedOfPassages h16) (va_cwS 1 hts gX10_passages_X10_isAskedOfPassages rfl rfl rfl (by decide +kernel) ⟨Nat.le_of_ble_eq_true rfl, Nat.le_of_ble_eq_true rfl⟩) hw rfl hl.1 rfl (Nat.le_of_ble_eq_true rfl) dX10_passages_17 (fun H locs hw => ?_)
    refine lv_if_ne (tgt := 26) hx hb dX10_passages_20 (by decide) (fun c18 => ?_) (fun c18 => ?_)
    · have hf := g_t (bI_nz c18) hf
      refine lv_aload_n hx hb dX10_passages_26 rfl (lv_at hl 0 rfl) ?_
      refine lv_iload_n hx hb dX10_passages_27 rfl (lv_at hl 1 rfl) ?_
      refine lv_iload_n hx hb dX10_passages_28 rfl (lv_at hl 2 rfl) ?_
      refine lv_iload_n hx hb dX10_passages_29 rfl (lv_at hl 3 rfl) ?_
      refine lv_iload hx hb dX10_passages_30 (lv_at hl 4 rfl) ?_
      obtain ⟨r20, X21, h19, hf⟩ := g_b2 hf
      refine g_cI F (As := [.int x1, .int x2, .int x3, .int x4]) (rest := []) (ccx_readRoute h19) (cwV 4 hts gX10_passages_X10_readRoute rfl rfl rfl (by decide +kernel) ⟨Nat.le_of_ble_eq_true rfl, Nat.le_of_ble_eq_true rfl⟩) hw (hw.recv (ci := 10) (q0 := 0) rfl rfl rfl) rfl hl.1 rfl (Nat.le_of_ble_eq_true rfl) dX10_passages_32 (fun H locs hw => ?_)
      refine lv_istore (lv' := [(6, .int r20), (0, .ref (ad 0)), (1, .int x1), (2, .int x2), (3, .int x3), (4, .int x4), (5, .int x5)]) hx hb dX10_passages_35 hl (by decide) rfl (fun ls hl => ?_)
      refine lv_iload hx hb dX10_passages_37 (lv_at hl 0 rfl) ?_
      refine lv_if_ge (tgt := 45) hx hb dX10_passages_39 (by decide) (fun c22 => ?_) (fun c22 => ?_)
      · have hf := g_t c22 hf
        refine lv_iload hx hb dX10_passages_45 (lv_at hl 6 rfl) ?_
        refine lv_iconst (v := 1) hx hb dX10_passages_47 (by decide) ?_
        refine lv_icmp_ne (tgt := 59) hx hb dX10_passages_48 (by decide) (fun c23 => ?_) (fun c23 => ?_)
        · have hf := g_f c23 hf
          refine lv_aload_n hx hb dX10_passages_59 rfl (lv_at hl 1 rfl) ?_
          refine cf_get_X10_2 F hinX10 hw kf27 dX10_passages_60 ?_
          refine cf_get_X3_5 F hinX3 hw kf150 dX10_passages_63 ?_
          refine lv_bipush (v := (-9)) hx hb dX10_passages_66 (by decide) ?_
          refine lv_icmp_eq (tgt := 82) hx hb dX10_passages_68 (by decide) (fun c24 => ?_) (fun c24 => ?_)
          · have hf := g_t c24 hf
            refine lv_iload hx hb dX10_passages_82 (lv_at hl 6 rfl) ?_
            refine lv_bipush (v := 10) hx hb dX10_passages_84 (by decide) ?_
            refine lv_icmp_lt (tgt := 129) hx hb dX10_passages_86 (by decide) (fun c25 => ?_) (fun c25 => ?_)
            · have hf := g_t c25 hf
              exact B129 x5 X21 _ _ _ (lv_sub hl [1, 6] rfl) hw hf
            · have hf := g_f c25 hf
              refine lv_iload hx hb dX10_passages_89 (lv_at hl 6 rfl) ?_
              refine lv_bipush (v := 20) hx hb dX10_passages_91 (by decide) ?_
              refine lv_icmp_ge (tgt := 129) hx hb dX10_passages_93 (by decide) (fun c26 => ?_) (fun c26 => ?_)
              · have hf := g_t c26 hf
                exact B129 x5 X21 _ _ _ (lv_sub hl [1, 6] rfl) hw hf
              · have hf := g_f c26 hf
                refine lv_aload_n hx hb dX10_passages_96 rfl (lv_at hl 1 rfl) ?_
                refine cf_get_X10_1 F hinX10 hw kf20 dX10_passages_97 ?_
                refine lv_iload hx hb dX10_passages_100 (lv_at hl 6 rfl) ?_
                refine lv_bipush (v := 10) hx hb dX10_passages_102 (by decide) ?_
                refine lv_isub hx hb dX10_passages_104 ?_
                obtain ⟨r28, h27, hf⟩ := g_b1 hf
                refine g_cQ F (As := [.int (x5 - 10)]) (rest := []) (cct_storyAt h27) (cwV 1 hts gX10_passages_X8_storyAt rfl rfl rfl (by decide +kernel) ⟨Nat.le_of_ble_eq_true rfl, Nat.le_of_ble_eq_true rfl⟩) hw (hw.recv (ci := 8) (q0 := 10) rfl rfl rfl) rfl hl.1 rfl (Nat.le_of_ble_eq_true rfl) dX10_passages_105 (fun H locs hw => ?_)
                rcases r28 with _ | k29
                · replace hf := gN_n hf
                  refine lv_ifnonnullN hx hb dX10_passages_108 ?_
                  refine lv_bipush (v := (-9)) hx hb dX10_passages_111 (by decide) ?_
                  refine lv_goto (tgt := 128) hx hb dX10_passages_113 (by decide) ?_
                  exact hret (-9) _ _ _ _ _ (g_i1 hf) (congrArg (fun t => cw ty ad G S t wr) (g_i2 hf)) hw dX10_passages_128
                · replace hf := gN_s hf
                  refine lv_ifnonnull (tgt := 116) hx hb dX10_passages_108 (by decide) ?_
                  refine lv_aload_n hx hb dX10_passages_116 rfl (lv_at hl 1 rfl) ?_
                  refine cf_get_X10_2 F hinX10 hw kf27 dX10_passages_117 ?_
                  refine lv_iload hx hb dX10_passages_120 (lv_at hl 6 rfl) ?_
                  refine lv_bipush (v := 10) hx hb dX10_passages_122 (by decide) ?_
                  refine lv_isub hx hb dX10_passages_124 ?_
                  obtain ⟨r31, h30, hf⟩ := g_b1 hf
                  refine g_cI F (As := [.int (x5 - 10)]) (rest := []) (cfo_wholeDay h30) (cwV 1 hts gX10_passages_X3_wholeDay rfl rfl rfl (by decide +kernel) ⟨Nat.le_of_ble_eq_true rfl, Nat.le_of_ble_eq_true rfl⟩) hw (hw.recv (ci := 3) (q0 := 16) rfl rfl rfl) rfl hl.1 rfl (Nat.le_of_ble_eq_true rfl) dX10_passages_125 (fun H locs hw => ?_)
                  exact hret r31 _ _ _ _ _ (g_i1 hf) (congrArg (fun t => cw ty ad G S t wr) (g_i2 hf)) hw dX10_passages_128
          · have hf := g_f c24 hf
            refine lv_bipush (v := (-100)) hx hb dX10_passages_71 (by decide) ?_
            refine lv_aload_n hx hb dX10_passages_73 rfl (lv_at hl 1 rfl) ?_
            refine cf_get_X10_2 F hinX10 hw kf27 dX10_passages_74 ?_
            refine cf_get_X3_5 F hinX3 hw kf150 dX10_passages_77 ?_
            refine lv_isub hx hb dX10_passages_80 ?_
            exact hret (((-100) : Int32) - (X21.1.1 4)) _ _ _ _ _ (g_i1 hf) (congrArg (fun t => cw ty ad G S t wr) (g_i2 hf)) hw dX10_passages_81
        · have hf := g_t c23 hf
          refine lv_aload_n hx hb dX10_passages_51 rfl (lv_at hl 1 rfl) ?_
          refine cf_get_X10_2 F hinX10 hw kf27 dX10_passages_52 ?_
          refine cf_get_X3_5 F hinX3 hw kf150 dX10_passages_55 ?_
          exact hret (X21.1.1 4) _ _ _ _ _ (g_i1 hf) (congrArg (fun t => cw ty ad G S t wr) (g_i2 hf)) hw dX10_passages_58
      · have hf := g_f c22 hf
        refine lv_iload hx hb dX10_passages_42 (lv_at hl 0 rfl) ?_
        exact hret r20 _ _ _ _ _ (g_i1 hf) (congrArg (fun t => cw ty ad G S t wr) (g_i2 hf)) hw dX10_passages_44
    · have hf := g_f (bI_z c18) hf
      refine lv_bipush (v := (-2)) hx hb dX10_passages_23 (by decide) ?_
      exact hret (-2) _ _ _ _ _ (g_i1 hf) (congrArg (fun t => cw ty ad G S t wr) (g_i2 hf)) hw dX10_passages_25

abbrev rm_cx_least : Room := { frames := 6, cells := 0, slots := 0, locals := 144 }
set_option maxHeartbeats 4000000 in
set_option maxRecDepth 100000 in
theorem ccx_least {l : Launch} {D : va_G} {ty : gT} {A : Nat → Prop} {ad : Nat → Nat} {wr : va_W} {G : Nat} {S : Nat} {x1 : Int32} {x2 : Int32} {x3 : Int32} {X : gC} {r : Int32} {σ' : gC} (hf : cx_least G S X x1 x2 x3 = some (r, σ')) : gI l D ty A yX10_least wsX10_least rm_cx_least [.ref (ad 0), .int x1, .int x2, .int x3] (cw ty ad G S X wr) r (cw ty ad G S σ' wr) := by
  refine gI_enter (cc := cX10_least) (maxL := 6) (by decide) rfl (Nat.le_of_ble_eq_true rfl) ?_
  intro p e s m args below meth c Q ls F hl hw hret
  have F : CallFix p m c cX10_least 6 s args wsX10_least RX10 := F
  obtain ⟨hx, hb, hml, hown, hts⟩ := id F
  have hl : lv_has ls 6 [(0, .ref (ad 0)), (1, .int x1), (2, .int x2), (3, .int x3)] := hl
  have hinX10 : ∀ w ∈ wsX100, w ∈ wsX10_least := by first | exact fun w h => List.mem_cons_of_mem _ (List.mem_append_left _ (List.mem_append_left _ (List.mem_append_left _ (List.mem_append_left _ (List.mem_append_left _ (List.mem_append_right _ h)))))) | decide +kernel
  have kf20 := hts (.fieldLink RX10 20 "GossipGate" "theTown" "LGossipGate$Town;") (by decide +kernel)
  unfold cx_least at hf
  refine lv_aload_n hx hb dX10_least_0 rfl (lv_at hl 0 rfl) ?_
  refine cf_get_X10_1 F hinX10 hw kf20 dX10_least_1 ?_
  refine lv_iload_n hx hb dX10_least_4 rfl (lv_at hl 1 rfl) ?_
  obtain ⟨r2, h1, hf⟩ := g_b1 hf
  refine g_cQ F (As := [.int x1]) (rest := []) (cct_storyAt h1) (cwV 1 hts gX10_least_X8_storyAt rfl rfl rfl (by decide +kernel) ⟨Nat.le_of_ble_eq_true rfl, Nat.le_of_ble_eq_true rfl⟩) hw (hw.recv (ci := 8) (q0 := 10) rfl rfl rfl) rfl hl.1 rfl (Nat.le_of_ble_eq_true rfl) dX10_least_5 (fun H locs hw => ?_)
  rcases r2 with _ | k3
  · replace hf := gN_n hf
    refine lv_astoreN (lv' := [(4, .null), (0, .ref (ad 0)), (1, .int x1), (2, .int x2), (3, .int x3)]) hx hb dX10_least_8 hl (by decide) rfl (fun ls hl => ?_)
    refine lv_aloadN hx hb dX10_least_10 (lv_at hl 0 rfl) ?_
    refine lv_ifnonnullN hx hb dX10_least_12 ?_
    refine lv_iconst (v := (-1)) hx hb dX10_least_15 (by decide) ?_
    exact hret (-1) _ _ _ _ _ (g_i1 hf) (congrArg (fun t => cw ty ad G S t wr) (g_i2 hf)) hw dX10_least_16
  · replace hf := gN_s hf
    refine lv_astore (lv' := [(4, .ref (ad (200 + k3))), (0, .ref (ad 0)), (1, .int x1), (2, .int x2), (3, .int x3)]) hx hb dX10_least_8 hl (by decide) rfl (fun ls hl => ?_)
    refine lv_aload hx hb dX10_least_10 (lv_at hl 0 rfl) ?_
    refine lv_ifnonnull (tgt := 17) hx hb dX10_least_12 (by decide) ?_
    refine lv_iload_n hx hb dX10_least_17 rfl (lv_at hl 3 rfl) ?_
    obtain ⟨r5, h4, hf⟩ := g_b1 hf
    refine g_sI F (As := [.int x2]) (rest := []) (ccx_isDay h4) (va_cwS 1 hts gX10_least_X10_isDay rfl rfl rfl (by decide +kernel) ⟨Nat.le_of_ble_eq_true rfl, Nat.le_of_ble_eq_true rfl⟩) hw rfl hl.1 rfl (Nat.le_of_ble_eq_true rfl) dX10_least_18 (fun H locs hw => ?_)
    refine lv_if_eq (tgt := 33) hx hb dX10_least_21 (by decide) (fun c6 => ?_) (fun c6 => ?_)
    · have hf := g_f (bI_z c6) hf
      refine lv_bipush (v := (-2)) hx hb dX10_least_33 (by decide) ?_
      exact hret (-2) _ _ _ _ _ (g_i1 hf) (congrArg (fun t => cw ty ad G S t wr) (g_i2 hf)) hw dX10_least_35
    · have hf := g_t (bI_nz c6) hf
      refine lv_iload_n hx hb dX10_least_24 rfl (lv_at hl 4 rfl) ?_
      refine lv_iconst (v := (-1)) hx hb dX10_least_25 (by decide) ?_
      refine lv_iconst (v := 2) hx hb dX10_least_26 (by decide) ?_
      obtain ⟨r8, h7, hf⟩ := g_b1 hf
      refine g_sI F (As := [.int x3, .int (-1), .int 2]) (rest := []) (ccx_isWithin h7) (va_cwS 3 hts gX10_least_X10_isWithin rfl rfl rfl (by decide +kernel) ⟨Nat.le_of_ble_eq_true rfl, Nat.le_of_ble_eq_true rfl⟩) hw rfl hl.1 rfl (Nat.le_of_ble_eq_true rfl) dX10_least_27 (fun H locs hw => ?_)
      refine lv_if_ne (tgt := 36) hx hb dX10_least_30 (by decide) (fun c9 => ?_) (fun c9 => ?_)
      · have hf := g_t (bI_nz c9) hf
        refine lv_aload hx hb dX10_least_36 (lv_at hl 0 rfl) ?_
        refine lv_iload_n hx hb dX10_least_38 rfl (lv_at hl 3 rfl) ?_
        obtain ⟨g11, hf⟩ := g_g hf
        obtain ⟨r12, h10, hf⟩ := g_b1 hf
        refine g_cI F (As := [.int x2]) (rest := []) (ccs_isBornBy h10) (cwV 1 hts gX10_least_X5_isBornBy rfl rfl rfl (by decide +kernel) ⟨Nat.le_of_ble_eq_true rfl, Nat.le_of_ble_eq_true rfl⟩) hw (hw.recv (ci := 5) (q0 := G + k3 + 27) rfl rfl (cw_story g11)) rfl hl.1 rfl (Nat.le_of_ble_eq_true rfl) dX10_least_39 (fun H locs hw => ?_)
        refine lv_if_ne (tgt := 48) hx hb dX10_least_42 (by decide) (fun c13 => ?_) (fun c13 => ?_)
        · have hf := g_t (bI_nz c13) hf
          refine lv_aload_n hx hb dX10_least_48 rfl (lv_at hl 1 rfl) ?_
          refine cf_get_X10_1 F hinX10 hw kf20 dX10_least_49 ?_
          refine lv_aload hx hb dX10_least_52 (lv_at hl 0 rfl) ?_
          refine lv_iload_n hx hb dX10_least_54 rfl (lv_at hl 3 rfl) ?_
          refine lv_iconst (v := (-1)) hx hb dX10_least_55 (by decide) ?_
          obtain ⟨r15, X16, h14, hf⟩ := g_b2 hf
          refine g_cI F (As := [.ref (ad (200 + k3)), .int x2, .int (-1)]) (rest := []) (cct_leastKey h14) (cwV 3 hts gX10_least_X8_leastKey rfl rfl rfl (by decide +kernel) ⟨Nat.le_of_ble_eq_true rfl, Nat.le_of_ble_eq_true rfl⟩) hw (hw.recv (ci := 8) (q0 := 10) rfl rfl rfl) rfl hl.1 rfl (Nat.le_of_ble_eq_true rfl) dX10_least_56 (fun H locs hw => ?_)
          refine lv_istore (lv' := [(5, .int r15), (4, .ref (ad (200 + k3))), (0, .ref (ad 0)), (1, .int x1), (2, .int x2), (3, .int x3)]) hx hb dX10_least_59 hl (by decide) rfl (fun ls hl => ?_)
          refine lv_iload_n hx hb dX10_least_61 rfl (lv_at hl 5 rfl) ?_
          refine lv_if_ge (tgt := 73) hx hb dX10_least_62 (by decide) (fun c17 => ?_) (fun c17 => ?_)
          · have hf := g_t c17 hf
            refine lv_iload hx hb dX10_least_73 (lv_at hl 0 rfl) ?_
            refine lv_iload_n hx hb dX10_least_75 rfl (lv_at hl 5 rfl) ?_
            obtain ⟨r19, h18, hf⟩ := g_b1 hf
            refine g_sI F (As := [.int r15, .int x3]) (rest := []) (cct_spotOf h18) (va_cwS 2 hts gX10_least_X8_spotOf rfl rfl rfl (by decide +kernel) ⟨Nat.le_of_ble_eq_true rfl, Nat.le_of_ble_eq_true rfl⟩) hw rfl hl.1 rfl (Nat.le_of_ble_eq_true rfl) dX10_least_76 (fun H locs hw => ?_)
            exact hret r19 _ _ _ _ _ (g_i1 hf) (congrArg (fun t => cw ty ad G S t wr) (g_i2 hf)) hw dX10_least_79
          · have hf := g_f c17 hf
            refine lv_iload hx hb dX10_least_65 (lv_at hl 0 rfl) ?_
            obtain ⟨r21, h20, hf⟩ := g_b1 hf
            refine g_sI F (As := [.int r15]) (rest := []) (cct_penceOf h20) (va_cwS 1 hts gX10_least_X8_penceOf rfl rfl rfl (by decide +kernel) ⟨Nat.le_of_ble_eq_true rfl, Nat.le_of_ble_eq_true rfl⟩) hw rfl hl.1 rfl (Nat.le_of_ble_eq_true rfl) dX10_least_67 (fun H locs hw => ?_)
            refine lv_goto (tgt := 79) hx hb dX10_least_70 (by decide) ?_
            exact hret r21 _ _ _ _ _ (g_i1 hf) (congrArg (fun t => cw ty ad G S t wr) (g_i2 hf)) hw dX10_least_79
        · have hf := g_f (bI_z c13) hf
          refine lv_bipush (v := (-9)) hx hb dX10_least_45 (by decide) ?_
          exact hret (-9) _ _ _ _ _ (g_i1 hf) (congrArg (fun t => cw ty ad G S t wr) (g_i2 hf)) hw dX10_least_47
      · have hf := g_f (bI_z c9) hf
        refine lv_bipush (v := (-2)) hx hb dX10_least_33 (by decide) ?_
        exact hret (-2) _ _ _ _ _ (g_i1 hf) (congrArg (fun t => cw ty ad G S t wr) (g_i2 hf)) hw dX10_least_35

abbrev rm_cx_free : Room := { frames := 6, cells := 0, slots := 0, locals := 142 }
set_option maxHeartbeats 4000000 in
set_option maxRecDepth 100000 in
theorem ccx_free {l : Launch} {D : va_G} {ty : gT} {A : Nat → Prop} {ad : Nat → Nat} {wr : va_W} {G : Nat} {S : Nat} {x1 : Int32} {X : gC} {r : Int32} {σ' : gC} (hf : cx_free G S X x1 = some (r, σ')) : gI l D ty A yX10_free wsX10_free rm_cx_free [.ref (ad 0), .int x1] (cw ty ad G S X wr) r (cw ty ad G S σ' wr) := by
  refine gI_enter (cc := cX10_free) (maxL := 3) (by decide) rfl (Nat.le_of_ble_eq_true rfl) ?_
  intro p e s m args below meth c Q ls F hl hw hret
  have F : CallFix p m c cX10_free 3 s args wsX10_free RX10 := F
  obtain ⟨hx, hb, hml, hown, hts⟩ := id F
  have hl : lv_has ls 3 [(0, .ref (ad 0)), (1, .int x1)] := hl
  have hinX10 : ∀ w ∈ wsX100, w ∈ wsX10_free := by first | exact fun w h => List.mem_cons_of_mem _ (List.mem_append_left _ (List.mem_append_left _ (List.mem_append_left _ (List.mem_append_left _ (List.mem_append_left _ (List.mem_append_right _ h)))))) | decide +kernel
  have kf20 := hts (.fieldLink RX10 20 "GossipGate" "theTown" "LGossipGate$Town;") (by decide +kernel)
  unfold cx_free at hf
  refine lv_aload_n hx hb dX10_free_0 rfl (lv_at hl 0 rfl) ?_
  refine cf_get_X10_1 F hinX10 hw kf20 dX10_free_1 ?_
  refine lv_iload_n hx hb dX10_free_4 rfl (lv_at hl 1 rfl) ?_
  obtain ⟨r2, h1, hf⟩ := g_b1 hf
  refine g_cQ F (As := [.int x1]) (rest := []) (cct_storyAt h1) (cwV 1 hts gX10_free_X8_storyAt rfl rfl rfl (by decide +kernel) ⟨Nat.le_of_ble_eq_true rfl, Nat.le_of_ble_eq_true rfl⟩) hw (hw.recv (ci := 8) (q0 := 10) rfl rfl rfl) rfl hl.1 rfl (Nat.le_of_ble_eq_true rfl) dX10_free_5 (fun H locs hw => ?_)
  rcases r2 with _ | k3
  · replace hf := gN_n hf
    refine lv_astore_nN (lv' := [(2, .null), (0, .ref (ad 0)), (1, .int x1)]) hx hb dX10_free_8 rfl hl (by decide) rfl (fun ls hl => ?_)
    refine lv_aload_nN hx hb dX10_free_9 rfl (lv_at hl 0 rfl) ?_
    refine lv_ifnonnullN hx hb dX10_free_10 ?_
    refine lv_iconst (v := (-1)) hx hb dX10_free_13 (by decide) ?_
    refine lv_goto (tgt := 25) hx hb dX10_free_14 (by decide) ?_
    exact hret (-1) _ _ _ _ _ (g_i1 hf) (congrArg (fun t => cw ty ad G S t wr) (g_i2 hf)) hw dX10_free_25
  · replace hf := gN_s hf
    refine lv_astore_n (lv' := [(2, .ref (ad (200 + k3))), (0, .ref (ad 0)), (1, .int x1)]) hx hb dX10_free_8 rfl hl (by decide) rfl (fun ls hl => ?_)
    refine lv_aload_n hx hb dX10_free_9 rfl (lv_at hl 0 rfl) ?_
    refine lv_ifnonnull (tgt := 17) hx hb dX10_free_10 (by decide) ?_
    refine lv_aload_n hx hb dX10_free_17 rfl (lv_at hl 1 rfl) ?_
    refine cf_get_X10_1 F hinX10 hw kf20 dX10_free_18 ?_
    refine lv_aload_n hx hb dX10_free_21 rfl (lv_at hl 0 rfl) ?_
    obtain ⟨r5, X6, h4, hf⟩ := g_b2 hf
    refine g_cI F (As := [.ref (ad (200 + k3))]) (rest := []) (cct_freeDay h4) (cwV 1 hts gX10_free_X8_freeDay rfl rfl rfl (by decide +kernel) ⟨Nat.le_of_ble_eq_true rfl, Nat.le_of_ble_eq_true rfl⟩) hw (hw.recv (ci := 8) (q0 := 10) rfl rfl rfl) rfl hl.1 rfl (Nat.le_of_ble_eq_true rfl) dX10_free_22 (fun H locs hw => ?_)
    exact hret r5 _ _ _ _ _ (g_i1 hf) (congrArg (fun t => cw ty ad G S t wr) (g_i2 hf)) hw dX10_free_25

abbrev rm_cx_worth : Room := { frames := 6, cells := 0, slots := 0, locals := 144 }
set_option maxHeartbeats 4000000 in
set_option maxRecDepth 100000 in
theorem ccx_worth {l : Launch} {D : va_G} {ty : gT} {A : Nat → Prop} {ad : Nat → Nat} {wr : va_W} {G : Nat} {S : Nat} {x1 : Int32} {x2 : Int32} {x3 : Int32} {X : gC} {r : Int32} {σ' : gC} (hf : cx_worth G S X x1 x2 x3 = some (r, σ')) : gI l D ty A yX10_worth wsX10_worth rm_cx_worth [.ref (ad 0), .int x1, .int x2, .int x3] (cw ty ad G S X wr) r (cw ty ad G S σ' wr) := by
  refine gI_enter (cc := cX10_worth) (maxL := 7) (by decide) rfl (Nat.le_of_ble_eq_true rfl) ?_
  intro p e s m args below meth c Q ls F hl hw hret
  have F : CallFix p m c cX10_worth 7 s args wsX10_worth RX10 := F
  obtain ⟨hx, hb, hml, hown, hts⟩ := id F
  have hl : lv_has ls 7 [(0, .ref (ad 0)), (1, .int x1), (2, .int x2), (3, .int x3)] := hl
  have hinX10 : ∀ w ∈ wsX100, w ∈ wsX10_worth := by first | exact fun w h => List.mem_cons_of_mem _ (List.mem_append_left _ (List.mem_append_left _ (List.mem_append_left _ (List.mem_append_left _ (List.mem_append_left _ (List.mem_append_right _ h)))))) | decide +kernel
  have hinX8 : ∀ w ∈ wsX80, w ∈ wsX10_worth := by first | exact fun w h => List.mem_cons_of_mem _ (List.mem_append_left _ (List.mem_append_left _ (List.mem_append_left _ (List.mem_append_left _ (List.mem_append_right _ h))))) | decide +kernel
  have kf181 := hts (.fieldLink RX10 181 "GossipGate$Town" "gates" "[LGossipGate$Gate;") (by decide +kernel)
  have kf20 := hts (.fieldLink RX10 20 "GossipGate" "theTown" "LGossipGate$Town;") (by decide +kernel)
  unfold cx_worth at hf
  refine lv_aload_n hx hb dX10_worth_0 rfl (lv_at hl 0 rfl) ?_
  refine cf_get_X10_1 F hinX10 hw kf20 dX10_worth_1 ?_
  refine lv_iload_n hx hb dX10_worth_4 rfl (lv_at hl 1 rfl) ?_
  obtain ⟨r2, h1, hf⟩ := g_b1 hf
  refine g_cQ F (As := [.int x1]) (rest := []) (cct_gateAt h1) (cwV 1 hts gX10_worth_X8_gateAt rfl rfl rfl (by decide +kernel) ⟨Nat.le_of_ble_eq_true rfl, Nat.le_of_ble_eq_true rfl⟩) hw (hw.recv (ci := 8) (q0 := 10) rfl rfl rfl) rfl hl.1 rfl (Nat.le_of_ble_eq_true rfl) dX10_worth_5 (fun H locs hw => ?_)
  rcases r2 with _ | k3
  · replace hf := gN_n hf
    refine lv_astoreN (lv' := [(4, .null), (0, .ref (ad 0)), (1, .int x1), (2, .int x2), (3, .int x3)]) hx hb dX10_worth_8 hl (by decide) rfl (fun ls hl => ?_)
    refine lv_aload_n hx hb dX10_worth_10 rfl (lv_at hl 1 rfl) ?_
    refine cf_get_X10_1 F hinX10 hw kf20 dX10_worth_11 ?_
    refine lv_iload_n hx hb dX10_worth_14 rfl (lv_at hl 3 rfl) ?_
    obtain ⟨r5, h4, hf⟩ := g_b1 hf
    refine g_cQ F (As := [.int x2]) (rest := []) (cct_storyAt h4) (cwV 1 hts gX10_worth_X8_storyAt rfl rfl rfl (by decide +kernel) ⟨Nat.le_of_ble_eq_true rfl, Nat.le_of_ble_eq_true rfl⟩) hw (hw.recv (ci := 8) (q0 := 10) rfl rfl rfl) rfl hl.1 rfl (Nat.le_of_ble_eq_true rfl) dX10_worth_15 (fun H locs hw => ?_)
    rcases r5 with _ | k6
    · replace hf := gN_n hf
      refine lv_astoreN (lv' := [(5, .null), (4, .null), (0, .ref (ad 0)), (1, .int x1), (2, .int x2), (3, .int x3)]) hx hb dX10_worth_18 hl (by decide) rfl (fun ls hl => ?_)
      refine lv_aloadN hx hb dX10_worth_20 (lv_at hl 1 rfl) ?_
      refine lv_ifnullN (tgt := 30) hx hb dX10_worth_22 (by decide) ?_
      refine lv_iconst (v := (-1)) hx hb dX10_worth_30 (by decide) ?_
      exact hret (-1) _ _ _ _ _ (g_i1 hf) (congrArg (fun t => cw ty ad G S t wr) (g_i2 hf)) hw dX10_worth_31
    · replace hf := gN_s hf
      refine lv_astore (lv' := [(5, .ref (ad (200 + k6))), (4, .null), (0, .ref (ad 0)), (1, .int x1), (2, .int x2), (3, .int x3)]) hx hb dX10_worth_18 hl (by decide) rfl (fun ls hl => ?_)
      refine lv_aloadN hx hb dX10_worth_20 (lv_at hl 1 rfl) ?_
      refine lv_ifnullN (tgt := 30) hx hb dX10_worth_22 (by decide) ?_
      refine lv_iconst (v := (-1)) hx hb dX10_worth_30 (by decide) ?_
      exact hret (-1) _ _ _ _ _ (g_i1 hf) (congrArg (fun t => cw ty ad G S t wr) (g_i2 hf)) hw dX10_worth_31
  · replace hf := gN_s hf
    refine lv_astore (lv' := [(4, .ref (ad (100 + k3))), (0, .ref (ad 0)), (1, .int x1), (2, .int x2), (3, .int x3)]) hx hb dX10_worth_8 hl (by decide) rfl (fun ls hl => ?_)
    refine lv_aload_n hx hb dX10_worth_10 rfl (lv_at hl 1 rfl) ?_
    refine cf_get_X10_1 F hinX10 hw kf20 dX10_worth_11 ?_
    refine lv_iload_n hx hb dX10_worth_14 rfl (lv_at hl 3 rfl) ?_
    obtain ⟨r8, h7, hf⟩ := g_b1 hf
    refine g_cQ F (As := [.int x2]) (rest := []) (cct_storyAt h7) (cwV 1 hts gX10_worth_X8_storyAt rfl rfl rfl (by decide +kernel) ⟨Nat.le_of_ble_eq_true rfl, Nat.le_of_ble_eq_true rfl⟩) hw (hw.recv (ci := 8) (q0 := 10) rfl rfl rfl) rfl hl.1 rfl (Nat.le_of_ble_eq_true rfl) dX10_worth_15 (fun H locs hw => ?_)
    rcases r8 with _ | k9
    · replace hf := gN_n hf
      refine lv_astoreN (lv' := [(5, .null), (4, .ref (ad (100 + k3))), (0, .ref (ad 0)), (1, .int x1), (2, .int x2), (3, .int x3)]) hx hb dX10_worth_18 hl (by decide) rfl (fun ls hl => ?_)
      refine lv_aload hx hb dX10_worth_20 (lv_at hl 1 rfl) ?_
      refine lv_ifnull hx hb dX10_worth_22 ?_
      refine lv_aloadN hx hb dX10_worth_25 (lv_at hl 0 rfl) ?_
      refine lv_ifnonnullN hx hb dX10_worth_27 ?_
      refine lv_iconst (v := (-1)) hx hb dX10_worth_30 (by decide) ?_
      exact hret (-1) _ _ _ _ _ (g_i1 hf) (congrArg (fun t => cw ty ad G S t wr) (g_i2 hf)) hw dX10_worth_31
    · replace hf := gN_s hf
      refine lv_astore (lv' := [(5, .ref (ad (200 + k9))), (4, .ref (ad (100 + k3))), (0, .ref (ad 0)), (1, .int x1), (2, .int x2), (3, .int x3)]) hx hb dX10_worth_18 hl (by decide) rfl (fun ls hl => ?_)
      refine lv_aload hx hb dX10_worth_20 (lv_at hl 1 rfl) ?_
      refine lv_ifnull hx hb dX10_worth_22 ?_
      refine lv_aload hx hb dX10_worth_25 (lv_at hl 0 rfl) ?_
      refine lv_ifnonnull (tgt := 32) hx hb dX10_worth_27 (by decide) ?_
      refine lv_iload_n hx hb dX10_worth_32 rfl (lv_at hl 5 rfl) ?_
      obtain ⟨r11, h10, hf⟩ := g_b1 hf
      refine g_sI F (As := [.int x3]) (rest := []) (ccx_isDay h10) (va_cwS 1 hts gX10_worth_X10_isDay rfl rfl rfl (by decide +kernel) ⟨Nat.le_of_ble_eq_true rfl, Nat.le_of_ble_eq_true rfl⟩) hw rfl hl.1 rfl (Nat.le_of_ble_eq_true rfl) dX10_worth_33 (fun H locs hw => ?_)
      refine lv_if_ne (tgt := 42) hx hb dX10_worth_36 (by decide) (fun c12 => ?_) (fun c12 => ?_)
      · have hf := g_t (bI_nz c12) hf
        refine lv_aload_n hx hb dX10_worth_42 rfl (lv_at hl 2 rfl) ?_
        refine cf_get_X10_1 F hinX10 hw kf20 dX10_worth_43 ?_
        refine cf_get_X8_0 F hinX8 hw kf181 dX10_worth_46 ?_
        refine cf_len_11 F hw dX10_worth_49 ?_
        refine lv_iconst (v := 2) hx hb dX10_worth_50 (by decide) ?_
        refine lv_icmp_lt (tgt := 63) hx hb dX10_worth_51 (by decide) (fun c13 => ?_) (fun c13 => ?_)
        · have hf := g_t c13 hf
          refine lv_bipush (v := (-9)) hx hb dX10_worth_63 (by decide) ?_
          exact hret (-9) _ _ _ _ _ (g_i1 hf) (congrArg (fun t => cw ty ad G S t wr) (g_i2 hf)) hw dX10_worth_65
        · have hf := g_f c13 hf
          refine lv_aload hx hb dX10_worth_54 (lv_at hl 0 rfl) ?_
          refine lv_iload_n hx hb dX10_worth_56 rfl (lv_at hl 5 rfl) ?_
          obtain ⟨g15, hf⟩ := g_g hf
          obtain ⟨r16, h14, hf⟩ := g_b1 hf
          refine g_cI F (As := [.int x3]) (rest := []) (ccs_isBornBy h14) (cwV 1 hts gX10_worth_X5_isBornBy rfl rfl rfl (by decide +kernel) ⟨Nat.le_of_ble_eq_true rfl, Nat.le_of_ble_eq_true rfl⟩) hw (hw.recv (ci := 5) (q0 := G + k9 + 27) rfl rfl (cw_story g15)) rfl hl.1 rfl (Nat.le_of_ble_eq_true rfl) dX10_worth_57 (fun H locs hw => ?_)
          refine lv_if_ne (tgt := 66) hx hb dX10_worth_60 (by decide) (fun c17 => ?_) (fun c17 => ?_)
          · have hf := g_t (bI_nz c17) hf
            refine lv_aload_n hx hb dX10_worth_66 rfl (lv_at hl 2 rfl) ?_
            refine cf_get_X10_1 F hinX10 hw kf20 dX10_worth_67 ?_
            refine lv_aload hx hb dX10_worth_70 (lv_at hl 0 rfl) ?_
            refine lv_iload_n hx hb dX10_worth_72 rfl (lv_at hl 5 rfl) ?_
            refine lv_iload_n hx hb dX10_worth_73 rfl (lv_at hl 3 rfl) ?_
            obtain ⟨r19, X20, h18, hf⟩ := g_b2 hf
            refine g_cI F (As := [.ref (ad (200 + k9)), .int x3, .int x1]) (rest := []) (cct_leastKey h18) (cwV 3 hts gX10_worth_X8_leastKey rfl rfl rfl (by decide +kernel) ⟨Nat.le_of_ble_eq_true rfl, Nat.le_of_ble_eq_true rfl⟩) hw (hw.recv (ci := 8) (q0 := 10) rfl rfl rfl) rfl hl.1 rfl (Nat.le_of_ble_eq_true rfl) dX10_worth_74 (fun H locs hw => ?_)
            obtain ⟨r22, h21, hf⟩ := g_b1 hf
            refine g_sI F (As := [.int r19]) (rest := []) (cct_penceOf h21) (va_cwS 1 hts gX10_worth_X8_penceOf rfl rfl rfl (by decide +kernel) ⟨Nat.le_of_ble_eq_true rfl, Nat.le_of_ble_eq_true rfl⟩) hw rfl hl.1 rfl (Nat.le_of_ble_eq_true rfl) dX10_worth_77 (fun H locs hw => ?_)
            refine lv_istore (lv' := [(6, .int r22), (5, .ref (ad (200 + k9))), (4, .ref (ad (100 + k3))), (0, .ref (ad 0)), (1, .int x1), (2, .int x2), (3, .int x3)]) hx hb dX10_worth_80 hl (by decide) rfl (fun ls hl => ?_)
            refine lv_iload hx hb dX10_worth_82 (lv_at hl 0 rfl) ?_
            refine lv_aload_n hx hb dX10_worth_84 rfl (lv_at hl 3 rfl) ?_
            refine cf_get_X10_1 F hinX10 hw kf20 dX10_worth_85 ?_
            refine lv_aload hx hb dX10_worth_88 (lv_at hl 1 rfl) ?_
            refine lv_iload_n hx hb dX10_worth_90 rfl (lv_at hl 6 rfl) ?_
            refine lv_iconst (v := (-1)) hx hb dX10_worth_91 (by decide) ?_
            obtain ⟨r24, X25, h23, hf⟩ := g_b2 hf
            refine g_cI F (As := [.ref (ad (200 + k9)), .int x3, .int (-1)]) (rest := [.int r22]) (cct_leastKey h23) (cwV 3 hts gX10_worth_X8_leastKey rfl rfl rfl (by decide +kernel) ⟨Nat.le_of_ble_eq_true rfl, Nat.le_of_ble_eq_true rfl⟩) hw (hw.recv (ci := 8) (q0 := 10) rfl rfl rfl) rfl hl.1 rfl (Nat.le_of_ble_eq_true rfl) dX10_worth_92 (fun H locs hw => ?_)
            obtain ⟨r27, h26, hf⟩ := g_b1 hf
            refine g_sI F (As := [.int r24]) (rest := [.int r22]) (cct_penceOf h26) (va_cwS 1 hts gX10_worth_X8_penceOf rfl rfl rfl (by decide +kernel) ⟨Nat.le_of_ble_eq_true rfl, Nat.le_of_ble_eq_true rfl⟩) hw rfl hl.1 rfl (Nat.le_of_ble_eq_true rfl) dX10_worth_95 (fun H locs hw => ?_)
            refine lv_isub hx hb dX10_worth_98 ?_
            exact hret (r22 - r27) _ _ _ _ _ (g_i1 hf) (congrArg (fun t => cw ty ad G S t wr) (g_i2 hf)) hw dX10_worth_99
          · have hf := g_f (bI_z c17) hf
            refine lv_bipush (v := (-9)) hx hb dX10_worth_63 (by decide) ?_
            exact hret (-9) _ _ _ _ _ (g_i1 hf) (congrArg (fun t => cw ty ad G S t wr) (g_i2 hf)) hw dX10_worth_65
      · have hf := g_f (bI_z c12) hf
        refine lv_bipush (v := (-2)) hx hb dX10_worth_39 (by decide) ?_
        exact hret (-2) _ _ _ _ _ (g_i1 hf) (congrArg (fun t => cw ty ad G S t wr) (g_i2 hf)) hw dX10_worth_41

abbrev rm_cx_reading : Room := { frames := 1, cells := 0, slots := 0, locals := 22 }
set_option maxHeartbeats 4000000 in
set_option maxRecDepth 100000 in
theorem ccx_reading {l : Launch} {D : va_G} {ty : gT} {A : Nat → Prop} {ad : Nat → Nat} {wr : va_W} {G : Nat} {S : Nat} {x1 : Int32} {x2 : Int32} {X : gC} {r : Int32} {σ' : gC} (hf : cx_reading G S X x1 x2 = some (r, σ')) : gI l D ty A yX10_reading wsX10_reading rm_cx_reading [.ref (ad 0), .int x1, .int x2] (cw ty ad G S X wr) r (cw ty ad G S σ' wr) := by
  refine gI_enter (cc := cX10_reading) (maxL := 3) (by decide) rfl (Nat.le_of_ble_eq_true rfl) ?_
  intro p e s m args below meth c Q ls F hl hw hret
  have F : CallFix p m c cX10_reading 3 s args wsX10_reading RX10 := F
  obtain ⟨hx, hb, hml, hown, hts⟩ := id F
  have hl : lv_has ls 3 [(0, .ref (ad 0)), (1, .int x1), (2, .int x2)] := hl
  have hinX10 : ∀ w ∈ wsX100, w ∈ wsX10_reading := by first | exact fun w h => List.mem_cons_of_mem _ (List.mem_append_left _ (List.mem_append_left _ (List.mem_append_right _ h))) | decide +kernel
  have kf20 := hts (.fieldLink RX10 20 "GossipGate" "theTown" "LGossipGate$Town;") (by decide +kernel)
  have kf34 := hts (.fieldLink RX10 34 "GossipGate" "readings" "LGossipGate$Readings;") (by decide +kernel)
  unfold cx_reading at hf
  refine lv_aload_n hx hb dX10_reading_0 rfl (lv_at hl 0 rfl) ?_
  refine cf_get_X10_1 F hinX10 hw kf20 dX10_reading_1 ?_
  refine lv_iload_n hx hb dX10_reading_4 rfl (lv_at hl 1 rfl) ?_
  obtain ⟨r2, h1, hf⟩ := g_b1 hf
  refine g_cQ F (As := [.int x1]) (rest := []) (cct_gateAt h1) (cwV 1 hts gX10_reading_X8_gateAt rfl rfl rfl (by decide +kernel) ⟨Nat.le_of_ble_eq_true rfl, Nat.le_of_ble_eq_true rfl⟩) hw (hw.recv (ci := 8) (q0 := 10) rfl rfl rfl) rfl hl.1 rfl (Nat.le_of_ble_eq_true rfl) dX10_reading_5 (fun H locs hw => ?_)
  rcases r2 with _ | k3
  · replace hf := gN_n hf
    refine lv_ifnonnullN hx hb dX10_reading_8 ?_
    refine lv_iconst (v := (-1)) hx hb dX10_reading_11 (by decide) ?_
    exact hret (-1) _ _ _ _ _ (g_i1 hf) (congrArg (fun t => cw ty ad G S t wr) (g_i2 hf)) hw dX10_reading_12
  · replace hf := gN_s hf
    refine lv_ifnonnull (tgt := 13) hx hb dX10_reading_8 (by decide) ?_
    refine lv_iload_n hx hb dX10_reading_13 rfl (lv_at hl 2 rfl) ?_
    refine lv_iconst (v := 0) hx hb dX10_reading_14 (by decide) ?_
    refine lv_sipush (v := 9999) hx hb dX10_reading_15 (by decide) ?_
    obtain ⟨r5, h4, hf⟩ := g_b1 hf
    refine g_sI F (As := [.int x2, .int 0, .int 9999]) (rest := []) (ccx_isWithin h4) (va_cwS 3 hts gX10_reading_X10_isWithin rfl rfl rfl (by decide +kernel) ⟨Nat.le_of_ble_eq_true rfl, Nat.le_of_ble_eq_true rfl⟩) hw rfl hl.1 rfl (Nat.le_of_ble_eq_true rfl) dX10_reading_18 (fun H locs hw => ?_)
    refine lv_if_ne (tgt := 27) hx hb dX10_reading_21 (by decide) (fun c6 => ?_) (fun c6 => ?_)
    · have hf := g_t (bI_nz c6) hf
      refine lv_aload_n hx hb dX10_reading_27 rfl (lv_at hl 0 rfl) ?_
      refine cf_get_X10_3 F hinX10 hw kf34 dX10_reading_28 ?_
      refine lv_iload_n hx hb dX10_reading_31 rfl (lv_at hl 1 rfl) ?_
      refine lv_iload_n hx hb dX10_reading_32 rfl (lv_at hl 2 rfl) ?_
      obtain ⟨r8, X9, h7, hf⟩ := g_b2 hf
      refine g_cI F (As := [.int x1, .int x2]) (rest := []) (cfd_note h7) (cwV 2 hts gX10_reading_X2_note rfl rfl rfl (by decide +kernel) ⟨Nat.le_of_ble_eq_true rfl, Nat.le_of_ble_eq_true rfl⟩) hw (hw.recv (ci := 2) (q0 := 23) rfl rfl rfl) rfl hl.1 rfl (Nat.le_of_ble_eq_true rfl) dX10_reading_33 (fun H locs hw => ?_)
      obtain ⟨X10, eX10, hf⟩ := g_let hf
      have hw := cw_re eX10 hw
      exact hret r8 _ _ _ _ _ (g_i1 hf) (congrArg (fun t => cw ty ad G S t wr) (g_i2 hf)) hw dX10_reading_36
    · have hf := g_f (bI_z c6) hf
      refine lv_bipush (v := (-2)) hx hb dX10_reading_24 (by decide) ?_
      exact hret (-2) _ _ _ _ _ (g_i1 hf) (congrArg (fun t => cw ty ad G S t wr) (g_i2 hf)) hw dX10_reading_26

abbrev rm_cx_back : Room := { frames := 1, cells := 0, slots := 0, locals := 22 }
set_option maxHeartbeats 4000000 in
set_option maxRecDepth 100000 in
theorem ccx_back {l : Launch} {D : va_G} {ty : gT} {A : Nat → Prop} {ad : Nat → Nat} {wr : va_W} {G : Nat} {S : Nat} {x1 : Int32} {X : gC} {r : Int32} {σ' : gC} (hf : cx_back G S X x1 = some (r, σ')) : gI l D ty A yX10_back wsX10_back rm_cx_back [.ref (ad 0), .int x1] (cw ty ad G S X wr) r (cw ty ad G S σ' wr) := by
  refine gI_enter (cc := cX10_back) (maxL := 2) (by decide) rfl (Nat.le_of_ble_eq_true rfl) ?_
  intro p e s m args below meth c Q ls F hl hw hret
  have F : CallFix p m c cX10_back 2 s args wsX10_back RX10 := F
  obtain ⟨hx, hb, hml, hown, hts⟩ := id F
  have hl : lv_has ls 2 [(0, .ref (ad 0)), (1, .int x1)] := hl
  have hinX10 : ∀ w ∈ wsX100, w ∈ wsX10_back := by first | exact fun w h => List.mem_cons_of_mem _ (List.mem_append_left _ (List.mem_append_right _ h)) | decide +kernel
  have hinX2 : ∀ w ∈ wsX20, w ∈ wsX10_back := by first | exact fun w h => List.mem_cons_of_mem _ (List.mem_append_right _ h) | decide +kernel
  have kf34 := hts (.fieldLink RX10 34 "GossipGate" "readings" "LGossipGate$Readings;") (by decide +kernel)
  have kf82 := hts (.fieldLink RX10 82 "GossipGate$Readings" "count" "I") (by decide +kernel)
  unfold cx_back at hf
  refine lv_iload_n hx hb dX10_back_0 rfl (lv_at hl 1 rfl) ?_
  refine lv_iconst (v := 0) hx hb dX10_back_1 (by decide) ?_
  refine lv_aload_n hx hb dX10_back_2 rfl (lv_at hl 0 rfl) ?_
  refine cf_get_X10_3 F hinX10 hw kf34 dX10_back_3 ?_
  refine cf_get_X2_2 F hinX2 hw kf82 dX10_back_6 ?_
  obtain ⟨r2, h1, hf⟩ := g_b1 hf
  refine g_sI F (As := [.int x1, .int 0, .int (X.1.1 5)]) (rest := []) (ccx_isWithin h1) (va_cwS 3 hts gX10_back_X10_isWithin rfl rfl rfl (by decide +kernel) ⟨Nat.le_of_ble_eq_true rfl, Nat.le_of_ble_eq_true rfl⟩) hw rfl hl.1 rfl (Nat.le_of_ble_eq_true rfl) dX10_back_9 (fun H locs hw => ?_)
  refine lv_if_ne (tgt := 18) hx hb dX10_back_12 (by decide) (fun c3 => ?_) (fun c3 => ?_)
  · have hf := g_t (bI_nz c3) hf
    refine lv_aload_n hx hb dX10_back_18 rfl (lv_at hl 0 rfl) ?_
    refine cf_get_X10_3 F hinX10 hw kf34 dX10_back_19 ?_
    refine lv_dup hx hb dX10_back_22 rfl ?_
    refine cf_get_X2_2 F hinX2 hw kf82 dX10_back_23 ?_
    refine lv_iload_n hx hb dX10_back_26 rfl (lv_at hl 1 rfl) ?_
    refine lv_isub hx hb dX10_back_27 ?_
    refine cf_put_X2_2 F hinX2 hw kf82 dX10_back_28 (fun H locs hw => ?_)
    obtain ⟨X4, eX4, hf⟩ := g_let hf
    have hw := cw_re eX4 hw
    refine lv_aload_n hx hb dX10_back_31 rfl (lv_at hl 0 rfl) ?_
    refine cf_get_X10_3 F hinX10 hw kf34 dX10_back_32 ?_
    refine cf_get_X2_2 F hinX2 hw kf82 dX10_back_35 ?_
    exact hret (X4.1.1 5) _ _ _ _ _ (g_i1 hf) (congrArg (fun t => cw ty ad G S t wr) (g_i2 hf)) hw dX10_back_38
  · have hf := g_f (bI_z c3) hf
    refine lv_bipush (v := (-2)) hx hb dX10_back_15 (by decide) ?_
    exact hret (-2) _ _ _ _ _ (g_i1 hf) (congrArg (fun t => cw ty ad G S t wr) (g_i2 hf)) hw dX10_back_17

abbrev rm_cx_bitIfSo : Room := { frames := 4, cells := 0, slots := 0, locals := 93 }
set_option maxHeartbeats 4000000 in
set_option maxRecDepth 100000 in
theorem ccx_bitIfSo {l : Launch} {D : va_G} {ty : gT} {A : Nat → Prop} {ad : Nat → Nat} {wr : va_W} {G : Nat} {S : Nat} {x1 : Int32} {X : gC} {r : Int32} {σ' : gC} (hf : cx_bitIfSo G S X x1 = some (r, σ')) : gI l D ty A yX10_bitIfSo wsX10_bitIfSo rm_cx_bitIfSo [.ref (ad 0), .int x1] (cw ty ad G S X wr) r (cw ty ad G S σ' wr) := by
  refine gI_enter (cc := cX10_bitIfSo) (maxL := 3) (by decide) rfl (Nat.le_of_ble_eq_true rfl) ?_
  intro p e s m args below meth c Q ls F hl hw hret
  have F : CallFix p m c cX10_bitIfSo 3 s args wsX10_bitIfSo RX10 := F
  obtain ⟨hx, hb, hml, hown, hts⟩ := id F
  have hl : lv_has ls 3 [(0, .ref (ad 0)), (1, .int x1)] := hl
  have hinX10 : ∀ w ∈ wsX100, w ∈ wsX10_bitIfSo := by first | exact fun w h => List.mem_cons_of_mem _ (List.mem_append_left _ (List.mem_append_left _ (List.mem_append_left _ (List.mem_append_left _ (List.mem_append_left _ (List.mem_append_left _ (List.mem_append_left _ (List.mem_append_right _ h)))))))) | decide +kernel
  have hinX2 : ∀ w ∈ wsX20, w ∈ wsX10_bitIfSo := by first | exact fun w h => List.mem_cons_of_mem _ (List.mem_append_left _ (List.mem_append_left _ (List.mem_append_left _ (List.mem_append_left _ (List.mem_append_left _ (List.mem_append_right _ h)))))) | decide +kernel
  have hinX3 : ∀ w ∈ wsX30, w ∈ wsX10_bitIfSo := by first | exact fun w h => List.mem_cons_of_mem _ (List.mem_append_left _ (List.mem_append_left _ (List.mem_append_left _ (List.mem_append_left _ (List.mem_append_left _ (List.mem_append_left _ (List.mem_append_right _ h))))))) | decide +kernel
  have kf150 := hts (.fieldLink RX10 150 "GossipGate$Route" "firstWrong" "I") (by decide +kernel)
  have kf20 := hts (.fieldLink RX10 20 "GossipGate" "theTown" "LGossipGate$Town;") (by decide +kernel)
  have kf259 := hts (.fieldLink RX10 259 "GossipGate$Readings" "gates" "[I") (by decide +kernel)
  have kf261 := hts (.fieldLink RX10 261 "GossipGate$Readings" "pence" "[I") (by decide +kernel)
  have kf27 := hts (.fieldLink RX10 27 "GossipGate" "route" "LGossipGate$Route;") (by decide +kernel)
  have kf34 := hts (.fieldLink RX10 34 "GossipGate" "readings" "LGossipGate$Readings;") (by decide +kernel)
  have kf82 := hts (.fieldLink RX10 82 "GossipGate$Readings" "count" "I") (by decide +kernel)
  have B27 : ∀ (n27 : Nat) (v1 : Int32) (v2 : Int32) (X : gC) (H : Heap) (locs : List Loc) (ls : Array Slot), lv_has ls 3 [(0, .ref (ad 0)), (1, .int v1), (2, .int v2)] → gW D ty A (cw ty ad G S X wr) s s.heap H locs → cx_bitIfSo_b27 G S n27 v1 v2 X = some (r, σ') → W p l e rm_cx_bitIfSo s m args below meth c H locs 0 0 Q (F0 m 27 ls []) := by
    intro n27
    induction n27 with
    | zero => intro v1 v2 X H locs ls hl hw hf; cases hf
    | succ n27 ih27 =>
      intro v1 v2 X H locs ls hl hw hf
      rw [cx_bitIfSo_b27] at hf
      refine lv_iload_n hx hb dX10_bitIfSo_27 rfl (lv_at hl 2 rfl) ?_
      refine lv_aload_n hx hb dX10_bitIfSo_28 rfl (lv_at hl 0 rfl) ?_
      refine cf_get_X10_3 F hinX10 hw kf34 dX10_bitIfSo_29 ?_
      refine cf_get_X2_2 F hinX2 hw kf82 dX10_bitIfSo_32 ?_
      refine lv_icmp_ge (tgt := 74) hx hb dX10_bitIfSo_35 (by decide) (fun c1 => ?_) (fun c1 => ?_)
      · have hf := g_t c1 hf
        refine lv_iconst (v := 1) hx hb dX10_bitIfSo_74 (by decide) ?_
        refine lv_iload_n hx hb dX10_bitIfSo_75 rfl (lv_at hl 1 rfl) ?_
        refine lv_ishl hx hb dX10_bitIfSo_76 ?_
        exact hret ((1 : Int32) <<< (v1 &&& 31)) _ _ _ _ _ (g_i1 hf) (congrArg (fun t => cw ty ad G S t wr) (g_i2 hf)) hw dX10_bitIfSo_77
      · have hf := g_f c1 hf
        refine lv_aload_n hx hb dX10_bitIfSo_38 rfl (lv_at hl 0 rfl) ?_
        refine cf_get_X10_1 F hinX10 hw kf20 dX10_bitIfSo_39 ?_
        refine lv_aload_n hx hb dX10_bitIfSo_42 rfl (lv_at hl 0 rfl) ?_
        refine cf_get_X10_3 F hinX10 hw kf34 dX10_bitIfSo_43 ?_
        refine cf_get_X2_0 F hinX2 hw kf259 dX10_bitIfSo_46 ?_
        refine lv_iload_n hx hb dX10_bitIfSo_49 rfl (lv_at hl 2 rfl) ?_
        obtain ⟨g2, hf⟩ := g_g hf
        refine cf_ld_24 F hw g2 dX10_bitIfSo_50 ?_
        obtain ⟨r4, h3, hf⟩ := g_b1 hf
        refine g_cI F (As := [.int (X.1.2 15 v2.toNatClampNeg)]) (rest := []) (cct_takenAt h3) (cwV 1 hts gX10_bitIfSo_X8_takenAt rfl rfl rfl (by decide +kernel) ⟨Nat.le_of_ble_eq_true rfl, Nat.le_of_ble_eq_true rfl⟩) hw (hw.recv (ci := 8) (q0 := 10) rfl rfl rfl) rfl hl.1 rfl (Nat.le_of_ble_eq_true rfl) dX10_bitIfSo_51 (fun H locs hw => ?_)
        refine lv_aload_n hx hb dX10_bitIfSo_54 rfl (lv_at hl 0 rfl) ?_
        refine cf_get_X10_3 F hinX10 hw kf34 dX10_bitIfSo_55 ?_
        refine cf_get_X2_1 F hinX2 hw kf261 dX10_bitIfSo_58 ?_
        refine lv_iload_n hx hb dX10_bitIfSo_61 rfl (lv_at hl 2 rfl) ?_
        refine cf_ld_25 F hw g2 dX10_bitIfSo_62 ?_
        refine lv_icmp_eq (tgt := 68) hx hb dX10_bitIfSo_63 (by decide) (fun c5 => ?_) (fun c5 => ?_)
        · have hf := g_t c5 hf
          refine lv_iinc (v := v2 + 1) (lv' := [(2, .int (v2 + 1)), (0, .ref (ad 0)), (1, .int v1)]) hx hb dX10_bitIfSo_68 hl (k := 2) rfl rfl (by decide) rfl (fun ls hl => ?_)
          refine lv_goto (tgt := 27) hx hb dX10_bitIfSo_71 (by decide) ?_
          exact ih27 v1 (v2 + 1) X _ _ _ (lv_sub hl [1, 2, 0] rfl) hw hf
        · have hf := g_f c5 hf
          refine lv_iconst (v := 0) hx hb dX10_bitIfSo_66 (by decide) ?_
          exact hret 0 _ _ _ _ _ (g_i1 hf) (congrArg (fun t => cw ty ad G S t wr) (g_i2 hf)) hw dX10_bitIfSo_67
  unfold cx_bitIfSo at hf
  refine lv_aload_n hx hb dX10_bitIfSo_0 rfl (lv_at hl 0 rfl) ?_
  refine cf_get_X10_2 F hinX10 hw kf27 dX10_bitIfSo_1 ?_
  refine cf_get_X3_5 F hinX3 hw kf150 dX10_bitIfSo_4 ?_
  refine lv_bipush (v := (-9)) hx hb dX10_bitIfSo_7 (by decide) ?_
  refine lv_icmp_eq (tgt := 14) hx hb dX10_bitIfSo_9 (by decide) (fun c6 => ?_) (fun c6 => ?_)
  · have hf := g_t c6 hf
    refine lv_aload_n hx hb dX10_bitIfSo_14 rfl (lv_at hl 0 rfl) ?_
    refine cf_get_X10_1 F hinX10 hw kf20 dX10_bitIfSo_15 ?_
    refine lv_aload_n hx hb dX10_bitIfSo_18 rfl (lv_at hl 0 rfl) ?_
    refine cf_get_X10_2 F hinX10 hw kf27 dX10_bitIfSo_19 ?_
    obtain ⟨r8, X9, h7, hf⟩ := g_b2 hf
    refine g_cV F (As := [.ref (ad 16)]) (rest := []) (cct_collect h7) (cwV 1 hts gX10_bitIfSo_X8_collect rfl rfl rfl (by decide +kernel) ⟨Nat.le_of_ble_eq_true rfl, Nat.le_of_ble_eq_true rfl⟩) hw (hw.recv (ci := 8) (q0 := 10) rfl rfl rfl) rfl hl.1 rfl (Nat.le_of_ble_eq_true rfl) dX10_bitIfSo_22 (fun H locs hw => ?_)
    refine lv_iconst (v := 0) hx hb dX10_bitIfSo_25 (by decide) ?_
    refine lv_istore_n (lv' := [(2, .int 0), (0, .ref (ad 0)), (1, .int x1)]) hx hb dX10_bitIfSo_26 rfl hl (by decide) rfl (fun ls hl => ?_)
    exact B27 1000 x1 0 X9 _ _ _ (lv_sub hl [1, 2, 0] rfl) hw hf
  · have hf := g_f c6 hf
    refine lv_iconst (v := 0) hx hb dX10_bitIfSo_12 (by decide) ?_
    exact hret 0 _ _ _ _ _ (g_i1 hf) (congrArg (fun t => cw ty ad G S t wr) (g_i2 hf)) hw dX10_bitIfSo_13
