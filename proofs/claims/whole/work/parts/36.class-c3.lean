abbrev rm_cx_sizes : Room := { frames := 5, cells := 0, slots := 0, locals := 115 }
set_option maxHeartbeats 4000000 in
set_option maxRecDepth 100000 in
theorem ccx_sizes {l : Launch} {D : va_G} {ty : gT} {A : Nat → Prop} {ad : Nat → Nat} {wr : va_W} {G : Nat} {S : Nat} {x1 : Int32} {x2 : Int32} {x3 : Int32} {x4 : Int32} {x5 : Int32} {X : gC} {r : Int32} {σ' : gC} (hf : cx_sizes G S X x1 x2 x3 x4 x5 = some (r, σ')) : gI l D ty A yX10_sizes wsX10_sizes rm_cx_sizes [.ref (ad 0), .int x1, .int x2, .int x3, .int x4, .int x5] (cw ty ad G S X wr) r (cw ty ad G S σ' wr) := by
  refine gI_enter (cc := cX10_sizes) (maxL := 11) (by decide) rfl (Nat.le_of_ble_eq_true rfl) ?_
  intro p e s m args below meth c Q ls F hl hw hret
  have F : CallFix p m c cX10_sizes 11 s args wsX10_sizes RX10 := F
  obtain ⟨hx, hb, hml, hown, hts⟩ := id F
  have hl : lv_has ls 11 [(0, .ref (ad 0)), (1, .int x1), (2, .int x2), (3, .int x3), (4, .int x4), (5, .int x5)] := hl
  have hinX10 : ∀ w ∈ wsX100, w ∈ wsX10_sizes := by first | exact fun w h => List.mem_cons_of_mem _ (List.mem_append_left _ (List.mem_append_left _ (List.mem_append_left _ (List.mem_append_left _ (List.mem_append_left _ (List.mem_append_left _ (List.mem_append_left _ (List.mem_append_left _ (List.mem_append_right _ h))))))))) | decide +kernel
  have hinX5 : ∀ w ∈ wsX50, w ∈ wsX10_sizes := by first | exact fun w h => List.mem_cons_of_mem _ (List.mem_append_left _ (List.mem_append_left _ (List.mem_append_left _ (List.mem_append_left _ (List.mem_append_left _ (List.mem_append_left _ (List.mem_append_left _ (List.mem_append_right _ h)))))))) | decide +kernel
  have kf108 := hts (.fieldLink RX10 108 "GossipGate$Story" "large" "I") (by decide +kernel)
  have kf20 := hts (.fieldLink RX10 20 "GossipGate" "theTown" "LGossipGate$Town;") (by decide +kernel)
  have kf45 := hts (.fieldLink RX10 45 "GossipGate" "latestFault" "I") (by decide +kernel)
  have B55 : ∀ (n55 : Nat) (v6 : Nat) (v8 : Int32) (v9 : Int32) (v10 : Int32) (X : gC) (H : Heap) (locs : List Loc) (ls : Array Slot), lv_has ls 11 [(0, .ref (ad 0)), (6, .ref (ad (200 + v6))), (8, .int v8), (9, .int v9), (10, .int v10)] → gW D ty A (cw ty ad G S X wr) s s.heap H locs → cx_sizes_b55 G S n55 v6 v8 v9 v10 X = some (r, σ') → W p l e rm_cx_sizes s m args below meth c H locs 0 0 Q (F0 m 55 ls []) := by
    intro n55
    induction n55 with
    | zero => intro v6 v8 v9 v10 X H locs ls hl hw hf; cases hf
    | succ n55 ih55 =>
      intro v6 v8 v9 v10 X H locs ls hl hw hf
      rw [cx_sizes_b55] at hf
      refine lv_iload hx hb dX10_sizes_55 (lv_at hl 4 rfl) ?_
      refine lv_bipush (v := 9) hx hb dX10_sizes_57 (by decide) ?_
      refine lv_icmp_gt (tgt := 86) hx hb dX10_sizes_59 (by decide) (fun c1 => ?_) (fun c1 => ?_)
      · have hf := g_t c1 hf
        refine lv_aload hx hb dX10_sizes_86 (lv_at hl 1 rfl) ?_
        refine lv_iload hx hb dX10_sizes_88 (lv_at hl 2 rfl) ?_
        obtain ⟨g2, hf⟩ := g_g hf
        refine cw_story_put_0 F hinX5 hw g2 kf108 dX10_sizes_90 (fun H locs hw => ?_)
        obtain ⟨X3, eX3, hf⟩ := g_let hf
        have hw := cw_re eX3 hw
        refine lv_iload hx hb dX10_sizes_93 (lv_at hl 3 rfl) ?_
        exact hret v9 _ _ _ _ _ (g_i1 hf) (congrArg (fun t => cw ty ad G S t wr) (g_i2 hf)) hw dX10_sizes_95
      · have hf := g_f c1 hf
        refine lv_aload hx hb dX10_sizes_62 (lv_at hl 1 rfl) ?_
        refine lv_iload hx hb dX10_sizes_64 (lv_at hl 4 rfl) ?_
        obtain ⟨g4, hf⟩ := g_g hf
        refine cw_story_put_0 F hinX5 hw g4 kf108 dX10_sizes_66 (fun H locs hw => ?_)
        obtain ⟨X5, eX5, hf⟩ := g_let hf
        have hw := cw_re eX5 hw
        refine lv_iload hx hb dX10_sizes_69 (lv_at hl 3 rfl) ?_
        refine lv_aload_n hx hb dX10_sizes_71 rfl (lv_at hl 0 rfl) ?_
        refine lv_iload hx hb dX10_sizes_72 (lv_at hl 4 rfl) ?_
        obtain ⟨r7, X8, h6, hf⟩ := g_b2 hf
        refine g_cI F (As := [.int v10]) (rest := [.int v9]) (ccx_bitIfSo h6) (cwV 1 hts gX10_sizes_X10_bitIfSo rfl rfl rfl (by decide +kernel) ⟨Nat.le_of_ble_eq_true rfl, Nat.le_of_ble_eq_true rfl⟩) hw (hw.recv (ci := 10) (q0 := 0) rfl rfl rfl) rfl hl.1 rfl (Nat.le_of_ble_eq_true rfl) dX10_sizes_74 (fun H locs hw => ?_)
        refine lv_ior hx hb dX10_sizes_77 ?_
        refine lv_istore (lv' := [(9, .int (v9 ||| r7)), (0, .ref (ad 0)), (6, .ref (ad (200 + v6))), (8, .int v8), (10, .int v10)]) hx hb dX10_sizes_78 hl (by decide) rfl (fun ls hl => ?_)
        refine lv_iinc (v := v10 + 1) (lv' := [(10, .int (v10 + 1)), (9, .int (v9 ||| r7)), (0, .ref (ad 0)), (6, .ref (ad (200 + v6))), (8, .int v8)]) hx hb dX10_sizes_80 hl (k := 4) rfl rfl (by decide) rfl (fun ls hl => ?_)
        refine lv_goto (tgt := 55) hx hb dX10_sizes_83 (by decide) ?_
        exact ih55 v6 v8 (v9 ||| r7) (v10 + 1) X8 _ _ _ (lv_sub hl [2, 3, 4, 1, 0] rfl) hw hf
  unfold cx_sizes at hf
  refine lv_aload_n hx hb dX10_sizes_0 rfl (lv_at hl 0 rfl) ?_
  refine lv_iconst (v := 0) hx hb dX10_sizes_1 (by decide) ?_
  refine cf_put_X10_5 F hinX10 hw kf45 dX10_sizes_2 (fun H locs hw => ?_)
  obtain ⟨X9, eX9, hf⟩ := g_let hf
  have hw := cw_re eX9 hw
  refine lv_aload_n hx hb dX10_sizes_5 rfl (lv_at hl 0 rfl) ?_
  refine cf_get_X10_1 F hinX10 hw kf20 dX10_sizes_6 ?_
  refine lv_iload_n hx hb dX10_sizes_9 rfl (lv_at hl 1 rfl) ?_
  obtain ⟨r11, h10, hf⟩ := g_b1 hf
  refine g_cQ F (As := [.int x1]) (rest := []) (cct_storyAt h10) (cwV 1 hts gX10_sizes_X8_storyAt rfl rfl rfl (by decide +kernel) ⟨Nat.le_of_ble_eq_true rfl, Nat.le_of_ble_eq_true rfl⟩) hw (hw.recv (ci := 8) (q0 := 10) rfl rfl rfl) rfl hl.1 rfl (Nat.le_of_ble_eq_true rfl) dX10_sizes_10 (fun H locs hw => ?_)
  rcases r11 with _ | k12
  · replace hf := gN_n hf
    refine lv_astoreN (lv' := [(6, .null), (0, .ref (ad 0)), (1, .int x1), (2, .int x2), (3, .int x3), (4, .int x4), (5, .int x5)]) hx hb dX10_sizes_13 hl (by decide) rfl (fun ls hl => ?_)
    refine lv_aloadN hx hb dX10_sizes_15 (lv_at hl 0 rfl) ?_
    refine lv_ifnonnullN hx hb dX10_sizes_17 ?_
    refine lv_iconst (v := (-1)) hx hb dX10_sizes_20 (by decide) ?_
    exact hret (-1) _ _ _ _ _ (g_i1 hf) (congrArg (fun t => cw ty ad G S t wr) (g_i2 hf)) hw dX10_sizes_21
  · replace hf := gN_s hf
    refine lv_astore (lv' := [(6, .ref (ad (200 + k12))), (0, .ref (ad 0)), (1, .int x1), (2, .int x2), (3, .int x3), (4, .int x4), (5, .int x5)]) hx hb dX10_sizes_13 hl (by decide) rfl (fun ls hl => ?_)
    refine lv_aload hx hb dX10_sizes_15 (lv_at hl 0 rfl) ?_
    refine lv_ifnonnull (tgt := 22) hx hb dX10_sizes_17 (by decide) ?_
    refine lv_aload_n hx hb dX10_sizes_22 rfl (lv_at hl 1 rfl) ?_
    refine lv_iload_n hx hb dX10_sizes_23 rfl (lv_at hl 3 rfl) ?_
    refine lv_iload_n hx hb dX10_sizes_24 rfl (lv_at hl 4 rfl) ?_
    refine lv_iload hx hb dX10_sizes_25 (lv_at hl 5 rfl) ?_
    refine lv_iload hx hb dX10_sizes_27 (lv_at hl 6 rfl) ?_
    obtain ⟨r14, X15, h13, hf⟩ := g_b2 hf
    refine g_cI F (As := [.int x2, .int x3, .int x4, .int x5]) (rest := []) (ccx_readRoute h13) (cwV 4 hts gX10_sizes_X10_readRoute rfl rfl rfl (by decide +kernel) ⟨Nat.le_of_ble_eq_true rfl, Nat.le_of_ble_eq_true rfl⟩) hw (hw.recv (ci := 10) (q0 := 0) rfl rfl rfl) rfl hl.1 rfl (Nat.le_of_ble_eq_true rfl) dX10_sizes_29 (fun H locs hw => ?_)
    refine lv_istore (lv' := [(7, .int r14), (6, .ref (ad (200 + k12))), (0, .ref (ad 0)), (1, .int x1), (2, .int x2), (3, .int x3), (4, .int x4), (5, .int x5)]) hx hb dX10_sizes_32 hl (by decide) rfl (fun ls hl => ?_)
    refine lv_iload hx hb dX10_sizes_34 (lv_at hl 0 rfl) ?_
    refine lv_if_ge (tgt := 42) hx hb dX10_sizes_36 (by decide) (fun c16 => ?_) (fun c16 => ?_)
    · have hf := g_t c16 hf
      refine lv_aload hx hb dX10_sizes_42 (lv_at hl 1 rfl) ?_
      obtain ⟨g17, hf⟩ := g_g hf
      refine cw_story_get_0 F hinX5 hw g17 kf108 dX10_sizes_44 ?_
      refine lv_istore (lv' := [(8, .int (X15.2.2 3 k12)), (7, .int r14), (6, .ref (ad (200 + k12))), (0, .ref (ad 0)), (1, .int x1), (2, .int x2), (3, .int x3), (4, .int x4), (5, .int x5)]) hx hb dX10_sizes_47 hl (by decide) rfl (fun ls hl => ?_)
      refine lv_iconst (v := 0) hx hb dX10_sizes_49 (by decide) ?_
      refine lv_istore (lv' := [(9, .int 0), (8, .int (X15.2.2 3 k12)), (7, .int r14), (6, .ref (ad (200 + k12))), (0, .ref (ad 0)), (1, .int x1), (2, .int x2), (3, .int x3), (4, .int x4), (5, .int x5)]) hx hb dX10_sizes_50 hl (by decide) rfl (fun ls hl => ?_)
      refine lv_iconst (v := 1) hx hb dX10_sizes_52 (by decide) ?_
      refine lv_istore (lv' := [(10, .int 1), (9, .int 0), (8, .int (X15.2.2 3 k12)), (7, .int r14), (6, .ref (ad (200 + k12))), (0, .ref (ad 0)), (1, .int x1), (2, .int x2), (3, .int x3), (4, .int x4), (5, .int x5)]) hx hb dX10_sizes_53 hl (by decide) rfl (fun ls hl => ?_)
      exact B55 1000 k12 (X15.2.2 3 k12) 0 1 X15 _ _ _ (lv_sub hl [5, 4, 2, 1, 0] rfl) hw hf
    · have hf := g_f c16 hf
      refine lv_iload hx hb dX10_sizes_39 (lv_at hl 0 rfl) ?_
      exact hret r14 _ _ _ _ _ (g_i1 hf) (congrArg (fun t => cw ty ad G S t wr) (g_i2 hf)) hw dX10_sizes_41

abbrev rm_cx_persons : Room := { frames := 5, cells := 0, slots := 0, locals := 115 }
set_option maxHeartbeats 4000000 in
set_option maxRecDepth 100000 in
theorem ccx_persons {l : Launch} {D : va_G} {ty : gT} {A : Nat → Prop} {ad : Nat → Nat} {wr : va_W} {G : Nat} {S : Nat} {x1 : Int32} {x2 : Int32} {x3 : Int32} {x4 : Int32} {x5 : Int32} {X : gC} {r : Int32} {σ' : gC} (hf : cx_persons G S X x1 x2 x3 x4 x5 = some (r, σ')) : gI l D ty A yX10_persons wsX10_persons rm_cx_persons [.ref (ad 0), .int x1, .int x2, .int x3, .int x4, .int x5] (cw ty ad G S X wr) r (cw ty ad G S σ' wr) := by
  refine gI_enter (cc := cX10_persons) (maxL := 11) (by decide) rfl (Nat.le_of_ble_eq_true rfl) ?_
  intro p e s m args below meth c Q ls F hl hw hret
  have F : CallFix p m c cX10_persons 11 s args wsX10_persons RX10 := F
  obtain ⟨hx, hb, hml, hown, hts⟩ := id F
  have hl : lv_has ls 11 [(0, .ref (ad 0)), (1, .int x1), (2, .int x2), (3, .int x3), (4, .int x4), (5, .int x5)] := hl
  have hinX10 : ∀ w ∈ wsX100, w ∈ wsX10_persons := by first | exact fun w h => List.mem_cons_of_mem _ (List.mem_append_left _ (List.mem_append_left _ (List.mem_append_left _ (List.mem_append_left _ (List.mem_append_left _ (List.mem_append_left _ (List.mem_append_left _ (List.mem_append_left _ (List.mem_append_right _ h))))))))) | decide +kernel
  have hinX5 : ∀ w ∈ wsX50, w ∈ wsX10_persons := by first | exact fun w h => List.mem_cons_of_mem _ (List.mem_append_left _ (List.mem_append_left _ (List.mem_append_left _ (List.mem_append_left _ (List.mem_append_left _ (List.mem_append_left _ (List.mem_append_left _ (List.mem_append_right _ h)))))))) | decide +kernel
  have kf113 := hts (.fieldLink RX10 113 "GossipGate$Story" "person" "I") (by decide +kernel)
  have kf20 := hts (.fieldLink RX10 20 "GossipGate" "theTown" "LGossipGate$Town;") (by decide +kernel)
  have kf45 := hts (.fieldLink RX10 45 "GossipGate" "latestFault" "I") (by decide +kernel)
  have B55 : ∀ (n55 : Nat) (v6 : Nat) (v8 : Int32) (v9 : Int32) (v10 : Int32) (X : gC) (H : Heap) (locs : List Loc) (ls : Array Slot), lv_has ls 11 [(0, .ref (ad 0)), (6, .ref (ad (200 + v6))), (8, .int v8), (9, .int v9), (10, .int v10)] → gW D ty A (cw ty ad G S X wr) s s.heap H locs → cx_persons_b55 G S n55 v6 v8 v9 v10 X = some (r, σ') → W p l e rm_cx_persons s m args below meth c H locs 0 0 Q (F0 m 55 ls []) := by
    intro n55
    induction n55 with
    | zero => intro v6 v8 v9 v10 X H locs ls hl hw hf; cases hf
    | succ n55 ih55 =>
      intro v6 v8 v9 v10 X H locs ls hl hw hf
      rw [cx_persons_b55] at hf
      refine lv_iload hx hb dX10_persons_55 (lv_at hl 4 rfl) ?_
      refine lv_iconst (v := 5) hx hb dX10_persons_57 (by decide) ?_
      refine lv_icmp_gt (tgt := 85) hx hb dX10_persons_58 (by decide) (fun c1 => ?_) (fun c1 => ?_)
      · have hf := g_t c1 hf
        refine lv_aload hx hb dX10_persons_85 (lv_at hl 1 rfl) ?_
        refine lv_iload hx hb dX10_persons_87 (lv_at hl 2 rfl) ?_
        obtain ⟨g2, hf⟩ := g_g hf
        refine cw_story_put_1 F hinX5 hw g2 kf113 dX10_persons_89 (fun H locs hw => ?_)
        obtain ⟨X3, eX3, hf⟩ := g_let hf
        have hw := cw_re eX3 hw
        refine lv_iload hx hb dX10_persons_92 (lv_at hl 3 rfl) ?_
        exact hret v9 _ _ _ _ _ (g_i1 hf) (congrArg (fun t => cw ty ad G S t wr) (g_i2 hf)) hw dX10_persons_94
      · have hf := g_f c1 hf
        refine lv_aload hx hb dX10_persons_61 (lv_at hl 1 rfl) ?_
        refine lv_iload hx hb dX10_persons_63 (lv_at hl 4 rfl) ?_
        obtain ⟨g4, hf⟩ := g_g hf
        refine cw_story_put_1 F hinX5 hw g4 kf113 dX10_persons_65 (fun H locs hw => ?_)
        obtain ⟨X5, eX5, hf⟩ := g_let hf
        have hw := cw_re eX5 hw
        refine lv_iload hx hb dX10_persons_68 (lv_at hl 3 rfl) ?_
        refine lv_aload_n hx hb dX10_persons_70 rfl (lv_at hl 0 rfl) ?_
        refine lv_iload hx hb dX10_persons_71 (lv_at hl 4 rfl) ?_
        obtain ⟨r7, X8, h6, hf⟩ := g_b2 hf
        refine g_cI F (As := [.int v10]) (rest := [.int v9]) (ccx_bitIfSo h6) (cwV 1 hts gX10_persons_X10_bitIfSo rfl rfl rfl (by decide +kernel) ⟨Nat.le_of_ble_eq_true rfl, Nat.le_of_ble_eq_true rfl⟩) hw (hw.recv (ci := 10) (q0 := 0) rfl rfl rfl) rfl hl.1 rfl (Nat.le_of_ble_eq_true rfl) dX10_persons_73 (fun H locs hw => ?_)
        refine lv_ior hx hb dX10_persons_76 ?_
        refine lv_istore (lv' := [(9, .int (v9 ||| r7)), (0, .ref (ad 0)), (6, .ref (ad (200 + v6))), (8, .int v8), (10, .int v10)]) hx hb dX10_persons_77 hl (by decide) rfl (fun ls hl => ?_)
        refine lv_iinc (v := v10 + 1) (lv' := [(10, .int (v10 + 1)), (9, .int (v9 ||| r7)), (0, .ref (ad 0)), (6, .ref (ad (200 + v6))), (8, .int v8)]) hx hb dX10_persons_79 hl (k := 4) rfl rfl (by decide) rfl (fun ls hl => ?_)
        refine lv_goto (tgt := 55) hx hb dX10_persons_82 (by decide) ?_
        exact ih55 v6 v8 (v9 ||| r7) (v10 + 1) X8 _ _ _ (lv_sub hl [2, 3, 4, 1, 0] rfl) hw hf
  unfold cx_persons at hf
  refine lv_aload_n hx hb dX10_persons_0 rfl (lv_at hl 0 rfl) ?_
  refine lv_iconst (v := 0) hx hb dX10_persons_1 (by decide) ?_
  refine cf_put_X10_5 F hinX10 hw kf45 dX10_persons_2 (fun H locs hw => ?_)
  obtain ⟨X9, eX9, hf⟩ := g_let hf
  have hw := cw_re eX9 hw
  refine lv_aload_n hx hb dX10_persons_5 rfl (lv_at hl 0 rfl) ?_
  refine cf_get_X10_1 F hinX10 hw kf20 dX10_persons_6 ?_
  refine lv_iload_n hx hb dX10_persons_9 rfl (lv_at hl 1 rfl) ?_
  obtain ⟨r11, h10, hf⟩ := g_b1 hf
  refine g_cQ F (As := [.int x1]) (rest := []) (cct_storyAt h10) (cwV 1 hts gX10_persons_X8_storyAt rfl rfl rfl (by decide +kernel) ⟨Nat.le_of_ble_eq_true rfl, Nat.le_of_ble_eq_true rfl⟩) hw (hw.recv (ci := 8) (q0 := 10) rfl rfl rfl) rfl hl.1 rfl (Nat.le_of_ble_eq_true rfl) dX10_persons_10 (fun H locs hw => ?_)
  rcases r11 with _ | k12
  · replace hf := gN_n hf
    refine lv_astoreN (lv' := [(6, .null), (0, .ref (ad 0)), (1, .int x1), (2, .int x2), (3, .int x3), (4, .int x4), (5, .int x5)]) hx hb dX10_persons_13 hl (by decide) rfl (fun ls hl => ?_)
    refine lv_aloadN hx hb dX10_persons_15 (lv_at hl 0 rfl) ?_
    refine lv_ifnonnullN hx hb dX10_persons_17 ?_
    refine lv_iconst (v := (-1)) hx hb dX10_persons_20 (by decide) ?_
    exact hret (-1) _ _ _ _ _ (g_i1 hf) (congrArg (fun t => cw ty ad G S t wr) (g_i2 hf)) hw dX10_persons_21
  · replace hf := gN_s hf
    refine lv_astore (lv' := [(6, .ref (ad (200 + k12))), (0, .ref (ad 0)), (1, .int x1), (2, .int x2), (3, .int x3), (4, .int x4), (5, .int x5)]) hx hb dX10_persons_13 hl (by decide) rfl (fun ls hl => ?_)
    refine lv_aload hx hb dX10_persons_15 (lv_at hl 0 rfl) ?_
    refine lv_ifnonnull (tgt := 22) hx hb dX10_persons_17 (by decide) ?_
    refine lv_aload_n hx hb dX10_persons_22 rfl (lv_at hl 1 rfl) ?_
    refine lv_iload_n hx hb dX10_persons_23 rfl (lv_at hl 3 rfl) ?_
    refine lv_iload_n hx hb dX10_persons_24 rfl (lv_at hl 4 rfl) ?_
    refine lv_iload hx hb dX10_persons_25 (lv_at hl 5 rfl) ?_
    refine lv_iload hx hb dX10_persons_27 (lv_at hl 6 rfl) ?_
    obtain ⟨r14, X15, h13, hf⟩ := g_b2 hf
    refine g_cI F (As := [.int x2, .int x3, .int x4, .int x5]) (rest := []) (ccx_readRoute h13) (cwV 4 hts gX10_persons_X10_readRoute rfl rfl rfl (by decide +kernel) ⟨Nat.le_of_ble_eq_true rfl, Nat.le_of_ble_eq_true rfl⟩) hw (hw.recv (ci := 10) (q0 := 0) rfl rfl rfl) rfl hl.1 rfl (Nat.le_of_ble_eq_true rfl) dX10_persons_29 (fun H locs hw => ?_)
    refine lv_istore (lv' := [(7, .int r14), (6, .ref (ad (200 + k12))), (0, .ref (ad 0)), (1, .int x1), (2, .int x2), (3, .int x3), (4, .int x4), (5, .int x5)]) hx hb dX10_persons_32 hl (by decide) rfl (fun ls hl => ?_)
    refine lv_iload hx hb dX10_persons_34 (lv_at hl 0 rfl) ?_
    refine lv_if_ge (tgt := 42) hx hb dX10_persons_36 (by decide) (fun c16 => ?_) (fun c16 => ?_)
    · have hf := g_t c16 hf
      refine lv_aload hx hb dX10_persons_42 (lv_at hl 1 rfl) ?_
      obtain ⟨g17, hf⟩ := g_g hf
      refine cw_story_get_1 F hinX5 hw g17 kf113 dX10_persons_44 ?_
      refine lv_istore (lv' := [(8, .int (X15.2.2 4 k12)), (7, .int r14), (6, .ref (ad (200 + k12))), (0, .ref (ad 0)), (1, .int x1), (2, .int x2), (3, .int x3), (4, .int x4), (5, .int x5)]) hx hb dX10_persons_47 hl (by decide) rfl (fun ls hl => ?_)
      refine lv_iconst (v := 0) hx hb dX10_persons_49 (by decide) ?_
      refine lv_istore (lv' := [(9, .int 0), (8, .int (X15.2.2 4 k12)), (7, .int r14), (6, .ref (ad (200 + k12))), (0, .ref (ad 0)), (1, .int x1), (2, .int x2), (3, .int x3), (4, .int x4), (5, .int x5)]) hx hb dX10_persons_50 hl (by decide) rfl (fun ls hl => ?_)
      refine lv_iconst (v := 0) hx hb dX10_persons_52 (by decide) ?_
      refine lv_istore (lv' := [(10, .int 0), (9, .int 0), (8, .int (X15.2.2 4 k12)), (7, .int r14), (6, .ref (ad (200 + k12))), (0, .ref (ad 0)), (1, .int x1), (2, .int x2), (3, .int x3), (4, .int x4), (5, .int x5)]) hx hb dX10_persons_53 hl (by decide) rfl (fun ls hl => ?_)
      exact B55 1000 k12 (X15.2.2 4 k12) 0 0 X15 _ _ _ (lv_sub hl [5, 4, 2, 1, 0] rfl) hw hf
    · have hf := g_f c16 hf
      refine lv_iload hx hb dX10_persons_39 (lv_at hl 0 rfl) ?_
      exact hret r14 _ _ _ _ _ (g_i1 hf) (congrArg (fun t => cw ty ad G S t wr) (g_i2 hf)) hw dX10_persons_41

abbrev rm_cx_limits : Room := { frames := 5, cells := 0, slots := 0, locals := 115 }
set_option maxHeartbeats 4000000 in
set_option maxRecDepth 100000 in
theorem ccx_limits {l : Launch} {D : va_G} {ty : gT} {A : Nat → Prop} {ad : Nat → Nat} {wr : va_W} {G : Nat} {S : Nat} {x1 : Int32} {x2 : Int32} {x3 : Int32} {x4 : Int32} {X : gC} {r : Int32} {σ' : gC} (hf : cx_limits G S X x1 x2 x3 x4 = some (r, σ')) : gI l D ty A yX10_limits wsX10_limits rm_cx_limits [.ref (ad 0), .int x1, .int x2, .int x3, .int x4] (cw ty ad G S X wr) r (cw ty ad G S σ' wr) := by
  refine gI_enter (cc := cX10_limits) (maxL := 9) (by decide) rfl (Nat.le_of_ble_eq_true rfl) ?_
  intro p e s m args below meth c Q ls F hl hw hret
  have F : CallFix p m c cX10_limits 9 s args wsX10_limits RX10 := F
  obtain ⟨hx, hb, hml, hown, hts⟩ := id F
  have hl : lv_has ls 9 [(0, .ref (ad 0)), (1, .int x1), (2, .int x2), (3, .int x3), (4, .int x4)] := hl
  have hinX10 : ∀ w ∈ wsX100, w ∈ wsX10_limits := by first | exact fun w h => List.mem_cons_of_mem _ (List.mem_append_left _ (List.mem_append_left _ (List.mem_append_left _ (List.mem_append_left _ (List.mem_append_left _ (List.mem_append_left _ (List.mem_append_left _ (List.mem_append_left _ (List.mem_append_right _ h))))))))) | decide +kernel
  have hinX8 : ∀ w ∈ wsX80, w ∈ wsX10_limits := by first | exact fun w h => List.mem_cons_of_mem _ (List.mem_append_left _ (List.mem_append_left _ (List.mem_append_left _ (List.mem_append_left _ (List.mem_append_left _ (List.mem_append_left _ (List.mem_append_left _ (List.mem_append_right _ h)))))))) | decide +kernel
  have kf126 := hts (.fieldLink RX10 126 "GossipGate$Town" "harmlessSize" "I") (by decide +kernel)
  have kf20 := hts (.fieldLink RX10 20 "GossipGate" "theTown" "LGossipGate$Town;") (by decide +kernel)
  have kf45 := hts (.fieldLink RX10 45 "GossipGate" "latestFault" "I") (by decide +kernel)
  have B39 : ∀ (n39 : Nat) (v6 : Int32) (v7 : Int32) (v8 : Int32) (X : gC) (H : Heap) (locs : List Loc) (ls : Array Slot), lv_has ls 9 [(0, .ref (ad 0)), (6, .int v6), (7, .int v7), (8, .int v8)] → gW D ty A (cw ty ad G S X wr) s s.heap H locs → cx_limits_b39 G S n39 v6 v7 v8 X = some (r, σ') → W p l e rm_cx_limits s m args below meth c H locs 0 0 Q (F0 m 39 ls []) := by
    intro n39
    induction n39 with
    | zero => intro v6 v7 v8 X H locs ls hl hw hf; cases hf
    | succ n39 ih39 =>
      intro v6 v7 v8 X H locs ls hl hw hf
      rw [cx_limits_b39] at hf
      refine lv_iload hx hb dX10_limits_39 (lv_at hl 3 rfl) ?_
      refine lv_bipush (v := 9) hx hb dX10_limits_41 (by decide) ?_
      refine lv_icmp_gt (tgt := 72) hx hb dX10_limits_43 (by decide) (fun c1 => ?_) (fun c1 => ?_)
      · have hf := g_t c1 hf
        refine lv_aload_n hx hb dX10_limits_72 rfl (lv_at hl 0 rfl) ?_
        refine cf_get_X10_1 F hinX10 hw kf20 dX10_limits_73 ?_
        refine lv_iload hx hb dX10_limits_76 (lv_at hl 1 rfl) ?_
        refine cf_put_X8_2 F hinX8 hw kf126 dX10_limits_78 (fun H locs hw => ?_)
        obtain ⟨X2, eX2, hf⟩ := g_let hf
        have hw := cw_re eX2 hw
        refine lv_iload hx hb dX10_limits_81 (lv_at hl 2 rfl) ?_
        exact hret v7 _ _ _ _ _ (g_i1 hf) (congrArg (fun t => cw ty ad G S t wr) (g_i2 hf)) hw dX10_limits_83
      · have hf := g_f c1 hf
        refine lv_aload_n hx hb dX10_limits_46 rfl (lv_at hl 0 rfl) ?_
        refine cf_get_X10_1 F hinX10 hw kf20 dX10_limits_47 ?_
        refine lv_iload hx hb dX10_limits_50 (lv_at hl 3 rfl) ?_
        refine cf_put_X8_2 F hinX8 hw kf126 dX10_limits_52 (fun H locs hw => ?_)
        obtain ⟨X3, eX3, hf⟩ := g_let hf
        have hw := cw_re eX3 hw
        refine lv_iload hx hb dX10_limits_55 (lv_at hl 2 rfl) ?_
        refine lv_aload_n hx hb dX10_limits_57 rfl (lv_at hl 0 rfl) ?_
        refine lv_iload hx hb dX10_limits_58 (lv_at hl 3 rfl) ?_
        obtain ⟨r5, X6, h4, hf⟩ := g_b2 hf
        refine g_cI F (As := [.int v8]) (rest := [.int v7]) (ccx_bitIfSo h4) (cwV 1 hts gX10_limits_X10_bitIfSo rfl rfl rfl (by decide +kernel) ⟨Nat.le_of_ble_eq_true rfl, Nat.le_of_ble_eq_true rfl⟩) hw (hw.recv (ci := 10) (q0 := 0) rfl rfl rfl) rfl hl.1 rfl (Nat.le_of_ble_eq_true rfl) dX10_limits_60 (fun H locs hw => ?_)
        refine lv_ior hx hb dX10_limits_63 ?_
        refine lv_istore (lv' := [(7, .int (v7 ||| r5)), (0, .ref (ad 0)), (6, .int v6), (8, .int v8)]) hx hb dX10_limits_64 hl (by decide) rfl (fun ls hl => ?_)
        refine lv_iinc (v := v8 + 1) (lv' := [(8, .int (v8 + 1)), (7, .int (v7 ||| r5)), (0, .ref (ad 0)), (6, .int v6)]) hx hb dX10_limits_66 hl (k := 3) rfl rfl (by decide) rfl (fun ls hl => ?_)
        refine lv_goto (tgt := 39) hx hb dX10_limits_69 (by decide) ?_
        exact ih39 v6 (v7 ||| r5) (v8 + 1) X6 _ _ _ (lv_sub hl [2, 3, 1, 0] rfl) hw hf
  unfold cx_limits at hf
  refine lv_aload_n hx hb dX10_limits_0 rfl (lv_at hl 0 rfl) ?_
  refine lv_iconst (v := 0) hx hb dX10_limits_1 (by decide) ?_
  refine cf_put_X10_5 F hinX10 hw kf45 dX10_limits_2 (fun H locs hw => ?_)
  obtain ⟨X7, eX7, hf⟩ := g_let hf
  have hw := cw_re eX7 hw
  refine lv_aload_n hx hb dX10_limits_5 rfl (lv_at hl 0 rfl) ?_
  refine lv_iload_n hx hb dX10_limits_6 rfl (lv_at hl 1 rfl) ?_
  refine lv_iload_n hx hb dX10_limits_7 rfl (lv_at hl 2 rfl) ?_
  refine lv_iload_n hx hb dX10_limits_8 rfl (lv_at hl 3 rfl) ?_
  refine lv_iload hx hb dX10_limits_9 (lv_at hl 4 rfl) ?_
  obtain ⟨r9, X10, h8, hf⟩ := g_b2 hf
  refine g_cI F (As := [.int x1, .int x2, .int x3, .int x4]) (rest := []) (ccx_readRoute h8) (cwV 4 hts gX10_limits_X10_readRoute rfl rfl rfl (by decide +kernel) ⟨Nat.le_of_ble_eq_true rfl, Nat.le_of_ble_eq_true rfl⟩) hw (hw.recv (ci := 10) (q0 := 0) rfl rfl rfl) rfl hl.1 rfl (Nat.le_of_ble_eq_true rfl) dX10_limits_11 (fun H locs hw => ?_)
  refine lv_istore (lv' := [(5, .int r9), (0, .ref (ad 0)), (1, .int x1), (2, .int x2), (3, .int x3), (4, .int x4)]) hx hb dX10_limits_14 hl (by decide) rfl (fun ls hl => ?_)
  refine lv_iload hx hb dX10_limits_16 (lv_at hl 0 rfl) ?_
  refine lv_if_ge (tgt := 24) hx hb dX10_limits_18 (by decide) (fun c11 => ?_) (fun c11 => ?_)
  · have hf := g_t c11 hf
    refine lv_aload_n hx hb dX10_limits_24 rfl (lv_at hl 1 rfl) ?_
    refine cf_get_X10_1 F hinX10 hw kf20 dX10_limits_25 ?_
    refine cf_get_X8_2 F hinX8 hw kf126 dX10_limits_28 ?_
    refine lv_istore (lv' := [(6, .int (X10.1.1 2)), (5, .int r9), (0, .ref (ad 0)), (1, .int x1), (2, .int x2), (3, .int x3), (4, .int x4)]) hx hb dX10_limits_31 hl (by decide) rfl (fun ls hl => ?_)
    refine lv_iconst (v := 0) hx hb dX10_limits_33 (by decide) ?_
    refine lv_istore (lv' := [(7, .int 0), (6, .int (X10.1.1 2)), (5, .int r9), (0, .ref (ad 0)), (1, .int x1), (2, .int x2), (3, .int x3), (4, .int x4)]) hx hb dX10_limits_34 hl (by decide) rfl (fun ls hl => ?_)
    refine lv_iconst (v := 0) hx hb dX10_limits_36 (by decide) ?_
    refine lv_istore (lv' := [(8, .int 0), (7, .int 0), (6, .int (X10.1.1 2)), (5, .int r9), (0, .ref (ad 0)), (1, .int x1), (2, .int x2), (3, .int x3), (4, .int x4)]) hx hb dX10_limits_37 hl (by decide) rfl (fun ls hl => ?_)
    exact B39 1000 (X10.1.1 2) 0 0 X10 _ _ _ (lv_sub hl [4, 2, 1, 0] rfl) hw hf
  · have hf := g_f c11 hf
    refine lv_iload hx hb dX10_limits_21 (lv_at hl 0 rfl) ?_
    exact hret r9 _ _ _ _ _ (g_i1 hf) (congrArg (fun t => cw ty ad G S t wr) (g_i2 hf)) hw dX10_limits_23

abbrev rm_cx_commonDivisor : Room := { frames := 0, cells := 0, slots := 0, locals := 0 }
set_option maxHeartbeats 4000000 in
set_option maxRecDepth 100000 in
theorem ccx_commonDivisor {l : Launch} {D : va_G} {ty : gT} {A : Nat → Prop} {ws : va_W} {x1 : Int32} {x2 : Int32} {r : Int32} (hf : cx_commonDivisor x1 x2 = some r) : gI l D ty A yX10_commonDivisor wsX10_commonDivisor rm_cx_commonDivisor [.int x1, .int x2] ws r ws := by
  refine gI_enter (cc := cX10_commonDivisor) (maxL := 6) (by decide) rfl (Nat.le_of_ble_eq_true rfl) ?_
  intro p e s m args below meth c Q ls F hl hw hret
  have F : CallFix p m c cX10_commonDivisor 6 s args wsX10_commonDivisor RX10 := F
  obtain ⟨hx, hb, hml, hown, hts⟩ := id F
  have hl : lv_has ls 6 [(0, .int x1), (1, .int x2)] := hl
  have B34 : ∀ (v2 : Int32) (H : Heap) (locs : List Loc) (ls : Array Slot), lv_has ls 6 [(2, .int v2)] → gW D ty A ws s s.heap H locs → cx_commonDivisor_b34 v2 = some r → W p l e rm_cx_commonDivisor s m args below meth c H locs 0 0 Q (F0 m 34 ls []) := by
    intro v2 H locs ls hl hw hf
    unfold cx_commonDivisor_b34 at hf
    refine lv_iload_n hx hb dX10_commonDivisor_34 rfl (lv_at hl 0 rfl) ?_
    refine lv_if_le (tgt := 42) hx hb dX10_commonDivisor_35 (by decide) (fun c1 => ?_) (fun c1 => ?_)
    · have hf := g_t c1 hf
      refine lv_iconst (v := 1) hx hb dX10_commonDivisor_42 (by decide) ?_
      exact hret 1 _ _ _ _ _ (Option.some.inj hf) rfl hw dX10_commonDivisor_43
    · have hf := g_f c1 hf
      refine lv_iload_n hx hb dX10_commonDivisor_38 rfl (lv_at hl 0 rfl) ?_
      refine lv_goto (tgt := 43) hx hb dX10_commonDivisor_39 (by decide) ?_
      exact hret v2 _ _ _ _ _ (Option.some.inj hf) rfl hw dX10_commonDivisor_43
  have B7 : ∀ (n7 : Nat) (v2 : Int32) (v3 : Int32) (v4 : Int32) (H : Heap) (locs : List Loc) (ls : Array Slot), lv_has ls 6 [(2, .int v2), (3, .int v3), (4, .int v4)] → gW D ty A ws s s.heap H locs → cx_commonDivisor_b7 n7 v2 v3 v4 = some r → W p l e rm_cx_commonDivisor s m args below meth c H locs 0 0 Q (F0 m 7 ls []) := by
    intro n7
    induction n7 with
    | zero => intro v2 v3 v4 H locs ls hl hw hf; cases hf
    | succ n7 ih7 =>
      intro v2 v3 v4 H locs ls hl hw hf
      rw [cx_commonDivisor_b7] at hf
      refine lv_iload hx hb dX10_commonDivisor_7 (lv_at hl 2 rfl) ?_
      refine lv_bipush (v := 64) hx hb dX10_commonDivisor_9 (by decide) ?_
      refine lv_icmp_ge (tgt := 34) hx hb dX10_commonDivisor_11 (by decide) (fun c2 => ?_) (fun c2 => ?_)
      · have hf := g_t c2 hf
        exact B34 v2 _ _ _ (lv_sub hl [0] rfl) hw hf
      · have hf := g_f c2 hf
        refine lv_iload_n hx hb dX10_commonDivisor_14 rfl (lv_at hl 1 rfl) ?_
        refine lv_if_eq (tgt := 34) hx hb dX10_commonDivisor_15 (by decide) (fun c3 => ?_) (fun c3 => ?_)
        · have hf := g_t c3 hf
          exact B34 v2 _ _ _ (lv_sub hl [0] rfl) hw hf
        · have hf := g_f c3 hf
          refine lv_iload_n hx hb dX10_commonDivisor_18 rfl (lv_at hl 0 rfl) ?_
          refine lv_iload_n hx hb dX10_commonDivisor_19 rfl (lv_at hl 1 rfl) ?_
          obtain ⟨g4, hf⟩ := g_g hf
          refine lv_irem hx hb dX10_commonDivisor_20 g4 ?_
          obtain ⟨y5, ey5, hf⟩ := g_let hf
          refine g_nm ey5 ?_
          refine lv_istore (lv' := [(5, .int y5), (2, .int v2), (3, .int v3), (4, .int v4)]) hx hb dX10_commonDivisor_21 hl (by decide) rfl (fun ls hl => ?_)
          refine lv_iload_n hx hb dX10_commonDivisor_23 rfl (lv_at hl 2 rfl) ?_
          refine lv_istore_n (lv' := [(2, .int v3), (5, .int y5), (3, .int v3), (4, .int v4)]) hx hb dX10_commonDivisor_24 rfl hl (by decide) rfl (fun ls hl => ?_)
          refine lv_iload hx hb dX10_commonDivisor_25 (lv_at hl 1 rfl) ?_
          refine lv_istore_n (lv' := [(3, .int y5), (2, .int v3), (5, .int y5), (4, .int v4)]) hx hb dX10_commonDivisor_27 rfl hl (by decide) rfl (fun ls hl => ?_)
          refine lv_iinc (v := v4 + 1) (lv' := [(4, .int (v4 + 1)), (3, .int y5), (2, .int v3), (5, .int y5)]) hx hb dX10_commonDivisor_28 hl (k := 3) rfl rfl (by decide) rfl (fun ls hl => ?_)
          refine lv_goto (tgt := 7) hx hb dX10_commonDivisor_31 (by decide) ?_
          exact ih7 v3 y5 (v4 + 1) _ _ _ (lv_sub hl [2, 1, 0] rfl) hw hf
  unfold cx_commonDivisor at hf
  refine lv_iload_n hx hb dX10_commonDivisor_0 rfl (lv_at hl 0 rfl) ?_
  refine lv_istore_n (lv' := [(2, .int x1), (0, .int x1), (1, .int x2)]) hx hb dX10_commonDivisor_1 rfl hl (by decide) rfl (fun ls hl => ?_)
  refine lv_iload_n hx hb dX10_commonDivisor_2 rfl (lv_at hl 2 rfl) ?_
  refine lv_istore_n (lv' := [(3, .int x2), (2, .int x1), (0, .int x1), (1, .int x2)]) hx hb dX10_commonDivisor_3 rfl hl (by decide) rfl (fun ls hl => ?_)
  refine lv_iconst (v := 0) hx hb dX10_commonDivisor_4 (by decide) ?_
  refine lv_istore (lv' := [(4, .int 0), (3, .int x2), (2, .int x1), (0, .int x1), (1, .int x2)]) hx hb dX10_commonDivisor_5 hl (by decide) rfl (fun ls hl => ?_)
  exact B7 1000 x1 x2 0 _ _ _ (lv_sub hl [2, 1, 0] rfl) hw hf

abbrev rm_cx_odds : Room := { frames := 5, cells := 0, slots := 0, locals := 123 }
set_option maxHeartbeats 4000000 in
set_option maxRecDepth 100000 in
theorem ccx_odds {l : Launch} {D : va_G} {ty : gT} {A : Nat → Prop} {ad : Nat → Nat} {wr : va_W} {G : Nat} {S : Nat} {x1 : Int32} {x2 : Int32} {x3 : Int32} {x4 : Int32} {X : gC} {r : Int64} {σ' : gC} (hf : cx_odds G S X x1 x2 x3 x4 = some (r, σ')) : gL l D ty A yX10_odds wsX10_odds rm_cx_odds [.ref (ad 0), .int x1, .int x2, .int x3, .int x4] (cw ty ad G S X wr) r (cw ty ad G S σ' wr) := by
  refine gL_enter (cc := cX10_odds) (maxL := 10) (by decide) rfl (Nat.le_of_ble_eq_true rfl) ?_
  intro p e s m args below meth c Q ls F hl hw hret
  have F : CallFix p m c cX10_odds 10 s args wsX10_odds RX10 := F
  obtain ⟨hx, hb, hml, hown, hts⟩ := id F
  have hl : lv_has ls 10 [(0, .ref (ad 0)), (1, .int x1), (2, .int x2), (3, .int x3), (4, .int x4)] := hl
  have hinX10 : ∀ w ∈ wsX100, w ∈ wsX10_odds := by first | exact fun w h => List.mem_cons_of_mem _ (List.mem_append_left _ (List.mem_append_left _ (List.mem_append_left _ (List.mem_append_left _ (List.mem_append_left _ (List.mem_append_right _ h)))))) | decide +kernel
  have hinX8 : ∀ w ∈ wsX80, w ∈ wsX10_odds := by first | exact fun w h => List.mem_cons_of_mem _ (List.mem_append_left _ (List.mem_append_left _ (List.mem_append_left _ (List.mem_append_left _ (List.mem_append_right _ h))))) | decide +kernel
  have kc199 := hts (.constantLong RX10 199 (-9223372036854775808)) (by decide +kernel)
  have kf181 := hts (.fieldLink RX10 181 "GossipGate$Town" "gates" "[LGossipGate$Gate;") (by decide +kernel)
  have kf20 := hts (.fieldLink RX10 20 "GossipGate" "theTown" "LGossipGate$Town;") (by decide +kernel)
  unfold cx_odds at hf
  refine lv_aload_n hx hb dX10_odds_0 rfl (lv_at hl 0 rfl) ?_
  refine cf_get_X10_1 F hinX10 hw kf20 dX10_odds_1 ?_
  refine lv_iload_n hx hb dX10_odds_4 rfl (lv_at hl 1 rfl) ?_
  obtain ⟨r2, h1, hf⟩ := g_b1 hf
  refine g_cQ F (As := [.int x1]) (rest := []) (cct_storyAt h1) (cwV 1 hts gX10_odds_X8_storyAt rfl rfl rfl (by decide +kernel) ⟨Nat.le_of_ble_eq_true rfl, Nat.le_of_ble_eq_true rfl⟩) hw (hw.recv (ci := 8) (q0 := 10) rfl rfl rfl) rfl hl.1 rfl (Nat.le_of_ble_eq_true rfl) dX10_odds_5 (fun H locs hw => ?_)
  rcases r2 with _ | k3
  · replace hf := gN_n hf
    refine lv_astoreN (lv' := [(5, .null), (0, .ref (ad 0)), (1, .int x1), (2, .int x2), (3, .int x3), (4, .int x4)]) hx hb dX10_odds_8 hl (by decide) rfl (fun ls hl => ?_)
    refine lv_aloadN hx hb dX10_odds_10 (lv_at hl 0 rfl) ?_
    refine lv_ifnullN (tgt := 43) hx hb dX10_odds_12 (by decide) ?_
    refine lv_ldc2 (v := (-9223372036854775808)) hx hb hown kc199 dX10_odds_43 ?_
    exact hret (-9223372036854775808) _ _ _ _ _ (g_i1 hf) (congrArg (fun t => cw ty ad G S t wr) (g_i2 hf)) hw dX10_odds_46
  · replace hf := gN_s hf
    refine lv_astore (lv' := [(5, .ref (ad (200 + k3))), (0, .ref (ad 0)), (1, .int x1), (2, .int x2), (3, .int x3), (4, .int x4)]) hx hb dX10_odds_8 hl (by decide) rfl (fun ls hl => ?_)
    refine lv_aload hx hb dX10_odds_10 (lv_at hl 0 rfl) ?_
    refine lv_ifnull hx hb dX10_odds_12 ?_
    refine lv_iload_n hx hb dX10_odds_15 rfl (lv_at hl 3 rfl) ?_
    obtain ⟨r5, h4, hf⟩ := g_b1 hf
    refine g_sI F (As := [.int x2]) (rest := []) (ccx_isDay h4) (va_cwS 1 hts gX10_odds_X10_isDay rfl rfl rfl (by decide +kernel) ⟨Nat.le_of_ble_eq_true rfl, Nat.le_of_ble_eq_true rfl⟩) hw rfl hl.1 rfl (Nat.le_of_ble_eq_true rfl) dX10_odds_16 (fun H locs hw => ?_)
    refine lv_if_eq (tgt := 43) hx hb dX10_odds_19 (by decide) (fun c6 => ?_) (fun c6 => ?_)
    · have hf := g_f (bI_z c6) hf
      refine lv_ldc2 (v := (-9223372036854775808)) hx hb hown kc199 dX10_odds_43 ?_
      exact hret (-9223372036854775808) _ _ _ _ _ (g_i1 hf) (congrArg (fun t => cw ty ad G S t wr) (g_i2 hf)) hw dX10_odds_46
    · have hf := g_t (bI_nz c6) hf
      refine lv_iload_n hx hb dX10_odds_22 rfl (lv_at hl 4 rfl) ?_
      refine lv_iconst (v := 0) hx hb dX10_odds_23 (by decide) ?_
      refine lv_sipush (v := 9999) hx hb dX10_odds_24 (by decide) ?_
      obtain ⟨r8, h7, hf⟩ := g_b1 hf
      refine g_sI F (As := [.int x3, .int 0, .int 9999]) (rest := []) (ccx_isWithin h7) (va_cwS 3 hts gX10_odds_X10_isWithin rfl rfl rfl (by decide +kernel) ⟨Nat.le_of_ble_eq_true rfl, Nat.le_of_ble_eq_true rfl⟩) hw rfl hl.1 rfl (Nat.le_of_ble_eq_true rfl) dX10_odds_27 (fun H locs hw => ?_)
      refine lv_if_eq (tgt := 43) hx hb dX10_odds_30 (by decide) (fun c9 => ?_) (fun c9 => ?_)
      · have hf := g_f (bI_z c9) hf
        refine lv_ldc2 (v := (-9223372036854775808)) hx hb hown kc199 dX10_odds_43 ?_
        exact hret (-9223372036854775808) _ _ _ _ _ (g_i1 hf) (congrArg (fun t => cw ty ad G S t wr) (g_i2 hf)) hw dX10_odds_46
      · have hf := g_t (bI_nz c9) hf
        refine lv_iload hx hb dX10_odds_33 (lv_at hl 5 rfl) ?_
        refine lv_iconst (v := 0) hx hb dX10_odds_35 (by decide) ?_
        refine lv_iconst (v := 1) hx hb dX10_odds_36 (by decide) ?_
        obtain ⟨r11, h10, hf⟩ := g_b1 hf
        refine g_sI F (As := [.int x4, .int 0, .int 1]) (rest := []) (ccx_isWithin h10) (va_cwS 3 hts gX10_odds_X10_isWithin rfl rfl rfl (by decide +kernel) ⟨Nat.le_of_ble_eq_true rfl, Nat.le_of_ble_eq_true rfl⟩) hw rfl hl.1 rfl (Nat.le_of_ble_eq_true rfl) dX10_odds_37 (fun H locs hw => ?_)
        refine lv_if_ne (tgt := 47) hx hb dX10_odds_40 (by decide) (fun c12 => ?_) (fun c12 => ?_)
        · have hf := g_t (bI_nz c12) hf
          refine lv_aload hx hb dX10_odds_47 (lv_at hl 0 rfl) ?_
          refine lv_iload_n hx hb dX10_odds_49 rfl (lv_at hl 3 rfl) ?_
          obtain ⟨g14, hf⟩ := g_g hf
          obtain ⟨r15, h13, hf⟩ := g_b1 hf
          refine g_cI F (As := [.int x2]) (rest := []) (ccs_isBornBy h13) (cwV 1 hts gX10_odds_X5_isBornBy rfl rfl rfl (by decide +kernel) ⟨Nat.le_of_ble_eq_true rfl, Nat.le_of_ble_eq_true rfl⟩) hw (hw.recv (ci := 5) (q0 := G + k3 + 27) rfl rfl (cw_story g14)) rfl hl.1 rfl (Nat.le_of_ble_eq_true rfl) dX10_odds_50 (fun H locs hw => ?_)
          refine lv_if_ne (tgt := 60) hx hb dX10_odds_53 (by decide) (fun c16 => ?_) (fun c16 => ?_)
          · have hf := g_t (bI_nz c16) hf
            refine lv_aload_n hx hb dX10_odds_60 rfl (lv_at hl 1 rfl) ?_
            refine cf_get_X10_1 F hinX10 hw kf20 dX10_odds_61 ?_
            refine cf_get_X8_0 F hinX8 hw kf181 dX10_odds_64 ?_
            refine cf_len_11 F hw dX10_odds_67 ?_
            refine lv_istore (lv' := [(6, .int (nI G)), (5, .ref (ad (200 + k3))), (0, .ref (ad 0)), (1, .int x1), (2, .int x2), (3, .int x3), (4, .int x4)]) hx hb dX10_odds_68 hl (by decide) rfl (fun ls hl => ?_)
            refine lv_iload hx hb dX10_odds_70 (lv_at hl 0 rfl) ?_
            refine lv_iload hx hb dX10_odds_72 (lv_at hl 0 rfl) ?_
            refine lv_imul hx hb dX10_odds_74 ?_
            refine lv_iload hx hb dX10_odds_75 (lv_at hl 0 rfl) ?_
            refine lv_imul hx hb dX10_odds_77 ?_
            obtain ⟨y17, ey17, hf⟩ := g_let hf
            refine g_nm ey17 ?_
            refine lv_istore (lv' := [(7, .int y17), (6, .int (nI G)), (5, .ref (ad (200 + k3))), (0, .ref (ad 0)), (1, .int x1), (2, .int x2), (3, .int x3), (4, .int x4)]) hx hb dX10_odds_78 hl (by decide) rfl (fun ls hl => ?_)
            refine lv_aload_n hx hb dX10_odds_80 rfl (lv_at hl 3 rfl) ?_
            refine cf_get_X10_1 F hinX10 hw kf20 dX10_odds_81 ?_
            refine lv_aload hx hb dX10_odds_84 (lv_at hl 2 rfl) ?_
            refine lv_iload_n hx hb dX10_odds_86 rfl (lv_at hl 5 rfl) ?_
            refine lv_iload_n hx hb dX10_odds_87 rfl (lv_at hl 6 rfl) ?_
            obtain ⟨r19, X20, h18, hf⟩ := g_b2 hf
            refine g_cI F (As := [.ref (ad (200 + k3)), .int x2, .int x3]) (rest := []) (cct_waysWithin h18) (cwV 3 hts gX10_odds_X8_waysWithin rfl rfl rfl (by decide +kernel) ⟨Nat.le_of_ble_eq_true rfl, Nat.le_of_ble_eq_true rfl⟩) hw (hw.recv (ci := 8) (q0 := 10) rfl rfl rfl) rfl hl.1 rfl (Nat.le_of_ble_eq_true rfl) dX10_odds_88 (fun H locs hw => ?_)
            refine lv_istore (lv' := [(8, .int r19), (7, .int y17), (6, .int (nI G)), (5, .ref (ad (200 + k3))), (0, .ref (ad 0)), (1, .int x1), (2, .int x2), (3, .int x3), (4, .int x4)]) hx hb dX10_odds_91 hl (by decide) rfl (fun ls hl => ?_)
            refine lv_iload hx hb dX10_odds_93 (lv_at hl 1 rfl) ?_
            refine lv_iload hx hb dX10_odds_95 (lv_at hl 0 rfl) ?_
            obtain ⟨r22, h21, hf⟩ := g_b1 hf
            refine g_sI F (As := [.int y17, .int r19]) (rest := []) (ccx_commonDivisor h21) (va_cwS 2 hts gX10_odds_X10_commonDivisor rfl rfl rfl (by decide +kernel) ⟨Nat.le_of_ble_eq_true rfl, Nat.le_of_ble_eq_true rfl⟩) hw rfl hl.1 rfl (Nat.le_of_ble_eq_true rfl) dX10_odds_97 (fun H locs hw => ?_)
            refine lv_istore (lv' := [(9, .int r22), (8, .int r19), (7, .int y17), (6, .int (nI G)), (5, .ref (ad (200 + k3))), (0, .ref (ad 0)), (1, .int x1), (2, .int x2), (3, .int x3), (4, .int x4)]) hx hb dX10_odds_100 hl (by decide) rfl (fun ls hl => ?_)
            refine lv_iload hx hb dX10_odds_102 (lv_at hl 9 rfl) ?_
            refine lv_if_ne (tgt := 112) hx hb dX10_odds_104 (by decide) (fun c23 => ?_) (fun c23 => ?_)
            · have hf := g_f c23 hf
              refine lv_iload hx hb dX10_odds_112 (lv_at hl 2 rfl) ?_
              refine lv_iload hx hb dX10_odds_114 (lv_at hl 0 rfl) ?_
              obtain ⟨g24, hf⟩ := g_g hf
              refine lv_idiv hx hb dX10_odds_116 g24 ?_
              refine lv_i2l hx hb dX10_odds_117 rfl ?_
              exact hret ((y17 / r22).toInt64) _ _ _ _ _ (g_i1 hf) (congrArg (fun t => cw ty ad G S t wr) (g_i2 hf)) hw dX10_odds_118
            · have hf := g_t c23 hf
              refine lv_iload hx hb dX10_odds_107 (lv_at hl 1 rfl) ?_
              refine lv_goto (tgt := 114) hx hb dX10_odds_109 (by decide) ?_
              refine lv_iload hx hb dX10_odds_114 (lv_at hl 0 rfl) ?_
              obtain ⟨g25, hf⟩ := g_g hf
              refine lv_idiv hx hb dX10_odds_116 g25 ?_
              refine lv_i2l hx hb dX10_odds_117 rfl ?_
              exact hret ((r19 / r22).toInt64) _ _ _ _ _ (g_i1 hf) (congrArg (fun t => cw ty ad G S t wr) (g_i2 hf)) hw dX10_odds_118
          · have hf := g_f (bI_z c16) hf
            refine lv_ldc2 (v := (-9223372036854775808)) hx hb hown kc199 dX10_odds_56 ?_
            exact hret (-9223372036854775808) _ _ _ _ _ (g_i1 hf) (congrArg (fun t => cw ty ad G S t wr) (g_i2 hf)) hw dX10_odds_59
        · have hf := g_f (bI_z c12) hf
          refine lv_ldc2 (v := (-9223372036854775808)) hx hb hown kc199 dX10_odds_43 ?_
          exact hret (-9223372036854775808) _ _ _ _ _ (g_i1 hf) (congrArg (fun t => cw ty ad G S t wr) (g_i2 hf)) hw dX10_odds_46

abbrev rm_cx_sheet : Room := { frames := 2, cells := 0, slots := 0, locals := 45 }
set_option maxHeartbeats 4000000 in
set_option maxRecDepth 100000 in
theorem ccx_sheet {l : Launch} {D : va_G} {ty : gT} {A : Nat → Prop} {ad : Nat → Nat} {wr : va_W} {G : Nat} {S : Nat} {x1 : Int32} {x2 : Int32} {x3 : Int32} {X : gC} {r : Int32} {σ' : gC} (hf : cx_sheet G S X x1 x2 x3 = some (r, σ')) : gI l D ty A yX10_sheet wsX10_sheet rm_cx_sheet [.ref (ad 0), .int x1, .int x2, .int x3] (cw ty ad G S X wr) r (cw ty ad G S σ' wr) := by
  refine gI_enter (cc := cX10_sheet) (maxL := 5) (by decide) rfl (Nat.le_of_ble_eq_true rfl) ?_
  intro p e s m args below meth c Q ls F hl hw hret
  have F : CallFix p m c cX10_sheet 5 s args wsX10_sheet RX10 := F
  obtain ⟨hx, hb, hml, hown, hts⟩ := id F
  have hl : lv_has ls 5 [(0, .ref (ad 0)), (1, .int x1), (2, .int x2), (3, .int x3)] := hl
  have hinX10 : ∀ w ∈ wsX100, w ∈ wsX10_sheet := by first | exact fun w h => List.mem_cons_of_mem _ (List.mem_append_left _ (List.mem_append_right _ h)) | decide +kernel
  have kf45 := hts (.fieldLink RX10 45 "GossipGate" "latestFault" "I") (by decide +kernel)
  unfold cx_sheet at hf
  refine lv_aload_n hx hb dX10_sheet_0 rfl (lv_at hl 0 rfl) ?_
  refine lv_iconst (v := 0) hx hb dX10_sheet_1 (by decide) ?_
  refine cf_put_X10_5 F hinX10 hw kf45 dX10_sheet_2 (fun H locs hw => ?_)
  obtain ⟨X1, eX1, hf⟩ := g_let hf
  have hw := cw_re eX1 hw
  refine lv_aload_n hx hb dX10_sheet_5 rfl (lv_at hl 0 rfl) ?_
  refine lv_iload_n hx hb dX10_sheet_6 rfl (lv_at hl 1 rfl) ?_
  obtain ⟨r3, h2, hf⟩ := g_b1 hf
  refine g_cQ F (As := [.int x1]) (rest := []) (ccx_rowAt h2) (cwV 1 hts gX10_sheet_X10_rowAt rfl rfl rfl (by decide +kernel) ⟨Nat.le_of_ble_eq_true rfl, Nat.le_of_ble_eq_true rfl⟩) hw (hw.recv (ci := 10) (q0 := 0) rfl rfl rfl) rfl hl.1 rfl (Nat.le_of_ble_eq_true rfl) dX10_sheet_7 (fun H locs hw => ?_)
  rcases r3 with _ | k4
  · replace hf := gN_n hf
    refine lv_astoreN (lv' := [(4, .null), (0, .ref (ad 0)), (1, .int x1), (2, .int x2), (3, .int x3)]) hx hb dX10_sheet_10 hl (by decide) rfl (fun ls hl => ?_)
    refine lv_aloadN hx hb dX10_sheet_12 (lv_at hl 0 rfl) ?_
    refine lv_ifnonnullN hx hb dX10_sheet_14 ?_
    refine lv_iconst (v := (-1)) hx hb dX10_sheet_17 (by decide) ?_
    exact hret (-1) _ _ _ _ _ (g_i1 hf) (congrArg (fun t => cw ty ad G S t wr) (g_i2 hf)) hw dX10_sheet_18
  · replace hf := gN_s hf
    refine lv_astore (lv' := [(4, .ref (ad (2 + k4))), (0, .ref (ad 0)), (1, .int x1), (2, .int x2), (3, .int x3)]) hx hb dX10_sheet_10 hl (by decide) rfl (fun ls hl => ?_)
    refine lv_aload hx hb dX10_sheet_12 (lv_at hl 0 rfl) ?_
    refine lv_ifnonnull (tgt := 19) hx hb dX10_sheet_14 (by decide) ?_
    refine lv_iload_n hx hb dX10_sheet_19 rfl (lv_at hl 3 rfl) ?_
    refine lv_iconst (v := 0) hx hb dX10_sheet_20 (by decide) ?_
    refine lv_iconst (v := 2) hx hb dX10_sheet_21 (by decide) ?_
    obtain ⟨r6, h5, hf⟩ := g_b1 hf
    refine g_sI F (As := [.int x2, .int 0, .int 2]) (rest := []) (ccx_isWithin h5) (va_cwS 3 hts gX10_sheet_X10_isWithin rfl rfl rfl (by decide +kernel) ⟨Nat.le_of_ble_eq_true rfl, Nat.le_of_ble_eq_true rfl⟩) hw rfl hl.1 rfl (Nat.le_of_ble_eq_true rfl) dX10_sheet_22 (fun H locs hw => ?_)
    refine lv_if_eq (tgt := 34) hx hb dX10_sheet_25 (by decide) (fun c7 => ?_) (fun c7 => ?_)
    · have hf := g_f (bI_z c7) hf
      refine lv_bipush (v := (-2)) hx hb dX10_sheet_34 (by decide) ?_
      exact hret (-2) _ _ _ _ _ (g_i1 hf) (congrArg (fun t => cw ty ad G S t wr) (g_i2 hf)) hw dX10_sheet_36
    · have hf := g_t (bI_nz c7) hf
      refine lv_iload_n hx hb dX10_sheet_28 rfl (lv_at hl 4 rfl) ?_
      refine lv_bipush (v := 60) hx hb dX10_sheet_29 (by decide) ?_
      refine lv_icmp_le (tgt := 37) hx hb dX10_sheet_31 (by decide) (fun c8 => ?_) (fun c8 => ?_)
      · have hf := g_t c8 hf
        refine lv_iload_n hx hb dX10_sheet_37 rfl (lv_at hl 4 rfl) ?_
        refine lv_if_ge (tgt := 47) hx hb dX10_sheet_38 (by decide) (fun c9 => ?_) (fun c9 => ?_)
        · have hf := g_t c9 hf
          refine lv_aload hx hb dX10_sheet_47 (lv_at hl 0 rfl) ?_
          refine lv_iload_n hx hb dX10_sheet_49 rfl (lv_at hl 3 rfl) ?_
          refine lv_iload_n hx hb dX10_sheet_50 rfl (lv_at hl 4 rfl) ?_
          obtain ⟨g11, hf⟩ := g_g hf
          obtain ⟨r12, X13, h10, hf⟩ := g_b2 hf
          refine g_cV F (As := [.int x2, .int x3]) (rest := []) (cfr_begin h10) (cwV 2 hts gX10_sheet_X4_begin rfl rfl rfl (by decide +kernel) ⟨Nat.le_of_ble_eq_true rfl, Nat.le_of_ble_eq_true rfl⟩) hw (hw.recv (ci := 4) (q0 := 2 + k4) rfl rfl (cf_row g11)) rfl hl.1 rfl (Nat.le_of_ble_eq_true rfl) dX10_sheet_51 (fun H locs hw => ?_)
          obtain ⟨X14, eX14, hf⟩ := g_let hf
          have hw := cw_re eX14 hw
          refine lv_iconst (v := 1) hx hb dX10_sheet_54 (by decide) ?_
          exact hret 1 _ _ _ _ _ (g_i1 hf) (congrArg (fun t => cw ty ad G S t wr) (g_i2 hf)) hw dX10_sheet_55
        · have hf := g_f c9 hf
          refine lv_aload_n hx hb dX10_sheet_41 rfl (lv_at hl 1 rfl) ?_
          refine lv_iconst (v := 4) hx hb dX10_sheet_42 (by decide) ?_
          obtain ⟨r16, X17, h15, hf⟩ := g_b2 hf
          refine g_cI F (As := [.int 4]) (rest := []) (ccx_failBy h15) (cwV 1 hts gX10_sheet_X10_failBy rfl rfl rfl (by decide +kernel) ⟨Nat.le_of_ble_eq_true rfl, Nat.le_of_ble_eq_true rfl⟩) hw (hw.recv (ci := 10) (q0 := 0) rfl rfl rfl) rfl hl.1 rfl (Nat.le_of_ble_eq_true rfl) dX10_sheet_43 (fun H locs hw => ?_)
          exact hret r16 _ _ _ _ _ (g_i1 hf) (congrArg (fun t => cw ty ad G S t wr) (g_i2 hf)) hw dX10_sheet_46
      · have hf := g_f c8 hf
        refine lv_bipush (v := (-2)) hx hb dX10_sheet_34 (by decide) ?_
        exact hret (-2) _ _ _ _ _ (g_i1 hf) (congrArg (fun t => cw ty ad G S t wr) (g_i2 hf)) hw dX10_sheet_36

abbrev rm_cx_lose : Room := { frames := 2, cells := 0, slots := 0, locals := 43 }
set_option maxHeartbeats 4000000 in
set_option maxRecDepth 100000 in
theorem ccx_lose {l : Launch} {D : va_G} {ty : gT} {A : Nat → Prop} {ad : Nat → Nat} {wr : va_W} {G : Nat} {S : Nat} {x1 : Int32} {X : gC} {r : Int32} {σ' : gC} (hf : cx_lose G S X x1 = some (r, σ')) : gI l D ty A yX10_lose wsX10_lose rm_cx_lose [.ref (ad 0), .int x1] (cw ty ad G S X wr) r (cw ty ad G S σ' wr) := by
  refine gI_enter (cc := cX10_lose) (maxL := 4) (by decide) rfl (Nat.le_of_ble_eq_true rfl) ?_
  intro p e s m args below meth c Q ls F hl hw hret
  have F : CallFix p m c cX10_lose 4 s args wsX10_lose RX10 := F
  obtain ⟨hx, hb, hml, hown, hts⟩ := id F
  have hl : lv_has ls 4 [(0, .ref (ad 0)), (1, .int x1)] := hl
  have B24 : ∀ (v2 : Nat) (s0 : Int32) (X : gC) (H : Heap) (locs : List Loc) (ls : Array Slot), lv_has ls 4 [(2, .ref (ad (2 + v2)))] → gW D ty A (cw ty ad G S X wr) s s.heap H locs → cx_lose_b24 G S v2 s0 X = some (r, σ') → W p l e rm_cx_lose s m args below meth c H locs 0 0 Q (F0 m 24 ls [.int s0]) := by
    intro v2 s0 X H locs ls hl hw hf
    unfold cx_lose_b24 at hf
    refine lv_istore_n (lv' := [(3, .int s0), (2, .ref (ad (2 + v2)))]) hx hb dX10_lose_24 rfl hl (by decide) rfl (fun ls hl => ?_)
    refine lv_aload_n hx hb dX10_lose_25 rfl (lv_at hl 1 rfl) ?_
    obtain ⟨g2, hf⟩ := g_g hf
    obtain ⟨r3, X4, h1, hf⟩ := g_b2 hf
    refine g_cV F (As := []) (rest := []) (cfr_drop h1) (cwV 0 hts gX10_lose_X4_drop rfl rfl rfl (by decide +kernel) ⟨Nat.le_of_ble_eq_true rfl, Nat.le_of_ble_eq_true rfl⟩) hw (hw.recv (ci := 4) (q0 := 2 + v2) rfl rfl (cf_row g2)) rfl hl.1 rfl (Nat.le_of_ble_eq_true rfl) dX10_lose_26 (fun H locs hw => ?_)
    obtain ⟨X5, eX5, hf⟩ := g_let hf
    have hw := cw_re eX5 hw
    refine lv_iload_n hx hb dX10_lose_29 rfl (lv_at hl 0 rfl) ?_
    exact hret s0 _ _ _ _ _ (g_i1 hf) (congrArg (fun t => cw ty ad G S t wr) (g_i2 hf)) hw dX10_lose_30
  unfold cx_lose at hf
  refine lv_aload_n hx hb dX10_lose_0 rfl (lv_at hl 0 rfl) ?_
  refine lv_iload_n hx hb dX10_lose_1 rfl (lv_at hl 1 rfl) ?_
  obtain ⟨r7, h6, hf⟩ := g_b1 hf
  refine g_cQ F (As := [.int x1]) (rest := []) (ccx_rowAt h6) (cwV 1 hts gX10_lose_X10_rowAt rfl rfl rfl (by decide +kernel) ⟨Nat.le_of_ble_eq_true rfl, Nat.le_of_ble_eq_true rfl⟩) hw (hw.recv (ci := 10) (q0 := 0) rfl rfl rfl) rfl hl.1 rfl (Nat.le_of_ble_eq_true rfl) dX10_lose_2 (fun H locs hw => ?_)
  rcases r7 with _ | k8
  · replace hf := gN_n hf
    refine lv_astore_nN (lv' := [(2, .null), (0, .ref (ad 0)), (1, .int x1)]) hx hb dX10_lose_5 rfl hl (by decide) rfl (fun ls hl => ?_)
    refine lv_aload_nN hx hb dX10_lose_6 rfl (lv_at hl 0 rfl) ?_
    refine lv_ifnonnullN hx hb dX10_lose_7 ?_
    refine lv_iconst (v := (-1)) hx hb dX10_lose_10 (by decide) ?_
    exact hret (-1) _ _ _ _ _ (g_i1 hf) (congrArg (fun t => cw ty ad G S t wr) (g_i2 hf)) hw dX10_lose_11
  · replace hf := gN_s hf
    refine lv_astore_n (lv' := [(2, .ref (ad (2 + k8))), (0, .ref (ad 0)), (1, .int x1)]) hx hb dX10_lose_5 rfl hl (by decide) rfl (fun ls hl => ?_)
    refine lv_aload_n hx hb dX10_lose_6 rfl (lv_at hl 0 rfl) ?_
    refine lv_ifnonnull (tgt := 12) hx hb dX10_lose_7 (by decide) ?_
    refine lv_aload_n hx hb dX10_lose_12 rfl (lv_at hl 0 rfl) ?_
    obtain ⟨g10, hf⟩ := g_g hf
    obtain ⟨r11, h9, hf⟩ := g_b1 hf
    refine g_cI F (As := []) (rest := []) (cfr_isThere h9) (cwV 0 hts gX10_lose_X4_isThere rfl rfl rfl (by decide +kernel) ⟨Nat.le_of_ble_eq_true rfl, Nat.le_of_ble_eq_true rfl⟩) hw (hw.recv (ci := 4) (q0 := 2 + k8) rfl rfl (cf_row g10)) rfl hl.1 rfl (Nat.le_of_ble_eq_true rfl) dX10_lose_13 (fun H locs hw => ?_)
    refine lv_if_eq (tgt := 23) hx hb dX10_lose_16 (by decide) (fun c12 => ?_) (fun c12 => ?_)
    · have hf := g_f (bI_z c12) hf
      refine lv_iconst (v := 0) hx hb dX10_lose_23 (by decide) ?_
      exact B24 k8 0 X _ _ _ (lv_sub hl [0] rfl) hw hf
    · have hf := g_t (bI_nz c12) hf
      refine lv_iconst (v := 1) hx hb dX10_lose_19 (by decide) ?_
      refine lv_goto (tgt := 24) hx hb dX10_lose_20 (by decide) ?_
      exact B24 k8 1 X _ _ _ (lv_sub hl [0] rfl) hw hf

abbrev rm_cx_put : Room := { frames := 2, cells := 0, slots := 0, locals := 43 }
set_option maxHeartbeats 4000000 in
set_option maxRecDepth 100000 in
theorem ccx_put {l : Launch} {D : va_G} {ty : gT} {A : Nat → Prop} {ad : Nat → Nat} {wr : va_W} {G : Nat} {S : Nat} {x1 : Int32} {x2 : Int32} {x3 : Int32} {X : gC} {r : Int32} {σ' : gC} (hf : cx_put G S X x1 x2 x3 = some (r, σ')) : gI l D ty A yX10_put wsX10_put rm_cx_put [.ref (ad 0), .int x1, .int x2, .int x3] (cw ty ad G S X wr) r (cw ty ad G S σ' wr) := by
  refine gI_enter (cc := cX10_put) (maxL := 5) (by decide) rfl (Nat.le_of_ble_eq_true rfl) ?_
  intro p e s m args below meth c Q ls F hl hw hret
  have F : CallFix p m c cX10_put 5 s args wsX10_put RX10 := F
  obtain ⟨hx, hb, hml, hown, hts⟩ := id F
  have hl : lv_has ls 5 [(0, .ref (ad 0)), (1, .int x1), (2, .int x2), (3, .int x3)] := hl
  have hinX10 : ∀ w ∈ wsX100, w ∈ wsX10_put := by first | exact fun w h => List.mem_cons_of_mem _ (List.mem_append_left _ (List.mem_append_right _ h)) | decide +kernel
  have kf45 := hts (.fieldLink RX10 45 "GossipGate" "latestFault" "I") (by decide +kernel)
  unfold cx_put at hf
  refine lv_aload_n hx hb dX10_put_0 rfl (lv_at hl 0 rfl) ?_
  refine lv_iconst (v := 0) hx hb dX10_put_1 (by decide) ?_
  refine cf_put_X10_5 F hinX10 hw kf45 dX10_put_2 (fun H locs hw => ?_)
  obtain ⟨X1, eX1, hf⟩ := g_let hf
  have hw := cw_re eX1 hw
  refine lv_aload_n hx hb dX10_put_5 rfl (lv_at hl 0 rfl) ?_
  refine lv_iload_n hx hb dX10_put_6 rfl (lv_at hl 1 rfl) ?_
  obtain ⟨r3, h2, hf⟩ := g_b1 hf
  refine g_cQ F (As := [.int x1]) (rest := []) (ccx_rowAt h2) (cwV 1 hts gX10_put_X10_rowAt rfl rfl rfl (by decide +kernel) ⟨Nat.le_of_ble_eq_true rfl, Nat.le_of_ble_eq_true rfl⟩) hw (hw.recv (ci := 10) (q0 := 0) rfl rfl rfl) rfl hl.1 rfl (Nat.le_of_ble_eq_true rfl) dX10_put_7 (fun H locs hw => ?_)
  rcases r3 with _ | k4
  · replace hf := gN_n hf
    refine lv_astoreN (lv' := [(4, .null), (0, .ref (ad 0)), (1, .int x1), (2, .int x2), (3, .int x3)]) hx hb dX10_put_10 hl (by decide) rfl (fun ls hl => ?_)
    refine lv_aloadN hx hb dX10_put_12 (lv_at hl 0 rfl) ?_
    refine lv_ifnonnullN hx hb dX10_put_14 ?_
    refine lv_iconst (v := (-1)) hx hb dX10_put_17 (by decide) ?_
    exact hret (-1) _ _ _ _ _ (g_i1 hf) (congrArg (fun t => cw ty ad G S t wr) (g_i2 hf)) hw dX10_put_18
  · replace hf := gN_s hf
    refine lv_astore (lv' := [(4, .ref (ad (2 + k4))), (0, .ref (ad 0)), (1, .int x1), (2, .int x2), (3, .int x3)]) hx hb dX10_put_10 hl (by decide) rfl (fun ls hl => ?_)
    refine lv_aload hx hb dX10_put_12 (lv_at hl 0 rfl) ?_
    refine lv_ifnonnull (tgt := 19) hx hb dX10_put_14 (by decide) ?_
    refine lv_aload hx hb dX10_put_19 (lv_at hl 0 rfl) ?_
    obtain ⟨g6, hf⟩ := g_g hf
    obtain ⟨r7, h5, hf⟩ := g_b1 hf
    refine g_cI F (As := []) (rest := []) (cfr_isThere h5) (cwV 0 hts gX10_put_X4_isThere rfl rfl rfl (by decide +kernel) ⟨Nat.le_of_ble_eq_true rfl, Nat.le_of_ble_eq_true rfl⟩) hw (hw.recv (ci := 4) (q0 := 2 + k4) rfl rfl (cf_row g6)) rfl hl.1 rfl (Nat.le_of_ble_eq_true rfl) dX10_put_21 (fun H locs hw => ?_)
    refine lv_if_ne (tgt := 33) hx hb dX10_put_24 (by decide) (fun c8 => ?_) (fun c8 => ?_)
    · have hf := g_t (bI_nz c8) hf
      refine lv_aload hx hb dX10_put_33 (lv_at hl 0 rfl) ?_
      refine lv_iload_n hx hb dX10_put_35 rfl (lv_at hl 3 rfl) ?_
      obtain ⟨r10, h9, hf⟩ := g_b1 hf
      refine g_cI F (As := [.int x2]) (rest := []) (cfr_hasCell h9) (cwV 1 hts gX10_put_X4_hasCell rfl rfl rfl (by decide +kernel) ⟨Nat.le_of_ble_eq_true rfl, Nat.le_of_ble_eq_true rfl⟩) hw (hw.recv (ci := 4) (q0 := 2 + k4) rfl rfl (cf_row g6)) rfl hl.1 rfl (Nat.le_of_ble_eq_true rfl) dX10_put_36 (fun H locs hw => ?_)
      refine lv_if_ne (tgt := 48) hx hb dX10_put_39 (by decide) (fun c11 => ?_) (fun c11 => ?_)
      · have hf := g_t (bI_nz c11) hf
        refine lv_aload hx hb dX10_put_48 (lv_at hl 0 rfl) ?_
        refine lv_iload_n hx hb dX10_put_50 rfl (lv_at hl 3 rfl) ?_
        refine lv_iload_n hx hb dX10_put_51 rfl (lv_at hl 4 rfl) ?_
        obtain ⟨r13, X14, h12, hf⟩ := g_b2 hf
        refine g_cV F (As := [.int x2, .int x3]) (rest := []) (cfr_write h12) (cwV 2 hts gX10_put_X4_write rfl rfl rfl (by decide +kernel) ⟨Nat.le_of_ble_eq_true rfl, Nat.le_of_ble_eq_true rfl⟩) hw (hw.recv (ci := 4) (q0 := 2 + k4) rfl rfl (cf_row g6)) rfl hl.1 rfl (Nat.le_of_ble_eq_true rfl) dX10_put_52 (fun H locs hw => ?_)
        obtain ⟨X15, eX15, hf⟩ := g_let hf
        have hw := cw_re eX15 hw
        refine lv_iconst (v := 1) hx hb dX10_put_55 (by decide) ?_
        exact hret 1 _ _ _ _ _ (g_i1 hf) (congrArg (fun t => cw ty ad G S t wr) (g_i2 hf)) hw dX10_put_56
      · have hf := g_f (bI_z c11) hf
        refine lv_aload_n hx hb dX10_put_42 rfl (lv_at hl 1 rfl) ?_
        refine lv_iconst (v := 3) hx hb dX10_put_43 (by decide) ?_
        obtain ⟨r17, X18, h16, hf⟩ := g_b2 hf
        refine g_cI F (As := [.int 3]) (rest := []) (ccx_failBy h16) (cwV 1 hts gX10_put_X10_failBy rfl rfl rfl (by decide +kernel) ⟨Nat.le_of_ble_eq_true rfl, Nat.le_of_ble_eq_true rfl⟩) hw (hw.recv (ci := 10) (q0 := 0) rfl rfl rfl) rfl hl.1 rfl (Nat.le_of_ble_eq_true rfl) dX10_put_44 (fun H locs hw => ?_)
        exact hret r17 _ _ _ _ _ (g_i1 hf) (congrArg (fun t => cw ty ad G S t wr) (g_i2 hf)) hw dX10_put_47
    · have hf := g_f (bI_z c8) hf
      refine lv_aload_n hx hb dX10_put_27 rfl (lv_at hl 1 rfl) ?_
      refine lv_iconst (v := 1) hx hb dX10_put_28 (by decide) ?_
      obtain ⟨r20, X21, h19, hf⟩ := g_b2 hf
      refine g_cI F (As := [.int 1]) (rest := []) (ccx_failBy h19) (cwV 1 hts gX10_put_X10_failBy rfl rfl rfl (by decide +kernel) ⟨Nat.le_of_ble_eq_true rfl, Nat.le_of_ble_eq_true rfl⟩) hw (hw.recv (ci := 10) (q0 := 0) rfl rfl rfl) rfl hl.1 rfl (Nat.le_of_ble_eq_true rfl) dX10_put_29 (fun H locs hw => ?_)
      exact hret r20 _ _ _ _ _ (g_i1 hf) (congrArg (fun t => cw ty ad G S t wr) (g_i2 hf)) hw dX10_put_32

abbrev rm_cx_cell : Room := { frames := 2, cells := 0, slots := 0, locals := 43 }
set_option maxHeartbeats 4000000 in
set_option maxRecDepth 100000 in
theorem ccx_cell {l : Launch} {D : va_G} {ty : gT} {A : Nat → Prop} {ad : Nat → Nat} {wr : va_W} {G : Nat} {S : Nat} {x1 : Int32} {x2 : Int32} {x3 : Int32} {X : gC} {r : Int64} {σ' : gC} (hf : cx_cell G S X x1 x2 x3 = some (r, σ')) : gL l D ty A yX10_cell wsX10_cell rm_cx_cell [.ref (ad 0), .int x1, .int x2, .int x3] (cw ty ad G S X wr) r (cw ty ad G S σ' wr) := by
  refine gL_enter (cc := cX10_cell) (maxL := 6) (by decide) rfl (Nat.le_of_ble_eq_true rfl) ?_
  intro p e s m args below meth c Q ls F hl hw hret
  have F : CallFix p m c cX10_cell 6 s args wsX10_cell RX10 := F
  obtain ⟨hx, hb, hml, hown, hts⟩ := id F
  have hl : lv_has ls 6 [(0, .ref (ad 0)), (1, .int x1), (2, .int x2), (3, .int x3)] := hl
  have hinX10 : ∀ w ∈ wsX100, w ∈ wsX10_cell := by first | exact fun w h => List.mem_cons_of_mem _ (List.mem_append_left _ (List.mem_append_right _ h)) | decide +kernel
  have kc199 := hts (.constantLong RX10 199 (-9223372036854775808)) (by decide +kernel)
  have kf45 := hts (.fieldLink RX10 45 "GossipGate" "latestFault" "I") (by decide +kernel)
  have B55 : ∀ (v2 : Int32) (v4 : Nat) (v5 : Int32) (X : gC) (H : Heap) (locs : List Loc) (ls : Array Slot), lv_has ls 6 [(0, .ref (ad 0)), (2, .int v2), (4, .ref (ad (2 + v4))), (5, .int v5)] → gW D ty A (cw ty ad G S X wr) s s.heap H locs → cx_cell_b55 G S v2 v4 v5 X = some (r, σ') → W p l e rm_cx_cell s m args below meth c H locs 0 0 Q (F0 m 55 ls []) := by
    intro v2 v4 v5 X H locs ls hl hw hf
    unfold cx_cell_b55 at hf
    refine lv_iload hx hb dX10_cell_55 (lv_at hl 3 rfl) ?_
    refine lv_if_eq (tgt := 70) hx hb dX10_cell_57 (by decide) (fun c1 => ?_) (fun c1 => ?_)
    · have hf := g_t c1 hf
      refine lv_aload hx hb dX10_cell_70 (lv_at hl 2 rfl) ?_
      refine lv_iload_n hx hb dX10_cell_72 rfl (lv_at hl 1 rfl) ?_
      obtain ⟨g3, hf⟩ := g_g hf
      obtain ⟨r4, h2, hf⟩ := g_b1 hf
      refine g_cI F (As := [.int v2]) (rest := []) (cfr_read h2) (cwV 1 hts gX10_cell_X4_read rfl rfl rfl (by decide +kernel) ⟨Nat.le_of_ble_eq_true rfl, Nat.le_of_ble_eq_true rfl⟩) hw (hw.recv (ci := 4) (q0 := 2 + v4) rfl rfl (cf_row g3)) rfl hl.1 rfl (Nat.le_of_ble_eq_true rfl) dX10_cell_73 (fun H locs hw => ?_)
      refine lv_i2l hx hb dX10_cell_76 rfl ?_
      exact hret r4.toInt64 _ _ _ _ _ (g_i1 hf) (congrArg (fun t => cw ty ad G S t wr) (g_i2 hf)) hw dX10_cell_77
    · have hf := g_f c1 hf
      refine lv_aload_n hx hb dX10_cell_60 rfl (lv_at hl 0 rfl) ?_
      refine lv_iload hx hb dX10_cell_61 (lv_at hl 3 rfl) ?_
      refine cf_put_X10_5 F hinX10 hw kf45 dX10_cell_63 (fun H locs hw => ?_)
      obtain ⟨X5, eX5, hf⟩ := g_let hf
      have hw := cw_re eX5 hw
      refine lv_ldc2 (v := (-9223372036854775808)) hx hb hown kc199 dX10_cell_66 ?_
      exact hret (-9223372036854775808) _ _ _ _ _ (g_i1 hf) (congrArg (fun t => cw ty ad G S t wr) (g_i2 hf)) hw dX10_cell_69
  unfold cx_cell at hf
  refine lv_aload_n hx hb dX10_cell_0 rfl (lv_at hl 0 rfl) ?_
  refine lv_iconst (v := 0) hx hb dX10_cell_1 (by decide) ?_
  refine cf_put_X10_5 F hinX10 hw kf45 dX10_cell_2 (fun H locs hw => ?_)
  obtain ⟨X6, eX6, hf⟩ := g_let hf
  have hw := cw_re eX6 hw
  refine lv_aload_n hx hb dX10_cell_5 rfl (lv_at hl 0 rfl) ?_
  refine lv_iload_n hx hb dX10_cell_6 rfl (lv_at hl 1 rfl) ?_
  obtain ⟨r8, h7, hf⟩ := g_b1 hf
  refine g_cQ F (As := [.int x1]) (rest := []) (ccx_rowAt h7) (cwV 1 hts gX10_cell_X10_rowAt rfl rfl rfl (by decide +kernel) ⟨Nat.le_of_ble_eq_true rfl, Nat.le_of_ble_eq_true rfl⟩) hw (hw.recv (ci := 10) (q0 := 0) rfl rfl rfl) rfl hl.1 rfl (Nat.le_of_ble_eq_true rfl) dX10_cell_7 (fun H locs hw => ?_)
  rcases r8 with _ | k9
  · replace hf := gN_n hf
    refine lv_astoreN (lv' := [(4, .null), (0, .ref (ad 0)), (1, .int x1), (2, .int x2), (3, .int x3)]) hx hb dX10_cell_10 hl (by decide) rfl (fun ls hl => ?_)
    refine lv_aloadN hx hb dX10_cell_12 (lv_at hl 0 rfl) ?_
    refine lv_ifnullN (tgt := 26) hx hb dX10_cell_14 (by decide) ?_
    refine lv_ldc2 (v := (-9223372036854775808)) hx hb hown kc199 dX10_cell_26 ?_
    exact hret (-9223372036854775808) _ _ _ _ _ (g_i1 hf) (congrArg (fun t => cw ty ad G S t wr) (g_i2 hf)) hw dX10_cell_29
  · replace hf := gN_s hf
    refine lv_astore (lv' := [(4, .ref (ad (2 + k9))), (0, .ref (ad 0)), (1, .int x1), (2, .int x2), (3, .int x3)]) hx hb dX10_cell_10 hl (by decide) rfl (fun ls hl => ?_)
    refine lv_aload hx hb dX10_cell_12 (lv_at hl 0 rfl) ?_
    refine lv_ifnull hx hb dX10_cell_14 ?_
    refine lv_iload_n hx hb dX10_cell_17 rfl (lv_at hl 4 rfl) ?_
    refine lv_iconst (v := 0) hx hb dX10_cell_18 (by decide) ?_
    refine lv_iconst (v := 2) hx hb dX10_cell_19 (by decide) ?_
    obtain ⟨r11, h10, hf⟩ := g_b1 hf
    refine g_sI F (As := [.int x3, .int 0, .int 2]) (rest := []) (ccx_isWithin h10) (va_cwS 3 hts gX10_cell_X10_isWithin rfl rfl rfl (by decide +kernel) ⟨Nat.le_of_ble_eq_true rfl, Nat.le_of_ble_eq_true rfl⟩) hw rfl hl.1 rfl (Nat.le_of_ble_eq_true rfl) dX10_cell_20 (fun H locs hw => ?_)
    refine lv_if_ne (tgt := 30) hx hb dX10_cell_23 (by decide) (fun c12 => ?_) (fun c12 => ?_)
    · have hf := g_t (bI_nz c12) hf
      refine lv_aload hx hb dX10_cell_30 (lv_at hl 0 rfl) ?_
      refine lv_iload_n hx hb dX10_cell_32 rfl (lv_at hl 4 rfl) ?_
      obtain ⟨g14, hf⟩ := g_g hf
      obtain ⟨r15, h13, hf⟩ := g_b1 hf
      refine g_cI F (As := [.int x3]) (rest := []) (cfr_faultTakenAs h13) (cwV 1 hts gX10_cell_X4_faultTakenAs rfl rfl rfl (by decide +kernel) ⟨Nat.le_of_ble_eq_true rfl, Nat.le_of_ble_eq_true rfl⟩) hw (hw.recv (ci := 4) (q0 := 2 + k9) rfl rfl (cf_row g14)) rfl hl.1 rfl (Nat.le_of_ble_eq_true rfl) dX10_cell_33 (fun H locs hw => ?_)
      refine lv_istore (lv' := [(5, .int r15), (4, .ref (ad (2 + k9))), (0, .ref (ad 0)), (1, .int x1), (2, .int x2), (3, .int x3)]) hx hb dX10_cell_36 hl (by decide) rfl (fun ls hl => ?_)
      refine lv_iload hx hb dX10_cell_38 (lv_at hl 0 rfl) ?_
      refine lv_if_ne (tgt := 55) hx hb dX10_cell_40 (by decide) (fun c16 => ?_) (fun c16 => ?_)
      · have hf := g_f c16 hf
        exact B55 x2 k9 r15 X6 _ _ _ (lv_sub hl [2, 4, 1, 0] rfl) hw hf
      · have hf := g_t c16 hf
        refine lv_aload hx hb dX10_cell_43 (lv_at hl 1 rfl) ?_
        refine lv_iload_n hx hb dX10_cell_45 rfl (lv_at hl 4 rfl) ?_
        obtain ⟨r18, h17, hf⟩ := g_b1 hf
        refine g_cI F (As := [.int x2]) (rest := []) (cfr_hasCell h17) (cwV 1 hts gX10_cell_X4_hasCell rfl rfl rfl (by decide +kernel) ⟨Nat.le_of_ble_eq_true rfl, Nat.le_of_ble_eq_true rfl⟩) hw (hw.recv (ci := 4) (q0 := 2 + k9) rfl rfl (cf_row g14)) rfl hl.1 rfl (Nat.le_of_ble_eq_true rfl) dX10_cell_46 (fun H locs hw => ?_)
        refine lv_if_ne (tgt := 55) hx hb dX10_cell_49 (by decide) (fun c19 => ?_) (fun c19 => ?_)
        · have hf := g_t (bI_nz c19) hf
          exact B55 x2 k9 r15 X6 _ _ _ (lv_sub hl [2, 4, 1, 0] rfl) hw hf
        · have hf := g_f (bI_z c19) hf
          refine lv_iconst (v := 3) hx hb dX10_cell_52 (by decide) ?_
          refine lv_istore (lv' := [(5, .int 3), (4, .ref (ad (2 + k9))), (0, .ref (ad 0)), (1, .int x1), (2, .int x2), (3, .int x3)]) hx hb dX10_cell_53 hl (by decide) rfl (fun ls hl => ?_)
          exact B55 x2 k9 3 X6 _ _ _ (lv_sub hl [2, 4, 1, 0] rfl) hw hf
    · have hf := g_f (bI_z c12) hf
      refine lv_ldc2 (v := (-9223372036854775808)) hx hb hown kc199 dX10_cell_26 ?_
      exact hret (-9223372036854775808) _ _ _ _ _ (g_i1 hf) (congrArg (fun t => cw ty ad G S t wr) (g_i2 hf)) hw dX10_cell_29

abbrev rm_cx_copy : Room := { frames := 2, cells := 0, slots := 0, locals := 43 }
set_option maxHeartbeats 4000000 in
set_option maxRecDepth 100000 in
theorem ccx_copy {l : Launch} {D : va_G} {ty : gT} {A : Nat → Prop} {ad : Nat → Nat} {wr : va_W} {G : Nat} {S : Nat} {x1 : Int32} {x2 : Int32} {x3 : Int32} {x4 : Int32} {x5 : Int32} {X : gC} {r : Int32} {σ' : gC} (hf : cx_copy G S X x1 x2 x3 x4 x5 = some (r, σ')) : gI l D ty A yX10_copy wsX10_copy rm_cx_copy [.ref (ad 0), .int x1, .int x2, .int x3, .int x4, .int x5] (cw ty ad G S X wr) r (cw ty ad G S σ' wr) := by
  refine gI_enter (cc := cX10_copy) (maxL := 8) (by decide) rfl (Nat.le_of_ble_eq_true rfl) ?_
  intro p e s m args below meth c Q ls F hl hw hret
  have F : CallFix p m c cX10_copy 8 s args wsX10_copy RX10 := F
  obtain ⟨hx, hb, hml, hown, hts⟩ := id F
  have hl : lv_has ls 8 [(0, .ref (ad 0)), (1, .int x1), (2, .int x2), (3, .int x3), (4, .int x4), (5, .int x5)] := hl
  have hinX10 : ∀ w ∈ wsX100, w ∈ wsX10_copy := by first | exact fun w h => List.mem_cons_of_mem _ (List.mem_append_left _ (List.mem_append_right _ h)) | decide +kernel
  have hinX4 : ∀ w ∈ wsX40, w ∈ wsX10_copy := by first | exact fun w h => List.mem_cons_of_mem _ (List.mem_append_right _ h) | decide +kernel
  have kaI := hts (.initialized "java/lang/System") (by decide +kernel)
  have kaL := hts (.methodLink RX10 233 arraycopyName) (by decide +kernel)
  have kaN := hts (.native arraycopyName) (by decide +kernel)
  have kaS := hts (.static arraycopyName) (by decide +kernel)
  have kf226 := hts (.fieldLink RX10 226 "GossipGate$Row" "lane" "I") (by decide +kernel)
  have kf229 := hts (.fieldLink RX10 229 "GossipGate$Row" "cells" "[I") (by decide +kernel)
  have kf45 := hts (.fieldLink RX10 45 "GossipGate" "latestFault" "I") (by decide +kernel)
  have B47 : ∀  (X : gC) (H : Heap) (locs : List Loc) (ls : Array Slot), lv_has ls 8 [(0, .ref (ad 0))] → gW D ty A (cw ty ad G S X wr) s s.heap H locs → cx_copy_b47 G S X = some (r, σ') → W p l e rm_cx_copy s m args below meth c H locs 0 0 Q (F0 m 47 ls []) := by
    intro X H locs ls hl hw hf
    unfold cx_copy_b47 at hf
    refine lv_aload_n hx hb dX10_copy_47 rfl (lv_at hl 0 rfl) ?_
    refine lv_iconst (v := 1) hx hb dX10_copy_48 (by decide) ?_
    obtain ⟨r2, X3, h1, hf⟩ := g_b2 hf
    refine g_cI F (As := [.int 1]) (rest := []) (ccx_failBy h1) (cwV 1 hts gX10_copy_X10_failBy rfl rfl rfl (by decide +kernel) ⟨Nat.le_of_ble_eq_true rfl, Nat.le_of_ble_eq_true rfl⟩) hw (hw.recv (ci := 10) (q0 := 0) rfl rfl rfl) rfl hl.1 rfl (Nat.le_of_ble_eq_true rfl) dX10_copy_49 (fun H locs hw => ?_)
    exact hret r2 _ _ _ _ _ (g_i1 hf) (congrArg (fun t => cw ty ad G S t wr) (g_i2 hf)) hw dX10_copy_52
  have B95 : ∀  (X : gC) (H : Heap) (locs : List Loc) (ls : Array Slot), lv_has ls 8 [(0, .ref (ad 0))] → gW D ty A (cw ty ad G S X wr) s s.heap H locs → cx_copy_b95 G S X = some (r, σ') → W p l e rm_cx_copy s m args below meth c H locs 0 0 Q (F0 m 95 ls []) := by
    intro X H locs ls hl hw hf
    unfold cx_copy_b95 at hf
    refine lv_aload_n hx hb dX10_copy_95 rfl (lv_at hl 0 rfl) ?_
    refine lv_iconst (v := 3) hx hb dX10_copy_96 (by decide) ?_
    obtain ⟨r5, X6, h4, hf⟩ := g_b2 hf
    refine g_cI F (As := [.int 3]) (rest := []) (ccx_failBy h4) (cwV 1 hts gX10_copy_X10_failBy rfl rfl rfl (by decide +kernel) ⟨Nat.le_of_ble_eq_true rfl, Nat.le_of_ble_eq_true rfl⟩) hw (hw.recv (ci := 10) (q0 := 0) rfl rfl rfl) rfl hl.1 rfl (Nat.le_of_ble_eq_true rfl) dX10_copy_97 (fun H locs hw => ?_)
    exact hret r5 _ _ _ _ _ (g_i1 hf) (congrArg (fun t => cw ty ad G S t wr) (g_i2 hf)) hw dX10_copy_100
  unfold cx_copy at hf
  refine lv_aload_n hx hb dX10_copy_0 rfl (lv_at hl 0 rfl) ?_
  refine lv_iconst (v := 0) hx hb dX10_copy_1 (by decide) ?_
  refine cf_put_X10_5 F hinX10 hw kf45 dX10_copy_2 (fun H locs hw => ?_)
  obtain ⟨X7, eX7, hf⟩ := g_let hf
  have hw := cw_re eX7 hw
  refine lv_aload_n hx hb dX10_copy_5 rfl (lv_at hl 0 rfl) ?_
  refine lv_iload_n hx hb dX10_copy_6 rfl (lv_at hl 1 rfl) ?_
  obtain ⟨r9, h8, hf⟩ := g_b1 hf
  refine g_cQ F (As := [.int x1]) (rest := []) (ccx_rowAt h8) (cwV 1 hts gX10_copy_X10_rowAt rfl rfl rfl (by decide +kernel) ⟨Nat.le_of_ble_eq_true rfl, Nat.le_of_ble_eq_true rfl⟩) hw (hw.recv (ci := 10) (q0 := 0) rfl rfl rfl) rfl hl.1 rfl (Nat.le_of_ble_eq_true rfl) dX10_copy_7 (fun H locs hw => ?_)
  rcases r9 with _ | k10
  · replace hf := gN_n hf
    refine lv_astoreN (lv' := [(6, .null), (0, .ref (ad 0)), (1, .int x1), (2, .int x2), (3, .int x3), (4, .int x4), (5, .int x5)]) hx hb dX10_copy_10 hl (by decide) rfl (fun ls hl => ?_)
    refine lv_aload_n hx hb dX10_copy_12 rfl (lv_at hl 1 rfl) ?_
    refine lv_iload_n hx hb dX10_copy_13 rfl (lv_at hl 4 rfl) ?_
    obtain ⟨r12, h11, hf⟩ := g_b1 hf
    refine g_cQ F (As := [.int x3]) (rest := []) (ccx_rowAt h11) (cwV 1 hts gX10_copy_X10_rowAt rfl rfl rfl (by decide +kernel) ⟨Nat.le_of_ble_eq_true rfl, Nat.le_of_ble_eq_true rfl⟩) hw (hw.recv (ci := 10) (q0 := 0) rfl rfl rfl) rfl hl.1 rfl (Nat.le_of_ble_eq_true rfl) dX10_copy_14 (fun H locs hw => ?_)
    rcases r12 with _ | k13
    · replace hf := gN_n hf
      refine lv_astoreN (lv' := [(7, .null), (6, .null), (0, .ref (ad 0)), (1, .int x1), (2, .int x2), (3, .int x3), (4, .int x4), (5, .int x5)]) hx hb dX10_copy_17 hl (by decide) rfl (fun ls hl => ?_)
      refine lv_aloadN hx hb dX10_copy_19 (lv_at hl 1 rfl) ?_
      refine lv_ifnullN (tgt := 29) hx hb dX10_copy_21 (by decide) ?_
      refine lv_iconst (v := (-1)) hx hb dX10_copy_29 (by decide) ?_
      exact hret (-1) _ _ _ _ _ (g_i1 hf) (congrArg (fun t => cw ty ad G S t wr) (g_i2 hf)) hw dX10_copy_30
    · replace hf := gN_s hf
      refine lv_astore (lv' := [(7, .ref (ad (2 + k13))), (6, .null), (0, .ref (ad 0)), (1, .int x1), (2, .int x2), (3, .int x3), (4, .int x4), (5, .int x5)]) hx hb dX10_copy_17 hl (by decide) rfl (fun ls hl => ?_)
      refine lv_aloadN hx hb dX10_copy_19 (lv_at hl 1 rfl) ?_
      refine lv_ifnullN (tgt := 29) hx hb dX10_copy_21 (by decide) ?_
      refine lv_iconst (v := (-1)) hx hb dX10_copy_29 (by decide) ?_
      exact hret (-1) _ _ _ _ _ (g_i1 hf) (congrArg (fun t => cw ty ad G S t wr) (g_i2 hf)) hw dX10_copy_30
  · replace hf := gN_s hf
    refine lv_astore (lv' := [(6, .ref (ad (2 + k10))), (0, .ref (ad 0)), (1, .int x1), (2, .int x2), (3, .int x3), (4, .int x4), (5, .int x5)]) hx hb dX10_copy_10 hl (by decide) rfl (fun ls hl => ?_)
    refine lv_aload_n hx hb dX10_copy_12 rfl (lv_at hl 1 rfl) ?_
    refine lv_iload_n hx hb dX10_copy_13 rfl (lv_at hl 4 rfl) ?_
    obtain ⟨r15, h14, hf⟩ := g_b1 hf
    refine g_cQ F (As := [.int x3]) (rest := []) (ccx_rowAt h14) (cwV 1 hts gX10_copy_X10_rowAt rfl rfl rfl (by decide +kernel) ⟨Nat.le_of_ble_eq_true rfl, Nat.le_of_ble_eq_true rfl⟩) hw (hw.recv (ci := 10) (q0 := 0) rfl rfl rfl) rfl hl.1 rfl (Nat.le_of_ble_eq_true rfl) dX10_copy_14 (fun H locs hw => ?_)
    rcases r15 with _ | k16
    · replace hf := gN_n hf
      refine lv_astoreN (lv' := [(7, .null), (6, .ref (ad (2 + k10))), (0, .ref (ad 0)), (1, .int x1), (2, .int x2), (3, .int x3), (4, .int x4), (5, .int x5)]) hx hb dX10_copy_17 hl (by decide) rfl (fun ls hl => ?_)
      refine lv_aload hx hb dX10_copy_19 (lv_at hl 1 rfl) ?_
      refine lv_ifnull hx hb dX10_copy_21 ?_
      refine lv_aloadN hx hb dX10_copy_24 (lv_at hl 0 rfl) ?_
      refine lv_ifnonnullN hx hb dX10_copy_26 ?_
      refine lv_iconst (v := (-1)) hx hb dX10_copy_29 (by decide) ?_
      exact hret (-1) _ _ _ _ _ (g_i1 hf) (congrArg (fun t => cw ty ad G S t wr) (g_i2 hf)) hw dX10_copy_30
    · replace hf := gN_s hf
      refine lv_astore (lv' := [(7, .ref (ad (2 + k16))), (6, .ref (ad (2 + k10))), (0, .ref (ad 0)), (1, .int x1), (2, .int x2), (3, .int x3), (4, .int x4), (5, .int x5)]) hx hb dX10_copy_17 hl (by decide) rfl (fun ls hl => ?_)
      refine lv_aload hx hb dX10_copy_19 (lv_at hl 1 rfl) ?_
      refine lv_ifnull hx hb dX10_copy_21 ?_
      refine lv_aload hx hb dX10_copy_24 (lv_at hl 0 rfl) ?_
      refine lv_ifnonnull (tgt := 31) hx hb dX10_copy_26 (by decide) ?_
      refine lv_aload hx hb dX10_copy_31 (lv_at hl 1 rfl) ?_
      obtain ⟨g18, hf⟩ := g_g hf
      obtain ⟨r19, h17, hf⟩ := g_b1 hf
      refine g_cI F (As := []) (rest := []) (cfr_isThere h17) (cwV 0 hts gX10_copy_X4_isThere rfl rfl rfl (by decide +kernel) ⟨Nat.le_of_ble_eq_true rfl, Nat.le_of_ble_eq_true rfl⟩) hw (hw.recv (ci := 4) (q0 := 2 + k10) rfl rfl (cf_row g18)) rfl hl.1 rfl (Nat.le_of_ble_eq_true rfl) dX10_copy_33 (fun H locs hw => ?_)
      refine lv_if_eq (tgt := 47) hx hb dX10_copy_36 (by decide) (fun c20 => ?_) (fun c20 => ?_)
      · have hf := g_f (bI_z c20) hf
        exact B47 X7 _ _ _ (lv_sub hl [2] rfl) hw hf
      · have hf := g_t (bI_nz c20) hf
        refine lv_aload hx hb dX10_copy_39 (lv_at hl 0 rfl) ?_
        obtain ⟨g22, hf⟩ := g_g hf
        obtain ⟨r23, h21, hf⟩ := g_b1 hf
        refine g_cI F (As := []) (rest := []) (cfr_isThere h21) (cwV 0 hts gX10_copy_X4_isThere rfl rfl rfl (by decide +kernel) ⟨Nat.le_of_ble_eq_true rfl, Nat.le_of_ble_eq_true rfl⟩) hw (hw.recv (ci := 4) (q0 := 2 + k16) rfl rfl (cf_row g22)) rfl hl.1 rfl (Nat.le_of_ble_eq_true rfl) dX10_copy_41 (fun H locs hw => ?_)
        refine lv_if_ne (tgt := 53) hx hb dX10_copy_44 (by decide) (fun c24 => ?_) (fun c24 => ?_)
        · have hf := g_t (bI_nz c24) hf
          refine lv_aload hx hb dX10_copy_53 (lv_at hl 1 rfl) ?_
          refine cf_row_get_1 F hinX4 hw g18 kf226 dX10_copy_55 ?_
          refine lv_aload hx hb dX10_copy_58 (lv_at hl 0 rfl) ?_
          refine cf_row_get_1 F hinX4 hw g22 kf226 dX10_copy_60 ?_
          refine lv_icmp_eq (tgt := 72) hx hb dX10_copy_63 (by decide) (fun c25 => ?_) (fun c25 => ?_)
          · have hf := g_t c25 hf
            refine lv_aload hx hb dX10_copy_72 (lv_at hl 1 rfl) ?_
            refine lv_iload_n hx hb dX10_copy_74 rfl (lv_at hl 4 rfl) ?_
            refine lv_iload hx hb dX10_copy_75 (lv_at hl 7 rfl) ?_
            obtain ⟨r27, h26, hf⟩ := g_b1 hf
            refine g_cI F (As := [.int x2, .int x5]) (rest := []) (cfr_hasCells h26) (cwV 2 hts gX10_copy_X4_hasCells rfl rfl rfl (by decide +kernel) ⟨Nat.le_of_ble_eq_true rfl, Nat.le_of_ble_eq_true rfl⟩) hw (hw.recv (ci := 4) (q0 := 2 + k10) rfl rfl (cf_row g18)) rfl hl.1 rfl (Nat.le_of_ble_eq_true rfl) dX10_copy_77 (fun H locs hw => ?_)
            refine lv_if_eq (tgt := 95) hx hb dX10_copy_80 (by decide) (fun c28 => ?_) (fun c28 => ?_)
            · have hf := g_f (bI_z c28) hf
              exact B95 X7 _ _ _ (lv_sub hl [2] rfl) hw hf
            · have hf := g_t (bI_nz c28) hf
              refine lv_aload hx hb dX10_copy_83 (lv_at hl 0 rfl) ?_
              refine lv_iload hx hb dX10_copy_85 (lv_at hl 6 rfl) ?_
              refine lv_iload hx hb dX10_copy_87 (lv_at hl 7 rfl) ?_
              obtain ⟨r30, h29, hf⟩ := g_b1 hf
              refine g_cI F (As := [.int x4, .int x5]) (rest := []) (cfr_hasCells h29) (cwV 2 hts gX10_copy_X4_hasCells rfl rfl rfl (by decide +kernel) ⟨Nat.le_of_ble_eq_true rfl, Nat.le_of_ble_eq_true rfl⟩) hw (hw.recv (ci := 4) (q0 := 2 + k16) rfl rfl (cf_row g22)) rfl hl.1 rfl (Nat.le_of_ble_eq_true rfl) dX10_copy_89 (fun H locs hw => ?_)
              refine lv_if_ne (tgt := 101) hx hb dX10_copy_92 (by decide) (fun c31 => ?_) (fun c31 => ?_)
              · have hf := g_t (bI_nz c31) hf
                refine lv_aload hx hb dX10_copy_101 (lv_at hl 1 rfl) ?_
                refine cf_row_get_0 F hinX4 hw g18 kf229 dX10_copy_103 ?_
                refine lv_iload_n hx hb dX10_copy_106 rfl (lv_at hl 4 rfl) ?_
                refine lv_aload hx hb dX10_copy_107 (lv_at hl 0 rfl) ?_
                refine cf_row_get_0 F hinX4 hw g22 kf229 dX10_copy_109 ?_
                refine lv_iload hx hb dX10_copy_112 (lv_at hl 6 rfl) ?_
                refine lv_iload hx hb dX10_copy_114 (lv_at hl 7 rfl) ?_
                obtain ⟨g32, hf⟩ := g_g hf
                refine cw_copy F (hml.trans hl.1.symm) kaL kaN kaS kaI hw g18 g22 g32 (Nat.le_of_ble_eq_true rfl) (Nat.le_of_ble_eq_true rfl) dX10_copy_116 (fun H locs hw => ?_)
                obtain ⟨X33, eX33, hf⟩ := g_let hf
                have hw := cw_re eX33 hw
                refine lv_iload hx hb dX10_copy_119 (lv_at hl 7 rfl) ?_
                exact hret x5 _ _ _ _ _ (g_i1 hf) (congrArg (fun t => cw ty ad G S t wr) (g_i2 hf)) hw dX10_copy_121
              · have hf := g_f (bI_z c31) hf
                exact B95 X7 _ _ _ (lv_sub hl [2] rfl) hw hf
          · have hf := g_f c25 hf
            refine lv_aload_n hx hb dX10_copy_66 rfl (lv_at hl 2 rfl) ?_
            refine lv_iconst (v := 2) hx hb dX10_copy_67 (by decide) ?_
            obtain ⟨r35, X36, h34, hf⟩ := g_b2 hf
            refine g_cI F (As := [.int 2]) (rest := []) (ccx_failBy h34) (cwV 1 hts gX10_copy_X10_failBy rfl rfl rfl (by decide +kernel) ⟨Nat.le_of_ble_eq_true rfl, Nat.le_of_ble_eq_true rfl⟩) hw (hw.recv (ci := 10) (q0 := 0) rfl rfl rfl) rfl hl.1 rfl (Nat.le_of_ble_eq_true rfl) dX10_copy_68 (fun H locs hw => ?_)
            exact hret r35 _ _ _ _ _ (g_i1 hf) (congrArg (fun t => cw ty ad G S t wr) (g_i2 hf)) hw dX10_copy_71
        · have hf := g_f (bI_z c24) hf
          exact B47 X7 _ _ _ (lv_sub hl [2] rfl) hw hf

abbrev rm_cx_tell : Room := { frames := 5, cells := 0, slots := 0, locals := 106 }
set_option maxHeartbeats 4000000 in
set_option maxRecDepth 100000 in
theorem ccx_tell {l : Launch} {D : va_G} {ty : gT} {A : Nat → Prop} {ad : Nat → Nat} {wr : va_W} {G : Nat} {S : Nat} {x1 : Int32} {X : gC} {r : Int32} {σ' : gC} (hf : cx_tell G S X x1 = some (r, σ')) : gI l D ty A yX10_tell wsX10_tell rm_cx_tell [.ref (ad 0), .int x1] (cw ty ad G S X wr) r (cw ty ad G S σ' wr) := by
  refine gI_enter (cc := cX10_tell) (maxL := 3) (by decide) rfl (Nat.le_of_ble_eq_true rfl) ?_
  intro p e s m args below meth c Q ls F hl hw hret
  have F : CallFix p m c cX10_tell 3 s args wsX10_tell RX10 := F
  obtain ⟨hx, hb, hml, hown, hts⟩ := id F
  have hl : lv_has ls 3 [(0, .ref (ad 0)), (1, .int x1)] := hl
  have hinX10 : ∀ w ∈ wsX100, w ∈ wsX10_tell := by first | exact fun w h => List.mem_cons_of_mem _ (List.mem_append_left _ (List.mem_append_left _ (List.mem_append_left _ (List.mem_append_left _ (List.mem_append_left _ (List.mem_append_right _ h)))))) | decide +kernel
  have kf20 := hts (.fieldLink RX10 20 "GossipGate" "theTown" "LGossipGate$Town;") (by decide +kernel)
  have kf41 := hts (.fieldLink RX10 41 "GossipGate" "steps" "LGossipGate$Trace;") (by decide +kernel)
  unfold cx_tell at hf
  refine lv_aload_n hx hb dX10_tell_0 rfl (lv_at hl 0 rfl) ?_
  refine cf_get_X10_1 F hinX10 hw kf20 dX10_tell_1 ?_
  refine lv_iload_n hx hb dX10_tell_4 rfl (lv_at hl 1 rfl) ?_
  obtain ⟨r2, h1, hf⟩ := g_b1 hf
  refine g_cQ F (As := [.int x1]) (rest := []) (cct_gateAt h1) (cwV 1 hts gX10_tell_X8_gateAt rfl rfl rfl (by decide +kernel) ⟨Nat.le_of_ble_eq_true rfl, Nat.le_of_ble_eq_true rfl⟩) hw (hw.recv (ci := 8) (q0 := 10) rfl rfl rfl) rfl hl.1 rfl (Nat.le_of_ble_eq_true rfl) dX10_tell_5 (fun H locs hw => ?_)
  rcases r2 with _ | k3
  · replace hf := gN_n hf
    refine lv_astore_nN (lv' := [(2, .null), (0, .ref (ad 0)), (1, .int x1)]) hx hb dX10_tell_8 rfl hl (by decide) rfl (fun ls hl => ?_)
    refine lv_aload_nN hx hb dX10_tell_9 rfl (lv_at hl 0 rfl) ?_
    refine lv_ifnonnullN hx hb dX10_tell_10 ?_
    refine lv_iconst (v := (-1)) hx hb dX10_tell_13 (by decide) ?_
    refine lv_goto (tgt := 25) hx hb dX10_tell_14 (by decide) ?_
    exact hret (-1) _ _ _ _ _ (g_i1 hf) (congrArg (fun t => cw ty ad G S t wr) (g_i2 hf)) hw dX10_tell_25
  · replace hf := gN_s hf
    refine lv_astore_n (lv' := [(2, .ref (ad (100 + k3))), (0, .ref (ad 0)), (1, .int x1)]) hx hb dX10_tell_8 rfl hl (by decide) rfl (fun ls hl => ?_)
    refine lv_aload_n hx hb dX10_tell_9 rfl (lv_at hl 0 rfl) ?_
    refine lv_ifnonnull (tgt := 17) hx hb dX10_tell_10 (by decide) ?_
    refine lv_aload_n hx hb dX10_tell_17 rfl (lv_at hl 0 rfl) ?_
    refine lv_aload_n hx hb dX10_tell_18 rfl (lv_at hl 1 rfl) ?_
    refine cf_get_X10_4 F hinX10 hw kf41 dX10_tell_19 ?_
    obtain ⟨g4, hf⟩ := g_g hf
    by_cases c5 : X.2.2 0 k3 = 1
    · replace hf := g_t c5 hf
      obtain ⟨r8, X9, h7, hf⟩ := g_b2 hf
      refine g_uI F (As := [.ref (ad 26)]) (rest := []) (cch_telling h7) (va_cwO 1 hts gX10_tell_X6_telling_u239X6 rfl rfl rfl (b0 := cX0_telling) (m0 := 2) (r0 := some .int) (by decide +kernel) (by decide +kernel) ⟨Nat.le_of_ble_eq_true rfl, Nat.le_of_ble_eq_true rfl⟩) hw (hw.recv (ci := 6) (q0 := k3 + 27) rfl rfl (cw_gateK g4 (kc_1 c5))) rfl hl.1 rfl (Nat.le_of_ble_eq_true rfl) dX10_tell_22 (fun H locs hw => ?_)
      exact hret r8 _ _ _ _ _ (g_i1 hf) (congrArg (fun t => cw ty ad G S t wr) (g_i2 hf)) hw dX10_tell_25
    replace hf := g_f c5 hf
    by_cases c6 : X.2.2 0 k3 = 2
    · replace hf := g_t c6 hf
      obtain ⟨r11, X12, h10, hf⟩ := g_b2 hf
      refine g_uI F (As := [.ref (ad 26)]) (rest := []) (cci_telling h10) (va_cwO 1 hts gX10_tell_X1_telling_u239X1 rfl rfl rfl (b0 := cX0_telling) (m0 := 2) (r0 := some .int) (by decide +kernel) (by decide +kernel) ⟨Nat.le_of_ble_eq_true rfl, Nat.le_of_ble_eq_true rfl⟩) hw (hw.recv (ci := 1) (q0 := k3 + 27) rfl rfl (cw_gateK g4 (kc_2 c5 c6))) rfl hl.1 rfl (Nat.le_of_ble_eq_true rfl) dX10_tell_22 (fun H locs hw => ?_)
      exact hret r11 _ _ _ _ _ (g_i1 hf) (congrArg (fun t => cw ty ad G S t wr) (g_i2 hf)) hw dX10_tell_25
    · replace hf := g_f c6 hf
      obtain ⟨r14, X15, h13, hf⟩ := g_b2 hf
      refine g_cI F (As := [.ref (ad 26)]) (rest := []) (ccg_telling h13) (cwV 1 hts gX10_tell_X0_telling rfl rfl rfl (by decide +kernel) ⟨Nat.le_of_ble_eq_true rfl, Nat.le_of_ble_eq_true rfl⟩) hw (hw.recv (ci := 0) (q0 := k3 + 27) rfl rfl (cw_gateK g4 (kc_0 c5 c6))) rfl hl.1 rfl (Nat.le_of_ble_eq_true rfl) dX10_tell_22 (fun H locs hw => ?_)
      exact hret r14 _ _ _ _ _ (g_i1 hf) (congrArg (fun t => cw ty ad G S t wr) (g_i2 hf)) hw dX10_tell_25

abbrev rm_cx_knock : Room := { frames := 2, cells := 0, slots := 0, locals := 42 }
set_option maxHeartbeats 4000000 in
set_option maxRecDepth 100000 in
theorem ccx_knock {l : Launch} {D : va_G} {ty : gT} {A : Nat → Prop} {ad : Nat → Nat} {wr : va_W} {G : Nat} {S : Nat} {x1 : Int32} {X : gC} {r : Int32} {σ' : gC} (hf : cx_knock G S X x1 = some (r, σ')) : gI l D ty A yX10_knock wsX10_knock rm_cx_knock [.ref (ad 0), .int x1] (cw ty ad G S X wr) r (cw ty ad G S σ' wr) := by
  refine gI_enter (cc := cX10_knock) (maxL := 3) (by decide) rfl (Nat.le_of_ble_eq_true rfl) ?_
  intro p e s m args below meth c Q ls F hl hw hret
  have F : CallFix p m c cX10_knock 3 s args wsX10_knock RX10 := F
  obtain ⟨hx, hb, hml, hown, hts⟩ := id F
  have hl : lv_has ls 3 [(0, .ref (ad 0)), (1, .int x1)] := hl
  have hinX10 : ∀ w ∈ wsX100, w ∈ wsX10_knock := by first | exact fun w h => List.mem_cons_of_mem _ (List.mem_append_left _ (List.mem_append_left _ (List.mem_append_left _ (List.mem_append_left _ (List.mem_append_left _ (List.mem_append_right _ h)))))) | decide +kernel
  have kf20 := hts (.fieldLink RX10 20 "GossipGate" "theTown" "LGossipGate$Town;") (by decide +kernel)
  have kf41 := hts (.fieldLink RX10 41 "GossipGate" "steps" "LGossipGate$Trace;") (by decide +kernel)
  unfold cx_knock at hf
  refine lv_aload_n hx hb dX10_knock_0 rfl (lv_at hl 0 rfl) ?_
  refine cf_get_X10_1 F hinX10 hw kf20 dX10_knock_1 ?_
  refine lv_iload_n hx hb dX10_knock_4 rfl (lv_at hl 1 rfl) ?_
  obtain ⟨r2, h1, hf⟩ := g_b1 hf
  refine g_cQ F (As := [.int x1]) (rest := []) (cct_gateAt h1) (cwV 1 hts gX10_knock_X8_gateAt rfl rfl rfl (by decide +kernel) ⟨Nat.le_of_ble_eq_true rfl, Nat.le_of_ble_eq_true rfl⟩) hw (hw.recv (ci := 8) (q0 := 10) rfl rfl rfl) rfl hl.1 rfl (Nat.le_of_ble_eq_true rfl) dX10_knock_5 (fun H locs hw => ?_)
  rcases r2 with _ | k3
  · replace hf := gN_n hf
    refine lv_astore_nN (lv' := [(2, .null), (0, .ref (ad 0)), (1, .int x1)]) hx hb dX10_knock_8 rfl hl (by decide) rfl (fun ls hl => ?_)
    refine lv_aload_nN hx hb dX10_knock_9 rfl (lv_at hl 0 rfl) ?_
    refine lv_ifnonnullN hx hb dX10_knock_10 ?_
    refine lv_iconst (v := (-1)) hx hb dX10_knock_13 (by decide) ?_
    refine lv_goto (tgt := 25) hx hb dX10_knock_14 (by decide) ?_
    exact hret (-1) _ _ _ _ _ (g_i1 hf) (congrArg (fun t => cw ty ad G S t wr) (g_i2 hf)) hw dX10_knock_25
  · replace hf := gN_s hf
    refine lv_astore_n (lv' := [(2, .ref (ad (100 + k3))), (0, .ref (ad 0)), (1, .int x1)]) hx hb dX10_knock_8 rfl hl (by decide) rfl (fun ls hl => ?_)
    refine lv_aload_n hx hb dX10_knock_9 rfl (lv_at hl 0 rfl) ?_
    refine lv_ifnonnull (tgt := 17) hx hb dX10_knock_10 (by decide) ?_
    refine lv_aload_n hx hb dX10_knock_17 rfl (lv_at hl 0 rfl) ?_
    refine lv_aload_n hx hb dX10_knock_18 rfl (lv_at hl 1 rfl) ?_
    refine cf_get_X10_4 F hinX10 hw kf41 dX10_knock_19 ?_
    obtain ⟨g4, hf⟩ := g_g hf
    by_cases c5 : X.2.2 0 k3 = 1
    · replace hf := g_t c5 hf
      obtain ⟨r8, X9, h7, hf⟩ := g_b2 hf
      refine g_uI F (As := [.ref (ad 26)]) (rest := []) (ccg_knocking h7) (va_cwU 1 hts gX10_knock_X0_knocking_u243X6 rfl rfl rfl rfl (by decide +kernel) ⟨Nat.le_of_ble_eq_true rfl, Nat.le_of_ble_eq_true rfl⟩) hw (hw.recv (ci := 6) (q0 := k3 + 27) rfl rfl (cw_gateK g4 (kc_1 c5))) rfl hl.1 rfl (Nat.le_of_ble_eq_true rfl) dX10_knock_22 (fun H locs hw => ?_)
      exact hret r8 _ _ _ _ _ (g_i1 hf) (congrArg (fun t => cw ty ad G S t wr) (g_i2 hf)) hw dX10_knock_25
    replace hf := g_f c5 hf
    by_cases c6 : X.2.2 0 k3 = 2
    · replace hf := g_t c6 hf
      obtain ⟨r11, X12, h10, hf⟩ := g_b2 hf
      refine g_uI F (As := [.ref (ad 26)]) (rest := []) (cci_knocking h10) (va_cwO 1 hts gX10_knock_X1_knocking_u243X1 rfl rfl rfl (b0 := cX0_knocking) (m0 := 2) (r0 := some .int) (by decide +kernel) (by decide +kernel) ⟨Nat.le_of_ble_eq_true rfl, Nat.le_of_ble_eq_true rfl⟩) hw (hw.recv (ci := 1) (q0 := k3 + 27) rfl rfl (cw_gateK g4 (kc_2 c5 c6))) rfl hl.1 rfl (Nat.le_of_ble_eq_true rfl) dX10_knock_22 (fun H locs hw => ?_)
      exact hret r11 _ _ _ _ _ (g_i1 hf) (congrArg (fun t => cw ty ad G S t wr) (g_i2 hf)) hw dX10_knock_25
    · replace hf := g_f c6 hf
      obtain ⟨r14, X15, h13, hf⟩ := g_b2 hf
      refine g_cI F (As := [.ref (ad 26)]) (rest := []) (ccg_knocking h13) (cwV 1 hts gX10_knock_X0_knocking rfl rfl rfl (by decide +kernel) ⟨Nat.le_of_ble_eq_true rfl, Nat.le_of_ble_eq_true rfl⟩) hw (hw.recv (ci := 0) (q0 := k3 + 27) rfl rfl (cw_gateK g4 (kc_0 c5 c6))) rfl hl.1 rfl (Nat.le_of_ble_eq_true rfl) dX10_knock_22 (fun H locs hw => ?_)
      exact hret r14 _ _ _ _ _ (g_i1 hf) (congrArg (fun t => cw ty ad G S t wr) (g_i2 hf)) hw dX10_knock_25

abbrev rm_cx_as : Room := { frames := 1, cells := 0, slots := 0, locals := 22 }
set_option maxHeartbeats 4000000 in
set_option maxRecDepth 100000 in
theorem ccx_as {l : Launch} {D : va_G} {ty : gT} {A : Nat → Prop} {ad : Nat → Nat} {wr : va_W} {G : Nat} {S : Nat} {x1 : Int32} {x2 : Int32} {X : gC} {r : Int32} {σ' : gC} (hf : cx_as G S X x1 x2 = some (r, σ')) : gI l D ty A yX10_as wsX10_as rm_cx_as [.ref (ad 0), .int x1, .int x2] (cw ty ad G S X wr) r (cw ty ad G S σ' wr) := by
  refine gI_enter (cc := cX10_as) (maxL := 5) (by decide) rfl (Nat.le_of_ble_eq_true rfl) ?_
  intro p e s m args below meth c Q ls F hl hw hret
  have F : CallFix p m c cX10_as 5 s args wsX10_as RX10 := F
  obtain ⟨hx, hb, hml, hown, hts⟩ := id F
  have hl : lv_has ls 5 [(0, .ref (ad 0)), (1, .int x1), (2, .int x2)] := hl
  have hinX10 : ∀ w ∈ wsX100, w ∈ wsX10_as := by first | exact fun w h => List.mem_cons_of_mem _ (List.mem_append_left _ (List.mem_append_right _ h)) | decide +kernel
  have kf20 := hts (.fieldLink RX10 20 "GossipGate" "theTown" "LGossipGate$Town;") (by decide +kernel)
  have kf45 := hts (.fieldLink RX10 45 "GossipGate" "latestFault" "I") (by decide +kernel)
  have ki246 := hts (.classLink RX10 246 "GossipGate$Strict") (by decide +kernel)
  have ki248 := hts (.classLink RX10 248 "GossipGate$Lax") (by decide +kernel)
  have B65 : ∀ (s0 : Int32) (X : gC) (H : Heap) (locs : List Loc) (ls : Array Slot), lv_has ls 5 [(0, .ref (ad 0))] → gW D ty A (cw ty ad G S X wr) s s.heap H locs → cx_as_b65 G S s0 X = some (r, σ') → W p l e rm_cx_as s m args below meth c H locs 0 0 Q (F0 m 65 ls [.int s0]) := by
    intro s0 X H locs ls hl hw hf
    unfold cx_as_b65 at hf
    refine lv_istore (lv' := [(4, .int s0), (0, .ref (ad 0))]) hx hb dX10_as_65 hl (by decide) rfl (fun ls hl => ?_)
    refine lv_iload hx hb dX10_as_67 (lv_at hl 0 rfl) ?_
    refine lv_if_eq (tgt := 76) hx hb dX10_as_69 (by decide) (fun c1 => ?_) (fun c1 => ?_)
    · have hf := g_t c1 hf
      refine lv_aload_n hx hb dX10_as_76 rfl (lv_at hl 1 rfl) ?_
      refine lv_iconst (v := 2) hx hb dX10_as_77 (by decide) ?_
      obtain ⟨r3, X4, h2, hf⟩ := g_b2 hf
      refine g_cI F (As := [.int 2]) (rest := []) (ccx_failBy h2) (cwV 1 hts gX10_as_X10_failBy rfl rfl rfl (by decide +kernel) ⟨Nat.le_of_ble_eq_true rfl, Nat.le_of_ble_eq_true rfl⟩) hw (hw.recv (ci := 10) (q0 := 0) rfl rfl rfl) rfl hl.1 rfl (Nat.le_of_ble_eq_true rfl) dX10_as_78 (fun H locs hw => ?_)
      exact hret r3 _ _ _ _ _ (g_i1 hf) (congrArg (fun t => cw ty ad G S t wr) (g_i2 hf)) hw dX10_as_81
    · have hf := g_f c1 hf
      refine lv_iconst (v := 1) hx hb dX10_as_72 (by decide) ?_
      refine lv_goto (tgt := 81) hx hb dX10_as_73 (by decide) ?_
      exact hret 1 _ _ _ _ _ (g_i1 hf) (congrArg (fun t => cw ty ad G S t wr) (g_i2 hf)) hw dX10_as_81
  have B60 : ∀  (X : gC) (H : Heap) (locs : List Loc) (ls : Array Slot), lv_has ls 5 [(0, .ref (ad 0))] → gW D ty A (cw ty ad G S X wr) s s.heap H locs → cx_as_b60 G S X = some (r, σ') → W p l e rm_cx_as s m args below meth c H locs 0 0 Q (F0 m 60 ls []) := by
    intro X H locs ls hl hw hf
    unfold cx_as_b60 at hf
    refine lv_iconst (v := 1) hx hb dX10_as_60 (by decide) ?_
    refine lv_goto (tgt := 65) hx hb dX10_as_61 (by decide) ?_
    exact B65 1 X _ _ _ (lv_sub hl [0] rfl) hw hf
  have B64 : ∀  (X : gC) (H : Heap) (locs : List Loc) (ls : Array Slot), lv_has ls 5 [(0, .ref (ad 0))] → gW D ty A (cw ty ad G S X wr) s s.heap H locs → cx_as_b64 G S X = some (r, σ') → W p l e rm_cx_as s m args below meth c H locs 0 0 Q (F0 m 64 ls []) := by
    intro X H locs ls hl hw hf
    unfold cx_as_b64 at hf
    refine lv_iconst (v := 0) hx hb dX10_as_64 (by decide) ?_
    exact B65 0 X _ _ _ (lv_sub hl [0] rfl) hw hf
  have B48 : ∀ (v2 : Int32) (v3 : Nat) (X : gC) (H : Heap) (locs : List Loc) (ls : Array Slot), lv_has ls 5 [(0, .ref (ad 0)), (2, .int v2), (3, .ref (ad (100 + v3)))] → gW D ty A (cw ty ad G S X wr) s s.heap H locs → cx_as_b48 G S v2 v3 X = some (r, σ') → W p l e rm_cx_as s m args below meth c H locs 0 0 Q (F0 m 48 ls []) := by
    intro v2 v3 X H locs ls hl hw hf
    unfold cx_as_b48 at hf
    refine lv_iload_n hx hb dX10_as_48 rfl (lv_at hl 1 rfl) ?_
    refine lv_iconst (v := 2) hx hb dX10_as_49 (by decide) ?_
    refine lv_icmp_ne (tgt := 64) hx hb dX10_as_50 (by decide) (fun c5 => ?_) (fun c5 => ?_)
    · have hf := g_f c5 hf
      exact B64 X _ _ _ (lv_sub hl [0] rfl) hw hf
    · have hf := g_t c5 hf
      refine lv_aload_n hx hb dX10_as_53 rfl (lv_at hl 2 rfl) ?_
      obtain ⟨g6, hf⟩ := g_g hf
      by_cases c7 : X.2.2 0 v3 = 1
      · replace hf := g_t c7 hf
        refine va_instNo hx hb hown ki248 hw.2.2.2.2.2.2.1.2.2 (hw.recv (ci := 6) (q0 := v3 + 27) rfl rfl (cw_gateK g6 (kc_1 c7))) dX10_as_54 ?_
        refine lv_if_eq (tgt := 64) hx hb dX10_as_57 (by decide) (fun c9 => ?_) (fun c9 => ?_)
        · have hf := g_t c9 hf
          exact B64 X _ _ _ (lv_sub hl [0] rfl) hw hf
        · have hf := g_f c9 hf
          exact B60 X _ _ _ (lv_sub hl [0] rfl) hw hf
      replace hf := g_f c7 hf
      by_cases c8 : X.2.2 0 v3 = 2
      · replace hf := g_t c8 hf
        refine va_instS hx hb hown ki248 (hw.2.1.1 1 _ rfl).2 (hw.recv (ci := 1) (q0 := v3 + 27) rfl rfl (cw_gateK g6 (kc_2 c7 c8))) dX10_as_54 ?_
        refine lv_if_eq (tgt := 64) hx hb dX10_as_57 (by decide) (fun c10 => ?_) (fun c10 => ?_)
        · have hf := g_t c10 hf
          exact B64 X _ _ _ (lv_sub hl [0] rfl) hw hf
        · have hf := g_f c10 hf
          exact B60 X _ _ _ (lv_sub hl [0] rfl) hw hf
      · replace hf := g_f c8 hf
        refine va_instNo hx hb hown ki248 hw.2.2.2.2.2.2.1.2.1 (hw.recv (ci := 0) (q0 := v3 + 27) rfl rfl (cw_gateK g6 (kc_0 c7 c8))) dX10_as_54 ?_
        refine lv_if_eq (tgt := 64) hx hb dX10_as_57 (by decide) (fun c11 => ?_) (fun c11 => ?_)
        · have hf := g_t c11 hf
          exact B64 X _ _ _ (lv_sub hl [0] rfl) hw hf
        · have hf := g_f c11 hf
          exact B60 X _ _ _ (lv_sub hl [0] rfl) hw hf
  unfold cx_as at hf
  refine lv_aload_n hx hb dX10_as_0 rfl (lv_at hl 0 rfl) ?_
  refine lv_iconst (v := 0) hx hb dX10_as_1 (by decide) ?_
  refine cf_put_X10_5 F hinX10 hw kf45 dX10_as_2 (fun H locs hw => ?_)
  obtain ⟨X12, eX12, hf⟩ := g_let hf
  have hw := cw_re eX12 hw
  refine lv_aload_n hx hb dX10_as_5 rfl (lv_at hl 0 rfl) ?_
  refine cf_get_X10_1 F hinX10 hw kf20 dX10_as_6 ?_
  refine lv_iload_n hx hb dX10_as_9 rfl (lv_at hl 1 rfl) ?_
  obtain ⟨r14, h13, hf⟩ := g_b1 hf
  refine g_cQ F (As := [.int x1]) (rest := []) (cct_gateAt h13) (cwV 1 hts gX10_as_X8_gateAt rfl rfl rfl (by decide +kernel) ⟨Nat.le_of_ble_eq_true rfl, Nat.le_of_ble_eq_true rfl⟩) hw (hw.recv (ci := 8) (q0 := 10) rfl rfl rfl) rfl hl.1 rfl (Nat.le_of_ble_eq_true rfl) dX10_as_10 (fun H locs hw => ?_)
  rcases r14 with _ | k15
  · replace hf := gN_n hf
    refine lv_astore_nN (lv' := [(3, .null), (0, .ref (ad 0)), (1, .int x1), (2, .int x2)]) hx hb dX10_as_13 rfl hl (by decide) rfl (fun ls hl => ?_)
    refine lv_aload_nN hx hb dX10_as_14 rfl (lv_at hl 0 rfl) ?_
    refine lv_ifnonnullN hx hb dX10_as_15 ?_
    refine lv_iconst (v := (-1)) hx hb dX10_as_18 (by decide) ?_
    exact hret (-1) _ _ _ _ _ (g_i1 hf) (congrArg (fun t => cw ty ad G S t wr) (g_i2 hf)) hw dX10_as_19
  · replace hf := gN_s hf
    refine lv_astore_n (lv' := [(3, .ref (ad (100 + k15))), (0, .ref (ad 0)), (1, .int x1), (2, .int x2)]) hx hb dX10_as_13 rfl hl (by decide) rfl (fun ls hl => ?_)
    refine lv_aload_n hx hb dX10_as_14 rfl (lv_at hl 0 rfl) ?_
    refine lv_ifnonnull (tgt := 20) hx hb dX10_as_15 (by decide) ?_
    refine lv_iload_n hx hb dX10_as_20 rfl (lv_at hl 3 rfl) ?_
    refine lv_iconst (v := 0) hx hb dX10_as_21 (by decide) ?_
    refine lv_iconst (v := 2) hx hb dX10_as_22 (by decide) ?_
    obtain ⟨r17, h16, hf⟩ := g_b1 hf
    refine g_sI F (As := [.int x2, .int 0, .int 2]) (rest := []) (ccx_isWithin h16) (va_cwS 3 hts gX10_as_X10_isWithin rfl rfl rfl (by decide +kernel) ⟨Nat.le_of_ble_eq_true rfl, Nat.le_of_ble_eq_true rfl⟩) hw rfl hl.1 rfl (Nat.le_of_ble_eq_true rfl) dX10_as_23 (fun H locs hw => ?_)
    refine lv_if_ne (tgt := 32) hx hb dX10_as_26 (by decide) (fun c18 => ?_) (fun c18 => ?_)
    · have hf := g_t (bI_nz c18) hf
      refine lv_iload_n hx hb dX10_as_32 rfl (lv_at hl 3 rfl) ?_
      refine lv_if_eq (tgt := 60) hx hb dX10_as_33 (by decide) (fun c19 => ?_) (fun c19 => ?_)
      · have hf := g_t c19 hf
        exact B60 X12 _ _ _ (lv_sub hl [1] rfl) hw hf
      · have hf := g_f c19 hf
        refine lv_iload_n hx hb dX10_as_36 rfl (lv_at hl 3 rfl) ?_
        refine lv_iconst (v := 1) hx hb dX10_as_37 (by decide) ?_
        refine lv_icmp_ne (tgt := 48) hx hb dX10_as_38 (by decide) (fun c20 => ?_) (fun c20 => ?_)
        · have hf := g_f c20 hf
          exact B48 x2 k15 X12 _ _ _ (lv_sub hl [1, 3, 0] rfl) hw hf
        · have hf := g_t c20 hf
          refine lv_aload_n hx hb dX10_as_41 rfl (lv_at hl 0 rfl) ?_
          obtain ⟨g21, hf⟩ := g_g hf
          by_cases c22 : X12.2.2 0 k15 = 1
          · replace hf := g_t c22 hf
            refine va_instS hx hb hown ki246 (hw.2.1.1 6 _ rfl).2 (hw.recv (ci := 6) (q0 := k15 + 27) rfl rfl (cw_gateK g21 (kc_1 c22))) dX10_as_42 ?_
            refine lv_if_ne (tgt := 60) hx hb dX10_as_45 (by decide) (fun c24 => ?_) (fun c24 => ?_)
            · have hf := g_f c24 hf
              exact B60 X12 _ _ _ (lv_sub hl [1] rfl) hw hf
            · have hf := g_t c24 hf
              exact B48 x2 k15 X12 _ _ _ (lv_sub hl [1, 3, 0] rfl) hw hf
          replace hf := g_f c22 hf
          by_cases c23 : X12.2.2 0 k15 = 2
          · replace hf := g_t c23 hf
            refine va_instY hx hb hown ki246 hw.2.2.2.2.2.1.1 (hw.recv (ci := 1) (q0 := k15 + 27) rfl rfl (cw_gateK g21 (kc_2 c22 c23))) dX10_as_42 ?_
            refine lv_if_ne (tgt := 60) hx hb dX10_as_45 (by decide) (fun c25 => ?_) (fun c25 => ?_)
            · have hf := g_f c25 hf
              exact B60 X12 _ _ _ (lv_sub hl [1] rfl) hw hf
            · have hf := g_t c25 hf
              exact B48 x2 k15 X12 _ _ _ (lv_sub hl [1, 3, 0] rfl) hw hf
          · replace hf := g_f c23 hf
            refine va_instNo hx hb hown ki246 hw.2.2.2.2.2.2.1.1 (hw.recv (ci := 0) (q0 := k15 + 27) rfl rfl (cw_gateK g21 (kc_0 c22 c23))) dX10_as_42 ?_
            refine lv_if_ne (tgt := 60) hx hb dX10_as_45 (by decide) (fun c26 => ?_) (fun c26 => ?_)
            · have hf := g_f c26 hf
              exact B60 X12 _ _ _ (lv_sub hl [1] rfl) hw hf
            · have hf := g_t c26 hf
              exact B48 x2 k15 X12 _ _ _ (lv_sub hl [1, 3, 0] rfl) hw hf
    · have hf := g_f (bI_z c18) hf
      refine lv_bipush (v := (-2)) hx hb dX10_as_29 (by decide) ?_
      exact hret (-2) _ _ _ _ _ (g_i1 hf) (congrArg (fun t => cw ty ad G S t wr) (g_i2 hf)) hw dX10_as_31

abbrev rm_cx_trace : Room := { frames := 0, cells := 0, slots := 0, locals := 0 }
set_option maxHeartbeats 4000000 in
set_option maxRecDepth 100000 in
theorem ccx_trace {l : Launch} {D : va_G} {ty : gT} {A : Nat → Prop} {ad : Nat → Nat} {wr : va_W} {G : Nat} {S : Nat} {X : gC} {r : Int32} (hf : cx_trace G S X = some r) : gI l D ty A yX10_trace wsX10_trace rm_cx_trace [.ref (ad 0)] (cw ty ad G S X wr) r (cw ty ad G S X wr) := by
  refine gI_enter (cc := cX10_trace) (maxL := 1) (by decide) rfl (Nat.le_of_ble_eq_true rfl) ?_
  intro p e s m args below meth c Q ls F hl hw hret
  have F : CallFix p m c cX10_trace 1 s args wsX10_trace RX10 := F
  obtain ⟨hx, hb, hml, hown, hts⟩ := id F
  have hl : lv_has ls 1 [(0, .ref (ad 0))] := hl
  have hinX10 : ∀ w ∈ wsX100, w ∈ wsX10_trace := by first | exact fun w h => List.mem_cons_of_mem _ (List.mem_append_left _ (List.mem_append_right _ h)) | decide +kernel
  have hinX9 : ∀ w ∈ wsX90, w ∈ wsX10_trace := by first | exact fun w h => List.mem_cons_of_mem _ (List.mem_append_right _ h) | decide +kernel
  have kf250 := hts (.fieldLink RX10 250 "GossipGate$Trace" "value" "I") (by decide +kernel)
  have kf41 := hts (.fieldLink RX10 41 "GossipGate" "steps" "LGossipGate$Trace;") (by decide +kernel)
  unfold cx_trace at hf
  refine lv_aload_n hx hb dX10_trace_0 rfl (lv_at hl 0 rfl) ?_
  refine cf_get_X10_4 F hinX10 hw kf41 dX10_trace_1 ?_
  refine cf_get_X9_0 F hinX9 hw kf250 dX10_trace_4 ?_
  exact hret (X.1.1 1) _ _ _ _ _ (Option.some.inj hf) rfl hw dX10_trace_7

abbrev rm_cx_fault : Room := { frames := 0, cells := 0, slots := 0, locals := 0 }
set_option maxHeartbeats 4000000 in
set_option maxRecDepth 100000 in
theorem ccx_fault {l : Launch} {D : va_G} {ty : gT} {A : Nat → Prop} {ad : Nat → Nat} {wr : va_W} {G : Nat} {S : Nat} {X : gC} {r : Int32} (hf : cx_fault G S X = some r) : gI l D ty A yX10_fault wsX10_fault rm_cx_fault [.ref (ad 0)] (cw ty ad G S X wr) r (cw ty ad G S X wr) := by
  refine gI_enter (cc := cX10_fault) (maxL := 1) (by decide) rfl (Nat.le_of_ble_eq_true rfl) ?_
  intro p e s m args below meth c Q ls F hl hw hret
  have F : CallFix p m c cX10_fault 1 s args wsX10_fault RX10 := F
  obtain ⟨hx, hb, hml, hown, hts⟩ := id F
  have hl : lv_has ls 1 [(0, .ref (ad 0))] := hl
  have hinX10 : ∀ w ∈ wsX100, w ∈ wsX10_fault := by first | exact fun w h => List.mem_cons_of_mem _ (List.mem_append_right _ h) | decide +kernel
  have kf45 := hts (.fieldLink RX10 45 "GossipGate" "latestFault" "I") (by decide +kernel)
  unfold cx_fault at hf
  refine lv_aload_n hx hb dX10_fault_0 rfl (lv_at hl 0 rfl) ?_
  refine cf_get_X10_5 F hinX10 hw kf45 dX10_fault_1 ?_
  exact hret (X.1.1 0) _ _ _ _ _ (Option.some.inj hf) rfl hw dX10_fault_4

abbrev rm_cx_many : Room := { frames := 0, cells := 0, slots := 0, locals := 0 }
set_option maxHeartbeats 4000000 in
set_option maxRecDepth 100000 in
theorem ccx_many {l : Launch} {D : va_G} {ty : gT} {A : Nat → Prop} {ad : Nat → Nat} {wr : va_W} {G : Nat} {S : Nat} {x1 : Int32} {X : gC} {r : Int32} (hf : cx_many G S X x1 = some r) : gI l D ty A yX10_many wsX10_many rm_cx_many [.ref (ad 0), .int x1] (cw ty ad G S X wr) r (cw ty ad G S X wr) := by
  refine gI_enter (cc := cX10_many) (maxL := 2) (by decide) rfl (Nat.le_of_ble_eq_true rfl) ?_
  intro p e s m args below meth c Q ls F hl hw hret
  have F : CallFix p m c cX10_many 2 s args wsX10_many RX10 := F
  obtain ⟨hx, hb, hml, hown, hts⟩ := id F
  have hl : lv_has ls 2 [(0, .ref (ad 0)), (1, .int x1)] := hl
  have hinX10 : ∀ w ∈ wsX100, w ∈ wsX10_many := by first | exact fun w h => List.mem_cons_of_mem _ (List.mem_append_left _ (List.mem_append_left _ (List.mem_append_right _ h))) | decide +kernel
  have hinX2 : ∀ w ∈ wsX20, w ∈ wsX10_many := by first | exact fun w h => List.mem_cons_of_mem _ (List.mem_append_right _ h) | decide +kernel
  have hinX8 : ∀ w ∈ wsX80, w ∈ wsX10_many := by first | exact fun w h => List.mem_cons_of_mem _ (List.mem_append_left _ (List.mem_append_right _ h)) | decide +kernel
  have kf126 := hts (.fieldLink RX10 126 "GossipGate$Town" "harmlessSize" "I") (by decide +kernel)
  have kf181 := hts (.fieldLink RX10 181 "GossipGate$Town" "gates" "[LGossipGate$Gate;") (by decide +kernel)
  have kf20 := hts (.fieldLink RX10 20 "GossipGate" "theTown" "LGossipGate$Town;") (by decide +kernel)
  have kf34 := hts (.fieldLink RX10 34 "GossipGate" "readings" "LGossipGate$Readings;") (by decide +kernel)
  have kf82 := hts (.fieldLink RX10 82 "GossipGate$Readings" "count" "I") (by decide +kernel)
  have kf85 := hts (.fieldLink RX10 85 "GossipGate$Town" "stories" "[LGossipGate$Story;") (by decide +kernel)
  unfold cx_many at hf
  refine lv_iload_n hx hb dX10_many_0 rfl (lv_at hl 1 rfl) ?_
  by_cases c1 : x1 = 0
  · have hf := g_t c1 hf
    refine lv_tableIn (off := 31) (tgt := 32) hx hb dX10_many_1 (by rw [c1]; decide) (by rw [c1]; decide) (by rw [c1]; rfl) (by decide) ?_
    refine lv_aload_n hx hb dX10_many_32 rfl (lv_at hl 0 rfl) ?_
    refine cf_get_X10_1 F hinX10 hw kf20 dX10_many_33 ?_
    refine cf_get_X8_1 F hinX8 hw kf85 dX10_many_36 ?_
    refine cf_len_12 F hw dX10_many_39 ?_
    exact hret (nI S) _ _ _ _ _ (Option.some.inj hf) rfl hw dX10_many_40
  have hf := g_f c1 hf
  by_cases c2 : x1 = 1
  · have hf := g_t c2 hf
    refine lv_tableIn (off := 40) (tgt := 41) hx hb dX10_many_1 (by rw [c2]; decide) (by rw [c2]; decide) (by rw [c2]; rfl) (by decide) ?_
    refine lv_aload_n hx hb dX10_many_41 rfl (lv_at hl 0 rfl) ?_
    refine cf_get_X10_1 F hinX10 hw kf20 dX10_many_42 ?_
    refine cf_get_X8_0 F hinX8 hw kf181 dX10_many_45 ?_
    refine cf_len_11 F hw dX10_many_48 ?_
    exact hret (nI G) _ _ _ _ _ (Option.some.inj hf) rfl hw dX10_many_49
  have hf := g_f c2 hf
  by_cases c3 : x1 = 2
  · have hf := g_t c3 hf
    refine lv_tableIn (off := 49) (tgt := 50) hx hb dX10_many_1 (by rw [c3]; decide) (by rw [c3]; decide) (by rw [c3]; rfl) (by decide) ?_
    refine lv_aload_n hx hb dX10_many_50 rfl (lv_at hl 0 rfl) ?_
    refine cf_get_X10_1 F hinX10 hw kf20 dX10_many_51 ?_
    refine cf_get_X8_2 F hinX8 hw kf126 dX10_many_54 ?_
    exact hret (X.1.1 2) _ _ _ _ _ (Option.some.inj hf) rfl hw dX10_many_57
  have hf := g_f c3 hf
  by_cases c4 : x1 = 3
  · have hf := g_t c4 hf
    refine lv_tableIn (off := 57) (tgt := 58) hx hb dX10_many_1 (by rw [c4]; decide) (by rw [c4]; decide) (by rw [c4]; rfl) (by decide) ?_
    refine lv_aload_n hx hb dX10_many_58 rfl (lv_at hl 0 rfl) ?_
    refine cf_get_X10_3 F hinX10 hw kf34 dX10_many_59 ?_
    refine cf_get_X2_2 F hinX2 hw kf82 dX10_many_62 ?_
    exact hret (X.1.1 5) _ _ _ _ _ (Option.some.inj hf) rfl hw dX10_many_65
  have hf := g_f c4 hf
  refine lv_tableOut (tgt := 66) hx hb dX10_many_1 (by have tc1 := g_ti (k := 0) 0 (by decide) c1; have tc2 := g_ti (k := 1) 1 (by decide) c2; have tc3 := g_ti (k := 2) 2 (by decide) c3; have tc4 := g_ti (k := 3) 3 (by decide) c4; omega) (by decide) ?_
  refine lv_bipush (v := (-2)) hx hb dX10_many_66 (by decide) ?_
  exact hret (-2) _ _ _ _ _ (Option.some.inj hf) rfl hw dX10_many_68
