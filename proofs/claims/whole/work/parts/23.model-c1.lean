abbrev rm_mm_rate : Room := { frames := 1, cells := 0, slots := 0, locals := 22 }
set_option maxHeartbeats 4000000 in
set_option maxRecDepth 100000 in
theorem cmm_rate {l : Launch} {D : va_G} {ty : gT} {A : Nat → Prop} {ad : Nat → Nat} {wr : va_W} {x1 : Int32} {x2 : Int32} {σ : gS} {r : Int32} {σ' : gS} (hf : mm_rate σ x1 x2 = some (r, σ')) : gI l D ty A yX11_rate wsX11_rate rm_mm_rate [.ref (ad 0), .int x1, .int x2] (mw ty ad σ wr) r (mw ty ad σ' wr) := by
  refine gI_enter (cc := cX11_rate) (maxL := 4) (by decide) rfl (Nat.le_of_ble_eq_true rfl) ?_
  intro p e s m args below meth c Q ls F hl hw hret
  have F : CallFix p m c cX11_rate 4 s args wsX11_rate RX11 := F
  obtain ⟨hx, hb, hml, hown, hts⟩ := id F
  have hl : lv_has ls 4 [(0, .ref (ad 0)), (1, .int x1), (2, .int x2)] := hl
  have hin : ∀ w ∈ wsX110, w ∈ wsX11_rate := by first | exact fun w h => List.mem_cons_of_mem _ (List.mem_append_right _ h) | decide +kernel
  have kf22 := hts (.fieldLink RX11 22 "GossipGateModel" "rateOf" "[I") (by decide +kernel)
  unfold mm_rate at hf
  refine lv_aload_n hx hb dX11_rate_0 rfl (lv_at hl 0 rfl) ?_
  refine lv_iload_n hx hb dX11_rate_1 rfl (lv_at hl 1 rfl) ?_
  obtain ⟨r2, h1, hf⟩ := g_b1 hf
  refine g_cI F (As := [.int x1]) (rest := []) (cmm_isGate h1) (cwV 1 hts gX11_rate_X11_isGate rfl rfl rfl (by decide +kernel) ⟨Nat.le_of_ble_eq_true rfl, Nat.le_of_ble_eq_true rfl⟩) hw (hw.recv (ci := 11) (q0 := 0) rfl rfl rfl) rfl hl.1 rfl (Nat.le_of_ble_eq_true rfl) dX11_rate_2 (fun H locs hw => ?_)
  refine lv_if_ne (tgt := 10) hx hb dX11_rate_5 (by decide) (fun c3 => ?_) (fun c3 => ?_)
  · have hf := g_t (bI_nz c3) hf
    refine lv_iload_n hx hb dX11_rate_10 rfl (lv_at hl 2 rfl) ?_
    refine lv_iconst (v := 1) hx hb dX11_rate_11 (by decide) ?_
    refine lv_bipush (v := 9) hx hb dX11_rate_12 (by decide) ?_
    obtain ⟨r5, h4, hf⟩ := g_b1 hf
    refine g_sI F (As := [.int x2, .int 1, .int 9]) (rest := []) (cmm_within h4) (va_cwS 3 hts gX11_rate_X11_within rfl rfl rfl (by decide +kernel) ⟨Nat.le_of_ble_eq_true rfl, Nat.le_of_ble_eq_true rfl⟩) hw rfl hl.1 rfl (Nat.le_of_ble_eq_true rfl) dX11_rate_14 (fun H locs hw => ?_)
    refine lv_if_ne (tgt := 23) hx hb dX11_rate_17 (by decide) (fun c6 => ?_) (fun c6 => ?_)
    · have hf := g_t (bI_nz c6) hf
      refine lv_aload_n hx hb dX11_rate_23 rfl (lv_at hl 0 rfl) ?_
      refine mw_get_9 F hin hw kf22 dX11_rate_24 ?_
      refine lv_iload_n hx hb dX11_rate_27 rfl (lv_at hl 1 rfl) ?_
      obtain ⟨g7, hf⟩ := g_g hf
      refine mw_ld_9 F hw g7 dX11_rate_28 ?_
      obtain ⟨y8, ey8, hf⟩ := g_let hf
      refine g_nm ey8 ?_
      refine lv_istore_n (lv' := [(3, .int y8), (0, .ref (ad 0)), (1, .int x1), (2, .int x2)]) hx hb dX11_rate_29 rfl hl (by decide) rfl (fun ls hl => ?_)
      refine lv_aload_n hx hb dX11_rate_30 rfl (lv_at hl 1 rfl) ?_
      refine mw_get_9 F hin hw kf22 dX11_rate_31 ?_
      refine lv_iload_n hx hb dX11_rate_34 rfl (lv_at hl 2 rfl) ?_
      refine lv_iload_n hx hb dX11_rate_35 rfl (lv_at hl 3 rfl) ?_
      refine mw_st_9 F hw g7 dX11_rate_36 (fun H locs hw => ?_)
      obtain ⟨σ9, eσ9, hf⟩ := g_let hf
      have hw := mw_re eσ9 hw
      refine lv_iload_n hx hb dX11_rate_37 rfl (lv_at hl 0 rfl) ?_
      exact hret y8 _ _ _ _ _ (g_i1 hf) (congrArg (fun t => mw ty ad t wr) (g_i2 hf)) hw dX11_rate_38
    · have hf := g_f (bI_z c6) hf
      refine lv_bipush (v := (-2)) hx hb dX11_rate_20 (by decide) ?_
      exact hret (-2) _ _ _ _ _ (g_i1 hf) (congrArg (fun t => mw ty ad t wr) (g_i2 hf)) hw dX11_rate_22
  · have hf := g_f (bI_z c3) hf
    refine lv_iconst (v := (-1)) hx hb dX11_rate_8 (by decide) ?_
    exact hret (-1) _ _ _ _ _ (g_i1 hf) (congrArg (fun t => mw ty ad t wr) (g_i2 hf)) hw dX11_rate_9

abbrev rm_mm_freshOf : Room := { frames := 0, cells := 0, slots := 0, locals := 0 }
set_option maxHeartbeats 4000000 in
set_option maxRecDepth 100000 in
theorem cmm_freshOf {l : Launch} {D : va_G} {ty : gT} {A : Nat → Prop} {ad : Nat → Nat} {wr : va_W} {x1 : Int32} {x2 : Int32} {σ : gS} {r : Int32} (hf : mm_freshOf σ x1 x2 = some r) : gI l D ty A yX11_freshOf wsX11_freshOf rm_mm_freshOf [.ref (ad 0), .int x1, .int x2] (mw ty ad σ wr) r (mw ty ad σ wr) := by
  refine gI_enter (cc := cX11_freshOf) (maxL := 4) (by decide) rfl (Nat.le_of_ble_eq_true rfl) ?_
  intro p e s m args below meth c Q ls F hl hw hret
  have F : CallFix p m c cX11_freshOf 4 s args wsX11_freshOf RX11 := F
  obtain ⟨hx, hb, hml, hown, hts⟩ := id F
  have hl : lv_has ls 4 [(0, .ref (ad 0)), (1, .int x1), (2, .int x2)] := hl
  have hin : ∀ w ∈ wsX110, w ∈ wsX11_freshOf := by first | exact fun w h => List.mem_cons_of_mem _ (List.mem_append_right _ h) | decide +kernel
  have kf34 := hts (.fieldLink RX11 34 "GossipGateModel" "born" "[I") (by decide +kernel)
  unfold mm_freshOf at hf
  refine lv_iconst (v := 4) hx hb dX11_freshOf_0 (by decide) ?_
  refine lv_iload_n hx hb dX11_freshOf_1 rfl (lv_at hl 2 rfl) ?_
  refine lv_aload_n hx hb dX11_freshOf_2 rfl (lv_at hl 0 rfl) ?_
  refine mw_get_13 F hin hw kf34 dX11_freshOf_3 ?_
  refine lv_iload_n hx hb dX11_freshOf_6 rfl (lv_at hl 1 rfl) ?_
  obtain ⟨g1, hf⟩ := g_g hf
  refine mw_ld_13 F hw g1 dX11_freshOf_7 ?_
  refine lv_isub hx hb dX11_freshOf_8 ?_
  refine lv_isub hx hb dX11_freshOf_9 ?_
  obtain ⟨y2, ey2, hf⟩ := g_let hf
  refine g_nm ey2 ?_
  refine lv_istore_n (lv' := [(3, .int y2), (0, .ref (ad 0)), (1, .int x1), (2, .int x2)]) hx hb dX11_freshOf_10 rfl hl (by decide) rfl (fun ls hl => ?_)
  refine lv_iload_n hx hb dX11_freshOf_11 rfl (lv_at hl 3 rfl) ?_
  refine lv_aload_n hx hb dX11_freshOf_12 rfl (lv_at hl 1 rfl) ?_
  refine mw_get_13 F hin hw kf34 dX11_freshOf_13 ?_
  refine lv_iload_n hx hb dX11_freshOf_16 rfl (lv_at hl 2 rfl) ?_
  refine mw_ld_13 F hw g1 dX11_freshOf_17 ?_
  refine lv_icmp_ge (tgt := 26) hx hb dX11_freshOf_18 (by decide) (fun c3 => ?_) (fun c3 => ?_)
  · have hf := g_t c3 hf
    refine lv_iload_n hx hb dX11_freshOf_26 rfl (lv_at hl 0 rfl) ?_
    refine lv_if_ge (tgt := 34) hx hb dX11_freshOf_27 (by decide) (fun c4 => ?_) (fun c4 => ?_)
    · have hf := g_t c4 hf
      refine lv_iload_n hx hb dX11_freshOf_34 rfl (lv_at hl 0 rfl) ?_
      exact hret y2 _ _ _ _ _ (Option.some.inj hf) rfl hw dX11_freshOf_35
    · have hf := g_f c4 hf
      refine lv_iconst (v := 0) hx hb dX11_freshOf_30 (by decide) ?_
      refine lv_goto (tgt := 35) hx hb dX11_freshOf_31 (by decide) ?_
      exact hret 0 _ _ _ _ _ (Option.some.inj hf) rfl hw dX11_freshOf_35
  · have hf := g_f c3 hf
    refine lv_bipush (v := (-9)) hx hb dX11_freshOf_21 (by decide) ?_
    refine lv_goto (tgt := 35) hx hb dX11_freshOf_23 (by decide) ?_
    exact hret (-9) _ _ _ _ _ (Option.some.inj hf) rfl hw dX11_freshOf_35

abbrev rm_mm_fresh : Room := { frames := 2, cells := 0, slots := 0, locals := 42 }
set_option maxHeartbeats 4000000 in
set_option maxRecDepth 100000 in
theorem cmm_fresh {l : Launch} {D : va_G} {ty : gT} {A : Nat → Prop} {ad : Nat → Nat} {wr : va_W} {x1 : Int32} {x2 : Int32} {σ : gS} {r : Int32} (hf : mm_fresh σ x1 x2 = some r) : gI l D ty A yX11_fresh wsX11_fresh rm_mm_fresh [.ref (ad 0), .int x1, .int x2] (mw ty ad σ wr) r (mw ty ad σ wr) := by
  refine gI_enter (cc := cX11_fresh) (maxL := 3) (by decide) rfl (Nat.le_of_ble_eq_true rfl) ?_
  intro p e s m args below meth c Q ls F hl hw hret
  have F : CallFix p m c cX11_fresh 3 s args wsX11_fresh RX11 := F
  obtain ⟨hx, hb, hml, hown, hts⟩ := id F
  have hl : lv_has ls 3 [(0, .ref (ad 0)), (1, .int x1), (2, .int x2)] := hl
  unfold mm_fresh at hf
  refine lv_aload_n hx hb dX11_fresh_0 rfl (lv_at hl 0 rfl) ?_
  refine lv_iload_n hx hb dX11_fresh_1 rfl (lv_at hl 1 rfl) ?_
  obtain ⟨r2, h1, hf⟩ := g_b1 hf
  refine g_cI F (As := [.int x1]) (rest := []) (cmm_isStory h1) (cwV 1 hts gX11_fresh_X11_isStory rfl rfl rfl (by decide +kernel) ⟨Nat.le_of_ble_eq_true rfl, Nat.le_of_ble_eq_true rfl⟩) hw (hw.recv (ci := 11) (q0 := 0) rfl rfl rfl) rfl hl.1 rfl (Nat.le_of_ble_eq_true rfl) dX11_fresh_2 (fun H locs hw => ?_)
  refine lv_if_ne (tgt := 10) hx hb dX11_fresh_5 (by decide) (fun c3 => ?_) (fun c3 => ?_)
  · have hf := g_t (bI_nz c3) hf
    refine lv_iload_n hx hb dX11_fresh_10 rfl (lv_at hl 2 rfl) ?_
    obtain ⟨r5, h4, hf⟩ := g_b1 hf
    refine g_sI F (As := [.int x2]) (rest := []) (cmm_isDay h4) (va_cwS 1 hts gX11_fresh_X11_isDay rfl rfl rfl (by decide +kernel) ⟨Nat.le_of_ble_eq_true rfl, Nat.le_of_ble_eq_true rfl⟩) hw rfl hl.1 rfl (Nat.le_of_ble_eq_true rfl) dX11_fresh_11 (fun H locs hw => ?_)
    refine lv_if_eq (tgt := 26) hx hb dX11_fresh_14 (by decide) (fun c6 => ?_) (fun c6 => ?_)
    · have hf := g_f (bI_z c6) hf
      refine lv_bipush (v := (-2)) hx hb dX11_fresh_26 (by decide) ?_
      exact hret (-2) _ _ _ _ _ (Option.some.inj hf) rfl hw dX11_fresh_28
    · have hf := g_t (bI_nz c6) hf
      refine lv_aload_n hx hb dX11_fresh_17 rfl (lv_at hl 0 rfl) ?_
      refine lv_iload_n hx hb dX11_fresh_18 rfl (lv_at hl 1 rfl) ?_
      refine lv_iload_n hx hb dX11_fresh_19 rfl (lv_at hl 2 rfl) ?_
      obtain ⟨r8, h7, hf⟩ := g_b1 hf
      refine g_cI F (As := [.int x1, .int x2]) (rest := []) (cmm_freshOf h7) (cwV 2 hts gX11_fresh_X11_freshOf rfl rfl rfl (by decide +kernel) ⟨Nat.le_of_ble_eq_true rfl, Nat.le_of_ble_eq_true rfl⟩) hw (hw.recv (ci := 11) (q0 := 0) rfl rfl rfl) rfl hl.1 rfl (Nat.le_of_ble_eq_true rfl) dX11_fresh_20 (fun H locs hw => ?_)
      refine lv_goto (tgt := 28) hx hb dX11_fresh_23 (by decide) ?_
      exact hret r8 _ _ _ _ _ (Option.some.inj hf) rfl hw dX11_fresh_28
  · have hf := g_f (bI_z c3) hf
    refine lv_iconst (v := (-1)) hx hb dX11_fresh_8 (by decide) ?_
    exact hret (-1) _ _ _ _ _ (Option.some.inj hf) rfl hw dX11_fresh_9

abbrev rm_mm_sizeOf : Room := { frames := 1, cells := 0, slots := 0, locals := 22 }
set_option maxHeartbeats 4000000 in
set_option maxRecDepth 100000 in
theorem cmm_sizeOf {l : Launch} {D : va_G} {ty : gT} {A : Nat → Prop} {ad : Nat → Nat} {wr : va_W} {x1 : Int32} {x2 : Int32} {σ : gS} {r : Int32} (hf : mm_sizeOf σ x1 x2 = some r) : gI l D ty A yX11_sizeOf wsX11_sizeOf rm_mm_sizeOf [.ref (ad 0), .int x1, .int x2] (mw ty ad σ wr) r (mw ty ad σ wr) := by
  refine gI_enter (cc := cX11_sizeOf) (maxL := 5) (by decide) rfl (Nat.le_of_ble_eq_true rfl) ?_
  intro p e s m args below meth c Q ls F hl hw hret
  have F : CallFix p m c cX11_sizeOf 5 s args wsX11_sizeOf RX11 := F
  obtain ⟨hx, hb, hml, hown, hts⟩ := id F
  have hl : lv_has ls 5 [(0, .ref (ad 0)), (1, .int x1), (2, .int x2)] := hl
  have B5 : ∀ (n5 : Nat) (v1 : Int32) (v2 : Int32) (v3 : Int32) (v4 : Int32) (H : Heap) (locs : List Loc) (ls : Array Slot), lv_has ls 5 [(0, .ref (ad 0)), (1, .int v1), (2, .int v2), (3, .int v3), (4, .int v4)] → gW D ty A (mw ty ad σ wr) s s.heap H locs → mm_sizeOf_b5 σ n5 v1 v2 v3 v4 = some r → W p l e rm_mm_sizeOf s m args below meth c H locs 0 0 Q (F0 m 5 ls []) := by
    intro n5
    induction n5 with
    | zero => intro v1 v2 v3 v4 H locs ls hl hw hf; cases hf
    | succ n5 ih5 =>
      have B33 : ∀ (v1 : Int32) (v2 : Int32) (v4 : Int32) (s0 : Int32) (s1 : Int32) (H : Heap) (locs : List Loc) (ls : Array Slot), lv_has ls 5 [(0, .ref (ad 0)), (1, .int v1), (2, .int v2), (4, .int v4)] → gW D ty A (mw ty ad σ wr) s s.heap H locs → mm_sizeOf_b33 σ (mm_sizeOf_b5 σ n5) v1 v2 v4 s0 s1 = some r → W p l e rm_mm_sizeOf s m args below meth c H locs 0 0 Q (F0 m 33 ls [.int s1, .int s0]) := by
        intro v1 v2 v4 s0 s1 H locs ls hl hw hf
        unfold mm_sizeOf_b33 at hf
        refine lv_iadd hx hb dX11_sizeOf_33 ?_
        refine lv_istore_n (lv' := [(3, .int (s0 + s1)), (0, .ref (ad 0)), (1, .int v1), (2, .int v2), (4, .int v4)]) hx hb dX11_sizeOf_34 rfl hl (by decide) rfl (fun ls hl => ?_)
        refine lv_iinc (v := v4 + 1) (lv' := [(4, .int (v4 + 1)), (3, .int (s0 + s1)), (0, .ref (ad 0)), (1, .int v1), (2, .int v2)]) hx hb dX11_sizeOf_35 hl (k := 4) rfl rfl (by decide) rfl (fun ls hl => ?_)
        refine lv_goto (tgt := 5) hx hb dX11_sizeOf_38 (by decide) ?_
        exact ih5 v1 v2 (s0 + s1) (v4 + 1) _ _ _ (lv_sub hl [2, 3, 4, 1, 0] rfl) hw hf
      intro v1 v2 v3 v4 H locs ls hl hw hf
      rw [mm_sizeOf_b5] at hf
      refine lv_iload hx hb dX11_sizeOf_5 (lv_at hl 4 rfl) ?_
      refine lv_iconst (v := 3) hx hb dX11_sizeOf_7 (by decide) ?_
      refine lv_icmp_ge (tgt := 41) hx hb dX11_sizeOf_8 (by decide) (fun c1 => ?_) (fun c1 => ?_)
      · have hf := g_t c1 hf
        refine lv_iload_n hx hb dX11_sizeOf_41 rfl (lv_at hl 3 rfl) ?_
        exact hret v3 _ _ _ _ _ (Option.some.inj hf) rfl hw dX11_sizeOf_42
      · have hf := g_f c1 hf
        refine lv_iload_n hx hb dX11_sizeOf_11 rfl (lv_at hl 3 rfl) ?_
        refine lv_iload_n hx hb dX11_sizeOf_12 rfl (lv_at hl 2 rfl) ?_
        refine lv_iload hx hb dX11_sizeOf_13 (lv_at hl 4 rfl) ?_
        refine lv_ishr hx hb dX11_sizeOf_15 ?_
        refine lv_iconst (v := 1) hx hb dX11_sizeOf_16 (by decide) ?_
        refine lv_iand hx hb dX11_sizeOf_17 ?_
        refine lv_iconst (v := 1) hx hb dX11_sizeOf_18 (by decide) ?_
        refine lv_icmp_ne (tgt := 32) hx hb dX11_sizeOf_19 (by decide) (fun c2 => ?_) (fun c2 => ?_)
        · have hf := g_f c2 hf
          refine lv_iconst (v := 0) hx hb dX11_sizeOf_32 (by decide) ?_
          exact B33 v1 v2 v4 v3 0 _ _ _ (lv_sub hl [0, 1, 2, 4] rfl) hw hf
        · have hf := g_t c2 hf
          refine lv_aload_n hx hb dX11_sizeOf_22 rfl (lv_at hl 0 rfl) ?_
          refine lv_iload_n hx hb dX11_sizeOf_23 rfl (lv_at hl 1 rfl) ?_
          refine lv_iload hx hb dX11_sizeOf_24 (lv_at hl 4 rfl) ?_
          obtain ⟨r4, h3, hf⟩ := g_b1 hf
          refine g_cI F (As := [.int v1, .int v4]) (rest := [.int v3]) (cmm_third h3) (cwV 2 hts gX11_sizeOf_X11_third rfl rfl rfl (by decide +kernel) ⟨Nat.le_of_ble_eq_true rfl, Nat.le_of_ble_eq_true rfl⟩) hw (hw.recv (ci := 11) (q0 := 0) rfl rfl rfl) rfl hl.1 rfl (Nat.le_of_ble_eq_true rfl) dX11_sizeOf_26 (fun H locs hw => ?_)
          refine lv_goto (tgt := 33) hx hb dX11_sizeOf_29 (by decide) ?_
          exact B33 v1 v2 v4 v3 r4 _ _ _ (lv_sub hl [0, 1, 2, 4] rfl) hw hf
  unfold mm_sizeOf at hf
  refine lv_iconst (v := 0) hx hb dX11_sizeOf_0 (by decide) ?_
  refine lv_istore_n (lv' := [(3, .int 0), (0, .ref (ad 0)), (1, .int x1), (2, .int x2)]) hx hb dX11_sizeOf_1 rfl hl (by decide) rfl (fun ls hl => ?_)
  refine lv_iconst (v := 0) hx hb dX11_sizeOf_2 (by decide) ?_
  refine lv_istore (lv' := [(4, .int 0), (3, .int 0), (0, .ref (ad 0)), (1, .int x1), (2, .int x2)]) hx hb dX11_sizeOf_3 hl (by decide) rfl (fun ls hl => ?_)
  exact B5 1000 x1 x2 0 0 _ _ _ (lv_sub hl [2, 3, 4, 1, 0] rfl) hw hf

abbrev rm_mm_dutyOf : Room := { frames := 2, cells := 0, slots := 0, locals := 46 }
set_option maxHeartbeats 4000000 in
set_option maxRecDepth 100000 in
theorem cmm_dutyOf {l : Launch} {D : va_G} {ty : gT} {A : Nat → Prop} {ad : Nat → Nat} {wr : va_W} {x1 : Int32} {x2 : Int32} {x3 : Int32} {x4 : Int32} {σ : gS} {r : Int32} (hf : mm_dutyOf σ x1 x2 x3 x4 = some r) : gI l D ty A yX11_dutyOf wsX11_dutyOf rm_mm_dutyOf [.ref (ad 0), .int x1, .int x2, .int x3, .int x4] (mw ty ad σ wr) r (mw ty ad σ wr) := by
  refine gI_enter (cc := cX11_dutyOf) (maxL := 8) (by decide) rfl (Nat.le_of_ble_eq_true rfl) ?_
  intro p e s m args below meth c Q ls F hl hw hret
  have F : CallFix p m c cX11_dutyOf 8 s args wsX11_dutyOf RX11 := F
  obtain ⟨hx, hb, hml, hown, hts⟩ := id F
  have hl : lv_has ls 8 [(0, .ref (ad 0)), (1, .int x1), (2, .int x2), (3, .int x3), (4, .int x4)] := hl
  have hin : ∀ w ∈ wsX110, w ∈ wsX11_dutyOf := by first | exact fun w h => List.mem_cons_of_mem _ (List.mem_append_right _ h) | decide +kernel
  have kf116 := hts (.fieldLink RX11 116 "GossipGateModel" "harmless" "I") (by decide +kernel)
  have kf19 := hts (.fieldLink RX11 19 "GossipGateModel" "kind" "[I") (by decide +kernel)
  have kf22 := hts (.fieldLink RX11 22 "GossipGateModel" "rateOf" "[I") (by decide +kernel)
  have kf25 := hts (.fieldLink RX11 25 "GossipGateModel" "deaf" "[I") (by decide +kernel)
  have kf31 := hts (.fieldLink RX11 31 "GossipGateModel" "person" "[I") (by decide +kernel)
  have B62 : ∀ (v1 : Int32) (v2 : Int32) (v3 : Int32) (v5 : Int32) (s0 : Int32) (H : Heap) (locs : List Loc) (ls : Array Slot), lv_has ls 8 [(0, .ref (ad 0)), (1, .int v1), (2, .int v2), (3, .int v3), (5, .int v5)] → gW D ty A (mw ty ad σ wr) s s.heap H locs → mm_dutyOf_b62 σ v1 v2 v3 v5 s0 = some r → W p l e rm_mm_dutyOf s m args below meth c H locs 0 0 Q (F0 m 62 ls [.int s0]) := by
    intro v1 v2 v3 v5 s0 H locs ls hl hw hf
    unfold mm_dutyOf_b62 at hf
    refine lv_istore (lv' := [(6, .int s0), (0, .ref (ad 0)), (1, .int v1), (2, .int v2), (3, .int v3), (5, .int v5)]) hx hb dX11_dutyOf_62 hl (by decide) rfl (fun ls hl => ?_)
    refine lv_iload hx hb dX11_dutyOf_64 (lv_at hl 5 rfl) ?_
    refine lv_iload hx hb dX11_dutyOf_66 (lv_at hl 0 rfl) ?_
    refine lv_imul hx hb dX11_dutyOf_68 ?_
    refine lv_aload_n hx hb dX11_dutyOf_69 rfl (lv_at hl 1 rfl) ?_
    refine lv_iload_n hx hb dX11_dutyOf_70 rfl (lv_at hl 3 rfl) ?_
    refine lv_iload_n hx hb dX11_dutyOf_71 rfl (lv_at hl 4 rfl) ?_
    obtain ⟨r2, h1, hf⟩ := g_b1 hf
    refine g_cI F (As := [.int v2, .int v3]) (rest := [.int (v5 * s0)]) (cmm_freshOf h1) (cwV 2 hts gX11_dutyOf_X11_freshOf rfl rfl rfl (by decide +kernel) ⟨Nat.le_of_ble_eq_true rfl, Nat.le_of_ble_eq_true rfl⟩) hw (hw.recv (ci := 11) (q0 := 0) rfl rfl rfl) rfl hl.1 rfl (Nat.le_of_ble_eq_true rfl) dX11_dutyOf_72 (fun H locs hw => ?_)
    refine lv_imul hx hb dX11_dutyOf_75 ?_
    refine lv_istore (lv' := [(7, .int ((v5 * s0) * r2)), (6, .int s0), (0, .ref (ad 0)), (1, .int v1), (2, .int v2), (3, .int v3), (5, .int v5)]) hx hb dX11_dutyOf_76 hl (by decide) rfl (fun ls hl => ?_)
    refine lv_aload_n hx hb dX11_dutyOf_78 rfl (lv_at hl 2 rfl) ?_
    refine mw_get_8 F hin hw kf19 dX11_dutyOf_79 ?_
    refine lv_iload_n hx hb dX11_dutyOf_82 rfl (lv_at hl 3 rfl) ?_
    obtain ⟨g3, hf⟩ := g_g hf
    refine mw_ld_8 F hw g3 dX11_dutyOf_83 ?_
    refine lv_iconst (v := 2) hx hb dX11_dutyOf_84 (by decide) ?_
    refine lv_icmp_ne (tgt := 95) hx hb dX11_dutyOf_85 (by decide) (fun c4 => ?_) (fun c4 => ?_)
    · have hf := g_f c4 hf
      refine lv_iload hx hb dX11_dutyOf_95 (lv_at hl 0 rfl) ?_
      exact hret ((v5 * s0) * r2) _ _ _ _ _ (Option.some.inj hf) rfl hw dX11_dutyOf_97
    · have hf := g_t c4 hf
      refine lv_iload hx hb dX11_dutyOf_88 (lv_at hl 0 rfl) ?_
      refine lv_iconst (v := 2) hx hb dX11_dutyOf_90 (by decide) ?_
      refine lv_idiv hx hb dX11_dutyOf_91 (by decide) ?_
      refine lv_goto (tgt := 97) hx hb dX11_dutyOf_92 (by decide) ?_
      exact hret (((v5 * s0) * r2) / 2) _ _ _ _ _ (Option.some.inj hf) rfl hw dX11_dutyOf_97
  unfold mm_dutyOf at hf
  refine lv_aload_n hx hb dX11_dutyOf_0 rfl (lv_at hl 0 rfl) ?_
  refine lv_iload_n hx hb dX11_dutyOf_1 rfl (lv_at hl 2 rfl) ?_
  refine lv_iload hx hb dX11_dutyOf_2 (lv_at hl 4 rfl) ?_
  obtain ⟨r6, h5, hf⟩ := g_b1 hf
  refine g_cI F (As := [.int x2, .int x4]) (rest := []) (cmm_sizeOf h5) (cwV 2 hts gX11_dutyOf_X11_sizeOf rfl rfl rfl (by decide +kernel) ⟨Nat.le_of_ble_eq_true rfl, Nat.le_of_ble_eq_true rfl⟩) hw (hw.recv (ci := 11) (q0 := 0) rfl rfl rfl) rfl hl.1 rfl (Nat.le_of_ble_eq_true rfl) dX11_dutyOf_4 (fun H locs hw => ?_)
  refine lv_istore (lv' := [(5, .int r6), (0, .ref (ad 0)), (1, .int x1), (2, .int x2), (3, .int x3), (4, .int x4)]) hx hb dX11_dutyOf_7 hl (by decide) rfl (fun ls hl => ?_)
  refine lv_iload hx hb dX11_dutyOf_9 (lv_at hl 0 rfl) ?_
  refine lv_aload_n hx hb dX11_dutyOf_11 rfl (lv_at hl 1 rfl) ?_
  refine mw_get_7 F hin hw kf116 dX11_dutyOf_12 ?_
  refine lv_icmp_le (tgt := 33) hx hb dX11_dutyOf_15 (by decide) (fun c7 => ?_) (fun c7 => ?_)
  · have hf := g_t c7 hf
    refine lv_iconst (v := 0) hx hb dX11_dutyOf_33 (by decide) ?_
    exact hret 0 _ _ _ _ _ (Option.some.inj hf) rfl hw dX11_dutyOf_34
  · have hf := g_f c7 hf
    refine lv_aload_n hx hb dX11_dutyOf_18 rfl (lv_at hl 1 rfl) ?_
    refine mw_get_10 F hin hw kf25 dX11_dutyOf_19 ?_
    refine lv_iload_n hx hb dX11_dutyOf_22 rfl (lv_at hl 2 rfl) ?_
    obtain ⟨g8, hf⟩ := g_g hf
    refine mw_ld_10 F hw g8 dX11_dutyOf_23 ?_
    refine lv_aload_n hx hb dX11_dutyOf_24 rfl (lv_at hl 1 rfl) ?_
    refine mw_get_12 F hin hw kf31 dX11_dutyOf_25 ?_
    refine lv_iload_n hx hb dX11_dutyOf_28 rfl (lv_at hl 3 rfl) ?_
    obtain ⟨g9, hf⟩ := g_g hf
    refine mw_ld_12 F hw g9 dX11_dutyOf_29 ?_
    refine lv_icmp_ne (tgt := 35) hx hb dX11_dutyOf_30 (by decide) (fun c10 => ?_) (fun c10 => ?_)
    · have hf := g_f c10 hf
      refine lv_aload_n hx hb dX11_dutyOf_35 rfl (lv_at hl 1 rfl) ?_
      refine mw_get_8 F hin hw kf19 dX11_dutyOf_36 ?_
      refine lv_iload_n hx hb dX11_dutyOf_39 rfl (lv_at hl 2 rfl) ?_
      refine mw_ld_8 F hw g8 dX11_dutyOf_40 ?_
      refine lv_iconst (v := 1) hx hb dX11_dutyOf_41 (by decide) ?_
      refine lv_icmp_ne (tgt := 56) hx hb dX11_dutyOf_42 (by decide) (fun c11 => ?_) (fun c11 => ?_)
      · have hf := g_f c11 hf
        refine lv_aload_n hx hb dX11_dutyOf_56 rfl (lv_at hl 1 rfl) ?_
        refine mw_get_9 F hin hw kf22 dX11_dutyOf_57 ?_
        refine lv_iload_n hx hb dX11_dutyOf_60 rfl (lv_at hl 2 rfl) ?_
        refine mw_ld_9 F hw g8 dX11_dutyOf_61 ?_
        exact B62 x1 x2 x3 r6 (σ.2 9 x1.toNatClampNeg) _ _ _ (lv_sub hl [1, 2, 3, 4, 0] rfl) hw hf
      · have hf := g_t c11 hf
        refine lv_aload_n hx hb dX11_dutyOf_45 rfl (lv_at hl 1 rfl) ?_
        refine mw_get_9 F hin hw kf22 dX11_dutyOf_46 ?_
        refine lv_iload_n hx hb dX11_dutyOf_49 rfl (lv_at hl 2 rfl) ?_
        refine mw_ld_9 F hw g8 dX11_dutyOf_50 ?_
        refine lv_iconst (v := 1) hx hb dX11_dutyOf_51 (by decide) ?_
        refine lv_iadd hx hb dX11_dutyOf_52 ?_
        refine lv_goto (tgt := 62) hx hb dX11_dutyOf_53 (by decide) ?_
        exact B62 x1 x2 x3 r6 ((σ.2 9 x1.toNatClampNeg) + 1) _ _ _ (lv_sub hl [1, 2, 3, 4, 0] rfl) hw hf
    · have hf := g_t c10 hf
      refine lv_iconst (v := 0) hx hb dX11_dutyOf_33 (by decide) ?_
      exact hret 0 _ _ _ _ _ (Option.some.inj hf) rfl hw dX11_dutyOf_34

abbrev rm_mm_duty : Room := { frames := 3, cells := 0, slots := 0, locals := 73 }
set_option maxHeartbeats 4000000 in
set_option maxRecDepth 100000 in
theorem cmm_duty {l : Launch} {D : va_G} {ty : gT} {A : Nat → Prop} {ad : Nat → Nat} {wr : va_W} {x1 : Int32} {x2 : Int32} {x3 : Int32} {x4 : Int32} {σ : gS} {r : Int32} (hf : mm_duty σ x1 x2 x3 x4 = some r) : gI l D ty A yX11_duty wsX11_duty rm_mm_duty [.ref (ad 0), .int x1, .int x2, .int x3, .int x4] (mw ty ad σ wr) r (mw ty ad σ wr) := by
  refine gI_enter (cc := cX11_duty) (maxL := 5) (by decide) rfl (Nat.le_of_ble_eq_true rfl) ?_
  intro p e s m args below meth c Q ls F hl hw hret
  have F : CallFix p m c cX11_duty 5 s args wsX11_duty RX11 := F
  obtain ⟨hx, hb, hml, hown, hts⟩ := id F
  have hl : lv_has ls 5 [(0, .ref (ad 0)), (1, .int x1), (2, .int x2), (3, .int x3), (4, .int x4)] := hl
  have hin : ∀ w ∈ wsX110, w ∈ wsX11_duty := by first | exact fun w h => List.mem_cons_of_mem _ (List.mem_append_right _ h) | decide +kernel
  have kf34 := hts (.fieldLink RX11 34 "GossipGateModel" "born" "[I") (by decide +kernel)
  unfold mm_duty at hf
  refine lv_aload_n hx hb dX11_duty_0 rfl (lv_at hl 0 rfl) ?_
  refine lv_iload_n hx hb dX11_duty_1 rfl (lv_at hl 1 rfl) ?_
  obtain ⟨r2, h1, hf⟩ := g_b1 hf
  refine g_cI F (As := [.int x1]) (rest := []) (cmm_isGate h1) (cwV 1 hts gX11_duty_X11_isGate rfl rfl rfl (by decide +kernel) ⟨Nat.le_of_ble_eq_true rfl, Nat.le_of_ble_eq_true rfl⟩) hw (hw.recv (ci := 11) (q0 := 0) rfl rfl rfl) rfl hl.1 rfl (Nat.le_of_ble_eq_true rfl) dX11_duty_2 (fun H locs hw => ?_)
  refine lv_if_eq (tgt := 16) hx hb dX11_duty_5 (by decide) (fun c3 => ?_) (fun c3 => ?_)
  · have hf := g_f (bI_z c3) hf
    refine lv_iconst (v := (-1)) hx hb dX11_duty_16 (by decide) ?_
    exact hret (-1) _ _ _ _ _ (Option.some.inj hf) rfl hw dX11_duty_17
  · have hf := g_t (bI_nz c3) hf
    refine lv_aload_n hx hb dX11_duty_8 rfl (lv_at hl 0 rfl) ?_
    refine lv_iload_n hx hb dX11_duty_9 rfl (lv_at hl 2 rfl) ?_
    obtain ⟨r5, h4, hf⟩ := g_b1 hf
    refine g_cI F (As := [.int x2]) (rest := []) (cmm_isStory h4) (cwV 1 hts gX11_duty_X11_isStory rfl rfl rfl (by decide +kernel) ⟨Nat.le_of_ble_eq_true rfl, Nat.le_of_ble_eq_true rfl⟩) hw (hw.recv (ci := 11) (q0 := 0) rfl rfl rfl) rfl hl.1 rfl (Nat.le_of_ble_eq_true rfl) dX11_duty_10 (fun H locs hw => ?_)
    refine lv_if_ne (tgt := 18) hx hb dX11_duty_13 (by decide) (fun c6 => ?_) (fun c6 => ?_)
    · have hf := g_t (bI_nz c6) hf
      refine lv_iload_n hx hb dX11_duty_18 rfl (lv_at hl 3 rfl) ?_
      obtain ⟨r8, h7, hf⟩ := g_b1 hf
      refine g_sI F (As := [.int x3]) (rest := []) (cmm_isDay h7) (va_cwS 1 hts gX11_duty_X11_isDay rfl rfl rfl (by decide +kernel) ⟨Nat.le_of_ble_eq_true rfl, Nat.le_of_ble_eq_true rfl⟩) hw rfl hl.1 rfl (Nat.le_of_ble_eq_true rfl) dX11_duty_19 (fun H locs hw => ?_)
      refine lv_if_eq (tgt := 36) hx hb dX11_duty_22 (by decide) (fun c9 => ?_) (fun c9 => ?_)
      · have hf := g_f (bI_z c9) hf
        refine lv_bipush (v := (-2)) hx hb dX11_duty_36 (by decide) ?_
        exact hret (-2) _ _ _ _ _ (Option.some.inj hf) rfl hw dX11_duty_38
      · have hf := g_t (bI_nz c9) hf
        refine lv_iload hx hb dX11_duty_25 (lv_at hl 4 rfl) ?_
        refine lv_iconst (v := 0) hx hb dX11_duty_27 (by decide) ?_
        refine lv_bipush (v := 7) hx hb dX11_duty_28 (by decide) ?_
        obtain ⟨r11, h10, hf⟩ := g_b1 hf
        refine g_sI F (As := [.int x4, .int 0, .int 7]) (rest := []) (cmm_within h10) (va_cwS 3 hts gX11_duty_X11_within rfl rfl rfl (by decide +kernel) ⟨Nat.le_of_ble_eq_true rfl, Nat.le_of_ble_eq_true rfl⟩) hw rfl hl.1 rfl (Nat.le_of_ble_eq_true rfl) dX11_duty_30 (fun H locs hw => ?_)
        refine lv_if_ne (tgt := 39) hx hb dX11_duty_33 (by decide) (fun c12 => ?_) (fun c12 => ?_)
        · have hf := g_t (bI_nz c12) hf
          refine lv_iload_n hx hb dX11_duty_39 rfl (lv_at hl 3 rfl) ?_
          refine lv_aload_n hx hb dX11_duty_40 rfl (lv_at hl 0 rfl) ?_
          refine mw_get_13 F hin hw kf34 dX11_duty_41 ?_
          refine lv_iload_n hx hb dX11_duty_44 rfl (lv_at hl 2 rfl) ?_
          obtain ⟨g13, hf⟩ := g_g hf
          refine mw_ld_13 F hw g13 dX11_duty_45 ?_
          refine lv_icmp_ge (tgt := 54) hx hb dX11_duty_46 (by decide) (fun c14 => ?_) (fun c14 => ?_)
          · have hf := g_t c14 hf
            refine lv_aload_n hx hb dX11_duty_54 rfl (lv_at hl 0 rfl) ?_
            refine lv_iload_n hx hb dX11_duty_55 rfl (lv_at hl 1 rfl) ?_
            refine lv_iload_n hx hb dX11_duty_56 rfl (lv_at hl 2 rfl) ?_
            refine lv_iload_n hx hb dX11_duty_57 rfl (lv_at hl 3 rfl) ?_
            refine lv_iload hx hb dX11_duty_58 (lv_at hl 4 rfl) ?_
            obtain ⟨r16, h15, hf⟩ := g_b1 hf
            refine g_cI F (As := [.int x1, .int x2, .int x3, .int x4]) (rest := []) (cmm_dutyOf h15) (cwV 4 hts gX11_duty_X11_dutyOf rfl rfl rfl (by decide +kernel) ⟨Nat.le_of_ble_eq_true rfl, Nat.le_of_ble_eq_true rfl⟩) hw (hw.recv (ci := 11) (q0 := 0) rfl rfl rfl) rfl hl.1 rfl (Nat.le_of_ble_eq_true rfl) dX11_duty_60 (fun H locs hw => ?_)
            exact hret r16 _ _ _ _ _ (Option.some.inj hf) rfl hw dX11_duty_63
          · have hf := g_f c14 hf
            refine lv_bipush (v := (-9)) hx hb dX11_duty_49 (by decide) ?_
            refine lv_goto (tgt := 63) hx hb dX11_duty_51 (by decide) ?_
            exact hret (-9) _ _ _ _ _ (Option.some.inj hf) rfl hw dX11_duty_63
        · have hf := g_f (bI_z c12) hf
          refine lv_bipush (v := (-2)) hx hb dX11_duty_36 (by decide) ?_
          exact hret (-2) _ _ _ _ _ (Option.some.inj hf) rfl hw dX11_duty_38
    · have hf := g_f (bI_z c6) hf
      refine lv_iconst (v := (-1)) hx hb dX11_duty_16 (by decide) ?_
      exact hret (-1) _ _ _ _ _ (Option.some.inj hf) rfl hw dX11_duty_17

abbrev rm_mm_isRow : Room := { frames := 2, cells := 0, slots := 0, locals := 42 }
set_option maxHeartbeats 4000000 in
set_option maxRecDepth 100000 in
theorem cmm_isRow {l : Launch} {D : va_G} {ty : gT} {A : Nat → Prop} {ws : va_W} {x1 : Int32} {x2 : Int32} {r : Bool} (hf : mm_isRow x1 x2 = some r) : gI l D ty A yX11_isRow wsX11_isRow rm_mm_isRow [.int x1, .int x2] ws (bI r) ws := by
  refine gZ_enter (cc := cX11_isRow) (maxL := 2) (by decide) rfl (Nat.le_of_ble_eq_true rfl) ?_
  intro p e s m args below meth c Q ls F hl hw hret
  have F : CallFix p m c cX11_isRow 2 s args wsX11_isRow RX11 := F
  obtain ⟨hx, hb, hml, hown, hts⟩ := id F
  have hl : lv_has ls 2 [(0, .int x1), (1, .int x2)] := hl
  unfold mm_isRow at hf
  refine lv_iload_n hx hb dX11_isRow_0 rfl (lv_at hl 0 rfl) ?_
  obtain ⟨r2, h1, hf⟩ := g_b1 hf
  refine g_sI F (As := [.int x1]) (rest := []) (cmm_isSort h1) (va_cwS 1 hts gX11_isRow_X11_isSort rfl rfl rfl (by decide +kernel) ⟨Nat.le_of_ble_eq_true rfl, Nat.le_of_ble_eq_true rfl⟩) hw rfl hl.1 rfl (Nat.le_of_ble_eq_true rfl) dX11_isRow_1 (fun H locs hw => ?_)
  refine lv_if_eq (tgt := 21) hx hb dX11_isRow_4 (by decide) (fun c3 => ?_) (fun c3 => ?_)
  · have hf := g_f (bI_z c3) hf
    refine lv_iconst (v := 0) hx hb dX11_isRow_21 (by decide) ?_
    exact hret false _ _ _ _ _ (Option.some.inj hf) rfl hw dX11_isRow_22
  · have hf := g_t (bI_nz c3) hf
    refine lv_iload_n hx hb dX11_isRow_7 rfl (lv_at hl 1 rfl) ?_
    refine lv_iconst (v := 0) hx hb dX11_isRow_8 (by decide) ?_
    refine lv_bipush (v := 12) hx hb dX11_isRow_9 (by decide) ?_
    obtain ⟨r5, h4, hf⟩ := g_b1 hf
    refine g_sI F (As := [.int x2, .int 0, .int 12]) (rest := []) (cmm_within h4) (va_cwS 3 hts gX11_isRow_X11_within rfl rfl rfl (by decide +kernel) ⟨Nat.le_of_ble_eq_true rfl, Nat.le_of_ble_eq_true rfl⟩) hw rfl hl.1 rfl (Nat.le_of_ble_eq_true rfl) dX11_isRow_11 (fun H locs hw => ?_)
    refine lv_if_eq (tgt := 21) hx hb dX11_isRow_14 (by decide) (fun c6 => ?_) (fun c6 => ?_)
    · have hf := g_f (bI_z c6) hf
      refine lv_iconst (v := 0) hx hb dX11_isRow_21 (by decide) ?_
      exact hret false _ _ _ _ _ (Option.some.inj hf) rfl hw dX11_isRow_22
    · have hf := g_t (bI_nz c6) hf
      refine lv_iconst (v := 1) hx hb dX11_isRow_17 (by decide) ?_
      refine lv_goto (tgt := 22) hx hb dX11_isRow_18 (by decide) ?_
      exact hret true _ _ _ _ _ (Option.some.inj hf) rfl hw dX11_isRow_22

abbrev rm_mm_layPassages : Room := { frames := 2, cells := 0, slots := 0, locals := 42 }
set_option maxHeartbeats 4000000 in
set_option maxRecDepth 100000 in
theorem cmm_layPassages {l : Launch} {D : va_G} {ty : gT} {A : Nat → Prop} {ad : Nat → Nat} {wr : va_W} {x1 : Int32} {x2 : Int32} {x3 : Int32} {x4 : Int32} {σ : gS} {r : Int32} {σ' : gS} (hf : mm_layPassages σ x1 x2 x3 x4 = some (r, σ')) : gI l D ty A yX11_layPassages wsX11_layPassages rm_mm_layPassages [.ref (ad 0), .int x1, .int x2, .int x3, .int x4] (mw ty ad σ wr) r (mw ty ad σ' wr) := by
  refine gI_enter (cc := cX11_layPassages) (maxL := 8) (by decide) rfl (Nat.le_of_ble_eq_true rfl) ?_
  intro p e s m args below meth c Q ls F hl hw hret
  have F : CallFix p m c cX11_layPassages 8 s args wsX11_layPassages RX11 := F
  obtain ⟨hx, hb, hml, hown, hts⟩ := id F
  have hl : lv_has ls 8 [(0, .ref (ad 0)), (1, .int x1), (2, .int x2), (3, .int x3), (4, .int x4)] := hl
  have hin : ∀ w ∈ wsX110, w ∈ wsX11_layPassages := by first | exact fun w h => List.mem_cons_of_mem _ (List.mem_append_right _ h) | decide +kernel
  have kf158 := hts (.fieldLink RX11 158 "GossipGateModel" "passages" "I") (by decide +kernel)
  have kf16 := hts (.fieldLink RX11 16 "GossipGateModel" "cells" "[I") (by decide +kernel)
  have kf47 := hts (.fieldLink RX11 47 "GossipGateModel" "passageOf" "[I") (by decide +kernel)
  have kf50 := hts (.fieldLink RX11 50 "GossipGateModel" "passageBy" "[I") (by decide +kernel)
  have kf53 := hts (.fieldLink RX11 53 "GossipGateModel" "passageOn" "[I") (by decide +kernel)
  have kf83 := hts (.fieldLink RX11 83 "GossipGateModel" "gates" "I") (by decide +kernel)
  have B46 : ∀ (n46 : Nat) (v4 : Int32) (v6 : Int32) (v7 : Int32) (σ : gS) (H : Heap) (locs : List Loc) (ls : Array Slot), lv_has ls 8 [(0, .ref (ad 0)), (4, .int v4), (6, .int v6), (7, .int v7)] → gW D ty A (mw ty ad σ wr) s s.heap H locs → mm_layPassages_b46 n46 v4 v6 v7 σ = some (r, σ') → W p l e rm_mm_layPassages s m args below meth c H locs 0 0 Q (F0 m 46 ls []) := by
    intro n46
    induction n46 with
    | zero => intro v4 v6 v7 σ H locs ls hl hw hf; cases hf
    | succ n46 ih46 =>
      intro v4 v6 v7 σ H locs ls hl hw hf
      rw [mm_layPassages_b46] at hf
      refine lv_iload hx hb dX11_layPassages_46 (lv_at hl 3 rfl) ?_
      refine lv_iload hx hb dX11_layPassages_48 (lv_at hl 1 rfl) ?_
      refine lv_icmp_ge (tgt := 166) hx hb dX11_layPassages_50 (by decide) (fun c1 => ?_) (fun c1 => ?_)
      · have hf := g_t c1 hf
        refine lv_aload_n hx hb dX11_layPassages_166 rfl (lv_at hl 0 rfl) ?_
        refine lv_iload hx hb dX11_layPassages_167 (lv_at hl 1 rfl) ?_
        refine mw_put_20 F hin hw kf158 dX11_layPassages_169 (fun H locs hw => ?_)
        obtain ⟨σ2, eσ2, hf⟩ := g_let hf
        have hw := mw_re eσ2 hw
        refine lv_iconst (v := 0) hx hb dX11_layPassages_172 (by decide) ?_
        exact hret 0 _ _ _ _ _ (g_i1 hf) (congrArg (fun t => mw ty ad t wr) (g_i2 hf)) hw dX11_layPassages_173
      · have hf := g_f c1 hf
        refine lv_aload_n hx hb dX11_layPassages_53 rfl (lv_at hl 0 rfl) ?_
        refine mw_get_21 F hin hw kf47 dX11_layPassages_54 ?_
        refine lv_iload hx hb dX11_layPassages_57 (lv_at hl 3 rfl) ?_
        refine lv_aload_n hx hb dX11_layPassages_59 rfl (lv_at hl 0 rfl) ?_
        refine mw_get_4 F hin hw kf16 dX11_layPassages_60 ?_
        refine lv_iload hx hb dX11_layPassages_63 (lv_at hl 2 rfl) ?_
        refine lv_iconst (v := 3) hx hb dX11_layPassages_65 (by decide) ?_
        refine lv_iload hx hb dX11_layPassages_66 (lv_at hl 3 rfl) ?_
        refine lv_imul hx hb dX11_layPassages_68 ?_
        refine lv_iadd hx hb dX11_layPassages_69 ?_
        obtain ⟨g3, hf⟩ := g_g hf
        refine mw_ld_4 F hw g3 dX11_layPassages_70 ?_
        obtain ⟨g4, hf⟩ := g_g hf
        refine mw_st_21 F hw g4 dX11_layPassages_71 (fun H locs hw => ?_)
        obtain ⟨σ5, eσ5, hf⟩ := g_let hf
        have hw := mw_re eσ5 hw
        refine lv_aload_n hx hb dX11_layPassages_72 rfl (lv_at hl 0 rfl) ?_
        refine mw_get_22 F hin hw kf50 dX11_layPassages_73 ?_
        refine lv_iload hx hb dX11_layPassages_76 (lv_at hl 3 rfl) ?_
        refine lv_aload_n hx hb dX11_layPassages_78 rfl (lv_at hl 0 rfl) ?_
        refine mw_get_4 F hin hw kf16 dX11_layPassages_79 ?_
        refine lv_iload hx hb dX11_layPassages_82 (lv_at hl 2 rfl) ?_
        refine lv_iconst (v := 3) hx hb dX11_layPassages_84 (by decide) ?_
        refine lv_iload hx hb dX11_layPassages_85 (lv_at hl 3 rfl) ?_
        refine lv_imul hx hb dX11_layPassages_87 ?_
        refine lv_iadd hx hb dX11_layPassages_88 ?_
        refine lv_iconst (v := 1) hx hb dX11_layPassages_89 (by decide) ?_
        refine lv_iadd hx hb dX11_layPassages_90 ?_
        obtain ⟨g6, hf⟩ := g_g hf
        refine mw_ld_4 F hw g6 dX11_layPassages_91 ?_
        refine mw_st_22 F hw g4 dX11_layPassages_92 (fun H locs hw => ?_)
        obtain ⟨σ7, eσ7, hf⟩ := g_let hf
        have hw := mw_re eσ7 hw
        refine lv_aload_n hx hb dX11_layPassages_93 rfl (lv_at hl 0 rfl) ?_
        refine mw_get_23 F hin hw kf53 dX11_layPassages_94 ?_
        refine lv_iload hx hb dX11_layPassages_97 (lv_at hl 3 rfl) ?_
        refine lv_aload_n hx hb dX11_layPassages_99 rfl (lv_at hl 0 rfl) ?_
        refine mw_get_4 F hin hw kf16 dX11_layPassages_100 ?_
        refine lv_iload hx hb dX11_layPassages_103 (lv_at hl 2 rfl) ?_
        refine lv_iconst (v := 3) hx hb dX11_layPassages_105 (by decide) ?_
        refine lv_iload hx hb dX11_layPassages_106 (lv_at hl 3 rfl) ?_
        refine lv_imul hx hb dX11_layPassages_108 ?_
        refine lv_iadd hx hb dX11_layPassages_109 ?_
        refine lv_iconst (v := 2) hx hb dX11_layPassages_110 (by decide) ?_
        refine lv_iadd hx hb dX11_layPassages_111 ?_
        obtain ⟨g8, hf⟩ := g_g hf
        refine mw_ld_4 F hw g8 dX11_layPassages_112 ?_
        refine mw_st_23 F hw g4 dX11_layPassages_113 (fun H locs hw => ?_)
        obtain ⟨σ9, eσ9, hf⟩ := g_let hf
        have hw := mw_re eσ9 hw
        refine lv_aload_n hx hb dX11_layPassages_114 rfl (lv_at hl 0 rfl) ?_
        refine lv_aload_n hx hb dX11_layPassages_115 rfl (lv_at hl 0 rfl) ?_
        refine mw_get_21 F hin hw kf47 dX11_layPassages_116 ?_
        refine lv_iload hx hb dX11_layPassages_119 (lv_at hl 3 rfl) ?_
        refine mw_ld_21 F hw g4 dX11_layPassages_121 ?_
        obtain ⟨r11, h10, hf⟩ := g_b1 hf
        refine g_cI F (As := [.int (σ9.2 21 v7.toNatClampNeg)]) (rest := []) (cmm_isStory h10) (cwV 1 hts gX11_layPassages_X11_isStory rfl rfl rfl (by decide +kernel) ⟨Nat.le_of_ble_eq_true rfl, Nat.le_of_ble_eq_true rfl⟩) hw (hw.recv (ci := 11) (q0 := 0) rfl rfl rfl) rfl hl.1 rfl (Nat.le_of_ble_eq_true rfl) dX11_layPassages_122 (fun H locs hw => ?_)
        refine lv_if_eq (tgt := 142) hx hb dX11_layPassages_125 (by decide) (fun c12 => ?_) (fun c12 => ?_)
        · have hf := g_f (bI_z c12) hf
          refine lv_iconst (v := (-1)) hx hb dX11_layPassages_142 (by decide) ?_
          exact hret (-1) _ _ _ _ _ (g_i1 hf) (congrArg (fun t => mw ty ad t wr) (g_i2 hf)) hw dX11_layPassages_143
        · have hf := g_t (bI_nz c12) hf
          refine lv_aload_n hx hb dX11_layPassages_128 rfl (lv_at hl 0 rfl) ?_
          refine lv_aload_n hx hb dX11_layPassages_129 rfl (lv_at hl 0 rfl) ?_
          refine mw_get_22 F hin hw kf50 dX11_layPassages_130 ?_
          refine lv_iload hx hb dX11_layPassages_133 (lv_at hl 3 rfl) ?_
          refine mw_ld_22 F hw g4 dX11_layPassages_135 ?_
          obtain ⟨r14, h13, hf⟩ := g_b1 hf
          refine g_cI F (As := [.int (σ9.2 22 v7.toNatClampNeg)]) (rest := []) (cmm_isGate h13) (cwV 1 hts gX11_layPassages_X11_isGate rfl rfl rfl (by decide +kernel) ⟨Nat.le_of_ble_eq_true rfl, Nat.le_of_ble_eq_true rfl⟩) hw (hw.recv (ci := 11) (q0 := 0) rfl rfl rfl) rfl hl.1 rfl (Nat.le_of_ble_eq_true rfl) dX11_layPassages_136 (fun H locs hw => ?_)
          refine lv_if_ne (tgt := 144) hx hb dX11_layPassages_139 (by decide) (fun c15 => ?_) (fun c15 => ?_)
          · have hf := g_t (bI_nz c15) hf
            refine lv_aload_n hx hb dX11_layPassages_144 rfl (lv_at hl 0 rfl) ?_
            refine mw_get_23 F hin hw kf53 dX11_layPassages_145 ?_
            refine lv_iload hx hb dX11_layPassages_148 (lv_at hl 3 rfl) ?_
            refine mw_ld_23 F hw g4 dX11_layPassages_150 ?_
            obtain ⟨r17, h16, hf⟩ := g_b1 hf
            refine g_sI F (As := [.int (σ9.2 23 v7.toNatClampNeg)]) (rest := []) (cmm_isDay h16) (va_cwS 1 hts gX11_layPassages_X11_isDay rfl rfl rfl (by decide +kernel) ⟨Nat.le_of_ble_eq_true rfl, Nat.le_of_ble_eq_true rfl⟩) hw rfl hl.1 rfl (Nat.le_of_ble_eq_true rfl) dX11_layPassages_151 (fun H locs hw => ?_)
            refine lv_if_ne (tgt := 160) hx hb dX11_layPassages_154 (by decide) (fun c18 => ?_) (fun c18 => ?_)
            · have hf := g_t (bI_nz c18) hf
              refine lv_iinc (v := v7 + 1) (lv' := [(7, .int (v7 + 1)), (0, .ref (ad 0)), (4, .int v4), (6, .int v6)]) hx hb dX11_layPassages_160 hl (k := 3) rfl rfl (by decide) rfl (fun ls hl => ?_)
              refine lv_goto (tgt := 46) hx hb dX11_layPassages_163 (by decide) ?_
              exact ih46 v4 v6 (v7 + 1) σ9 _ _ _ (lv_sub hl [1, 2, 3, 0] rfl) hw hf
            · have hf := g_f (bI_z c18) hf
              refine lv_bipush (v := (-2)) hx hb dX11_layPassages_157 (by decide) ?_
              exact hret (-2) _ _ _ _ _ (g_i1 hf) (congrArg (fun t => mw ty ad t wr) (g_i2 hf)) hw dX11_layPassages_159
          · have hf := g_f (bI_z c15) hf
            refine lv_iconst (v := (-1)) hx hb dX11_layPassages_142 (by decide) ?_
            exact hret (-1) _ _ _ _ _ (g_i1 hf) (congrArg (fun t => mw ty ad t wr) (g_i2 hf)) hw dX11_layPassages_143
  unfold mm_layPassages at hf
  refine lv_aload_n hx hb dX11_layPassages_0 rfl (lv_at hl 0 rfl) ?_
  refine lv_iload_n hx hb dX11_layPassages_1 rfl (lv_at hl 1 rfl) ?_
  refine lv_iload_n hx hb dX11_layPassages_2 rfl (lv_at hl 2 rfl) ?_
  refine lv_iload_n hx hb dX11_layPassages_3 rfl (lv_at hl 3 rfl) ?_
  refine lv_iconst (v := 3) hx hb dX11_layPassages_4 (by decide) ?_
  refine lv_iload hx hb dX11_layPassages_5 (lv_at hl 4 rfl) ?_
  refine lv_imul hx hb dX11_layPassages_7 ?_
  obtain ⟨r20, h19, hf⟩ := g_b1 hf
  refine g_cI F (As := [.int x1, .int x2, .int x3, .int ((3 : Int32) * x4)]) (rest := []) (cmm_against h19) (cwV 4 hts gX11_layPassages_X11_against rfl rfl rfl (by decide +kernel) ⟨Nat.le_of_ble_eq_true rfl, Nat.le_of_ble_eq_true rfl⟩) hw (hw.recv (ci := 11) (q0 := 0) rfl rfl rfl) rfl hl.1 rfl (Nat.le_of_ble_eq_true rfl) dX11_layPassages_8 (fun H locs hw => ?_)
  refine lv_istore (lv' := [(5, .int r20), (0, .ref (ad 0)), (1, .int x1), (2, .int x2), (3, .int x3), (4, .int x4)]) hx hb dX11_layPassages_11 hl (by decide) rfl (fun ls hl => ?_)
  refine lv_iload hx hb dX11_layPassages_13 (lv_at hl 0 rfl) ?_
  refine lv_if_eq (tgt := 25) hx hb dX11_layPassages_15 (by decide) (fun c21 => ?_) (fun c21 => ?_)
  · have hf := g_t c21 hf
    refine lv_aload_n hx hb dX11_layPassages_25 rfl (lv_at hl 1 rfl) ?_
    refine mw_get_5 F hin hw kf83 dX11_layPassages_26 ?_
    refine lv_if_ne (tgt := 35) hx hb dX11_layPassages_29 (by decide) (fun c22 => ?_) (fun c22 => ?_)
    · have hf := g_f c22 hf
      refine lv_bipush (v := 60) hx hb dX11_layPassages_35 (by decide) ?_
      refine lv_iload_n hx hb dX11_layPassages_37 rfl (lv_at hl 2 rfl) ?_
      refine lv_imul hx hb dX11_layPassages_38 ?_
      refine lv_iload_n hx hb dX11_layPassages_39 rfl (lv_at hl 4 rfl) ?_
      refine lv_iadd hx hb dX11_layPassages_40 ?_
      obtain ⟨y23, ey23, hf⟩ := g_let hf
      refine g_nm ey23 ?_
      refine lv_istore (lv' := [(6, .int y23), (5, .int r20), (0, .ref (ad 0)), (1, .int x1), (2, .int x2), (3, .int x3), (4, .int x4)]) hx hb dX11_layPassages_41 hl (by decide) rfl (fun ls hl => ?_)
      refine lv_iconst (v := 0) hx hb dX11_layPassages_43 (by decide) ?_
      refine lv_istore (lv' := [(7, .int 0), (6, .int y23), (5, .int r20), (0, .ref (ad 0)), (1, .int x1), (2, .int x2), (3, .int x3), (4, .int x4)]) hx hb dX11_layPassages_44 hl (by decide) rfl (fun ls hl => ?_)
      exact B46 1000 x4 y23 0 σ _ _ _ (lv_sub hl [3, 7, 1, 0] rfl) hw hf
    · have hf := g_t c22 hf
      refine lv_bipush (v := (-3)) hx hb dX11_layPassages_32 (by decide) ?_
      exact hret (-3) _ _ _ _ _ (g_i1 hf) (congrArg (fun t => mw ty ad t wr) (g_i2 hf)) hw dX11_layPassages_34
  · have hf := g_f c21 hf
    refine lv_aload_n hx hb dX11_layPassages_18 rfl (lv_at hl 1 rfl) ?_
    refine lv_iload hx hb dX11_layPassages_19 (lv_at hl 0 rfl) ?_
    obtain ⟨r25, σ26, h24, hf⟩ := g_b2 hf
    refine g_cI F (As := [.int r20]) (rest := []) (cmm_fails h24) (cwV 1 hts gX11_layPassages_X11_fails rfl rfl rfl (by decide +kernel) ⟨Nat.le_of_ble_eq_true rfl, Nat.le_of_ble_eq_true rfl⟩) hw (hw.recv (ci := 11) (q0 := 0) rfl rfl rfl) rfl hl.1 rfl (Nat.le_of_ble_eq_true rfl) dX11_layPassages_21 (fun H locs hw => ?_)
    exact hret r25 _ _ _ _ _ (g_i1 hf) (congrArg (fun t => mw ty ad t wr) (g_i2 hf)) hw dX11_layPassages_24

abbrev rm_mm_spot : Room := { frames := 0, cells := 0, slots := 0, locals := 0 }
set_option maxHeartbeats 4000000 in
set_option maxRecDepth 100000 in
theorem cmm_spot {l : Launch} {D : va_G} {ty : gT} {A : Nat → Prop} {ws : va_W} {x1 : Int32} {x2 : Int32} {x3 : Int32} {r : Int32} (hf : mm_spot x1 x2 x3 = some r) : gI l D ty A yX11_spot wsX11_spot rm_mm_spot [.int x1, .int x2, .int x3] ws r ws := by
  refine gI_enter (cc := cX11_spot) (maxL := 3) (by decide) rfl (Nat.le_of_ble_eq_true rfl) ?_
  intro p e s m args below meth c Q ls F hl hw hret
  have F : CallFix p m c cX11_spot 3 s args wsX11_spot RX11 := F
  obtain ⟨hx, hb, hml, hown, hts⟩ := id F
  have hl : lv_has ls 3 [(0, .int x1), (1, .int x2), (2, .int x3)] := hl
  unfold mm_spot at hf
  refine lv_iconst (v := 5) hx hb dX11_spot_0 (by decide) ?_
  refine lv_iload_n hx hb dX11_spot_1 rfl (lv_at hl 0 rfl) ?_
  refine lv_imul hx hb dX11_spot_2 ?_
  refine lv_iload_n hx hb dX11_spot_3 rfl (lv_at hl 1 rfl) ?_
  refine lv_iadd hx hb dX11_spot_4 ?_
  refine lv_bipush (v := 8) hx hb dX11_spot_5 (by decide) ?_
  refine lv_imul hx hb dX11_spot_7 ?_
  refine lv_iload_n hx hb dX11_spot_8 rfl (lv_at hl 2 rfl) ?_
  refine lv_iadd hx hb dX11_spot_9 ?_
  exact hret (((((5 : Int32) * x1) + x2) * 8) + x3) _ _ _ _ _ (Option.some.inj hf) rfl hw dX11_spot_10

abbrev rm_mm_go : Room := { frames := 1, cells := 0, slots := 0, locals := 22 }
set_option maxHeartbeats 4000000 in
set_option maxRecDepth 100000 in
theorem cmm_go {l : Launch} {D : va_G} {ty : gT} {A : Nat → Prop} {ad : Nat → Nat} {wr : va_W} {σ : gS} {r : Int32} {σ' : gS} (hf : mm_go σ = some (r, σ')) : gI l D ty A yX11_go wsX11_go rm_mm_go [.ref (ad 0)] (mw ty ad σ wr) r (mw ty ad σ' wr) := by
  refine gI_enter (cc := cX11_go) (maxL := 3) (by decide) rfl (Nat.le_of_ble_eq_true rfl) ?_
  intro p e s m args below meth c Q ls F hl hw hret
  have F : CallFix p m c cX11_go 3 s args wsX11_go RX11 := F
  obtain ⟨hx, hb, hml, hown, hts⟩ := id F
  have hl : lv_has ls 3 [(0, .ref (ad 0))] := hl
  have hin : ∀ w ∈ wsX110, w ∈ wsX11_go := by first | exact fun w h => List.mem_cons_of_mem _ (List.mem_append_right _ h) | decide +kernel
  have kf158 := hts (.fieldLink RX11 158 "GossipGateModel" "passages" "I") (by decide +kernel)
  have kf34 := hts (.fieldLink RX11 34 "GossipGateModel" "born" "[I") (by decide +kernel)
  have kf47 := hts (.fieldLink RX11 47 "GossipGateModel" "passageOf" "[I") (by decide +kernel)
  have kf50 := hts (.fieldLink RX11 50 "GossipGateModel" "passageBy" "[I") (by decide +kernel)
  have kf53 := hts (.fieldLink RX11 53 "GossipGateModel" "passageOn" "[I") (by decide +kernel)
  have kf56 := hts (.fieldLink RX11 56 "GossipGateModel" "together" "[I") (by decide +kernel)
  have kf59 := hts (.fieldLink RX11 59 "GossipGateModel" "went" "[I") (by decide +kernel)
  have kf62 := hts (.fieldLink RX11 62 "GossipGateModel" "lastOf" "[I") (by decide +kernel)
  have B52 : ∀ (n52 : Nat) (v1 : Int32) (σ : gS) (H : Heap) (locs : List Loc) (ls : Array Slot), lv_has ls 3 [(0, .ref (ad 0)), (1, .int v1)] → gW D ty A (mw ty ad σ wr) s s.heap H locs → mm_go_b52 n52 v1 σ = some (r, σ') → W p l e rm_mm_go s m args below meth c H locs 0 0 Q (F0 m 52 ls []) := by
    intro n52
    induction n52 with
    | zero => intro v1 σ H locs ls hl hw hf; cases hf
    | succ n52 ih52 =>
      have B171 : ∀ (v1 : Int32) (s1 : Int32) (s2 : Int32) (σ : gS) (H : Heap) (locs : List Loc) (ls : Array Slot), lv_has ls 3 [(0, .ref (ad 0)), (1, .int v1)] → gW D ty A (mw ty ad σ wr) s s.heap H locs → mm_go_b171 (mm_go_b52 n52) v1 s1 s2 σ = some (r, σ') → W p l e rm_mm_go s m args below meth c H locs 0 0 Q (F0 m 171 ls [.int s2, .int s1, .ref (ad 27)]) := by
        intro v1 s1 s2 σ H locs ls hl hw hf
        unfold mm_go_b171 at hf
        obtain ⟨g1, hf⟩ := g_g hf
        refine mw_st_26 F hw g1 dX11_go_171 (fun H locs hw => ?_)
        obtain ⟨σ2, eσ2, hf⟩ := g_let hf
        have hw := mw_re eσ2 hw
        refine lv_iinc (v := v1 + 1) (lv' := [(1, .int (v1 + 1)), (0, .ref (ad 0))]) hx hb dX11_go_172 hl (k := 1) rfl rfl (by decide) rfl (fun ls hl => ?_)
        refine lv_goto (tgt := 52) hx hb dX11_go_175 (by decide) ?_
        exact ih52 (v1 + 1) σ2 _ _ _ (lv_sub hl [1, 0] rfl) hw hf
      intro v1 σ H locs ls hl hw hf
      rw [mm_go_b52] at hf
      refine lv_iload_n hx hb dX11_go_52 rfl (lv_at hl 1 rfl) ?_
      refine lv_aload_n hx hb dX11_go_53 rfl (lv_at hl 0 rfl) ?_
      refine mw_get_20 F hin hw kf158 dX11_go_54 ?_
      refine lv_icmp_ge (tgt := 178) hx hb dX11_go_57 (by decide) (fun c3 => ?_) (fun c3 => ?_)
      · have hf := g_t c3 hf
        refine lv_bipush (v := (-9)) hx hb dX11_go_178 (by decide) ?_
        exact hret (-9) _ _ _ _ _ (g_i1 hf) (congrArg (fun t => mw ty ad t wr) (g_i2 hf)) hw dX11_go_180
      · have hf := g_f c3 hf
        refine lv_aload_n hx hb dX11_go_60 rfl (lv_at hl 0 rfl) ?_
        refine mw_get_21 F hin hw kf47 dX11_go_61 ?_
        refine lv_iload_n hx hb dX11_go_64 rfl (lv_at hl 1 rfl) ?_
        obtain ⟨g4, hf⟩ := g_g hf
        refine mw_ld_21 F hw g4 dX11_go_65 ?_
        obtain ⟨y5, ey5, hf⟩ := g_let hf
        refine g_nm ey5 ?_
        refine lv_istore_n (lv' := [(2, .int y5), (0, .ref (ad 0)), (1, .int v1)]) hx hb dX11_go_66 rfl hl (by decide) rfl (fun ls hl => ?_)
        refine lv_aload_n hx hb dX11_go_67 rfl (lv_at hl 1 rfl) ?_
        refine mw_get_23 F hin hw kf53 dX11_go_68 ?_
        refine lv_iload_n hx hb dX11_go_71 rfl (lv_at hl 2 rfl) ?_
        refine mw_ld_23 F hw g4 dX11_go_72 ?_
        refine lv_aload_n hx hb dX11_go_73 rfl (lv_at hl 1 rfl) ?_
        refine mw_get_13 F hin hw kf34 dX11_go_74 ?_
        refine lv_iload_n hx hb dX11_go_77 rfl (lv_at hl 0 rfl) ?_
        obtain ⟨g6, hf⟩ := g_g hf
        refine mw_ld_13 F hw g6 dX11_go_78 ?_
        refine lv_icmp_lt (tgt := 92) hx hb dX11_go_79 (by decide) (fun c7 => ?_) (fun c7 => ?_)
        · have hf := g_t c7 hf
          refine lv_iload_n hx hb dX11_go_92 rfl (lv_at hl 2 rfl) ?_
          exact hret v1 _ _ _ _ _ (g_i1 hf) (congrArg (fun t => mw ty ad t wr) (g_i2 hf)) hw dX11_go_93
        · have hf := g_f c7 hf
          refine lv_aload_n hx hb dX11_go_82 rfl (lv_at hl 1 rfl) ?_
          refine mw_get_25 F hin hw kf59 dX11_go_83 ?_
          refine lv_iload_n hx hb dX11_go_86 rfl (lv_at hl 0 rfl) ?_
          refine mw_ld_25 F hw g6 dX11_go_87 ?_
          refine lv_iconst (v := 3) hx hb dX11_go_88 (by decide) ?_
          refine lv_icmp_ne (tgt := 94) hx hb dX11_go_89 (by decide) (fun c8 => ?_) (fun c8 => ?_)
          · have hf := g_f c8 hf
            refine lv_aload_n hx hb dX11_go_94 rfl (lv_at hl 1 rfl) ?_
            refine mw_get_24 F hin hw kf56 dX11_go_95 ?_
            refine lv_iload_n hx hb dX11_go_98 rfl (lv_at hl 0 rfl) ?_
            refine lv_aload_n hx hb dX11_go_99 rfl (lv_at hl 1 rfl) ?_
            refine mw_get_22 F hin hw kf50 dX11_go_100 ?_
            refine lv_iload_n hx hb dX11_go_103 rfl (lv_at hl 2 rfl) ?_
            refine mw_ld_22 F hw g4 dX11_go_104 ?_
            refine lv_aload_n hx hb dX11_go_105 rfl (lv_at hl 1 rfl) ?_
            refine mw_get_23 F hin hw kf53 dX11_go_106 ?_
            refine lv_iload_n hx hb dX11_go_109 rfl (lv_at hl 2 rfl) ?_
            refine mw_ld_23 F hw g4 dX11_go_110 ?_
            obtain ⟨r10, h9, hf⟩ := g_b1 hf
            refine g_sI F (As := [.int y5, .int (σ.2 22 v1.toNatClampNeg), .int (σ.2 23 v1.toNatClampNeg)]) (rest := [.ref (ad 25)]) (cmm_spot h9) (va_cwS 3 hts gX11_go_X11_spot rfl rfl rfl (by decide +kernel) ⟨Nat.le_of_ble_eq_true rfl, Nat.le_of_ble_eq_true rfl⟩) hw rfl hl.1 rfl (Nat.le_of_ble_eq_true rfl) dX11_go_111 (fun H locs hw => ?_)
            refine lv_dup2_11 hx hb dX11_go_114 rfl rfl ?_
            obtain ⟨g11, hf⟩ := g_g hf
            refine mw_ld_24 F hw g11 dX11_go_115 ?_
            refine lv_iconst (v := 1) hx hb dX11_go_116 (by decide) ?_
            refine lv_aload_n hx hb dX11_go_117 rfl (lv_at hl 1 rfl) ?_
            refine mw_get_25 F hin hw kf59 dX11_go_118 ?_
            refine lv_iload_n hx hb dX11_go_121 rfl (lv_at hl 0 rfl) ?_
            refine mw_ld_25 F hw g6 dX11_go_122 ?_
            refine lv_ishl hx hb dX11_go_123 ?_
            refine lv_ior hx hb dX11_go_124 ?_
            refine mw_st_24 F hw g11 dX11_go_125 (fun H locs hw => ?_)
            obtain ⟨σ12, eσ12, hf⟩ := g_let hf
            have hw := mw_re eσ12 hw
            refine lv_aload_n hx hb dX11_go_126 rfl (lv_at hl 1 rfl) ?_
            refine mw_get_25 F hin hw kf59 dX11_go_127 ?_
            refine lv_iload_n hx hb dX11_go_130 rfl (lv_at hl 0 rfl) ?_
            refine lv_dup2_11 hx hb dX11_go_131 rfl rfl ?_
            refine mw_ld_25 F hw g6 dX11_go_132 ?_
            refine lv_iconst (v := 1) hx hb dX11_go_133 (by decide) ?_
            refine lv_iadd hx hb dX11_go_134 ?_
            refine mw_st_25 F hw g6 dX11_go_135 (fun H locs hw => ?_)
            obtain ⟨σ13, eσ13, hf⟩ := g_let hf
            have hw := mw_re eσ13 hw
            refine lv_aload_n hx hb dX11_go_136 rfl (lv_at hl 1 rfl) ?_
            refine mw_get_26 F hin hw kf62 dX11_go_137 ?_
            refine lv_iload_n hx hb dX11_go_140 rfl (lv_at hl 0 rfl) ?_
            refine lv_aload_n hx hb dX11_go_141 rfl (lv_at hl 1 rfl) ?_
            refine mw_get_23 F hin hw kf53 dX11_go_142 ?_
            refine lv_iload_n hx hb dX11_go_145 rfl (lv_at hl 2 rfl) ?_
            refine mw_ld_23 F hw g4 dX11_go_146 ?_
            refine lv_aload_n hx hb dX11_go_147 rfl (lv_at hl 1 rfl) ?_
            refine mw_get_26 F hin hw kf62 dX11_go_148 ?_
            refine lv_iload_n hx hb dX11_go_151 rfl (lv_at hl 0 rfl) ?_
            refine mw_ld_26 F hw g6 dX11_go_152 ?_
            refine lv_icmp_le (tgt := 165) hx hb dX11_go_153 (by decide) (fun c14 => ?_) (fun c14 => ?_)
            · have hf := g_t c14 hf
              refine lv_aload_n hx hb dX11_go_165 rfl (lv_at hl 1 rfl) ?_
              refine mw_get_26 F hin hw kf62 dX11_go_166 ?_
              refine lv_iload_n hx hb dX11_go_169 rfl (lv_at hl 0 rfl) ?_
              refine mw_ld_26 F hw g6 dX11_go_170 ?_
              exact B171 v1 y5 (σ13.2 26 y5.toNatClampNeg) σ13 _ _ _ (lv_sub hl [1, 2] rfl) hw hf
            · have hf := g_f c14 hf
              refine lv_aload_n hx hb dX11_go_156 rfl (lv_at hl 1 rfl) ?_
              refine mw_get_23 F hin hw kf53 dX11_go_157 ?_
              refine lv_iload_n hx hb dX11_go_160 rfl (lv_at hl 2 rfl) ?_
              refine mw_ld_23 F hw g4 dX11_go_161 ?_
              refine lv_goto (tgt := 171) hx hb dX11_go_162 (by decide) ?_
              exact B171 v1 y5 (σ13.2 23 v1.toNatClampNeg) σ13 _ _ _ (lv_sub hl [1, 2] rfl) hw hf
          · have hf := g_t c8 hf
            refine lv_iload_n hx hb dX11_go_92 rfl (lv_at hl 2 rfl) ?_
            exact hret v1 _ _ _ _ _ (g_i1 hf) (congrArg (fun t => mw ty ad t wr) (g_i2 hf)) hw dX11_go_93
  have B24 : ∀ (n24 : Nat) (v1 : Int32) (σ : gS) (H : Heap) (locs : List Loc) (ls : Array Slot), lv_has ls 3 [(0, .ref (ad 0)), (1, .int v1)] → gW D ty A (mw ty ad σ wr) s s.heap H locs → mm_go_b24 n24 v1 σ = some (r, σ') → W p l e rm_mm_go s m args below meth c H locs 0 0 Q (F0 m 24 ls []) := by
    intro n24
    induction n24 with
    | zero => intro v1 σ H locs ls hl hw hf; cases hf
    | succ n24 ih24 =>
      intro v1 σ H locs ls hl hw hf
      rw [mm_go_b24] at hf
      refine lv_iload_n hx hb dX11_go_24 rfl (lv_at hl 1 rfl) ?_
      refine lv_iconst (v := 4) hx hb dX11_go_25 (by decide) ?_
      refine lv_icmp_ge (tgt := 50) hx hb dX11_go_26 (by decide) (fun c15 => ?_) (fun c15 => ?_)
      · have hf := g_t c15 hf
        refine lv_iconst (v := 0) hx hb dX11_go_50 (by decide) ?_
        refine lv_istore_n (lv' := [(1, .int 0), (0, .ref (ad 0))]) hx hb dX11_go_51 rfl hl (by decide) rfl (fun ls hl => ?_)
        exact B52 1000 0 σ _ _ _ (lv_sub hl [1, 0] rfl) hw hf
      · have hf := g_f c15 hf
        refine lv_aload_n hx hb dX11_go_29 rfl (lv_at hl 0 rfl) ?_
        refine mw_get_25 F hin hw kf59 dX11_go_30 ?_
        refine lv_iload_n hx hb dX11_go_33 rfl (lv_at hl 1 rfl) ?_
        refine lv_iconst (v := 0) hx hb dX11_go_34 (by decide) ?_
        obtain ⟨g16, hf⟩ := g_g hf
        refine mw_st_25 F hw g16 dX11_go_35 (fun H locs hw => ?_)
        obtain ⟨σ17, eσ17, hf⟩ := g_let hf
        have hw := mw_re eσ17 hw
        refine lv_aload_n hx hb dX11_go_36 rfl (lv_at hl 0 rfl) ?_
        refine mw_get_26 F hin hw kf62 dX11_go_37 ?_
        refine lv_iload_n hx hb dX11_go_40 rfl (lv_at hl 1 rfl) ?_
        refine lv_bipush (v := (-9)) hx hb dX11_go_41 (by decide) ?_
        refine mw_st_26 F hw g16 dX11_go_43 (fun H locs hw => ?_)
        obtain ⟨σ18, eσ18, hf⟩ := g_let hf
        have hw := mw_re eσ18 hw
        refine lv_iinc (v := v1 + 1) (lv' := [(1, .int (v1 + 1)), (0, .ref (ad 0))]) hx hb dX11_go_44 hl (k := 1) rfl rfl (by decide) rfl (fun ls hl => ?_)
        refine lv_goto (tgt := 24) hx hb dX11_go_47 (by decide) ?_
        exact ih24 (v1 + 1) σ18 _ _ _ (lv_sub hl [1, 0] rfl) hw hf
  have B2 : ∀ (n2 : Nat) (v1 : Int32) (σ : gS) (H : Heap) (locs : List Loc) (ls : Array Slot), lv_has ls 3 [(0, .ref (ad 0)), (1, .int v1)] → gW D ty A (mw ty ad σ wr) s s.heap H locs → mm_go_b2 n2 v1 σ = some (r, σ') → W p l e rm_mm_go s m args below meth c H locs 0 0 Q (F0 m 2 ls []) := by
    intro n2
    induction n2 with
    | zero => intro v1 σ H locs ls hl hw hf; cases hf
    | succ n2 ih2 =>
      intro v1 σ H locs ls hl hw hf
      rw [mm_go_b2] at hf
      refine lv_iload_n hx hb dX11_go_2 rfl (lv_at hl 1 rfl) ?_
      refine lv_sipush (v := 160) hx hb dX11_go_3 (by decide) ?_
      refine lv_icmp_ge (tgt := 22) hx hb dX11_go_6 (by decide) (fun c19 => ?_) (fun c19 => ?_)
      · have hf := g_t c19 hf
        refine lv_iconst (v := 0) hx hb dX11_go_22 (by decide) ?_
        refine lv_istore_n (lv' := [(1, .int 0), (0, .ref (ad 0))]) hx hb dX11_go_23 rfl hl (by decide) rfl (fun ls hl => ?_)
        exact B24 1000 0 σ _ _ _ (lv_sub hl [1, 0] rfl) hw hf
      · have hf := g_f c19 hf
        refine lv_aload_n hx hb dX11_go_9 rfl (lv_at hl 0 rfl) ?_
        refine mw_get_24 F hin hw kf56 dX11_go_10 ?_
        refine lv_iload_n hx hb dX11_go_13 rfl (lv_at hl 1 rfl) ?_
        refine lv_iconst (v := 0) hx hb dX11_go_14 (by decide) ?_
        obtain ⟨g20, hf⟩ := g_g hf
        refine mw_st_24 F hw g20 dX11_go_15 (fun H locs hw => ?_)
        obtain ⟨σ21, eσ21, hf⟩ := g_let hf
        have hw := mw_re eσ21 hw
        refine lv_iinc (v := v1 + 1) (lv' := [(1, .int (v1 + 1)), (0, .ref (ad 0))]) hx hb dX11_go_16 hl (k := 1) rfl rfl (by decide) rfl (fun ls hl => ?_)
        refine lv_goto (tgt := 2) hx hb dX11_go_19 (by decide) ?_
        exact ih2 (v1 + 1) σ21 _ _ _ (lv_sub hl [1, 0] rfl) hw hf
  unfold mm_go at hf
  refine lv_iconst (v := 0) hx hb dX11_go_0 (by decide) ?_
  refine lv_istore_n (lv' := [(1, .int 0), (0, .ref (ad 0))]) hx hb dX11_go_1 rfl hl (by decide) rfl (fun ls hl => ?_)
  exact B2 1000 0 σ _ _ _ (lv_sub hl [1, 0] rfl) hw hf

abbrev rm_mm_takeAll : Room := { frames := 3, cells := 0, slots := 0, locals := 73 }
set_option maxHeartbeats 4000000 in
set_option maxRecDepth 100000 in
theorem cmm_takeAll {l : Launch} {D : va_G} {ty : gT} {A : Nat → Prop} {ad : Nat → Nat} {wr : va_W} {σ : gS} {r : Int32} {σ' : gS} (hf : mm_takeAll σ = some (r, σ')) : gI l D ty A yX11_takeAll wsX11_takeAll rm_mm_takeAll [.ref (ad 0)] (mw ty ad σ wr) r (mw ty ad σ' wr) := by
  refine gI_enter (cc := cX11_takeAll) (maxL := 5) (by decide) rfl (Nat.le_of_ble_eq_true rfl) ?_
  intro p e s m args below meth c Q ls F hl hw hret
  have F : CallFix p m c cX11_takeAll 5 s args wsX11_takeAll RX11 := F
  obtain ⟨hx, hb, hml, hown, hts⟩ := id F
  have hl : lv_has ls 5 [(0, .ref (ad 0))] := hl
  have hin : ∀ w ∈ wsX110, w ∈ wsX11_takeAll := by first | exact fun w h => List.mem_cons_of_mem _ (List.mem_append_right _ h) | decide +kernel
  have kf34 := hts (.fieldLink RX11 34 "GossipGateModel" "born" "[I") (by decide +kernel)
  have kf56 := hts (.fieldLink RX11 56 "GossipGateModel" "together" "[I") (by decide +kernel)
  have kf65 := hts (.fieldLink RX11 65 "GossipGateModel" "takenAt" "[I") (by decide +kernel)
  have kf83 := hts (.fieldLink RX11 83 "GossipGateModel" "gates" "I") (by decide +kernel)
  have kf86 := hts (.fieldLink RX11 86 "GossipGateModel" "stories" "I") (by decide +kernel)
  have B4 : ∀ (n4 : Nat) (v1 : Int32) (v2 : Int32) (σ : gS) (H : Heap) (locs : List Loc) (ls : Array Slot), lv_has ls 5 [(0, .ref (ad 0)), (1, .int v1), (2, .int v2)] → gW D ty A (mw ty ad σ wr) s s.heap H locs → mm_takeAll_b4 n4 v1 v2 σ = some (r, σ') → W p l e rm_mm_takeAll s m args below meth c H locs 0 0 Q (F0 m 4 ls []) := by
    intro n4
    induction n4 with
    | zero => intro v1 v2 σ H locs ls hl hw hf; cases hf
    | succ n4 ih4 =>
      have B21 : ∀ (n21 : Nat) (v1 : Int32) (v2 : Int32) (v3 : Int32) (σ : gS) (H : Heap) (locs : List Loc) (ls : Array Slot), lv_has ls 5 [(0, .ref (ad 0)), (1, .int v1), (2, .int v2), (3, .int v3)] → gW D ty A (mw ty ad σ wr) s s.heap H locs → mm_takeAll_b21 (mm_takeAll_b4 n4) n21 v1 v2 v3 σ = some (r, σ') → W p l e rm_mm_takeAll s m args below meth c H locs 0 0 Q (F0 m 21 ls []) := by
        intro n21
        induction n21 with
        | zero => intro v1 v2 v3 σ H locs ls hl hw hf; cases hf
        | succ n21 ih21 =>
          have B37 : ∀ (n37 : Nat) (v1 : Int32) (v2 : Int32) (v3 : Int32) (v4 : Int32) (σ : gS) (H : Heap) (locs : List Loc) (ls : Array Slot), lv_has ls 5 [(0, .ref (ad 0)), (1, .int v1), (2, .int v2), (3, .int v3), (4, .int v4)] → gW D ty A (mw ty ad σ wr) s s.heap H locs → mm_takeAll_b37 (mm_takeAll_b4 n4) (mm_takeAll_b21 (mm_takeAll_b4 n4) n21) n37 v1 v2 v3 v4 σ = some (r, σ') → W p l e rm_mm_takeAll s m args below meth c H locs 0 0 Q (F0 m 37 ls []) := by
            intro n37
            induction n37 with
            | zero => intro v1 v2 v3 v4 σ H locs ls hl hw hf; cases hf
            | succ n37 ih37 =>
              intro v1 v2 v3 v4 σ H locs ls hl hw hf
              rw [mm_takeAll_b37] at hf
              refine lv_iload hx hb dX11_takeAll_37 (lv_at hl 4 rfl) ?_
              refine lv_bipush (v := 8) hx hb dX11_takeAll_39 (by decide) ?_
              refine lv_icmp_ge (tgt := 79) hx hb dX11_takeAll_41 (by decide) (fun c1 => ?_) (fun c1 => ?_)
              · have hf := g_t c1 hf
                refine lv_iinc (v := v3 + 1) (lv' := [(3, .int (v3 + 1)), (0, .ref (ad 0)), (1, .int v1), (2, .int v2), (4, .int v4)]) hx hb dX11_takeAll_79 hl (k := 3) rfl rfl (by decide) rfl (fun ls hl => ?_)
                refine lv_goto (tgt := 21) hx hb dX11_takeAll_82 (by decide) ?_
                exact ih21 v1 v2 (v3 + 1) σ _ _ _ (lv_sub hl [1, 2, 3, 0] rfl) hw hf
              · have hf := g_f c1 hf
                refine lv_aload_n hx hb dX11_takeAll_44 rfl (lv_at hl 0 rfl) ?_
                refine mw_get_27 F hin hw kf65 dX11_takeAll_45 ?_
                refine lv_iload_n hx hb dX11_takeAll_48 rfl (lv_at hl 2 rfl) ?_
                refine lv_dup2_11 hx hb dX11_takeAll_49 rfl rfl ?_
                obtain ⟨g2, hf⟩ := g_g hf
                refine mw_ld_27 F hw g2 dX11_takeAll_50 ?_
                refine lv_aload_n hx hb dX11_takeAll_51 rfl (lv_at hl 0 rfl) ?_
                refine lv_iload_n hx hb dX11_takeAll_52 rfl (lv_at hl 2 rfl) ?_
                refine lv_iload_n hx hb dX11_takeAll_53 rfl (lv_at hl 3 rfl) ?_
                refine lv_iload hx hb dX11_takeAll_54 (lv_at hl 4 rfl) ?_
                refine lv_aload_n hx hb dX11_takeAll_56 rfl (lv_at hl 0 rfl) ?_
                refine mw_get_24 F hin hw kf56 dX11_takeAll_57 ?_
                refine lv_iload_n hx hb dX11_takeAll_60 rfl (lv_at hl 3 rfl) ?_
                refine lv_iload_n hx hb dX11_takeAll_61 rfl (lv_at hl 2 rfl) ?_
                refine lv_iload hx hb dX11_takeAll_62 (lv_at hl 4 rfl) ?_
                obtain ⟨r4, h3, hf⟩ := g_b1 hf
                refine g_sI F (As := [.int v3, .int v2, .int v4]) (rest := [.ref (ad 25), .int v4, .int v3, .int v2, .ref (ad 0), .int (σ.2 27 v2.toNatClampNeg), .int v2, .ref (ad 28)]) (cmm_spot h3) (va_cwS 3 hts gX11_takeAll_X11_spot rfl rfl rfl (by decide +kernel) ⟨Nat.le_of_ble_eq_true rfl, Nat.le_of_ble_eq_true rfl⟩) hw rfl hl.1 rfl (Nat.le_of_ble_eq_true rfl) dX11_takeAll_64 (fun H locs hw => ?_)
                obtain ⟨g5, hf⟩ := g_g hf
                refine mw_ld_24 F hw g5 dX11_takeAll_67 ?_
                obtain ⟨r7, h6, hf⟩ := g_b1 hf
                refine g_cI F (As := [.int v2, .int v3, .int v4, .int (σ.2 24 r4.toNatClampNeg)]) (rest := [.int (σ.2 27 v2.toNatClampNeg), .int v2, .ref (ad 28)]) (cmm_dutyOf h6) (cwV 4 hts gX11_takeAll_X11_dutyOf rfl rfl rfl (by decide +kernel) ⟨Nat.le_of_ble_eq_true rfl, Nat.le_of_ble_eq_true rfl⟩) hw (hw.recv (ci := 11) (q0 := 0) rfl rfl rfl) rfl hl.1 rfl (Nat.le_of_ble_eq_true rfl) dX11_takeAll_68 (fun H locs hw => ?_)
                refine lv_iadd hx hb dX11_takeAll_71 ?_
                refine mw_st_27 F hw g2 dX11_takeAll_72 (fun H locs hw => ?_)
                obtain ⟨σ8, eσ8, hf⟩ := g_let hf
                have hw := mw_re eσ8 hw
                refine lv_iinc (v := v4 + 1) (lv' := [(4, .int (v4 + 1)), (0, .ref (ad 0)), (1, .int v1), (2, .int v2), (3, .int v3)]) hx hb dX11_takeAll_73 hl (k := 4) rfl rfl (by decide) rfl (fun ls hl => ?_)
                refine lv_goto (tgt := 37) hx hb dX11_takeAll_76 (by decide) ?_
                exact ih37 v1 v2 v3 (v4 + 1) σ8 _ _ _ (lv_sub hl [1, 2, 3, 4, 0] rfl) hw hf
          intro v1 v2 v3 σ H locs ls hl hw hf
          rw [mm_takeAll_b21] at hf
          refine lv_iload_n hx hb dX11_takeAll_21 rfl (lv_at hl 3 rfl) ?_
          refine lv_aload_n hx hb dX11_takeAll_22 rfl (lv_at hl 0 rfl) ?_
          refine mw_get_6 F hin hw kf86 dX11_takeAll_23 ?_
          refine lv_icmp_ge (tgt := 85) hx hb dX11_takeAll_26 (by decide) (fun c9 => ?_) (fun c9 => ?_)
          · have hf := g_t c9 hf
            refine lv_iload_n hx hb dX11_takeAll_85 rfl (lv_at hl 1 rfl) ?_
            refine lv_aload_n hx hb dX11_takeAll_86 rfl (lv_at hl 0 rfl) ?_
            refine mw_get_27 F hin hw kf65 dX11_takeAll_87 ?_
            refine lv_iload_n hx hb dX11_takeAll_90 rfl (lv_at hl 2 rfl) ?_
            obtain ⟨g10, hf⟩ := g_g hf
            refine mw_ld_27 F hw g10 dX11_takeAll_91 ?_
            refine lv_iadd hx hb dX11_takeAll_92 ?_
            obtain ⟨y11, ey11, hf⟩ := g_let hf
            refine g_nm ey11 ?_
            refine lv_istore_n (lv' := [(1, .int y11), (0, .ref (ad 0)), (2, .int v2), (3, .int v3)]) hx hb dX11_takeAll_93 rfl hl (by decide) rfl (fun ls hl => ?_)
            refine lv_iinc (v := v2 + 1) (lv' := [(2, .int (v2 + 1)), (1, .int y11), (0, .ref (ad 0)), (3, .int v3)]) hx hb dX11_takeAll_94 hl (k := 2) rfl rfl (by decide) rfl (fun ls hl => ?_)
            refine lv_goto (tgt := 4) hx hb dX11_takeAll_97 (by decide) ?_
            exact ih4 y11 (v2 + 1) σ _ _ _ (lv_sub hl [2, 1, 0] rfl) hw hf
          · have hf := g_f c9 hf
            refine lv_aload_n hx hb dX11_takeAll_29 rfl (lv_at hl 0 rfl) ?_
            refine mw_get_13 F hin hw kf34 dX11_takeAll_30 ?_
            refine lv_iload_n hx hb dX11_takeAll_33 rfl (lv_at hl 3 rfl) ?_
            obtain ⟨g12, hf⟩ := g_g hf
            refine mw_ld_13 F hw g12 dX11_takeAll_34 ?_
            obtain ⟨y13, ey13, hf⟩ := g_let hf
            refine g_nm ey13 ?_
            refine lv_istore (lv' := [(4, .int y13), (0, .ref (ad 0)), (1, .int v1), (2, .int v2), (3, .int v3)]) hx hb dX11_takeAll_35 hl (by decide) rfl (fun ls hl => ?_)
            exact B37 1000 v1 v2 v3 y13 σ _ _ _ (lv_sub hl [1, 2, 3, 4, 0] rfl) hw hf
      intro v1 v2 σ H locs ls hl hw hf
      rw [mm_takeAll_b4] at hf
      refine lv_iload_n hx hb dX11_takeAll_4 rfl (lv_at hl 2 rfl) ?_
      refine lv_aload_n hx hb dX11_takeAll_5 rfl (lv_at hl 0 rfl) ?_
      refine mw_get_5 F hin hw kf83 dX11_takeAll_6 ?_
      refine lv_icmp_ge (tgt := 100) hx hb dX11_takeAll_9 (by decide) (fun c14 => ?_) (fun c14 => ?_)
      · have hf := g_t c14 hf
        refine lv_iload_n hx hb dX11_takeAll_100 rfl (lv_at hl 1 rfl) ?_
        exact hret v1 _ _ _ _ _ (g_i1 hf) (congrArg (fun t => mw ty ad t wr) (g_i2 hf)) hw dX11_takeAll_101
      · have hf := g_f c14 hf
        refine lv_aload_n hx hb dX11_takeAll_12 rfl (lv_at hl 0 rfl) ?_
        refine mw_get_27 F hin hw kf65 dX11_takeAll_13 ?_
        refine lv_iload_n hx hb dX11_takeAll_16 rfl (lv_at hl 2 rfl) ?_
        refine lv_iconst (v := 0) hx hb dX11_takeAll_17 (by decide) ?_
        obtain ⟨g15, hf⟩ := g_g hf
        refine mw_st_27 F hw g15 dX11_takeAll_18 (fun H locs hw => ?_)
        obtain ⟨σ16, eσ16, hf⟩ := g_let hf
        have hw := mw_re eσ16 hw
        refine lv_iconst (v := 0) hx hb dX11_takeAll_19 (by decide) ?_
        refine lv_istore_n (lv' := [(3, .int 0), (0, .ref (ad 0)), (1, .int v1), (2, .int v2)]) hx hb dX11_takeAll_20 rfl hl (by decide) rfl (fun ls hl => ?_)
        exact B21 1000 v1 v2 0 σ16 _ _ _ (lv_sub hl [1, 2, 3, 0] rfl) hw hf
  unfold mm_takeAll at hf
  refine lv_iconst (v := 0) hx hb dX11_takeAll_0 (by decide) ?_
  refine lv_istore_n (lv' := [(1, .int 0), (0, .ref (ad 0))]) hx hb dX11_takeAll_1 rfl hl (by decide) rfl (fun ls hl => ?_)
  refine lv_iconst (v := 0) hx hb dX11_takeAll_2 (by decide) ?_
  refine lv_istore_n (lv' := [(2, .int 0), (1, .int 0), (0, .ref (ad 0))]) hx hb dX11_takeAll_3 rfl hl (by decide) rfl (fun ls hl => ?_)
  exact B4 1000 0 0 σ _ _ _ (lv_sub hl [2, 1, 0] rfl) hw hf

abbrev rm_mm_tellPassages : Room := { frames := 4, cells := 0, slots := 0, locals := 97 }
set_option maxHeartbeats 4000000 in
set_option maxRecDepth 100000 in
theorem cmm_tellPassages {l : Launch} {D : va_G} {ty : gT} {A : Nat → Prop} {ad : Nat → Nat} {wr : va_W} {x1 : Int32} {σ : gS} {r : Int32} {σ' : gS} (hf : mm_tellPassages σ x1 = some (r, σ')) : gI l D ty A yX11_tellPassages wsX11_tellPassages rm_mm_tellPassages [.ref (ad 0), .int x1] (mw ty ad σ wr) r (mw ty ad σ' wr) := by
  refine gI_enter (cc := cX11_tellPassages) (maxL := 4) (by decide) rfl (Nat.le_of_ble_eq_true rfl) ?_
  intro p e s m args below meth c Q ls F hl hw hret
  have F : CallFix p m c cX11_tellPassages 4 s args wsX11_tellPassages RX11 := F
  obtain ⟨hx, hb, hml, hown, hts⟩ := id F
  have hl : lv_has ls 4 [(0, .ref (ad 0)), (1, .int x1)] := hl
  have hin : ∀ w ∈ wsX110, w ∈ wsX11_tellPassages := by first | exact fun w h => List.mem_cons_of_mem _ (List.mem_append_right _ h) | decide +kernel
  have kf59 := hts (.fieldLink RX11 59 "GossipGateModel" "went" "[I") (by decide +kernel)
  have kf62 := hts (.fieldLink RX11 62 "GossipGateModel" "lastOf" "[I") (by decide +kernel)
  have kf65 := hts (.fieldLink RX11 65 "GossipGateModel" "takenAt" "[I") (by decide +kernel)
  unfold mm_tellPassages at hf
  refine lv_aload_n hx hb dX11_tellPassages_0 rfl (lv_at hl 0 rfl) ?_
  obtain ⟨r2, σ3, h1, hf⟩ := g_b2 hf
  refine g_cI F (As := []) (rest := []) (cmm_takeAll h1) (cwV 0 hts gX11_tellPassages_X11_takeAll rfl rfl rfl (by decide +kernel) ⟨Nat.le_of_ble_eq_true rfl, Nat.le_of_ble_eq_true rfl⟩) hw (hw.recv (ci := 11) (q0 := 0) rfl rfl rfl) rfl hl.1 rfl (Nat.le_of_ble_eq_true rfl) dX11_tellPassages_1 (fun H locs hw => ?_)
  refine lv_istore_n (lv' := [(2, .int r2), (0, .ref (ad 0)), (1, .int x1)]) hx hb dX11_tellPassages_4 rfl hl (by decide) rfl (fun ls hl => ?_)
  refine lv_iload_n hx hb dX11_tellPassages_5 rfl (lv_at hl 2 rfl) ?_
  refine lv_if_ne (tgt := 11) hx hb dX11_tellPassages_6 (by decide) (fun c4 => ?_) (fun c4 => ?_)
  · have hf := g_f c4 hf
    refine lv_iload_n hx hb dX11_tellPassages_11 rfl (lv_at hl 2 rfl) ?_
    refine lv_bipush (v := 20) hx hb dX11_tellPassages_12 (by decide) ?_
    refine lv_icmp_ge (tgt := 52) hx hb dX11_tellPassages_14 (by decide) (fun c5 => ?_) (fun c5 => ?_)
    · have hf := g_t c5 hf
      refine lv_aload_n hx hb dX11_tellPassages_52 rfl (lv_at hl 1 rfl) ?_
      refine lv_iload_n hx hb dX11_tellPassages_53 rfl (lv_at hl 2 rfl) ?_
      refine lv_bipush (v := 20) hx hb dX11_tellPassages_54 (by decide) ?_
      refine lv_isub hx hb dX11_tellPassages_56 ?_
      obtain ⟨r7, h6, hf⟩ := g_b1 hf
      refine g_cI F (As := [.int (x1 - 20)]) (rest := []) (cmm_isGate h6) (cwV 1 hts gX11_tellPassages_X11_isGate rfl rfl rfl (by decide +kernel) ⟨Nat.le_of_ble_eq_true rfl, Nat.le_of_ble_eq_true rfl⟩) hw (hw.recv (ci := 11) (q0 := 0) rfl rfl rfl) rfl hl.1 rfl (Nat.le_of_ble_eq_true rfl) dX11_tellPassages_57 (fun H locs hw => ?_)
      refine lv_if_eq (tgt := 75) hx hb dX11_tellPassages_60 (by decide) (fun c8 => ?_) (fun c8 => ?_)
      · have hf := g_f (bI_z c8) hf
        refine lv_bipush (v := (-9)) hx hb dX11_tellPassages_75 (by decide) ?_
        exact hret (-9) _ _ _ _ _ (g_i1 hf) (congrArg (fun t => mw ty ad t wr) (g_i2 hf)) hw dX11_tellPassages_77
      · have hf := g_t (bI_nz c8) hf
        refine lv_aload_n hx hb dX11_tellPassages_63 rfl (lv_at hl 1 rfl) ?_
        refine mw_get_27 F hin hw kf65 dX11_tellPassages_64 ?_
        refine lv_iload_n hx hb dX11_tellPassages_67 rfl (lv_at hl 2 rfl) ?_
        refine lv_bipush (v := 20) hx hb dX11_tellPassages_68 (by decide) ?_
        refine lv_isub hx hb dX11_tellPassages_70 ?_
        obtain ⟨g9, hf⟩ := g_g hf
        refine mw_ld_27 F hw g9 dX11_tellPassages_71 ?_
        refine lv_goto (tgt := 77) hx hb dX11_tellPassages_72 (by decide) ?_
        exact hret (σ3.2 27 ((x1 - 20).toNatClampNeg)) _ _ _ _ _ (g_i1 hf) (congrArg (fun t => mw ty ad t wr) (g_i2 hf)) hw dX11_tellPassages_77
    · have hf := g_f c5 hf
      refine lv_iload_n hx hb dX11_tellPassages_17 rfl (lv_at hl 2 rfl) ?_
      refine lv_bipush (v := 10) hx hb dX11_tellPassages_18 (by decide) ?_
      refine lv_isub hx hb dX11_tellPassages_20 ?_
      refine lv_istore_n (lv' := [(3, .int (x1 - 10)), (2, .int r2), (0, .ref (ad 0)), (1, .int x1)]) hx hb dX11_tellPassages_21 rfl hl (by decide) rfl (fun ls hl => ?_)
      refine lv_aload_n hx hb dX11_tellPassages_22 rfl (lv_at hl 2 rfl) ?_
      refine lv_iload_n hx hb dX11_tellPassages_23 rfl (lv_at hl 0 rfl) ?_
      obtain ⟨r11, h10, hf⟩ := g_b1 hf
      refine g_cI F (As := [.int (x1 - 10)]) (rest := []) (cmm_isStory h10) (cwV 1 hts gX11_tellPassages_X11_isStory rfl rfl rfl (by decide +kernel) ⟨Nat.le_of_ble_eq_true rfl, Nat.le_of_ble_eq_true rfl⟩) hw (hw.recv (ci := 11) (q0 := 0) rfl rfl rfl) rfl hl.1 rfl (Nat.le_of_ble_eq_true rfl) dX11_tellPassages_24 (fun H locs hw => ?_)
      refine lv_if_eq (tgt := 49) hx hb dX11_tellPassages_27 (by decide) (fun c12 => ?_) (fun c12 => ?_)
      · have hf := g_f (bI_z c12) hf
        refine lv_bipush (v := (-9)) hx hb dX11_tellPassages_49 (by decide) ?_
        exact hret (-9) _ _ _ _ _ (g_i1 hf) (congrArg (fun t => mw ty ad t wr) (g_i2 hf)) hw dX11_tellPassages_51
      · have hf := g_t (bI_nz c12) hf
        refine lv_aload_n hx hb dX11_tellPassages_30 rfl (lv_at hl 2 rfl) ?_
        refine mw_get_25 F hin hw kf59 dX11_tellPassages_31 ?_
        refine lv_iload_n hx hb dX11_tellPassages_34 rfl (lv_at hl 0 rfl) ?_
        obtain ⟨g13, hf⟩ := g_g hf
        refine mw_ld_25 F hw g13 dX11_tellPassages_35 ?_
        refine lv_iconst (v := 3) hx hb dX11_tellPassages_36 (by decide) ?_
        refine lv_icmp_ne (tgt := 49) hx hb dX11_tellPassages_37 (by decide) (fun c14 => ?_) (fun c14 => ?_)
        · have hf := g_f c14 hf
          refine lv_bipush (v := (-9)) hx hb dX11_tellPassages_49 (by decide) ?_
          exact hret (-9) _ _ _ _ _ (g_i1 hf) (congrArg (fun t => mw ty ad t wr) (g_i2 hf)) hw dX11_tellPassages_51
        · have hf := g_t c14 hf
          refine lv_aload_n hx hb dX11_tellPassages_40 rfl (lv_at hl 2 rfl) ?_
          refine mw_get_26 F hin hw kf62 dX11_tellPassages_41 ?_
          refine lv_iload_n hx hb dX11_tellPassages_44 rfl (lv_at hl 0 rfl) ?_
          refine mw_ld_26 F hw g13 dX11_tellPassages_45 ?_
          refine lv_goto (tgt := 51) hx hb dX11_tellPassages_46 (by decide) ?_
          exact hret (σ3.2 26 ((x1 - 10).toNatClampNeg)) _ _ _ _ _ (g_i1 hf) (congrArg (fun t => mw ty ad t wr) (g_i2 hf)) hw dX11_tellPassages_51
  · have hf := g_t c4 hf
    refine lv_iload_n hx hb dX11_tellPassages_9 rfl (lv_at hl 0 rfl) ?_
    exact hret r2 _ _ _ _ _ (g_i1 hf) (congrArg (fun t => mw ty ad t wr) (g_i2 hf)) hw dX11_tellPassages_10

abbrev rm_mm_passages : Room := { frames := 5, cells := 0, slots := 0, locals := 120 }
set_option maxHeartbeats 4000000 in
set_option maxRecDepth 100000 in
theorem cmm_passages {l : Launch} {D : va_G} {ty : gT} {A : Nat → Prop} {ad : Nat → Nat} {wr : va_W} {x1 : Int32} {x2 : Int32} {x3 : Int32} {x4 : Int32} {x5 : Int32} {σ : gS} {r : Int32} {σ' : gS} (hf : mm_passages σ x1 x2 x3 x4 x5 = some (r, σ')) : gI l D ty A yX11_passages wsX11_passages rm_mm_passages [.ref (ad 0), .int x1, .int x2, .int x3, .int x4, .int x5] (mw ty ad σ wr) r (mw ty ad σ' wr) := by
  refine gI_enter (cc := cX11_passages) (maxL := 8) (by decide) rfl (Nat.le_of_ble_eq_true rfl) ?_
  intro p e s m args below meth c Q ls F hl hw hret
  have F : CallFix p m c cX11_passages 8 s args wsX11_passages RX11 := F
  obtain ⟨hx, hb, hml, hown, hts⟩ := id F
  have hl : lv_has ls 8 [(0, .ref (ad 0)), (1, .int x1), (2, .int x2), (3, .int x3), (4, .int x4), (5, .int x5)] := hl
  have hin : ∀ w ∈ wsX110, w ∈ wsX11_passages := by first | exact fun w h => List.mem_cons_of_mem _ (List.mem_append_right _ h) | decide +kernel
  have kf74 := hts (.fieldLink RX11 74 "GossipGateModel" "fault" "I") (by decide +kernel)
  have B60 : ∀ (v1 : Int32) (v2 : Int32) (v3 : Int32) (v4 : Int32) (v5 : Int32) (σ : gS) (H : Heap) (locs : List Loc) (ls : Array Slot), lv_has ls 8 [(0, .ref (ad 0)), (1, .int v1), (2, .int v2), (3, .int v3), (4, .int v4), (5, .int v5)] → gW D ty A (mw ty ad σ wr) s s.heap H locs → mm_passages_b60 v1 v2 v3 v4 v5 σ = some (r, σ') → W p l e rm_mm_passages s m args below meth c H locs 0 0 Q (F0 m 60 ls []) := by
    intro v1 v2 v3 v4 v5 σ H locs ls hl hw hf
    unfold mm_passages_b60 at hf
    refine lv_aload_n hx hb dX11_passages_60 rfl (lv_at hl 0 rfl) ?_
    refine lv_iload_n hx hb dX11_passages_61 rfl (lv_at hl 1 rfl) ?_
    refine lv_iload_n hx hb dX11_passages_62 rfl (lv_at hl 2 rfl) ?_
    refine lv_iload_n hx hb dX11_passages_63 rfl (lv_at hl 3 rfl) ?_
    refine lv_iload hx hb dX11_passages_64 (lv_at hl 4 rfl) ?_
    obtain ⟨r2, σ3, h1, hf⟩ := g_b2 hf
    refine g_cI F (As := [.int v1, .int v2, .int v3, .int v4]) (rest := []) (cmm_layPassages h1) (cwV 4 hts gX11_passages_X11_layPassages rfl rfl rfl (by decide +kernel) ⟨Nat.le_of_ble_eq_true rfl, Nat.le_of_ble_eq_true rfl⟩) hw (hw.recv (ci := 11) (q0 := 0) rfl rfl rfl) rfl hl.1 rfl (Nat.le_of_ble_eq_true rfl) dX11_passages_66 (fun H locs hw => ?_)
    refine lv_istore (lv' := [(6, .int r2), (0, .ref (ad 0)), (1, .int v1), (2, .int v2), (3, .int v3), (4, .int v4), (5, .int v5)]) hx hb dX11_passages_69 hl (by decide) rfl (fun ls hl => ?_)
    refine lv_iload hx hb dX11_passages_71 (lv_at hl 0 rfl) ?_
    refine lv_if_eq (tgt := 79) hx hb dX11_passages_73 (by decide) (fun c4 => ?_) (fun c4 => ?_)
    · have hf := g_t c4 hf
      refine lv_aload_n hx hb dX11_passages_79 rfl (lv_at hl 1 rfl) ?_
      obtain ⟨r6, σ7, h5, hf⟩ := g_b2 hf
      refine g_cI F (As := []) (rest := []) (cmm_go h5) (cwV 0 hts gX11_passages_X11_go rfl rfl rfl (by decide +kernel) ⟨Nat.le_of_ble_eq_true rfl, Nat.le_of_ble_eq_true rfl⟩) hw (hw.recv (ci := 11) (q0 := 0) rfl rfl rfl) rfl hl.1 rfl (Nat.le_of_ble_eq_true rfl) dX11_passages_80 (fun H locs hw => ?_)
      refine lv_istore (lv' := [(7, .int r6), (6, .int r2), (0, .ref (ad 0)), (1, .int v1), (2, .int v2), (3, .int v3), (4, .int v4), (5, .int v5)]) hx hb dX11_passages_83 hl (by decide) rfl (fun ls hl => ?_)
      refine lv_iload hx hb dX11_passages_85 (lv_at hl 7 rfl) ?_
      refine lv_iconst (v := 1) hx hb dX11_passages_87 (by decide) ?_
      refine lv_icmp_ne (tgt := 94) hx hb dX11_passages_88 (by decide) (fun c8 => ?_) (fun c8 => ?_)
      · have hf := g_f c8 hf
        refine lv_iload hx hb dX11_passages_94 (lv_at hl 0 rfl) ?_
        refine lv_bipush (v := (-9)) hx hb dX11_passages_96 (by decide) ?_
        refine lv_icmp_ne (tgt := 110) hx hb dX11_passages_98 (by decide) (fun c9 => ?_) (fun c9 => ?_)
        · have hf := g_f c9 hf
          refine lv_bipush (v := (-100)) hx hb dX11_passages_110 (by decide) ?_
          refine lv_iload hx hb dX11_passages_112 (lv_at hl 0 rfl) ?_
          refine lv_isub hx hb dX11_passages_114 ?_
          exact hret (((-100) : Int32) - r6) _ _ _ _ _ (g_i1 hf) (congrArg (fun t => mw ty ad t wr) (g_i2 hf)) hw dX11_passages_115
        · have hf := g_t c9 hf
          refine lv_aload_n hx hb dX11_passages_101 rfl (lv_at hl 2 rfl) ?_
          refine lv_iload hx hb dX11_passages_102 (lv_at hl 7 rfl) ?_
          obtain ⟨r11, σ12, h10, hf⟩ := g_b2 hf
          refine g_cI F (As := [.int v5]) (rest := []) (cmm_tellPassages h10) (cwV 1 hts gX11_passages_X11_tellPassages rfl rfl rfl (by decide +kernel) ⟨Nat.le_of_ble_eq_true rfl, Nat.le_of_ble_eq_true rfl⟩) hw (hw.recv (ci := 11) (q0 := 0) rfl rfl rfl) rfl hl.1 rfl (Nat.le_of_ble_eq_true rfl) dX11_passages_104 (fun H locs hw => ?_)
          refine lv_goto (tgt := 115) hx hb dX11_passages_107 (by decide) ?_
          exact hret r11 _ _ _ _ _ (g_i1 hf) (congrArg (fun t => mw ty ad t wr) (g_i2 hf)) hw dX11_passages_115
      · have hf := g_t c8 hf
        refine lv_iload hx hb dX11_passages_91 (lv_at hl 0 rfl) ?_
        exact hret r6 _ _ _ _ _ (g_i1 hf) (congrArg (fun t => mw ty ad t wr) (g_i2 hf)) hw dX11_passages_93
    · have hf := g_f c4 hf
      refine lv_iload hx hb dX11_passages_76 (lv_at hl 0 rfl) ?_
      exact hret r2 _ _ _ _ _ (g_i1 hf) (congrArg (fun t => mw ty ad t wr) (g_i2 hf)) hw dX11_passages_78
  unfold mm_passages at hf
  refine lv_aload_n hx hb dX11_passages_0 rfl (lv_at hl 0 rfl) ?_
  refine lv_iconst (v := 0) hx hb dX11_passages_1 (by decide) ?_
  refine mw_put_0 F hin hw kf74 dX11_passages_2 (fun H locs hw => ?_)
  obtain ⟨σ13, eσ13, hf⟩ := g_let hf
  have hw := mw_re eσ13 hw
  refine lv_iload_n hx hb dX11_passages_5 rfl (lv_at hl 1 rfl) ?_
  obtain ⟨r15, h14, hf⟩ := g_b1 hf
  refine g_sI F (As := [.int x1]) (rest := []) (cmm_isSheet h14) (va_cwS 1 hts gX11_passages_X11_isSheet rfl rfl rfl (by decide +kernel) ⟨Nat.le_of_ble_eq_true rfl, Nat.le_of_ble_eq_true rfl⟩) hw rfl hl.1 rfl (Nat.le_of_ble_eq_true rfl) dX11_passages_6 (fun H locs hw => ?_)
  refine lv_if_ne (tgt := 14) hx hb dX11_passages_9 (by decide) (fun c16 => ?_) (fun c16 => ?_)
  · have hf := g_t (bI_nz c16) hf
    refine lv_iload_n hx hb dX11_passages_14 rfl (lv_at hl 2 rfl) ?_
    refine lv_iload hx hb dX11_passages_15 (lv_at hl 4 rfl) ?_
    obtain ⟨r18, h17, hf⟩ := g_b1 hf
    refine g_sI F (As := [.int x2, .int x4]) (rest := []) (cmm_isRow h17) (va_cwS 2 hts gX11_passages_X11_isRow rfl rfl rfl (by decide +kernel) ⟨Nat.le_of_ble_eq_true rfl, Nat.le_of_ble_eq_true rfl⟩) hw rfl hl.1 rfl (Nat.le_of_ble_eq_true rfl) dX11_passages_17 (fun H locs hw => ?_)
    refine lv_if_eq (tgt := 57) hx hb dX11_passages_20 (by decide) (fun c19 => ?_) (fun c19 => ?_)
    · have hf := g_f (bI_z c19) hf
      refine lv_bipush (v := (-2)) hx hb dX11_passages_57 (by decide) ?_
      exact hret (-2) _ _ _ _ _ (g_i1 hf) (congrArg (fun t => mw ty ad t wr) (g_i2 hf)) hw dX11_passages_59
    · have hf := g_t (bI_nz c19) hf
      refine lv_iload hx hb dX11_passages_23 (lv_at hl 5 rfl) ?_
      refine lv_iconst (v := 0) hx hb dX11_passages_25 (by decide) ?_
      refine lv_iconst (v := 1) hx hb dX11_passages_26 (by decide) ?_
      obtain ⟨r21, h20, hf⟩ := g_b1 hf
      refine g_sI F (As := [.int x5, .int 0, .int 1]) (rest := []) (cmm_within h20) (va_cwS 3 hts gX11_passages_X11_within rfl rfl rfl (by decide +kernel) ⟨Nat.le_of_ble_eq_true rfl, Nat.le_of_ble_eq_true rfl⟩) hw rfl hl.1 rfl (Nat.le_of_ble_eq_true rfl) dX11_passages_27 (fun H locs hw => ?_)
      refine lv_if_ne (tgt := 60) hx hb dX11_passages_30 (by decide) (fun c22 => ?_) (fun c22 => ?_)
      · have hf := g_t (bI_nz c22) hf
        exact B60 x1 x2 x3 x4 x5 σ13 _ _ _ (lv_sub hl [0, 1, 2, 3, 4, 5] rfl) hw hf
      · have hf := g_f (bI_z c22) hf
        refine lv_iload hx hb dX11_passages_33 (lv_at hl 5 rfl) ?_
        refine lv_bipush (v := 10) hx hb dX11_passages_35 (by decide) ?_
        refine lv_bipush (v := 13) hx hb dX11_passages_37 (by decide) ?_
        obtain ⟨r24, h23, hf⟩ := g_b1 hf
        refine g_sI F (As := [.int x5, .int 10, .int 13]) (rest := []) (cmm_within h23) (va_cwS 3 hts gX11_passages_X11_within rfl rfl rfl (by decide +kernel) ⟨Nat.le_of_ble_eq_true rfl, Nat.le_of_ble_eq_true rfl⟩) hw rfl hl.1 rfl (Nat.le_of_ble_eq_true rfl) dX11_passages_39 (fun H locs hw => ?_)
        refine lv_if_ne (tgt := 60) hx hb dX11_passages_42 (by decide) (fun c25 => ?_) (fun c25 => ?_)
        · have hf := g_t (bI_nz c25) hf
          exact B60 x1 x2 x3 x4 x5 σ13 _ _ _ (lv_sub hl [0, 1, 2, 3, 4, 5] rfl) hw hf
        · have hf := g_f (bI_z c25) hf
          refine lv_iload hx hb dX11_passages_45 (lv_at hl 5 rfl) ?_
          refine lv_bipush (v := 20) hx hb dX11_passages_47 (by decide) ?_
          refine lv_bipush (v := 24) hx hb dX11_passages_49 (by decide) ?_
          obtain ⟨r27, h26, hf⟩ := g_b1 hf
          refine g_sI F (As := [.int x5, .int 20, .int 24]) (rest := []) (cmm_within h26) (va_cwS 3 hts gX11_passages_X11_within rfl rfl rfl (by decide +kernel) ⟨Nat.le_of_ble_eq_true rfl, Nat.le_of_ble_eq_true rfl⟩) hw rfl hl.1 rfl (Nat.le_of_ble_eq_true rfl) dX11_passages_51 (fun H locs hw => ?_)
          refine lv_if_ne (tgt := 60) hx hb dX11_passages_54 (by decide) (fun c28 => ?_) (fun c28 => ?_)
          · have hf := g_t (bI_nz c28) hf
            exact B60 x1 x2 x3 x4 x5 σ13 _ _ _ (lv_sub hl [0, 1, 2, 3, 4, 5] rfl) hw hf
          · have hf := g_f (bI_z c28) hf
            refine lv_bipush (v := (-2)) hx hb dX11_passages_57 (by decide) ?_
            exact hret (-2) _ _ _ _ _ (g_i1 hf) (congrArg (fun t => mw ty ad t wr) (g_i2 hf)) hw dX11_passages_59
  · have hf := g_f (bI_z c16) hf
    refine lv_iconst (v := (-1)) hx hb dX11_passages_12 (by decide) ?_
    exact hret (-1) _ _ _ _ _ (g_i1 hf) (congrArg (fun t => mw ty ad t wr) (g_i2 hf)) hw dX11_passages_13

abbrev rm_mm_paid : Room := { frames := 3, cells := 0, slots := 0, locals := 73 }
set_option maxHeartbeats 4000000 in
set_option maxRecDepth 100000 in
theorem cmm_paid {l : Launch} {D : va_G} {ty : gT} {A : Nat → Prop} {ad : Nat → Nat} {wr : va_W} {x1 : Int32} {x2 : Int32} {x3 : Int32} {x4 : Int32} {σ : gS} {r : Int32} (hf : mm_paid σ x1 x2 x3 x4 = some r) : gI l D ty A yX11_paid wsX11_paid rm_mm_paid [.ref (ad 0), .int x1, .int x2, .int x3, .int x4] (mw ty ad σ wr) r (mw ty ad σ wr) := by
  refine gI_enter (cc := cX11_paid) (maxL := 7) (by decide) rfl (Nat.le_of_ble_eq_true rfl) ?_
  intro p e s m args below meth c Q ls F hl hw hret
  have F : CallFix p m c cX11_paid 7 s args wsX11_paid RX11 := F
  obtain ⟨hx, hb, hml, hown, hts⟩ := id F
  have hl : lv_has ls 7 [(0, .ref (ad 0)), (1, .int x1), (2, .int x2), (3, .int x3), (4, .int x4)] := hl
  have B90 : ∀ (v6 : Int32) (H : Heap) (locs : List Loc) (ls : Array Slot), lv_has ls 7 [(6, .int v6)] → gW D ty A (mw ty ad σ wr) s s.heap H locs → mm_paid_b90 σ v6 = some r → W p l e rm_mm_paid s m args below meth c H locs 0 0 Q (F0 m 90 ls []) := by
    intro v6 H locs ls hl hw hf
    unfold mm_paid_b90 at hf
    refine lv_iload hx hb dX11_paid_90 (lv_at hl 0 rfl) ?_
    refine lv_goto (tgt := 114) hx hb dX11_paid_92 (by decide) ?_
    exact hret v6 _ _ _ _ _ (Option.some.inj hf) rfl hw dX11_paid_114
  have B78 : ∀ (v1 : Int32) (v2 : Int32) (v3 : Int32) (v4 : Int32) (v6 : Int32) (H : Heap) (locs : List Loc) (ls : Array Slot), lv_has ls 7 [(0, .ref (ad 0)), (1, .int v1), (2, .int v2), (3, .int v3), (4, .int v4), (6, .int v6)] → gW D ty A (mw ty ad σ wr) s s.heap H locs → mm_paid_b78 σ v1 v2 v3 v4 v6 = some r → W p l e rm_mm_paid s m args below meth c H locs 0 0 Q (F0 m 78 ls []) := by
    intro v1 v2 v3 v4 v6 H locs ls hl hw hf
    unfold mm_paid_b78 at hf
    refine lv_iload hx hb dX11_paid_78 (lv_at hl 4 rfl) ?_
    refine lv_iload_n hx hb dX11_paid_80 rfl (lv_at hl 2 rfl) ?_
    refine lv_icmp_eq (tgt := 90) hx hb dX11_paid_81 (by decide) (fun c1 => ?_) (fun c1 => ?_)
    · have hf := g_t c1 hf
      exact B90 v6 _ _ _ (lv_sub hl [5] rfl) hw hf
    · have hf := g_f c1 hf
      refine lv_iload hx hb dX11_paid_84 (lv_at hl 4 rfl) ?_
      refine lv_iload_n hx hb dX11_paid_86 rfl (lv_at hl 3 rfl) ?_
      refine lv_icmp_ne (tgt := 95) hx hb dX11_paid_87 (by decide) (fun c2 => ?_) (fun c2 => ?_)
      · have hf := g_f c2 hf
        refine lv_iload hx hb dX11_paid_95 (lv_at hl 5 rfl) ?_
        refine lv_aload_n hx hb dX11_paid_97 rfl (lv_at hl 0 rfl) ?_
        refine lv_iload hx hb dX11_paid_98 (lv_at hl 4 rfl) ?_
        refine lv_bipush (v := 10) hx hb dX11_paid_100 (by decide) ?_
        refine lv_idiv hx hb dX11_paid_102 (by decide) ?_
        refine lv_iload_n hx hb dX11_paid_103 rfl (lv_at hl 1 rfl) ?_
        refine lv_iload hx hb dX11_paid_104 (lv_at hl 4 rfl) ?_
        refine lv_bipush (v := 10) hx hb dX11_paid_106 (by decide) ?_
        refine lv_irem hx hb dX11_paid_108 (by decide) ?_
        refine lv_iconst (v := 4) hx hb dX11_paid_109 (by decide) ?_
        obtain ⟨r4, h3, hf⟩ := g_b1 hf
        refine g_cI F (As := [.int (v4 / 10), .int v1, .int (v4 - v4 / 10 * 10), .int 4]) (rest := [.int v6]) (cmm_dutyOf h3) (cwV 4 hts gX11_paid_X11_dutyOf rfl rfl rfl (by decide +kernel) ⟨Nat.le_of_ble_eq_true rfl, Nat.le_of_ble_eq_true rfl⟩) hw (hw.recv (ci := 11) (q0 := 0) rfl rfl rfl) rfl hl.1 rfl (Nat.le_of_ble_eq_true rfl) dX11_paid_110 (fun H locs hw => ?_)
        refine lv_iadd hx hb dX11_paid_113 ?_
        exact hret (v6 + r4) _ _ _ _ _ (Option.some.inj hf) rfl hw dX11_paid_114
      · have hf := g_t c2 hf
        exact B90 v6 _ _ _ (lv_sub hl [5] rfl) hw hf
  have B72 : ∀ (v1 : Int32) (v2 : Int32) (v3 : Int32) (v4 : Int32) (s0 : Int32) (s2 : Int32) (s3 : Int32) (s4 : Int32) (s5 : Int32) (H : Heap) (locs : List Loc) (ls : Array Slot), lv_has ls 7 [(0, .ref (ad 0)), (1, .int v1), (2, .int v2), (3, .int v3), (4, .int v4)] → gW D ty A (mw ty ad σ wr) s s.heap H locs → mm_paid_b72 σ v1 v2 v3 v4 s0 s2 s3 s4 s5 = some r → W p l e rm_mm_paid s m args below meth c H locs 0 0 Q (F0 m 72 ls [.int s5, .int s4, .int s3, .int s2, .ref (ad 0), .int s0]) := by
    intro v1 v2 v3 v4 s0 s2 s3 s4 s5 H locs ls hl hw hf
    unfold mm_paid_b72 at hf
    obtain ⟨r6, h5, hf⟩ := g_b1 hf
    refine g_cI F (As := [.int s2, .int s3, .int s4, .int s5]) (rest := [.int s0]) (cmm_dutyOf h5) (cwV 4 hts gX11_paid_X11_dutyOf rfl rfl rfl (by decide +kernel) ⟨Nat.le_of_ble_eq_true rfl, Nat.le_of_ble_eq_true rfl⟩) hw (hw.recv (ci := 11) (q0 := 0) rfl rfl rfl) rfl hl.1 rfl (Nat.le_of_ble_eq_true rfl) dX11_paid_72 (fun H locs hw => ?_)
    refine lv_iadd hx hb dX11_paid_75 ?_
    refine lv_istore (lv' := [(6, .int (s0 + r6)), (0, .ref (ad 0)), (1, .int v1), (2, .int v2), (3, .int v3), (4, .int v4)]) hx hb dX11_paid_76 hl (by decide) rfl (fun ls hl => ?_)
    exact B78 v1 v2 v3 v4 (s0 + r6) _ _ _ (lv_sub hl [1, 2, 3, 4, 5, 0] rfl) hw hf
  have B23 : ∀ (v1 : Int32) (v2 : Int32) (v3 : Int32) (v4 : Int32) (s0 : Int32) (s1 : Int32) (H : Heap) (locs : List Loc) (ls : Array Slot), lv_has ls 7 [(0, .ref (ad 0)), (1, .int v1), (2, .int v2), (3, .int v3), (4, .int v4)] → gW D ty A (mw ty ad σ wr) s s.heap H locs → mm_paid_b23 σ v1 v2 v3 v4 s0 s1 = some r → W p l e rm_mm_paid s m args below meth c H locs 0 0 Q (F0 m 23 ls [.int s1, .int s0]) := by
    intro v1 v2 v3 v4 s0 s1 H locs ls hl hw hf
    unfold mm_paid_b23 at hf
    refine lv_ior hx hb dX11_paid_23 ?_
    refine lv_istore (lv' := [(5, .int (s0 ||| s1)), (0, .ref (ad 0)), (1, .int v1), (2, .int v2), (3, .int v3), (4, .int v4)]) hx hb dX11_paid_24 hl (by decide) rfl (fun ls hl => ?_)
    refine lv_aload_n hx hb dX11_paid_26 rfl (lv_at hl 1 rfl) ?_
    refine lv_iload_n hx hb dX11_paid_27 rfl (lv_at hl 3 rfl) ?_
    refine lv_bipush (v := 10) hx hb dX11_paid_28 (by decide) ?_
    refine lv_idiv hx hb dX11_paid_30 (by decide) ?_
    refine lv_iload_n hx hb dX11_paid_31 rfl (lv_at hl 2 rfl) ?_
    refine lv_iload_n hx hb dX11_paid_32 rfl (lv_at hl 3 rfl) ?_
    refine lv_bipush (v := 10) hx hb dX11_paid_33 (by decide) ?_
    refine lv_irem hx hb dX11_paid_35 (by decide) ?_
    refine lv_iload hx hb dX11_paid_36 (lv_at hl 0 rfl) ?_
    obtain ⟨r8, h7, hf⟩ := g_b1 hf
    refine g_cI F (As := [.int (v2 / 10), .int v1, .int (v2 - v2 / 10 * 10), .int (s0 ||| s1)]) (rest := []) (cmm_dutyOf h7) (cwV 4 hts gX11_paid_X11_dutyOf rfl rfl rfl (by decide +kernel) ⟨Nat.le_of_ble_eq_true rfl, Nat.le_of_ble_eq_true rfl⟩) hw (hw.recv (ci := 11) (q0 := 0) rfl rfl rfl) rfl hl.1 rfl (Nat.le_of_ble_eq_true rfl) dX11_paid_38 (fun H locs hw => ?_)
    refine lv_istore (lv' := [(6, .int r8), (5, .int (s0 ||| s1)), (0, .ref (ad 0)), (1, .int v1), (2, .int v2), (3, .int v3), (4, .int v4)]) hx hb dX11_paid_41 hl (by decide) rfl (fun ls hl => ?_)
    refine lv_iload_n hx hb dX11_paid_43 rfl (lv_at hl 5 rfl) ?_
    refine lv_iload_n hx hb dX11_paid_44 rfl (lv_at hl 4 rfl) ?_
    refine lv_icmp_eq (tgt := 78) hx hb dX11_paid_45 (by decide) (fun c9 => ?_) (fun c9 => ?_)
    · have hf := g_t c9 hf
      exact B78 v1 v2 v3 v4 r8 _ _ _ (lv_sub hl [2, 3, 4, 5, 6, 0] rfl) hw hf
    · have hf := g_f c9 hf
      refine lv_iload hx hb dX11_paid_48 (lv_at hl 0 rfl) ?_
      refine lv_aload_n hx hb dX11_paid_50 rfl (lv_at hl 2 rfl) ?_
      refine lv_iload_n hx hb dX11_paid_51 rfl (lv_at hl 5 rfl) ?_
      refine lv_bipush (v := 10) hx hb dX11_paid_52 (by decide) ?_
      refine lv_idiv hx hb dX11_paid_54 (by decide) ?_
      refine lv_iload_n hx hb dX11_paid_55 rfl (lv_at hl 3 rfl) ?_
      refine lv_iload_n hx hb dX11_paid_56 rfl (lv_at hl 5 rfl) ?_
      refine lv_bipush (v := 10) hx hb dX11_paid_57 (by decide) ?_
      refine lv_irem hx hb dX11_paid_59 (by decide) ?_
      refine lv_iload hx hb dX11_paid_60 (lv_at hl 6 rfl) ?_
      refine lv_iload_n hx hb dX11_paid_62 rfl (lv_at hl 5 rfl) ?_
      refine lv_icmp_ne (tgt := 71) hx hb dX11_paid_63 (by decide) (fun c10 => ?_) (fun c10 => ?_)
      · have hf := g_f c10 hf
        refine lv_iconst (v := 2) hx hb dX11_paid_71 (by decide) ?_
        exact B72 v1 v2 v3 v4 r8 (v3 / 10) v1 (v3 - v3 / 10 * 10) 2 _ _ _ (lv_sub hl [2, 3, 4, 5, 6] rfl) hw hf
      · have hf := g_t c10 hf
        refine lv_bipush (v := 6) hx hb dX11_paid_66 (by decide) ?_
        refine lv_goto (tgt := 72) hx hb dX11_paid_68 (by decide) ?_
        exact B72 v1 v2 v3 v4 r8 (v3 / 10) v1 (v3 - v3 / 10 * 10) 6 _ _ _ (lv_sub hl [2, 3, 4, 5, 6] rfl) hw hf
  have B11 : ∀ (v1 : Int32) (v2 : Int32) (v3 : Int32) (v4 : Int32) (s0 : Int32) (s1 : Int32) (H : Heap) (locs : List Loc) (ls : Array Slot), lv_has ls 7 [(0, .ref (ad 0)), (1, .int v1), (2, .int v2), (3, .int v3), (4, .int v4)] → gW D ty A (mw ty ad σ wr) s s.heap H locs → mm_paid_b11 σ v1 v2 v3 v4 s0 s1 = some r → W p l e rm_mm_paid s m args below meth c H locs 0 0 Q (F0 m 11 ls [.int s1, .int s0]) := by
    intro v1 v2 v3 v4 s0 s1 H locs ls hl hw hf
    unfold mm_paid_b11 at hf
    refine lv_ior hx hb dX11_paid_11 ?_
    refine lv_iload hx hb dX11_paid_12 (lv_at hl 4 rfl) ?_
    refine lv_iload_n hx hb dX11_paid_14 rfl (lv_at hl 2 rfl) ?_
    refine lv_icmp_ne (tgt := 22) hx hb dX11_paid_15 (by decide) (fun c11 => ?_) (fun c11 => ?_)
    · have hf := g_f c11 hf
      refine lv_iconst (v := 0) hx hb dX11_paid_22 (by decide) ?_
      exact B23 v1 v2 v3 v4 (s0 ||| s1) 0 _ _ _ (lv_sub hl [0, 1, 2, 3, 4] rfl) hw hf
    · have hf := g_t c11 hf
      refine lv_iconst (v := 4) hx hb dX11_paid_18 (by decide) ?_
      refine lv_goto (tgt := 23) hx hb dX11_paid_19 (by decide) ?_
      exact B23 v1 v2 v3 v4 (s0 ||| s1) 4 _ _ _ (lv_sub hl [0, 1, 2, 3, 4] rfl) hw hf
  unfold mm_paid at hf
  refine lv_iconst (v := 1) hx hb dX11_paid_0 (by decide) ?_
  refine lv_iload_n hx hb dX11_paid_1 rfl (lv_at hl 3 rfl) ?_
  refine lv_iload_n hx hb dX11_paid_2 rfl (lv_at hl 2 rfl) ?_
  refine lv_icmp_ne (tgt := 10) hx hb dX11_paid_3 (by decide) (fun c12 => ?_) (fun c12 => ?_)
  · have hf := g_f c12 hf
    refine lv_iconst (v := 0) hx hb dX11_paid_10 (by decide) ?_
    exact B11 x1 x2 x3 x4 1 0 _ _ _ (lv_sub hl [0, 1, 2, 3, 4] rfl) hw hf
  · have hf := g_t c12 hf
    refine lv_iconst (v := 2) hx hb dX11_paid_6 (by decide) ?_
    refine lv_goto (tgt := 11) hx hb dX11_paid_7 (by decide) ?_
    exact B11 x1 x2 x3 x4 1 2 _ _ _ (lv_sub hl [0, 1, 2, 3, 4] rfl) hw hf
