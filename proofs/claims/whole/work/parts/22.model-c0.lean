abbrev rm_mm_fails : Room := { frames := 0, cells := 0, slots := 0, locals := 0 }
set_option maxHeartbeats 4000000 in
set_option maxRecDepth 100000 in
theorem cmm_fails {l : Launch} {D : va_G} {ty : gT} {A : Nat → Prop} {ad : Nat → Nat} {wr : va_W} {x1 : Int32} {σ : gS} {r : Int32} {σ' : gS} (hf : mm_fails σ x1 = some (r, σ')) : gI l D ty A yX11_fails wsX11_fails rm_mm_fails [.ref (ad 0), .int x1] (mw ty ad σ wr) r (mw ty ad σ' wr) := by
  refine gI_enter (cc := cX11_fails) (maxL := 2) (by decide) rfl (Nat.le_of_ble_eq_true rfl) ?_
  intro p e s m args below meth c Q ls F hl hw hret
  have F : CallFix p m c cX11_fails 2 s args wsX11_fails RX11 := F
  obtain ⟨hx, hb, hml, hown, hts⟩ := id F
  have hl : lv_has ls 2 [(0, .ref (ad 0)), (1, .int x1)] := hl
  have hin : ∀ w ∈ wsX110, w ∈ wsX11_fails := by first | exact fun w h => List.mem_cons_of_mem _ (List.mem_append_right _ h) | decide +kernel
  have kf74 := hts (.fieldLink RX11 74 "GossipGateModel" "fault" "I") (by decide +kernel)
  unfold mm_fails at hf
  refine lv_aload_n hx hb dX11_fails_0 rfl (lv_at hl 0 rfl) ?_
  refine lv_iload_n hx hb dX11_fails_1 rfl (lv_at hl 1 rfl) ?_
  refine mw_put_0 F hin hw kf74 dX11_fails_2 (fun H locs hw => ?_)
  obtain ⟨σ1, eσ1, hf⟩ := g_let hf
  have hw := mw_re eσ1 hw
  refine lv_bipush (v := (-10)) hx hb dX11_fails_5 (by decide) ?_
  refine lv_iload_n hx hb dX11_fails_7 rfl (lv_at hl 1 rfl) ?_
  refine lv_isub hx hb dX11_fails_8 ?_
  exact hret (((-10) : Int32) - x1) _ _ _ _ _ (g_i1 hf) (congrArg (fun t => mw ty ad t wr) (g_i2 hf)) hw dX11_fails_9

abbrev rm_mm_lost : Room := { frames := 0, cells := 0, slots := 0, locals := 0 }
set_option maxHeartbeats 4000000 in
set_option maxRecDepth 100000 in
theorem cmm_lost {l : Launch} {D : va_G} {ty : gT} {A : Nat → Prop} {ad : Nat → Nat} {wr : va_W} {x1 : Int32} {σ : gS} {r : Int64} {σ' : gS} (hf : mm_lost σ x1 = some (r, σ')) : gL l D ty A yX11_lost wsX11_lost rm_mm_lost [.ref (ad 0), .int x1] (mw ty ad σ wr) r (mw ty ad σ' wr) := by
  refine gL_enter (cc := cX11_lost) (maxL := 2) (by decide) rfl (Nat.le_of_ble_eq_true rfl) ?_
  intro p e s m args below meth c Q ls F hl hw hret
  have F : CallFix p m c cX11_lost 2 s args wsX11_lost RX11 := F
  obtain ⟨hx, hb, hml, hown, hts⟩ := id F
  have hl : lv_has ls 2 [(0, .ref (ad 0)), (1, .int x1)] := hl
  have hin : ∀ w ∈ wsX110, w ∈ wsX11_lost := by first | exact fun w h => List.mem_cons_of_mem _ (List.mem_append_right _ h) | decide +kernel
  have kc77 := hts (.constantLong RX11 77 (-9223372036854775808)) (by decide +kernel)
  have kf74 := hts (.fieldLink RX11 74 "GossipGateModel" "fault" "I") (by decide +kernel)
  unfold mm_lost at hf
  refine lv_aload_n hx hb dX11_lost_0 rfl (lv_at hl 0 rfl) ?_
  refine lv_iload_n hx hb dX11_lost_1 rfl (lv_at hl 1 rfl) ?_
  refine mw_put_0 F hin hw kf74 dX11_lost_2 (fun H locs hw => ?_)
  obtain ⟨σ1, eσ1, hf⟩ := g_let hf
  have hw := mw_re eσ1 hw
  refine lv_ldc2 (v := (-9223372036854775808)) hx hb hown kc77 dX11_lost_5 ?_
  exact hret (-9223372036854775808) _ _ _ _ _ (g_i1 hf) (congrArg (fun t => mw ty ad t wr) (g_i2 hf)) hw dX11_lost_8

abbrev rm_mm_within : Room := { frames := 0, cells := 0, slots := 0, locals := 0 }
set_option maxHeartbeats 4000000 in
set_option maxRecDepth 100000 in
theorem cmm_within {l : Launch} {D : va_G} {ty : gT} {A : Nat → Prop} {ws : va_W} {x1 : Int32} {x2 : Int32} {x3 : Int32} {r : Bool} (hf : mm_within x1 x2 x3 = some r) : gI l D ty A yX11_within wsX11_within rm_mm_within [.int x1, .int x2, .int x3] ws (bI r) ws := by
  refine gZ_enter (cc := cX11_within) (maxL := 3) (by decide) rfl (Nat.le_of_ble_eq_true rfl) ?_
  intro p e s m args below meth c Q ls F hl hw hret
  have F : CallFix p m c cX11_within 3 s args wsX11_within RX11 := F
  obtain ⟨hx, hb, hml, hown, hts⟩ := id F
  have hl : lv_has ls 3 [(0, .int x1), (1, .int x2), (2, .int x3)] := hl
  unfold mm_within at hf
  refine lv_iload_n hx hb dX11_within_0 rfl (lv_at hl 0 rfl) ?_
  refine lv_iload_n hx hb dX11_within_1 rfl (lv_at hl 1 rfl) ?_
  refine lv_icmp_lt (tgt := 14) hx hb dX11_within_2 (by decide) (fun c1 => ?_) (fun c1 => ?_)
  · have hf := g_t c1 hf
    refine lv_iconst (v := 0) hx hb dX11_within_14 (by decide) ?_
    exact hret false _ _ _ _ _ (Option.some.inj hf) rfl hw dX11_within_15
  · have hf := g_f c1 hf
    refine lv_iload_n hx hb dX11_within_5 rfl (lv_at hl 0 rfl) ?_
    refine lv_iload_n hx hb dX11_within_6 rfl (lv_at hl 2 rfl) ?_
    refine lv_icmp_gt (tgt := 14) hx hb dX11_within_7 (by decide) (fun c2 => ?_) (fun c2 => ?_)
    · have hf := g_t c2 hf
      refine lv_iconst (v := 0) hx hb dX11_within_14 (by decide) ?_
      exact hret false _ _ _ _ _ (Option.some.inj hf) rfl hw dX11_within_15
    · have hf := g_f c2 hf
      refine lv_iconst (v := 1) hx hb dX11_within_10 (by decide) ?_
      refine lv_goto (tgt := 15) hx hb dX11_within_11 (by decide) ?_
      exact hret true _ _ _ _ _ (Option.some.inj hf) rfl hw dX11_within_15

abbrev rm_mm_isSheet : Room := { frames := 1, cells := 0, slots := 0, locals := 22 }
set_option maxHeartbeats 4000000 in
set_option maxRecDepth 100000 in
theorem cmm_isSheet {l : Launch} {D : va_G} {ty : gT} {A : Nat → Prop} {ws : va_W} {x1 : Int32} {r : Bool} (hf : mm_isSheet x1 = some r) : gI l D ty A yX11_isSheet wsX11_isSheet rm_mm_isSheet [.int x1] ws (bI r) ws := by
  refine gZ_enter (cc := cX11_isSheet) (maxL := 1) (by decide) rfl (Nat.le_of_ble_eq_true rfl) ?_
  intro p e s m args below meth c Q ls F hl hw hret
  have F : CallFix p m c cX11_isSheet 1 s args wsX11_isSheet RX11 := F
  obtain ⟨hx, hb, hml, hown, hts⟩ := id F
  have hl : lv_has ls 1 [(0, .int x1)] := hl
  unfold mm_isSheet at hf
  refine lv_iload_n hx hb dX11_isSheet_0 rfl (lv_at hl 0 rfl) ?_
  refine lv_iconst (v := 0) hx hb dX11_isSheet_1 (by decide) ?_
  refine lv_iconst (v := 3) hx hb dX11_isSheet_2 (by decide) ?_
  obtain ⟨r2, h1, hf⟩ := g_b1 hf
  refine g_sI F (As := [.int x1, .int 0, .int 3]) (rest := []) (cmm_within h1) (va_cwS 3 hts gX11_isSheet_X11_within rfl rfl rfl (by decide +kernel) ⟨Nat.le_of_ble_eq_true rfl, Nat.le_of_ble_eq_true rfl⟩) hw rfl hl.1 rfl (Nat.le_of_ble_eq_true rfl) dX11_isSheet_3 (fun H locs hw => ?_)
  exact hret r2 _ _ _ _ _ (Option.some.inj hf) rfl hw dX11_isSheet_6

abbrev rm_mm_isSort : Room := { frames := 1, cells := 0, slots := 0, locals := 22 }
set_option maxHeartbeats 4000000 in
set_option maxRecDepth 100000 in
theorem cmm_isSort {l : Launch} {D : va_G} {ty : gT} {A : Nat → Prop} {ws : va_W} {x1 : Int32} {r : Bool} (hf : mm_isSort x1 = some r) : gI l D ty A yX11_isSort wsX11_isSort rm_mm_isSort [.int x1] ws (bI r) ws := by
  refine gZ_enter (cc := cX11_isSort) (maxL := 1) (by decide) rfl (Nat.le_of_ble_eq_true rfl) ?_
  intro p e s m args below meth c Q ls F hl hw hret
  have F : CallFix p m c cX11_isSort 1 s args wsX11_isSort RX11 := F
  obtain ⟨hx, hb, hml, hown, hts⟩ := id F
  have hl : lv_has ls 1 [(0, .int x1)] := hl
  unfold mm_isSort at hf
  refine lv_iload_n hx hb dX11_isSort_0 rfl (lv_at hl 0 rfl) ?_
  refine lv_iconst (v := 0) hx hb dX11_isSort_1 (by decide) ?_
  refine lv_iconst (v := 2) hx hb dX11_isSort_2 (by decide) ?_
  obtain ⟨r2, h1, hf⟩ := g_b1 hf
  refine g_sI F (As := [.int x1, .int 0, .int 2]) (rest := []) (cmm_within h1) (va_cwS 3 hts gX11_isSort_X11_within rfl rfl rfl (by decide +kernel) ⟨Nat.le_of_ble_eq_true rfl, Nat.le_of_ble_eq_true rfl⟩) hw rfl hl.1 rfl (Nat.le_of_ble_eq_true rfl) dX11_isSort_3 (fun H locs hw => ?_)
  exact hret r2 _ _ _ _ _ (Option.some.inj hf) rfl hw dX11_isSort_6

abbrev rm_mm_against : Room := { frames := 0, cells := 0, slots := 0, locals := 0 }
set_option maxHeartbeats 4000000 in
set_option maxRecDepth 100000 in
theorem cmm_against {l : Launch} {D : va_G} {ty : gT} {A : Nat → Prop} {ad : Nat → Nat} {wr : va_W} {x1 : Int32} {x2 : Int32} {x3 : Int32} {x4 : Int32} {σ : gS} {r : Int32} (hf : mm_against σ x1 x2 x3 x4 = some r) : gI l D ty A yX11_against wsX11_against rm_mm_against [.ref (ad 0), .int x1, .int x2, .int x3, .int x4] (mw ty ad σ wr) r (mw ty ad σ wr) := by
  refine gI_enter (cc := cX11_against) (maxL := 5) (by decide) rfl (Nat.le_of_ble_eq_true rfl) ?_
  intro p e s m args below meth c Q ls F hl hw hret
  have F : CallFix p m c cX11_against 5 s args wsX11_against RX11 := F
  obtain ⟨hx, hb, hml, hown, hts⟩ := id F
  have hl : lv_has ls 5 [(0, .ref (ad 0)), (1, .int x1), (2, .int x2), (3, .int x3), (4, .int x4)] := hl
  have hin : ∀ w ∈ wsX110, w ∈ wsX11_against := by first | exact fun w h => List.mem_cons_of_mem _ (List.mem_append_right _ h) | decide +kernel
  have kf13 := hts (.fieldLink RX11 13 "GossipGateModel" "sheetLong" "[I") (by decide +kernel)
  have kf9 := hts (.fieldLink RX11 9 "GossipGateModel" "sorts" "[I") (by decide +kernel)
  have B70 : ∀ (H : Heap) (locs : List Loc) (ls : Array Slot), lv_has ls 5 [] → gW D ty A (mw ty ad σ wr) s s.heap H locs → mm_against_b70 σ = some r → W p l e rm_mm_against s m args below meth c H locs 0 0 Q (F0 m 70 ls []) := by
    intro H locs ls hl hw hf
    unfold mm_against_b70 at hf
    refine lv_iconst (v := 3) hx hb dX11_against_70 (by decide) ?_
    refine lv_goto (tgt := 75) hx hb dX11_against_71 (by decide) ?_
    exact hret 3 _ _ _ _ _ (Option.some.inj hf) rfl hw dX11_against_75
  have B23 : ∀ (v1 : Int32) (v3 : Int32) (v4 : Int32) (H : Heap) (locs : List Loc) (ls : Array Slot), lv_has ls 5 [(0, .ref (ad 0)), (1, .int v1), (3, .int v3), (4, .int v4)] → gW D ty A (mw ty ad σ wr) s s.heap H locs → mm_against_b23 σ v1 v3 v4 = some r → W p l e rm_mm_against s m args below meth c H locs 0 0 Q (F0 m 23 ls []) := by
    intro v1 v3 v4 H locs ls hl hw hf
    unfold mm_against_b23 at hf
    refine lv_aload_n hx hb dX11_against_23 rfl (lv_at hl 0 rfl) ?_
    refine mw_get_2 F hin hw kf9 dX11_against_24 ?_
    refine lv_iload_n hx hb dX11_against_27 rfl (lv_at hl 1 rfl) ?_
    obtain ⟨g1, hf⟩ := g_g hf
    refine mw_ld_2 F hw g1 dX11_against_28 ?_
    refine lv_bipush (v := (-9)) hx hb dX11_against_29 (by decide) ?_
    refine lv_icmp_ne (tgt := 36) hx hb dX11_against_31 (by decide) (fun c2 => ?_) (fun c2 => ?_)
    · have hf := g_f c2 hf
      refine lv_iload hx hb dX11_against_36 (lv_at hl 3 rfl) ?_
      refine lv_if_ge (tgt := 43) hx hb dX11_against_38 (by decide) (fun c3 => ?_) (fun c3 => ?_)
      · have hf := g_t c3 hf
        refine lv_iload_n hx hb dX11_against_43 rfl (lv_at hl 2 rfl) ?_
        refine lv_if_lt (tgt := 70) hx hb dX11_against_44 (by decide) (fun c4 => ?_) (fun c4 => ?_)
        · have hf := g_t c4 hf
          exact B70  _ _ _ (lv_sub hl [] rfl) hw hf
        · have hf := g_f c4 hf
          refine lv_iload_n hx hb dX11_against_47 rfl (lv_at hl 2 rfl) ?_
          refine lv_aload_n hx hb dX11_against_48 rfl (lv_at hl 0 rfl) ?_
          refine mw_get_3 F hin hw kf13 dX11_against_49 ?_
          refine lv_iload_n hx hb dX11_against_52 rfl (lv_at hl 1 rfl) ?_
          refine mw_ld_3 F hw g1 dX11_against_53 ?_
          refine lv_icmp_gt (tgt := 70) hx hb dX11_against_54 (by decide) (fun c5 => ?_) (fun c5 => ?_)
          · have hf := g_t c5 hf
            exact B70  _ _ _ (lv_sub hl [] rfl) hw hf
          · have hf := g_f c5 hf
            refine lv_iload hx hb dX11_against_57 (lv_at hl 3 rfl) ?_
            refine lv_aload_n hx hb dX11_against_59 rfl (lv_at hl 0 rfl) ?_
            refine mw_get_3 F hin hw kf13 dX11_against_60 ?_
            refine lv_iload_n hx hb dX11_against_63 rfl (lv_at hl 1 rfl) ?_
            refine mw_ld_3 F hw g1 dX11_against_64 ?_
            refine lv_iload_n hx hb dX11_against_65 rfl (lv_at hl 2 rfl) ?_
            refine lv_isub hx hb dX11_against_66 ?_
            refine lv_icmp_le (tgt := 74) hx hb dX11_against_67 (by decide) (fun c6 => ?_) (fun c6 => ?_)
            · have hf := g_t c6 hf
              refine lv_iconst (v := 0) hx hb dX11_against_74 (by decide) ?_
              exact hret 0 _ _ _ _ _ (Option.some.inj hf) rfl hw dX11_against_75
            · have hf := g_f c6 hf
              exact B70  _ _ _ (lv_sub hl [] rfl) hw hf
      · have hf := g_f c3 hf
        refine lv_iconst (v := 4) hx hb dX11_against_41 (by decide) ?_
        exact hret 4 _ _ _ _ _ (Option.some.inj hf) rfl hw dX11_against_42
    · have hf := g_t c2 hf
      refine lv_iconst (v := 1) hx hb dX11_against_34 (by decide) ?_
      exact hret 1 _ _ _ _ _ (Option.some.inj hf) rfl hw dX11_against_35
  unfold mm_against at hf
  refine lv_aload_n hx hb dX11_against_0 rfl (lv_at hl 0 rfl) ?_
  refine mw_get_2 F hin hw kf9 dX11_against_1 ?_
  refine lv_iload_n hx hb dX11_against_4 rfl (lv_at hl 1 rfl) ?_
  obtain ⟨g7, hf⟩ := g_g hf
  refine mw_ld_2 F hw g7 dX11_against_5 ?_
  refine lv_bipush (v := (-9)) hx hb dX11_against_6 (by decide) ?_
  refine lv_icmp_eq (tgt := 23) hx hb dX11_against_8 (by decide) (fun c8 => ?_) (fun c8 => ?_)
  · have hf := g_t c8 hf
    exact B23 x1 x3 x4 _ _ _ (lv_sub hl [0, 1, 3, 4] rfl) hw hf
  · have hf := g_f c8 hf
    refine lv_aload_n hx hb dX11_against_11 rfl (lv_at hl 0 rfl) ?_
    refine mw_get_2 F hin hw kf9 dX11_against_12 ?_
    refine lv_iload_n hx hb dX11_against_15 rfl (lv_at hl 1 rfl) ?_
    refine mw_ld_2 F hw g7 dX11_against_16 ?_
    refine lv_iload_n hx hb dX11_against_17 rfl (lv_at hl 2 rfl) ?_
    refine lv_icmp_eq (tgt := 23) hx hb dX11_against_18 (by decide) (fun c9 => ?_) (fun c9 => ?_)
    · have hf := g_t c9 hf
      exact B23 x1 x3 x4 _ _ _ (lv_sub hl [0, 1, 3, 4] rfl) hw hf
    · have hf := g_f c9 hf
      refine lv_iconst (v := 2) hx hb dX11_against_21 (by decide) ?_
      exact hret 2 _ _ _ _ _ (Option.some.inj hf) rfl hw dX11_against_22

abbrev rm_mm_isGate : Room := { frames := 0, cells := 0, slots := 0, locals := 0 }
set_option maxHeartbeats 4000000 in
set_option maxRecDepth 100000 in
theorem cmm_isGate {l : Launch} {D : va_G} {ty : gT} {A : Nat → Prop} {ad : Nat → Nat} {wr : va_W} {x1 : Int32} {σ : gS} {r : Bool} (hf : mm_isGate σ x1 = some r) : gI l D ty A yX11_isGate wsX11_isGate rm_mm_isGate [.ref (ad 0), .int x1] (mw ty ad σ wr) (bI r) (mw ty ad σ wr) := by
  refine gZ_enter (cc := cX11_isGate) (maxL := 2) (by decide) rfl (Nat.le_of_ble_eq_true rfl) ?_
  intro p e s m args below meth c Q ls F hl hw hret
  have F : CallFix p m c cX11_isGate 2 s args wsX11_isGate RX11 := F
  obtain ⟨hx, hb, hml, hown, hts⟩ := id F
  have hl : lv_has ls 2 [(0, .ref (ad 0)), (1, .int x1)] := hl
  have hin : ∀ w ∈ wsX110, w ∈ wsX11_isGate := by first | exact fun w h => List.mem_cons_of_mem _ (List.mem_append_right _ h) | decide +kernel
  have kf83 := hts (.fieldLink RX11 83 "GossipGateModel" "gates" "I") (by decide +kernel)
  unfold mm_isGate at hf
  refine lv_iload_n hx hb dX11_isGate_0 rfl (lv_at hl 1 rfl) ?_
  refine lv_if_lt (tgt := 16) hx hb dX11_isGate_1 (by decide) (fun c1 => ?_) (fun c1 => ?_)
  · have hf := g_t c1 hf
    refine lv_iconst (v := 0) hx hb dX11_isGate_16 (by decide) ?_
    exact hret false _ _ _ _ _ (Option.some.inj hf) rfl hw dX11_isGate_17
  · have hf := g_f c1 hf
    refine lv_iload_n hx hb dX11_isGate_4 rfl (lv_at hl 1 rfl) ?_
    refine lv_aload_n hx hb dX11_isGate_5 rfl (lv_at hl 0 rfl) ?_
    refine mw_get_5 F hin hw kf83 dX11_isGate_6 ?_
    refine lv_icmp_ge (tgt := 16) hx hb dX11_isGate_9 (by decide) (fun c2 => ?_) (fun c2 => ?_)
    · have hf := g_t c2 hf
      refine lv_iconst (v := 0) hx hb dX11_isGate_16 (by decide) ?_
      exact hret false _ _ _ _ _ (Option.some.inj hf) rfl hw dX11_isGate_17
    · have hf := g_f c2 hf
      refine lv_iconst (v := 1) hx hb dX11_isGate_12 (by decide) ?_
      refine lv_goto (tgt := 17) hx hb dX11_isGate_13 (by decide) ?_
      exact hret true _ _ _ _ _ (Option.some.inj hf) rfl hw dX11_isGate_17

abbrev rm_mm_isStory : Room := { frames := 0, cells := 0, slots := 0, locals := 0 }
set_option maxHeartbeats 4000000 in
set_option maxRecDepth 100000 in
theorem cmm_isStory {l : Launch} {D : va_G} {ty : gT} {A : Nat → Prop} {ad : Nat → Nat} {wr : va_W} {x1 : Int32} {σ : gS} {r : Bool} (hf : mm_isStory σ x1 = some r) : gI l D ty A yX11_isStory wsX11_isStory rm_mm_isStory [.ref (ad 0), .int x1] (mw ty ad σ wr) (bI r) (mw ty ad σ wr) := by
  refine gZ_enter (cc := cX11_isStory) (maxL := 2) (by decide) rfl (Nat.le_of_ble_eq_true rfl) ?_
  intro p e s m args below meth c Q ls F hl hw hret
  have F : CallFix p m c cX11_isStory 2 s args wsX11_isStory RX11 := F
  obtain ⟨hx, hb, hml, hown, hts⟩ := id F
  have hl : lv_has ls 2 [(0, .ref (ad 0)), (1, .int x1)] := hl
  have hin : ∀ w ∈ wsX110, w ∈ wsX11_isStory := by first | exact fun w h => List.mem_cons_of_mem _ (List.mem_append_right _ h) | decide +kernel
  have kf86 := hts (.fieldLink RX11 86 "GossipGateModel" "stories" "I") (by decide +kernel)
  unfold mm_isStory at hf
  refine lv_iload_n hx hb dX11_isStory_0 rfl (lv_at hl 1 rfl) ?_
  refine lv_if_lt (tgt := 16) hx hb dX11_isStory_1 (by decide) (fun c1 => ?_) (fun c1 => ?_)
  · have hf := g_t c1 hf
    refine lv_iconst (v := 0) hx hb dX11_isStory_16 (by decide) ?_
    exact hret false _ _ _ _ _ (Option.some.inj hf) rfl hw dX11_isStory_17
  · have hf := g_f c1 hf
    refine lv_iload_n hx hb dX11_isStory_4 rfl (lv_at hl 1 rfl) ?_
    refine lv_aload_n hx hb dX11_isStory_5 rfl (lv_at hl 0 rfl) ?_
    refine mw_get_6 F hin hw kf86 dX11_isStory_6 ?_
    refine lv_icmp_ge (tgt := 16) hx hb dX11_isStory_9 (by decide) (fun c2 => ?_) (fun c2 => ?_)
    · have hf := g_t c2 hf
      refine lv_iconst (v := 0) hx hb dX11_isStory_16 (by decide) ?_
      exact hret false _ _ _ _ _ (Option.some.inj hf) rfl hw dX11_isStory_17
    · have hf := g_f c2 hf
      refine lv_iconst (v := 1) hx hb dX11_isStory_12 (by decide) ?_
      refine lv_goto (tgt := 17) hx hb dX11_isStory_13 (by decide) ?_
      exact hret true _ _ _ _ _ (Option.some.inj hf) rfl hw dX11_isStory_17

abbrev rm_mm_isDay : Room := { frames := 1, cells := 0, slots := 0, locals := 22 }
set_option maxHeartbeats 4000000 in
set_option maxRecDepth 100000 in
theorem cmm_isDay {l : Launch} {D : va_G} {ty : gT} {A : Nat → Prop} {ws : va_W} {x1 : Int32} {r : Bool} (hf : mm_isDay x1 = some r) : gI l D ty A yX11_isDay wsX11_isDay rm_mm_isDay [.int x1] ws (bI r) ws := by
  refine gZ_enter (cc := cX11_isDay) (maxL := 1) (by decide) rfl (Nat.le_of_ble_eq_true rfl) ?_
  intro p e s m args below meth c Q ls F hl hw hret
  have F : CallFix p m c cX11_isDay 1 s args wsX11_isDay RX11 := F
  obtain ⟨hx, hb, hml, hown, hts⟩ := id F
  have hl : lv_has ls 1 [(0, .int x1)] := hl
  unfold mm_isDay at hf
  refine lv_iload_n hx hb dX11_isDay_0 rfl (lv_at hl 0 rfl) ?_
  refine lv_iconst (v := 0) hx hb dX11_isDay_1 (by decide) ?_
  refine lv_bipush (v := 7) hx hb dX11_isDay_2 (by decide) ?_
  obtain ⟨r2, h1, hf⟩ := g_b1 hf
  refine g_sI F (As := [.int x1, .int 0, .int 7]) (rest := []) (cmm_within h1) (va_cwS 3 hts gX11_isDay_X11_within rfl rfl rfl (by decide +kernel) ⟨Nat.le_of_ble_eq_true rfl, Nat.le_of_ble_eq_true rfl⟩) hw rfl hl.1 rfl (Nat.le_of_ble_eq_true rfl) dX11_isDay_4 (fun H locs hw => ?_)
  exact hret r2 _ _ _ _ _ (Option.some.inj hf) rfl hw dX11_isDay_7

abbrev rm_mm_digit : Room := { frames := 1, cells := 0, slots := 0, locals := 22 }
set_option maxHeartbeats 4000000 in
set_option maxRecDepth 100000 in
theorem cmm_digit {l : Launch} {D : va_G} {ty : gT} {A : Nat → Prop} {ad : Nat → Nat} {wr : va_W} {x1 : Int32} {x2 : Int32} {x3 : Int32} {σ : gS} {r : Int32} {σ' : gS} (hf : mm_digit σ x1 x2 x3 = some (r, σ')) : gI l D ty A yX11_digit wsX11_digit rm_mm_digit [.ref (ad 0), .int x1, .int x2, .int x3] (mw ty ad σ wr) r (mw ty ad σ' wr) := by
  refine gI_enter (cc := cX11_digit) (maxL := 4) (by decide) rfl (Nat.le_of_ble_eq_true rfl) ?_
  intro p e s m args below meth c Q ls F hl hw hret
  have F : CallFix p m c cX11_digit 4 s args wsX11_digit RX11 := F
  obtain ⟨hx, hb, hml, hown, hts⟩ := id F
  have hl : lv_has ls 4 [(0, .ref (ad 0)), (1, .int x1), (2, .int x2), (3, .int x3)] := hl
  have hin : ∀ w ∈ wsX110, w ∈ wsX11_digit := by first | exact fun w h => List.mem_cons_of_mem _ (List.mem_append_right _ h) | decide +kernel
  have kf16 := hts (.fieldLink RX11 16 "GossipGateModel" "cells" "[I") (by decide +kernel)
  have kf89 := hts (.fieldLink RX11 89 "GossipGateModel" "at" "I") (by decide +kernel)
  unfold mm_digit at hf
  refine lv_aload_n hx hb dX11_digit_0 rfl (lv_at hl 0 rfl) ?_
  refine mw_get_15 F hin hw kf89 dX11_digit_1 ?_
  refine lv_iload_n hx hb dX11_digit_4 rfl (lv_at hl 1 rfl) ?_
  refine lv_icmp_ge (tgt := 31) hx hb dX11_digit_5 (by decide) (fun c1 => ?_) (fun c1 => ?_)
  · have hf := g_t c1 hf
    refine lv_bipush (v := (-9)) hx hb dX11_digit_31 (by decide) ?_
    exact hret (-9) _ _ _ _ _ (g_i1 hf) (congrArg (fun t => mw ty ad t wr) (g_i2 hf)) hw dX11_digit_33
  · have hf := g_f c1 hf
    refine lv_aload_n hx hb dX11_digit_8 rfl (lv_at hl 0 rfl) ?_
    refine mw_get_4 F hin hw kf16 dX11_digit_9 ?_
    refine lv_aload_n hx hb dX11_digit_12 rfl (lv_at hl 0 rfl) ?_
    refine mw_get_15 F hin hw kf89 dX11_digit_13 ?_
    obtain ⟨g2, hf⟩ := g_g hf
    refine mw_ld_4 F hw g2 dX11_digit_16 ?_
    refine lv_bipush (v := 48) hx hb dX11_digit_17 (by decide) ?_
    refine lv_iload_n hx hb dX11_digit_19 rfl (lv_at hl 2 rfl) ?_
    refine lv_iadd hx hb dX11_digit_20 ?_
    refine lv_bipush (v := 48) hx hb dX11_digit_21 (by decide) ?_
    refine lv_iload_n hx hb dX11_digit_23 rfl (lv_at hl 3 rfl) ?_
    refine lv_iadd hx hb dX11_digit_24 ?_
    obtain ⟨r4, h3, hf⟩ := g_b1 hf
    refine g_sI F (As := [.int (σ.2 4 ((σ.1 15).toNatClampNeg)), .int ((48 : Int32) + x2), .int ((48 : Int32) + x3)]) (rest := []) (cmm_within h3) (va_cwS 3 hts gX11_digit_X11_within rfl rfl rfl (by decide +kernel) ⟨Nat.le_of_ble_eq_true rfl, Nat.le_of_ble_eq_true rfl⟩) hw rfl hl.1 rfl (Nat.le_of_ble_eq_true rfl) dX11_digit_25 (fun H locs hw => ?_)
    refine lv_if_ne (tgt := 34) hx hb dX11_digit_28 (by decide) (fun c5 => ?_) (fun c5 => ?_)
    · have hf := g_t (bI_nz c5) hf
      refine lv_aload_n hx hb dX11_digit_34 rfl (lv_at hl 0 rfl) ?_
      refine lv_dup hx hb dX11_digit_35 rfl ?_
      refine mw_get_15 F hin hw kf89 dX11_digit_36 ?_
      refine lv_iconst (v := 1) hx hb dX11_digit_39 (by decide) ?_
      refine lv_iadd hx hb dX11_digit_40 ?_
      refine mw_put_15 F hin hw kf89 dX11_digit_41 (fun H locs hw => ?_)
      obtain ⟨σ6, eσ6, hf⟩ := g_let hf
      have hw := mw_re eσ6 hw
      refine lv_aload_n hx hb dX11_digit_44 rfl (lv_at hl 0 rfl) ?_
      refine mw_get_4 F hin hw kf16 dX11_digit_45 ?_
      refine lv_aload_n hx hb dX11_digit_48 rfl (lv_at hl 0 rfl) ?_
      refine mw_get_15 F hin hw kf89 dX11_digit_49 ?_
      refine lv_iconst (v := 1) hx hb dX11_digit_52 (by decide) ?_
      refine lv_isub hx hb dX11_digit_53 ?_
      obtain ⟨g7, hf⟩ := g_g hf
      refine mw_ld_4 F hw g7 dX11_digit_54 ?_
      refine lv_bipush (v := 48) hx hb dX11_digit_55 (by decide) ?_
      refine lv_isub hx hb dX11_digit_57 ?_
      exact hret ((σ6.2 4 (((σ6.1 15) - 1).toNatClampNeg)) - 48) _ _ _ _ _ (g_i1 hf) (congrArg (fun t => mw ty ad t wr) (g_i2 hf)) hw dX11_digit_58
    · have hf := g_f (bI_z c5) hf
      refine lv_bipush (v := (-9)) hx hb dX11_digit_31 (by decide) ?_
      exact hret (-9) _ _ _ _ _ (g_i1 hf) (congrArg (fun t => mw ty ad t wr) (g_i2 hf)) hw dX11_digit_33

abbrev rm_mm_isSign : Room := { frames := 0, cells := 0, slots := 0, locals := 0 }
set_option maxHeartbeats 4000000 in
set_option maxRecDepth 100000 in
theorem cmm_isSign {l : Launch} {D : va_G} {ty : gT} {A : Nat → Prop} {ad : Nat → Nat} {wr : va_W} {x1 : Int32} {x2 : Int32} {σ : gS} {r : Bool} {σ' : gS} (hf : mm_isSign σ x1 x2 = some (r, σ')) : gI l D ty A yX11_isSign wsX11_isSign rm_mm_isSign [.ref (ad 0), .int x1, .int x2] (mw ty ad σ wr) (bI r) (mw ty ad σ' wr) := by
  refine gZ_enter (cc := cX11_isSign) (maxL := 3) (by decide) rfl (Nat.le_of_ble_eq_true rfl) ?_
  intro p e s m args below meth c Q ls F hl hw hret
  have F : CallFix p m c cX11_isSign 3 s args wsX11_isSign RX11 := F
  obtain ⟨hx, hb, hml, hown, hts⟩ := id F
  have hl : lv_has ls 3 [(0, .ref (ad 0)), (1, .int x1), (2, .int x2)] := hl
  have hin : ∀ w ∈ wsX110, w ∈ wsX11_isSign := by first | exact fun w h => List.mem_cons_of_mem _ (List.mem_append_right _ h) | decide +kernel
  have kf16 := hts (.fieldLink RX11 16 "GossipGateModel" "cells" "[I") (by decide +kernel)
  have kf89 := hts (.fieldLink RX11 89 "GossipGateModel" "at" "I") (by decide +kernel)
  unfold mm_isSign at hf
  refine lv_aload_n hx hb dX11_isSign_0 rfl (lv_at hl 0 rfl) ?_
  refine mw_get_15 F hin hw kf89 dX11_isSign_1 ?_
  refine lv_iload_n hx hb dX11_isSign_4 rfl (lv_at hl 1 rfl) ?_
  refine lv_icmp_ge (tgt := 21) hx hb dX11_isSign_5 (by decide) (fun c1 => ?_) (fun c1 => ?_)
  · have hf := g_t c1 hf
    refine lv_iconst (v := 0) hx hb dX11_isSign_21 (by decide) ?_
    exact hret false _ _ _ _ _ (g_i1 hf) (congrArg (fun t => mw ty ad t wr) (g_i2 hf)) hw dX11_isSign_22
  · have hf := g_f c1 hf
    refine lv_aload_n hx hb dX11_isSign_8 rfl (lv_at hl 0 rfl) ?_
    refine mw_get_4 F hin hw kf16 dX11_isSign_9 ?_
    refine lv_aload_n hx hb dX11_isSign_12 rfl (lv_at hl 0 rfl) ?_
    refine mw_get_15 F hin hw kf89 dX11_isSign_13 ?_
    obtain ⟨g2, hf⟩ := g_g hf
    refine mw_ld_4 F hw g2 dX11_isSign_16 ?_
    refine lv_iload_n hx hb dX11_isSign_17 rfl (lv_at hl 2 rfl) ?_
    refine lv_icmp_eq (tgt := 23) hx hb dX11_isSign_18 (by decide) (fun c3 => ?_) (fun c3 => ?_)
    · have hf := g_t c3 hf
      refine lv_aload_n hx hb dX11_isSign_23 rfl (lv_at hl 0 rfl) ?_
      refine lv_dup hx hb dX11_isSign_24 rfl ?_
      refine mw_get_15 F hin hw kf89 dX11_isSign_25 ?_
      refine lv_iconst (v := 1) hx hb dX11_isSign_28 (by decide) ?_
      refine lv_iadd hx hb dX11_isSign_29 ?_
      refine mw_put_15 F hin hw kf89 dX11_isSign_30 (fun H locs hw => ?_)
      obtain ⟨σ4, eσ4, hf⟩ := g_let hf
      have hw := mw_re eσ4 hw
      refine lv_iconst (v := 1) hx hb dX11_isSign_33 (by decide) ?_
      exact hret true _ _ _ _ _ (g_i1 hf) (congrArg (fun t => mw ty ad t wr) (g_i2 hf)) hw dX11_isSign_34
    · have hf := g_f c3 hf
      refine lv_iconst (v := 0) hx hb dX11_isSign_21 (by decide) ?_
      exact hret false _ _ _ _ _ (g_i1 hf) (congrArg (fun t => mw ty ad t wr) (g_i2 hf)) hw dX11_isSign_22

abbrev rm_mm_readOneGate : Room := { frames := 2, cells := 0, slots := 0, locals := 45 }
set_option maxHeartbeats 4000000 in
set_option maxRecDepth 100000 in
theorem cmm_readOneGate {l : Launch} {D : va_G} {ty : gT} {A : Nat → Prop} {ad : Nat → Nat} {wr : va_W} {x1 : Int32} {σ : gS} {r : Bool} {σ' : gS} (hf : mm_readOneGate σ x1 = some (r, σ')) : gI l D ty A yX11_readOneGate wsX11_readOneGate rm_mm_readOneGate [.ref (ad 0), .int x1] (mw ty ad σ wr) (bI r) (mw ty ad σ' wr) := by
  refine gZ_enter (cc := cX11_readOneGate) (maxL := 4) (by decide) rfl (Nat.le_of_ble_eq_true rfl) ?_
  intro p e s m args below meth c Q ls F hl hw hret
  have F : CallFix p m c cX11_readOneGate 4 s args wsX11_readOneGate RX11 := F
  obtain ⟨hx, hb, hml, hown, hts⟩ := id F
  have hl : lv_has ls 4 [(0, .ref (ad 0)), (1, .int x1)] := hl
  have hin : ∀ w ∈ wsX110, w ∈ wsX11_readOneGate := by first | exact fun w h => List.mem_cons_of_mem _ (List.mem_append_right _ h) | decide +kernel
  have kf110 := hts (.fieldLink RX11 110 "GossipGateModel" "readGates" "I") (by decide +kernel)
  have kf16 := hts (.fieldLink RX11 16 "GossipGateModel" "cells" "[I") (by decide +kernel)
  have kf41 := hts (.fieldLink RX11 41 "GossipGateModel" "readGate" "[I") (by decide +kernel)
  have kf89 := hts (.fieldLink RX11 89 "GossipGateModel" "at" "I") (by decide +kernel)
  have B66 : ∀ (v1 : Int32) (v2 : Int32) (s1 : Int32) (s2 : Int32) (σ : gS) (H : Heap) (locs : List Loc) (ls : Array Slot), lv_has ls 4 [(0, .ref (ad 0)), (1, .int v1), (2, .int v2)] → gW D ty A (mw ty ad σ wr) s s.heap H locs → mm_readOneGate_b66 v1 v2 s1 s2 σ = some (r, σ') → W p l e rm_mm_readOneGate s m args below meth c H locs 0 0 Q (F0 m 66 ls [.int s2, .int s1, .ref (ad 19)]) := by
    intro v1 v2 s1 s2 σ H locs ls hl hw hf
    unfold mm_readOneGate_b66 at hf
    obtain ⟨g1, hf⟩ := g_g hf
    refine mw_st_18 F hw g1 dX11_readOneGate_66 (fun H locs hw => ?_)
    obtain ⟨σ2, eσ2, hf⟩ := g_let hf
    have hw := mw_re eσ2 hw
    refine lv_aload_n hx hb dX11_readOneGate_67 rfl (lv_at hl 0 rfl) ?_
    refine mw_get_18 F hin hw kf41 dX11_readOneGate_68 ?_
    refine lv_iload_n hx hb dX11_readOneGate_71 rfl (lv_at hl 2 rfl) ?_
    obtain ⟨g3, hf⟩ := g_g hf
    refine mw_ld_18 F hw g3 dX11_readOneGate_72 ?_
    refine lv_bipush (v := (-9)) hx hb dX11_readOneGate_73 (by decide) ?_
    refine lv_icmp_ne (tgt := 80) hx hb dX11_readOneGate_75 (by decide) (fun c4 => ?_) (fun c4 => ?_)
    · have hf := g_f c4 hf
      refine lv_aload_n hx hb dX11_readOneGate_80 rfl (lv_at hl 0 rfl) ?_
      refine lv_dup hx hb dX11_readOneGate_81 rfl ?_
      refine mw_get_15 F hin hw kf89 dX11_readOneGate_82 ?_
      refine lv_iconst (v := 1) hx hb dX11_readOneGate_85 (by decide) ?_
      refine lv_iadd hx hb dX11_readOneGate_86 ?_
      refine mw_put_15 F hin hw kf89 dX11_readOneGate_87 (fun H locs hw => ?_)
      obtain ⟨σ5, eσ5, hf⟩ := g_let hf
      have hw := mw_re eσ5 hw
      refine lv_aload_n hx hb dX11_readOneGate_90 rfl (lv_at hl 0 rfl) ?_
      refine mw_get_18 F hin hw kf41 dX11_readOneGate_91 ?_
      refine lv_iload_n hx hb dX11_readOneGate_94 rfl (lv_at hl 2 rfl) ?_
      refine lv_iconst (v := 1) hx hb dX11_readOneGate_95 (by decide) ?_
      refine lv_iadd hx hb dX11_readOneGate_96 ?_
      refine lv_aload_n hx hb dX11_readOneGate_97 rfl (lv_at hl 0 rfl) ?_
      refine lv_iload_n hx hb dX11_readOneGate_98 rfl (lv_at hl 1 rfl) ?_
      refine lv_iconst (v := 1) hx hb dX11_readOneGate_99 (by decide) ?_
      refine lv_bipush (v := 9) hx hb dX11_readOneGate_100 (by decide) ?_
      obtain ⟨r7, σ8, h6, hf⟩ := g_b2 hf
      refine g_cI F (As := [.int v1, .int 1, .int 9]) (rest := [.int (v2 + 1), .ref (ad 19)]) (cmm_digit h6) (cwV 3 hts gX11_readOneGate_X11_digit rfl rfl rfl (by decide +kernel) ⟨Nat.le_of_ble_eq_true rfl, Nat.le_of_ble_eq_true rfl⟩) hw (hw.recv (ci := 11) (q0 := 0) rfl rfl rfl) rfl hl.1 rfl (Nat.le_of_ble_eq_true rfl) dX11_readOneGate_102 (fun H locs hw => ?_)
      obtain ⟨g9, hf⟩ := g_g hf
      refine mw_st_18 F hw g9 dX11_readOneGate_105 (fun H locs hw => ?_)
      obtain ⟨σ10, eσ10, hf⟩ := g_let hf
      have hw := mw_re eσ10 hw
      refine lv_aload_n hx hb dX11_readOneGate_106 rfl (lv_at hl 0 rfl) ?_
      refine mw_get_18 F hin hw kf41 dX11_readOneGate_107 ?_
      refine lv_iload_n hx hb dX11_readOneGate_110 rfl (lv_at hl 2 rfl) ?_
      refine lv_iconst (v := 1) hx hb dX11_readOneGate_111 (by decide) ?_
      refine lv_iadd hx hb dX11_readOneGate_112 ?_
      refine mw_ld_18 F hw g9 dX11_readOneGate_113 ?_
      refine lv_bipush (v := (-9)) hx hb dX11_readOneGate_114 (by decide) ?_
      refine lv_icmp_ne (tgt := 121) hx hb dX11_readOneGate_116 (by decide) (fun c11 => ?_) (fun c11 => ?_)
      · have hf := g_f c11 hf
        refine lv_aload_n hx hb dX11_readOneGate_121 rfl (lv_at hl 0 rfl) ?_
        refine mw_get_18 F hin hw kf41 dX11_readOneGate_122 ?_
        refine lv_iload_n hx hb dX11_readOneGate_125 rfl (lv_at hl 2 rfl) ?_
        refine lv_iconst (v := 2) hx hb dX11_readOneGate_126 (by decide) ?_
        refine lv_iadd hx hb dX11_readOneGate_127 ?_
        refine lv_aload_n hx hb dX11_readOneGate_128 rfl (lv_at hl 0 rfl) ?_
        refine lv_iload_n hx hb dX11_readOneGate_129 rfl (lv_at hl 1 rfl) ?_
        refine lv_iconst (v := 0) hx hb dX11_readOneGate_130 (by decide) ?_
        refine lv_bipush (v := 6) hx hb dX11_readOneGate_131 (by decide) ?_
        obtain ⟨r13, σ14, h12, hf⟩ := g_b2 hf
        refine g_cI F (As := [.int v1, .int 0, .int 6]) (rest := [.int (v2 + 2), .ref (ad 19)]) (cmm_digit h12) (cwV 3 hts gX11_readOneGate_X11_digit rfl rfl rfl (by decide +kernel) ⟨Nat.le_of_ble_eq_true rfl, Nat.le_of_ble_eq_true rfl⟩) hw (hw.recv (ci := 11) (q0 := 0) rfl rfl rfl) rfl hl.1 rfl (Nat.le_of_ble_eq_true rfl) dX11_readOneGate_133 (fun H locs hw => ?_)
        obtain ⟨g15, hf⟩ := g_g hf
        refine mw_st_18 F hw g15 dX11_readOneGate_136 (fun H locs hw => ?_)
        obtain ⟨σ16, eσ16, hf⟩ := g_let hf
        have hw := mw_re eσ16 hw
        refine lv_aload_n hx hb dX11_readOneGate_137 rfl (lv_at hl 0 rfl) ?_
        refine lv_dup hx hb dX11_readOneGate_138 rfl ?_
        refine mw_get_16 F hin hw kf110 dX11_readOneGate_139 ?_
        refine lv_iconst (v := 1) hx hb dX11_readOneGate_142 (by decide) ?_
        refine lv_iadd hx hb dX11_readOneGate_143 ?_
        refine mw_put_16 F hin hw kf110 dX11_readOneGate_144 (fun H locs hw => ?_)
        obtain ⟨σ17, eσ17, hf⟩ := g_let hf
        have hw := mw_re eσ17 hw
        refine lv_aload_n hx hb dX11_readOneGate_147 rfl (lv_at hl 0 rfl) ?_
        refine mw_get_18 F hin hw kf41 dX11_readOneGate_148 ?_
        refine lv_iload_n hx hb dX11_readOneGate_151 rfl (lv_at hl 2 rfl) ?_
        refine lv_iconst (v := 2) hx hb dX11_readOneGate_152 (by decide) ?_
        refine lv_iadd hx hb dX11_readOneGate_153 ?_
        refine mw_ld_18 F hw g15 dX11_readOneGate_154 ?_
        refine lv_bipush (v := (-9)) hx hb dX11_readOneGate_155 (by decide) ?_
        refine lv_icmp_eq (tgt := 164) hx hb dX11_readOneGate_157 (by decide) (fun c18 => ?_) (fun c18 => ?_)
        · have hf := g_t c18 hf
          refine lv_iconst (v := 0) hx hb dX11_readOneGate_164 (by decide) ?_
          exact hret false _ _ _ _ _ (g_i1 hf) (congrArg (fun t => mw ty ad t wr) (g_i2 hf)) hw dX11_readOneGate_165
        · have hf := g_f c18 hf
          refine lv_iconst (v := 1) hx hb dX11_readOneGate_160 (by decide) ?_
          refine lv_goto (tgt := 165) hx hb dX11_readOneGate_161 (by decide) ?_
          exact hret true _ _ _ _ _ (g_i1 hf) (congrArg (fun t => mw ty ad t wr) (g_i2 hf)) hw dX11_readOneGate_165
      · have hf := g_t c11 hf
        refine lv_iconst (v := 0) hx hb dX11_readOneGate_119 (by decide) ?_
        exact hret false _ _ _ _ _ (g_i1 hf) (congrArg (fun t => mw ty ad t wr) (g_i2 hf)) hw dX11_readOneGate_120
    · have hf := g_t c4 hf
      refine lv_iconst (v := 0) hx hb dX11_readOneGate_78 (by decide) ?_
      exact hret false _ _ _ _ _ (g_i1 hf) (congrArg (fun t => mw ty ad t wr) (g_i2 hf)) hw dX11_readOneGate_79
  have B28 : ∀ (v1 : Int32) (v2 : Int32) (s0 : Int32) (σ : gS) (H : Heap) (locs : List Loc) (ls : Array Slot), lv_has ls 4 [(0, .ref (ad 0)), (1, .int v1), (2, .int v2)] → gW D ty A (mw ty ad σ wr) s s.heap H locs → mm_readOneGate_b28 v1 v2 s0 σ = some (r, σ') → W p l e rm_mm_readOneGate s m args below meth c H locs 0 0 Q (F0 m 28 ls [.int s0]) := by
    intro v1 v2 s0 σ H locs ls hl hw hf
    unfold mm_readOneGate_b28 at hf
    refine lv_istore_n (lv' := [(3, .int s0), (0, .ref (ad 0)), (1, .int v1), (2, .int v2)]) hx hb dX11_readOneGate_28 rfl hl (by decide) rfl (fun ls hl => ?_)
    refine lv_aload_n hx hb dX11_readOneGate_29 rfl (lv_at hl 1 rfl) ?_
    refine mw_get_18 F hin hw kf41 dX11_readOneGate_30 ?_
    refine lv_iload_n hx hb dX11_readOneGate_33 rfl (lv_at hl 3 rfl) ?_
    refine lv_iload_n hx hb dX11_readOneGate_34 rfl (lv_at hl 0 rfl) ?_
    refine lv_bipush (v := 103) hx hb dX11_readOneGate_35 (by decide) ?_
    refine lv_icmp_ne (tgt := 44) hx hb dX11_readOneGate_37 (by decide) (fun c19 => ?_) (fun c19 => ?_)
    · have hf := g_f c19 hf
      refine lv_iload_n hx hb dX11_readOneGate_44 rfl (lv_at hl 0 rfl) ?_
      refine lv_bipush (v := 115) hx hb dX11_readOneGate_45 (by decide) ?_
      refine lv_icmp_ne (tgt := 54) hx hb dX11_readOneGate_47 (by decide) (fun c20 => ?_) (fun c20 => ?_)
      · have hf := g_f c20 hf
        refine lv_iload_n hx hb dX11_readOneGate_54 rfl (lv_at hl 0 rfl) ?_
        refine lv_bipush (v := 108) hx hb dX11_readOneGate_55 (by decide) ?_
        refine lv_icmp_ne (tgt := 64) hx hb dX11_readOneGate_57 (by decide) (fun c21 => ?_) (fun c21 => ?_)
        · have hf := g_f c21 hf
          refine lv_bipush (v := (-9)) hx hb dX11_readOneGate_64 (by decide) ?_
          exact B66 v1 v2 v2 (-9) σ _ _ _ (lv_sub hl [1, 2, 3] rfl) hw hf
        · have hf := g_t c21 hf
          refine lv_iconst (v := 2) hx hb dX11_readOneGate_60 (by decide) ?_
          refine lv_goto (tgt := 66) hx hb dX11_readOneGate_61 (by decide) ?_
          exact B66 v1 v2 v2 2 σ _ _ _ (lv_sub hl [1, 2, 3] rfl) hw hf
      · have hf := g_t c20 hf
        refine lv_iconst (v := 1) hx hb dX11_readOneGate_50 (by decide) ?_
        refine lv_goto (tgt := 66) hx hb dX11_readOneGate_51 (by decide) ?_
        exact B66 v1 v2 v2 1 σ _ _ _ (lv_sub hl [1, 2, 3] rfl) hw hf
    · have hf := g_t c19 hf
      refine lv_iconst (v := 0) hx hb dX11_readOneGate_40 (by decide) ?_
      refine lv_goto (tgt := 66) hx hb dX11_readOneGate_41 (by decide) ?_
      exact B66 v1 v2 v2 0 σ _ _ _ (lv_sub hl [1, 2, 3] rfl) hw hf
  unfold mm_readOneGate at hf
  refine lv_iconst (v := 3) hx hb dX11_readOneGate_0 (by decide) ?_
  refine lv_aload_n hx hb dX11_readOneGate_1 rfl (lv_at hl 0 rfl) ?_
  refine mw_get_16 F hin hw kf110 dX11_readOneGate_2 ?_
  refine lv_imul hx hb dX11_readOneGate_5 ?_
  obtain ⟨y22, ey22, hf⟩ := g_let hf
  refine g_nm ey22 ?_
  refine lv_istore_n (lv' := [(2, .int y22), (0, .ref (ad 0)), (1, .int x1)]) hx hb dX11_readOneGate_6 rfl hl (by decide) rfl (fun ls hl => ?_)
  refine lv_aload_n hx hb dX11_readOneGate_7 rfl (lv_at hl 1 rfl) ?_
  refine mw_get_15 F hin hw kf89 dX11_readOneGate_8 ?_
  refine lv_iload_n hx hb dX11_readOneGate_11 rfl (lv_at hl 2 rfl) ?_
  refine lv_icmp_ge (tgt := 27) hx hb dX11_readOneGate_12 (by decide) (fun c23 => ?_) (fun c23 => ?_)
  · have hf := g_t c23 hf
    refine lv_iconst (v := 0) hx hb dX11_readOneGate_27 (by decide) ?_
    exact B28 x1 y22 0 σ _ _ _ (lv_sub hl [1, 2, 0] rfl) hw hf
  · have hf := g_f c23 hf
    refine lv_aload_n hx hb dX11_readOneGate_15 rfl (lv_at hl 1 rfl) ?_
    refine mw_get_4 F hin hw kf16 dX11_readOneGate_16 ?_
    refine lv_aload_n hx hb dX11_readOneGate_19 rfl (lv_at hl 1 rfl) ?_
    refine mw_get_15 F hin hw kf89 dX11_readOneGate_20 ?_
    obtain ⟨g24, hf⟩ := g_g hf
    refine mw_ld_4 F hw g24 dX11_readOneGate_23 ?_
    refine lv_goto (tgt := 28) hx hb dX11_readOneGate_24 (by decide) ?_
    exact B28 x1 y22 (σ.2 4 ((σ.1 15).toNatClampNeg)) σ _ _ _ (lv_sub hl [1, 2, 0] rfl) hw hf

abbrev rm_mm_readOneStory : Room := { frames := 2, cells := 0, slots := 0, locals := 45 }
set_option maxHeartbeats 4000000 in
set_option maxRecDepth 100000 in
theorem cmm_readOneStory {l : Launch} {D : va_G} {ty : gT} {A : Nat → Prop} {ad : Nat → Nat} {wr : va_W} {x1 : Int32} {σ : gS} {r : Bool} {σ' : gS} (hf : mm_readOneStory σ x1 = some (r, σ')) : gI l D ty A yX11_readOneStory wsX11_readOneStory rm_mm_readOneStory [.ref (ad 0), .int x1] (mw ty ad σ wr) (bI r) (mw ty ad σ' wr) := by
  refine gZ_enter (cc := cX11_readOneStory) (maxL := 3) (by decide) rfl (Nat.le_of_ble_eq_true rfl) ?_
  intro p e s m args below meth c Q ls F hl hw hret
  have F : CallFix p m c cX11_readOneStory 3 s args wsX11_readOneStory RX11 := F
  obtain ⟨hx, hb, hml, hown, hts⟩ := id F
  have hl : lv_has ls 3 [(0, .ref (ad 0)), (1, .int x1)] := hl
  have hin : ∀ w ∈ wsX110, w ∈ wsX11_readOneStory := by first | exact fun w h => List.mem_cons_of_mem _ (List.mem_append_right _ h) | decide +kernel
  have kf113 := hts (.fieldLink RX11 113 "GossipGateModel" "readStories" "I") (by decide +kernel)
  have kf44 := hts (.fieldLink RX11 44 "GossipGateModel" "readStory" "[I") (by decide +kernel)
  unfold mm_readOneStory at hf
  refine lv_iconst (v := 3) hx hb dX11_readOneStory_0 (by decide) ?_
  refine lv_aload_n hx hb dX11_readOneStory_1 rfl (lv_at hl 0 rfl) ?_
  refine mw_get_17 F hin hw kf113 dX11_readOneStory_2 ?_
  refine lv_imul hx hb dX11_readOneStory_5 ?_
  obtain ⟨y1, ey1, hf⟩ := g_let hf
  refine g_nm ey1 ?_
  refine lv_istore_n (lv' := [(2, .int y1), (0, .ref (ad 0)), (1, .int x1)]) hx hb dX11_readOneStory_6 rfl hl (by decide) rfl (fun ls hl => ?_)
  refine lv_aload_n hx hb dX11_readOneStory_7 rfl (lv_at hl 1 rfl) ?_
  refine mw_get_19 F hin hw kf44 dX11_readOneStory_8 ?_
  refine lv_iload_n hx hb dX11_readOneStory_11 rfl (lv_at hl 0 rfl) ?_
  refine lv_aload_n hx hb dX11_readOneStory_12 rfl (lv_at hl 1 rfl) ?_
  refine lv_iload_n hx hb dX11_readOneStory_13 rfl (lv_at hl 2 rfl) ?_
  refine lv_iconst (v := 1) hx hb dX11_readOneStory_14 (by decide) ?_
  refine lv_bipush (v := 9) hx hb dX11_readOneStory_15 (by decide) ?_
  obtain ⟨r3, σ4, h2, hf⟩ := g_b2 hf
  refine g_cI F (As := [.int x1, .int 1, .int 9]) (rest := [.int y1, .ref (ad 20)]) (cmm_digit h2) (cwV 3 hts gX11_readOneStory_X11_digit rfl rfl rfl (by decide +kernel) ⟨Nat.le_of_ble_eq_true rfl, Nat.le_of_ble_eq_true rfl⟩) hw (hw.recv (ci := 11) (q0 := 0) rfl rfl rfl) rfl hl.1 rfl (Nat.le_of_ble_eq_true rfl) dX11_readOneStory_17 (fun H locs hw => ?_)
  obtain ⟨g5, hf⟩ := g_g hf
  refine mw_st_19 F hw g5 dX11_readOneStory_20 (fun H locs hw => ?_)
  obtain ⟨σ6, eσ6, hf⟩ := g_let hf
  have hw := mw_re eσ6 hw
  refine lv_aload_n hx hb dX11_readOneStory_21 rfl (lv_at hl 1 rfl) ?_
  refine mw_get_19 F hin hw kf44 dX11_readOneStory_22 ?_
  refine lv_iload_n hx hb dX11_readOneStory_25 rfl (lv_at hl 0 rfl) ?_
  refine mw_ld_19 F hw g5 dX11_readOneStory_26 ?_
  refine lv_bipush (v := (-9)) hx hb dX11_readOneStory_27 (by decide) ?_
  refine lv_icmp_ne (tgt := 34) hx hb dX11_readOneStory_29 (by decide) (fun c7 => ?_) (fun c7 => ?_)
  · have hf := g_f c7 hf
    refine lv_aload_n hx hb dX11_readOneStory_34 rfl (lv_at hl 1 rfl) ?_
    refine mw_get_19 F hin hw kf44 dX11_readOneStory_35 ?_
    refine lv_iload_n hx hb dX11_readOneStory_38 rfl (lv_at hl 0 rfl) ?_
    refine lv_iconst (v := 1) hx hb dX11_readOneStory_39 (by decide) ?_
    refine lv_iadd hx hb dX11_readOneStory_40 ?_
    refine lv_aload_n hx hb dX11_readOneStory_41 rfl (lv_at hl 1 rfl) ?_
    refine lv_iload_n hx hb dX11_readOneStory_42 rfl (lv_at hl 2 rfl) ?_
    refine lv_iconst (v := 0) hx hb dX11_readOneStory_43 (by decide) ?_
    refine lv_iconst (v := 5) hx hb dX11_readOneStory_44 (by decide) ?_
    obtain ⟨r9, σ10, h8, hf⟩ := g_b2 hf
    refine g_cI F (As := [.int x1, .int 0, .int 5]) (rest := [.int (y1 + 1), .ref (ad 20)]) (cmm_digit h8) (cwV 3 hts gX11_readOneStory_X11_digit rfl rfl rfl (by decide +kernel) ⟨Nat.le_of_ble_eq_true rfl, Nat.le_of_ble_eq_true rfl⟩) hw (hw.recv (ci := 11) (q0 := 0) rfl rfl rfl) rfl hl.1 rfl (Nat.le_of_ble_eq_true rfl) dX11_readOneStory_45 (fun H locs hw => ?_)
    obtain ⟨g11, hf⟩ := g_g hf
    refine mw_st_19 F hw g11 dX11_readOneStory_48 (fun H locs hw => ?_)
    obtain ⟨σ12, eσ12, hf⟩ := g_let hf
    have hw := mw_re eσ12 hw
    refine lv_aload_n hx hb dX11_readOneStory_49 rfl (lv_at hl 1 rfl) ?_
    refine mw_get_19 F hin hw kf44 dX11_readOneStory_50 ?_
    refine lv_iload_n hx hb dX11_readOneStory_53 rfl (lv_at hl 0 rfl) ?_
    refine lv_iconst (v := 1) hx hb dX11_readOneStory_54 (by decide) ?_
    refine lv_iadd hx hb dX11_readOneStory_55 ?_
    refine mw_ld_19 F hw g11 dX11_readOneStory_56 ?_
    refine lv_bipush (v := (-9)) hx hb dX11_readOneStory_57 (by decide) ?_
    refine lv_icmp_ne (tgt := 64) hx hb dX11_readOneStory_59 (by decide) (fun c13 => ?_) (fun c13 => ?_)
    · have hf := g_f c13 hf
      refine lv_aload_n hx hb dX11_readOneStory_64 rfl (lv_at hl 1 rfl) ?_
      refine mw_get_19 F hin hw kf44 dX11_readOneStory_65 ?_
      refine lv_iload_n hx hb dX11_readOneStory_68 rfl (lv_at hl 0 rfl) ?_
      refine lv_iconst (v := 2) hx hb dX11_readOneStory_69 (by decide) ?_
      refine lv_iadd hx hb dX11_readOneStory_70 ?_
      refine lv_aload_n hx hb dX11_readOneStory_71 rfl (lv_at hl 1 rfl) ?_
      refine lv_iload_n hx hb dX11_readOneStory_72 rfl (lv_at hl 2 rfl) ?_
      refine lv_iconst (v := 0) hx hb dX11_readOneStory_73 (by decide) ?_
      refine lv_bipush (v := 6) hx hb dX11_readOneStory_74 (by decide) ?_
      obtain ⟨r15, σ16, h14, hf⟩ := g_b2 hf
      refine g_cI F (As := [.int x1, .int 0, .int 6]) (rest := [.int (y1 + 2), .ref (ad 20)]) (cmm_digit h14) (cwV 3 hts gX11_readOneStory_X11_digit rfl rfl rfl (by decide +kernel) ⟨Nat.le_of_ble_eq_true rfl, Nat.le_of_ble_eq_true rfl⟩) hw (hw.recv (ci := 11) (q0 := 0) rfl rfl rfl) rfl hl.1 rfl (Nat.le_of_ble_eq_true rfl) dX11_readOneStory_76 (fun H locs hw => ?_)
      obtain ⟨g17, hf⟩ := g_g hf
      refine mw_st_19 F hw g17 dX11_readOneStory_79 (fun H locs hw => ?_)
      obtain ⟨σ18, eσ18, hf⟩ := g_let hf
      have hw := mw_re eσ18 hw
      refine lv_aload_n hx hb dX11_readOneStory_80 rfl (lv_at hl 1 rfl) ?_
      refine lv_dup hx hb dX11_readOneStory_81 rfl ?_
      refine mw_get_17 F hin hw kf113 dX11_readOneStory_82 ?_
      refine lv_iconst (v := 1) hx hb dX11_readOneStory_85 (by decide) ?_
      refine lv_iadd hx hb dX11_readOneStory_86 ?_
      refine mw_put_17 F hin hw kf113 dX11_readOneStory_87 (fun H locs hw => ?_)
      obtain ⟨σ19, eσ19, hf⟩ := g_let hf
      have hw := mw_re eσ19 hw
      refine lv_aload_n hx hb dX11_readOneStory_90 rfl (lv_at hl 1 rfl) ?_
      refine mw_get_19 F hin hw kf44 dX11_readOneStory_91 ?_
      refine lv_iload_n hx hb dX11_readOneStory_94 rfl (lv_at hl 0 rfl) ?_
      refine lv_iconst (v := 2) hx hb dX11_readOneStory_95 (by decide) ?_
      refine lv_iadd hx hb dX11_readOneStory_96 ?_
      refine mw_ld_19 F hw g17 dX11_readOneStory_97 ?_
      refine lv_bipush (v := (-9)) hx hb dX11_readOneStory_98 (by decide) ?_
      refine lv_icmp_eq (tgt := 107) hx hb dX11_readOneStory_100 (by decide) (fun c20 => ?_) (fun c20 => ?_)
      · have hf := g_t c20 hf
        refine lv_iconst (v := 0) hx hb dX11_readOneStory_107 (by decide) ?_
        exact hret false _ _ _ _ _ (g_i1 hf) (congrArg (fun t => mw ty ad t wr) (g_i2 hf)) hw dX11_readOneStory_108
      · have hf := g_f c20 hf
        refine lv_iconst (v := 1) hx hb dX11_readOneStory_103 (by decide) ?_
        refine lv_goto (tgt := 108) hx hb dX11_readOneStory_104 (by decide) ?_
        exact hret true _ _ _ _ _ (g_i1 hf) (congrArg (fun t => mw ty ad t wr) (g_i2 hf)) hw dX11_readOneStory_108
    · have hf := g_t c13 hf
      refine lv_iconst (v := 0) hx hb dX11_readOneStory_62 (by decide) ?_
      exact hret false _ _ _ _ _ (g_i1 hf) (congrArg (fun t => mw ty ad t wr) (g_i2 hf)) hw dX11_readOneStory_63
  · have hf := g_t c7 hf
    refine lv_iconst (v := 0) hx hb dX11_readOneStory_32 (by decide) ?_
    exact hret false _ _ _ _ _ (g_i1 hf) (congrArg (fun t => mw ty ad t wr) (g_i2 hf)) hw dX11_readOneStory_33

abbrev rm_mm_readTown : Room := { frames := 3, cells := 0, slots := 0, locals := 68 }
set_option maxHeartbeats 4000000 in
set_option maxRecDepth 100000 in
theorem cmm_readTown {l : Launch} {D : va_G} {ty : gT} {A : Nat → Prop} {ad : Nat → Nat} {wr : va_W} {x1 : Int32} {σ : gS} {r : Bool} {σ' : gS} (hf : mm_readTown σ x1 = some (r, σ')) : gI l D ty A yX11_readTown wsX11_readTown rm_mm_readTown [.ref (ad 0), .int x1] (mw ty ad σ wr) (bI r) (mw ty ad σ' wr) := by
  refine gZ_enter (cc := cX11_readTown) (maxL := 2) (by decide) rfl (Nat.le_of_ble_eq_true rfl) ?_
  intro p e s m args below meth c Q ls F hl hw hret
  have F : CallFix p m c cX11_readTown 2 s args wsX11_readTown RX11 := F
  obtain ⟨hx, hb, hml, hown, hts⟩ := id F
  have hl : lv_has ls 2 [(0, .ref (ad 0)), (1, .int x1)] := hl
  have hin : ∀ w ∈ wsX110, w ∈ wsX11_readTown := by first | exact fun w h => List.mem_cons_of_mem _ (List.mem_append_right _ h) | decide +kernel
  have kf110 := hts (.fieldLink RX11 110 "GossipGateModel" "readGates" "I") (by decide +kernel)
  have kf113 := hts (.fieldLink RX11 113 "GossipGateModel" "readStories" "I") (by decide +kernel)
  have kf89 := hts (.fieldLink RX11 89 "GossipGateModel" "at" "I") (by decide +kernel)
  have B116 : ∀ (v1 : Int32) (σ : gS) (H : Heap) (locs : List Loc) (ls : Array Slot), lv_has ls 2 [(0, .ref (ad 0)), (1, .int v1)] → gW D ty A (mw ty ad σ wr) s s.heap H locs → mm_readTown_b116 v1 σ = some (r, σ') → W p l e rm_mm_readTown s m args below meth c H locs 0 0 Q (F0 m 116 ls []) := by
    intro v1 σ H locs ls hl hw hf
    unfold mm_readTown_b116 at hf
    refine lv_aload_n hx hb dX11_readTown_116 rfl (lv_at hl 0 rfl) ?_
    refine mw_get_15 F hin hw kf89 dX11_readTown_117 ?_
    refine lv_iload_n hx hb dX11_readTown_120 rfl (lv_at hl 1 rfl) ?_
    refine lv_icmp_ne (tgt := 128) hx hb dX11_readTown_121 (by decide) (fun c1 => ?_) (fun c1 => ?_)
    · have hf := g_f c1 hf
      refine lv_iconst (v := 0) hx hb dX11_readTown_128 (by decide) ?_
      exact hret false _ _ _ _ _ (g_i1 hf) (congrArg (fun t => mw ty ad t wr) (g_i2 hf)) hw dX11_readTown_129
    · have hf := g_t c1 hf
      refine lv_iconst (v := 1) hx hb dX11_readTown_124 (by decide) ?_
      refine lv_goto (tgt := 129) hx hb dX11_readTown_125 (by decide) ?_
      exact hret true _ _ _ _ _ (g_i1 hf) (congrArg (fun t => mw ty ad t wr) (g_i2 hf)) hw dX11_readTown_129
  have B88 : ∀ (n88 : Nat) (v1 : Int32) (σ : gS) (H : Heap) (locs : List Loc) (ls : Array Slot), lv_has ls 2 [(0, .ref (ad 0)), (1, .int v1)] → gW D ty A (mw ty ad σ wr) s s.heap H locs → mm_readTown_b88 n88 v1 σ = some (r, σ') → W p l e rm_mm_readTown s m args below meth c H locs 0 0 Q (F0 m 88 ls []) := by
    intro n88
    induction n88 with
    | zero => intro v1 σ H locs ls hl hw hf; cases hf
    | succ n88 ih88 =>
      intro v1 σ H locs ls hl hw hf
      rw [mm_readTown_b88] at hf
      refine lv_aload_n hx hb dX11_readTown_88 rfl (lv_at hl 0 rfl) ?_
      refine mw_get_17 F hin hw kf113 dX11_readTown_89 ?_
      refine lv_iconst (v := 4) hx hb dX11_readTown_92 (by decide) ?_
      refine lv_icmp_ge (tgt := 116) hx hb dX11_readTown_93 (by decide) (fun c2 => ?_) (fun c2 => ?_)
      · have hf := g_t c2 hf
        exact B116 v1 σ _ _ _ (lv_sub hl [0, 1] rfl) hw hf
      · have hf := g_f c2 hf
        refine lv_aload_n hx hb dX11_readTown_96 rfl (lv_at hl 0 rfl) ?_
        refine lv_iload_n hx hb dX11_readTown_97 rfl (lv_at hl 1 rfl) ?_
        refine lv_bipush (v := 59) hx hb dX11_readTown_98 (by decide) ?_
        obtain ⟨r4, σ5, h3, hf⟩ := g_b2 hf
        refine g_cI F (As := [.int v1, .int 59]) (rest := []) (cmm_isSign h3) (cwV 2 hts gX11_readTown_X11_isSign rfl rfl rfl (by decide +kernel) ⟨Nat.le_of_ble_eq_true rfl, Nat.le_of_ble_eq_true rfl⟩) hw (hw.recv (ci := 11) (q0 := 0) rfl rfl rfl) rfl hl.1 rfl (Nat.le_of_ble_eq_true rfl) dX11_readTown_100 (fun H locs hw => ?_)
        refine lv_if_eq (tgt := 116) hx hb dX11_readTown_103 (by decide) (fun c6 => ?_) (fun c6 => ?_)
        · have hf := g_f (bI_z c6) hf
          exact B116 v1 σ5 _ _ _ (lv_sub hl [0, 1] rfl) hw hf
        · have hf := g_t (bI_nz c6) hf
          refine lv_aload_n hx hb dX11_readTown_106 rfl (lv_at hl 0 rfl) ?_
          refine lv_iload_n hx hb dX11_readTown_107 rfl (lv_at hl 1 rfl) ?_
          obtain ⟨r8, σ9, h7, hf⟩ := g_b2 hf
          refine g_cI F (As := [.int v1]) (rest := []) (cmm_readOneStory h7) (cwV 1 hts gX11_readTown_X11_readOneStory rfl rfl rfl (by decide +kernel) ⟨Nat.le_of_ble_eq_true rfl, Nat.le_of_ble_eq_true rfl⟩) hw (hw.recv (ci := 11) (q0 := 0) rfl rfl rfl) rfl hl.1 rfl (Nat.le_of_ble_eq_true rfl) dX11_readTown_108 (fun H locs hw => ?_)
          refine lv_if_ne (tgt := 88) hx hb dX11_readTown_111 (by decide) (fun c10 => ?_) (fun c10 => ?_)
          · have hf := g_t (bI_nz c10) hf
            exact ih88 v1 σ9 _ _ _ (lv_sub hl [0, 1] rfl) hw hf
          · have hf := g_f (bI_z c10) hf
            refine lv_iconst (v := 0) hx hb dX11_readTown_114 (by decide) ?_
            exact hret false _ _ _ _ _ (g_i1 hf) (congrArg (fun t => mw ty ad t wr) (g_i2 hf)) hw dX11_readTown_115
  have B68 : ∀ (v1 : Int32) (σ : gS) (H : Heap) (locs : List Loc) (ls : Array Slot), lv_has ls 2 [(0, .ref (ad 0)), (1, .int v1)] → gW D ty A (mw ty ad σ wr) s s.heap H locs → mm_readTown_b68 v1 σ = some (r, σ') → W p l e rm_mm_readTown s m args below meth c H locs 0 0 Q (F0 m 68 ls []) := by
    intro v1 σ H locs ls hl hw hf
    unfold mm_readTown_b68 at hf
    refine lv_aload_n hx hb dX11_readTown_68 rfl (lv_at hl 0 rfl) ?_
    refine lv_iload_n hx hb dX11_readTown_69 rfl (lv_at hl 1 rfl) ?_
    refine lv_bipush (v := 59) hx hb dX11_readTown_70 (by decide) ?_
    obtain ⟨r12, σ13, h11, hf⟩ := g_b2 hf
    refine g_cI F (As := [.int v1, .int 59]) (rest := []) (cmm_isSign h11) (cwV 2 hts gX11_readTown_X11_isSign rfl rfl rfl (by decide +kernel) ⟨Nat.le_of_ble_eq_true rfl, Nat.le_of_ble_eq_true rfl⟩) hw (hw.recv (ci := 11) (q0 := 0) rfl rfl rfl) rfl hl.1 rfl (Nat.le_of_ble_eq_true rfl) dX11_readTown_72 (fun H locs hw => ?_)
    refine lv_if_eq (tgt := 86) hx hb dX11_readTown_75 (by decide) (fun c14 => ?_) (fun c14 => ?_)
    · have hf := g_f (bI_z c14) hf
      refine lv_iconst (v := 0) hx hb dX11_readTown_86 (by decide) ?_
      exact hret false _ _ _ _ _ (g_i1 hf) (congrArg (fun t => mw ty ad t wr) (g_i2 hf)) hw dX11_readTown_87
    · have hf := g_t (bI_nz c14) hf
      refine lv_aload_n hx hb dX11_readTown_78 rfl (lv_at hl 0 rfl) ?_
      refine lv_iload_n hx hb dX11_readTown_79 rfl (lv_at hl 1 rfl) ?_
      obtain ⟨r16, σ17, h15, hf⟩ := g_b2 hf
      refine g_cI F (As := [.int v1]) (rest := []) (cmm_readOneStory h15) (cwV 1 hts gX11_readTown_X11_readOneStory rfl rfl rfl (by decide +kernel) ⟨Nat.le_of_ble_eq_true rfl, Nat.le_of_ble_eq_true rfl⟩) hw (hw.recv (ci := 11) (q0 := 0) rfl rfl rfl) rfl hl.1 rfl (Nat.le_of_ble_eq_true rfl) dX11_readTown_80 (fun H locs hw => ?_)
      refine lv_if_ne (tgt := 88) hx hb dX11_readTown_83 (by decide) (fun c18 => ?_) (fun c18 => ?_)
      · have hf := g_t (bI_nz c18) hf
        exact B88 1000 v1 σ17 _ _ _ (lv_sub hl [0, 1] rfl) hw hf
      · have hf := g_f (bI_z c18) hf
        refine lv_iconst (v := 0) hx hb dX11_readTown_86 (by decide) ?_
        exact hret false _ _ _ _ _ (g_i1 hf) (congrArg (fun t => mw ty ad t wr) (g_i2 hf)) hw dX11_readTown_87
  have B40 : ∀ (n40 : Nat) (v1 : Int32) (σ : gS) (H : Heap) (locs : List Loc) (ls : Array Slot), lv_has ls 2 [(0, .ref (ad 0)), (1, .int v1)] → gW D ty A (mw ty ad σ wr) s s.heap H locs → mm_readTown_b40 n40 v1 σ = some (r, σ') → W p l e rm_mm_readTown s m args below meth c H locs 0 0 Q (F0 m 40 ls []) := by
    intro n40
    induction n40 with
    | zero => intro v1 σ H locs ls hl hw hf; cases hf
    | succ n40 ih40 =>
      intro v1 σ H locs ls hl hw hf
      rw [mm_readTown_b40] at hf
      refine lv_aload_n hx hb dX11_readTown_40 rfl (lv_at hl 0 rfl) ?_
      refine mw_get_16 F hin hw kf110 dX11_readTown_41 ?_
      refine lv_iconst (v := 5) hx hb dX11_readTown_44 (by decide) ?_
      refine lv_icmp_ge (tgt := 68) hx hb dX11_readTown_45 (by decide) (fun c19 => ?_) (fun c19 => ?_)
      · have hf := g_t c19 hf
        exact B68 v1 σ _ _ _ (lv_sub hl [0, 1] rfl) hw hf
      · have hf := g_f c19 hf
        refine lv_aload_n hx hb dX11_readTown_48 rfl (lv_at hl 0 rfl) ?_
        refine lv_iload_n hx hb dX11_readTown_49 rfl (lv_at hl 1 rfl) ?_
        refine lv_bipush (v := 44) hx hb dX11_readTown_50 (by decide) ?_
        obtain ⟨r21, σ22, h20, hf⟩ := g_b2 hf
        refine g_cI F (As := [.int v1, .int 44]) (rest := []) (cmm_isSign h20) (cwV 2 hts gX11_readTown_X11_isSign rfl rfl rfl (by decide +kernel) ⟨Nat.le_of_ble_eq_true rfl, Nat.le_of_ble_eq_true rfl⟩) hw (hw.recv (ci := 11) (q0 := 0) rfl rfl rfl) rfl hl.1 rfl (Nat.le_of_ble_eq_true rfl) dX11_readTown_52 (fun H locs hw => ?_)
        refine lv_if_eq (tgt := 68) hx hb dX11_readTown_55 (by decide) (fun c23 => ?_) (fun c23 => ?_)
        · have hf := g_f (bI_z c23) hf
          exact B68 v1 σ22 _ _ _ (lv_sub hl [0, 1] rfl) hw hf
        · have hf := g_t (bI_nz c23) hf
          refine lv_aload_n hx hb dX11_readTown_58 rfl (lv_at hl 0 rfl) ?_
          refine lv_iload_n hx hb dX11_readTown_59 rfl (lv_at hl 1 rfl) ?_
          obtain ⟨r25, σ26, h24, hf⟩ := g_b2 hf
          refine g_cI F (As := [.int v1]) (rest := []) (cmm_readOneGate h24) (cwV 1 hts gX11_readTown_X11_readOneGate rfl rfl rfl (by decide +kernel) ⟨Nat.le_of_ble_eq_true rfl, Nat.le_of_ble_eq_true rfl⟩) hw (hw.recv (ci := 11) (q0 := 0) rfl rfl rfl) rfl hl.1 rfl (Nat.le_of_ble_eq_true rfl) dX11_readTown_60 (fun H locs hw => ?_)
          refine lv_if_ne (tgt := 40) hx hb dX11_readTown_63 (by decide) (fun c27 => ?_) (fun c27 => ?_)
          · have hf := g_t (bI_nz c27) hf
            exact ih40 v1 σ26 _ _ _ (lv_sub hl [0, 1] rfl) hw hf
          · have hf := g_f (bI_z c27) hf
            refine lv_iconst (v := 0) hx hb dX11_readTown_66 (by decide) ?_
            exact hret false _ _ _ _ _ (g_i1 hf) (congrArg (fun t => mw ty ad t wr) (g_i2 hf)) hw dX11_readTown_67
  unfold mm_readTown at hf
  refine lv_aload_n hx hb dX11_readTown_0 rfl (lv_at hl 0 rfl) ?_
  refine lv_iconst (v := 0) hx hb dX11_readTown_1 (by decide) ?_
  refine mw_put_16 F hin hw kf110 dX11_readTown_2 (fun H locs hw => ?_)
  obtain ⟨σ28, eσ28, hf⟩ := g_let hf
  have hw := mw_re eσ28 hw
  refine lv_aload_n hx hb dX11_readTown_5 rfl (lv_at hl 0 rfl) ?_
  refine lv_iconst (v := 0) hx hb dX11_readTown_6 (by decide) ?_
  refine mw_put_17 F hin hw kf113 dX11_readTown_7 (fun H locs hw => ?_)
  obtain ⟨σ29, eσ29, hf⟩ := g_let hf
  have hw := mw_re eσ29 hw
  refine lv_aload_n hx hb dX11_readTown_10 rfl (lv_at hl 0 rfl) ?_
  refine lv_iload_n hx hb dX11_readTown_11 rfl (lv_at hl 1 rfl) ?_
  refine lv_bipush (v := 106) hx hb dX11_readTown_12 (by decide) ?_
  obtain ⟨r31, σ32, h30, hf⟩ := g_b2 hf
  refine g_cI F (As := [.int x1, .int 106]) (rest := []) (cmm_isSign h30) (cwV 2 hts gX11_readTown_X11_isSign rfl rfl rfl (by decide +kernel) ⟨Nat.le_of_ble_eq_true rfl, Nat.le_of_ble_eq_true rfl⟩) hw (hw.recv (ci := 11) (q0 := 0) rfl rfl rfl) rfl hl.1 rfl (Nat.le_of_ble_eq_true rfl) dX11_readTown_14 (fun H locs hw => ?_)
  refine lv_if_eq (tgt := 38) hx hb dX11_readTown_17 (by decide) (fun c33 => ?_) (fun c33 => ?_)
  · have hf := g_f (bI_z c33) hf
    refine lv_iconst (v := 0) hx hb dX11_readTown_38 (by decide) ?_
    exact hret false _ _ _ _ _ (g_i1 hf) (congrArg (fun t => mw ty ad t wr) (g_i2 hf)) hw dX11_readTown_39
  · have hf := g_t (bI_nz c33) hf
    refine lv_aload_n hx hb dX11_readTown_20 rfl (lv_at hl 0 rfl) ?_
    refine lv_iload_n hx hb dX11_readTown_21 rfl (lv_at hl 1 rfl) ?_
    refine lv_bipush (v := 44) hx hb dX11_readTown_22 (by decide) ?_
    obtain ⟨r35, σ36, h34, hf⟩ := g_b2 hf
    refine g_cI F (As := [.int x1, .int 44]) (rest := []) (cmm_isSign h34) (cwV 2 hts gX11_readTown_X11_isSign rfl rfl rfl (by decide +kernel) ⟨Nat.le_of_ble_eq_true rfl, Nat.le_of_ble_eq_true rfl⟩) hw (hw.recv (ci := 11) (q0 := 0) rfl rfl rfl) rfl hl.1 rfl (Nat.le_of_ble_eq_true rfl) dX11_readTown_24 (fun H locs hw => ?_)
    refine lv_if_eq (tgt := 38) hx hb dX11_readTown_27 (by decide) (fun c37 => ?_) (fun c37 => ?_)
    · have hf := g_f (bI_z c37) hf
      refine lv_iconst (v := 0) hx hb dX11_readTown_38 (by decide) ?_
      exact hret false _ _ _ _ _ (g_i1 hf) (congrArg (fun t => mw ty ad t wr) (g_i2 hf)) hw dX11_readTown_39
    · have hf := g_t (bI_nz c37) hf
      refine lv_aload_n hx hb dX11_readTown_30 rfl (lv_at hl 0 rfl) ?_
      refine lv_iload_n hx hb dX11_readTown_31 rfl (lv_at hl 1 rfl) ?_
      obtain ⟨r39, σ40, h38, hf⟩ := g_b2 hf
      refine g_cI F (As := [.int x1]) (rest := []) (cmm_readOneGate h38) (cwV 1 hts gX11_readTown_X11_readOneGate rfl rfl rfl (by decide +kernel) ⟨Nat.le_of_ble_eq_true rfl, Nat.le_of_ble_eq_true rfl⟩) hw (hw.recv (ci := 11) (q0 := 0) rfl rfl rfl) rfl hl.1 rfl (Nat.le_of_ble_eq_true rfl) dX11_readTown_32 (fun H locs hw => ?_)
      refine lv_if_ne (tgt := 40) hx hb dX11_readTown_35 (by decide) (fun c41 => ?_) (fun c41 => ?_)
      · have hf := g_t (bI_nz c41) hf
        exact B40 1000 x1 σ40 _ _ _ (lv_sub hl [0, 1] rfl) hw hf
      · have hf := g_f (bI_z c41) hf
        refine lv_iconst (v := 0) hx hb dX11_readTown_38 (by decide) ?_
        exact hret false _ _ _ _ _ (g_i1 hf) (congrArg (fun t => mw ty ad t wr) (g_i2 hf)) hw dX11_readTown_39

abbrev rm_mm_town : Room := { frames := 4, cells := 0, slots := 0, locals := 89 }
set_option maxHeartbeats 4000000 in
set_option maxRecDepth 100000 in
theorem cmm_town {l : Launch} {D : va_G} {ty : gT} {A : Nat → Prop} {ad : Nat → Nat} {wr : va_W} {x1 : Int32} {x2 : Int32} {x3 : Int32} {x4 : Int32} {σ : gS} {r : Int32} {σ' : gS} (hf : mm_town σ x1 x2 x3 x4 = some (r, σ')) : gI l D ty A yX11_town wsX11_town rm_mm_town [.ref (ad 0), .int x1, .int x2, .int x3, .int x4] (mw ty ad σ wr) r (mw ty ad σ' wr) := by
  refine gI_enter (cc := cX11_town) (maxL := 8) (by decide) rfl (Nat.le_of_ble_eq_true rfl) ?_
  intro p e s m args below meth c Q ls F hl hw hret
  have F : CallFix p m c cX11_town 8 s args wsX11_town RX11 := F
  obtain ⟨hx, hb, hml, hown, hts⟩ := id F
  have hl : lv_has ls 8 [(0, .ref (ad 0)), (1, .int x1), (2, .int x2), (3, .int x3), (4, .int x4)] := hl
  have hin : ∀ w ∈ wsX110, w ∈ wsX11_town := by first | exact fun w h => List.mem_cons_of_mem _ (List.mem_append_right _ h) | decide +kernel
  have kf110 := hts (.fieldLink RX11 110 "GossipGateModel" "readGates" "I") (by decide +kernel)
  have kf113 := hts (.fieldLink RX11 113 "GossipGateModel" "readStories" "I") (by decide +kernel)
  have kf116 := hts (.fieldLink RX11 116 "GossipGateModel" "harmless" "I") (by decide +kernel)
  have kf119 := hts (.fieldLink RX11 119 "GossipGateModel" "readings" "I") (by decide +kernel)
  have kf19 := hts (.fieldLink RX11 19 "GossipGateModel" "kind" "[I") (by decide +kernel)
  have kf22 := hts (.fieldLink RX11 22 "GossipGateModel" "rateOf" "[I") (by decide +kernel)
  have kf25 := hts (.fieldLink RX11 25 "GossipGateModel" "deaf" "[I") (by decide +kernel)
  have kf28 := hts (.fieldLink RX11 28 "GossipGateModel" "large" "[I") (by decide +kernel)
  have kf31 := hts (.fieldLink RX11 31 "GossipGateModel" "person" "[I") (by decide +kernel)
  have kf34 := hts (.fieldLink RX11 34 "GossipGateModel" "born" "[I") (by decide +kernel)
  have kf41 := hts (.fieldLink RX11 41 "GossipGateModel" "readGate" "[I") (by decide +kernel)
  have kf44 := hts (.fieldLink RX11 44 "GossipGateModel" "readStory" "[I") (by decide +kernel)
  have kf74 := hts (.fieldLink RX11 74 "GossipGateModel" "fault" "I") (by decide +kernel)
  have kf83 := hts (.fieldLink RX11 83 "GossipGateModel" "gates" "I") (by decide +kernel)
  have kf86 := hts (.fieldLink RX11 86 "GossipGateModel" "stories" "I") (by decide +kernel)
  have kf89 := hts (.fieldLink RX11 89 "GossipGateModel" "at" "I") (by decide +kernel)
  have B178 : ∀ (n178 : Nat) (v7 : Int32) (σ : gS) (H : Heap) (locs : List Loc) (ls : Array Slot), lv_has ls 8 [(0, .ref (ad 0)), (7, .int v7)] → gW D ty A (mw ty ad σ wr) s s.heap H locs → mm_town_b178 n178 v7 σ = some (r, σ') → W p l e rm_mm_town s m args below meth c H locs 0 0 Q (F0 m 178 ls []) := by
    intro n178
    induction n178 with
    | zero => intro v7 σ H locs ls hl hw hf; cases hf
    | succ n178 ih178 =>
      intro v7 σ H locs ls hl hw hf
      rw [mm_town_b178] at hf
      refine lv_iload hx hb dX11_town_178 (lv_at hl 1 rfl) ?_
      refine lv_aload_n hx hb dX11_town_180 rfl (lv_at hl 0 rfl) ?_
      refine mw_get_6 F hin hw kf86 dX11_town_181 ?_
      refine lv_icmp_ge (tgt := 245) hx hb dX11_town_184 (by decide) (fun c1 => ?_) (fun c1 => ?_)
      · have hf := g_t c1 hf
        refine lv_aload_n hx hb dX11_town_245 rfl (lv_at hl 0 rfl) ?_
        refine lv_iconst (v := 0) hx hb dX11_town_246 (by decide) ?_
        refine mw_put_31 F hin hw kf119 dX11_town_247 (fun H locs hw => ?_)
        obtain ⟨σ2, eσ2, hf⟩ := g_let hf
        have hw := mw_re eσ2 hw
        refine lv_aload_n hx hb dX11_town_250 rfl (lv_at hl 0 rfl) ?_
        refine mw_get_6 F hin hw kf86 dX11_town_251 ?_
        exact hret (σ2.1 6) _ _ _ _ _ (g_i1 hf) (congrArg (fun t => mw ty ad t wr) (g_i2 hf)) hw dX11_town_254
      · have hf := g_f c1 hf
        refine lv_aload_n hx hb dX11_town_187 rfl (lv_at hl 0 rfl) ?_
        refine mw_get_11 F hin hw kf28 dX11_town_188 ?_
        refine lv_iload hx hb dX11_town_191 (lv_at hl 1 rfl) ?_
        refine lv_aload_n hx hb dX11_town_193 rfl (lv_at hl 0 rfl) ?_
        refine mw_get_19 F hin hw kf44 dX11_town_194 ?_
        refine lv_iconst (v := 3) hx hb dX11_town_197 (by decide) ?_
        refine lv_iload hx hb dX11_town_198 (lv_at hl 1 rfl) ?_
        refine lv_imul hx hb dX11_town_200 ?_
        obtain ⟨g3, hf⟩ := g_g hf
        refine mw_ld_19 F hw g3 dX11_town_201 ?_
        obtain ⟨g4, hf⟩ := g_g hf
        refine mw_st_11 F hw g4 dX11_town_202 (fun H locs hw => ?_)
        obtain ⟨σ5, eσ5, hf⟩ := g_let hf
        have hw := mw_re eσ5 hw
        refine lv_aload_n hx hb dX11_town_203 rfl (lv_at hl 0 rfl) ?_
        refine mw_get_12 F hin hw kf31 dX11_town_204 ?_
        refine lv_iload hx hb dX11_town_207 (lv_at hl 1 rfl) ?_
        refine lv_aload_n hx hb dX11_town_209 rfl (lv_at hl 0 rfl) ?_
        refine mw_get_19 F hin hw kf44 dX11_town_210 ?_
        refine lv_iconst (v := 3) hx hb dX11_town_213 (by decide) ?_
        refine lv_iload hx hb dX11_town_214 (lv_at hl 1 rfl) ?_
        refine lv_imul hx hb dX11_town_216 ?_
        refine lv_iconst (v := 1) hx hb dX11_town_217 (by decide) ?_
        refine lv_iadd hx hb dX11_town_218 ?_
        obtain ⟨g6, hf⟩ := g_g hf
        refine mw_ld_19 F hw g6 dX11_town_219 ?_
        refine mw_st_12 F hw g4 dX11_town_220 (fun H locs hw => ?_)
        obtain ⟨σ7, eσ7, hf⟩ := g_let hf
        have hw := mw_re eσ7 hw
        refine lv_aload_n hx hb dX11_town_221 rfl (lv_at hl 0 rfl) ?_
        refine mw_get_13 F hin hw kf34 dX11_town_222 ?_
        refine lv_iload hx hb dX11_town_225 (lv_at hl 1 rfl) ?_
        refine lv_aload_n hx hb dX11_town_227 rfl (lv_at hl 0 rfl) ?_
        refine mw_get_19 F hin hw kf44 dX11_town_228 ?_
        refine lv_iconst (v := 3) hx hb dX11_town_231 (by decide) ?_
        refine lv_iload hx hb dX11_town_232 (lv_at hl 1 rfl) ?_
        refine lv_imul hx hb dX11_town_234 ?_
        refine lv_iconst (v := 2) hx hb dX11_town_235 (by decide) ?_
        refine lv_iadd hx hb dX11_town_236 ?_
        obtain ⟨g8, hf⟩ := g_g hf
        refine mw_ld_19 F hw g8 dX11_town_237 ?_
        refine mw_st_13 F hw g4 dX11_town_238 (fun H locs hw => ?_)
        obtain ⟨σ9, eσ9, hf⟩ := g_let hf
        have hw := mw_re eσ9 hw
        refine lv_iinc (v := v7 + 1) (lv' := [(7, .int (v7 + 1)), (0, .ref (ad 0))]) hx hb dX11_town_239 hl (k := 1) rfl rfl (by decide) rfl (fun ls hl => ?_)
        refine lv_goto (tgt := 178) hx hb dX11_town_242 (by decide) ?_
        exact ih178 (v7 + 1) σ9 _ _ _ (lv_sub hl [1, 0] rfl) hw hf
  have B108 : ∀ (n108 : Nat) (v7 : Int32) (σ : gS) (H : Heap) (locs : List Loc) (ls : Array Slot), lv_has ls 8 [(0, .ref (ad 0)), (7, .int v7)] → gW D ty A (mw ty ad σ wr) s s.heap H locs → mm_town_b108 n108 v7 σ = some (r, σ') → W p l e rm_mm_town s m args below meth c H locs 0 0 Q (F0 m 108 ls []) := by
    intro n108
    induction n108 with
    | zero => intro v7 σ H locs ls hl hw hf; cases hf
    | succ n108 ih108 =>
      intro v7 σ H locs ls hl hw hf
      rw [mm_town_b108] at hf
      refine lv_iload hx hb dX11_town_108 (lv_at hl 1 rfl) ?_
      refine lv_aload_n hx hb dX11_town_110 rfl (lv_at hl 0 rfl) ?_
      refine mw_get_5 F hin hw kf83 dX11_town_111 ?_
      refine lv_icmp_ge (tgt := 175) hx hb dX11_town_114 (by decide) (fun c10 => ?_) (fun c10 => ?_)
      · have hf := g_t c10 hf
        refine lv_iconst (v := 0) hx hb dX11_town_175 (by decide) ?_
        refine lv_istore (lv' := [(7, .int 0), (0, .ref (ad 0))]) hx hb dX11_town_176 hl (by decide) rfl (fun ls hl => ?_)
        exact B178 1000 0 σ _ _ _ (lv_sub hl [1, 0] rfl) hw hf
      · have hf := g_f c10 hf
        refine lv_aload_n hx hb dX11_town_117 rfl (lv_at hl 0 rfl) ?_
        refine mw_get_8 F hin hw kf19 dX11_town_118 ?_
        refine lv_iload hx hb dX11_town_121 (lv_at hl 1 rfl) ?_
        refine lv_aload_n hx hb dX11_town_123 rfl (lv_at hl 0 rfl) ?_
        refine mw_get_18 F hin hw kf41 dX11_town_124 ?_
        refine lv_iconst (v := 3) hx hb dX11_town_127 (by decide) ?_
        refine lv_iload hx hb dX11_town_128 (lv_at hl 1 rfl) ?_
        refine lv_imul hx hb dX11_town_130 ?_
        obtain ⟨g11, hf⟩ := g_g hf
        refine mw_ld_18 F hw g11 dX11_town_131 ?_
        obtain ⟨g12, hf⟩ := g_g hf
        refine mw_st_8 F hw g12 dX11_town_132 (fun H locs hw => ?_)
        obtain ⟨σ13, eσ13, hf⟩ := g_let hf
        have hw := mw_re eσ13 hw
        refine lv_aload_n hx hb dX11_town_133 rfl (lv_at hl 0 rfl) ?_
        refine mw_get_9 F hin hw kf22 dX11_town_134 ?_
        refine lv_iload hx hb dX11_town_137 (lv_at hl 1 rfl) ?_
        refine lv_aload_n hx hb dX11_town_139 rfl (lv_at hl 0 rfl) ?_
        refine mw_get_18 F hin hw kf41 dX11_town_140 ?_
        refine lv_iconst (v := 3) hx hb dX11_town_143 (by decide) ?_
        refine lv_iload hx hb dX11_town_144 (lv_at hl 1 rfl) ?_
        refine lv_imul hx hb dX11_town_146 ?_
        refine lv_iconst (v := 1) hx hb dX11_town_147 (by decide) ?_
        refine lv_iadd hx hb dX11_town_148 ?_
        obtain ⟨g14, hf⟩ := g_g hf
        refine mw_ld_18 F hw g14 dX11_town_149 ?_
        refine mw_st_9 F hw g12 dX11_town_150 (fun H locs hw => ?_)
        obtain ⟨σ15, eσ15, hf⟩ := g_let hf
        have hw := mw_re eσ15 hw
        refine lv_aload_n hx hb dX11_town_151 rfl (lv_at hl 0 rfl) ?_
        refine mw_get_10 F hin hw kf25 dX11_town_152 ?_
        refine lv_iload hx hb dX11_town_155 (lv_at hl 1 rfl) ?_
        refine lv_aload_n hx hb dX11_town_157 rfl (lv_at hl 0 rfl) ?_
        refine mw_get_18 F hin hw kf41 dX11_town_158 ?_
        refine lv_iconst (v := 3) hx hb dX11_town_161 (by decide) ?_
        refine lv_iload hx hb dX11_town_162 (lv_at hl 1 rfl) ?_
        refine lv_imul hx hb dX11_town_164 ?_
        refine lv_iconst (v := 2) hx hb dX11_town_165 (by decide) ?_
        refine lv_iadd hx hb dX11_town_166 ?_
        obtain ⟨g16, hf⟩ := g_g hf
        refine mw_ld_18 F hw g16 dX11_town_167 ?_
        refine mw_st_10 F hw g12 dX11_town_168 (fun H locs hw => ?_)
        obtain ⟨σ17, eσ17, hf⟩ := g_let hf
        have hw := mw_re eσ17 hw
        refine lv_iinc (v := v7 + 1) (lv' := [(7, .int (v7 + 1)), (0, .ref (ad 0))]) hx hb dX11_town_169 hl (k := 1) rfl rfl (by decide) rfl (fun ls hl => ?_)
        refine lv_goto (tgt := 108) hx hb dX11_town_172 (by decide) ?_
        exact ih108 (v7 + 1) σ17 _ _ _ (lv_sub hl [1, 0] rfl) hw hf
  unfold mm_town at hf
  refine lv_aload_n hx hb dX11_town_0 rfl (lv_at hl 0 rfl) ?_
  refine lv_iconst (v := 0) hx hb dX11_town_1 (by decide) ?_
  refine mw_put_0 F hin hw kf74 dX11_town_2 (fun H locs hw => ?_)
  obtain ⟨σ18, eσ18, hf⟩ := g_let hf
  have hw := mw_re eσ18 hw
  refine lv_iload_n hx hb dX11_town_5 rfl (lv_at hl 1 rfl) ?_
  obtain ⟨r20, h19, hf⟩ := g_b1 hf
  refine g_sI F (As := [.int x1]) (rest := []) (cmm_isSheet h19) (va_cwS 1 hts gX11_town_X11_isSheet rfl rfl rfl (by decide +kernel) ⟨Nat.le_of_ble_eq_true rfl, Nat.le_of_ble_eq_true rfl⟩) hw rfl hl.1 rfl (Nat.le_of_ble_eq_true rfl) dX11_town_6 (fun H locs hw => ?_)
  refine lv_if_ne (tgt := 14) hx hb dX11_town_9 (by decide) (fun c21 => ?_) (fun c21 => ?_)
  · have hf := g_t (bI_nz c21) hf
    refine lv_iload_n hx hb dX11_town_14 rfl (lv_at hl 2 rfl) ?_
    obtain ⟨r23, h22, hf⟩ := g_b1 hf
    refine g_sI F (As := [.int x2]) (rest := []) (cmm_isSort h22) (va_cwS 1 hts gX11_town_X11_isSort rfl rfl rfl (by decide +kernel) ⟨Nat.le_of_ble_eq_true rfl, Nat.le_of_ble_eq_true rfl⟩) hw rfl hl.1 rfl (Nat.le_of_ble_eq_true rfl) dX11_town_15 (fun H locs hw => ?_)
    refine lv_if_ne (tgt := 24) hx hb dX11_town_18 (by decide) (fun c24 => ?_) (fun c24 => ?_)
    · have hf := g_t (bI_nz c24) hf
      refine lv_aload_n hx hb dX11_town_24 rfl (lv_at hl 0 rfl) ?_
      refine lv_iload_n hx hb dX11_town_25 rfl (lv_at hl 1 rfl) ?_
      refine lv_iload_n hx hb dX11_town_26 rfl (lv_at hl 2 rfl) ?_
      refine lv_iload_n hx hb dX11_town_27 rfl (lv_at hl 3 rfl) ?_
      refine lv_iload hx hb dX11_town_28 (lv_at hl 4 rfl) ?_
      obtain ⟨r26, h25, hf⟩ := g_b1 hf
      refine g_cI F (As := [.int x1, .int x2, .int x3, .int x4]) (rest := []) (cmm_against h25) (cwV 4 hts gX11_town_X11_against rfl rfl rfl (by decide +kernel) ⟨Nat.le_of_ble_eq_true rfl, Nat.le_of_ble_eq_true rfl⟩) hw (hw.recv (ci := 11) (q0 := 0) rfl rfl rfl) rfl hl.1 rfl (Nat.le_of_ble_eq_true rfl) dX11_town_30 (fun H locs hw => ?_)
      refine lv_istore (lv' := [(5, .int r26), (0, .ref (ad 0)), (1, .int x1), (2, .int x2), (3, .int x3), (4, .int x4)]) hx hb dX11_town_33 hl (by decide) rfl (fun ls hl => ?_)
      refine lv_iload hx hb dX11_town_35 (lv_at hl 0 rfl) ?_
      refine lv_if_eq (tgt := 47) hx hb dX11_town_37 (by decide) (fun c27 => ?_) (fun c27 => ?_)
      · have hf := g_t c27 hf
        refine lv_bipush (v := 60) hx hb dX11_town_47 (by decide) ?_
        refine lv_iload_n hx hb dX11_town_49 rfl (lv_at hl 2 rfl) ?_
        refine lv_imul hx hb dX11_town_50 ?_
        refine lv_iload_n hx hb dX11_town_51 rfl (lv_at hl 4 rfl) ?_
        refine lv_iadd hx hb dX11_town_52 ?_
        obtain ⟨y28, ey28, hf⟩ := g_let hf
        refine g_nm ey28 ?_
        refine lv_istore (lv' := [(6, .int y28), (5, .int r26), (0, .ref (ad 0)), (1, .int x1), (2, .int x2), (3, .int x3), (4, .int x4)]) hx hb dX11_town_53 hl (by decide) rfl (fun ls hl => ?_)
        refine lv_aload_n hx hb dX11_town_55 rfl (lv_at hl 2 rfl) ?_
        refine lv_iload hx hb dX11_town_56 (lv_at hl 0 rfl) ?_
        refine mw_put_15 F hin hw kf89 dX11_town_58 (fun H locs hw => ?_)
        obtain ⟨σ29, eσ29, hf⟩ := g_let hf
        have hw := mw_re eσ29 hw
        refine lv_aload_n hx hb dX11_town_61 rfl (lv_at hl 2 rfl) ?_
        refine lv_iload hx hb dX11_town_62 (lv_at hl 0 rfl) ?_
        refine lv_iload hx hb dX11_town_64 (lv_at hl 6 rfl) ?_
        refine lv_iadd hx hb dX11_town_66 ?_
        obtain ⟨r31, σ32, h30, hf⟩ := g_b2 hf
        refine g_cI F (As := [.int (y28 + x4)]) (rest := []) (cmm_readTown h30) (cwV 1 hts gX11_town_X11_readTown rfl rfl rfl (by decide +kernel) ⟨Nat.le_of_ble_eq_true rfl, Nat.le_of_ble_eq_true rfl⟩) hw (hw.recv (ci := 11) (q0 := 0) rfl rfl rfl) rfl hl.1 rfl (Nat.le_of_ble_eq_true rfl) dX11_town_67 (fun H locs hw => ?_)
        refine lv_if_ne (tgt := 84) hx hb dX11_town_70 (by decide) (fun c33 => ?_) (fun c33 => ?_)
        · have hf := g_t (bI_nz c33) hf
          refine lv_aload_n hx hb dX11_town_84 rfl (lv_at hl 2 rfl) ?_
          refine lv_aload_n hx hb dX11_town_85 rfl (lv_at hl 2 rfl) ?_
          refine mw_get_16 F hin hw kf110 dX11_town_86 ?_
          refine mw_put_5 F hin hw kf83 dX11_town_89 (fun H locs hw => ?_)
          obtain ⟨σ34, eσ34, hf⟩ := g_let hf
          have hw := mw_re eσ34 hw
          refine lv_aload_n hx hb dX11_town_92 rfl (lv_at hl 2 rfl) ?_
          refine lv_aload_n hx hb dX11_town_93 rfl (lv_at hl 2 rfl) ?_
          refine mw_get_17 F hin hw kf113 dX11_town_94 ?_
          refine mw_put_6 F hin hw kf86 dX11_town_97 (fun H locs hw => ?_)
          obtain ⟨σ35, eσ35, hf⟩ := g_let hf
          have hw := mw_re eσ35 hw
          refine lv_aload_n hx hb dX11_town_100 rfl (lv_at hl 2 rfl) ?_
          refine lv_iconst (v := 0) hx hb dX11_town_101 (by decide) ?_
          refine mw_put_7 F hin hw kf116 dX11_town_102 (fun H locs hw => ?_)
          obtain ⟨σ36, eσ36, hf⟩ := g_let hf
          have hw := mw_re eσ36 hw
          refine lv_iconst (v := 0) hx hb dX11_town_105 (by decide) ?_
          refine lv_istore (lv' := [(7, .int 0), (6, .int y28), (5, .int r26), (0, .ref (ad 0)), (1, .int x1), (2, .int x2), (3, .int x3), (4, .int x4)]) hx hb dX11_town_106 hl (by decide) rfl (fun ls hl => ?_)
          exact B108 1000 0 σ36 _ _ _ (lv_sub hl [3, 0] rfl) hw hf
        · have hf := g_f (bI_z c33) hf
          refine lv_bipush (v := (-100)) hx hb dX11_town_73 (by decide) ?_
          refine lv_aload_n hx hb dX11_town_75 rfl (lv_at hl 2 rfl) ?_
          refine mw_get_15 F hin hw kf89 dX11_town_76 ?_
          refine lv_iload hx hb dX11_town_79 (lv_at hl 0 rfl) ?_
          refine lv_isub hx hb dX11_town_81 ?_
          refine lv_isub hx hb dX11_town_82 ?_
          exact hret (((-100) : Int32) - ((σ32.1 15) - y28)) _ _ _ _ _ (g_i1 hf) (congrArg (fun t => mw ty ad t wr) (g_i2 hf)) hw dX11_town_83
      · have hf := g_f c27 hf
        refine lv_aload_n hx hb dX11_town_40 rfl (lv_at hl 1 rfl) ?_
        refine lv_iload hx hb dX11_town_41 (lv_at hl 0 rfl) ?_
        obtain ⟨r38, σ39, h37, hf⟩ := g_b2 hf
        refine g_cI F (As := [.int r26]) (rest := []) (cmm_fails h37) (cwV 1 hts gX11_town_X11_fails rfl rfl rfl (by decide +kernel) ⟨Nat.le_of_ble_eq_true rfl, Nat.le_of_ble_eq_true rfl⟩) hw (hw.recv (ci := 11) (q0 := 0) rfl rfl rfl) rfl hl.1 rfl (Nat.le_of_ble_eq_true rfl) dX11_town_43 (fun H locs hw => ?_)
        exact hret r38 _ _ _ _ _ (g_i1 hf) (congrArg (fun t => mw ty ad t wr) (g_i2 hf)) hw dX11_town_46
    · have hf := g_f (bI_z c24) hf
      refine lv_bipush (v := (-2)) hx hb dX11_town_21 (by decide) ?_
      exact hret (-2) _ _ _ _ _ (g_i1 hf) (congrArg (fun t => mw ty ad t wr) (g_i2 hf)) hw dX11_town_23
  · have hf := g_f (bI_z c21) hf
    refine lv_iconst (v := (-1)) hx hb dX11_town_12 (by decide) ?_
    exact hret (-1) _ _ _ _ _ (g_i1 hf) (congrArg (fun t => mw ty ad t wr) (g_i2 hf)) hw dX11_town_13

abbrev rm_mm_ofGate : Room := { frames := 1, cells := 0, slots := 0, locals := 21 }
set_option maxHeartbeats 4000000 in
set_option maxRecDepth 100000 in
theorem cmm_ofGate {l : Launch} {D : va_G} {ty : gT} {A : Nat → Prop} {ad : Nat → Nat} {wr : va_W} {x1 : Int32} {x2 : Int32} {σ : gS} {r : Int32} (hf : mm_ofGate σ x1 x2 = some r) : gI l D ty A yX11_ofGate wsX11_ofGate rm_mm_ofGate [.ref (ad 0), .int x1, .int x2] (mw ty ad σ wr) r (mw ty ad σ wr) := by
  refine gI_enter (cc := cX11_ofGate) (maxL := 3) (by decide) rfl (Nat.le_of_ble_eq_true rfl) ?_
  intro p e s m args below meth c Q ls F hl hw hret
  have F : CallFix p m c cX11_ofGate 3 s args wsX11_ofGate RX11 := F
  obtain ⟨hx, hb, hml, hown, hts⟩ := id F
  have hl : lv_has ls 3 [(0, .ref (ad 0)), (1, .int x1), (2, .int x2)] := hl
  have hin : ∀ w ∈ wsX110, w ∈ wsX11_ofGate := by first | exact fun w h => List.mem_cons_of_mem _ (List.mem_append_right _ h) | decide +kernel
  have kf19 := hts (.fieldLink RX11 19 "GossipGateModel" "kind" "[I") (by decide +kernel)
  have kf22 := hts (.fieldLink RX11 22 "GossipGateModel" "rateOf" "[I") (by decide +kernel)
  have kf25 := hts (.fieldLink RX11 25 "GossipGateModel" "deaf" "[I") (by decide +kernel)
  unfold mm_ofGate at hf
  refine lv_aload_n hx hb dX11_ofGate_0 rfl (lv_at hl 0 rfl) ?_
  refine lv_iload_n hx hb dX11_ofGate_1 rfl (lv_at hl 1 rfl) ?_
  obtain ⟨r2, h1, hf⟩ := g_b1 hf
  refine g_cI F (As := [.int x1]) (rest := []) (cmm_isGate h1) (cwV 1 hts gX11_ofGate_X11_isGate rfl rfl rfl (by decide +kernel) ⟨Nat.le_of_ble_eq_true rfl, Nat.le_of_ble_eq_true rfl⟩) hw (hw.recv (ci := 11) (q0 := 0) rfl rfl rfl) rfl hl.1 rfl (Nat.le_of_ble_eq_true rfl) dX11_ofGate_2 (fun H locs hw => ?_)
  refine lv_if_ne (tgt := 10) hx hb dX11_ofGate_5 (by decide) (fun c3 => ?_) (fun c3 => ?_)
  · have hf := g_t (bI_nz c3) hf
    refine lv_iload_n hx hb dX11_ofGate_10 rfl (lv_at hl 2 rfl) ?_
    refine lv_if_ne (tgt := 23) hx hb dX11_ofGate_11 (by decide) (fun c4 => ?_) (fun c4 => ?_)
    · have hf := g_f c4 hf
      refine lv_iload_n hx hb dX11_ofGate_23 rfl (lv_at hl 2 rfl) ?_
      refine lv_iconst (v := 1) hx hb dX11_ofGate_24 (by decide) ?_
      refine lv_icmp_ne (tgt := 37) hx hb dX11_ofGate_25 (by decide) (fun c5 => ?_) (fun c5 => ?_)
      · have hf := g_f c5 hf
        refine lv_iload_n hx hb dX11_ofGate_37 rfl (lv_at hl 2 rfl) ?_
        refine lv_iconst (v := 2) hx hb dX11_ofGate_38 (by decide) ?_
        refine lv_icmp_ne (tgt := 51) hx hb dX11_ofGate_39 (by decide) (fun c6 => ?_) (fun c6 => ?_)
        · have hf := g_f c6 hf
          refine lv_bipush (v := (-2)) hx hb dX11_ofGate_51 (by decide) ?_
          exact hret (-2) _ _ _ _ _ (Option.some.inj hf) rfl hw dX11_ofGate_53
        · have hf := g_t c6 hf
          refine lv_aload_n hx hb dX11_ofGate_42 rfl (lv_at hl 0 rfl) ?_
          refine mw_get_10 F hin hw kf25 dX11_ofGate_43 ?_
          refine lv_iload_n hx hb dX11_ofGate_46 rfl (lv_at hl 1 rfl) ?_
          obtain ⟨g7, hf⟩ := g_g hf
          refine mw_ld_10 F hw g7 dX11_ofGate_47 ?_
          refine lv_goto (tgt := 53) hx hb dX11_ofGate_48 (by decide) ?_
          exact hret (σ.2 10 x1.toNatClampNeg) _ _ _ _ _ (Option.some.inj hf) rfl hw dX11_ofGate_53
      · have hf := g_t c5 hf
        refine lv_aload_n hx hb dX11_ofGate_28 rfl (lv_at hl 0 rfl) ?_
        refine mw_get_9 F hin hw kf22 dX11_ofGate_29 ?_
        refine lv_iload_n hx hb dX11_ofGate_32 rfl (lv_at hl 1 rfl) ?_
        obtain ⟨g8, hf⟩ := g_g hf
        refine mw_ld_9 F hw g8 dX11_ofGate_33 ?_
        refine lv_goto (tgt := 53) hx hb dX11_ofGate_34 (by decide) ?_
        exact hret (σ.2 9 x1.toNatClampNeg) _ _ _ _ _ (Option.some.inj hf) rfl hw dX11_ofGate_53
    · have hf := g_t c4 hf
      refine lv_aload_n hx hb dX11_ofGate_14 rfl (lv_at hl 0 rfl) ?_
      refine mw_get_8 F hin hw kf19 dX11_ofGate_15 ?_
      refine lv_iload_n hx hb dX11_ofGate_18 rfl (lv_at hl 1 rfl) ?_
      obtain ⟨g9, hf⟩ := g_g hf
      refine mw_ld_8 F hw g9 dX11_ofGate_19 ?_
      refine lv_goto (tgt := 53) hx hb dX11_ofGate_20 (by decide) ?_
      exact hret (σ.2 8 x1.toNatClampNeg) _ _ _ _ _ (Option.some.inj hf) rfl hw dX11_ofGate_53
  · have hf := g_f (bI_z c3) hf
    refine lv_iconst (v := (-1)) hx hb dX11_ofGate_8 (by decide) ?_
    exact hret (-1) _ _ _ _ _ (Option.some.inj hf) rfl hw dX11_ofGate_9

abbrev rm_mm_third : Room := { frames := 0, cells := 0, slots := 0, locals := 0 }
set_option maxHeartbeats 4000000 in
set_option maxRecDepth 100000 in
theorem cmm_third {l : Launch} {D : va_G} {ty : gT} {A : Nat → Prop} {ad : Nat → Nat} {wr : va_W} {x1 : Int32} {x2 : Int32} {σ : gS} {r : Int32} (hf : mm_third σ x1 x2 = some r) : gI l D ty A yX11_third wsX11_third rm_mm_third [.ref (ad 0), .int x1, .int x2] (mw ty ad σ wr) r (mw ty ad σ wr) := by
  refine gI_enter (cc := cX11_third) (maxL := 3) (by decide) rfl (Nat.le_of_ble_eq_true rfl) ?_
  intro p e s m args below meth c Q ls F hl hw hret
  have F : CallFix p m c cX11_third 3 s args wsX11_third RX11 := F
  obtain ⟨hx, hb, hml, hown, hts⟩ := id F
  have hl : lv_has ls 3 [(0, .ref (ad 0)), (1, .int x1), (2, .int x2)] := hl
  have hin : ∀ w ∈ wsX110, w ∈ wsX11_third := by first | exact fun w h => List.mem_cons_of_mem _ (List.mem_append_right _ h) | decide +kernel
  have kf28 := hts (.fieldLink RX11 28 "GossipGateModel" "large" "[I") (by decide +kernel)
  unfold mm_third at hf
  refine lv_aload_n hx hb dX11_third_0 rfl (lv_at hl 0 rfl) ?_
  refine mw_get_11 F hin hw kf28 dX11_third_1 ?_
  refine lv_iload_n hx hb dX11_third_4 rfl (lv_at hl 1 rfl) ?_
  obtain ⟨g1, hf⟩ := g_g hf
  refine mw_ld_11 F hw g1 dX11_third_5 ?_
  refine lv_iconst (v := 3) hx hb dX11_third_6 (by decide) ?_
  refine lv_idiv hx hb dX11_third_7 (by decide) ?_
  refine lv_iload_n hx hb dX11_third_8 rfl (lv_at hl 2 rfl) ?_
  refine lv_aload_n hx hb dX11_third_9 rfl (lv_at hl 0 rfl) ?_
  refine mw_get_11 F hin hw kf28 dX11_third_10 ?_
  refine lv_iload_n hx hb dX11_third_13 rfl (lv_at hl 1 rfl) ?_
  refine mw_ld_11 F hw g1 dX11_third_14 ?_
  refine lv_iconst (v := 3) hx hb dX11_third_15 (by decide) ?_
  refine lv_irem hx hb dX11_third_16 (by decide) ?_
  refine lv_icmp_ge (tgt := 24) hx hb dX11_third_17 (by decide) (fun c2 => ?_) (fun c2 => ?_)
  · have hf := g_t c2 hf
    refine lv_iconst (v := 0) hx hb dX11_third_24 (by decide) ?_
    refine lv_iadd hx hb dX11_third_25 ?_
    exact hret (((σ.2 11 x1.toNatClampNeg) / 3) + 0) _ _ _ _ _ (Option.some.inj hf) rfl hw dX11_third_26
  · have hf := g_f c2 hf
    refine lv_iconst (v := 1) hx hb dX11_third_20 (by decide) ?_
    refine lv_goto (tgt := 25) hx hb dX11_third_21 (by decide) ?_
    refine lv_iadd hx hb dX11_third_25 ?_
    exact hret (((σ.2 11 x1.toNatClampNeg) / 3) + 1) _ _ _ _ _ (Option.some.inj hf) rfl hw dX11_third_26

abbrev rm_mm_ofStory : Room := { frames := 1, cells := 0, slots := 0, locals := 22 }
set_option maxHeartbeats 4000000 in
set_option maxRecDepth 100000 in
theorem cmm_ofStory {l : Launch} {D : va_G} {ty : gT} {A : Nat → Prop} {ad : Nat → Nat} {wr : va_W} {x1 : Int32} {x2 : Int32} {σ : gS} {r : Int32} (hf : mm_ofStory σ x1 x2 = some r) : gI l D ty A yX11_ofStory wsX11_ofStory rm_mm_ofStory [.ref (ad 0), .int x1, .int x2] (mw ty ad σ wr) r (mw ty ad σ wr) := by
  refine gI_enter (cc := cX11_ofStory) (maxL := 3) (by decide) rfl (Nat.le_of_ble_eq_true rfl) ?_
  intro p e s m args below meth c Q ls F hl hw hret
  have F : CallFix p m c cX11_ofStory 3 s args wsX11_ofStory RX11 := F
  obtain ⟨hx, hb, hml, hown, hts⟩ := id F
  have hl : lv_has ls 3 [(0, .ref (ad 0)), (1, .int x1), (2, .int x2)] := hl
  have hin : ∀ w ∈ wsX110, w ∈ wsX11_ofStory := by first | exact fun w h => List.mem_cons_of_mem _ (List.mem_append_right _ h) | decide +kernel
  have kf28 := hts (.fieldLink RX11 28 "GossipGateModel" "large" "[I") (by decide +kernel)
  have kf31 := hts (.fieldLink RX11 31 "GossipGateModel" "person" "[I") (by decide +kernel)
  have kf34 := hts (.fieldLink RX11 34 "GossipGateModel" "born" "[I") (by decide +kernel)
  have B69 : ∀ (v1 : Int32) (v2 : Int32) (H : Heap) (locs : List Loc) (ls : Array Slot), lv_has ls 3 [(0, .ref (ad 0)), (1, .int v1), (2, .int v2)] → gW D ty A (mw ty ad σ wr) s s.heap H locs → mm_ofStory_b69 σ v1 v2 = some r → W p l e rm_mm_ofStory s m args below meth c H locs 0 0 Q (F0 m 69 ls []) := by
    intro v1 v2 H locs ls hl hw hf
    unfold mm_ofStory_b69 at hf
    refine lv_aload_n hx hb dX11_ofStory_69 rfl (lv_at hl 0 rfl) ?_
    refine lv_iload_n hx hb dX11_ofStory_70 rfl (lv_at hl 1 rfl) ?_
    refine lv_iload_n hx hb dX11_ofStory_71 rfl (lv_at hl 2 rfl) ?_
    refine lv_iconst (v := 3) hx hb dX11_ofStory_72 (by decide) ?_
    refine lv_isub hx hb dX11_ofStory_73 ?_
    obtain ⟨r2, h1, hf⟩ := g_b1 hf
    refine g_cI F (As := [.int v1, .int (v2 - 3)]) (rest := []) (cmm_third h1) (cwV 2 hts gX11_ofStory_X11_third rfl rfl rfl (by decide +kernel) ⟨Nat.le_of_ble_eq_true rfl, Nat.le_of_ble_eq_true rfl⟩) hw (hw.recv (ci := 11) (q0 := 0) rfl rfl rfl) rfl hl.1 rfl (Nat.le_of_ble_eq_true rfl) dX11_ofStory_74 (fun H locs hw => ?_)
    exact hret r2 _ _ _ _ _ (Option.some.inj hf) rfl hw dX11_ofStory_77
  unfold mm_ofStory at hf
  refine lv_aload_n hx hb dX11_ofStory_0 rfl (lv_at hl 0 rfl) ?_
  refine lv_iload_n hx hb dX11_ofStory_1 rfl (lv_at hl 1 rfl) ?_
  obtain ⟨r4, h3, hf⟩ := g_b1 hf
  refine g_cI F (As := [.int x1]) (rest := []) (cmm_isStory h3) (cwV 1 hts gX11_ofStory_X11_isStory rfl rfl rfl (by decide +kernel) ⟨Nat.le_of_ble_eq_true rfl, Nat.le_of_ble_eq_true rfl⟩) hw (hw.recv (ci := 11) (q0 := 0) rfl rfl rfl) rfl hl.1 rfl (Nat.le_of_ble_eq_true rfl) dX11_ofStory_2 (fun H locs hw => ?_)
  refine lv_if_ne (tgt := 10) hx hb dX11_ofStory_5 (by decide) (fun c5 => ?_) (fun c5 => ?_)
  · have hf := g_t (bI_nz c5) hf
    refine lv_iload_n hx hb dX11_ofStory_10 rfl (lv_at hl 2 rfl) ?_
    by_cases c6 : x2 = 0
    · have hf := g_t c6 hf
      refine lv_tableIn (off := 37) (tgt := 48) hx hb dX11_ofStory_11 (by rw [c6]; decide) (by rw [c6]; decide) (by rw [c6]; rfl) (by decide) ?_
      refine lv_aload_n hx hb dX11_ofStory_48 rfl (lv_at hl 0 rfl) ?_
      refine mw_get_11 F hin hw kf28 dX11_ofStory_49 ?_
      refine lv_iload_n hx hb dX11_ofStory_52 rfl (lv_at hl 1 rfl) ?_
      obtain ⟨g7, hf⟩ := g_g hf
      refine mw_ld_11 F hw g7 dX11_ofStory_53 ?_
      exact hret (σ.2 11 x1.toNatClampNeg) _ _ _ _ _ (Option.some.inj hf) rfl hw dX11_ofStory_54
    have hf := g_f c6 hf
    by_cases c8 : x2 = 1
    · have hf := g_t c8 hf
      refine lv_tableIn (off := 44) (tgt := 55) hx hb dX11_ofStory_11 (by rw [c8]; decide) (by rw [c8]; decide) (by rw [c8]; rfl) (by decide) ?_
      refine lv_aload_n hx hb dX11_ofStory_55 rfl (lv_at hl 0 rfl) ?_
      refine mw_get_12 F hin hw kf31 dX11_ofStory_56 ?_
      refine lv_iload_n hx hb dX11_ofStory_59 rfl (lv_at hl 1 rfl) ?_
      obtain ⟨g9, hf⟩ := g_g hf
      refine mw_ld_12 F hw g9 dX11_ofStory_60 ?_
      exact hret (σ.2 12 x1.toNatClampNeg) _ _ _ _ _ (Option.some.inj hf) rfl hw dX11_ofStory_61
    have hf := g_f c8 hf
    by_cases c10 : x2 = 2
    · have hf := g_t c10 hf
      refine lv_tableIn (off := 51) (tgt := 62) hx hb dX11_ofStory_11 (by rw [c10]; decide) (by rw [c10]; decide) (by rw [c10]; rfl) (by decide) ?_
      refine lv_aload_n hx hb dX11_ofStory_62 rfl (lv_at hl 0 rfl) ?_
      refine mw_get_13 F hin hw kf34 dX11_ofStory_63 ?_
      refine lv_iload_n hx hb dX11_ofStory_66 rfl (lv_at hl 1 rfl) ?_
      obtain ⟨g11, hf⟩ := g_g hf
      refine mw_ld_13 F hw g11 dX11_ofStory_67 ?_
      exact hret (σ.2 13 x1.toNatClampNeg) _ _ _ _ _ (Option.some.inj hf) rfl hw dX11_ofStory_68
    have hf := g_f c10 hf
    by_cases c12 : x2 = 3
    · have hf := g_t c12 hf
      refine lv_tableIn (off := 58) (tgt := 69) hx hb dX11_ofStory_11 (by rw [c12]; decide) (by rw [c12]; decide) (by rw [c12]; rfl) (by decide) ?_
      exact B69 x1 x2 _ _ _ (lv_sub hl [0, 1, 2] rfl) hw hf
    have hf := g_f c12 hf
    by_cases c13 : x2 = 4
    · have hf := g_t c13 hf
      refine lv_tableIn (off := 58) (tgt := 69) hx hb dX11_ofStory_11 (by rw [c13]; decide) (by rw [c13]; decide) (by rw [c13]; rfl) (by decide) ?_
      exact B69 x1 x2 _ _ _ (lv_sub hl [0, 1, 2] rfl) hw hf
    have hf := g_f c13 hf
    by_cases c14 : x2 = 5
    · have hf := g_t c14 hf
      refine lv_tableIn (off := 58) (tgt := 69) hx hb dX11_ofStory_11 (by rw [c14]; decide) (by rw [c14]; decide) (by rw [c14]; rfl) (by decide) ?_
      exact B69 x1 x2 _ _ _ (lv_sub hl [0, 1, 2] rfl) hw hf
    have hf := g_f c14 hf
    refine lv_tableOut (tgt := 78) hx hb dX11_ofStory_11 (by have tc6 := g_ti (k := 0) 0 (by decide) c6; have tc8 := g_ti (k := 1) 1 (by decide) c8; have tc10 := g_ti (k := 2) 2 (by decide) c10; have tc12 := g_ti (k := 3) 3 (by decide) c12; have tc13 := g_ti (k := 4) 4 (by decide) c13; have tc14 := g_ti (k := 5) 5 (by decide) c14; omega) (by decide) ?_
    refine lv_bipush (v := (-2)) hx hb dX11_ofStory_78 (by decide) ?_
    exact hret (-2) _ _ _ _ _ (Option.some.inj hf) rfl hw dX11_ofStory_80
  · have hf := g_f (bI_z c5) hf
    refine lv_iconst (v := (-1)) hx hb dX11_ofStory_8 (by decide) ?_
    exact hret (-1) _ _ _ _ _ (Option.some.inj hf) rfl hw dX11_ofStory_9

abbrev rm_mm_harmless : Room := { frames := 1, cells := 0, slots := 0, locals := 22 }
set_option maxHeartbeats 4000000 in
set_option maxRecDepth 100000 in
theorem cmm_harmless {l : Launch} {D : va_G} {ty : gT} {A : Nat → Prop} {ad : Nat → Nat} {wr : va_W} {x1 : Int32} {σ : gS} {r : Int32} {σ' : gS} (hf : mm_harmless σ x1 = some (r, σ')) : gI l D ty A yX11_harmless wsX11_harmless rm_mm_harmless [.ref (ad 0), .int x1] (mw ty ad σ wr) r (mw ty ad σ' wr) := by
  refine gI_enter (cc := cX11_harmless) (maxL := 3) (by decide) rfl (Nat.le_of_ble_eq_true rfl) ?_
  intro p e s m args below meth c Q ls F hl hw hret
  have F : CallFix p m c cX11_harmless 3 s args wsX11_harmless RX11 := F
  obtain ⟨hx, hb, hml, hown, hts⟩ := id F
  have hl : lv_has ls 3 [(0, .ref (ad 0)), (1, .int x1)] := hl
  have hin : ∀ w ∈ wsX110, w ∈ wsX11_harmless := by first | exact fun w h => List.mem_cons_of_mem _ (List.mem_append_right _ h) | decide +kernel
  have kf116 := hts (.fieldLink RX11 116 "GossipGateModel" "harmless" "I") (by decide +kernel)
  have kf83 := hts (.fieldLink RX11 83 "GossipGateModel" "gates" "I") (by decide +kernel)
  unfold mm_harmless at hf
  refine lv_iload_n hx hb dX11_harmless_0 rfl (lv_at hl 1 rfl) ?_
  refine lv_iconst (v := 0) hx hb dX11_harmless_1 (by decide) ?_
  refine lv_bipush (v := 9) hx hb dX11_harmless_2 (by decide) ?_
  obtain ⟨r2, h1, hf⟩ := g_b1 hf
  refine g_sI F (As := [.int x1, .int 0, .int 9]) (rest := []) (cmm_within h1) (va_cwS 3 hts gX11_harmless_X11_within rfl rfl rfl (by decide +kernel) ⟨Nat.le_of_ble_eq_true rfl, Nat.le_of_ble_eq_true rfl⟩) hw rfl hl.1 rfl (Nat.le_of_ble_eq_true rfl) dX11_harmless_4 (fun H locs hw => ?_)
  refine lv_if_ne (tgt := 13) hx hb dX11_harmless_7 (by decide) (fun c3 => ?_) (fun c3 => ?_)
  · have hf := g_t (bI_nz c3) hf
    refine lv_aload_n hx hb dX11_harmless_13 rfl (lv_at hl 0 rfl) ?_
    refine mw_get_5 F hin hw kf83 dX11_harmless_14 ?_
    refine lv_if_ne (tgt := 23) hx hb dX11_harmless_17 (by decide) (fun c4 => ?_) (fun c4 => ?_)
    · have hf := g_f c4 hf
      refine lv_aload_n hx hb dX11_harmless_23 rfl (lv_at hl 0 rfl) ?_
      refine mw_get_7 F hin hw kf116 dX11_harmless_24 ?_
      refine lv_istore_n (lv' := [(2, .int (σ.1 7)), (0, .ref (ad 0)), (1, .int x1)]) hx hb dX11_harmless_27 rfl hl (by decide) rfl (fun ls hl => ?_)
      refine lv_aload_n hx hb dX11_harmless_28 rfl (lv_at hl 1 rfl) ?_
      refine lv_iload_n hx hb dX11_harmless_29 rfl (lv_at hl 2 rfl) ?_
      refine mw_put_7 F hin hw kf116 dX11_harmless_30 (fun H locs hw => ?_)
      obtain ⟨σ5, eσ5, hf⟩ := g_let hf
      have hw := mw_re eσ5 hw
      refine lv_iload_n hx hb dX11_harmless_33 rfl (lv_at hl 0 rfl) ?_
      exact hret (σ.1 7) _ _ _ _ _ (g_i1 hf) (congrArg (fun t => mw ty ad t wr) (g_i2 hf)) hw dX11_harmless_34
    · have hf := g_t c4 hf
      refine lv_bipush (v := (-3)) hx hb dX11_harmless_20 (by decide) ?_
      exact hret (-3) _ _ _ _ _ (g_i1 hf) (congrArg (fun t => mw ty ad t wr) (g_i2 hf)) hw dX11_harmless_22
  · have hf := g_f (bI_z c3) hf
    refine lv_bipush (v := (-2)) hx hb dX11_harmless_10 (by decide) ?_
    exact hret (-2) _ _ _ _ _ (g_i1 hf) (congrArg (fun t => mw ty ad t wr) (g_i2 hf)) hw dX11_harmless_12
