abbrev rm_tt_goesOn : Room := { frames := 3, cells := 0, slots := 0, locals := 63 }
set_option maxHeartbeats 4000000 in
set_option maxRecDepth 100000 in
theorem ctt_goesOn {l : Launch} {D : va_G} {ty : gT} {A : Nat → Prop} {ad : Nat → Nat} {K : gK} {wr : va_W} {tx : Nat} {σ : gS} {kr : Nat} {x1 : Int32} {τ : gS} {r : Bool} {σ' : gS} (hf : tt_goesOn σ kr τ x1 = some (r, σ')) : gI l D ty A yX7_goesOn wsX7_goesOn rm_tt_goesOn [.ref tx, .int x1] (tw ty ad K σ tx kr τ wr) (bI r) (tw ty ad K σ tx kr σ' wr) := by
  refine gZ_enter (cc := cX7_goesOn) (maxL := 4) (by decide) rfl (Nat.le_of_ble_eq_true rfl) ?_
  intro p e s m args below meth c Q ls F hl hw hret
  have F : CallFix p m c cX7_goesOn 4 s args wsX7_goesOn RX7 := F
  obtain ⟨hx, hb, hml, hown, hts⟩ := id F
  have hl : lv_has ls 4 [(0, .ref tx), (1, .int x1)] := hl
  have hinX7 : ∀ w ∈ wsX70, w ∈ wsX7_goesOn := by first | exact fun w h => List.mem_cons_of_mem _ (List.mem_append_left _ (List.mem_append_right _ h)) | decide +kernel
  have kf15 := hts (.fieldLink RX7 15 "GossipGate$Text" "storyCount" "I") (by decide +kernel)
  unfold tt_goesOn at hf
  refine lv_aload_n hx hb dX7_goesOn_0 rfl (lv_at hl 0 rfl) ?_
  refine lv_iload_n hx hb dX7_goesOn_1 rfl (lv_at hl 1 rfl) ?_
  obtain ⟨r2, h1, hf⟩ := g_b1 hf
  refine g_cI F (As := [.int x1]) (rest := []) (ctt_codeAt h1) (cwV 1 hts gX7_goesOn_X7_codeAt rfl rfl rfl (by decide +kernel) ⟨Nat.le_of_ble_eq_true rfl, Nat.le_of_ble_eq_true rfl⟩) hw (hw.recv (ci := 7) (q0 := 27) rfl rfl rfl) rfl hl.1 rfl (Nat.le_of_ble_eq_true rfl) dX7_goesOn_2 (fun H locs hw => ?_)
  refine lv_istore_n (lv' := [(2, .int r2), (0, .ref tx), (1, .int x1)]) hx hb dX7_goesOn_5 rfl hl (by decide) rfl (fun ls hl => ?_)
  refine lv_iload_n hx hb dX7_goesOn_6 rfl (lv_at hl 2 rfl) ?_
  refine lv_if_ne (tgt := 22) hx hb dX7_goesOn_7 (by decide) (fun c3 => ?_) (fun c3 => ?_)
  · have hf := g_f c3 hf
    refine lv_iload_n hx hb dX7_goesOn_22 rfl (lv_at hl 2 rfl) ?_
    refine lv_iconst (v := 1) hx hb dX7_goesOn_23 (by decide) ?_
    refine lv_isub hx hb dX7_goesOn_24 ?_
    refine lv_iconst (v := 4) hx hb dX7_goesOn_25 (by decide) ?_
    refine lv_irem hx hb dX7_goesOn_26 (by decide) ?_
    obtain ⟨y4, ey4, hf⟩ := g_let hf
    refine g_nm ey4 ?_
    refine lv_istore_n (lv' := [(3, .int y4), (2, .int r2), (0, .ref tx), (1, .int x1)]) hx hb dX7_goesOn_27 rfl hl (by decide) rfl (fun ls hl => ?_)
    refine lv_iload_n hx hb dX7_goesOn_28 rfl (lv_at hl 0 rfl) ?_
    refine lv_if_ne (tgt := 38) hx hb dX7_goesOn_29 (by decide) (fun c5 => ?_) (fun c5 => ?_)
    · have hf := g_f c5 hf
      refine lv_aload_n hx hb dX7_goesOn_38 rfl (lv_at hl 2 rfl) ?_
      refine tw_get_4 F hinX7 hw kf15 dX7_goesOn_39 ?_
      refine lv_if_ne (tgt := 53) hx hb dX7_goesOn_42 (by decide) (fun c6 => ?_) (fun c6 => ?_)
      · have hf := g_f c6 hf
        refine lv_iload_n hx hb dX7_goesOn_53 rfl (lv_at hl 0 rfl) ?_
        refine lv_iload_n hx hb dX7_goesOn_54 rfl (lv_at hl 1 rfl) ?_
        obtain ⟨r8, h7, hf⟩ := g_b1 hf
        refine g_sI F (As := [.int y4, .int r2]) (rest := []) (ctt_fitsStory h7) (va_cwS 2 hts gX7_goesOn_X7_fitsStory rfl rfl rfl (by decide +kernel) ⟨Nat.le_of_ble_eq_true rfl, Nat.le_of_ble_eq_true rfl⟩) hw rfl hl.1 rfl (Nat.le_of_ble_eq_true rfl) dX7_goesOn_55 (fun H locs hw => ?_)
        exact hret r8 _ _ _ _ _ (g_i1 hf) (congrArg (fun t => tw ty ad K σ tx kr t wr) (g_i2 hf)) hw dX7_goesOn_58
      · have hf := g_t c6 hf
        refine lv_iload_n hx hb dX7_goesOn_45 rfl (lv_at hl 0 rfl) ?_
        refine lv_iload_n hx hb dX7_goesOn_46 rfl (lv_at hl 1 rfl) ?_
        obtain ⟨r10, h9, hf⟩ := g_b1 hf
        refine g_sI F (As := [.int y4, .int r2]) (rest := []) (ctt_fitsGate h9) (va_cwS 2 hts gX7_goesOn_X7_fitsGate rfl rfl rfl (by decide +kernel) ⟨Nat.le_of_ble_eq_true rfl, Nat.le_of_ble_eq_true rfl⟩) hw rfl hl.1 rfl (Nat.le_of_ble_eq_true rfl) dX7_goesOn_47 (fun H locs hw => ?_)
        refine lv_goto (tgt := 58) hx hb dX7_goesOn_50 (by decide) ?_
        exact hret r10 _ _ _ _ _ (g_i1 hf) (congrArg (fun t => tw ty ad K σ tx kr t wr) (g_i2 hf)) hw dX7_goesOn_58
    · have hf := g_t c5 hf
      refine lv_aload_n hx hb dX7_goesOn_32 rfl (lv_at hl 2 rfl) ?_
      refine lv_iload_n hx hb dX7_goesOn_33 rfl (lv_at hl 1 rfl) ?_
      obtain ⟨r12, τ13, h11, hf⟩ := g_b2 hf
      refine g_cI F (As := [.int r2]) (rest := []) (ctt_beginsItem h11) (cwV 1 hts gX7_goesOn_X7_beginsItem rfl rfl rfl (by decide +kernel) ⟨Nat.le_of_ble_eq_true rfl, Nat.le_of_ble_eq_true rfl⟩) hw (hw.recv (ci := 7) (q0 := 27) rfl rfl rfl) rfl hl.1 rfl (Nat.le_of_ble_eq_true rfl) dX7_goesOn_34 (fun H locs hw => ?_)
      exact hret r12 _ _ _ _ _ (g_i1 hf) (congrArg (fun t => tw ty ad K σ tx kr t wr) (g_i2 hf)) hw dX7_goesOn_37
  · have hf := g_t c3 hf
    refine lv_iload_n hx hb dX7_goesOn_10 rfl (lv_at hl 0 rfl) ?_
    refine lv_bipush (v := 106) hx hb dX7_goesOn_11 (by decide) ?_
    refine lv_icmp_ne (tgt := 20) hx hb dX7_goesOn_13 (by decide) (fun c14 => ?_) (fun c14 => ?_)
    · have hf := g_f c14 hf
      refine lv_iconst (v := 0) hx hb dX7_goesOn_20 (by decide) ?_
      exact hret false _ _ _ _ _ (g_i1 hf) (congrArg (fun t => tw ty ad K σ tx kr t wr) (g_i2 hf)) hw dX7_goesOn_21
    · have hf := g_t c14 hf
      refine lv_iconst (v := 1) hx hb dX7_goesOn_16 (by decide) ?_
      refine lv_goto (tgt := 21) hx hb dX7_goesOn_17 (by decide) ?_
      exact hret true _ _ _ _ _ (g_i1 hf) (congrArg (fun t => tw ty ad K σ tx kr t wr) (g_i2 hf)) hw dX7_goesOn_21

abbrev rm_tt_firstFault : Room := { frames := 4, cells := 0, slots := 0, locals := 86 }
set_option maxHeartbeats 4000000 in
set_option maxRecDepth 100000 in
theorem ctt_firstFault {l : Launch} {D : va_G} {ty : gT} {A : Nat → Prop} {ad : Nat → Nat} {K : gK} {wr : va_W} {tx : Nat} {σ : gS} {kr : Nat} {τ : gS} {r : Int32} {σ' : gS} (hf : tt_firstFault σ kr τ = some (r, σ')) : gI l D ty A yX7_firstFault wsX7_firstFault rm_tt_firstFault [.ref tx] (tw ty ad K σ tx kr τ wr) r (tw ty ad K σ tx kr σ' wr) := by
  refine gI_enter (cc := cX7_firstFault) (maxL := 2) (by decide) rfl (Nat.le_of_ble_eq_true rfl) ?_
  intro p e s m args below meth c Q ls F hl hw hret
  have F : CallFix p m c cX7_firstFault 2 s args wsX7_firstFault RX7 := F
  obtain ⟨hx, hb, hml, hown, hts⟩ := id F
  have hl : lv_has ls 2 [(0, .ref tx)] := hl
  have hinX7 : ∀ w ∈ wsX70, w ∈ wsX7_firstFault := by first | exact fun w h => List.mem_cons_of_mem _ (List.mem_append_left _ (List.mem_append_right _ h)) | decide +kernel
  have kf15 := hts (.fieldLink RX7 15 "GossipGate$Text" "storyCount" "I") (by decide +kernel)
  have kf25 := hts (.fieldLink RX7 25 "GossipGate$Text" "length" "I") (by decide +kernel)
  have B48 : ∀ (s0 : Int32) (τ : gS) (H : Heap) (locs : List Loc) (ls : Array Slot), lv_has ls 2 [(0, .ref tx)] → gW D ty A (tw ty ad K σ tx kr τ wr) s s.heap H locs → tt_firstFault_b48 σ kr s0 τ = some (r, σ') → W p l e rm_tt_firstFault s m args below meth c H locs 0 0 Q (F0 m 48 ls [.int s0]) := by
    intro s0 τ H locs ls hl hw hf
    unfold tt_firstFault_b48 at hf
    refine lv_istore_n (lv' := [(1, .int s0), (0, .ref tx)]) hx hb dX7_firstFault_48 rfl hl (by decide) rfl (fun ls hl => ?_)
    refine lv_iload_n hx hb dX7_firstFault_49 rfl (lv_at hl 0 rfl) ?_
    refine lv_if_eq (tgt := 58) hx hb dX7_firstFault_50 (by decide) (fun c1 => ?_) (fun c1 => ?_)
    · have hf := g_t c1 hf
      refine lv_aload_n hx hb dX7_firstFault_58 rfl (lv_at hl 1 rfl) ?_
      refine tw_get_2 F hinX7 hw kf25 dX7_firstFault_59 ?_
      exact hret (τ.1 1) _ _ _ _ _ (g_i1 hf) (congrArg (fun t => tw ty ad K σ tx kr t wr) (g_i2 hf)) hw dX7_firstFault_62
    · have hf := g_f c1 hf
      refine lv_bipush (v := (-9)) hx hb dX7_firstFault_53 (by decide) ?_
      refine lv_goto (tgt := 62) hx hb dX7_firstFault_55 (by decide) ?_
      exact hret (-9) _ _ _ _ _ (g_i1 hf) (congrArg (fun t => tw ty ad K σ tx kr t wr) (g_i2 hf)) hw dX7_firstFault_62
  have B47 : ∀  (τ : gS) (H : Heap) (locs : List Loc) (ls : Array Slot), lv_has ls 2 [(0, .ref tx)] → gW D ty A (tw ty ad K σ tx kr τ wr) s s.heap H locs → tt_firstFault_b47 σ kr τ = some (r, σ') → W p l e rm_tt_firstFault s m args below meth c H locs 0 0 Q (F0 m 47 ls []) := by
    intro τ H locs ls hl hw hf
    unfold tt_firstFault_b47 at hf
    refine lv_iconst (v := 0) hx hb dX7_firstFault_47 (by decide) ?_
    exact B48 0 τ _ _ _ (lv_sub hl [0] rfl) hw hf
  have B2 : ∀ (n2 : Nat) (v1 : Int32) (τ : gS) (H : Heap) (locs : List Loc) (ls : Array Slot), lv_has ls 2 [(0, .ref tx), (1, .int v1)] → gW D ty A (tw ty ad K σ tx kr τ wr) s s.heap H locs → tt_firstFault_b2 σ kr n2 v1 τ = some (r, σ') → W p l e rm_tt_firstFault s m args below meth c H locs 0 0 Q (F0 m 2 ls []) := by
    intro n2
    induction n2 with
    | zero => intro v1 τ H locs ls hl hw hf; cases hf
    | succ n2 ih2 =>
      intro v1 τ H locs ls hl hw hf
      rw [tt_firstFault_b2] at hf
      refine lv_iload_n hx hb dX7_firstFault_2 rfl (lv_at hl 1 rfl) ?_
      refine lv_aload_n hx hb dX7_firstFault_3 rfl (lv_at hl 0 rfl) ?_
      refine tw_get_2 F hinX7 hw kf25 dX7_firstFault_4 ?_
      refine lv_icmp_ge (tgt := 26) hx hb dX7_firstFault_7 (by decide) (fun c2 => ?_) (fun c2 => ?_)
      · have hf := g_t c2 hf
        refine lv_aload_n hx hb dX7_firstFault_26 rfl (lv_at hl 0 rfl) ?_
        refine tw_get_4 F hinX7 hw kf15 dX7_firstFault_27 ?_
        refine lv_if_le (tgt := 47) hx hb dX7_firstFault_30 (by decide) (fun c3 => ?_) (fun c3 => ?_)
        · have hf := g_t c3 hf
          exact B47 τ _ _ _ (lv_sub hl [0] rfl) hw hf
        · have hf := g_f c3 hf
          refine lv_aload_n hx hb dX7_firstFault_33 rfl (lv_at hl 0 rfl) ?_
          refine tw_get_2 F hinX7 hw kf25 dX7_firstFault_34 ?_
          refine lv_iconst (v := 4) hx hb dX7_firstFault_37 (by decide) ?_
          refine lv_irem hx hb dX7_firstFault_38 (by decide) ?_
          refine lv_iconst (v := 1) hx hb dX7_firstFault_39 (by decide) ?_
          refine lv_icmp_ne (tgt := 47) hx hb dX7_firstFault_40 (by decide) (fun c4 => ?_) (fun c4 => ?_)
          · have hf := g_f c4 hf
            exact B47 τ _ _ _ (lv_sub hl [0] rfl) hw hf
          · have hf := g_t c4 hf
            refine lv_iconst (v := 1) hx hb dX7_firstFault_43 (by decide) ?_
            refine lv_goto (tgt := 48) hx hb dX7_firstFault_44 (by decide) ?_
            exact B48 1 τ _ _ _ (lv_sub hl [0] rfl) hw hf
      · have hf := g_f c2 hf
        refine lv_aload_n hx hb dX7_firstFault_10 rfl (lv_at hl 0 rfl) ?_
        refine lv_iload_n hx hb dX7_firstFault_11 rfl (lv_at hl 1 rfl) ?_
        obtain ⟨r6, τ7, h5, hf⟩ := g_b2 hf
        refine g_cI F (As := [.int v1]) (rest := []) (ctt_goesOn h5) (cwV 1 hts gX7_firstFault_X7_goesOn rfl rfl rfl (by decide +kernel) ⟨Nat.le_of_ble_eq_true rfl, Nat.le_of_ble_eq_true rfl⟩) hw (hw.recv (ci := 7) (q0 := 27) rfl rfl rfl) rfl hl.1 rfl (Nat.le_of_ble_eq_true rfl) dX7_firstFault_12 (fun H locs hw => ?_)
        refine lv_if_ne (tgt := 20) hx hb dX7_firstFault_15 (by decide) (fun c8 => ?_) (fun c8 => ?_)
        · have hf := g_t (bI_nz c8) hf
          refine lv_iinc (v := v1 + 1) (lv' := [(1, .int (v1 + 1)), (0, .ref tx)]) hx hb dX7_firstFault_20 hl (k := 1) rfl rfl (by decide) rfl (fun ls hl => ?_)
          refine lv_goto (tgt := 2) hx hb dX7_firstFault_23 (by decide) ?_
          exact ih2 (v1 + 1) τ7 _ _ _ (lv_sub hl [1, 0] rfl) hw hf
        · have hf := g_f (bI_z c8) hf
          refine lv_iload_n hx hb dX7_firstFault_18 rfl (lv_at hl 1 rfl) ?_
          exact hret v1 _ _ _ _ _ (g_i1 hf) (congrArg (fun t => tw ty ad K σ tx kr t wr) (g_i2 hf)) hw dX7_firstFault_19
  unfold tt_firstFault at hf
  refine lv_iconst (v := 0) hx hb dX7_firstFault_0 (by decide) ?_
  refine lv_istore_n (lv' := [(1, .int 0), (0, .ref tx)]) hx hb dX7_firstFault_1 rfl hl (by decide) rfl (fun ls hl => ?_)
  exact B2 1000 0 τ _ _ _ (lv_sub hl [1, 0] rfl) hw hf

abbrev rm_tt_gateKind : Room := { frames := 3, cells := 0, slots := 0, locals := 63 }
set_option maxHeartbeats 4000000 in
set_option maxRecDepth 100000 in
theorem ctt_gateKind {l : Launch} {D : va_G} {ty : gT} {A : Nat → Prop} {ad : Nat → Nat} {K : gK} {wr : va_W} {tx : Nat} {σ : gS} {kr : Nat} {x1 : Int32} {τ : gS} {r : Int32} (hf : tt_gateKind σ kr τ x1 = some r) : gI l D ty A yX7_gateKind wsX7_gateKind rm_tt_gateKind [.ref tx, .int x1] (tw ty ad K σ tx kr τ wr) r (tw ty ad K σ tx kr τ wr) := by
  refine gI_enter (cc := cX7_gateKind) (maxL := 2) (by decide) rfl (Nat.le_of_ble_eq_true rfl) ?_
  intro p e s m args below meth c Q ls F hl hw hret
  have F : CallFix p m c cX7_gateKind 2 s args wsX7_gateKind RX7 := F
  obtain ⟨hx, hb, hml, hown, hts⟩ := id F
  have hl : lv_has ls 2 [(0, .ref tx), (1, .int x1)] := hl
  unfold tt_gateKind at hf
  refine lv_aload_n hx hb dX7_gateKind_0 rfl (lv_at hl 0 rfl) ?_
  refine lv_iconst (v := 1) hx hb dX7_gateKind_1 (by decide) ?_
  refine lv_iconst (v := 4) hx hb dX7_gateKind_2 (by decide) ?_
  refine lv_iload_n hx hb dX7_gateKind_3 rfl (lv_at hl 1 rfl) ?_
  refine lv_imul hx hb dX7_gateKind_4 ?_
  refine lv_iadd hx hb dX7_gateKind_5 ?_
  refine lv_iconst (v := 1) hx hb dX7_gateKind_6 (by decide) ?_
  refine lv_iadd hx hb dX7_gateKind_7 ?_
  obtain ⟨r2, h1, hf⟩ := g_b1 hf
  refine g_cI F (As := [.int (((1 : Int32) + ((4 : Int32) * x1)) + 1)]) (rest := []) (ctt_codeAt h1) (cwV 1 hts gX7_gateKind_X7_codeAt rfl rfl rfl (by decide +kernel) ⟨Nat.le_of_ble_eq_true rfl, Nat.le_of_ble_eq_true rfl⟩) hw (hw.recv (ci := 7) (q0 := 27) rfl rfl rfl) rfl hl.1 rfl (Nat.le_of_ble_eq_true rfl) dX7_gateKind_8 (fun H locs hw => ?_)
  obtain ⟨r4, h3, hf⟩ := g_b1 hf
  refine g_sI F (As := [.int r2]) (rest := []) (ctt_kindOf h3) (va_cwS 1 hts gX7_gateKind_X7_kindOf rfl rfl rfl (by decide +kernel) ⟨Nat.le_of_ble_eq_true rfl, Nat.le_of_ble_eq_true rfl⟩) hw rfl hl.1 rfl (Nat.le_of_ble_eq_true rfl) dX7_gateKind_11 (fun H locs hw => ?_)
  exact hret r4 _ _ _ _ _ (Option.some.inj hf) rfl hw dX7_gateKind_14

abbrev rm_tt_gateDigit : Room := { frames := 3, cells := 0, slots := 0, locals := 63 }
set_option maxHeartbeats 4000000 in
set_option maxRecDepth 100000 in
theorem ctt_gateDigit {l : Launch} {D : va_G} {ty : gT} {A : Nat → Prop} {ad : Nat → Nat} {K : gK} {wr : va_W} {tx : Nat} {σ : gS} {kr : Nat} {x1 : Int32} {x2 : Int32} {τ : gS} {r : Int32} (hf : tt_gateDigit σ kr τ x1 x2 = some r) : gI l D ty A yX7_gateDigit wsX7_gateDigit rm_tt_gateDigit [.ref tx, .int x1, .int x2] (tw ty ad K σ tx kr τ wr) r (tw ty ad K σ tx kr τ wr) := by
  refine gI_enter (cc := cX7_gateDigit) (maxL := 3) (by decide) rfl (Nat.le_of_ble_eq_true rfl) ?_
  intro p e s m args below meth c Q ls F hl hw hret
  have F : CallFix p m c cX7_gateDigit 3 s args wsX7_gateDigit RX7 := F
  obtain ⟨hx, hb, hml, hown, hts⟩ := id F
  have hl : lv_has ls 3 [(0, .ref tx), (1, .int x1), (2, .int x2)] := hl
  unfold tt_gateDigit at hf
  refine lv_aload_n hx hb dX7_gateDigit_0 rfl (lv_at hl 0 rfl) ?_
  refine lv_iconst (v := 1) hx hb dX7_gateDigit_1 (by decide) ?_
  refine lv_iconst (v := 4) hx hb dX7_gateDigit_2 (by decide) ?_
  refine lv_iload_n hx hb dX7_gateDigit_3 rfl (lv_at hl 1 rfl) ?_
  refine lv_imul hx hb dX7_gateDigit_4 ?_
  refine lv_iadd hx hb dX7_gateDigit_5 ?_
  refine lv_iload_n hx hb dX7_gateDigit_6 rfl (lv_at hl 2 rfl) ?_
  refine lv_iadd hx hb dX7_gateDigit_7 ?_
  obtain ⟨r2, h1, hf⟩ := g_b1 hf
  refine g_cI F (As := [.int (((1 : Int32) + ((4 : Int32) * x1)) + x2)]) (rest := []) (ctt_codeAt h1) (cwV 1 hts gX7_gateDigit_X7_codeAt rfl rfl rfl (by decide +kernel) ⟨Nat.le_of_ble_eq_true rfl, Nat.le_of_ble_eq_true rfl⟩) hw (hw.recv (ci := 7) (q0 := 27) rfl rfl rfl) rfl hl.1 rfl (Nat.le_of_ble_eq_true rfl) dX7_gateDigit_8 (fun H locs hw => ?_)
  refine lv_bipush (v := 48) hx hb dX7_gateDigit_11 (by decide) ?_
  refine lv_isub hx hb dX7_gateDigit_13 ?_
  exact hret (r2 - 48) _ _ _ _ _ (Option.some.inj hf) rfl hw dX7_gateDigit_14

abbrev rm_tt_storyDigit : Room := { frames := 4, cells := 0, slots := 0, locals := 85 }
set_option maxHeartbeats 4000000 in
set_option maxRecDepth 100000 in
theorem ctt_storyDigit {l : Launch} {D : va_G} {ty : gT} {A : Nat → Prop} {ad : Nat → Nat} {K : gK} {wr : va_W} {tx : Nat} {σ : gS} {kr : Nat} {x1 : Int32} {x2 : Int32} {τ : gS} {r : Int32} (hf : tt_storyDigit σ kr τ x1 x2 = some r) : gI l D ty A yX7_storyDigit wsX7_storyDigit rm_tt_storyDigit [.ref tx, .int x1, .int x2] (tw ty ad K σ tx kr τ wr) r (tw ty ad K σ tx kr τ wr) := by
  refine gI_enter (cc := cX7_storyDigit) (maxL := 3) (by decide) rfl (Nat.le_of_ble_eq_true rfl) ?_
  intro p e s m args below meth c Q ls F hl hw hret
  have F : CallFix p m c cX7_storyDigit 3 s args wsX7_storyDigit RX7 := F
  obtain ⟨hx, hb, hml, hown, hts⟩ := id F
  have hl : lv_has ls 3 [(0, .ref tx), (1, .int x1), (2, .int x2)] := hl
  have hinX7 : ∀ w ∈ wsX70, w ∈ wsX7_storyDigit := by first | exact fun w h => List.mem_cons_of_mem _ (List.mem_append_left _ (List.mem_append_right _ h)) | decide +kernel
  have kf9 := hts (.fieldLink RX7 9 "GossipGate$Text" "gateCount" "I") (by decide +kernel)
  unfold tt_storyDigit at hf
  refine lv_aload_n hx hb dX7_storyDigit_0 rfl (lv_at hl 0 rfl) ?_
  refine lv_aload_n hx hb dX7_storyDigit_1 rfl (lv_at hl 0 rfl) ?_
  refine tw_get_3 F hinX7 hw kf9 dX7_storyDigit_2 ?_
  refine lv_iload_n hx hb dX7_storyDigit_5 rfl (lv_at hl 1 rfl) ?_
  refine lv_iadd hx hb dX7_storyDigit_6 ?_
  refine lv_iload_n hx hb dX7_storyDigit_7 rfl (lv_at hl 2 rfl) ?_
  obtain ⟨r2, h1, hf⟩ := g_b1 hf
  refine g_cI F (As := [.int ((τ.1 2) + x1), .int x2]) (rest := []) (ctt_gateDigit h1) (cwV 2 hts gX7_storyDigit_X7_gateDigit rfl rfl rfl (by decide +kernel) ⟨Nat.le_of_ble_eq_true rfl, Nat.le_of_ble_eq_true rfl⟩) hw (hw.recv (ci := 7) (q0 := 27) rfl rfl rfl) rfl hl.1 rfl (Nat.le_of_ble_eq_true rfl) dX7_storyDigit_8 (fun H locs hw => ?_)
  exact hret r2 _ _ _ _ _ (Option.some.inj hf) rfl hw dX7_storyDigit_11

abbrev rm_ct_penceOf : Room := { frames := 0, cells := 0, slots := 0, locals := 0 }
set_option maxHeartbeats 4000000 in
set_option maxRecDepth 100000 in
theorem cct_penceOf {l : Launch} {D : va_G} {ty : gT} {A : Nat → Prop} {ws : va_W} {x1 : Int32} {r : Int32} (hf : ct_penceOf x1 = some r) : gI l D ty A yX8_penceOf wsX8_penceOf rm_ct_penceOf [.int x1] ws r ws := by
  refine gI_enter (cc := cX8_penceOf) (maxL := 1) (by decide) rfl (Nat.le_of_ble_eq_true rfl) ?_
  intro p e s m args below meth c Q ls F hl hw hret
  have F : CallFix p m c cX8_penceOf 1 s args wsX8_penceOf RX8 := F
  obtain ⟨hx, hb, hml, hown, hts⟩ := id F
  have hl : lv_has ls 1 [(0, .int x1)] := hl
  unfold ct_penceOf at hf
  refine lv_iload_n hx hb dX8_penceOf_0 rfl (lv_at hl 0 rfl) ?_
  refine lv_bipush (v := 18) hx hb dX8_penceOf_1 (by decide) ?_
  refine lv_ishr hx hb dX8_penceOf_3 ?_
  exact hret (x1 >>> (18 &&& 31)) _ _ _ _ _ (Option.some.inj hf) rfl hw dX8_penceOf_4

abbrev rm_ct_spotShift : Room := { frames := 0, cells := 0, slots := 0, locals := 0 }
set_option maxHeartbeats 4000000 in
set_option maxRecDepth 100000 in
theorem cct_spotShift {l : Launch} {D : va_G} {ty : gT} {A : Nat → Prop} {ws : va_W} {x1 : Int32} {r : Int32} (hf : ct_spotShift x1 = some r) : gI l D ty A yX8_spotShift wsX8_spotShift rm_ct_spotShift [.int x1] ws r ws := by
  refine gI_enter (cc := cX8_spotShift) (maxL := 1) (by decide) rfl (Nat.le_of_ble_eq_true rfl) ?_
  intro p e s m args below meth c Q ls F hl hw hret
  have F : CallFix p m c cX8_spotShift 1 s args wsX8_spotShift RX8 := F
  obtain ⟨hx, hb, hml, hown, hts⟩ := id F
  have hl : lv_has ls 1 [(0, .int x1)] := hl
  unfold ct_spotShift at hf
  refine lv_bipush (v := 6) hx hb dX8_spotShift_0 (by decide) ?_
  refine lv_iconst (v := 2) hx hb dX8_spotShift_2 (by decide) ?_
  refine lv_iload_n hx hb dX8_spotShift_3 rfl (lv_at hl 0 rfl) ?_
  refine lv_isub hx hb dX8_spotShift_4 ?_
  refine lv_imul hx hb dX8_spotShift_5 ?_
  exact hret ((6 : Int32) * ((2 : Int32) - x1)) _ _ _ _ _ (Option.some.inj hf) rfl hw dX8_spotShift_6

abbrev rm_ct_spotOf : Room := { frames := 1, cells := 0, slots := 0, locals := 20 }
set_option maxHeartbeats 4000000 in
set_option maxRecDepth 100000 in
theorem cct_spotOf {l : Launch} {D : va_G} {ty : gT} {A : Nat → Prop} {ws : va_W} {x1 : Int32} {x2 : Int32} {r : Int32} (hf : ct_spotOf x1 x2 = some r) : gI l D ty A yX8_spotOf wsX8_spotOf rm_ct_spotOf [.int x1, .int x2] ws r ws := by
  refine gI_enter (cc := cX8_spotOf) (maxL := 2) (by decide) rfl (Nat.le_of_ble_eq_true rfl) ?_
  intro p e s m args below meth c Q ls F hl hw hret
  have F : CallFix p m c cX8_spotOf 2 s args wsX8_spotOf RX8 := F
  obtain ⟨hx, hb, hml, hown, hts⟩ := id F
  have hl : lv_has ls 2 [(0, .int x1), (1, .int x2)] := hl
  unfold ct_spotOf at hf
  refine lv_iload_n hx hb dX8_spotOf_0 rfl (lv_at hl 0 rfl) ?_
  refine lv_iload_n hx hb dX8_spotOf_1 rfl (lv_at hl 1 rfl) ?_
  obtain ⟨r2, h1, hf⟩ := g_b1 hf
  refine g_sI F (As := [.int x2]) (rest := [.int x1]) (cct_spotShift h1) (va_cwS 1 hts gX8_spotOf_X8_spotShift rfl rfl rfl (by decide +kernel) ⟨Nat.le_of_ble_eq_true rfl, Nat.le_of_ble_eq_true rfl⟩) hw rfl hl.1 rfl (Nat.le_of_ble_eq_true rfl) dX8_spotOf_2 (fun H locs hw => ?_)
  refine lv_ishr hx hb dX8_spotOf_5 ?_
  refine lv_bipush (v := 63) hx hb dX8_spotOf_6 (by decide) ?_
  refine lv_iand hx hb dX8_spotOf_8 ?_
  exact hret ((x1 >>> (r2 &&& 31)) &&& 63) _ _ _ _ _ (Option.some.inj hf) rfl hw dX8_spotOf_9

abbrev rm_ct_stands : Room := { frames := 0, cells := 0, slots := 0, locals := 0 }
set_option maxHeartbeats 4000000 in
set_option maxRecDepth 100000 in
theorem cct_stands {l : Launch} {D : va_G} {ty : gT} {A : Nat → Prop} {ad : Nat → Nat} {wr : va_W} {G : Nat} {S : Nat} {X : gC} {r : Bool} (hf : ct_stands G S X = some r) : gI l D ty A yX8_stands wsX8_stands rm_ct_stands [.ref (ad 10)] (cw ty ad G S X wr) (bI r) (cw ty ad G S X wr) := by
  refine gZ_enter (cc := cX8_stands) (maxL := 1) (by decide) rfl (Nat.le_of_ble_eq_true rfl) ?_
  intro p e s m args below meth c Q ls F hl hw hret
  have F : CallFix p m c cX8_stands 1 s args wsX8_stands RX8 := F
  obtain ⟨hx, hb, hml, hown, hts⟩ := id F
  have hl : lv_has ls 1 [(0, .ref (ad 10))] := hl
  have hinX8 : ∀ w ∈ wsX80, w ∈ wsX8_stands := by first | exact fun w h => List.mem_cons_of_mem _ (List.mem_append_right _ h) | decide +kernel
  have kf19 := hts (.fieldLink RX8 19 "GossipGate$Town" "stories" "[LGossipGate$Story;") (by decide +kernel)
  unfold ct_stands at hf
  refine lv_aload_n hx hb dX8_stands_0 rfl (lv_at hl 0 rfl) ?_
  refine cf_get_X8_1 F hinX8 hw kf19 dX8_stands_1 ?_
  refine cf_len_12 F hw dX8_stands_4 ?_
  refine lv_if_le (tgt := 12) hx hb dX8_stands_5 (by decide) (fun c1 => ?_) (fun c1 => ?_)
  · have hf := g_t c1 hf
    refine lv_iconst (v := 0) hx hb dX8_stands_12 (by decide) ?_
    exact hret false _ _ _ _ _ (Option.some.inj hf) rfl hw dX8_stands_13
  · have hf := g_f c1 hf
    refine lv_iconst (v := 1) hx hb dX8_stands_8 (by decide) ?_
    refine lv_goto (tgt := 13) hx hb dX8_stands_9 (by decide) ?_
    exact hret true _ _ _ _ _ (Option.some.inj hf) rfl hw dX8_stands_13

abbrev rm_ct_gateAt : Room := { frames := 0, cells := 0, slots := 0, locals := 0 }
set_option maxHeartbeats 4000000 in
set_option maxRecDepth 100000 in
theorem cct_gateAt {l : Launch} {D : va_G} {ty : gT} {A : Nat → Prop} {ad : Nat → Nat} {wr : va_W} {G : Nat} {S : Nat} {x1 : Int32} {X : gC} {r : (Option Nat)} (hf : ct_gateAt G S X x1 = some r) : gQ l D ty A yX8_gateAt wsX8_gateAt rm_ct_gateAt [.ref (ad 10), .int x1] (cw ty ad G S X wr) (Option.map (fun k => ad (100 + k)) r) (cw ty ad G S X wr) := by
  refine gQ_enter (cc := cX8_gateAt) (maxL := 2) (by decide) rfl (Nat.le_of_ble_eq_true rfl) ?_
  intro p e s m args below meth c Q ls F hl hw hret
  have F : CallFix p m c cX8_gateAt 2 s args wsX8_gateAt RX8 := F
  obtain ⟨hx, hb, hml, hown, hts⟩ := id F
  have hl : lv_has ls 2 [(0, .ref (ad 10)), (1, .int x1)] := hl
  have hinX8 : ∀ w ∈ wsX80, w ∈ wsX8_gateAt := by first | exact fun w h => List.mem_cons_of_mem _ (List.mem_append_right _ h) | decide +kernel
  have kf11 := hts (.fieldLink RX8 11 "GossipGate$Town" "gates" "[LGossipGate$Gate;") (by decide +kernel)
  unfold ct_gateAt at hf
  refine lv_iload_n hx hb dX8_gateAt_0 rfl (lv_at hl 1 rfl) ?_
  refine lv_if_lt (tgt := 22) hx hb dX8_gateAt_1 (by decide) (fun c1 => ?_) (fun c1 => ?_)
  · have hf := g_t c1 hf
    refine lv_null hx hb dX8_gateAt_22 ?_
    exact hret none _ _ _ _ _ (congrArg (Option.map (fun k => ad (100 + k))) (Option.some.inj hf)) rfl hw dX8_gateAt_23
  · have hf := g_f c1 hf
    refine lv_iload_n hx hb dX8_gateAt_4 rfl (lv_at hl 1 rfl) ?_
    refine lv_aload_n hx hb dX8_gateAt_5 rfl (lv_at hl 0 rfl) ?_
    refine cf_get_X8_0 F hinX8 hw kf11 dX8_gateAt_6 ?_
    refine cf_len_11 F hw dX8_gateAt_9 ?_
    refine lv_icmp_ge (tgt := 22) hx hb dX8_gateAt_10 (by decide) (fun c2 => ?_) (fun c2 => ?_)
    · have hf := g_t c2 hf
      refine lv_null hx hb dX8_gateAt_22 ?_
      exact hret none _ _ _ _ _ (congrArg (Option.map (fun k => ad (100 + k))) (Option.some.inj hf)) rfl hw dX8_gateAt_23
    · have hf := g_f c2 hf
      refine lv_aload_n hx hb dX8_gateAt_13 rfl (lv_at hl 0 rfl) ?_
      refine cf_get_X8_0 F hinX8 hw kf11 dX8_gateAt_14 ?_
      refine lv_iload_n hx hb dX8_gateAt_17 rfl (lv_at hl 1 rfl) ?_
      obtain ⟨g3, hf⟩ := g_g hf
      refine cw_gates F hw g3 dX8_gateAt_18 ?_
      refine lv_goto (tgt := 23) hx hb dX8_gateAt_19 (by decide) ?_
      exact hret (some (ad (100 + x1.toNatClampNeg))) _ _ _ _ _ (congrArg (Option.map (fun k => ad (100 + k))) (Option.some.inj hf)) rfl hw dX8_gateAt_23

abbrev rm_ct_storyAt : Room := { frames := 0, cells := 0, slots := 0, locals := 0 }
set_option maxHeartbeats 4000000 in
set_option maxRecDepth 100000 in
theorem cct_storyAt {l : Launch} {D : va_G} {ty : gT} {A : Nat → Prop} {ad : Nat → Nat} {wr : va_W} {G : Nat} {S : Nat} {x1 : Int32} {X : gC} {r : (Option Nat)} (hf : ct_storyAt G S X x1 = some r) : gQ l D ty A yX8_storyAt wsX8_storyAt rm_ct_storyAt [.ref (ad 10), .int x1] (cw ty ad G S X wr) (Option.map (fun k => ad (200 + k)) r) (cw ty ad G S X wr) := by
  refine gQ_enter (cc := cX8_storyAt) (maxL := 2) (by decide) rfl (Nat.le_of_ble_eq_true rfl) ?_
  intro p e s m args below meth c Q ls F hl hw hret
  have F : CallFix p m c cX8_storyAt 2 s args wsX8_storyAt RX8 := F
  obtain ⟨hx, hb, hml, hown, hts⟩ := id F
  have hl : lv_has ls 2 [(0, .ref (ad 10)), (1, .int x1)] := hl
  have hinX8 : ∀ w ∈ wsX80, w ∈ wsX8_storyAt := by first | exact fun w h => List.mem_cons_of_mem _ (List.mem_append_right _ h) | decide +kernel
  have kf19 := hts (.fieldLink RX8 19 "GossipGate$Town" "stories" "[LGossipGate$Story;") (by decide +kernel)
  unfold ct_storyAt at hf
  refine lv_iload_n hx hb dX8_storyAt_0 rfl (lv_at hl 1 rfl) ?_
  refine lv_if_lt (tgt := 22) hx hb dX8_storyAt_1 (by decide) (fun c1 => ?_) (fun c1 => ?_)
  · have hf := g_t c1 hf
    refine lv_null hx hb dX8_storyAt_22 ?_
    exact hret none _ _ _ _ _ (congrArg (Option.map (fun k => ad (200 + k))) (Option.some.inj hf)) rfl hw dX8_storyAt_23
  · have hf := g_f c1 hf
    refine lv_iload_n hx hb dX8_storyAt_4 rfl (lv_at hl 1 rfl) ?_
    refine lv_aload_n hx hb dX8_storyAt_5 rfl (lv_at hl 0 rfl) ?_
    refine cf_get_X8_1 F hinX8 hw kf19 dX8_storyAt_6 ?_
    refine cf_len_12 F hw dX8_storyAt_9 ?_
    refine lv_icmp_ge (tgt := 22) hx hb dX8_storyAt_10 (by decide) (fun c2 => ?_) (fun c2 => ?_)
    · have hf := g_t c2 hf
      refine lv_null hx hb dX8_storyAt_22 ?_
      exact hret none _ _ _ _ _ (congrArg (Option.map (fun k => ad (200 + k))) (Option.some.inj hf)) rfl hw dX8_storyAt_23
    · have hf := g_f c2 hf
      refine lv_aload_n hx hb dX8_storyAt_13 rfl (lv_at hl 0 rfl) ?_
      refine cf_get_X8_1 F hinX8 hw kf19 dX8_storyAt_14 ?_
      refine lv_iload_n hx hb dX8_storyAt_17 rfl (lv_at hl 1 rfl) ?_
      obtain ⟨g3, hf⟩ := g_g hf
      refine cw_stories F hw g3 dX8_storyAt_18 ?_
      refine lv_goto (tgt := 23) hx hb dX8_storyAt_19 (by decide) ?_
      exact hret (some (ad (200 + x1.toNatClampNeg))) _ _ _ _ _ (congrArg (Option.map (fun k => ad (200 + k))) (Option.some.inj hf)) rfl hw dX8_storyAt_23

abbrev rm_ct_dutyOf : Room := { frames := 2, cells := 0, slots := 0, locals := 44 }
set_option maxHeartbeats 4000000 in
set_option maxRecDepth 100000 in
theorem cct_dutyOf {l : Launch} {D : va_G} {ty : gT} {A : Nat → Prop} {ad : Nat → Nat} {wr : va_W} {G : Nat} {S : Nat} {x1 : Nat} {x2 : Nat} {x3 : Int32} {x4 : Int32} {X : gC} {r : Int32} (hf : ct_dutyOf G S X x1 x2 x3 x4 = some r) : gI l D ty A yX8_dutyOf wsX8_dutyOf rm_ct_dutyOf [.ref (ad 10), .ref (ad (100 + x1)), .ref (ad (200 + x2)), .int x3, .int x4] (cw ty ad G S X wr) r (cw ty ad G S X wr) := by
  refine gI_enter (cc := cX8_dutyOf) (maxL := 6) (by decide) rfl (Nat.le_of_ble_eq_true rfl) ?_
  intro p e s m args below meth c Q ls F hl hw hret
  have F : CallFix p m c cX8_dutyOf 6 s args wsX8_dutyOf RX8 := F
  obtain ⟨hx, hb, hml, hown, hts⟩ := id F
  have hl : lv_has ls 6 [(0, .ref (ad 10)), (1, .ref (ad (100 + x1))), (2, .ref (ad (200 + x2))), (3, .int x3), (4, .int x4)] := hl
  have hinX0 : ∀ w ∈ wsX00, w ∈ wsX8_dutyOf := by first | exact fun w h => List.mem_cons_of_mem _ (List.mem_append_left _ (List.mem_append_left _ (List.mem_append_left _ (List.mem_append_right _ h)))) | decide +kernel
  have hinX1 : ∀ w ∈ wsX10, w ∈ wsX8_dutyOf := by first | exact fun w h => List.mem_cons_of_mem _ (List.mem_append_left _ (List.mem_append_left _ (List.mem_append_right _ h))) | decide +kernel
  have hinX5 : ∀ w ∈ wsX50, w ∈ wsX8_dutyOf := by first | exact fun w h => List.mem_cons_of_mem _ (List.mem_append_right _ h) | decide +kernel
  have hinX6 : ∀ w ∈ wsX60, w ∈ wsX8_dutyOf := by first | exact fun w h => List.mem_cons_of_mem _ (List.mem_append_left _ (List.mem_append_right _ h)) | decide +kernel
  have hinX8 : ∀ w ∈ wsX80, w ∈ wsX8_dutyOf := by first | exact fun w h => List.mem_cons_of_mem _ (List.mem_append_left _ (List.mem_append_left _ (List.mem_append_left _ (List.mem_append_left _ (List.mem_append_right _ h))))) | decide +kernel
  have kf23 := hts (.fieldLink RX8 23 "GossipGate$Town" "harmlessSize" "I") (by decide +kernel)
  have kf83 := hts (.fieldLink RX8 83 "GossipGate$Gate" "deaf" "I") (by decide +kernel)
  have kf86 := hts (.fieldLink RX8 86 "GossipGate$Story" "person" "I") (by decide +kernel)
  unfold ct_dutyOf at hf
  refine lv_aload_n hx hb dX8_dutyOf_0 rfl (lv_at hl 2 rfl) ?_
  refine lv_iload hx hb dX8_dutyOf_1 (lv_at hl 4 rfl) ?_
  obtain ⟨g2, hf⟩ := g_g hf
  obtain ⟨r3, h1, hf⟩ := g_b1 hf
  refine g_cI F (As := [.int x4]) (rest := []) (ccs_sizeOf h1) (cwV 1 hts gX8_dutyOf_X5_sizeOf rfl rfl rfl (by decide +kernel) ⟨Nat.le_of_ble_eq_true rfl, Nat.le_of_ble_eq_true rfl⟩) hw (hw.recv (ci := 5) (q0 := G + x2 + 27) rfl rfl (cw_story g2)) rfl hl.1 rfl (Nat.le_of_ble_eq_true rfl) dX8_dutyOf_3 (fun H locs hw => ?_)
  refine lv_istore (lv' := [(5, .int r3), (0, .ref (ad 10)), (1, .ref (ad (100 + x1))), (2, .ref (ad (200 + x2))), (3, .int x3), (4, .int x4)]) hx hb dX8_dutyOf_6 hl (by decide) rfl (fun ls hl => ?_)
  refine lv_iload hx hb dX8_dutyOf_8 (lv_at hl 0 rfl) ?_
  refine lv_aload_n hx hb dX8_dutyOf_10 rfl (lv_at hl 1 rfl) ?_
  refine cf_get_X8_2 F hinX8 hw kf23 dX8_dutyOf_11 ?_
  refine lv_icmp_le (tgt := 28) hx hb dX8_dutyOf_14 (by decide) (fun c4 => ?_) (fun c4 => ?_)
  · have hf := g_t c4 hf
    refine lv_iconst (v := 0) hx hb dX8_dutyOf_28 (by decide) ?_
    exact hret 0 _ _ _ _ _ (Option.some.inj hf) rfl hw dX8_dutyOf_29
  · have hf := g_f c4 hf
    refine lv_aload_n hx hb dX8_dutyOf_17 rfl (lv_at hl 2 rfl) ?_
    obtain ⟨g5, hf⟩ := g_g hf
    refine cw_gate_get_1 F hinX0 hinX1 hinX6 hw g5 kf83 dX8_dutyOf_18 ?_
    refine lv_aload_n hx hb dX8_dutyOf_21 rfl (lv_at hl 3 rfl) ?_
    refine cw_story_get_1 F hinX5 hw g2 kf86 dX8_dutyOf_22 ?_
    refine lv_icmp_ne (tgt := 30) hx hb dX8_dutyOf_25 (by decide) (fun c6 => ?_) (fun c6 => ?_)
    · have hf := g_f c6 hf
      refine lv_aload_n hx hb dX8_dutyOf_30 rfl (lv_at hl 2 rfl) ?_
      refine lv_iload hx hb dX8_dutyOf_31 (lv_at hl 0 rfl) ?_
      refine lv_aload_n hx hb dX8_dutyOf_33 rfl (lv_at hl 3 rfl) ?_
      refine lv_iload_n hx hb dX8_dutyOf_34 rfl (lv_at hl 4 rfl) ?_
      obtain ⟨r8, h7, hf⟩ := g_b1 hf
      refine g_cI F (As := [.int x3]) (rest := [.int r3, .ref (ad (100 + x1))]) (ccs_freshness h7) (cwV 1 hts gX8_dutyOf_X5_freshness rfl rfl rfl (by decide +kernel) ⟨Nat.le_of_ble_eq_true rfl, Nat.le_of_ble_eq_true rfl⟩) hw (hw.recv (ci := 5) (q0 := G + x2 + 27) rfl rfl (cw_story g2)) rfl hl.1 rfl (Nat.le_of_ble_eq_true rfl) dX8_dutyOf_35 (fun H locs hw => ?_)
      by_cases c9 : X.2.2 0 x1 = 1
      · replace hf := g_t c9 hf
        obtain ⟨r12, h11, hf⟩ := g_b1 hf
        refine g_uI F (As := [.int r3, .int r8]) (rest := []) (cch_takes h11) (va_cwO 2 hts gX8_dutyOf_X6_takes_u92X6 rfl rfl rfl (b0 := cX0_takes) (m0 := 3) (r0 := some .int) (by decide +kernel) (by decide +kernel) ⟨Nat.le_of_ble_eq_true rfl, Nat.le_of_ble_eq_true rfl⟩) hw (hw.recv (ci := 6) (q0 := x1 + 27) rfl rfl (cw_gateK g5 (kc_1 c9))) rfl hl.1 rfl (Nat.le_of_ble_eq_true rfl) dX8_dutyOf_38 (fun H locs hw => ?_)
        exact hret r12 _ _ _ _ _ (Option.some.inj hf) rfl hw dX8_dutyOf_41
      replace hf := g_f c9 hf
      by_cases c10 : X.2.2 0 x1 = 2
      · replace hf := g_t c10 hf
        obtain ⟨r14, h13, hf⟩ := g_b1 hf
        refine g_uI F (As := [.int r3, .int r8]) (rest := []) (cci_takes h13) (va_cwO 2 hts gX8_dutyOf_X1_takes_u92X1 rfl rfl rfl (b0 := cX0_takes) (m0 := 3) (r0 := some .int) (by decide +kernel) (by decide +kernel) ⟨Nat.le_of_ble_eq_true rfl, Nat.le_of_ble_eq_true rfl⟩) hw (hw.recv (ci := 1) (q0 := x1 + 27) rfl rfl (cw_gateK g5 (kc_2 c9 c10))) rfl hl.1 rfl (Nat.le_of_ble_eq_true rfl) dX8_dutyOf_38 (fun H locs hw => ?_)
        exact hret r14 _ _ _ _ _ (Option.some.inj hf) rfl hw dX8_dutyOf_41
      · replace hf := g_f c10 hf
        obtain ⟨r16, h15, hf⟩ := g_b1 hf
        refine g_cI F (As := [.int r3, .int r8]) (rest := []) (ccg_takes h15) (cwV 2 hts gX8_dutyOf_X0_takes rfl rfl rfl (by decide +kernel) ⟨Nat.le_of_ble_eq_true rfl, Nat.le_of_ble_eq_true rfl⟩) hw (hw.recv (ci := 0) (q0 := x1 + 27) rfl rfl (cw_gateK g5 (kc_0 c9 c10))) rfl hl.1 rfl (Nat.le_of_ble_eq_true rfl) dX8_dutyOf_38 (fun H locs hw => ?_)
        exact hret r16 _ _ _ _ _ (Option.some.inj hf) rfl hw dX8_dutyOf_41
    · have hf := g_t c6 hf
      refine lv_iconst (v := 0) hx hb dX8_dutyOf_28 (by decide) ?_
      exact hret 0 _ _ _ _ _ (Option.some.inj hf) rfl hw dX8_dutyOf_29

abbrev rm_ct_collect : Room := { frames := 3, cells := 0, slots := 0, locals := 69 }
set_option maxHeartbeats 4000000 in
set_option maxRecDepth 100000 in
theorem cct_collect {l : Launch} {D : va_G} {ty : gT} {A : Nat → Prop} {ad : Nat → Nat} {wr : va_W} {G : Nat} {S : Nat} {X : gC} {σ' : gC} (hf : ct_collect G S X = some ((), σ')) : gV l D ty A yX8_collect wsX8_collect rm_ct_collect [.ref (ad 10), .ref (ad 16)] (cw ty ad G S X wr) (cw ty ad G S σ' wr) := by
  refine gV_enter (cc := cX8_collect) (maxL := 5) (by decide) rfl (Nat.le_of_ble_eq_true rfl) ?_
  intro p e s m args below meth c Q ls F hl hw hret
  have F : CallFix p m c cX8_collect 5 s args wsX8_collect RX8 := F
  obtain ⟨hx, hb, hml, hown, hts⟩ := id F
  have hl : lv_has ls 5 [(0, .ref (ad 10)), (1, .ref (ad 16))] := hl
  have hinX0 : ∀ w ∈ wsX00, w ∈ wsX8_collect := by first | exact fun w h => List.mem_cons_of_mem _ (List.mem_append_left _ (List.mem_append_left _ (List.mem_append_left _ (List.mem_append_right _ h)))) | decide +kernel
  have hinX1 : ∀ w ∈ wsX10, w ∈ wsX8_collect := by first | exact fun w h => List.mem_cons_of_mem _ (List.mem_append_left _ (List.mem_append_left _ (List.mem_append_right _ h))) | decide +kernel
  have hinX3 : ∀ w ∈ wsX30, w ∈ wsX8_collect := by first | exact fun w h => List.mem_cons_of_mem _ (List.mem_append_left _ (List.mem_append_left _ (List.mem_append_left _ (List.mem_append_left _ (List.mem_append_right _ h))))) | decide +kernel
  have hinX6 : ∀ w ∈ wsX60, w ∈ wsX8_collect := by first | exact fun w h => List.mem_cons_of_mem _ (List.mem_append_left _ (List.mem_append_right _ h)) | decide +kernel
  have hinX8 : ∀ w ∈ wsX80, w ∈ wsX8_collect := by first | exact fun w h => List.mem_cons_of_mem _ (List.mem_append_left _ (List.mem_append_left _ (List.mem_append_left _ (List.mem_append_left _ (List.mem_append_left _ (List.mem_append_right _ h)))))) | decide +kernel
  have kf101 := hts (.fieldLink RX8 101 "GossipGate$Route" "bundles" "I") (by decide +kernel)
  have kf106 := hts (.fieldLink RX8 106 "GossipGate$Route" "gates" "[I") (by decide +kernel)
  have kf108 := hts (.fieldLink RX8 108 "GossipGate$Route" "stories" "[I") (by decide +kernel)
  have kf114 := hts (.fieldLink RX8 114 "GossipGate$Route" "days" "[I") (by decide +kernel)
  have kf117 := hts (.fieldLink RX8 117 "GossipGate$Route" "thirds" "[I") (by decide +kernel)
  have kf27 := hts (.fieldLink RX8 27 "GossipGate$Town" "takings" "[I") (by decide +kernel)
  have kf73 := hts (.fieldLink RX8 73 "GossipGate$Gate" "number" "I") (by decide +kernel)
  have B10 : ∀ (n10 : Nat) (v2 : Int32) (X : gC) (H : Heap) (locs : List Loc) (ls : Array Slot), lv_has ls 5 [(0, .ref (ad 10)), (1, .ref (ad 16)), (2, .int v2)] → gW D ty A (cw ty ad G S X wr) s s.heap H locs → ct_collect_b10 G S n10 v2 X = some ((), σ') → W p l e rm_ct_collect s m args below meth c H locs 0 0 Q (F0 m 10 ls []) := by
    intro n10
    induction n10 with
    | zero => intro v2 X H locs ls hl hw hf; cases hf
    | succ n10 ih10 =>
      have B81 : ∀ (v2 : Int32) (X : gC) (H : Heap) (locs : List Loc) (ls : Array Slot), lv_has ls 5 [(0, .ref (ad 10)), (1, .ref (ad 16)), (2, .int v2)] → gW D ty A (cw ty ad G S X wr) s s.heap H locs → ct_collect_b81 G S (ct_collect_b10 G S n10) v2 X = some ((), σ') → W p l e rm_ct_collect s m args below meth c H locs 0 0 Q (F0 m 81 ls []) := by
        intro v2 X H locs ls hl hw hf
        unfold ct_collect_b81 at hf
        refine lv_iinc (v := v2 + 1) (lv' := [(2, .int (v2 + 1)), (0, .ref (ad 10)), (1, .ref (ad 16))]) hx hb dX8_collect_81 hl (k := 2) rfl rfl (by decide) rfl (fun ls hl => ?_)
        refine lv_goto (tgt := 10) hx hb dX8_collect_84 (by decide) ?_
        exact ih10 (v2 + 1) X _ _ _ (lv_sub hl [1, 2, 0] rfl) hw hf
      intro v2 X H locs ls hl hw hf
      rw [ct_collect_b10] at hf
      refine lv_iload_n hx hb dX8_collect_10 rfl (lv_at hl 2 rfl) ?_
      refine lv_aload_n hx hb dX8_collect_11 rfl (lv_at hl 1 rfl) ?_
      refine cf_get_X3_4 F hinX3 hw kf101 dX8_collect_12 ?_
      refine lv_icmp_ge (tgt := 87) hx hb dX8_collect_15 (by decide) (fun c1 => ?_) (fun c1 => ?_)
      · have hf := g_t c1 hf
        exact hret _ _ _ _ _ (congrArg (fun t => cw ty ad G S t wr) (g_i2 hf)) hw dX8_collect_87
      · have hf := g_f c1 hf
        refine lv_aload_n hx hb dX8_collect_18 rfl (lv_at hl 0 rfl) ?_
        refine lv_aload_n hx hb dX8_collect_19 rfl (lv_at hl 1 rfl) ?_
        refine cf_get_X3_1 F hinX3 hw kf106 dX8_collect_20 ?_
        refine lv_iload_n hx hb dX8_collect_23 rfl (lv_at hl 2 rfl) ?_
        obtain ⟨g2, hf⟩ := g_g hf
        refine cf_ld_18 F hw g2 dX8_collect_24 ?_
        obtain ⟨r4, h3, hf⟩ := g_b1 hf
        refine g_cQ F (As := [.int (X.1.2 10 v2.toNatClampNeg)]) (rest := []) (cct_gateAt h3) (cwV 1 hts gX8_collect_X8_gateAt rfl rfl rfl (by decide +kernel) ⟨Nat.le_of_ble_eq_true rfl, Nat.le_of_ble_eq_true rfl⟩) hw (hw.recv (ci := 8) (q0 := 10) rfl rfl rfl) rfl hl.1 rfl (Nat.le_of_ble_eq_true rfl) dX8_collect_25 (fun H locs hw => ?_)
        rcases r4 with _ | k5
        · replace hf := gN_n hf
          refine lv_astore_nN (lv' := [(3, .null), (0, .ref (ad 10)), (1, .ref (ad 16)), (2, .int v2)]) hx hb dX8_collect_28 rfl hl (by decide) rfl (fun ls hl => ?_)
          refine lv_aload_n hx hb dX8_collect_29 rfl (lv_at hl 1 rfl) ?_
          refine lv_aload_n hx hb dX8_collect_30 rfl (lv_at hl 2 rfl) ?_
          refine cf_get_X3_0 F hinX3 hw kf108 dX8_collect_31 ?_
          refine lv_iload_n hx hb dX8_collect_34 rfl (lv_at hl 3 rfl) ?_
          refine cf_ld_17 F hw g2 dX8_collect_35 ?_
          obtain ⟨r7, h6, hf⟩ := g_b1 hf
          refine g_cQ F (As := [.int (X.1.2 9 v2.toNatClampNeg)]) (rest := []) (cct_storyAt h6) (cwV 1 hts gX8_collect_X8_storyAt rfl rfl rfl (by decide +kernel) ⟨Nat.le_of_ble_eq_true rfl, Nat.le_of_ble_eq_true rfl⟩) hw (hw.recv (ci := 8) (q0 := 10) rfl rfl rfl) rfl hl.1 rfl (Nat.le_of_ble_eq_true rfl) dX8_collect_36 (fun H locs hw => ?_)
          rcases r7 with _ | k8
          · replace hf := gN_n hf
            refine lv_astoreN (lv' := [(4, .null), (3, .null), (0, .ref (ad 10)), (1, .ref (ad 16)), (2, .int v2)]) hx hb dX8_collect_39 hl (by decide) rfl (fun ls hl => ?_)
            refine lv_aload_nN hx hb dX8_collect_41 rfl (lv_at hl 1 rfl) ?_
            refine lv_ifnullN (tgt := 81) hx hb dX8_collect_42 (by decide) ?_
            exact B81 v2 X _ _ _ (lv_sub hl [2, 3, 4] rfl) hw hf
          · replace hf := gN_s hf
            refine lv_astore (lv' := [(4, .ref (ad (200 + k8))), (3, .null), (0, .ref (ad 10)), (1, .ref (ad 16)), (2, .int v2)]) hx hb dX8_collect_39 hl (by decide) rfl (fun ls hl => ?_)
            refine lv_aload_nN hx hb dX8_collect_41 rfl (lv_at hl 1 rfl) ?_
            refine lv_ifnullN (tgt := 81) hx hb dX8_collect_42 (by decide) ?_
            exact B81 v2 X _ _ _ (lv_sub hl [2, 3, 4] rfl) hw hf
        · replace hf := gN_s hf
          refine lv_astore_n (lv' := [(3, .ref (ad (100 + k5))), (0, .ref (ad 10)), (1, .ref (ad 16)), (2, .int v2)]) hx hb dX8_collect_28 rfl hl (by decide) rfl (fun ls hl => ?_)
          refine lv_aload_n hx hb dX8_collect_29 rfl (lv_at hl 1 rfl) ?_
          refine lv_aload_n hx hb dX8_collect_30 rfl (lv_at hl 2 rfl) ?_
          refine cf_get_X3_0 F hinX3 hw kf108 dX8_collect_31 ?_
          refine lv_iload_n hx hb dX8_collect_34 rfl (lv_at hl 3 rfl) ?_
          refine cf_ld_17 F hw g2 dX8_collect_35 ?_
          obtain ⟨r10, h9, hf⟩ := g_b1 hf
          refine g_cQ F (As := [.int (X.1.2 9 v2.toNatClampNeg)]) (rest := []) (cct_storyAt h9) (cwV 1 hts gX8_collect_X8_storyAt rfl rfl rfl (by decide +kernel) ⟨Nat.le_of_ble_eq_true rfl, Nat.le_of_ble_eq_true rfl⟩) hw (hw.recv (ci := 8) (q0 := 10) rfl rfl rfl) rfl hl.1 rfl (Nat.le_of_ble_eq_true rfl) dX8_collect_36 (fun H locs hw => ?_)
          rcases r10 with _ | k11
          · replace hf := gN_n hf
            refine lv_astoreN (lv' := [(4, .null), (3, .ref (ad (100 + k5))), (0, .ref (ad 10)), (1, .ref (ad 16)), (2, .int v2)]) hx hb dX8_collect_39 hl (by decide) rfl (fun ls hl => ?_)
            refine lv_aload_n hx hb dX8_collect_41 rfl (lv_at hl 1 rfl) ?_
            refine lv_ifnull hx hb dX8_collect_42 ?_
            refine lv_aloadN hx hb dX8_collect_45 (lv_at hl 0 rfl) ?_
            refine lv_ifnullN (tgt := 81) hx hb dX8_collect_47 (by decide) ?_
            exact B81 v2 X _ _ _ (lv_sub hl [2, 3, 4] rfl) hw hf
          · replace hf := gN_s hf
            refine lv_astore (lv' := [(4, .ref (ad (200 + k11))), (3, .ref (ad (100 + k5))), (0, .ref (ad 10)), (1, .ref (ad 16)), (2, .int v2)]) hx hb dX8_collect_39 hl (by decide) rfl (fun ls hl => ?_)
            refine lv_aload_n hx hb dX8_collect_41 rfl (lv_at hl 1 rfl) ?_
            refine lv_ifnull hx hb dX8_collect_42 ?_
            refine lv_aload hx hb dX8_collect_45 (lv_at hl 0 rfl) ?_
            refine lv_ifnull hx hb dX8_collect_47 ?_
            refine lv_aload_n hx hb dX8_collect_50 rfl (lv_at hl 2 rfl) ?_
            refine cf_get_X8_3 F hinX8 hw kf27 dX8_collect_51 ?_
            refine lv_aload_n hx hb dX8_collect_54 rfl (lv_at hl 1 rfl) ?_
            obtain ⟨g12, hf⟩ := g_g hf
            refine cw_gate_get_0 F hinX0 hinX1 hinX6 hw g12 kf73 dX8_collect_55 ?_
            refine lv_dup2_11 hx hb dX8_collect_58 rfl rfl ?_
            obtain ⟨g13, hf⟩ := g_g hf
            refine cf_ld_13 F hw g13 dX8_collect_59 ?_
            refine lv_aload_n hx hb dX8_collect_60 rfl (lv_at hl 2 rfl) ?_
            refine lv_aload_n hx hb dX8_collect_61 rfl (lv_at hl 1 rfl) ?_
            refine lv_aload hx hb dX8_collect_62 (lv_at hl 0 rfl) ?_
            refine lv_aload_n hx hb dX8_collect_64 rfl (lv_at hl 3 rfl) ?_
            refine cf_get_X3_2 F hinX3 hw kf114 dX8_collect_65 ?_
            refine lv_iload_n hx hb dX8_collect_68 rfl (lv_at hl 4 rfl) ?_
            refine cf_ld_19 F hw g2 dX8_collect_69 ?_
            refine lv_aload_n hx hb dX8_collect_70 rfl (lv_at hl 3 rfl) ?_
            refine cf_get_X3_3 F hinX3 hw kf117 dX8_collect_71 ?_
            refine lv_iload_n hx hb dX8_collect_74 rfl (lv_at hl 4 rfl) ?_
            refine cf_ld_20 F hw g2 dX8_collect_75 ?_
            obtain ⟨r15, h14, hf⟩ := g_b1 hf
            refine g_cI F (As := [.ref (ad (100 + k5)), .ref (ad (200 + k11)), .int (X.1.2 11 v2.toNatClampNeg), .int (X.1.2 12 v2.toNatClampNeg)]) (rest := [.int (X.1.2 6 ((nI k5).toNatClampNeg)), .int (nI k5), .ref (ad 13)]) (cct_dutyOf h14) (cwV 4 hts gX8_collect_X8_dutyOf rfl rfl rfl (by decide +kernel) ⟨Nat.le_of_ble_eq_true rfl, Nat.le_of_ble_eq_true rfl⟩) hw (hw.recv (ci := 8) (q0 := 10) rfl rfl rfl) rfl hl.1 rfl (Nat.le_of_ble_eq_true rfl) dX8_collect_76 (fun H locs hw => ?_)
            refine lv_iadd hx hb dX8_collect_79 ?_
            refine cf_st_13 F hw g13 dX8_collect_80 (fun H locs hw => ?_)
            obtain ⟨X16, eX16, hf⟩ := g_let hf
            have hw := cw_re eX16 hw
            exact B81 v2 X16 _ _ _ (lv_sub hl [2, 3, 4] rfl) hw hf
  unfold ct_collect at hf
  refine lv_aload_n hx hb dX8_collect_0 rfl (lv_at hl 0 rfl) ?_
  refine cf_get_X8_3 F hinX8 hw kf27 dX8_collect_1 ?_
  refine lv_iconst (v := 0) hx hb dX8_collect_4 (by decide) ?_
  refine g_sV F (As := [.ref (ad 13), .int 0]) (rest := []) (c_fill (x := (0 : Int32)) (q0 := 13) (n := 5) (by decide) rfl) (va_cwS 2 hts gX8_collect_J7_fill_53178 rfl rfl rfl (by decide +kernel) ⟨Nat.le_of_ble_eq_true rfl, Nat.le_of_ble_eq_true rfl⟩) hw rfl hl.1 rfl (Nat.le_of_ble_eq_true rfl) dX8_collect_5 (fun H locs hw => ?_)
  replace hw := gW.eq cf_fill_13 hw
  obtain ⟨X17, eX17, hf⟩ := g_let hf
  have hw := cw_re eX17 hw
  refine lv_iconst (v := 0) hx hb dX8_collect_8 (by decide) ?_
  refine lv_istore_n (lv' := [(2, .int 0), (0, .ref (ad 10)), (1, .ref (ad 16))]) hx hb dX8_collect_9 rfl hl (by decide) rfl (fun ls hl => ?_)
  exact B10 1000 0 X17 _ _ _ (lv_sub hl [1, 2, 0] rfl) hw hf

abbrev rm_ct_takenAt : Room := { frames := 1, cells := 0, slots := 0, locals := 22 }
set_option maxHeartbeats 4000000 in
set_option maxRecDepth 100000 in
theorem cct_takenAt {l : Launch} {D : va_G} {ty : gT} {A : Nat → Prop} {ad : Nat → Nat} {wr : va_W} {G : Nat} {S : Nat} {x1 : Int32} {X : gC} {r : Int32} (hf : ct_takenAt G S X x1 = some r) : gI l D ty A yX8_takenAt wsX8_takenAt rm_ct_takenAt [.ref (ad 10), .int x1] (cw ty ad G S X wr) r (cw ty ad G S X wr) := by
  refine gI_enter (cc := cX8_takenAt) (maxL := 2) (by decide) rfl (Nat.le_of_ble_eq_true rfl) ?_
  intro p e s m args below meth c Q ls F hl hw hret
  have F : CallFix p m c cX8_takenAt 2 s args wsX8_takenAt RX8 := F
  obtain ⟨hx, hb, hml, hown, hts⟩ := id F
  have hl : lv_has ls 2 [(0, .ref (ad 10)), (1, .int x1)] := hl
  have hinX8 : ∀ w ∈ wsX80, w ∈ wsX8_takenAt := by first | exact fun w h => List.mem_cons_of_mem _ (List.mem_append_right _ h) | decide +kernel
  have kf27 := hts (.fieldLink RX8 27 "GossipGate$Town" "takings" "[I") (by decide +kernel)
  unfold ct_takenAt at hf
  refine lv_iload_n hx hb dX8_takenAt_0 rfl (lv_at hl 1 rfl) ?_
  refine lv_iconst (v := 0) hx hb dX8_takenAt_1 (by decide) ?_
  refine lv_iconst (v := 4) hx hb dX8_takenAt_2 (by decide) ?_
  obtain ⟨r2, h1, hf⟩ := g_b1 hf
  refine g_nI F (As := [.int x1, .int 0, .int 4]) (rest := []) (ccx_isWithin h1) ⟨va_cnB 3 hts gX8_takenAt_X10_isWithin_n124 rfl rfl rfl hw.2.2.2.2.2.2.2.1.2.2 (hts (.initialized RX10) (by decide +kernel)) (by decide +kernel) ⟨Nat.le_of_ble_eq_true rfl, Nat.le_of_ble_eq_true rfl⟩, hts (.static yX10_isWithin) (by decide +kernel), trivial⟩ hw rfl hl.1 rfl (Nat.le_of_ble_eq_true rfl) dX8_takenAt_3 (fun H locs hw => ?_)
  refine lv_if_eq (tgt := 18) hx hb dX8_takenAt_6 (by decide) (fun c3 => ?_) (fun c3 => ?_)
  · have hf := g_f (bI_z c3) hf
    refine lv_iconst (v := 0) hx hb dX8_takenAt_18 (by decide) ?_
    exact hret 0 _ _ _ _ _ (Option.some.inj hf) rfl hw dX8_takenAt_19
  · have hf := g_t (bI_nz c3) hf
    refine lv_aload_n hx hb dX8_takenAt_9 rfl (lv_at hl 0 rfl) ?_
    refine cf_get_X8_3 F hinX8 hw kf27 dX8_takenAt_10 ?_
    refine lv_iload_n hx hb dX8_takenAt_13 rfl (lv_at hl 1 rfl) ?_
    obtain ⟨g4, hf⟩ := g_g hf
    refine cf_ld_13 F hw g4 dX8_takenAt_14 ?_
    refine lv_goto (tgt := 19) hx hb dX8_takenAt_15 (by decide) ?_
    exact hret (X.1.2 6 x1.toNatClampNeg) _ _ _ _ _ (Option.some.inj hf) rfl hw dX8_takenAt_19

abbrev rm_ct_takenInAll : Room := { frames := 0, cells := 0, slots := 0, locals := 0 }
set_option maxHeartbeats 4000000 in
set_option maxRecDepth 100000 in
theorem cct_takenInAll {l : Launch} {D : va_G} {ty : gT} {A : Nat → Prop} {ad : Nat → Nat} {wr : va_W} {G : Nat} {S : Nat} {X : gC} {r : Int32} (hf : ct_takenInAll G S X = some r) : gI l D ty A yX8_takenInAll wsX8_takenInAll rm_ct_takenInAll [.ref (ad 10)] (cw ty ad G S X wr) r (cw ty ad G S X wr) := by
  refine gI_enter (cc := cX8_takenInAll) (maxL := 6) (by decide) rfl (Nat.le_of_ble_eq_true rfl) ?_
  intro p e s m args below meth c Q ls F hl hw hret
  have F : CallFix p m c cX8_takenInAll 6 s args wsX8_takenInAll RX8 := F
  obtain ⟨hx, hb, hml, hown, hts⟩ := id F
  have hl : lv_has ls 6 [(0, .ref (ad 10))] := hl
  have hinX8 : ∀ w ∈ wsX80, w ∈ wsX8_takenInAll := by first | exact fun w h => List.mem_cons_of_mem _ (List.mem_append_right _ h) | decide +kernel
  have kf27 := hts (.fieldLink RX8 27 "GossipGate$Town" "takings" "[I") (by decide +kernel)
  have B13 : ∀ (n13 : Nat) (v1 : Int32) (v3 : Int32) (v4 : Int32) (H : Heap) (locs : List Loc) (ls : Array Slot), lv_has ls 6 [(1, .int v1), (2, .ref (ad 13)), (3, .int v3), (4, .int v4)] → gW D ty A (cw ty ad G S X wr) s s.heap H locs → ct_takenInAll_b13 G S X n13 v1 v3 v4 = some r → W p l e rm_ct_takenInAll s m args below meth c H locs 0 0 Q (F0 m 13 ls []) := by
    intro n13
    induction n13 with
    | zero => intro v1 v3 v4 H locs ls hl hw hf; cases hf
    | succ n13 ih13 =>
      intro v1 v3 v4 H locs ls hl hw hf
      rw [ct_takenInAll_b13] at hf
      refine lv_iload hx hb dX8_takenInAll_13 (lv_at hl 3 rfl) ?_
      refine lv_iload_n hx hb dX8_takenInAll_15 rfl (lv_at hl 2 rfl) ?_
      refine lv_icmp_ge (tgt := 36) hx hb dX8_takenInAll_16 (by decide) (fun c1 => ?_) (fun c1 => ?_)
      · have hf := g_t c1 hf
        refine lv_iload_n hx hb dX8_takenInAll_36 rfl (lv_at hl 0 rfl) ?_
        exact hret v1 _ _ _ _ _ (Option.some.inj hf) rfl hw dX8_takenInAll_37
      · have hf := g_f c1 hf
        refine lv_aload_n hx hb dX8_takenInAll_19 rfl (lv_at hl 1 rfl) ?_
        refine lv_iload hx hb dX8_takenInAll_20 (lv_at hl 3 rfl) ?_
        obtain ⟨g2, hf⟩ := g_g hf
        refine cf_ld_13 F hw g2 dX8_takenInAll_22 ?_
        obtain ⟨y3, ey3, hf⟩ := g_let hf
        refine g_nm ey3 ?_
        refine lv_istore (lv' := [(5, .int y3), (1, .int v1), (2, .ref (ad 13)), (3, .int v3), (4, .int v4)]) hx hb dX8_takenInAll_23 hl (by decide) rfl (fun ls hl => ?_)
        refine lv_iload_n hx hb dX8_takenInAll_25 rfl (lv_at hl 1 rfl) ?_
        refine lv_iload hx hb dX8_takenInAll_26 (lv_at hl 0 rfl) ?_
        refine lv_iadd hx hb dX8_takenInAll_28 ?_
        refine lv_istore_n (lv' := [(1, .int (v1 + y3)), (5, .int y3), (2, .ref (ad 13)), (3, .int v3), (4, .int v4)]) hx hb dX8_takenInAll_29 rfl hl (by decide) rfl (fun ls hl => ?_)
        refine lv_iinc (v := v4 + 1) (lv' := [(4, .int (v4 + 1)), (1, .int (v1 + y3)), (5, .int y3), (2, .ref (ad 13)), (3, .int v3)]) hx hb dX8_takenInAll_30 hl (k := 4) rfl rfl (by decide) rfl (fun ls hl => ?_)
        refine lv_goto (tgt := 13) hx hb dX8_takenInAll_33 (by decide) ?_
        exact ih13 (v1 + y3) v3 (v4 + 1) _ _ _ (lv_sub hl [1, 3, 4, 0] rfl) hw hf
  unfold ct_takenInAll at hf
  refine lv_iconst (v := 0) hx hb dX8_takenInAll_0 (by decide) ?_
  refine lv_istore_n (lv' := [(1, .int 0), (0, .ref (ad 10))]) hx hb dX8_takenInAll_1 rfl hl (by decide) rfl (fun ls hl => ?_)
  refine lv_aload_n hx hb dX8_takenInAll_2 rfl (lv_at hl 1 rfl) ?_
  refine cf_get_X8_3 F hinX8 hw kf27 dX8_takenInAll_3 ?_
  refine lv_astore_n (lv' := [(2, .ref (ad 13)), (1, .int 0), (0, .ref (ad 10))]) hx hb dX8_takenInAll_6 rfl hl (by decide) rfl (fun ls hl => ?_)
  refine lv_aload_n hx hb dX8_takenInAll_7 rfl (lv_at hl 0 rfl) ?_
  refine cf_len_13 F hw dX8_takenInAll_8 ?_
  refine lv_istore_n (lv' := [(3, .int 5), (2, .ref (ad 13)), (1, .int 0), (0, .ref (ad 10))]) hx hb dX8_takenInAll_9 rfl hl (by decide) rfl (fun ls hl => ?_)
  refine lv_iconst (v := 0) hx hb dX8_takenInAll_10 (by decide) ?_
  refine lv_istore (lv' := [(4, .int 0), (3, .int 5), (2, .ref (ad 13)), (1, .int 0), (0, .ref (ad 10))]) hx hb dX8_takenInAll_11 hl (by decide) rfl (fun ls hl => ?_)
  exact B13 1000 0 5 0 _ _ _ (lv_sub hl [3, 2, 1, 0] rfl) hw hf

abbrev rm_ct_forgetKeys : Room := { frames := 1, cells := 0, slots := 0, locals := 23 }
set_option maxHeartbeats 4000000 in
set_option maxRecDepth 100000 in
theorem cct_forgetKeys {l : Launch} {D : va_G} {ty : gT} {A : Nat → Prop} {ad : Nat → Nat} {wr : va_W} {G : Nat} {S : Nat} {X : gC} {σ' : gC} (hf : ct_forgetKeys G S X = some ((), σ')) : gV l D ty A yX8_forgetKeys wsX8_forgetKeys rm_ct_forgetKeys [.ref (ad 10)] (cw ty ad G S X wr) (cw ty ad G S σ' wr) := by
  refine gV_enter (cc := cX8_forgetKeys) (maxL := 1) (by decide) rfl (Nat.le_of_ble_eq_true rfl) ?_
  intro p e s m args below meth c Q ls F hl hw hret
  have F : CallFix p m c cX8_forgetKeys 1 s args wsX8_forgetKeys RX8 := F
  obtain ⟨hx, hb, hml, hown, hts⟩ := id F
  have hl : lv_has ls 1 [(0, .ref (ad 10))] := hl
  have hinX8 : ∀ w ∈ wsX80, w ∈ wsX8_forgetKeys := by first | exact fun w h => List.mem_cons_of_mem _ (List.mem_append_right _ h) | decide +kernel
  have kc149 := hts (.constant RX8 149 536870912) (by decide +kernel)
  have kf34 := hts (.fieldLink RX8 34 "GossipGate$Town" "bestKeys" "[I") (by decide +kernel)
  unfold ct_forgetKeys at hf
  refine lv_aload_n hx hb dX8_forgetKeys_0 rfl (lv_at hl 0 rfl) ?_
  refine cf_get_X8_5 F hinX8 hw kf34 dX8_forgetKeys_1 ?_
  refine lv_ldc (v := 536870912) hx hb hown kc149 dX8_forgetKeys_4 ?_
  refine g_sV F (As := [.ref (ad 15), .int 536870912]) (rest := []) (c_fill (x := (536870912 : Int32)) (q0 := 15) (n := 8) (by decide) rfl) (va_cwS 2 hts gX8_forgetKeys_J7_fill_53178 rfl rfl rfl (by decide +kernel) ⟨Nat.le_of_ble_eq_true rfl, Nat.le_of_ble_eq_true rfl⟩) hw rfl hl.1 rfl (Nat.le_of_ble_eq_true rfl) dX8_forgetKeys_6 (fun H locs hw => ?_)
  replace hw := gW.eq cf_fill_15 hw
  obtain ⟨X1, eX1, hf⟩ := g_let hf
  have hw := cw_re eX1 hw
  refine lv_aload_n hx hb dX8_forgetKeys_9 rfl (lv_at hl 0 rfl) ?_
  refine cf_get_X8_5 F hinX8 hw kf34 dX8_forgetKeys_10 ?_
  refine lv_iconst (v := 0) hx hb dX8_forgetKeys_13 (by decide) ?_
  refine lv_iconst (v := 0) hx hb dX8_forgetKeys_14 (by decide) ?_
  refine cf_st_15 F hw (by decide) dX8_forgetKeys_15 (fun H locs hw => ?_)
  obtain ⟨X2, eX2, hf⟩ := g_let hf
  have hw := cw_re eX2 hw
  exact hret _ _ _ _ _ (congrArg (fun t => cw ty ad G S t wr) (g_i2 hf)) hw dX8_forgetKeys_16

abbrev rm_ct_keyOf : Room := { frames := 1, cells := 0, slots := 0, locals := 20 }
set_option maxHeartbeats 4000000 in
set_option maxRecDepth 100000 in
theorem cct_keyOf {l : Launch} {D : va_G} {ty : gT} {A : Nat → Prop} {ws : va_W} {x1 : Int32} {x2 : Int32} {x3 : Int32} {r : Int32} (hf : ct_keyOf x1 x2 x3 = some r) : gI l D ty A yX8_keyOf wsX8_keyOf rm_ct_keyOf [.int x1, .int x2, .int x3] ws r ws := by
  refine gI_enter (cc := cX8_keyOf) (maxL := 5) (by decide) rfl (Nat.le_of_ble_eq_true rfl) ?_
  intro p e s m args below meth c Q ls F hl hw hret
  have F : CallFix p m c cX8_keyOf 5 s args wsX8_keyOf RX8 := F
  obtain ⟨hx, hb, hml, hown, hts⟩ := id F
  have hl : lv_has ls 5 [(0, .int x1), (1, .int x2), (2, .int x3)] := hl
  have B8 : ∀ (n8 : Nat) (v1 : Int32) (v2 : Int32) (v3 : Int32) (v4 : Int32) (H : Heap) (locs : List Loc) (ls : Array Slot), lv_has ls 5 [(1, .int v1), (2, .int v2), (3, .int v3), (4, .int v4)] → gW D ty A ws s s.heap H locs → ct_keyOf_b8 n8 v1 v2 v3 v4 = some r → W p l e rm_ct_keyOf s m args below meth c H locs 0 0 Q (F0 m 8 ls []) := by
    intro n8
    induction n8 with
    | zero => intro v1 v2 v3 v4 H locs ls hl hw hf; cases hf
    | succ n8 ih8 =>
      have B33 : ∀ (v1 : Int32) (v2 : Int32) (v3 : Int32) (v4 : Int32) (H : Heap) (locs : List Loc) (ls : Array Slot), lv_has ls 5 [(1, .int v1), (2, .int v2), (3, .int v3), (4, .int v4)] → gW D ty A ws s s.heap H locs → ct_keyOf_b33 (ct_keyOf_b8 n8) v1 v2 v3 v4 = some r → W p l e rm_ct_keyOf s m args below meth c H locs 0 0 Q (F0 m 33 ls []) := by
        intro v1 v2 v3 v4 H locs ls hl hw hf
        unfold ct_keyOf_b33 at hf
        refine lv_iinc (v := v4 + 1) (lv' := [(4, .int (v4 + 1)), (1, .int v1), (2, .int v2), (3, .int v3)]) hx hb dX8_keyOf_33 hl (k := 3) rfl rfl (by decide) rfl (fun ls hl => ?_)
        refine lv_goto (tgt := 8) hx hb dX8_keyOf_36 (by decide) ?_
        exact ih8 v1 v2 v3 (v4 + 1) _ _ _ (lv_sub hl [1, 2, 3, 0] rfl) hw hf
      intro v1 v2 v3 v4 H locs ls hl hw hf
      rw [ct_keyOf_b8] at hf
      refine lv_iload hx hb dX8_keyOf_8 (lv_at hl 3 rfl) ?_
      refine lv_iconst (v := 3) hx hb dX8_keyOf_10 (by decide) ?_
      refine lv_icmp_ge (tgt := 39) hx hb dX8_keyOf_11 (by decide) (fun c1 => ?_) (fun c1 => ?_)
      · have hf := g_t c1 hf
        refine lv_iload_n hx hb dX8_keyOf_39 rfl (lv_at hl 2 rfl) ?_
        exact hret v3 _ _ _ _ _ (Option.some.inj hf) rfl hw dX8_keyOf_40
      · have hf := g_f c1 hf
        refine lv_iload_n hx hb dX8_keyOf_14 rfl (lv_at hl 0 rfl) ?_
        refine lv_iconst (v := 1) hx hb dX8_keyOf_15 (by decide) ?_
        refine lv_iload hx hb dX8_keyOf_16 (lv_at hl 3 rfl) ?_
        refine lv_ishl hx hb dX8_keyOf_18 ?_
        refine lv_iand hx hb dX8_keyOf_19 ?_
        refine lv_if_eq (tgt := 33) hx hb dX8_keyOf_20 (by decide) (fun c2 => ?_) (fun c2 => ?_)
        · have hf := g_t c2 hf
          exact B33 v1 v2 v3 v4 _ _ _ (lv_sub hl [0, 1, 2, 3] rfl) hw hf
        · have hf := g_f c2 hf
          refine lv_iload_n hx hb dX8_keyOf_23 rfl (lv_at hl 2 rfl) ?_
          refine lv_iload_n hx hb dX8_keyOf_24 rfl (lv_at hl 1 rfl) ?_
          refine lv_iload hx hb dX8_keyOf_25 (lv_at hl 3 rfl) ?_
          obtain ⟨r4, h3, hf⟩ := g_b1 hf
          refine g_sI F (As := [.int v4]) (rest := [.int v2, .int v3]) (cct_spotShift h3) (va_cwS 1 hts gX8_keyOf_X8_spotShift rfl rfl rfl (by decide +kernel) ⟨Nat.le_of_ble_eq_true rfl, Nat.le_of_ble_eq_true rfl⟩) hw rfl hl.1 rfl (Nat.le_of_ble_eq_true rfl) dX8_keyOf_27 (fun H locs hw => ?_)
          refine lv_ishl hx hb dX8_keyOf_30 ?_
          refine lv_iadd hx hb dX8_keyOf_31 ?_
          obtain ⟨y5, ey5, hf⟩ := g_let hf
          refine g_nm ey5 ?_
          refine lv_istore_n (lv' := [(3, .int y5), (1, .int v1), (2, .int v2), (4, .int v4)]) hx hb dX8_keyOf_32 rfl hl (by decide) rfl (fun ls hl => ?_)
          exact B33 v1 v2 y5 v4 _ _ _ (lv_sub hl [1, 2, 0, 3] rfl) hw hf
  unfold ct_keyOf at hf
  refine lv_iload_n hx hb dX8_keyOf_0 rfl (lv_at hl 0 rfl) ?_
  refine lv_bipush (v := 18) hx hb dX8_keyOf_1 (by decide) ?_
  refine lv_ishl hx hb dX8_keyOf_3 ?_
  obtain ⟨y6, ey6, hf⟩ := g_let hf
  refine g_nm ey6 ?_
  refine lv_istore_n (lv' := [(3, .int y6), (0, .int x1), (1, .int x2), (2, .int x3)]) hx hb dX8_keyOf_4 rfl hl (by decide) rfl (fun ls hl => ?_)
  refine lv_iconst (v := 0) hx hb dX8_keyOf_5 (by decide) ?_
  refine lv_istore (lv' := [(4, .int 0), (3, .int y6), (0, .int x1), (1, .int x2), (2, .int x3)]) hx hb dX8_keyOf_6 hl (by decide) rfl (fun ls hl => ?_)
  exact B8 1000 x2 x3 y6 0 _ _ _ (lv_sub hl [3, 4, 1, 0] rfl) hw hf

abbrev rm_ct_openSpot : Room := { frames := 2, cells := 0, slots := 0, locals := 44 }
set_option maxHeartbeats 4000000 in
set_option maxRecDepth 100000 in
theorem cct_openSpot {l : Launch} {D : va_G} {ty : gT} {A : Nat → Prop} {ad : Nat → Nat} {wr : va_W} {G : Nat} {S : Nat} {x1 : Int32} {x2 : Int32} {X : gC} {σ' : gC} (hf : ct_openSpot G S X x1 x2 = some ((), σ')) : gV l D ty A yX8_openSpot wsX8_openSpot rm_ct_openSpot [.ref (ad 10), .int x1, .int x2] (cw ty ad G S X wr) (cw ty ad G S σ' wr) := by
  refine gV_enter (cc := cX8_openSpot) (maxL := 6) (by decide) rfl (Nat.le_of_ble_eq_true rfl) ?_
  intro p e s m args below meth c Q ls F hl hw hret
  have F : CallFix p m c cX8_openSpot 6 s args wsX8_openSpot RX8 := F
  obtain ⟨hx, hb, hml, hown, hts⟩ := id F
  have hl : lv_has ls 6 [(0, .ref (ad 10)), (1, .int x1), (2, .int x2)] := hl
  have hinX8 : ∀ w ∈ wsX80, w ∈ wsX8_openSpot := by first | exact fun w h => List.mem_cons_of_mem _ (List.mem_append_right _ h) | decide +kernel
  have kf31 := hts (.fieldLink RX8 31 "GossipGate$Town" "prices" "[I") (by decide +kernel)
  have kf34 := hts (.fieldLink RX8 34 "GossipGate$Town" "bestKeys" "[I") (by decide +kernel)
  have kmCmin := hts (.code Lib.Math.min.name Lib.Math.min.code 2 (some .int)) (by decide +kernel)
  have kmImin := hts (.initialized "java/lang/Math") (by decide +kernel)
  have kmLmin := hts (.methodLink RX8 157 Lib.Math.min.name) (by decide +kernel)
  have kmSmin := hts (.static Lib.Math.min.name) (by decide +kernel)
  have B3 : ∀ (n3 : Nat) (v1 : Int32) (v2 : Int32) (v3 : Int32) (X : gC) (H : Heap) (locs : List Loc) (ls : Array Slot), lv_has ls 6 [(0, .ref (ad 10)), (1, .int v1), (2, .int v2), (3, .int v3)] → gW D ty A (cw ty ad G S X wr) s s.heap H locs → ct_openSpot_b3 G S n3 v1 v2 v3 X = some ((), σ') → W p l e rm_ct_openSpot s m args below meth c H locs 0 0 Q (F0 m 3 ls []) := by
    intro n3
    induction n3 with
    | zero => intro v1 v2 v3 X H locs ls hl hw hf; cases hf
    | succ n3 ih3 =>
      have B10 : ∀ (n10 : Nat) (v1 : Int32) (v2 : Int32) (v3 : Int32) (v4 : Int32) (X : gC) (H : Heap) (locs : List Loc) (ls : Array Slot), lv_has ls 6 [(0, .ref (ad 10)), (1, .int v1), (2, .int v2), (3, .int v3), (4, .int v4)] → gW D ty A (cw ty ad G S X wr) s s.heap H locs → ct_openSpot_b10 G S (ct_openSpot_b3 G S n3) n10 v1 v2 v3 v4 X = some ((), σ') → W p l e rm_ct_openSpot s m args below meth c H locs 0 0 Q (F0 m 10 ls []) := by
        intro n10
        induction n10 with
        | zero => intro v1 v2 v3 v4 X H locs ls hl hw hf; cases hf
        | succ n10 ih10 =>
          have B72 : ∀ (v1 : Int32) (v2 : Int32) (v3 : Int32) (v4 : Int32) (X : gC) (H : Heap) (locs : List Loc) (ls : Array Slot), lv_has ls 6 [(0, .ref (ad 10)), (1, .int v1), (2, .int v2), (3, .int v3), (4, .int v4)] → gW D ty A (cw ty ad G S X wr) s s.heap H locs → ct_openSpot_b72 G S (ct_openSpot_b3 G S n3) (ct_openSpot_b10 G S (ct_openSpot_b3 G S n3) n10) v1 v2 v3 v4 X = some ((), σ') → W p l e rm_ct_openSpot s m args below meth c H locs 0 0 Q (F0 m 72 ls []) := by
            intro v1 v2 v3 v4 X H locs ls hl hw hf
            unfold ct_openSpot_b72 at hf
            refine lv_iinc (v := v4 + 1) (lv' := [(4, .int (v4 + 1)), (0, .ref (ad 10)), (1, .int v1), (2, .int v2), (3, .int v3)]) hx hb dX8_openSpot_72 hl (k := 4) rfl rfl (by decide) rfl (fun ls hl => ?_)
            refine lv_goto (tgt := 10) hx hb dX8_openSpot_75 (by decide) ?_
            exact ih10 v1 v2 v3 (v4 + 1) X _ _ _ (lv_sub hl [1, 2, 3, 4, 0] rfl) hw hf
          intro v1 v2 v3 v4 X H locs ls hl hw hf
          rw [ct_openSpot_b10] at hf
          refine lv_iload hx hb dX8_openSpot_10 (lv_at hl 4 rfl) ?_
          refine lv_iload_n hx hb dX8_openSpot_12 rfl (lv_at hl 3 rfl) ?_
          refine lv_icmp_gt (tgt := 78) hx hb dX8_openSpot_13 (by decide) (fun c1 => ?_) (fun c1 => ?_)
          · have hf := g_t c1 hf
            refine lv_iinc (v := v3 + (-1)) (lv' := [(3, .int (v3 + (-1))), (0, .ref (ad 10)), (1, .int v1), (2, .int v2), (4, .int v4)]) hx hb dX8_openSpot_78 hl (k := 3) rfl rfl (by decide) rfl (fun ls hl => ?_)
            refine lv_goto (tgt := 3) hx hb dX8_openSpot_81 (by decide) ?_
            exact ih3 v1 v2 (v3 + (-1)) X _ _ _ (lv_sub hl [1, 2, 3, 0] rfl) hw hf
          · have hf := g_f c1 hf
            refine lv_iload hx hb dX8_openSpot_16 (lv_at hl 4 rfl) ?_
            refine lv_iload_n hx hb dX8_openSpot_18 rfl (lv_at hl 3 rfl) ?_
            refine lv_iand hx hb dX8_openSpot_19 ?_
            refine lv_iload hx hb dX8_openSpot_20 (lv_at hl 4 rfl) ?_
            refine lv_icmp_ne (tgt := 72) hx hb dX8_openSpot_22 (by decide) (fun c2 => ?_) (fun c2 => ?_)
            · have hf := g_f c2 hf
              exact B72 v1 v2 v3 v4 X _ _ _ (lv_sub hl [0, 1, 2, 3, 4] rfl) hw hf
            · have hf := g_t c2 hf
              refine lv_aload_n hx hb dX8_openSpot_25 rfl (lv_at hl 0 rfl) ?_
              refine cf_get_X8_5 F hinX8 hw kf34 dX8_openSpot_26 ?_
              refine lv_iload_n hx hb dX8_openSpot_29 rfl (lv_at hl 3 rfl) ?_
              refine lv_iload hx hb dX8_openSpot_30 (lv_at hl 4 rfl) ?_
              refine lv_ixor hx hb dX8_openSpot_32 ?_
              obtain ⟨g3, hf⟩ := g_g hf
              refine cf_ld_15 F hw g3 dX8_openSpot_33 ?_
              refine lv_aload_n hx hb dX8_openSpot_34 rfl (lv_at hl 0 rfl) ?_
              refine cf_get_X8_4 F hinX8 hw kf31 dX8_openSpot_35 ?_
              refine lv_iload_n hx hb dX8_openSpot_38 rfl (lv_at hl 1 rfl) ?_
              refine lv_bipush (v := 8) hx hb dX8_openSpot_39 (by decide) ?_
              refine lv_imul hx hb dX8_openSpot_41 ?_
              refine lv_iload hx hb dX8_openSpot_42 (lv_at hl 4 rfl) ?_
              refine lv_iadd hx hb dX8_openSpot_44 ?_
              obtain ⟨g4, hf⟩ := g_g hf
              refine cf_ld_14 F hw g4 dX8_openSpot_45 ?_
              refine lv_iload hx hb dX8_openSpot_46 (lv_at hl 4 rfl) ?_
              refine lv_iload_n hx hb dX8_openSpot_48 rfl (lv_at hl 2 rfl) ?_
              obtain ⟨r6, h5, hf⟩ := g_b1 hf
              refine g_sI F (As := [.int (X.1.2 7 (((v1 * 8) + v4).toNatClampNeg)), .int v4, .int v2]) (rest := [.int (X.1.2 8 ((v3 ^^^ v4).toNatClampNeg))]) (cct_keyOf h5) (va_cwS 3 hts gX8_openSpot_X8_keyOf rfl rfl rfl (by decide +kernel) ⟨Nat.le_of_ble_eq_true rfl, Nat.le_of_ble_eq_true rfl⟩) hw rfl hl.1 rfl (Nat.le_of_ble_eq_true rfl) dX8_openSpot_49 (fun H locs hw => ?_)
              refine lv_iadd hx hb dX8_openSpot_52 ?_
              obtain ⟨y7, ey7, hf⟩ := g_let hf
              refine g_nm ey7 ?_
              refine lv_istore (lv' := [(5, .int y7), (0, .ref (ad 10)), (1, .int v1), (2, .int v2), (3, .int v3), (4, .int v4)]) hx hb dX8_openSpot_53 hl (by decide) rfl (fun ls hl => ?_)
              refine lv_aload_n hx hb dX8_openSpot_55 rfl (lv_at hl 1 rfl) ?_
              refine cf_get_X8_5 F hinX8 hw kf34 dX8_openSpot_56 ?_
              refine lv_iload_n hx hb dX8_openSpot_59 rfl (lv_at hl 4 rfl) ?_
              refine lv_aload_n hx hb dX8_openSpot_60 rfl (lv_at hl 1 rfl) ?_
              refine cf_get_X8_5 F hinX8 hw kf34 dX8_openSpot_61 ?_
              refine lv_iload_n hx hb dX8_openSpot_64 rfl (lv_at hl 4 rfl) ?_
              obtain ⟨g8, hf⟩ := g_g hf
              refine cf_ld_15 F hw g8 dX8_openSpot_65 ?_
              refine lv_iload hx hb dX8_openSpot_66 (lv_at hl 0 rfl) ?_
              refine va_mmin hx hb (hml.trans hl.1.symm) hown kmLmin kmSmin kmImin kmCmin (Nat.le_of_ble_eq_true rfl) (Nat.le_of_ble_eq_true rfl) (Nat.zero_le _) (Nat.zero_le _) dX8_openSpot_68 ?_
              refine cf_st_15 F hw g8 dX8_openSpot_71 (fun H locs hw => ?_)
              obtain ⟨X9, eX9, hf⟩ := g_let hf
              have hw := cw_re eX9 hw
              exact B72 v1 v2 v3 v4 X9 _ _ _ (lv_sub hl [1, 2, 3, 4, 5] rfl) hw hf
      intro v1 v2 v3 X H locs ls hl hw hf
      rw [ct_openSpot_b3] at hf
      refine lv_iload_n hx hb dX8_openSpot_3 rfl (lv_at hl 3 rfl) ?_
      refine lv_if_le (tgt := 84) hx hb dX8_openSpot_4 (by decide) (fun c10 => ?_) (fun c10 => ?_)
      · have hf := g_t c10 hf
        exact hret _ _ _ _ _ (congrArg (fun t => cw ty ad G S t wr) (g_i2 hf)) hw dX8_openSpot_84
      · have hf := g_f c10 hf
        refine lv_iconst (v := 1) hx hb dX8_openSpot_7 (by decide) ?_
        refine lv_istore (lv' := [(4, .int 1), (0, .ref (ad 10)), (1, .int v1), (2, .int v2), (3, .int v3)]) hx hb dX8_openSpot_8 hl (by decide) rfl (fun ls hl => ?_)
        exact B10 1000 v1 v2 v3 1 X _ _ _ (lv_sub hl [1, 2, 3, 4, 0] rfl) hw hf
  unfold ct_openSpot at hf
  refine lv_bipush (v := 7) hx hb dX8_openSpot_0 (by decide) ?_
  refine lv_istore_n (lv' := [(3, .int 7), (0, .ref (ad 10)), (1, .int x1), (2, .int x2)]) hx hb dX8_openSpot_2 rfl hl (by decide) rfl (fun ls hl => ?_)
  exact B3 1000 x1 x2 7 X _ _ _ (lv_sub hl [1, 2, 3, 0] rfl) hw hf

abbrev rm_ct_setPrices : Room := { frames := 3, cells := 0, slots := 0, locals := 69 }
set_option maxHeartbeats 4000000 in
set_option maxRecDepth 100000 in
theorem cct_setPrices {l : Launch} {D : va_G} {ty : gT} {A : Nat → Prop} {ad : Nat → Nat} {wr : va_W} {G : Nat} {S : Nat} {x1 : Nat} {x2 : Int32} {X : gC} {σ' : gC} (hf : ct_setPrices G S X x1 x2 = some ((), σ')) : gV l D ty A yX8_setPrices wsX8_setPrices rm_ct_setPrices [.ref (ad 10), .ref (ad (200 + x1)), .int x2] (cw ty ad G S X wr) (cw ty ad G S σ' wr) := by
  refine gV_enter (cc := cX8_setPrices) (maxL := 8) (by decide) rfl (Nat.le_of_ble_eq_true rfl) ?_
  intro p e s m args below meth c Q ls F hl hw hret
  have F : CallFix p m c cX8_setPrices 8 s args wsX8_setPrices RX8 := F
  obtain ⟨hx, hb, hml, hown, hts⟩ := id F
  have hl : lv_has ls 8 [(0, .ref (ad 10)), (1, .ref (ad (200 + x1))), (2, .int x2)] := hl
  have hinX0 : ∀ w ∈ wsX00, w ∈ wsX8_setPrices := by first | exact fun w h => List.mem_cons_of_mem _ (List.mem_append_left _ (List.mem_append_left _ (List.mem_append_left _ (List.mem_append_right _ h)))) | decide +kernel
  have hinX1 : ∀ w ∈ wsX10, w ∈ wsX8_setPrices := by first | exact fun w h => List.mem_cons_of_mem _ (List.mem_append_left _ (List.mem_append_left _ (List.mem_append_right _ h))) | decide +kernel
  have hinX6 : ∀ w ∈ wsX60, w ∈ wsX8_setPrices := by first | exact fun w h => List.mem_cons_of_mem _ (List.mem_append_left _ (List.mem_append_right _ h)) | decide +kernel
  have hinX8 : ∀ w ∈ wsX80, w ∈ wsX8_setPrices := by first | exact fun w h => List.mem_cons_of_mem _ (List.mem_append_left _ (List.mem_append_left _ (List.mem_append_left _ (List.mem_append_left _ (List.mem_append_right _ h))))) | decide +kernel
  have kf11 := hts (.fieldLink RX8 11 "GossipGate$Town" "gates" "[LGossipGate$Gate;") (by decide +kernel)
  have kf31 := hts (.fieldLink RX8 31 "GossipGate$Town" "prices" "[I") (by decide +kernel)
  have kf73 := hts (.fieldLink RX8 73 "GossipGate$Gate" "number" "I") (by decide +kernel)
  have B12 : ∀ (n12 : Nat) (v1 : Nat) (v2 : Int32) (v4 : Int32) (v5 : Int32) (X : gC) (H : Heap) (locs : List Loc) (ls : Array Slot), lv_has ls 8 [(0, .ref (ad 10)), (1, .ref (ad (200 + v1))), (2, .int v2), (3, .ref (ad 11)), (4, .int v4), (5, .int v5)] → gW D ty A (cw ty ad G S X wr) s s.heap H locs → ct_setPrices_b12 G S n12 v1 v2 v4 v5 X = some ((), σ') → W p l e rm_ct_setPrices s m args below meth c H locs 0 0 Q (F0 m 12 ls []) := by
    intro n12
    induction n12 with
    | zero => intro v1 v2 v4 v5 X H locs ls hl hw hf; cases hf
    | succ n12 ih12 =>
      have B28 : ∀ (n28 : Nat) (v1 : Nat) (v2 : Int32) (v4 : Int32) (v5 : Int32) (v6 : Nat) (v7 : Int32) (X : gC) (H : Heap) (locs : List Loc) (ls : Array Slot), lv_has ls 8 [(0, .ref (ad 10)), (1, .ref (ad (200 + v1))), (2, .int v2), (3, .ref (ad 11)), (4, .int v4), (5, .int v5), (6, .ref (ad (100 + v6))), (7, .int v7)] → gW D ty A (cw ty ad G S X wr) s s.heap H locs → ct_setPrices_b28 G S (ct_setPrices_b12 G S n12) n28 v1 v2 v4 v5 v6 v7 X = some ((), σ') → W p l e rm_ct_setPrices s m args below meth c H locs 0 0 Q (F0 m 28 ls []) := by
        intro n28
        induction n28 with
        | zero => intro v1 v2 v4 v5 v6 v7 X H locs ls hl hw hf; cases hf
        | succ n28 ih28 =>
          intro v1 v2 v4 v5 v6 v7 X H locs ls hl hw hf
          rw [ct_setPrices_b28] at hf
          refine lv_iload hx hb dX8_setPrices_28 (lv_at hl 7 rfl) ?_
          refine lv_bipush (v := 8) hx hb dX8_setPrices_30 (by decide) ?_
          refine lv_icmp_ge (tgt := 67) hx hb dX8_setPrices_32 (by decide) (fun c1 => ?_) (fun c1 => ?_)
          · have hf := g_t c1 hf
            refine lv_iinc (v := v5 + 1) (lv' := [(5, .int (v5 + 1)), (0, .ref (ad 10)), (1, .ref (ad (200 + v1))), (2, .int v2), (3, .ref (ad 11)), (4, .int v4), (6, .ref (ad (100 + v6))), (7, .int v7)]) hx hb dX8_setPrices_67 hl (k := 5) rfl rfl (by decide) rfl (fun ls hl => ?_)
            refine lv_goto (tgt := 12) hx hb dX8_setPrices_70 (by decide) ?_
            exact ih12 v1 v2 v4 (v5 + 1) X _ _ _ (lv_sub hl [1, 2, 3, 4, 5, 0] rfl) hw hf
          · have hf := g_f c1 hf
            refine lv_aload_n hx hb dX8_setPrices_35 rfl (lv_at hl 0 rfl) ?_
            refine cf_get_X8_4 F hinX8 hw kf31 dX8_setPrices_36 ?_
            refine lv_aload hx hb dX8_setPrices_39 (lv_at hl 6 rfl) ?_
            obtain ⟨g2, hf⟩ := g_g hf
            refine cw_gate_get_0 F hinX0 hinX1 hinX6 hw g2 kf73 dX8_setPrices_41 ?_
            refine lv_bipush (v := 8) hx hb dX8_setPrices_44 (by decide) ?_
            refine lv_imul hx hb dX8_setPrices_46 ?_
            refine lv_iload hx hb dX8_setPrices_47 (lv_at hl 7 rfl) ?_
            refine lv_iadd hx hb dX8_setPrices_49 ?_
            refine lv_aload_n hx hb dX8_setPrices_50 rfl (lv_at hl 0 rfl) ?_
            refine lv_aload hx hb dX8_setPrices_51 (lv_at hl 6 rfl) ?_
            refine lv_aload_n hx hb dX8_setPrices_53 rfl (lv_at hl 1 rfl) ?_
            refine lv_iload_n hx hb dX8_setPrices_54 rfl (lv_at hl 2 rfl) ?_
            refine lv_iload hx hb dX8_setPrices_55 (lv_at hl 7 rfl) ?_
            obtain ⟨r4, h3, hf⟩ := g_b1 hf
            refine g_cI F (As := [.ref (ad (100 + v6)), .ref (ad (200 + v1)), .int v2, .int v7]) (rest := [.int (((nI v6) * 8) + v7), .ref (ad 14)]) (cct_dutyOf h3) (cwV 4 hts gX8_setPrices_X8_dutyOf rfl rfl rfl (by decide +kernel) ⟨Nat.le_of_ble_eq_true rfl, Nat.le_of_ble_eq_true rfl⟩) hw (hw.recv (ci := 8) (q0 := 10) rfl rfl rfl) rfl hl.1 rfl (Nat.le_of_ble_eq_true rfl) dX8_setPrices_57 (fun H locs hw => ?_)
            obtain ⟨g5, hf⟩ := g_g hf
            refine cf_st_14 F hw g5 dX8_setPrices_60 (fun H locs hw => ?_)
            obtain ⟨X6, eX6, hf⟩ := g_let hf
            have hw := cw_re eX6 hw
            refine lv_iinc (v := v7 + 1) (lv' := [(7, .int (v7 + 1)), (0, .ref (ad 10)), (1, .ref (ad (200 + v1))), (2, .int v2), (3, .ref (ad 11)), (4, .int v4), (5, .int v5), (6, .ref (ad (100 + v6)))]) hx hb dX8_setPrices_61 hl (k := 7) rfl rfl (by decide) rfl (fun ls hl => ?_)
            refine lv_goto (tgt := 28) hx hb dX8_setPrices_64 (by decide) ?_
            exact ih28 v1 v2 v4 v5 v6 (v7 + 1) X6 _ _ _ (lv_sub hl [1, 2, 3, 4, 5, 6, 7, 0] rfl) hw hf
      intro v1 v2 v4 v5 X H locs ls hl hw hf
      rw [ct_setPrices_b12] at hf
      refine lv_iload hx hb dX8_setPrices_12 (lv_at hl 5 rfl) ?_
      refine lv_iload hx hb dX8_setPrices_14 (lv_at hl 4 rfl) ?_
      refine lv_icmp_ge (tgt := 73) hx hb dX8_setPrices_16 (by decide) (fun c7 => ?_) (fun c7 => ?_)
      · have hf := g_t c7 hf
        exact hret _ _ _ _ _ (congrArg (fun t => cw ty ad G S t wr) (g_i2 hf)) hw dX8_setPrices_73
      · have hf := g_f c7 hf
        refine lv_aload_n hx hb dX8_setPrices_19 rfl (lv_at hl 3 rfl) ?_
        refine lv_iload hx hb dX8_setPrices_20 (lv_at hl 5 rfl) ?_
        obtain ⟨g8, hf⟩ := g_g hf
        refine cw_gates F hw g8 dX8_setPrices_22 ?_
        refine lv_astore (lv' := [(6, .ref (ad (100 + v5.toNatClampNeg))), (0, .ref (ad 10)), (1, .ref (ad (200 + v1))), (2, .int v2), (3, .ref (ad 11)), (4, .int v4), (5, .int v5)]) hx hb dX8_setPrices_23 hl (by decide) rfl (fun ls hl => ?_)
        refine lv_iconst (v := 0) hx hb dX8_setPrices_25 (by decide) ?_
        refine lv_istore (lv' := [(7, .int 0), (6, .ref (ad (100 + v5.toNatClampNeg))), (0, .ref (ad 10)), (1, .ref (ad (200 + v1))), (2, .int v2), (3, .ref (ad 11)), (4, .int v4), (5, .int v5)]) hx hb dX8_setPrices_26 hl (by decide) rfl (fun ls hl => ?_)
        exact B28 1000 v1 v2 v4 v5 v5.toNatClampNeg 0 X _ _ _ (lv_sub hl [2, 3, 4, 5, 6, 7, 1, 0] rfl) hw hf
  unfold ct_setPrices at hf
  refine lv_aload_n hx hb dX8_setPrices_0 rfl (lv_at hl 0 rfl) ?_
  refine cf_get_X8_0 F hinX8 hw kf11 dX8_setPrices_1 ?_
  refine lv_astore_n (lv' := [(3, .ref (ad 11)), (0, .ref (ad 10)), (1, .ref (ad (200 + x1))), (2, .int x2)]) hx hb dX8_setPrices_4 rfl hl (by decide) rfl (fun ls hl => ?_)
  refine lv_aload_n hx hb dX8_setPrices_5 rfl (lv_at hl 0 rfl) ?_
  refine cf_len_11 F hw dX8_setPrices_6 ?_
  refine lv_istore (lv' := [(4, .int (nI G)), (3, .ref (ad 11)), (0, .ref (ad 10)), (1, .ref (ad (200 + x1))), (2, .int x2)]) hx hb dX8_setPrices_7 hl (by decide) rfl (fun ls hl => ?_)
  refine lv_iconst (v := 0) hx hb dX8_setPrices_9 (by decide) ?_
  refine lv_istore (lv' := [(5, .int 0), (4, .int (nI G)), (3, .ref (ad 11)), (0, .ref (ad 10)), (1, .ref (ad (200 + x1))), (2, .int x2)]) hx hb dX8_setPrices_10 hl (by decide) rfl (fun ls hl => ?_)
  exact B12 1000 x1 x2 (nI G) 0 X _ _ _ (lv_sub hl [3, 4, 5, 2, 1, 0] rfl) hw hf

abbrev rm_ct_openDay : Room := { frames := 4, cells := 0, slots := 0, locals := 96 }
set_option maxHeartbeats 4000000 in
set_option maxRecDepth 100000 in
theorem cct_openDay {l : Launch} {D : va_G} {ty : gT} {A : Nat → Prop} {ad : Nat → Nat} {wr : va_W} {G : Nat} {S : Nat} {x1 : Nat} {x2 : Int32} {x3 : Int32} {X : gC} {σ' : gC} (hf : ct_openDay G S X x1 x2 x3 = some ((), σ')) : gV l D ty A yX8_openDay wsX8_openDay rm_ct_openDay [.ref (ad 10), .ref (ad (200 + x1)), .int x2, .int x3] (cw ty ad G S X wr) (cw ty ad G S σ' wr) := by
  refine gV_enter (cc := cX8_openDay) (maxL := 5) (by decide) rfl (Nat.le_of_ble_eq_true rfl) ?_
  intro p e s m args below meth c Q ls F hl hw hret
  have F : CallFix p m c cX8_openDay 5 s args wsX8_openDay RX8 := F
  obtain ⟨hx, hb, hml, hown, hts⟩ := id F
  have hl : lv_has ls 5 [(0, .ref (ad 10)), (1, .ref (ad (200 + x1))), (2, .int x2), (3, .int x3)] := hl
  have hinX8 : ∀ w ∈ wsX80, w ∈ wsX8_openDay := by first | exact fun w h => List.mem_cons_of_mem _ (List.mem_append_left _ (List.mem_append_left _ (List.mem_append_left _ (List.mem_append_left _ (List.mem_append_right _ h))))) | decide +kernel
  have kf11 := hts (.fieldLink RX8 11 "GossipGate$Town" "gates" "[LGossipGate$Gate;") (by decide +kernel)
  have B9 : ∀ (n9 : Nat) (v2 : Int32) (v3 : Int32) (v4 : Int32) (X : gC) (H : Heap) (locs : List Loc) (ls : Array Slot), lv_has ls 5 [(0, .ref (ad 10)), (2, .int v2), (3, .int v3), (4, .int v4)] → gW D ty A (cw ty ad G S X wr) s s.heap H locs → ct_openDay_b9 G S n9 v2 v3 v4 X = some ((), σ') → W p l e rm_ct_openDay s m args below meth c H locs 0 0 Q (F0 m 9 ls []) := by
    intro n9
    induction n9 with
    | zero => intro v2 v3 v4 X H locs ls hl hw hf; cases hf
    | succ n9 ih9 =>
      have B38 : ∀ (v2 : Int32) (v3 : Int32) (v4 : Int32) (X : gC) (H : Heap) (locs : List Loc) (ls : Array Slot), lv_has ls 5 [(0, .ref (ad 10)), (2, .int v2), (3, .int v3), (4, .int v4)] → gW D ty A (cw ty ad G S X wr) s s.heap H locs → ct_openDay_b38 G S (ct_openDay_b9 G S n9) v2 v3 v4 X = some ((), σ') → W p l e rm_ct_openDay s m args below meth c H locs 0 0 Q (F0 m 38 ls []) := by
        intro v2 v3 v4 X H locs ls hl hw hf
        unfold ct_openDay_b38 at hf
        refine lv_iinc (v := v4 + 1) (lv' := [(4, .int (v4 + 1)), (0, .ref (ad 10)), (2, .int v2), (3, .int v3)]) hx hb dX8_openDay_38 hl (k := 3) rfl rfl (by decide) rfl (fun ls hl => ?_)
        refine lv_goto (tgt := 9) hx hb dX8_openDay_41 (by decide) ?_
        exact ih9 v2 v3 (v4 + 1) X _ _ _ (lv_sub hl [1, 2, 3, 0] rfl) hw hf
      intro v2 v3 v4 X H locs ls hl hw hf
      rw [ct_openDay_b9] at hf
      refine lv_iload hx hb dX8_openDay_9 (lv_at hl 3 rfl) ?_
      refine lv_aload_n hx hb dX8_openDay_11 rfl (lv_at hl 0 rfl) ?_
      refine cf_get_X8_0 F hinX8 hw kf11 dX8_openDay_12 ?_
      refine cf_len_11 F hw dX8_openDay_15 ?_
      refine lv_icmp_ge (tgt := 44) hx hb dX8_openDay_16 (by decide) (fun c1 => ?_) (fun c1 => ?_)
      · have hf := g_t c1 hf
        exact hret _ _ _ _ _ (congrArg (fun t => cw ty ad G S t wr) (g_i2 hf)) hw dX8_openDay_44
      · have hf := g_f c1 hf
        refine lv_iload hx hb dX8_openDay_19 (lv_at hl 3 rfl) ?_
        refine lv_iload_n hx hb dX8_openDay_21 rfl (lv_at hl 2 rfl) ?_
        refine lv_icmp_eq (tgt := 38) hx hb dX8_openDay_22 (by decide) (fun c2 => ?_) (fun c2 => ?_)
        · have hf := g_t c2 hf
          exact B38 v2 v3 v4 X _ _ _ (lv_sub hl [0, 1, 2, 3] rfl) hw hf
        · have hf := g_f c2 hf
          refine lv_aload_n hx hb dX8_openDay_25 rfl (lv_at hl 0 rfl) ?_
          refine lv_iload hx hb dX8_openDay_26 (lv_at hl 3 rfl) ?_
          refine lv_bipush (v := 10) hx hb dX8_openDay_28 (by decide) ?_
          refine lv_iload hx hb dX8_openDay_30 (lv_at hl 3 rfl) ?_
          refine lv_imul hx hb dX8_openDay_32 ?_
          refine lv_iload_n hx hb dX8_openDay_33 rfl (lv_at hl 1 rfl) ?_
          refine lv_iadd hx hb dX8_openDay_34 ?_
          obtain ⟨r4, X5, h3, hf⟩ := g_b2 hf
          refine g_cV F (As := [.int v4, .int (((10 : Int32) * v4) + v2)]) (rest := []) (cct_openSpot h3) (cwV 2 hts gX8_openDay_X8_openSpot rfl rfl rfl (by decide +kernel) ⟨Nat.le_of_ble_eq_true rfl, Nat.le_of_ble_eq_true rfl⟩) hw (hw.recv (ci := 8) (q0 := 10) rfl rfl rfl) rfl hl.1 rfl (Nat.le_of_ble_eq_true rfl) dX8_openDay_35 (fun H locs hw => ?_)
          exact B38 v2 v3 v4 X5 _ _ _ (lv_sub hl [0, 1, 2, 3] rfl) hw hf
  unfold ct_openDay at hf
  refine lv_aload_n hx hb dX8_openDay_0 rfl (lv_at hl 0 rfl) ?_
  refine lv_aload_n hx hb dX8_openDay_1 rfl (lv_at hl 1 rfl) ?_
  refine lv_iload_n hx hb dX8_openDay_2 rfl (lv_at hl 2 rfl) ?_
  obtain ⟨r7, X8, h6, hf⟩ := g_b2 hf
  refine g_cV F (As := [.ref (ad (200 + x1)), .int x2]) (rest := []) (cct_setPrices h6) (cwV 2 hts gX8_openDay_X8_setPrices rfl rfl rfl (by decide +kernel) ⟨Nat.le_of_ble_eq_true rfl, Nat.le_of_ble_eq_true rfl⟩) hw (hw.recv (ci := 8) (q0 := 10) rfl rfl rfl) rfl hl.1 rfl (Nat.le_of_ble_eq_true rfl) dX8_openDay_3 (fun H locs hw => ?_)
  refine lv_iconst (v := 0) hx hb dX8_openDay_6 (by decide) ?_
  refine lv_istore (lv' := [(4, .int 0), (0, .ref (ad 10)), (1, .ref (ad (200 + x1))), (2, .int x2), (3, .int x3)]) hx hb dX8_openDay_7 hl (by decide) rfl (fun ls hl => ?_)
  exact B9 1000 x2 x3 0 X8 _ _ _ (lv_sub hl [1, 3, 4, 0] rfl) hw hf

abbrev rm_ct_leastKey : Room := { frames := 5, cells := 0, slots := 0, locals := 120 }
set_option maxHeartbeats 4000000 in
set_option maxRecDepth 100000 in
theorem cct_leastKey {l : Launch} {D : va_G} {ty : gT} {A : Nat → Prop} {ad : Nat → Nat} {wr : va_W} {G : Nat} {S : Nat} {x1 : Nat} {x2 : Int32} {x3 : Int32} {X : gC} {r : Int32} {σ' : gC} (hf : ct_leastKey G S X x1 x2 x3 = some (r, σ')) : gI l D ty A yX8_leastKey wsX8_leastKey rm_ct_leastKey [.ref (ad 10), .ref (ad (200 + x1)), .int x2, .int x3] (cw ty ad G S X wr) r (cw ty ad G S σ' wr) := by
  refine gI_enter (cc := cX8_leastKey) (maxL := 5) (by decide) rfl (Nat.le_of_ble_eq_true rfl) ?_
  intro p e s m args below meth c Q ls F hl hw hret
  have F : CallFix p m c cX8_leastKey 5 s args wsX8_leastKey RX8 := F
  obtain ⟨hx, hb, hml, hown, hts⟩ := id F
  have hl : lv_has ls 5 [(0, .ref (ad 10)), (1, .ref (ad (200 + x1))), (2, .int x2), (3, .int x3)] := hl
  have hinX5 : ∀ w ∈ wsX50, w ∈ wsX8_leastKey := by first | exact fun w h => List.mem_cons_of_mem _ (List.mem_append_left _ (List.mem_append_left _ (List.mem_append_left _ (List.mem_append_left _ (List.mem_append_right _ h))))) | decide +kernel
  have hinX8 : ∀ w ∈ wsX80, w ∈ wsX8_leastKey := by first | exact fun w h => List.mem_cons_of_mem _ (List.mem_append_left _ (List.mem_append_left _ (List.mem_append_left _ (List.mem_append_right _ h)))) | decide +kernel
  have kf131 := hts (.fieldLink RX8 131 "GossipGate$Story" "born" "I") (by decide +kernel)
  have kf34 := hts (.fieldLink RX8 34 "GossipGate$Town" "bestKeys" "[I") (by decide +kernel)
  have B10 : ∀ (n10 : Nat) (v1 : Nat) (v2 : Int32) (v3 : Int32) (v4 : Int32) (X : gC) (H : Heap) (locs : List Loc) (ls : Array Slot), lv_has ls 5 [(0, .ref (ad 10)), (1, .ref (ad (200 + v1))), (2, .int v2), (3, .int v3), (4, .int v4)] → gW D ty A (cw ty ad G S X wr) s s.heap H locs → ct_leastKey_b10 G S n10 v1 v2 v3 v4 X = some (r, σ') → W p l e rm_ct_leastKey s m args below meth c H locs 0 0 Q (F0 m 10 ls []) := by
    intro n10
    induction n10 with
    | zero => intro v1 v2 v3 v4 X H locs ls hl hw hf; cases hf
    | succ n10 ih10 =>
      intro v1 v2 v3 v4 X H locs ls hl hw hf
      rw [ct_leastKey_b10] at hf
      refine lv_iload hx hb dX8_leastKey_10 (lv_at hl 4 rfl) ?_
      refine lv_iload_n hx hb dX8_leastKey_12 rfl (lv_at hl 2 rfl) ?_
      refine lv_icmp_gt (tgt := 30) hx hb dX8_leastKey_13 (by decide) (fun c1 => ?_) (fun c1 => ?_)
      · have hf := g_t c1 hf
        refine lv_aload_n hx hb dX8_leastKey_30 rfl (lv_at hl 0 rfl) ?_
        refine cf_get_X8_5 F hinX8 hw kf34 dX8_leastKey_31 ?_
        refine lv_bipush (v := 7) hx hb dX8_leastKey_34 (by decide) ?_
        refine cf_ld_15 F hw (by decide) dX8_leastKey_36 ?_
        exact hret (X.1.2 8 ((7 : Int32).toNatClampNeg)) _ _ _ _ _ (g_i1 hf) (congrArg (fun t => cw ty ad G S t wr) (g_i2 hf)) hw dX8_leastKey_37
      · have hf := g_f c1 hf
        refine lv_aload_n hx hb dX8_leastKey_16 rfl (lv_at hl 0 rfl) ?_
        refine lv_aload_n hx hb dX8_leastKey_17 rfl (lv_at hl 1 rfl) ?_
        refine lv_iload hx hb dX8_leastKey_18 (lv_at hl 4 rfl) ?_
        refine lv_iload_n hx hb dX8_leastKey_20 rfl (lv_at hl 3 rfl) ?_
        obtain ⟨r3, X4, h2, hf⟩ := g_b2 hf
        refine g_cV F (As := [.ref (ad (200 + v1)), .int v4, .int v3]) (rest := []) (cct_openDay h2) (cwV 3 hts gX8_leastKey_X8_openDay rfl rfl rfl (by decide +kernel) ⟨Nat.le_of_ble_eq_true rfl, Nat.le_of_ble_eq_true rfl⟩) hw (hw.recv (ci := 8) (q0 := 10) rfl rfl rfl) rfl hl.1 rfl (Nat.le_of_ble_eq_true rfl) dX8_leastKey_21 (fun H locs hw => ?_)
        refine lv_iinc (v := v4 + 1) (lv' := [(4, .int (v4 + 1)), (0, .ref (ad 10)), (1, .ref (ad (200 + v1))), (2, .int v2), (3, .int v3)]) hx hb dX8_leastKey_24 hl (k := 4) rfl rfl (by decide) rfl (fun ls hl => ?_)
        refine lv_goto (tgt := 10) hx hb dX8_leastKey_27 (by decide) ?_
        exact ih10 v1 v2 v3 (v4 + 1) X4 _ _ _ (lv_sub hl [1, 2, 3, 4, 0] rfl) hw hf
  unfold ct_leastKey at hf
  refine lv_aload_n hx hb dX8_leastKey_0 rfl (lv_at hl 0 rfl) ?_
  obtain ⟨r6, X7, h5, hf⟩ := g_b2 hf
  refine g_cV F (As := []) (rest := []) (cct_forgetKeys h5) (cwV 0 hts gX8_leastKey_X8_forgetKeys rfl rfl rfl (by decide +kernel) ⟨Nat.le_of_ble_eq_true rfl, Nat.le_of_ble_eq_true rfl⟩) hw (hw.recv (ci := 8) (q0 := 10) rfl rfl rfl) rfl hl.1 rfl (Nat.le_of_ble_eq_true rfl) dX8_leastKey_1 (fun H locs hw => ?_)
  refine lv_aload_n hx hb dX8_leastKey_4 rfl (lv_at hl 1 rfl) ?_
  obtain ⟨g8, hf⟩ := g_g hf
  refine cw_story_get_2 F hinX5 hw g8 kf131 dX8_leastKey_5 ?_
  refine lv_istore (lv' := [(4, .int (X7.2.2 5 x1)), (0, .ref (ad 10)), (1, .ref (ad (200 + x1))), (2, .int x2), (3, .int x3)]) hx hb dX8_leastKey_8 hl (by decide) rfl (fun ls hl => ?_)
  exact B10 1000 x1 x2 x3 (X7.2.2 5 x1) X7 _ _ _ (lv_sub hl [1, 2, 3, 4, 0] rfl) hw hf

abbrev rm_ct_freeDay : Room := { frames := 5, cells := 0, slots := 0, locals := 120 }
set_option maxHeartbeats 4000000 in
set_option maxRecDepth 100000 in
theorem cct_freeDay {l : Launch} {D : va_G} {ty : gT} {A : Nat → Prop} {ad : Nat → Nat} {wr : va_W} {G : Nat} {S : Nat} {x1 : Nat} {X : gC} {r : Int32} {σ' : gC} (hf : ct_freeDay G S X x1 = some (r, σ')) : gI l D ty A yX8_freeDay wsX8_freeDay rm_ct_freeDay [.ref (ad 10), .ref (ad (200 + x1))] (cw ty ad G S X wr) r (cw ty ad G S σ' wr) := by
  refine gI_enter (cc := cX8_freeDay) (maxL := 3) (by decide) rfl (Nat.le_of_ble_eq_true rfl) ?_
  intro p e s m args below meth c Q ls F hl hw hret
  have F : CallFix p m c cX8_freeDay 3 s args wsX8_freeDay RX8 := F
  obtain ⟨hx, hb, hml, hown, hts⟩ := id F
  have hl : lv_has ls 3 [(0, .ref (ad 10)), (1, .ref (ad (200 + x1)))] := hl
  have hinX5 : ∀ w ∈ wsX50, w ∈ wsX8_freeDay := by first | exact fun w h => List.mem_cons_of_mem _ (List.mem_append_left _ (List.mem_append_left _ (List.mem_append_left _ (List.mem_append_left _ (List.mem_append_right _ h))))) | decide +kernel
  have hinX8 : ∀ w ∈ wsX80, w ∈ wsX8_freeDay := by first | exact fun w h => List.mem_cons_of_mem _ (List.mem_append_left _ (List.mem_append_left _ (List.mem_append_left _ (List.mem_append_right _ h)))) | decide +kernel
  have kf131 := hts (.fieldLink RX8 131 "GossipGate$Story" "born" "I") (by decide +kernel)
  have kf34 := hts (.fieldLink RX8 34 "GossipGate$Town" "bestKeys" "[I") (by decide +kernel)
  have B9 : ∀ (n9 : Nat) (v1 : Nat) (v2 : Int32) (X : gC) (H : Heap) (locs : List Loc) (ls : Array Slot), lv_has ls 3 [(0, .ref (ad 10)), (1, .ref (ad (200 + v1))), (2, .int v2)] → gW D ty A (cw ty ad G S X wr) s s.heap H locs → ct_freeDay_b9 G S n9 v1 v2 X = some (r, σ') → W p l e rm_ct_freeDay s m args below meth c H locs 0 0 Q (F0 m 9 ls []) := by
    intro n9
    induction n9 with
    | zero => intro v1 v2 X H locs ls hl hw hf; cases hf
    | succ n9 ih9 =>
      intro v1 v2 X H locs ls hl hw hf
      rw [ct_freeDay_b9] at hf
      refine lv_iload_n hx hb dX8_freeDay_9 rfl (lv_at hl 2 rfl) ?_
      refine lv_bipush (v := 7) hx hb dX8_freeDay_10 (by decide) ?_
      refine lv_icmp_gt (tgt := 43) hx hb dX8_freeDay_12 (by decide) (fun c1 => ?_) (fun c1 => ?_)
      · have hf := g_t c1 hf
        refine lv_bipush (v := (-9)) hx hb dX8_freeDay_43 (by decide) ?_
        exact hret (-9) _ _ _ _ _ (g_i1 hf) (congrArg (fun t => cw ty ad G S t wr) (g_i2 hf)) hw dX8_freeDay_45
      · have hf := g_f c1 hf
        refine lv_aload_n hx hb dX8_freeDay_15 rfl (lv_at hl 0 rfl) ?_
        refine lv_aload_n hx hb dX8_freeDay_16 rfl (lv_at hl 1 rfl) ?_
        refine lv_iload_n hx hb dX8_freeDay_17 rfl (lv_at hl 2 rfl) ?_
        refine lv_iconst (v := (-1)) hx hb dX8_freeDay_18 (by decide) ?_
        obtain ⟨r3, X4, h2, hf⟩ := g_b2 hf
        refine g_cV F (As := [.ref (ad (200 + v1)), .int v2, .int (-1)]) (rest := []) (cct_openDay h2) (cwV 3 hts gX8_freeDay_X8_openDay rfl rfl rfl (by decide +kernel) ⟨Nat.le_of_ble_eq_true rfl, Nat.le_of_ble_eq_true rfl⟩) hw (hw.recv (ci := 8) (q0 := 10) rfl rfl rfl) rfl hl.1 rfl (Nat.le_of_ble_eq_true rfl) dX8_freeDay_19 (fun H locs hw => ?_)
        refine lv_aload_n hx hb dX8_freeDay_22 rfl (lv_at hl 0 rfl) ?_
        refine cf_get_X8_5 F hinX8 hw kf34 dX8_freeDay_23 ?_
        refine lv_bipush (v := 7) hx hb dX8_freeDay_26 (by decide) ?_
        refine cf_ld_15 F hw (by decide) dX8_freeDay_28 ?_
        obtain ⟨r6, h5, hf⟩ := g_b1 hf
        refine g_sI F (As := [.int (X4.1.2 8 ((7 : Int32).toNatClampNeg))]) (rest := []) (cct_penceOf h5) (va_cwS 1 hts gX8_freeDay_X8_penceOf rfl rfl rfl (by decide +kernel) ⟨Nat.le_of_ble_eq_true rfl, Nat.le_of_ble_eq_true rfl⟩) hw rfl hl.1 rfl (Nat.le_of_ble_eq_true rfl) dX8_freeDay_29 (fun H locs hw => ?_)
        refine lv_if_ne (tgt := 37) hx hb dX8_freeDay_32 (by decide) (fun c7 => ?_) (fun c7 => ?_)
        · have hf := g_f c7 hf
          refine lv_iinc (v := v2 + 1) (lv' := [(2, .int (v2 + 1)), (0, .ref (ad 10)), (1, .ref (ad (200 + v1)))]) hx hb dX8_freeDay_37 hl (k := 2) rfl rfl (by decide) rfl (fun ls hl => ?_)
          refine lv_goto (tgt := 9) hx hb dX8_freeDay_40 (by decide) ?_
          exact ih9 v1 (v2 + 1) X4 _ _ _ (lv_sub hl [1, 2, 0] rfl) hw hf
        · have hf := g_t c7 hf
          refine lv_iload_n hx hb dX8_freeDay_35 rfl (lv_at hl 2 rfl) ?_
          exact hret v2 _ _ _ _ _ (g_i1 hf) (congrArg (fun t => cw ty ad G S t wr) (g_i2 hf)) hw dX8_freeDay_36
  unfold ct_freeDay at hf
  refine lv_aload_n hx hb dX8_freeDay_0 rfl (lv_at hl 0 rfl) ?_
  obtain ⟨r9, X10, h8, hf⟩ := g_b2 hf
  refine g_cV F (As := []) (rest := []) (cct_forgetKeys h8) (cwV 0 hts gX8_freeDay_X8_forgetKeys rfl rfl rfl (by decide +kernel) ⟨Nat.le_of_ble_eq_true rfl, Nat.le_of_ble_eq_true rfl⟩) hw (hw.recv (ci := 8) (q0 := 10) rfl rfl rfl) rfl hl.1 rfl (Nat.le_of_ble_eq_true rfl) dX8_freeDay_1 (fun H locs hw => ?_)
  refine lv_aload_n hx hb dX8_freeDay_4 rfl (lv_at hl 1 rfl) ?_
  obtain ⟨g11, hf⟩ := g_g hf
  refine cw_story_get_2 F hinX5 hw g11 kf131 dX8_freeDay_5 ?_
  refine lv_istore_n (lv' := [(2, .int (X10.2.2 5 x1)), (0, .ref (ad 10)), (1, .ref (ad (200 + x1)))]) hx hb dX8_freeDay_8 rfl hl (by decide) rfl (fun ls hl => ?_)
  exact B9 1000 x1 (X10.2.2 5 x1) X10 _ _ _ (lv_sub hl [1, 2, 0] rfl) hw hf

abbrev rm_ct_pricedBy : Room := { frames := 0, cells := 0, slots := 0, locals := 0 }
set_option maxHeartbeats 4000000 in
set_option maxRecDepth 100000 in
theorem cct_pricedBy {l : Launch} {D : va_G} {ty : gT} {A : Nat → Prop} {ad : Nat → Nat} {wr : va_W} {G : Nat} {S : Nat} {x1 : Int32} {x2 : Int32} {x3 : Int32} {X : gC} {r : Int32} (hf : ct_pricedBy G S X x1 x2 x3 = some r) : gI l D ty A yX8_pricedBy wsX8_pricedBy rm_ct_pricedBy [.ref (ad 10), .int x1, .int x2, .int x3] (cw ty ad G S X wr) r (cw ty ad G S X wr) := by
  refine gI_enter (cc := cX8_pricedBy) (maxL := 7) (by decide) rfl (Nat.le_of_ble_eq_true rfl) ?_
  intro p e s m args below meth c Q ls F hl hw hret
  have F : CallFix p m c cX8_pricedBy 7 s args wsX8_pricedBy RX8 := F
  obtain ⟨hx, hb, hml, hown, hts⟩ := id F
  have hl : lv_has ls 7 [(0, .ref (ad 10)), (1, .int x1), (2, .int x2), (3, .int x3)] := hl
  have hinX8 : ∀ w ∈ wsX80, w ∈ wsX8_pricedBy := by first | exact fun w h => List.mem_cons_of_mem _ (List.mem_append_right _ h) | decide +kernel
  have kf11 := hts (.fieldLink RX8 11 "GossipGate$Town" "gates" "[LGossipGate$Gate;") (by decide +kernel)
  have kf31 := hts (.fieldLink RX8 31 "GossipGate$Town" "prices" "[I") (by decide +kernel)
  have B6 : ∀ (n6 : Nat) (v1 : Int32) (v2 : Int32) (v3 : Int32) (v4 : Int32) (v5 : Int32) (H : Heap) (locs : List Loc) (ls : Array Slot), lv_has ls 7 [(0, .ref (ad 10)), (1, .int v1), (2, .int v2), (3, .int v3), (4, .int v4), (5, .int v5)] → gW D ty A (cw ty ad G S X wr) s s.heap H locs → ct_pricedBy_b6 G S X n6 v1 v2 v3 v4 v5 = some r → W p l e rm_ct_pricedBy s m args below meth c H locs 0 0 Q (F0 m 6 ls []) := by
    intro n6
    induction n6 with
    | zero => intro v1 v2 v3 v4 v5 H locs ls hl hw hf; cases hf
    | succ n6 ih6 =>
      have B50 : ∀ (v1 : Int32) (v2 : Int32) (v3 : Int32) (v4 : Int32) (v5 : Int32) (s0 : Int32) (s1 : Int32) (H : Heap) (locs : List Loc) (ls : Array Slot), lv_has ls 7 [(0, .ref (ad 10)), (1, .int v1), (2, .int v2), (3, .int v3), (4, .int v4), (5, .int v5)] → gW D ty A (cw ty ad G S X wr) s s.heap H locs → ct_pricedBy_b50 G S X (ct_pricedBy_b6 G S X n6) v1 v2 v3 v4 v5 s0 s1 = some r → W p l e rm_ct_pricedBy s m args below meth c H locs 0 0 Q (F0 m 50 ls [.int s1, .int s0]) := by
        intro v1 v2 v3 v4 v5 s0 s1 H locs ls hl hw hf
        unfold ct_pricedBy_b50 at hf
        refine lv_ior hx hb dX8_pricedBy_50 ?_
        refine lv_istore (lv' := [(6, .int (s0 ||| s1)), (0, .ref (ad 10)), (1, .int v1), (2, .int v2), (3, .int v3), (4, .int v4), (5, .int v5)]) hx hb dX8_pricedBy_51 hl (by decide) rfl (fun ls hl => ?_)
        refine lv_iload hx hb dX8_pricedBy_53 (lv_at hl 5 rfl) ?_
        refine lv_aload_n hx hb dX8_pricedBy_55 rfl (lv_at hl 1 rfl) ?_
        refine cf_get_X8_4 F hinX8 hw kf31 dX8_pricedBy_56 ?_
        refine lv_iload hx hb dX8_pricedBy_59 (lv_at hl 6 rfl) ?_
        refine lv_bipush (v := 8) hx hb dX8_pricedBy_61 (by decide) ?_
        refine lv_imul hx hb dX8_pricedBy_63 ?_
        refine lv_iload hx hb dX8_pricedBy_64 (lv_at hl 0 rfl) ?_
        refine lv_iadd hx hb dX8_pricedBy_66 ?_
        obtain ⟨g1, hf⟩ := g_g hf
        refine cf_ld_14 F hw g1 dX8_pricedBy_67 ?_
        refine lv_iadd hx hb dX8_pricedBy_68 ?_
        obtain ⟨y2, ey2, hf⟩ := g_let hf
        refine g_nm ey2 ?_
        refine lv_istore (lv' := [(4, .int y2), (6, .int (s0 ||| s1)), (0, .ref (ad 10)), (1, .int v1), (2, .int v2), (3, .int v3), (5, .int v5)]) hx hb dX8_pricedBy_69 hl (by decide) rfl (fun ls hl => ?_)
        refine lv_iinc (v := v5 + 1) (lv' := [(5, .int (v5 + 1)), (4, .int y2), (6, .int (s0 ||| s1)), (0, .ref (ad 10)), (1, .int v1), (2, .int v2), (3, .int v3)]) hx hb dX8_pricedBy_71 hl (k := 6) rfl rfl (by decide) rfl (fun ls hl => ?_)
        refine lv_goto (tgt := 6) hx hb dX8_pricedBy_74 (by decide) ?_
        exact ih6 v1 v2 v3 y2 (v5 + 1) _ _ _ (lv_sub hl [3, 4, 5, 6, 1, 0] rfl) hw hf
      have B38 : ∀ (v1 : Int32) (v2 : Int32) (v3 : Int32) (v4 : Int32) (v5 : Int32) (s0 : Int32) (s1 : Int32) (H : Heap) (locs : List Loc) (ls : Array Slot), lv_has ls 7 [(0, .ref (ad 10)), (1, .int v1), (2, .int v2), (3, .int v3), (4, .int v4), (5, .int v5)] → gW D ty A (cw ty ad G S X wr) s s.heap H locs → ct_pricedBy_b38 G S X (ct_pricedBy_b6 G S X n6) v1 v2 v3 v4 v5 s0 s1 = some r → W p l e rm_ct_pricedBy s m args below meth c H locs 0 0 Q (F0 m 38 ls [.int s1, .int s0]) := by
        intro v1 v2 v3 v4 v5 s0 s1 H locs ls hl hw hf
        unfold ct_pricedBy_b38 at hf
        refine lv_ior hx hb dX8_pricedBy_38 ?_
        refine lv_iload_n hx hb dX8_pricedBy_39 rfl (lv_at hl 3 rfl) ?_
        refine lv_iload hx hb dX8_pricedBy_40 (lv_at hl 5 rfl) ?_
        refine lv_icmp_ne (tgt := 49) hx hb dX8_pricedBy_42 (by decide) (fun c3 => ?_) (fun c3 => ?_)
        · have hf := g_f c3 hf
          refine lv_iconst (v := 0) hx hb dX8_pricedBy_49 (by decide) ?_
          exact B50 v1 v2 v3 v4 v5 (s0 ||| s1) 0 _ _ _ (lv_sub hl [0, 1, 2, 3, 4, 5] rfl) hw hf
        · have hf := g_t c3 hf
          refine lv_iconst (v := 4) hx hb dX8_pricedBy_45 (by decide) ?_
          refine lv_goto (tgt := 50) hx hb dX8_pricedBy_46 (by decide) ?_
          exact B50 v1 v2 v3 v4 v5 (s0 ||| s1) 4 _ _ _ (lv_sub hl [0, 1, 2, 3, 4, 5] rfl) hw hf
      have B27 : ∀ (v1 : Int32) (v2 : Int32) (v3 : Int32) (v4 : Int32) (v5 : Int32) (s0 : Int32) (H : Heap) (locs : List Loc) (ls : Array Slot), lv_has ls 7 [(0, .ref (ad 10)), (1, .int v1), (2, .int v2), (3, .int v3), (4, .int v4), (5, .int v5)] → gW D ty A (cw ty ad G S X wr) s s.heap H locs → ct_pricedBy_b27 G S X (ct_pricedBy_b6 G S X n6) v1 v2 v3 v4 v5 s0 = some r → W p l e rm_ct_pricedBy s m args below meth c H locs 0 0 Q (F0 m 27 ls [.int s0]) := by
        intro v1 v2 v3 v4 v5 s0 H locs ls hl hw hf
        unfold ct_pricedBy_b27 at hf
        refine lv_iload_n hx hb dX8_pricedBy_27 rfl (lv_at hl 2 rfl) ?_
        refine lv_iload hx hb dX8_pricedBy_28 (lv_at hl 5 rfl) ?_
        refine lv_icmp_ne (tgt := 37) hx hb dX8_pricedBy_30 (by decide) (fun c4 => ?_) (fun c4 => ?_)
        · have hf := g_f c4 hf
          refine lv_iconst (v := 0) hx hb dX8_pricedBy_37 (by decide) ?_
          exact B38 v1 v2 v3 v4 v5 s0 0 _ _ _ (lv_sub hl [0, 1, 2, 3, 4, 5] rfl) hw hf
        · have hf := g_t c4 hf
          refine lv_iconst (v := 2) hx hb dX8_pricedBy_33 (by decide) ?_
          refine lv_goto (tgt := 38) hx hb dX8_pricedBy_34 (by decide) ?_
          exact B38 v1 v2 v3 v4 v5 s0 2 _ _ _ (lv_sub hl [0, 1, 2, 3, 4, 5] rfl) hw hf
      intro v1 v2 v3 v4 v5 H locs ls hl hw hf
      rw [ct_pricedBy_b6] at hf
      refine lv_iload hx hb dX8_pricedBy_6 (lv_at hl 5 rfl) ?_
      refine lv_aload_n hx hb dX8_pricedBy_8 rfl (lv_at hl 0 rfl) ?_
      refine cf_get_X8_0 F hinX8 hw kf11 dX8_pricedBy_9 ?_
      refine cf_len_11 F hw dX8_pricedBy_12 ?_
      refine lv_icmp_ge (tgt := 77) hx hb dX8_pricedBy_13 (by decide) (fun c5 => ?_) (fun c5 => ?_)
      · have hf := g_t c5 hf
        refine lv_iload hx hb dX8_pricedBy_77 (lv_at hl 4 rfl) ?_
        exact hret v4 _ _ _ _ _ (Option.some.inj hf) rfl hw dX8_pricedBy_79
      · have hf := g_f c5 hf
        refine lv_iload_n hx hb dX8_pricedBy_16 rfl (lv_at hl 1 rfl) ?_
        refine lv_iload hx hb dX8_pricedBy_17 (lv_at hl 5 rfl) ?_
        refine lv_icmp_ne (tgt := 26) hx hb dX8_pricedBy_19 (by decide) (fun c6 => ?_) (fun c6 => ?_)
        · have hf := g_f c6 hf
          refine lv_iconst (v := 0) hx hb dX8_pricedBy_26 (by decide) ?_
          exact B27 v1 v2 v3 v4 v5 0 _ _ _ (lv_sub hl [0, 1, 2, 3, 4, 5] rfl) hw hf
        · have hf := g_t c6 hf
          refine lv_iconst (v := 1) hx hb dX8_pricedBy_22 (by decide) ?_
          refine lv_goto (tgt := 27) hx hb dX8_pricedBy_23 (by decide) ?_
          exact B27 v1 v2 v3 v4 v5 1 _ _ _ (lv_sub hl [0, 1, 2, 3, 4, 5] rfl) hw hf
  unfold ct_pricedBy at hf
  refine lv_iconst (v := 0) hx hb dX8_pricedBy_0 (by decide) ?_
  refine lv_istore (lv' := [(4, .int 0), (0, .ref (ad 10)), (1, .int x1), (2, .int x2), (3, .int x3)]) hx hb dX8_pricedBy_1 hl (by decide) rfl (fun ls hl => ?_)
  refine lv_iconst (v := 0) hx hb dX8_pricedBy_3 (by decide) ?_
  refine lv_istore (lv' := [(5, .int 0), (4, .int 0), (0, .ref (ad 10)), (1, .int x1), (2, .int x2), (3, .int x3)]) hx hb dX8_pricedBy_4 hl (by decide) rfl (fun ls hl => ?_)
  exact B6 1000 x1 x2 x3 0 0 _ _ _ (lv_sub hl [2, 3, 4, 5, 1, 0] rfl) hw hf

abbrev rm_ct_waysWithin : Room := { frames := 4, cells := 0, slots := 0, locals := 96 }
set_option maxHeartbeats 4000000 in
set_option maxRecDepth 100000 in
theorem cct_waysWithin {l : Launch} {D : va_G} {ty : gT} {A : Nat → Prop} {ad : Nat → Nat} {wr : va_W} {G : Nat} {S : Nat} {x1 : Nat} {x2 : Int32} {x3 : Int32} {X : gC} {r : Int32} {σ' : gC} (hf : ct_waysWithin G S X x1 x2 x3 = some (r, σ')) : gI l D ty A yX8_waysWithin wsX8_waysWithin rm_ct_waysWithin [.ref (ad 10), .ref (ad (200 + x1)), .int x2, .int x3] (cw ty ad G S X wr) r (cw ty ad G S σ' wr) := by
  refine gI_enter (cc := cX8_waysWithin) (maxL := 8) (by decide) rfl (Nat.le_of_ble_eq_true rfl) ?_
  intro p e s m args below meth c Q ls F hl hw hret
  have F : CallFix p m c cX8_waysWithin 8 s args wsX8_waysWithin RX8 := F
  obtain ⟨hx, hb, hml, hown, hts⟩ := id F
  have hl : lv_has ls 8 [(0, .ref (ad 10)), (1, .ref (ad (200 + x1))), (2, .int x2), (3, .int x3)] := hl
  have hinX8 : ∀ w ∈ wsX80, w ∈ wsX8_waysWithin := by first | exact fun w h => List.mem_cons_of_mem _ (List.mem_append_left _ (List.mem_append_left _ (List.mem_append_left _ (List.mem_append_left _ (List.mem_append_right _ h))))) | decide +kernel
  have kf11 := hts (.fieldLink RX8 11 "GossipGate$Town" "gates" "[LGossipGate$Gate;") (by decide +kernel)
  have B12 : ∀ (n12 : Nat) (v3 : Int32) (v4 : Int32) (v5 : Int32) (X : gC) (H : Heap) (locs : List Loc) (ls : Array Slot), lv_has ls 8 [(0, .ref (ad 10)), (3, .int v3), (4, .int v4), (5, .int v5)] → gW D ty A (cw ty ad G S X wr) s s.heap H locs → ct_waysWithin_b12 G S n12 v3 v4 v5 X = some (r, σ') → W p l e rm_ct_waysWithin s m args below meth c H locs 0 0 Q (F0 m 12 ls []) := by
    intro n12
    induction n12 with
    | zero => intro v3 v4 v5 X H locs ls hl hw hf; cases hf
    | succ n12 ih12 =>
      have B25 : ∀ (n25 : Nat) (v3 : Int32) (v4 : Int32) (v5 : Int32) (v6 : Int32) (X : gC) (H : Heap) (locs : List Loc) (ls : Array Slot), lv_has ls 8 [(0, .ref (ad 10)), (3, .int v3), (4, .int v4), (5, .int v5), (6, .int v6)] → gW D ty A (cw ty ad G S X wr) s s.heap H locs → ct_waysWithin_b25 G S (ct_waysWithin_b12 G S n12) n25 v3 v4 v5 v6 X = some (r, σ') → W p l e rm_ct_waysWithin s m args below meth c H locs 0 0 Q (F0 m 25 ls []) := by
        intro n25
        induction n25 with
        | zero => intro v3 v4 v5 v6 X H locs ls hl hw hf; cases hf
        | succ n25 ih25 =>
          have B38 : ∀ (n38 : Nat) (v3 : Int32) (v4 : Int32) (v5 : Int32) (v6 : Int32) (v7 : Int32) (X : gC) (H : Heap) (locs : List Loc) (ls : Array Slot), lv_has ls 8 [(0, .ref (ad 10)), (3, .int v3), (4, .int v4), (5, .int v5), (6, .int v6), (7, .int v7)] → gW D ty A (cw ty ad G S X wr) s s.heap H locs → ct_waysWithin_b38 G S (ct_waysWithin_b12 G S n12) (ct_waysWithin_b25 G S (ct_waysWithin_b12 G S n12) n25) n38 v3 v4 v5 v6 v7 X = some (r, σ') → W p l e rm_ct_waysWithin s m args below meth c H locs 0 0 Q (F0 m 38 ls []) := by
            intro n38
            induction n38 with
            | zero => intro v3 v4 v5 v6 v7 X H locs ls hl hw hf; cases hf
            | succ n38 ih38 =>
              have B65 : ∀ (v3 : Int32) (v4 : Int32) (v5 : Int32) (v6 : Int32) (v7 : Int32) (X : gC) (H : Heap) (locs : List Loc) (ls : Array Slot), lv_has ls 8 [(0, .ref (ad 10)), (3, .int v3), (4, .int v4), (5, .int v5), (6, .int v6), (7, .int v7)] → gW D ty A (cw ty ad G S X wr) s s.heap H locs → ct_waysWithin_b65 G S (ct_waysWithin_b12 G S n12) (ct_waysWithin_b25 G S (ct_waysWithin_b12 G S n12) n25) (ct_waysWithin_b38 G S (ct_waysWithin_b12 G S n12) (ct_waysWithin_b25 G S (ct_waysWithin_b12 G S n12) n25) n38) v3 v4 v5 v6 v7 X = some (r, σ') → W p l e rm_ct_waysWithin s m args below meth c H locs 0 0 Q (F0 m 65 ls []) := by
                intro v3 v4 v5 v6 v7 X H locs ls hl hw hf
                unfold ct_waysWithin_b65 at hf
                refine lv_iinc (v := v7 + 1) (lv' := [(7, .int (v7 + 1)), (0, .ref (ad 10)), (3, .int v3), (4, .int v4), (5, .int v5), (6, .int v6)]) hx hb dX8_waysWithin_65 hl (k := 5) rfl rfl (by decide) rfl (fun ls hl => ?_)
                refine lv_goto (tgt := 38) hx hb dX8_waysWithin_68 (by decide) ?_
                exact ih38 v3 v4 v5 v6 (v7 + 1) X _ _ _ (lv_sub hl [1, 2, 3, 4, 5, 0] rfl) hw hf
              intro v3 v4 v5 v6 v7 X H locs ls hl hw hf
              rw [ct_waysWithin_b38] at hf
              refine lv_iload hx hb dX8_waysWithin_38 (lv_at hl 5 rfl) ?_
              refine lv_aload_n hx hb dX8_waysWithin_40 rfl (lv_at hl 0 rfl) ?_
              refine cf_get_X8_0 F hinX8 hw kf11 dX8_waysWithin_41 ?_
              refine cf_len_11 F hw dX8_waysWithin_44 ?_
              refine lv_icmp_ge (tgt := 71) hx hb dX8_waysWithin_45 (by decide) (fun c1 => ?_) (fun c1 => ?_)
              · have hf := g_t c1 hf
                refine lv_iinc (v := v6 + 1) (lv' := [(6, .int (v6 + 1)), (0, .ref (ad 10)), (3, .int v3), (4, .int v4), (5, .int v5), (7, .int v7)]) hx hb dX8_waysWithin_71 hl (k := 4) rfl rfl (by decide) rfl (fun ls hl => ?_)
                refine lv_goto (tgt := 25) hx hb dX8_waysWithin_74 (by decide) ?_
                exact ih25 v3 v4 v5 (v6 + 1) X _ _ _ (lv_sub hl [1, 2, 3, 4, 0] rfl) hw hf
              · have hf := g_f c1 hf
                refine lv_aload_n hx hb dX8_waysWithin_48 rfl (lv_at hl 0 rfl) ?_
                refine lv_iload hx hb dX8_waysWithin_49 (lv_at hl 3 rfl) ?_
                refine lv_iload hx hb dX8_waysWithin_51 (lv_at hl 4 rfl) ?_
                refine lv_iload hx hb dX8_waysWithin_53 (lv_at hl 5 rfl) ?_
                obtain ⟨r3, h2, hf⟩ := g_b1 hf
                refine g_cI F (As := [.int v5, .int v6, .int v7]) (rest := []) (cct_pricedBy h2) (cwV 3 hts gX8_waysWithin_X8_pricedBy rfl rfl rfl (by decide +kernel) ⟨Nat.le_of_ble_eq_true rfl, Nat.le_of_ble_eq_true rfl⟩) hw (hw.recv (ci := 8) (q0 := 10) rfl rfl rfl) rfl hl.1 rfl (Nat.le_of_ble_eq_true rfl) dX8_waysWithin_55 (fun H locs hw => ?_)
                refine lv_iload_n hx hb dX8_waysWithin_58 rfl (lv_at hl 1 rfl) ?_
                refine lv_icmp_gt (tgt := 65) hx hb dX8_waysWithin_59 (by decide) (fun c4 => ?_) (fun c4 => ?_)
                · have hf := g_t c4 hf
                  exact B65 v3 v4 v5 v6 v7 X _ _ _ (lv_sub hl [0, 1, 2, 3, 4, 5] rfl) hw hf
                · have hf := g_f c4 hf
                  refine lv_iinc (v := v4 + 1) (lv' := [(4, .int (v4 + 1)), (0, .ref (ad 10)), (3, .int v3), (5, .int v5), (6, .int v6), (7, .int v7)]) hx hb dX8_waysWithin_62 hl (k := 2) rfl rfl (by decide) rfl (fun ls hl => ?_)
                  exact B65 v3 (v4 + 1) v5 v6 v7 X _ _ _ (lv_sub hl [1, 2, 0, 3, 4, 5] rfl) hw hf
          intro v3 v4 v5 v6 X H locs ls hl hw hf
          rw [ct_waysWithin_b25] at hf
          refine lv_iload hx hb dX8_waysWithin_25 (lv_at hl 4 rfl) ?_
          refine lv_aload_n hx hb dX8_waysWithin_27 rfl (lv_at hl 0 rfl) ?_
          refine cf_get_X8_0 F hinX8 hw kf11 dX8_waysWithin_28 ?_
          refine cf_len_11 F hw dX8_waysWithin_31 ?_
          refine lv_icmp_ge (tgt := 77) hx hb dX8_waysWithin_32 (by decide) (fun c5 => ?_) (fun c5 => ?_)
          · have hf := g_t c5 hf
            refine lv_iinc (v := v5 + 1) (lv' := [(5, .int (v5 + 1)), (0, .ref (ad 10)), (3, .int v3), (4, .int v4), (6, .int v6)]) hx hb dX8_waysWithin_77 hl (k := 3) rfl rfl (by decide) rfl (fun ls hl => ?_)
            refine lv_goto (tgt := 12) hx hb dX8_waysWithin_80 (by decide) ?_
            exact ih12 v3 v4 (v5 + 1) X _ _ _ (lv_sub hl [1, 2, 3, 0] rfl) hw hf
          · have hf := g_f c5 hf
            refine lv_iconst (v := 0) hx hb dX8_waysWithin_35 (by decide) ?_
            refine lv_istore (lv' := [(7, .int 0), (0, .ref (ad 10)), (3, .int v3), (4, .int v4), (5, .int v5), (6, .int v6)]) hx hb dX8_waysWithin_36 hl (by decide) rfl (fun ls hl => ?_)
            exact B38 1000 v3 v4 v5 v6 0 X _ _ _ (lv_sub hl [1, 2, 3, 4, 5, 0] rfl) hw hf
      intro v3 v4 v5 X H locs ls hl hw hf
      rw [ct_waysWithin_b12] at hf
      refine lv_iload hx hb dX8_waysWithin_12 (lv_at hl 3 rfl) ?_
      refine lv_aload_n hx hb dX8_waysWithin_14 rfl (lv_at hl 0 rfl) ?_
      refine cf_get_X8_0 F hinX8 hw kf11 dX8_waysWithin_15 ?_
      refine cf_len_11 F hw dX8_waysWithin_18 ?_
      refine lv_icmp_ge (tgt := 83) hx hb dX8_waysWithin_19 (by decide) (fun c6 => ?_) (fun c6 => ?_)
      · have hf := g_t c6 hf
        refine lv_iload hx hb dX8_waysWithin_83 (lv_at hl 2 rfl) ?_
        exact hret v4 _ _ _ _ _ (g_i1 hf) (congrArg (fun t => cw ty ad G S t wr) (g_i2 hf)) hw dX8_waysWithin_85
      · have hf := g_f c6 hf
        refine lv_iconst (v := 0) hx hb dX8_waysWithin_22 (by decide) ?_
        refine lv_istore (lv' := [(6, .int 0), (0, .ref (ad 10)), (3, .int v3), (4, .int v4), (5, .int v5)]) hx hb dX8_waysWithin_23 hl (by decide) rfl (fun ls hl => ?_)
        exact B25 1000 v3 v4 v5 0 X _ _ _ (lv_sub hl [1, 2, 3, 4, 0] rfl) hw hf
  unfold ct_waysWithin at hf
  refine lv_aload_n hx hb dX8_waysWithin_0 rfl (lv_at hl 0 rfl) ?_
  refine lv_aload_n hx hb dX8_waysWithin_1 rfl (lv_at hl 1 rfl) ?_
  refine lv_iload_n hx hb dX8_waysWithin_2 rfl (lv_at hl 2 rfl) ?_
  obtain ⟨r8, X9, h7, hf⟩ := g_b2 hf
  refine g_cV F (As := [.ref (ad (200 + x1)), .int x2]) (rest := []) (cct_setPrices h7) (cwV 2 hts gX8_waysWithin_X8_setPrices rfl rfl rfl (by decide +kernel) ⟨Nat.le_of_ble_eq_true rfl, Nat.le_of_ble_eq_true rfl⟩) hw (hw.recv (ci := 8) (q0 := 10) rfl rfl rfl) rfl hl.1 rfl (Nat.le_of_ble_eq_true rfl) dX8_waysWithin_3 (fun H locs hw => ?_)
  refine lv_iconst (v := 0) hx hb dX8_waysWithin_6 (by decide) ?_
  refine lv_istore (lv' := [(4, .int 0), (0, .ref (ad 10)), (1, .ref (ad (200 + x1))), (2, .int x2), (3, .int x3)]) hx hb dX8_waysWithin_7 hl (by decide) rfl (fun ls hl => ?_)
  refine lv_iconst (v := 0) hx hb dX8_waysWithin_9 (by decide) ?_
  refine lv_istore (lv' := [(5, .int 0), (4, .int 0), (0, .ref (ad 10)), (1, .ref (ad (200 + x1))), (2, .int x2), (3, .int x3)]) hx hb dX8_waysWithin_10 hl (by decide) rfl (fun ls hl => ?_)
  exact B12 1000 x3 0 0 X9 _ _ _ (lv_sub hl [2, 5, 1, 0] rfl) hw hf
