abbrev rm_mm_odds : Room := { frames := 4, cells := 0, slots := 0, locals := 99 }
set_option maxHeartbeats 4000000 in
set_option maxRecDepth 100000 in
theorem cmm_odds {l : Launch} {D : va_G} {ty : gT} {A : Nat → Prop} {ad : Nat → Nat} {wr : va_W} {x1 : Int32} {x2 : Int32} {x3 : Int32} {x4 : Int32} {σ : gS} {r : Int64} (hf : mm_odds σ x1 x2 x3 x4 = some r) : gL l D ty A yX11_odds wsX11_odds rm_mm_odds [.ref (ad 0), .int x1, .int x2, .int x3, .int x4] (mw ty ad σ wr) r (mw ty ad σ wr) := by
  refine gL_enter (cc := cX11_odds) (maxL := 9) (by decide) rfl (Nat.le_of_ble_eq_true rfl) ?_
  intro p e s m args below meth c Q ls F hl hw hret
  have F : CallFix p m c cX11_odds 9 s args wsX11_odds RX11 := F
  obtain ⟨hx, hb, hml, hown, hts⟩ := id F
  have hl : lv_has ls 9 [(0, .ref (ad 0)), (1, .int x1), (2, .int x2), (3, .int x3), (4, .int x4)] := hl
  have hin : ∀ w ∈ wsX110, w ∈ wsX11_odds := by first | exact fun w h => List.mem_cons_of_mem _ (List.mem_append_right _ h) | decide +kernel
  have kc77 := hts (.constantLong RX11 77 (-9223372036854775808)) (by decide +kernel)
  have kf34 := hts (.fieldLink RX11 34 "GossipGateModel" "born" "[I") (by decide +kernel)
  have kf83 := hts (.fieldLink RX11 83 "GossipGateModel" "gates" "I") (by decide +kernel)
  have B56 : ∀ (n56 : Nat) (v1 : Int32) (v2 : Int32) (v3 : Int32) (v4 : Int32) (v5 : Int32) (v6 : Int32) (H : Heap) (locs : List Loc) (ls : Array Slot), lv_has ls 9 [(0, .ref (ad 0)), (1, .int v1), (2, .int v2), (3, .int v3), (4, .int v4), (5, .int v5), (6, .int v6)] → gW D ty A (mw ty ad σ wr) s s.heap H locs → mm_odds_b56 σ n56 v1 v2 v3 v4 v5 v6 = some r → W p l e rm_mm_odds s m args below meth c H locs 0 0 Q (F0 m 56 ls []) := by
    intro n56
    induction n56 with
    | zero => intro v1 v2 v3 v4 v5 v6 H locs ls hl hw hf; cases hf
    | succ n56 ih56 =>
      have B68 : ∀ (n68 : Nat) (v1 : Int32) (v2 : Int32) (v3 : Int32) (v4 : Int32) (v5 : Int32) (v6 : Int32) (v7 : Int32) (H : Heap) (locs : List Loc) (ls : Array Slot), lv_has ls 9 [(0, .ref (ad 0)), (1, .int v1), (2, .int v2), (3, .int v3), (4, .int v4), (5, .int v5), (6, .int v6), (7, .int v7)] → gW D ty A (mw ty ad σ wr) s s.heap H locs → mm_odds_b68 σ (mm_odds_b56 σ n56) n68 v1 v2 v3 v4 v5 v6 v7 = some r → W p l e rm_mm_odds s m args below meth c H locs 0 0 Q (F0 m 68 ls []) := by
        intro n68
        induction n68 with
        | zero => intro v1 v2 v3 v4 v5 v6 v7 H locs ls hl hw hf; cases hf
        | succ n68 ih68 =>
          have B80 : ∀ (n80 : Nat) (v1 : Int32) (v2 : Int32) (v3 : Int32) (v4 : Int32) (v5 : Int32) (v6 : Int32) (v7 : Int32) (v8 : Int32) (H : Heap) (locs : List Loc) (ls : Array Slot), lv_has ls 9 [(0, .ref (ad 0)), (1, .int v1), (2, .int v2), (3, .int v3), (4, .int v4), (5, .int v5), (6, .int v6), (7, .int v7), (8, .int v8)] → gW D ty A (mw ty ad σ wr) s s.heap H locs → mm_odds_b80 σ (mm_odds_b56 σ n56) (mm_odds_b68 σ (mm_odds_b56 σ n56) n68) n80 v1 v2 v3 v4 v5 v6 v7 v8 = some r → W p l e rm_mm_odds s m args below meth c H locs 0 0 Q (F0 m 80 ls []) := by
            intro n80
            induction n80 with
            | zero => intro v1 v2 v3 v4 v5 v6 v7 v8 H locs ls hl hw hf; cases hf
            | succ n80 ih80 =>
              have B126 : ∀ (v1 : Int32) (v2 : Int32) (v3 : Int32) (v4 : Int32) (v6 : Int32) (v7 : Int32) (v8 : Int32) (s0 : Int32) (s1 : Int32) (H : Heap) (locs : List Loc) (ls : Array Slot), lv_has ls 9 [(0, .ref (ad 0)), (1, .int v1), (2, .int v2), (3, .int v3), (4, .int v4), (6, .int v6), (7, .int v7), (8, .int v8)] → gW D ty A (mw ty ad σ wr) s s.heap H locs → mm_odds_b126 σ (mm_odds_b56 σ n56) (mm_odds_b68 σ (mm_odds_b56 σ n56) n68) (mm_odds_b80 σ (mm_odds_b56 σ n56) (mm_odds_b68 σ (mm_odds_b56 σ n56) n68) n80) v1 v2 v3 v4 v6 v7 v8 s0 s1 = some r → W p l e rm_mm_odds s m args below meth c H locs 0 0 Q (F0 m 126 ls [.int s1, .int s0]) := by
                intro v1 v2 v3 v4 v6 v7 v8 s0 s1 H locs ls hl hw hf
                unfold mm_odds_b126 at hf
                refine lv_iadd hx hb dX11_odds_126 ?_
                refine lv_istore (lv' := [(5, .int (s0 + s1)), (0, .ref (ad 0)), (1, .int v1), (2, .int v2), (3, .int v3), (4, .int v4), (6, .int v6), (7, .int v7), (8, .int v8)]) hx hb dX11_odds_127 hl (by decide) rfl (fun ls hl => ?_)
                refine lv_iinc (v := v8 + 1) (lv' := [(8, .int (v8 + 1)), (5, .int (s0 + s1)), (0, .ref (ad 0)), (1, .int v1), (2, .int v2), (3, .int v3), (4, .int v4), (6, .int v6), (7, .int v7)]) hx hb dX11_odds_129 hl (k := 8) rfl rfl (by decide) rfl (fun ls hl => ?_)
                refine lv_goto (tgt := 80) hx hb dX11_odds_132 (by decide) ?_
                exact ih80 v1 v2 v3 v4 (s0 + s1) v6 v7 (v8 + 1) _ _ _ (lv_sub hl [2, 3, 4, 5, 6, 1, 7, 8, 0] rfl) hw hf
              intro v1 v2 v3 v4 v5 v6 v7 v8 H locs ls hl hw hf
              rw [mm_odds_b80] at hf
              refine lv_iload hx hb dX11_odds_80 (lv_at hl 8 rfl) ?_
              refine lv_aload_n hx hb dX11_odds_82 rfl (lv_at hl 0 rfl) ?_
              refine mw_get_5 F hin hw kf83 dX11_odds_83 ?_
              refine lv_icmp_ge (tgt := 135) hx hb dX11_odds_86 (by decide) (fun c1 => ?_) (fun c1 => ?_)
              · have hf := g_t c1 hf
                refine lv_iinc (v := v7 + 1) (lv' := [(7, .int (v7 + 1)), (0, .ref (ad 0)), (1, .int v1), (2, .int v2), (3, .int v3), (4, .int v4), (5, .int v5), (6, .int v6), (8, .int v8)]) hx hb dX11_odds_135 hl (k := 7) rfl rfl (by decide) rfl (fun ls hl => ?_)
                refine lv_goto (tgt := 68) hx hb dX11_odds_138 (by decide) ?_
                exact ih68 v1 v2 v3 v4 v5 v6 (v7 + 1) _ _ _ (lv_sub hl [1, 2, 3, 4, 5, 6, 7, 0] rfl) hw hf
              · have hf := g_f c1 hf
                refine lv_iload hx hb dX11_odds_89 (lv_at hl 5 rfl) ?_
                refine lv_aload_n hx hb dX11_odds_91 rfl (lv_at hl 0 rfl) ?_
                refine lv_iload_n hx hb dX11_odds_92 rfl (lv_at hl 1 rfl) ?_
                refine lv_bipush (v := 10) hx hb dX11_odds_93 (by decide) ?_
                refine lv_iload hx hb dX11_odds_95 (lv_at hl 6 rfl) ?_
                refine lv_imul hx hb dX11_odds_97 ?_
                refine lv_iload_n hx hb dX11_odds_98 rfl (lv_at hl 2 rfl) ?_
                refine lv_iadd hx hb dX11_odds_99 ?_
                refine lv_bipush (v := 10) hx hb dX11_odds_100 (by decide) ?_
                refine lv_iload hx hb dX11_odds_102 (lv_at hl 7 rfl) ?_
                refine lv_imul hx hb dX11_odds_104 ?_
                refine lv_iload_n hx hb dX11_odds_105 rfl (lv_at hl 2 rfl) ?_
                refine lv_iadd hx hb dX11_odds_106 ?_
                refine lv_bipush (v := 10) hx hb dX11_odds_107 (by decide) ?_
                refine lv_iload hx hb dX11_odds_109 (lv_at hl 8 rfl) ?_
                refine lv_imul hx hb dX11_odds_111 ?_
                refine lv_iload_n hx hb dX11_odds_112 rfl (lv_at hl 2 rfl) ?_
                refine lv_iadd hx hb dX11_odds_113 ?_
                obtain ⟨r3, h2, hf⟩ := g_b1 hf
                refine g_cI F (As := [.int v1, .int (((10 : Int32) * v6) + v2), .int (((10 : Int32) * v7) + v2), .int (((10 : Int32) * v8) + v2)]) (rest := [.int v5]) (cmm_paid h2) (cwV 4 hts gX11_odds_X11_paid rfl rfl rfl (by decide +kernel) ⟨Nat.le_of_ble_eq_true rfl, Nat.le_of_ble_eq_true rfl⟩) hw (hw.recv (ci := 11) (q0 := 0) rfl rfl rfl) rfl hl.1 rfl (Nat.le_of_ble_eq_true rfl) dX11_odds_114 (fun H locs hw => ?_)
                refine lv_iload_n hx hb dX11_odds_117 rfl (lv_at hl 3 rfl) ?_
                refine lv_icmp_gt (tgt := 125) hx hb dX11_odds_118 (by decide) (fun c4 => ?_) (fun c4 => ?_)
                · have hf := g_t c4 hf
                  refine lv_iconst (v := 0) hx hb dX11_odds_125 (by decide) ?_
                  exact B126 v1 v2 v3 v4 v6 v7 v8 v5 0 _ _ _ (lv_sub hl [0, 1, 2, 3, 4, 6, 7, 8] rfl) hw hf
                · have hf := g_f c4 hf
                  refine lv_iconst (v := 1) hx hb dX11_odds_121 (by decide) ?_
                  refine lv_goto (tgt := 126) hx hb dX11_odds_122 (by decide) ?_
                  exact B126 v1 v2 v3 v4 v6 v7 v8 v5 1 _ _ _ (lv_sub hl [0, 1, 2, 3, 4, 6, 7, 8] rfl) hw hf
          intro v1 v2 v3 v4 v5 v6 v7 H locs ls hl hw hf
          rw [mm_odds_b68] at hf
          refine lv_iload hx hb dX11_odds_68 (lv_at hl 7 rfl) ?_
          refine lv_aload_n hx hb dX11_odds_70 rfl (lv_at hl 0 rfl) ?_
          refine mw_get_5 F hin hw kf83 dX11_odds_71 ?_
          refine lv_icmp_ge (tgt := 141) hx hb dX11_odds_74 (by decide) (fun c5 => ?_) (fun c5 => ?_)
          · have hf := g_t c5 hf
            refine lv_iinc (v := v6 + 1) (lv' := [(6, .int (v6 + 1)), (0, .ref (ad 0)), (1, .int v1), (2, .int v2), (3, .int v3), (4, .int v4), (5, .int v5), (7, .int v7)]) hx hb dX11_odds_141 hl (k := 6) rfl rfl (by decide) rfl (fun ls hl => ?_)
            refine lv_goto (tgt := 56) hx hb dX11_odds_144 (by decide) ?_
            exact ih56 v1 v2 v3 v4 v5 (v6 + 1) _ _ _ (lv_sub hl [1, 2, 3, 4, 5, 6, 0] rfl) hw hf
          · have hf := g_f c5 hf
            refine lv_iconst (v := 0) hx hb dX11_odds_77 (by decide) ?_
            refine lv_istore (lv' := [(8, .int 0), (0, .ref (ad 0)), (1, .int v1), (2, .int v2), (3, .int v3), (4, .int v4), (5, .int v5), (6, .int v6), (7, .int v7)]) hx hb dX11_odds_78 hl (by decide) rfl (fun ls hl => ?_)
            exact B80 1000 v1 v2 v3 v4 v5 v6 v7 0 _ _ _ (lv_sub hl [1, 2, 3, 4, 5, 6, 7, 8, 0] rfl) hw hf
      intro v1 v2 v3 v4 v5 v6 H locs ls hl hw hf
      rw [mm_odds_b56] at hf
      refine lv_iload hx hb dX11_odds_56 (lv_at hl 6 rfl) ?_
      refine lv_aload_n hx hb dX11_odds_58 rfl (lv_at hl 0 rfl) ?_
      refine mw_get_5 F hin hw kf83 dX11_odds_59 ?_
      refine lv_icmp_ge (tgt := 147) hx hb dX11_odds_62 (by decide) (fun c6 => ?_) (fun c6 => ?_)
      · have hf := g_t c6 hf
        refine lv_iload hx hb dX11_odds_147 (lv_at hl 5 rfl) ?_
        refine lv_i2l hx hb dX11_odds_149 rfl ?_
        refine lv_aload_n hx hb dX11_odds_150 rfl (lv_at hl 0 rfl) ?_
        refine mw_get_5 F hin hw kf83 dX11_odds_151 ?_
        refine lv_aload_n hx hb dX11_odds_154 rfl (lv_at hl 0 rfl) ?_
        refine mw_get_5 F hin hw kf83 dX11_odds_155 ?_
        refine lv_imul hx hb dX11_odds_158 ?_
        refine lv_aload_n hx hb dX11_odds_159 rfl (lv_at hl 0 rfl) ?_
        refine mw_get_5 F hin hw kf83 dX11_odds_160 ?_
        refine lv_imul hx hb dX11_odds_163 ?_
        refine lv_i2l hx hb dX11_odds_164 rfl ?_
        refine lv_iload hx hb dX11_odds_165 (lv_at hl 4 rfl) ?_
        obtain ⟨r8, h7, hf⟩ := g_b1 hf
        refine g_sL F (As := [.long v5.toInt64, .long ((((σ.1 5) * (σ.1 5)) * (σ.1 5)).toInt64), .int v4]) (rest := []) (cmm_inLeastTerms h7) (va_cwS 3 hts gX11_odds_X11_inLeastTerms rfl rfl rfl (by decide +kernel) ⟨Nat.le_of_ble_eq_true rfl, Nat.le_of_ble_eq_true rfl⟩) hw rfl hl.1 rfl (Nat.le_of_ble_eq_true rfl) dX11_odds_167 (fun H locs hw => ?_)
        exact hret r8 _ _ _ _ _ (Option.some.inj hf) rfl hw dX11_odds_170
      · have hf := g_f c6 hf
        refine lv_iconst (v := 0) hx hb dX11_odds_65 (by decide) ?_
        refine lv_istore (lv' := [(7, .int 0), (0, .ref (ad 0)), (1, .int v1), (2, .int v2), (3, .int v3), (4, .int v4), (5, .int v5), (6, .int v6)]) hx hb dX11_odds_66 hl (by decide) rfl (fun ls hl => ?_)
        exact B68 1000 v1 v2 v3 v4 v5 v6 0 _ _ _ (lv_sub hl [1, 2, 3, 4, 5, 6, 7, 0] rfl) hw hf
  unfold mm_odds at hf
  refine lv_aload_n hx hb dX11_odds_0 rfl (lv_at hl 0 rfl) ?_
  refine lv_iload_n hx hb dX11_odds_1 rfl (lv_at hl 1 rfl) ?_
  obtain ⟨r10, h9, hf⟩ := g_b1 hf
  refine g_cI F (As := [.int x1]) (rest := []) (cmm_isStory h9) (cwV 1 hts gX11_odds_X11_isStory rfl rfl rfl (by decide +kernel) ⟨Nat.le_of_ble_eq_true rfl, Nat.le_of_ble_eq_true rfl⟩) hw (hw.recv (ci := 11) (q0 := 0) rfl rfl rfl) rfl hl.1 rfl (Nat.le_of_ble_eq_true rfl) dX11_odds_2 (fun H locs hw => ?_)
  refine lv_if_eq (tgt := 46) hx hb dX11_odds_5 (by decide) (fun c11 => ?_) (fun c11 => ?_)
  · have hf := g_f (bI_z c11) hf
    refine lv_ldc2 (v := (-9223372036854775808)) hx hb hown kc77 dX11_odds_46 ?_
    exact hret (-9223372036854775808) _ _ _ _ _ (Option.some.inj hf) rfl hw dX11_odds_49
  · have hf := g_t (bI_nz c11) hf
    refine lv_iload_n hx hb dX11_odds_8 rfl (lv_at hl 2 rfl) ?_
    obtain ⟨r13, h12, hf⟩ := g_b1 hf
    refine g_sI F (As := [.int x2]) (rest := []) (cmm_isDay h12) (va_cwS 1 hts gX11_odds_X11_isDay rfl rfl rfl (by decide +kernel) ⟨Nat.le_of_ble_eq_true rfl, Nat.le_of_ble_eq_true rfl⟩) hw rfl hl.1 rfl (Nat.le_of_ble_eq_true rfl) dX11_odds_9 (fun H locs hw => ?_)
    refine lv_if_eq (tgt := 46) hx hb dX11_odds_12 (by decide) (fun c14 => ?_) (fun c14 => ?_)
    · have hf := g_f (bI_z c14) hf
      refine lv_ldc2 (v := (-9223372036854775808)) hx hb hown kc77 dX11_odds_46 ?_
      exact hret (-9223372036854775808) _ _ _ _ _ (Option.some.inj hf) rfl hw dX11_odds_49
    · have hf := g_t (bI_nz c14) hf
      refine lv_iload_n hx hb dX11_odds_15 rfl (lv_at hl 3 rfl) ?_
      refine lv_iconst (v := 0) hx hb dX11_odds_16 (by decide) ?_
      refine lv_sipush (v := 9999) hx hb dX11_odds_17 (by decide) ?_
      obtain ⟨r16, h15, hf⟩ := g_b1 hf
      refine g_sI F (As := [.int x3, .int 0, .int 9999]) (rest := []) (cmm_within h15) (va_cwS 3 hts gX11_odds_X11_within rfl rfl rfl (by decide +kernel) ⟨Nat.le_of_ble_eq_true rfl, Nat.le_of_ble_eq_true rfl⟩) hw rfl hl.1 rfl (Nat.le_of_ble_eq_true rfl) dX11_odds_20 (fun H locs hw => ?_)
      refine lv_if_eq (tgt := 46) hx hb dX11_odds_23 (by decide) (fun c17 => ?_) (fun c17 => ?_)
      · have hf := g_f (bI_z c17) hf
        refine lv_ldc2 (v := (-9223372036854775808)) hx hb hown kc77 dX11_odds_46 ?_
        exact hret (-9223372036854775808) _ _ _ _ _ (Option.some.inj hf) rfl hw dX11_odds_49
      · have hf := g_t (bI_nz c17) hf
        refine lv_iload hx hb dX11_odds_26 (lv_at hl 4 rfl) ?_
        refine lv_iconst (v := 0) hx hb dX11_odds_28 (by decide) ?_
        refine lv_iconst (v := 1) hx hb dX11_odds_29 (by decide) ?_
        obtain ⟨r19, h18, hf⟩ := g_b1 hf
        refine g_sI F (As := [.int x4, .int 0, .int 1]) (rest := []) (cmm_within h18) (va_cwS 3 hts gX11_odds_X11_within rfl rfl rfl (by decide +kernel) ⟨Nat.le_of_ble_eq_true rfl, Nat.le_of_ble_eq_true rfl⟩) hw rfl hl.1 rfl (Nat.le_of_ble_eq_true rfl) dX11_odds_30 (fun H locs hw => ?_)
        refine lv_if_eq (tgt := 46) hx hb dX11_odds_33 (by decide) (fun c20 => ?_) (fun c20 => ?_)
        · have hf := g_f (bI_z c20) hf
          refine lv_ldc2 (v := (-9223372036854775808)) hx hb hown kc77 dX11_odds_46 ?_
          exact hret (-9223372036854775808) _ _ _ _ _ (Option.some.inj hf) rfl hw dX11_odds_49
        · have hf := g_t (bI_nz c20) hf
          refine lv_iload_n hx hb dX11_odds_36 rfl (lv_at hl 2 rfl) ?_
          refine lv_aload_n hx hb dX11_odds_37 rfl (lv_at hl 0 rfl) ?_
          refine mw_get_13 F hin hw kf34 dX11_odds_38 ?_
          refine lv_iload_n hx hb dX11_odds_41 rfl (lv_at hl 1 rfl) ?_
          obtain ⟨g21, hf⟩ := g_g hf
          refine mw_ld_13 F hw g21 dX11_odds_42 ?_
          refine lv_icmp_ge (tgt := 50) hx hb dX11_odds_43 (by decide) (fun c22 => ?_) (fun c22 => ?_)
          · have hf := g_t c22 hf
            refine lv_iconst (v := 0) hx hb dX11_odds_50 (by decide) ?_
            refine lv_istore (lv' := [(5, .int 0), (0, .ref (ad 0)), (1, .int x1), (2, .int x2), (3, .int x3), (4, .int x4)]) hx hb dX11_odds_51 hl (by decide) rfl (fun ls hl => ?_)
            refine lv_iconst (v := 0) hx hb dX11_odds_53 (by decide) ?_
            refine lv_istore (lv' := [(6, .int 0), (5, .int 0), (0, .ref (ad 0)), (1, .int x1), (2, .int x2), (3, .int x3), (4, .int x4)]) hx hb dX11_odds_54 hl (by decide) rfl (fun ls hl => ?_)
            exact B56 1000 x1 x2 x3 x4 0 0 _ _ _ (lv_sub hl [2, 3, 4, 5, 6, 1, 0] rfl) hw hf
          · have hf := g_f c22 hf
            refine lv_ldc2 (v := (-9223372036854775808)) hx hb hown kc77 dX11_odds_46 ?_
            exact hret (-9223372036854775808) _ _ _ _ _ (Option.some.inj hf) rfl hw dX11_odds_49

abbrev rm_mm_sheet : Room := { frames := 2, cells := 0, slots := 0, locals := 42 }
set_option maxHeartbeats 4000000 in
set_option maxRecDepth 100000 in
theorem cmm_sheet {l : Launch} {D : va_G} {ty : gT} {A : Nat → Prop} {ad : Nat → Nat} {wr : va_W} {x1 : Int32} {x2 : Int32} {x3 : Int32} {σ : gS} {r : Int32} {σ' : gS} (hf : mm_sheet σ x1 x2 x3 = some (r, σ')) : gI l D ty A yX11_sheet wsX11_sheet rm_mm_sheet [.ref (ad 0), .int x1, .int x2, .int x3] (mw ty ad σ wr) r (mw ty ad σ' wr) := by
  refine gI_enter (cc := cX11_sheet) (maxL := 5) (by decide) rfl (Nat.le_of_ble_eq_true rfl) ?_
  intro p e s m args below meth c Q ls F hl hw hret
  have F : CallFix p m c cX11_sheet 5 s args wsX11_sheet RX11 := F
  obtain ⟨hx, hb, hml, hown, hts⟩ := id F
  have hl : lv_has ls 5 [(0, .ref (ad 0)), (1, .int x1), (2, .int x2), (3, .int x3)] := hl
  have hin : ∀ w ∈ wsX110, w ∈ wsX11_sheet := by first | exact fun w h => List.mem_cons_of_mem _ (List.mem_append_right _ h) | decide +kernel
  have kf13 := hts (.fieldLink RX11 13 "GossipGateModel" "sheetLong" "[I") (by decide +kernel)
  have kf16 := hts (.fieldLink RX11 16 "GossipGateModel" "cells" "[I") (by decide +kernel)
  have kf74 := hts (.fieldLink RX11 74 "GossipGateModel" "fault" "I") (by decide +kernel)
  have kf9 := hts (.fieldLink RX11 9 "GossipGateModel" "sorts" "[I") (by decide +kernel)
  have B57 : ∀ (n57 : Nat) (v1 : Int32) (v4 : Int32) (σ : gS) (H : Heap) (locs : List Loc) (ls : Array Slot), lv_has ls 5 [(0, .ref (ad 0)), (1, .int v1), (4, .int v4)] → gW D ty A (mw ty ad σ wr) s s.heap H locs → mm_sheet_b57 n57 v1 v4 σ = some (r, σ') → W p l e rm_mm_sheet s m args below meth c H locs 0 0 Q (F0 m 57 ls []) := by
    intro n57
    induction n57 with
    | zero => intro v1 v4 σ H locs ls hl hw hf; cases hf
    | succ n57 ih57 =>
      intro v1 v4 σ H locs ls hl hw hf
      rw [mm_sheet_b57] at hf
      refine lv_iload hx hb dX11_sheet_57 (lv_at hl 2 rfl) ?_
      refine lv_bipush (v := 60) hx hb dX11_sheet_59 (by decide) ?_
      refine lv_icmp_ge (tgt := 83) hx hb dX11_sheet_61 (by decide) (fun c1 => ?_) (fun c1 => ?_)
      · have hf := g_t c1 hf
        refine lv_iconst (v := 1) hx hb dX11_sheet_83 (by decide) ?_
        exact hret 1 _ _ _ _ _ (g_i1 hf) (congrArg (fun t => mw ty ad t wr) (g_i2 hf)) hw dX11_sheet_84
      · have hf := g_f c1 hf
        refine lv_aload_n hx hb dX11_sheet_64 rfl (lv_at hl 0 rfl) ?_
        refine mw_get_4 F hin hw kf16 dX11_sheet_65 ?_
        refine lv_bipush (v := 60) hx hb dX11_sheet_68 (by decide) ?_
        refine lv_iload_n hx hb dX11_sheet_70 rfl (lv_at hl 1 rfl) ?_
        refine lv_imul hx hb dX11_sheet_71 ?_
        refine lv_iload hx hb dX11_sheet_72 (lv_at hl 2 rfl) ?_
        refine lv_iadd hx hb dX11_sheet_74 ?_
        refine lv_iconst (v := 0) hx hb dX11_sheet_75 (by decide) ?_
        obtain ⟨g2, hf⟩ := g_g hf
        refine mw_st_4 F hw g2 dX11_sheet_76 (fun H locs hw => ?_)
        obtain ⟨σ3, eσ3, hf⟩ := g_let hf
        have hw := mw_re eσ3 hw
        refine lv_iinc (v := v4 + 1) (lv' := [(4, .int (v4 + 1)), (0, .ref (ad 0)), (1, .int v1)]) hx hb dX11_sheet_77 hl (k := 2) rfl rfl (by decide) rfl (fun ls hl => ?_)
        refine lv_goto (tgt := 57) hx hb dX11_sheet_80 (by decide) ?_
        exact ih57 v1 (v4 + 1) σ3 _ _ _ (lv_sub hl [1, 2, 0] rfl) hw hf
  unfold mm_sheet at hf
  refine lv_aload_n hx hb dX11_sheet_0 rfl (lv_at hl 0 rfl) ?_
  refine lv_iconst (v := 0) hx hb dX11_sheet_1 (by decide) ?_
  refine mw_put_0 F hin hw kf74 dX11_sheet_2 (fun H locs hw => ?_)
  obtain ⟨σ4, eσ4, hf⟩ := g_let hf
  have hw := mw_re eσ4 hw
  refine lv_iload_n hx hb dX11_sheet_5 rfl (lv_at hl 1 rfl) ?_
  obtain ⟨r6, h5, hf⟩ := g_b1 hf
  refine g_sI F (As := [.int x1]) (rest := []) (cmm_isSheet h5) (va_cwS 1 hts gX11_sheet_X11_isSheet rfl rfl rfl (by decide +kernel) ⟨Nat.le_of_ble_eq_true rfl, Nat.le_of_ble_eq_true rfl⟩) hw rfl hl.1 rfl (Nat.le_of_ble_eq_true rfl) dX11_sheet_6 (fun H locs hw => ?_)
  refine lv_if_ne (tgt := 14) hx hb dX11_sheet_9 (by decide) (fun c7 => ?_) (fun c7 => ?_)
  · have hf := g_t (bI_nz c7) hf
    refine lv_iload_n hx hb dX11_sheet_14 rfl (lv_at hl 2 rfl) ?_
    obtain ⟨r9, h8, hf⟩ := g_b1 hf
    refine g_sI F (As := [.int x2]) (rest := []) (cmm_isSort h8) (va_cwS 1 hts gX11_sheet_X11_isSort rfl rfl rfl (by decide +kernel) ⟨Nat.le_of_ble_eq_true rfl, Nat.le_of_ble_eq_true rfl⟩) hw rfl hl.1 rfl (Nat.le_of_ble_eq_true rfl) dX11_sheet_15 (fun H locs hw => ?_)
    refine lv_if_eq (tgt := 27) hx hb dX11_sheet_18 (by decide) (fun c10 => ?_) (fun c10 => ?_)
    · have hf := g_f (bI_z c10) hf
      refine lv_bipush (v := (-2)) hx hb dX11_sheet_27 (by decide) ?_
      exact hret (-2) _ _ _ _ _ (g_i1 hf) (congrArg (fun t => mw ty ad t wr) (g_i2 hf)) hw dX11_sheet_29
    · have hf := g_t (bI_nz c10) hf
      refine lv_iload_n hx hb dX11_sheet_21 rfl (lv_at hl 3 rfl) ?_
      refine lv_bipush (v := 60) hx hb dX11_sheet_22 (by decide) ?_
      refine lv_icmp_le (tgt := 30) hx hb dX11_sheet_24 (by decide) (fun c11 => ?_) (fun c11 => ?_)
      · have hf := g_t c11 hf
        refine lv_iload_n hx hb dX11_sheet_30 rfl (lv_at hl 3 rfl) ?_
        refine lv_if_ge (tgt := 40) hx hb dX11_sheet_31 (by decide) (fun c12 => ?_) (fun c12 => ?_)
        · have hf := g_t c12 hf
          refine lv_aload_n hx hb dX11_sheet_40 rfl (lv_at hl 0 rfl) ?_
          refine mw_get_2 F hin hw kf9 dX11_sheet_41 ?_
          refine lv_iload_n hx hb dX11_sheet_44 rfl (lv_at hl 1 rfl) ?_
          refine lv_iload_n hx hb dX11_sheet_45 rfl (lv_at hl 2 rfl) ?_
          obtain ⟨g13, hf⟩ := g_g hf
          refine mw_st_2 F hw g13 dX11_sheet_46 (fun H locs hw => ?_)
          obtain ⟨σ14, eσ14, hf⟩ := g_let hf
          have hw := mw_re eσ14 hw
          refine lv_aload_n hx hb dX11_sheet_47 rfl (lv_at hl 0 rfl) ?_
          refine mw_get_3 F hin hw kf13 dX11_sheet_48 ?_
          refine lv_iload_n hx hb dX11_sheet_51 rfl (lv_at hl 1 rfl) ?_
          refine lv_iload_n hx hb dX11_sheet_52 rfl (lv_at hl 3 rfl) ?_
          refine mw_st_3 F hw g13 dX11_sheet_53 (fun H locs hw => ?_)
          obtain ⟨σ15, eσ15, hf⟩ := g_let hf
          have hw := mw_re eσ15 hw
          refine lv_iconst (v := 0) hx hb dX11_sheet_54 (by decide) ?_
          refine lv_istore (lv' := [(4, .int 0), (0, .ref (ad 0)), (1, .int x1), (2, .int x2), (3, .int x3)]) hx hb dX11_sheet_55 hl (by decide) rfl (fun ls hl => ?_)
          exact B57 1000 x1 0 σ15 _ _ _ (lv_sub hl [1, 2, 0] rfl) hw hf
        · have hf := g_f c12 hf
          refine lv_aload_n hx hb dX11_sheet_34 rfl (lv_at hl 0 rfl) ?_
          refine lv_iconst (v := 4) hx hb dX11_sheet_35 (by decide) ?_
          obtain ⟨r17, σ18, h16, hf⟩ := g_b2 hf
          refine g_cI F (As := [.int 4]) (rest := []) (cmm_fails h16) (cwV 1 hts gX11_sheet_X11_fails rfl rfl rfl (by decide +kernel) ⟨Nat.le_of_ble_eq_true rfl, Nat.le_of_ble_eq_true rfl⟩) hw (hw.recv (ci := 11) (q0 := 0) rfl rfl rfl) rfl hl.1 rfl (Nat.le_of_ble_eq_true rfl) dX11_sheet_36 (fun H locs hw => ?_)
          exact hret r17 _ _ _ _ _ (g_i1 hf) (congrArg (fun t => mw ty ad t wr) (g_i2 hf)) hw dX11_sheet_39
      · have hf := g_f c11 hf
        refine lv_bipush (v := (-2)) hx hb dX11_sheet_27 (by decide) ?_
        exact hret (-2) _ _ _ _ _ (g_i1 hf) (congrArg (fun t => mw ty ad t wr) (g_i2 hf)) hw dX11_sheet_29
  · have hf := g_f (bI_z c7) hf
    refine lv_iconst (v := (-1)) hx hb dX11_sheet_12 (by decide) ?_
    exact hret (-1) _ _ _ _ _ (g_i1 hf) (congrArg (fun t => mw ty ad t wr) (g_i2 hf)) hw dX11_sheet_13

abbrev rm_mm_lose : Room := { frames := 2, cells := 0, slots := 0, locals := 42 }
set_option maxHeartbeats 4000000 in
set_option maxRecDepth 100000 in
theorem cmm_lose {l : Launch} {D : va_G} {ty : gT} {A : Nat → Prop} {ad : Nat → Nat} {wr : va_W} {x1 : Int32} {σ : gS} {r : Int32} {σ' : gS} (hf : mm_lose σ x1 = some (r, σ')) : gI l D ty A yX11_lose wsX11_lose rm_mm_lose [.ref (ad 0), .int x1] (mw ty ad σ wr) r (mw ty ad σ' wr) := by
  refine gI_enter (cc := cX11_lose) (maxL := 3) (by decide) rfl (Nat.le_of_ble_eq_true rfl) ?_
  intro p e s m args below meth c Q ls F hl hw hret
  have F : CallFix p m c cX11_lose 3 s args wsX11_lose RX11 := F
  obtain ⟨hx, hb, hml, hown, hts⟩ := id F
  have hl : lv_has ls 3 [(0, .ref (ad 0)), (1, .int x1)] := hl
  have hin : ∀ w ∈ wsX110, w ∈ wsX11_lose := by first | exact fun w h => List.mem_cons_of_mem _ (List.mem_append_right _ h) | decide +kernel
  have kf9 := hts (.fieldLink RX11 9 "GossipGateModel" "sorts" "[I") (by decide +kernel)
  have B25 : ∀ (v1 : Int32) (s0 : Int32) (σ : gS) (H : Heap) (locs : List Loc) (ls : Array Slot), lv_has ls 3 [(0, .ref (ad 0)), (1, .int v1)] → gW D ty A (mw ty ad σ wr) s s.heap H locs → mm_lose_b25 v1 s0 σ = some (r, σ') → W p l e rm_mm_lose s m args below meth c H locs 0 0 Q (F0 m 25 ls [.int s0]) := by
    intro v1 s0 σ H locs ls hl hw hf
    unfold mm_lose_b25 at hf
    refine lv_istore_n (lv' := [(2, .int s0), (0, .ref (ad 0)), (1, .int v1)]) hx hb dX11_lose_25 rfl hl (by decide) rfl (fun ls hl => ?_)
    refine lv_aload_n hx hb dX11_lose_26 rfl (lv_at hl 1 rfl) ?_
    refine mw_get_2 F hin hw kf9 dX11_lose_27 ?_
    refine lv_iload_n hx hb dX11_lose_30 rfl (lv_at hl 2 rfl) ?_
    refine lv_bipush (v := (-9)) hx hb dX11_lose_31 (by decide) ?_
    obtain ⟨g1, hf⟩ := g_g hf
    refine mw_st_2 F hw g1 dX11_lose_33 (fun H locs hw => ?_)
    obtain ⟨σ2, eσ2, hf⟩ := g_let hf
    have hw := mw_re eσ2 hw
    refine lv_iload_n hx hb dX11_lose_34 rfl (lv_at hl 0 rfl) ?_
    exact hret s0 _ _ _ _ _ (g_i1 hf) (congrArg (fun t => mw ty ad t wr) (g_i2 hf)) hw dX11_lose_35
  unfold mm_lose at hf
  refine lv_iload_n hx hb dX11_lose_0 rfl (lv_at hl 1 rfl) ?_
  obtain ⟨r4, h3, hf⟩ := g_b1 hf
  refine g_sI F (As := [.int x1]) (rest := []) (cmm_isSheet h3) (va_cwS 1 hts gX11_lose_X11_isSheet rfl rfl rfl (by decide +kernel) ⟨Nat.le_of_ble_eq_true rfl, Nat.le_of_ble_eq_true rfl⟩) hw rfl hl.1 rfl (Nat.le_of_ble_eq_true rfl) dX11_lose_1 (fun H locs hw => ?_)
  refine lv_if_ne (tgt := 9) hx hb dX11_lose_4 (by decide) (fun c5 => ?_) (fun c5 => ?_)
  · have hf := g_t (bI_nz c5) hf
    refine lv_aload_n hx hb dX11_lose_9 rfl (lv_at hl 0 rfl) ?_
    refine mw_get_2 F hin hw kf9 dX11_lose_10 ?_
    refine lv_iload_n hx hb dX11_lose_13 rfl (lv_at hl 1 rfl) ?_
    obtain ⟨g6, hf⟩ := g_g hf
    refine mw_ld_2 F hw g6 dX11_lose_14 ?_
    refine lv_bipush (v := (-9)) hx hb dX11_lose_15 (by decide) ?_
    refine lv_icmp_ne (tgt := 24) hx hb dX11_lose_17 (by decide) (fun c7 => ?_) (fun c7 => ?_)
    · have hf := g_f c7 hf
      refine lv_iconst (v := 1) hx hb dX11_lose_24 (by decide) ?_
      exact B25 x1 1 σ _ _ _ (lv_sub hl [0, 1] rfl) hw hf
    · have hf := g_t c7 hf
      refine lv_iconst (v := 0) hx hb dX11_lose_20 (by decide) ?_
      refine lv_goto (tgt := 25) hx hb dX11_lose_21 (by decide) ?_
      exact B25 x1 0 σ _ _ _ (lv_sub hl [0, 1] rfl) hw hf
  · have hf := g_f (bI_z c5) hf
    refine lv_iconst (v := (-1)) hx hb dX11_lose_7 (by decide) ?_
    exact hret (-1) _ _ _ _ _ (g_i1 hf) (congrArg (fun t => mw ty ad t wr) (g_i2 hf)) hw dX11_lose_8

abbrev rm_mm_put : Room := { frames := 2, cells := 0, slots := 0, locals := 42 }
set_option maxHeartbeats 4000000 in
set_option maxRecDepth 100000 in
theorem cmm_put {l : Launch} {D : va_G} {ty : gT} {A : Nat → Prop} {ad : Nat → Nat} {wr : va_W} {x1 : Int32} {x2 : Int32} {x3 : Int32} {σ : gS} {r : Int32} {σ' : gS} (hf : mm_put σ x1 x2 x3 = some (r, σ')) : gI l D ty A yX11_put wsX11_put rm_mm_put [.ref (ad 0), .int x1, .int x2, .int x3] (mw ty ad σ wr) r (mw ty ad σ' wr) := by
  refine gI_enter (cc := cX11_put) (maxL := 4) (by decide) rfl (Nat.le_of_ble_eq_true rfl) ?_
  intro p e s m args below meth c Q ls F hl hw hret
  have F : CallFix p m c cX11_put 4 s args wsX11_put RX11 := F
  obtain ⟨hx, hb, hml, hown, hts⟩ := id F
  have hl : lv_has ls 4 [(0, .ref (ad 0)), (1, .int x1), (2, .int x2), (3, .int x3)] := hl
  have hin : ∀ w ∈ wsX110, w ∈ wsX11_put := by first | exact fun w h => List.mem_cons_of_mem _ (List.mem_append_right _ h) | decide +kernel
  have kf13 := hts (.fieldLink RX11 13 "GossipGateModel" "sheetLong" "[I") (by decide +kernel)
  have kf16 := hts (.fieldLink RX11 16 "GossipGateModel" "cells" "[I") (by decide +kernel)
  have kf74 := hts (.fieldLink RX11 74 "GossipGateModel" "fault" "I") (by decide +kernel)
  have kf9 := hts (.fieldLink RX11 9 "GossipGateModel" "sorts" "[I") (by decide +kernel)
  unfold mm_put at hf
  refine lv_aload_n hx hb dX11_put_0 rfl (lv_at hl 0 rfl) ?_
  refine lv_iconst (v := 0) hx hb dX11_put_1 (by decide) ?_
  refine mw_put_0 F hin hw kf74 dX11_put_2 (fun H locs hw => ?_)
  obtain ⟨σ1, eσ1, hf⟩ := g_let hf
  have hw := mw_re eσ1 hw
  refine lv_iload_n hx hb dX11_put_5 rfl (lv_at hl 1 rfl) ?_
  obtain ⟨r3, h2, hf⟩ := g_b1 hf
  refine g_sI F (As := [.int x1]) (rest := []) (cmm_isSheet h2) (va_cwS 1 hts gX11_put_X11_isSheet rfl rfl rfl (by decide +kernel) ⟨Nat.le_of_ble_eq_true rfl, Nat.le_of_ble_eq_true rfl⟩) hw rfl hl.1 rfl (Nat.le_of_ble_eq_true rfl) dX11_put_6 (fun H locs hw => ?_)
  refine lv_if_ne (tgt := 14) hx hb dX11_put_9 (by decide) (fun c4 => ?_) (fun c4 => ?_)
  · have hf := g_t (bI_nz c4) hf
    refine lv_aload_n hx hb dX11_put_14 rfl (lv_at hl 0 rfl) ?_
    refine mw_get_2 F hin hw kf9 dX11_put_15 ?_
    refine lv_iload_n hx hb dX11_put_18 rfl (lv_at hl 1 rfl) ?_
    obtain ⟨g5, hf⟩ := g_g hf
    refine mw_ld_2 F hw g5 dX11_put_19 ?_
    refine lv_bipush (v := (-9)) hx hb dX11_put_20 (by decide) ?_
    refine lv_icmp_ne (tgt := 31) hx hb dX11_put_22 (by decide) (fun c6 => ?_) (fun c6 => ?_)
    · have hf := g_f c6 hf
      refine lv_iload_n hx hb dX11_put_31 rfl (lv_at hl 2 rfl) ?_
      refine lv_iconst (v := 0) hx hb dX11_put_32 (by decide) ?_
      refine lv_aload_n hx hb dX11_put_33 rfl (lv_at hl 0 rfl) ?_
      refine mw_get_3 F hin hw kf13 dX11_put_34 ?_
      refine lv_iload_n hx hb dX11_put_37 rfl (lv_at hl 1 rfl) ?_
      refine mw_ld_3 F hw g5 dX11_put_38 ?_
      refine lv_iconst (v := 1) hx hb dX11_put_39 (by decide) ?_
      refine lv_isub hx hb dX11_put_40 ?_
      obtain ⟨r8, h7, hf⟩ := g_b1 hf
      refine g_sI F (As := [.int x2, .int 0, .int ((σ1.2 3 x1.toNatClampNeg) - 1)]) (rest := []) (cmm_within h7) (va_cwS 3 hts gX11_put_X11_within rfl rfl rfl (by decide +kernel) ⟨Nat.le_of_ble_eq_true rfl, Nat.le_of_ble_eq_true rfl⟩) hw rfl hl.1 rfl (Nat.le_of_ble_eq_true rfl) dX11_put_41 (fun H locs hw => ?_)
      refine lv_if_ne (tgt := 53) hx hb dX11_put_44 (by decide) (fun c9 => ?_) (fun c9 => ?_)
      · have hf := g_t (bI_nz c9) hf
        refine lv_aload_n hx hb dX11_put_53 rfl (lv_at hl 0 rfl) ?_
        refine mw_get_4 F hin hw kf16 dX11_put_54 ?_
        refine lv_bipush (v := 60) hx hb dX11_put_57 (by decide) ?_
        refine lv_iload_n hx hb dX11_put_59 rfl (lv_at hl 1 rfl) ?_
        refine lv_imul hx hb dX11_put_60 ?_
        refine lv_iload_n hx hb dX11_put_61 rfl (lv_at hl 2 rfl) ?_
        refine lv_iadd hx hb dX11_put_62 ?_
        refine lv_aload_n hx hb dX11_put_63 rfl (lv_at hl 0 rfl) ?_
        refine mw_get_2 F hin hw kf9 dX11_put_64 ?_
        refine lv_iload_n hx hb dX11_put_67 rfl (lv_at hl 1 rfl) ?_
        refine mw_ld_2 F hw g5 dX11_put_68 ?_
        refine lv_if_ne (tgt := 77) hx hb dX11_put_69 (by decide) (fun c10 => ?_) (fun c10 => ?_)
        · have hf := g_f c10 hf
          refine lv_aload_n hx hb dX11_put_77 rfl (lv_at hl 0 rfl) ?_
          refine mw_get_2 F hin hw kf9 dX11_put_78 ?_
          refine lv_iload_n hx hb dX11_put_81 rfl (lv_at hl 1 rfl) ?_
          refine mw_ld_2 F hw g5 dX11_put_82 ?_
          refine lv_iconst (v := 1) hx hb dX11_put_83 (by decide) ?_
          refine lv_icmp_ne (tgt := 92) hx hb dX11_put_84 (by decide) (fun c11 => ?_) (fun c11 => ?_)
          · have hf := g_f c11 hf
            refine lv_iload_n hx hb dX11_put_92 rfl (lv_at hl 3 rfl) ?_
            obtain ⟨g12, hf⟩ := g_g hf
            refine mw_st_4 F hw g12 dX11_put_93 (fun H locs hw => ?_)
            obtain ⟨σ13, eσ13, hf⟩ := g_let hf
            have hw := mw_re eσ13 hw
            refine lv_iconst (v := 1) hx hb dX11_put_94 (by decide) ?_
            exact hret 1 _ _ _ _ _ (g_i1 hf) (congrArg (fun t => mw ty ad t wr) (g_i2 hf)) hw dX11_put_95
          · have hf := g_t c11 hf
            refine lv_iload_n hx hb dX11_put_87 rfl (lv_at hl 3 rfl) ?_
            refine lv_i2s hx hb dX11_put_88 rfl ?_
            refine lv_goto (tgt := 93) hx hb dX11_put_89 (by decide) ?_
            obtain ⟨g14, hf⟩ := g_g hf
            refine mw_st_4 F hw g14 dX11_put_93 (fun H locs hw => ?_)
            obtain ⟨σ15, eσ15, hf⟩ := g_let hf
            have hw := mw_re eσ15 hw
            refine lv_iconst (v := 1) hx hb dX11_put_94 (by decide) ?_
            exact hret 1 _ _ _ _ _ (g_i1 hf) (congrArg (fun t => mw ty ad t wr) (g_i2 hf)) hw dX11_put_95
        · have hf := g_t c10 hf
          refine lv_iload_n hx hb dX11_put_72 rfl (lv_at hl 3 rfl) ?_
          refine lv_i2b hx hb dX11_put_73 rfl ?_
          refine lv_goto (tgt := 93) hx hb dX11_put_74 (by decide) ?_
          obtain ⟨g16, hf⟩ := g_g hf
          refine mw_st_4 F hw g16 dX11_put_93 (fun H locs hw => ?_)
          obtain ⟨σ17, eσ17, hf⟩ := g_let hf
          have hw := mw_re eσ17 hw
          refine lv_iconst (v := 1) hx hb dX11_put_94 (by decide) ?_
          exact hret 1 _ _ _ _ _ (g_i1 hf) (congrArg (fun t => mw ty ad t wr) (g_i2 hf)) hw dX11_put_95
      · have hf := g_f (bI_z c9) hf
        refine lv_aload_n hx hb dX11_put_47 rfl (lv_at hl 0 rfl) ?_
        refine lv_iconst (v := 3) hx hb dX11_put_48 (by decide) ?_
        obtain ⟨r19, σ20, h18, hf⟩ := g_b2 hf
        refine g_cI F (As := [.int 3]) (rest := []) (cmm_fails h18) (cwV 1 hts gX11_put_X11_fails rfl rfl rfl (by decide +kernel) ⟨Nat.le_of_ble_eq_true rfl, Nat.le_of_ble_eq_true rfl⟩) hw (hw.recv (ci := 11) (q0 := 0) rfl rfl rfl) rfl hl.1 rfl (Nat.le_of_ble_eq_true rfl) dX11_put_49 (fun H locs hw => ?_)
        exact hret r19 _ _ _ _ _ (g_i1 hf) (congrArg (fun t => mw ty ad t wr) (g_i2 hf)) hw dX11_put_52
    · have hf := g_t c6 hf
      refine lv_aload_n hx hb dX11_put_25 rfl (lv_at hl 0 rfl) ?_
      refine lv_iconst (v := 1) hx hb dX11_put_26 (by decide) ?_
      obtain ⟨r22, σ23, h21, hf⟩ := g_b2 hf
      refine g_cI F (As := [.int 1]) (rest := []) (cmm_fails h21) (cwV 1 hts gX11_put_X11_fails rfl rfl rfl (by decide +kernel) ⟨Nat.le_of_ble_eq_true rfl, Nat.le_of_ble_eq_true rfl⟩) hw (hw.recv (ci := 11) (q0 := 0) rfl rfl rfl) rfl hl.1 rfl (Nat.le_of_ble_eq_true rfl) dX11_put_27 (fun H locs hw => ?_)
      exact hret r22 _ _ _ _ _ (g_i1 hf) (congrArg (fun t => mw ty ad t wr) (g_i2 hf)) hw dX11_put_30
  · have hf := g_f (bI_z c4) hf
    refine lv_iconst (v := (-1)) hx hb dX11_put_12 (by decide) ?_
    exact hret (-1) _ _ _ _ _ (g_i1 hf) (congrArg (fun t => mw ty ad t wr) (g_i2 hf)) hw dX11_put_13

abbrev rm_mm_cell : Room := { frames := 2, cells := 0, slots := 0, locals := 42 }
set_option maxHeartbeats 4000000 in
set_option maxRecDepth 100000 in
theorem cmm_cell {l : Launch} {D : va_G} {ty : gT} {A : Nat → Prop} {ad : Nat → Nat} {wr : va_W} {x1 : Int32} {x2 : Int32} {x3 : Int32} {σ : gS} {r : Int64} {σ' : gS} (hf : mm_cell σ x1 x2 x3 = some (r, σ')) : gL l D ty A yX11_cell wsX11_cell rm_mm_cell [.ref (ad 0), .int x1, .int x2, .int x3] (mw ty ad σ wr) r (mw ty ad σ' wr) := by
  refine gL_enter (cc := cX11_cell) (maxL := 4) (by decide) rfl (Nat.le_of_ble_eq_true rfl) ?_
  intro p e s m args below meth c Q ls F hl hw hret
  have F : CallFix p m c cX11_cell 4 s args wsX11_cell RX11 := F
  obtain ⟨hx, hb, hml, hown, hts⟩ := id F
  have hl : lv_has ls 4 [(0, .ref (ad 0)), (1, .int x1), (2, .int x2), (3, .int x3)] := hl
  have hin : ∀ w ∈ wsX110, w ∈ wsX11_cell := by first | exact fun w h => List.mem_cons_of_mem _ (List.mem_append_right _ h) | decide +kernel
  have kc77 := hts (.constantLong RX11 77 (-9223372036854775808)) (by decide +kernel)
  have kf13 := hts (.fieldLink RX11 13 "GossipGateModel" "sheetLong" "[I") (by decide +kernel)
  have kf16 := hts (.fieldLink RX11 16 "GossipGateModel" "cells" "[I") (by decide +kernel)
  have kf74 := hts (.fieldLink RX11 74 "GossipGateModel" "fault" "I") (by decide +kernel)
  have kf9 := hts (.fieldLink RX11 9 "GossipGateModel" "sorts" "[I") (by decide +kernel)
  have B50 : ∀ (v1 : Int32) (v2 : Int32) (σ : gS) (H : Heap) (locs : List Loc) (ls : Array Slot), lv_has ls 4 [(0, .ref (ad 0)), (1, .int v1), (2, .int v2)] → gW D ty A (mw ty ad σ wr) s s.heap H locs → mm_cell_b50 v1 v2 σ = some (r, σ') → W p l e rm_mm_cell s m args below meth c H locs 0 0 Q (F0 m 50 ls []) := by
    intro v1 v2 σ H locs ls hl hw hf
    unfold mm_cell_b50 at hf
    refine lv_aload_n hx hb dX11_cell_50 rfl (lv_at hl 0 rfl) ?_
    refine mw_get_2 F hin hw kf9 dX11_cell_51 ?_
    refine lv_iload_n hx hb dX11_cell_54 rfl (lv_at hl 1 rfl) ?_
    obtain ⟨g1, hf⟩ := g_g hf
    refine mw_ld_2 F hw g1 dX11_cell_55 ?_
    refine lv_bipush (v := (-9)) hx hb dX11_cell_56 (by decide) ?_
    refine lv_icmp_ne (tgt := 67) hx hb dX11_cell_58 (by decide) (fun c2 => ?_) (fun c2 => ?_)
    · have hf := g_f c2 hf
      refine lv_iload_n hx hb dX11_cell_67 rfl (lv_at hl 2 rfl) ?_
      refine lv_iconst (v := 0) hx hb dX11_cell_68 (by decide) ?_
      refine lv_aload_n hx hb dX11_cell_69 rfl (lv_at hl 0 rfl) ?_
      refine mw_get_3 F hin hw kf13 dX11_cell_70 ?_
      refine lv_iload_n hx hb dX11_cell_73 rfl (lv_at hl 1 rfl) ?_
      refine mw_ld_3 F hw g1 dX11_cell_74 ?_
      refine lv_iconst (v := 1) hx hb dX11_cell_75 (by decide) ?_
      refine lv_isub hx hb dX11_cell_76 ?_
      obtain ⟨r4, h3, hf⟩ := g_b1 hf
      refine g_sI F (As := [.int v2, .int 0, .int ((σ.2 3 v1.toNatClampNeg) - 1)]) (rest := []) (cmm_within h3) (va_cwS 3 hts gX11_cell_X11_within rfl rfl rfl (by decide +kernel) ⟨Nat.le_of_ble_eq_true rfl, Nat.le_of_ble_eq_true rfl⟩) hw rfl hl.1 rfl (Nat.le_of_ble_eq_true rfl) dX11_cell_77 (fun H locs hw => ?_)
      refine lv_if_ne (tgt := 89) hx hb dX11_cell_80 (by decide) (fun c5 => ?_) (fun c5 => ?_)
      · have hf := g_t (bI_nz c5) hf
        refine lv_aload_n hx hb dX11_cell_89 rfl (lv_at hl 0 rfl) ?_
        refine mw_get_4 F hin hw kf16 dX11_cell_90 ?_
        refine lv_bipush (v := 60) hx hb dX11_cell_93 (by decide) ?_
        refine lv_iload_n hx hb dX11_cell_95 rfl (lv_at hl 1 rfl) ?_
        refine lv_imul hx hb dX11_cell_96 ?_
        refine lv_iload_n hx hb dX11_cell_97 rfl (lv_at hl 2 rfl) ?_
        refine lv_iadd hx hb dX11_cell_98 ?_
        obtain ⟨g6, hf⟩ := g_g hf
        refine mw_ld_4 F hw g6 dX11_cell_99 ?_
        refine lv_i2l hx hb dX11_cell_100 rfl ?_
        exact hret ((σ.2 4 ((((60 : Int32) * v1) + v2).toNatClampNeg)).toInt64) _ _ _ _ _ (g_i1 hf) (congrArg (fun t => mw ty ad t wr) (g_i2 hf)) hw dX11_cell_101
      · have hf := g_f (bI_z c5) hf
        refine lv_aload_n hx hb dX11_cell_83 rfl (lv_at hl 0 rfl) ?_
        refine lv_iconst (v := 3) hx hb dX11_cell_84 (by decide) ?_
        obtain ⟨r8, σ9, h7, hf⟩ := g_b2 hf
        refine g_cL F (As := [.int 3]) (rest := []) (cmm_lost h7) (cwV 1 hts gX11_cell_X11_lost rfl rfl rfl (by decide +kernel) ⟨Nat.le_of_ble_eq_true rfl, Nat.le_of_ble_eq_true rfl⟩) hw (hw.recv (ci := 11) (q0 := 0) rfl rfl rfl) rfl hl.1 rfl (Nat.le_of_ble_eq_true rfl) dX11_cell_85 (fun H locs hw => ?_)
        exact hret r8 _ _ _ _ _ (g_i1 hf) (congrArg (fun t => mw ty ad t wr) (g_i2 hf)) hw dX11_cell_88
    · have hf := g_t c2 hf
      refine lv_aload_n hx hb dX11_cell_61 rfl (lv_at hl 0 rfl) ?_
      refine lv_iconst (v := 1) hx hb dX11_cell_62 (by decide) ?_
      obtain ⟨r11, σ12, h10, hf⟩ := g_b2 hf
      refine g_cL F (As := [.int 1]) (rest := []) (cmm_lost h10) (cwV 1 hts gX11_cell_X11_lost rfl rfl rfl (by decide +kernel) ⟨Nat.le_of_ble_eq_true rfl, Nat.le_of_ble_eq_true rfl⟩) hw (hw.recv (ci := 11) (q0 := 0) rfl rfl rfl) rfl hl.1 rfl (Nat.le_of_ble_eq_true rfl) dX11_cell_63 (fun H locs hw => ?_)
      exact hret r11 _ _ _ _ _ (g_i1 hf) (congrArg (fun t => mw ty ad t wr) (g_i2 hf)) hw dX11_cell_66
  unfold mm_cell at hf
  refine lv_aload_n hx hb dX11_cell_0 rfl (lv_at hl 0 rfl) ?_
  refine lv_iconst (v := 0) hx hb dX11_cell_1 (by decide) ?_
  refine mw_put_0 F hin hw kf74 dX11_cell_2 (fun H locs hw => ?_)
  obtain ⟨σ13, eσ13, hf⟩ := g_let hf
  have hw := mw_re eσ13 hw
  refine lv_iload_n hx hb dX11_cell_5 rfl (lv_at hl 1 rfl) ?_
  obtain ⟨r15, h14, hf⟩ := g_b1 hf
  refine g_sI F (As := [.int x1]) (rest := []) (cmm_isSheet h14) (va_cwS 1 hts gX11_cell_X11_isSheet rfl rfl rfl (by decide +kernel) ⟨Nat.le_of_ble_eq_true rfl, Nat.le_of_ble_eq_true rfl⟩) hw rfl hl.1 rfl (Nat.le_of_ble_eq_true rfl) dX11_cell_6 (fun H locs hw => ?_)
  refine lv_if_eq (tgt := 19) hx hb dX11_cell_9 (by decide) (fun c16 => ?_) (fun c16 => ?_)
  · have hf := g_f (bI_z c16) hf
    refine lv_ldc2 (v := (-9223372036854775808)) hx hb hown kc77 dX11_cell_19 ?_
    exact hret (-9223372036854775808) _ _ _ _ _ (g_i1 hf) (congrArg (fun t => mw ty ad t wr) (g_i2 hf)) hw dX11_cell_22
  · have hf := g_t (bI_nz c16) hf
    refine lv_iload_n hx hb dX11_cell_12 rfl (lv_at hl 3 rfl) ?_
    obtain ⟨r18, h17, hf⟩ := g_b1 hf
    refine g_sI F (As := [.int x3]) (rest := []) (cmm_isSort h17) (va_cwS 1 hts gX11_cell_X11_isSort rfl rfl rfl (by decide +kernel) ⟨Nat.le_of_ble_eq_true rfl, Nat.le_of_ble_eq_true rfl⟩) hw rfl hl.1 rfl (Nat.le_of_ble_eq_true rfl) dX11_cell_13 (fun H locs hw => ?_)
    refine lv_if_ne (tgt := 23) hx hb dX11_cell_16 (by decide) (fun c19 => ?_) (fun c19 => ?_)
    · have hf := g_t (bI_nz c19) hf
      refine lv_aload_n hx hb dX11_cell_23 rfl (lv_at hl 0 rfl) ?_
      refine mw_get_2 F hin hw kf9 dX11_cell_24 ?_
      refine lv_iload_n hx hb dX11_cell_27 rfl (lv_at hl 1 rfl) ?_
      obtain ⟨g20, hf⟩ := g_g hf
      refine mw_ld_2 F hw g20 dX11_cell_28 ?_
      refine lv_bipush (v := (-9)) hx hb dX11_cell_29 (by decide) ?_
      refine lv_icmp_eq (tgt := 50) hx hb dX11_cell_31 (by decide) (fun c21 => ?_) (fun c21 => ?_)
      · have hf := g_t c21 hf
        exact B50 x1 x2 σ13 _ _ _ (lv_sub hl [0, 1, 2] rfl) hw hf
      · have hf := g_f c21 hf
        refine lv_aload_n hx hb dX11_cell_34 rfl (lv_at hl 0 rfl) ?_
        refine mw_get_2 F hin hw kf9 dX11_cell_35 ?_
        refine lv_iload_n hx hb dX11_cell_38 rfl (lv_at hl 1 rfl) ?_
        refine mw_ld_2 F hw g20 dX11_cell_39 ?_
        refine lv_iload_n hx hb dX11_cell_40 rfl (lv_at hl 3 rfl) ?_
        refine lv_icmp_eq (tgt := 50) hx hb dX11_cell_41 (by decide) (fun c22 => ?_) (fun c22 => ?_)
        · have hf := g_t c22 hf
          exact B50 x1 x2 σ13 _ _ _ (lv_sub hl [0, 1, 2] rfl) hw hf
        · have hf := g_f c22 hf
          refine lv_aload_n hx hb dX11_cell_44 rfl (lv_at hl 0 rfl) ?_
          refine lv_iconst (v := 2) hx hb dX11_cell_45 (by decide) ?_
          obtain ⟨r24, σ25, h23, hf⟩ := g_b2 hf
          refine g_cL F (As := [.int 2]) (rest := []) (cmm_lost h23) (cwV 1 hts gX11_cell_X11_lost rfl rfl rfl (by decide +kernel) ⟨Nat.le_of_ble_eq_true rfl, Nat.le_of_ble_eq_true rfl⟩) hw (hw.recv (ci := 11) (q0 := 0) rfl rfl rfl) rfl hl.1 rfl (Nat.le_of_ble_eq_true rfl) dX11_cell_46 (fun H locs hw => ?_)
          exact hret r24 _ _ _ _ _ (g_i1 hf) (congrArg (fun t => mw ty ad t wr) (g_i2 hf)) hw dX11_cell_49
    · have hf := g_f (bI_z c19) hf
      refine lv_ldc2 (v := (-9223372036854775808)) hx hb hown kc77 dX11_cell_19 ?_
      exact hret (-9223372036854775808) _ _ _ _ _ (g_i1 hf) (congrArg (fun t => mw ty ad t wr) (g_i2 hf)) hw dX11_cell_22

abbrev rm_mm_copy : Room := { frames := 2, cells := 0, slots := 0, locals := 42 }
set_option maxHeartbeats 4000000 in
set_option maxRecDepth 100000 in
theorem cmm_copy {l : Launch} {D : va_G} {ty : gT} {A : Nat → Prop} {ad : Nat → Nat} {wr : va_W} {x1 : Int32} {x2 : Int32} {x3 : Int32} {x4 : Int32} {x5 : Int32} {σ : gS} {r : Int32} {σ' : gS} (hf : mm_copy σ x1 x2 x3 x4 x5 = some (r, σ')) : gI l D ty A yX11_copy wsX11_copy rm_mm_copy [.ref (ad 0), .int x1, .int x2, .int x3, .int x4, .int x5] (mw ty ad σ wr) r (mw ty ad σ' wr) := by
  refine gI_enter (cc := cX11_copy) (maxL := 10) (by decide) rfl (Nat.le_of_ble_eq_true rfl) ?_
  intro p e s m args below meth c Q ls F hl hw hret
  have F : CallFix p m c cX11_copy 10 s args wsX11_copy RX11 := F
  obtain ⟨hx, hb, hml, hown, hts⟩ := id F
  have hl : lv_has ls 10 [(0, .ref (ad 0)), (1, .int x1), (2, .int x2), (3, .int x3), (4, .int x4), (5, .int x5)] := hl
  have hin : ∀ w ∈ wsX110, w ∈ wsX11_copy := by first | exact fun w h => List.mem_cons_of_mem _ (List.mem_append_right _ h) | decide +kernel
  have kf13 := hts (.fieldLink RX11 13 "GossipGateModel" "sheetLong" "[I") (by decide +kernel)
  have kf16 := hts (.fieldLink RX11 16 "GossipGateModel" "cells" "[I") (by decide +kernel)
  have kf74 := hts (.fieldLink RX11 74 "GossipGateModel" "fault" "I") (by decide +kernel)
  have kf9 := hts (.fieldLink RX11 9 "GossipGateModel" "sorts" "[I") (by decide +kernel)
  have B43 : ∀  (σ : gS) (H : Heap) (locs : List Loc) (ls : Array Slot), lv_has ls 10 [(0, .ref (ad 0))] → gW D ty A (mw ty ad σ wr) s s.heap H locs → mm_copy_b43 σ = some (r, σ') → W p l e rm_mm_copy s m args below meth c H locs 0 0 Q (F0 m 43 ls []) := by
    intro σ H locs ls hl hw hf
    unfold mm_copy_b43 at hf
    refine lv_aload_n hx hb dX11_copy_43 rfl (lv_at hl 0 rfl) ?_
    refine lv_iconst (v := 1) hx hb dX11_copy_44 (by decide) ?_
    obtain ⟨r2, σ3, h1, hf⟩ := g_b2 hf
    refine g_cI F (As := [.int 1]) (rest := []) (cmm_fails h1) (cwV 1 hts gX11_copy_X11_fails rfl rfl rfl (by decide +kernel) ⟨Nat.le_of_ble_eq_true rfl, Nat.le_of_ble_eq_true rfl⟩) hw (hw.recv (ci := 11) (q0 := 0) rfl rfl rfl) rfl hl.1 rfl (Nat.le_of_ble_eq_true rfl) dX11_copy_45 (fun H locs hw => ?_)
    exact hret r2 _ _ _ _ _ (g_i1 hf) (congrArg (fun t => mw ty ad t wr) (g_i2 hf)) hw dX11_copy_48
  have B144 : ∀  (σ : gS) (H : Heap) (locs : List Loc) (ls : Array Slot), lv_has ls 10 [(0, .ref (ad 0))] → gW D ty A (mw ty ad σ wr) s s.heap H locs → mm_copy_b144 σ = some (r, σ') → W p l e rm_mm_copy s m args below meth c H locs 0 0 Q (F0 m 144 ls []) := by
    intro σ H locs ls hl hw hf
    unfold mm_copy_b144 at hf
    refine lv_aload_n hx hb dX11_copy_144 rfl (lv_at hl 0 rfl) ?_
    refine lv_iconst (v := 3) hx hb dX11_copy_145 (by decide) ?_
    obtain ⟨r5, σ6, h4, hf⟩ := g_b2 hf
    refine g_cI F (As := [.int 3]) (rest := []) (cmm_fails h4) (cwV 1 hts gX11_copy_X11_fails rfl rfl rfl (by decide +kernel) ⟨Nat.le_of_ble_eq_true rfl, Nat.le_of_ble_eq_true rfl⟩) hw (hw.recv (ci := 11) (q0 := 0) rfl rfl rfl) rfl hl.1 rfl (Nat.le_of_ble_eq_true rfl) dX11_copy_146 (fun H locs hw => ?_)
    exact hret r5 _ _ _ _ _ (g_i1 hf) (congrArg (fun t => mw ty ad t wr) (g_i2 hf)) hw dX11_copy_149
  have B166 : ∀ (n166 : Nat) (v1 : Int32) (v2 : Int32) (v3 : Int32) (v4 : Int32) (v5 : Int32) (v7 : Int32) (v8 : Int32) (σ : gS) (H : Heap) (locs : List Loc) (ls : Array Slot), lv_has ls 10 [(0, .ref (ad 0)), (1, .int v1), (2, .int v2), (3, .int v3), (4, .int v4), (5, .int v5), (7, .int v7), (8, .int v8)] → gW D ty A (mw ty ad σ wr) s s.heap H locs → mm_copy_b166 n166 v1 v2 v3 v4 v5 v7 v8 σ = some (r, σ') → W p l e rm_mm_copy s m args below meth c H locs 0 0 Q (F0 m 166 ls []) := by
    intro n166
    induction n166 with
    | zero => intro v1 v2 v3 v4 v5 v7 v8 σ H locs ls hl hw hf; cases hf
    | succ n166 ih166 =>
      have B190 : ∀ (v1 : Int32) (v2 : Int32) (v3 : Int32) (v4 : Int32) (v5 : Int32) (v7 : Int32) (v8 : Int32) (s0 : Int32) (σ : gS) (H : Heap) (locs : List Loc) (ls : Array Slot), lv_has ls 10 [(0, .ref (ad 0)), (1, .int v1), (2, .int v2), (3, .int v3), (4, .int v4), (5, .int v5), (7, .int v7), (8, .int v8)] → gW D ty A (mw ty ad σ wr) s s.heap H locs → mm_copy_b190 (mm_copy_b166 n166) v1 v2 v3 v4 v5 v7 v8 s0 σ = some (r, σ') → W p l e rm_mm_copy s m args below meth c H locs 0 0 Q (F0 m 190 ls [.int s0]) := by
        intro v1 v2 v3 v4 v5 v7 v8 s0 σ H locs ls hl hw hf
        unfold mm_copy_b190 at hf
        refine lv_istore (lv' := [(9, .int s0), (0, .ref (ad 0)), (1, .int v1), (2, .int v2), (3, .int v3), (4, .int v4), (5, .int v5), (7, .int v7), (8, .int v8)]) hx hb dX11_copy_190 hl (by decide) rfl (fun ls hl => ?_)
        refine lv_aload_n hx hb dX11_copy_192 rfl (lv_at hl 1 rfl) ?_
        refine mw_get_4 F hin hw kf16 dX11_copy_193 ?_
        refine lv_bipush (v := 60) hx hb dX11_copy_196 (by decide) ?_
        refine lv_iload_n hx hb dX11_copy_198 rfl (lv_at hl 4 rfl) ?_
        refine lv_imul hx hb dX11_copy_199 ?_
        refine lv_iload hx hb dX11_copy_200 (lv_at hl 5 rfl) ?_
        refine lv_iadd hx hb dX11_copy_202 ?_
        refine lv_iload hx hb dX11_copy_203 (lv_at hl 0 rfl) ?_
        refine lv_iadd hx hb dX11_copy_205 ?_
        refine lv_aload_n hx hb dX11_copy_206 rfl (lv_at hl 1 rfl) ?_
        refine mw_get_4 F hin hw kf16 dX11_copy_207 ?_
        refine lv_bipush (v := 60) hx hb dX11_copy_210 (by decide) ?_
        refine lv_iload_n hx hb dX11_copy_212 rfl (lv_at hl 2 rfl) ?_
        refine lv_imul hx hb dX11_copy_213 ?_
        refine lv_iload_n hx hb dX11_copy_214 rfl (lv_at hl 3 rfl) ?_
        refine lv_iadd hx hb dX11_copy_215 ?_
        refine lv_iload hx hb dX11_copy_216 (lv_at hl 0 rfl) ?_
        refine lv_iadd hx hb dX11_copy_218 ?_
        obtain ⟨g7, hf⟩ := g_g hf
        refine mw_ld_4 F hw g7 dX11_copy_219 ?_
        obtain ⟨g8, hf⟩ := g_g hf
        refine mw_st_4 F hw g8 dX11_copy_220 (fun H locs hw => ?_)
        obtain ⟨σ9, eσ9, hf⟩ := g_let hf
        have hw := mw_re eσ9 hw
        refine lv_iinc (v := v8 + 1) (lv' := [(8, .int (v8 + 1)), (9, .int s0), (0, .ref (ad 0)), (1, .int v1), (2, .int v2), (3, .int v3), (4, .int v4), (5, .int v5), (7, .int v7)]) hx hb dX11_copy_221 hl (k := 8) rfl rfl (by decide) rfl (fun ls hl => ?_)
        refine lv_goto (tgt := 166) hx hb dX11_copy_224 (by decide) ?_
        exact ih166 v1 v2 v3 v4 v5 v7 (v8 + 1) σ9 _ _ _ (lv_sub hl [2, 3, 4, 5, 6, 7, 8, 0] rfl) hw hf
      intro v1 v2 v3 v4 v5 v7 v8 σ H locs ls hl hw hf
      rw [mm_copy_b166] at hf
      refine lv_iload hx hb dX11_copy_166 (lv_at hl 7 rfl) ?_
      refine lv_iload hx hb dX11_copy_168 (lv_at hl 5 rfl) ?_
      refine lv_icmp_ge (tgt := 227) hx hb dX11_copy_170 (by decide) (fun c10 => ?_) (fun c10 => ?_)
      · have hf := g_t c10 hf
        refine lv_iload hx hb dX11_copy_227 (lv_at hl 5 rfl) ?_
        exact hret v5 _ _ _ _ _ (g_i1 hf) (congrArg (fun t => mw ty ad t wr) (g_i2 hf)) hw dX11_copy_229
      · have hf := g_f c10 hf
        refine lv_iload hx hb dX11_copy_173 (lv_at hl 6 rfl) ?_
        refine lv_if_eq (tgt := 188) hx hb dX11_copy_175 (by decide) (fun c11 => ?_) (fun c11 => ?_)
        · have hf := g_t c11 hf
          refine lv_iload hx hb dX11_copy_188 (lv_at hl 7 rfl) ?_
          exact B190 v1 v2 v3 v4 v5 v7 v8 v8 σ _ _ _ (lv_sub hl [0, 1, 2, 3, 4, 5, 6, 7] rfl) hw hf
        · have hf := g_f c11 hf
          refine lv_iload hx hb dX11_copy_178 (lv_at hl 5 rfl) ?_
          refine lv_iconst (v := 1) hx hb dX11_copy_180 (by decide) ?_
          refine lv_isub hx hb dX11_copy_181 ?_
          refine lv_iload hx hb dX11_copy_182 (lv_at hl 7 rfl) ?_
          refine lv_isub hx hb dX11_copy_184 ?_
          refine lv_goto (tgt := 190) hx hb dX11_copy_185 (by decide) ?_
          exact B190 v1 v2 v3 v4 v5 v7 v8 ((v5 - 1) - v8) σ _ _ _ (lv_sub hl [0, 1, 2, 3, 4, 5, 6, 7] rfl) hw hf
  have B161 : ∀ (v1 : Int32) (v2 : Int32) (v3 : Int32) (v4 : Int32) (v5 : Int32) (s0 : Int32) (σ : gS) (H : Heap) (locs : List Loc) (ls : Array Slot), lv_has ls 10 [(0, .ref (ad 0)), (1, .int v1), (2, .int v2), (3, .int v3), (4, .int v4), (5, .int v5)] → gW D ty A (mw ty ad σ wr) s s.heap H locs → mm_copy_b161 v1 v2 v3 v4 v5 s0 σ = some (r, σ') → W p l e rm_mm_copy s m args below meth c H locs 0 0 Q (F0 m 161 ls [.int s0]) := by
    intro v1 v2 v3 v4 v5 s0 σ H locs ls hl hw hf
    unfold mm_copy_b161 at hf
    refine lv_istore (lv' := [(7, .int s0), (0, .ref (ad 0)), (1, .int v1), (2, .int v2), (3, .int v3), (4, .int v4), (5, .int v5)]) hx hb dX11_copy_161 hl (by decide) rfl (fun ls hl => ?_)
    refine lv_iconst (v := 0) hx hb dX11_copy_163 (by decide) ?_
    refine lv_istore (lv' := [(8, .int 0), (7, .int s0), (0, .ref (ad 0)), (1, .int v1), (2, .int v2), (3, .int v3), (4, .int v4), (5, .int v5)]) hx hb dX11_copy_164 hl (by decide) rfl (fun ls hl => ?_)
    exact B166 1000 v1 v2 v3 v4 v5 s0 0 σ _ _ _ (lv_sub hl [2, 3, 4, 5, 6, 7, 1, 0] rfl) hw hf
  have B110 : ∀ (v1 : Int32) (v2 : Int32) (v3 : Int32) (v4 : Int32) (v5 : Int32) (s0 : Int32) (σ : gS) (H : Heap) (locs : List Loc) (ls : Array Slot), lv_has ls 10 [(0, .ref (ad 0)), (1, .int v1), (2, .int v2), (3, .int v3), (4, .int v4), (5, .int v5)] → gW D ty A (mw ty ad σ wr) s s.heap H locs → mm_copy_b110 v1 v2 v3 v4 v5 s0 σ = some (r, σ') → W p l e rm_mm_copy s m args below meth c H locs 0 0 Q (F0 m 110 ls [.int s0]) := by
    intro v1 v2 v3 v4 v5 s0 σ H locs ls hl hw hf
    unfold mm_copy_b110 at hf
    refine lv_istore (lv' := [(6, .int s0), (0, .ref (ad 0)), (1, .int v1), (2, .int v2), (3, .int v3), (4, .int v4), (5, .int v5)]) hx hb dX11_copy_110 hl (by decide) rfl (fun ls hl => ?_)
    refine lv_iload hx hb dX11_copy_112 (lv_at hl 0 rfl) ?_
    refine lv_if_eq (tgt := 144) hx hb dX11_copy_114 (by decide) (fun c12 => ?_) (fun c12 => ?_)
    · have hf := g_t c12 hf
      exact B144 σ _ _ _ (lv_sub hl [1] rfl) hw hf
    · have hf := g_f c12 hf
      refine lv_iload hx hb dX11_copy_117 (lv_at hl 6 rfl) ?_
      refine lv_aload_n hx hb dX11_copy_119 rfl (lv_at hl 1 rfl) ?_
      refine mw_get_3 F hin hw kf13 dX11_copy_120 ?_
      refine lv_iload_n hx hb dX11_copy_123 rfl (lv_at hl 2 rfl) ?_
      obtain ⟨g13, hf⟩ := g_g hf
      refine mw_ld_3 F hw g13 dX11_copy_124 ?_
      refine lv_iload_n hx hb dX11_copy_125 rfl (lv_at hl 3 rfl) ?_
      refine lv_isub hx hb dX11_copy_126 ?_
      refine lv_icmp_gt (tgt := 144) hx hb dX11_copy_127 (by decide) (fun c14 => ?_) (fun c14 => ?_)
      · have hf := g_t c14 hf
        exact B144 σ _ _ _ (lv_sub hl [1] rfl) hw hf
      · have hf := g_f c14 hf
        refine lv_iload hx hb dX11_copy_130 (lv_at hl 6 rfl) ?_
        refine lv_aload_n hx hb dX11_copy_132 rfl (lv_at hl 1 rfl) ?_
        refine mw_get_3 F hin hw kf13 dX11_copy_133 ?_
        refine lv_iload_n hx hb dX11_copy_136 rfl (lv_at hl 4 rfl) ?_
        obtain ⟨g15, hf⟩ := g_g hf
        refine mw_ld_3 F hw g15 dX11_copy_137 ?_
        refine lv_iload hx hb dX11_copy_138 (lv_at hl 5 rfl) ?_
        refine lv_isub hx hb dX11_copy_140 ?_
        refine lv_icmp_le (tgt := 150) hx hb dX11_copy_141 (by decide) (fun c16 => ?_) (fun c16 => ?_)
        · have hf := g_t c16 hf
          refine lv_iload_n hx hb dX11_copy_150 rfl (lv_at hl 3 rfl) ?_
          refine lv_iload hx hb dX11_copy_151 (lv_at hl 5 rfl) ?_
          refine lv_icmp_ge (tgt := 160) hx hb dX11_copy_153 (by decide) (fun c17 => ?_) (fun c17 => ?_)
          · have hf := g_t c17 hf
            refine lv_iconst (v := 0) hx hb dX11_copy_160 (by decide) ?_
            exact B161 v1 v2 v3 v4 v5 0 σ _ _ _ (lv_sub hl [1, 2, 3, 4, 5, 6] rfl) hw hf
          · have hf := g_f c17 hf
            refine lv_iconst (v := 1) hx hb dX11_copy_156 (by decide) ?_
            refine lv_goto (tgt := 161) hx hb dX11_copy_157 (by decide) ?_
            exact B161 v1 v2 v3 v4 v5 1 σ _ _ _ (lv_sub hl [1, 2, 3, 4, 5, 6] rfl) hw hf
        · have hf := g_f c16 hf
          exact B144 σ _ _ _ (lv_sub hl [1] rfl) hw hf
  have B109 : ∀ (v1 : Int32) (v2 : Int32) (v3 : Int32) (v4 : Int32) (v5 : Int32) (σ : gS) (H : Heap) (locs : List Loc) (ls : Array Slot), lv_has ls 10 [(0, .ref (ad 0)), (1, .int v1), (2, .int v2), (3, .int v3), (4, .int v4), (5, .int v5)] → gW D ty A (mw ty ad σ wr) s s.heap H locs → mm_copy_b109 v1 v2 v3 v4 v5 σ = some (r, σ') → W p l e rm_mm_copy s m args below meth c H locs 0 0 Q (F0 m 109 ls []) := by
    intro v1 v2 v3 v4 v5 σ H locs ls hl hw hf
    unfold mm_copy_b109 at hf
    refine lv_iconst (v := 0) hx hb dX11_copy_109 (by decide) ?_
    exact B110 v1 v2 v3 v4 v5 0 σ _ _ _ (lv_sub hl [0, 1, 2, 3, 4, 5] rfl) hw hf
  unfold mm_copy at hf
  refine lv_aload_n hx hb dX11_copy_0 rfl (lv_at hl 0 rfl) ?_
  refine lv_iconst (v := 0) hx hb dX11_copy_1 (by decide) ?_
  refine mw_put_0 F hin hw kf74 dX11_copy_2 (fun H locs hw => ?_)
  obtain ⟨σ18, eσ18, hf⟩ := g_let hf
  have hw := mw_re eσ18 hw
  refine lv_iload_n hx hb dX11_copy_5 rfl (lv_at hl 1 rfl) ?_
  obtain ⟨r20, h19, hf⟩ := g_b1 hf
  refine g_sI F (As := [.int x1]) (rest := []) (cmm_isSheet h19) (va_cwS 1 hts gX11_copy_X11_isSheet rfl rfl rfl (by decide +kernel) ⟨Nat.le_of_ble_eq_true rfl, Nat.le_of_ble_eq_true rfl⟩) hw rfl hl.1 rfl (Nat.le_of_ble_eq_true rfl) dX11_copy_6 (fun H locs hw => ?_)
  refine lv_if_eq (tgt := 19) hx hb dX11_copy_9 (by decide) (fun c21 => ?_) (fun c21 => ?_)
  · have hf := g_f (bI_z c21) hf
    refine lv_iconst (v := (-1)) hx hb dX11_copy_19 (by decide) ?_
    exact hret (-1) _ _ _ _ _ (g_i1 hf) (congrArg (fun t => mw ty ad t wr) (g_i2 hf)) hw dX11_copy_20
  · have hf := g_t (bI_nz c21) hf
    refine lv_iload_n hx hb dX11_copy_12 rfl (lv_at hl 3 rfl) ?_
    obtain ⟨r23, h22, hf⟩ := g_b1 hf
    refine g_sI F (As := [.int x3]) (rest := []) (cmm_isSheet h22) (va_cwS 1 hts gX11_copy_X11_isSheet rfl rfl rfl (by decide +kernel) ⟨Nat.le_of_ble_eq_true rfl, Nat.le_of_ble_eq_true rfl⟩) hw rfl hl.1 rfl (Nat.le_of_ble_eq_true rfl) dX11_copy_13 (fun H locs hw => ?_)
    refine lv_if_ne (tgt := 21) hx hb dX11_copy_16 (by decide) (fun c24 => ?_) (fun c24 => ?_)
    · have hf := g_t (bI_nz c24) hf
      refine lv_aload_n hx hb dX11_copy_21 rfl (lv_at hl 0 rfl) ?_
      refine mw_get_2 F hin hw kf9 dX11_copy_22 ?_
      refine lv_iload_n hx hb dX11_copy_25 rfl (lv_at hl 1 rfl) ?_
      obtain ⟨g25, hf⟩ := g_g hf
      refine mw_ld_2 F hw g25 dX11_copy_26 ?_
      refine lv_bipush (v := (-9)) hx hb dX11_copy_27 (by decide) ?_
      refine lv_icmp_eq (tgt := 43) hx hb dX11_copy_29 (by decide) (fun c26 => ?_) (fun c26 => ?_)
      · have hf := g_t c26 hf
        exact B43 σ18 _ _ _ (lv_sub hl [0] rfl) hw hf
      · have hf := g_f c26 hf
        refine lv_aload_n hx hb dX11_copy_32 rfl (lv_at hl 0 rfl) ?_
        refine mw_get_2 F hin hw kf9 dX11_copy_33 ?_
        refine lv_iload_n hx hb dX11_copy_36 rfl (lv_at hl 3 rfl) ?_
        obtain ⟨g27, hf⟩ := g_g hf
        refine mw_ld_2 F hw g27 dX11_copy_37 ?_
        refine lv_bipush (v := (-9)) hx hb dX11_copy_38 (by decide) ?_
        refine lv_icmp_ne (tgt := 49) hx hb dX11_copy_40 (by decide) (fun c28 => ?_) (fun c28 => ?_)
        · have hf := g_f c28 hf
          refine lv_aload_n hx hb dX11_copy_49 rfl (lv_at hl 0 rfl) ?_
          refine mw_get_2 F hin hw kf9 dX11_copy_50 ?_
          refine lv_iload_n hx hb dX11_copy_53 rfl (lv_at hl 1 rfl) ?_
          refine mw_ld_2 F hw g25 dX11_copy_54 ?_
          refine lv_aload_n hx hb dX11_copy_55 rfl (lv_at hl 0 rfl) ?_
          refine mw_get_2 F hin hw kf9 dX11_copy_56 ?_
          refine lv_iload_n hx hb dX11_copy_59 rfl (lv_at hl 3 rfl) ?_
          refine mw_ld_2 F hw g27 dX11_copy_60 ?_
          refine lv_icmp_eq (tgt := 70) hx hb dX11_copy_61 (by decide) (fun c29 => ?_) (fun c29 => ?_)
          · have hf := g_t c29 hf
            refine lv_iload_n hx hb dX11_copy_70 rfl (lv_at hl 2 rfl) ?_
            refine lv_if_lt (tgt := 109) hx hb dX11_copy_71 (by decide) (fun c30 => ?_) (fun c30 => ?_)
            · have hf := g_t c30 hf
              exact B109 x1 x2 x3 x4 x5 σ18 _ _ _ (lv_sub hl [0, 1, 2, 3, 4, 5] rfl) hw hf
            · have hf := g_f c30 hf
              refine lv_iload hx hb dX11_copy_74 (lv_at hl 4 rfl) ?_
              refine lv_if_lt (tgt := 109) hx hb dX11_copy_76 (by decide) (fun c31 => ?_) (fun c31 => ?_)
              · have hf := g_t c31 hf
                exact B109 x1 x2 x3 x4 x5 σ18 _ _ _ (lv_sub hl [0, 1, 2, 3, 4, 5] rfl) hw hf
              · have hf := g_f c31 hf
                refine lv_iload hx hb dX11_copy_79 (lv_at hl 5 rfl) ?_
                refine lv_if_lt (tgt := 109) hx hb dX11_copy_81 (by decide) (fun c32 => ?_) (fun c32 => ?_)
                · have hf := g_t c32 hf
                  exact B109 x1 x2 x3 x4 x5 σ18 _ _ _ (lv_sub hl [0, 1, 2, 3, 4, 5] rfl) hw hf
                · have hf := g_f c32 hf
                  refine lv_iload_n hx hb dX11_copy_84 rfl (lv_at hl 2 rfl) ?_
                  refine lv_aload_n hx hb dX11_copy_85 rfl (lv_at hl 0 rfl) ?_
                  refine mw_get_3 F hin hw kf13 dX11_copy_86 ?_
                  refine lv_iload_n hx hb dX11_copy_89 rfl (lv_at hl 1 rfl) ?_
                  refine mw_ld_3 F hw g25 dX11_copy_90 ?_
                  refine lv_icmp_gt (tgt := 109) hx hb dX11_copy_91 (by decide) (fun c33 => ?_) (fun c33 => ?_)
                  · have hf := g_t c33 hf
                    exact B109 x1 x2 x3 x4 x5 σ18 _ _ _ (lv_sub hl [0, 1, 2, 3, 4, 5] rfl) hw hf
                  · have hf := g_f c33 hf
                    refine lv_iload hx hb dX11_copy_94 (lv_at hl 4 rfl) ?_
                    refine lv_aload_n hx hb dX11_copy_96 rfl (lv_at hl 0 rfl) ?_
                    refine mw_get_3 F hin hw kf13 dX11_copy_97 ?_
                    refine lv_iload_n hx hb dX11_copy_100 rfl (lv_at hl 3 rfl) ?_
                    refine mw_ld_3 F hw g27 dX11_copy_101 ?_
                    refine lv_icmp_gt (tgt := 109) hx hb dX11_copy_102 (by decide) (fun c34 => ?_) (fun c34 => ?_)
                    · have hf := g_t c34 hf
                      exact B109 x1 x2 x3 x4 x5 σ18 _ _ _ (lv_sub hl [0, 1, 2, 3, 4, 5] rfl) hw hf
                    · have hf := g_f c34 hf
                      refine lv_iconst (v := 1) hx hb dX11_copy_105 (by decide) ?_
                      refine lv_goto (tgt := 110) hx hb dX11_copy_106 (by decide) ?_
                      exact B110 x1 x2 x3 x4 x5 1 σ18 _ _ _ (lv_sub hl [0, 1, 2, 3, 4, 5] rfl) hw hf
          · have hf := g_f c29 hf
            refine lv_aload_n hx hb dX11_copy_64 rfl (lv_at hl 0 rfl) ?_
            refine lv_iconst (v := 2) hx hb dX11_copy_65 (by decide) ?_
            obtain ⟨r36, σ37, h35, hf⟩ := g_b2 hf
            refine g_cI F (As := [.int 2]) (rest := []) (cmm_fails h35) (cwV 1 hts gX11_copy_X11_fails rfl rfl rfl (by decide +kernel) ⟨Nat.le_of_ble_eq_true rfl, Nat.le_of_ble_eq_true rfl⟩) hw (hw.recv (ci := 11) (q0 := 0) rfl rfl rfl) rfl hl.1 rfl (Nat.le_of_ble_eq_true rfl) dX11_copy_66 (fun H locs hw => ?_)
            exact hret r36 _ _ _ _ _ (g_i1 hf) (congrArg (fun t => mw ty ad t wr) (g_i2 hf)) hw dX11_copy_69
        · have hf := g_t c28 hf
          exact B43 σ18 _ _ _ (lv_sub hl [0] rfl) hw hf
    · have hf := g_f (bI_z c24) hf
      refine lv_iconst (v := (-1)) hx hb dX11_copy_19 (by decide) ?_
      exact hret (-1) _ _ _ _ _ (g_i1 hf) (congrArg (fun t => mw ty ad t wr) (g_i2 hf)) hw dX11_copy_20

abbrev rm_mm_begins : Room := { frames := 0, cells := 0, slots := 0, locals := 0 }
set_option maxHeartbeats 4000000 in
set_option maxRecDepth 100000 in
theorem cmm_begins {l : Launch} {D : va_G} {ty : gT} {A : Nat → Prop} {ad : Nat → Nat} {wr : va_W} {x1 : Int32} {σ : gS} {σ' : gS} (hf : mm_begins σ x1 = some ((), σ')) : gV l D ty A yX11_begins wsX11_begins rm_mm_begins [.ref (ad 0), .int x1] (mw ty ad σ wr) (mw ty ad σ' wr) := by
  refine gV_enter (cc := cX11_begins) (maxL := 2) (by decide) rfl (Nat.le_of_ble_eq_true rfl) ?_
  intro p e s m args below meth c Q ls F hl hw hret
  have F : CallFix p m c cX11_begins 2 s args wsX11_begins RX11 := F
  obtain ⟨hx, hb, hml, hown, hts⟩ := id F
  have hl : lv_has ls 2 [(0, .ref (ad 0)), (1, .int x1)] := hl
  have hin : ∀ w ∈ wsX110, w ∈ wsX11_begins := by first | exact fun w h => List.mem_cons_of_mem _ (List.mem_append_right _ h) | decide +kernel
  have kf214 := hts (.fieldLink RX11 214 "GossipGateModel" "trace" "I") (by decide +kernel)
  unfold mm_begins at hf
  refine lv_aload_n hx hb dX11_begins_0 rfl (lv_at hl 0 rfl) ?_
  refine lv_bipush (v := 31) hx hb dX11_begins_1 (by decide) ?_
  refine lv_aload_n hx hb dX11_begins_3 rfl (lv_at hl 0 rfl) ?_
  refine mw_get_1 F hin hw kf214 dX11_begins_4 ?_
  refine lv_imul hx hb dX11_begins_7 ?_
  refine lv_iload_n hx hb dX11_begins_8 rfl (lv_at hl 1 rfl) ?_
  refine lv_iadd hx hb dX11_begins_9 ?_
  refine mw_put_1 F hin hw kf214 dX11_begins_10 (fun H locs hw => ?_)
  obtain ⟨σ1, eσ1, hf⟩ := g_let hf
  have hw := mw_re eσ1 hw
  exact hret _ _ _ _ _ (congrArg (fun t => mw ty ad t wr) (g_i2 hf)) hw dX11_begins_13

abbrev rm_mm_tell : Room := { frames := 1, cells := 0, slots := 0, locals := 21 }
set_option maxHeartbeats 4000000 in
set_option maxRecDepth 100000 in
theorem cmm_tell {l : Launch} {D : va_G} {ty : gT} {A : Nat → Prop} {ad : Nat → Nat} {wr : va_W} {x1 : Int32} {σ : gS} {r : Int32} {σ' : gS} (hf : mm_tell σ x1 = some (r, σ')) : gI l D ty A yX11_tell wsX11_tell rm_mm_tell [.ref (ad 0), .int x1] (mw ty ad σ wr) r (mw ty ad σ' wr) := by
  refine gI_enter (cc := cX11_tell) (maxL := 3) (by decide) rfl (Nat.le_of_ble_eq_true rfl) ?_
  intro p e s m args below meth c Q ls F hl hw hret
  have F : CallFix p m c cX11_tell 3 s args wsX11_tell RX11 := F
  obtain ⟨hx, hb, hml, hown, hts⟩ := id F
  have hl : lv_has ls 3 [(0, .ref (ad 0)), (1, .int x1)] := hl
  have hin : ∀ w ∈ wsX110, w ∈ wsX11_tell := by first | exact fun w h => List.mem_cons_of_mem _ (List.mem_append_right _ h) | decide +kernel
  have kf19 := hts (.fieldLink RX11 19 "GossipGateModel" "kind" "[I") (by decide +kernel)
  have kf22 := hts (.fieldLink RX11 22 "GossipGateModel" "rateOf" "[I") (by decide +kernel)
  unfold mm_tell at hf
  refine lv_aload_n hx hb dX11_tell_0 rfl (lv_at hl 0 rfl) ?_
  refine lv_iload_n hx hb dX11_tell_1 rfl (lv_at hl 1 rfl) ?_
  obtain ⟨r2, h1, hf⟩ := g_b1 hf
  refine g_cI F (As := [.int x1]) (rest := []) (cmm_isGate h1) (cwV 1 hts gX11_tell_X11_isGate rfl rfl rfl (by decide +kernel) ⟨Nat.le_of_ble_eq_true rfl, Nat.le_of_ble_eq_true rfl⟩) hw (hw.recv (ci := 11) (q0 := 0) rfl rfl rfl) rfl hl.1 rfl (Nat.le_of_ble_eq_true rfl) dX11_tell_2 (fun H locs hw => ?_)
  refine lv_if_ne (tgt := 10) hx hb dX11_tell_5 (by decide) (fun c3 => ?_) (fun c3 => ?_)
  · have hf := g_t (bI_nz c3) hf
    refine lv_aload_n hx hb dX11_tell_10 rfl (lv_at hl 0 rfl) ?_
    refine mw_get_9 F hin hw kf22 dX11_tell_11 ?_
    refine lv_iload_n hx hb dX11_tell_14 rfl (lv_at hl 1 rfl) ?_
    obtain ⟨g4, hf⟩ := g_g hf
    refine mw_ld_9 F hw g4 dX11_tell_15 ?_
    obtain ⟨y5, ey5, hf⟩ := g_let hf
    refine g_nm ey5 ?_
    refine lv_istore_n (lv' := [(2, .int y5), (0, .ref (ad 0)), (1, .int x1)]) hx hb dX11_tell_16 rfl hl (by decide) rfl (fun ls hl => ?_)
    refine lv_aload_n hx hb dX11_tell_17 rfl (lv_at hl 1 rfl) ?_
    refine mw_get_8 F hin hw kf19 dX11_tell_18 ?_
    refine lv_iload_n hx hb dX11_tell_21 rfl (lv_at hl 2 rfl) ?_
    refine mw_ld_8 F hw g4 dX11_tell_22 ?_
    by_cases c6 : (σ.2 8 x1.toNatClampNeg) = 1
    · have hf := g_t c6 hf
      refine lv_lookup (off := 25) (tgt := 48) hx hb dX11_tell_23 (by decide) (by rw [c6]; decide) (by decide) ?_
      refine lv_aload_n hx hb dX11_tell_48 rfl (lv_at hl 1 rfl) ?_
      refine lv_iconst (v := 2) hx hb dX11_tell_49 (by decide) ?_
      obtain ⟨r8, σ9, h7, hf⟩ := g_b2 hf
      refine g_cV F (As := [.int 2]) (rest := []) (cmm_begins h7) (cwV 1 hts gX11_tell_X11_begins rfl rfl rfl (by decide +kernel) ⟨Nat.le_of_ble_eq_true rfl, Nat.le_of_ble_eq_true rfl⟩) hw (hw.recv (ci := 11) (q0 := 0) rfl rfl rfl) rfl hl.1 rfl (Nat.le_of_ble_eq_true rfl) dX11_tell_50 (fun H locs hw => ?_)
      refine lv_aload_n hx hb dX11_tell_53 rfl (lv_at hl 1 rfl) ?_
      refine lv_iconst (v := 1) hx hb dX11_tell_54 (by decide) ?_
      obtain ⟨r11, σ12, h10, hf⟩ := g_b2 hf
      refine g_cV F (As := [.int 1]) (rest := []) (cmm_begins h10) (cwV 1 hts gX11_tell_X11_begins rfl rfl rfl (by decide +kernel) ⟨Nat.le_of_ble_eq_true rfl, Nat.le_of_ble_eq_true rfl⟩) hw (hw.recv (ci := 11) (q0 := 0) rfl rfl rfl) rfl hl.1 rfl (Nat.le_of_ble_eq_true rfl) dX11_tell_55 (fun H locs hw => ?_)
      refine lv_iload_n hx hb dX11_tell_58 rfl (lv_at hl 0 rfl) ?_
      refine lv_bipush (v := 100) hx hb dX11_tell_59 (by decide) ?_
      refine lv_iadd hx hb dX11_tell_61 ?_
      exact hret (y5 + 100) _ _ _ _ _ (g_i1 hf) (congrArg (fun t => mw ty ad t wr) (g_i2 hf)) hw dX11_tell_62
    have hf := g_f c6 hf
    by_cases c13 : (σ.2 8 x1.toNatClampNeg) = 2
    · have hf := g_t c13 hf
      refine lv_lookup (off := 40) (tgt := 63) hx hb dX11_tell_23 (by decide) (by rw [c13]; decide) (by decide) ?_
      refine lv_aload_n hx hb dX11_tell_63 rfl (lv_at hl 1 rfl) ?_
      refine lv_iconst (v := 3) hx hb dX11_tell_64 (by decide) ?_
      obtain ⟨r15, σ16, h14, hf⟩ := g_b2 hf
      refine g_cV F (As := [.int 3]) (rest := []) (cmm_begins h14) (cwV 1 hts gX11_tell_X11_begins rfl rfl rfl (by decide +kernel) ⟨Nat.le_of_ble_eq_true rfl, Nat.le_of_ble_eq_true rfl⟩) hw (hw.recv (ci := 11) (q0 := 0) rfl rfl rfl) rfl hl.1 rfl (Nat.le_of_ble_eq_true rfl) dX11_tell_65 (fun H locs hw => ?_)
      refine lv_aload_n hx hb dX11_tell_68 rfl (lv_at hl 1 rfl) ?_
      refine lv_iconst (v := 2) hx hb dX11_tell_69 (by decide) ?_
      obtain ⟨r18, σ19, h17, hf⟩ := g_b2 hf
      refine g_cV F (As := [.int 2]) (rest := []) (cmm_begins h17) (cwV 1 hts gX11_tell_X11_begins rfl rfl rfl (by decide +kernel) ⟨Nat.le_of_ble_eq_true rfl, Nat.le_of_ble_eq_true rfl⟩) hw (hw.recv (ci := 11) (q0 := 0) rfl rfl rfl) rfl hl.1 rfl (Nat.le_of_ble_eq_true rfl) dX11_tell_70 (fun H locs hw => ?_)
      refine lv_aload_n hx hb dX11_tell_73 rfl (lv_at hl 1 rfl) ?_
      refine lv_iconst (v := 1) hx hb dX11_tell_74 (by decide) ?_
      obtain ⟨r21, σ22, h20, hf⟩ := g_b2 hf
      refine g_cV F (As := [.int 1]) (rest := []) (cmm_begins h20) (cwV 1 hts gX11_tell_X11_begins rfl rfl rfl (by decide +kernel) ⟨Nat.le_of_ble_eq_true rfl, Nat.le_of_ble_eq_true rfl⟩) hw (hw.recv (ci := 11) (q0 := 0) rfl rfl rfl) rfl hl.1 rfl (Nat.le_of_ble_eq_true rfl) dX11_tell_75 (fun H locs hw => ?_)
      refine lv_aload_n hx hb dX11_tell_78 rfl (lv_at hl 1 rfl) ?_
      refine lv_iconst (v := 1) hx hb dX11_tell_79 (by decide) ?_
      obtain ⟨r24, σ25, h23, hf⟩ := g_b2 hf
      refine g_cV F (As := [.int 1]) (rest := []) (cmm_begins h23) (cwV 1 hts gX11_tell_X11_begins rfl rfl rfl (by decide +kernel) ⟨Nat.le_of_ble_eq_true rfl, Nat.le_of_ble_eq_true rfl⟩) hw (hw.recv (ci := 11) (q0 := 0) rfl rfl rfl) rfl hl.1 rfl (Nat.le_of_ble_eq_true rfl) dX11_tell_80 (fun H locs hw => ?_)
      refine lv_iconst (v := 2) hx hb dX11_tell_83 (by decide) ?_
      refine lv_iload_n hx hb dX11_tell_84 rfl (lv_at hl 0 rfl) ?_
      refine lv_imul hx hb dX11_tell_85 ?_
      refine lv_bipush (v := 100) hx hb dX11_tell_86 (by decide) ?_
      refine lv_iadd hx hb dX11_tell_88 ?_
      exact hret (((2 : Int32) * y5) + 100) _ _ _ _ _ (g_i1 hf) (congrArg (fun t => mw ty ad t wr) (g_i2 hf)) hw dX11_tell_89
    have hf := g_f c13 hf
    refine lv_lookup (off := 67) (tgt := 90) hx hb dX11_tell_23 (by decide) (by have tc6 := g_ti (k := 1) 1 (by decide) c6; have tc13 := g_ti (k := 2) 2 (by decide) c13; simp [Op.lookupswitch.offset_cons, Op.lookupswitch.offset_nil]; omega) (by decide) ?_
    refine lv_aload_n hx hb dX11_tell_90 rfl (lv_at hl 1 rfl) ?_
    refine lv_iconst (v := 1) hx hb dX11_tell_91 (by decide) ?_
    obtain ⟨r27, σ28, h26, hf⟩ := g_b2 hf
    refine g_cV F (As := [.int 1]) (rest := []) (cmm_begins h26) (cwV 1 hts gX11_tell_X11_begins rfl rfl rfl (by decide +kernel) ⟨Nat.le_of_ble_eq_true rfl, Nat.le_of_ble_eq_true rfl⟩) hw (hw.recv (ci := 11) (q0 := 0) rfl rfl rfl) rfl hl.1 rfl (Nat.le_of_ble_eq_true rfl) dX11_tell_92 (fun H locs hw => ?_)
    refine lv_iload_n hx hb dX11_tell_95 rfl (lv_at hl 0 rfl) ?_
    exact hret y5 _ _ _ _ _ (g_i1 hf) (congrArg (fun t => mw ty ad t wr) (g_i2 hf)) hw dX11_tell_96
  · have hf := g_f (bI_z c3) hf
    refine lv_iconst (v := (-1)) hx hb dX11_tell_8 (by decide) ?_
    exact hret (-1) _ _ _ _ _ (g_i1 hf) (congrArg (fun t => mw ty ad t wr) (g_i2 hf)) hw dX11_tell_9

abbrev rm_mm_knock : Room := { frames := 1, cells := 0, slots := 0, locals := 21 }
set_option maxHeartbeats 4000000 in
set_option maxRecDepth 100000 in
theorem cmm_knock {l : Launch} {D : va_G} {ty : gT} {A : Nat → Prop} {ad : Nat → Nat} {wr : va_W} {x1 : Int32} {σ : gS} {r : Int32} {σ' : gS} (hf : mm_knock σ x1 = some (r, σ')) : gI l D ty A yX11_knock wsX11_knock rm_mm_knock [.ref (ad 0), .int x1] (mw ty ad σ wr) r (mw ty ad σ' wr) := by
  refine gI_enter (cc := cX11_knock) (maxL := 2) (by decide) rfl (Nat.le_of_ble_eq_true rfl) ?_
  intro p e s m args below meth c Q ls F hl hw hret
  have F : CallFix p m c cX11_knock 2 s args wsX11_knock RX11 := F
  obtain ⟨hx, hb, hml, hown, hts⟩ := id F
  have hl : lv_has ls 2 [(0, .ref (ad 0)), (1, .int x1)] := hl
  have hin : ∀ w ∈ wsX110, w ∈ wsX11_knock := by first | exact fun w h => List.mem_cons_of_mem _ (List.mem_append_right _ h) | decide +kernel
  have kf19 := hts (.fieldLink RX11 19 "GossipGateModel" "kind" "[I") (by decide +kernel)
  have B26 : ∀ (v1 : Int32) (s1 : Int32) (σ : gS) (H : Heap) (locs : List Loc) (ls : Array Slot), lv_has ls 2 [(0, .ref (ad 0)), (1, .int v1)] → gW D ty A (mw ty ad σ wr) s s.heap H locs → mm_knock_b26 v1 s1 σ = some (r, σ') → W p l e rm_mm_knock s m args below meth c H locs 0 0 Q (F0 m 26 ls [.int s1, .ref (ad 0)]) := by
    intro v1 s1 σ H locs ls hl hw hf
    unfold mm_knock_b26 at hf
    obtain ⟨r2, σ3, h1, hf⟩ := g_b2 hf
    refine g_cV F (As := [.int s1]) (rest := []) (cmm_begins h1) (cwV 1 hts gX11_knock_X11_begins rfl rfl rfl (by decide +kernel) ⟨Nat.le_of_ble_eq_true rfl, Nat.le_of_ble_eq_true rfl⟩) hw (hw.recv (ci := 11) (q0 := 0) rfl rfl rfl) rfl hl.1 rfl (Nat.le_of_ble_eq_true rfl) dX11_knock_26 (fun H locs hw => ?_)
    refine lv_aload_n hx hb dX11_knock_29 rfl (lv_at hl 0 rfl) ?_
    refine mw_get_8 F hin hw kf19 dX11_knock_30 ?_
    refine lv_iload_n hx hb dX11_knock_33 rfl (lv_at hl 1 rfl) ?_
    obtain ⟨g4, hf⟩ := g_g hf
    refine mw_ld_8 F hw g4 dX11_knock_34 ?_
    refine lv_iconst (v := 2) hx hb dX11_knock_35 (by decide) ?_
    refine lv_icmp_ne (tgt := 44) hx hb dX11_knock_36 (by decide) (fun c5 => ?_) (fun c5 => ?_)
    · have hf := g_f c5 hf
      refine lv_iload_n hx hb dX11_knock_44 rfl (lv_at hl 1 rfl) ?_
      exact hret v1 _ _ _ _ _ (g_i1 hf) (congrArg (fun t => mw ty ad t wr) (g_i2 hf)) hw dX11_knock_45
    · have hf := g_t c5 hf
      refine lv_bipush (v := 90) hx hb dX11_knock_39 (by decide) ?_
      refine lv_goto (tgt := 45) hx hb dX11_knock_41 (by decide) ?_
      exact hret 90 _ _ _ _ _ (g_i1 hf) (congrArg (fun t => mw ty ad t wr) (g_i2 hf)) hw dX11_knock_45
  unfold mm_knock at hf
  refine lv_aload_n hx hb dX11_knock_0 rfl (lv_at hl 0 rfl) ?_
  refine lv_iload_n hx hb dX11_knock_1 rfl (lv_at hl 1 rfl) ?_
  obtain ⟨r7, h6, hf⟩ := g_b1 hf
  refine g_cI F (As := [.int x1]) (rest := []) (cmm_isGate h6) (cwV 1 hts gX11_knock_X11_isGate rfl rfl rfl (by decide +kernel) ⟨Nat.le_of_ble_eq_true rfl, Nat.le_of_ble_eq_true rfl⟩) hw (hw.recv (ci := 11) (q0 := 0) rfl rfl rfl) rfl hl.1 rfl (Nat.le_of_ble_eq_true rfl) dX11_knock_2 (fun H locs hw => ?_)
  refine lv_if_ne (tgt := 10) hx hb dX11_knock_5 (by decide) (fun c8 => ?_) (fun c8 => ?_)
  · have hf := g_t (bI_nz c8) hf
    refine lv_aload_n hx hb dX11_knock_10 rfl (lv_at hl 0 rfl) ?_
    refine lv_aload_n hx hb dX11_knock_11 rfl (lv_at hl 0 rfl) ?_
    refine mw_get_8 F hin hw kf19 dX11_knock_12 ?_
    refine lv_iload_n hx hb dX11_knock_15 rfl (lv_at hl 1 rfl) ?_
    obtain ⟨g9, hf⟩ := g_g hf
    refine mw_ld_8 F hw g9 dX11_knock_16 ?_
    refine lv_iconst (v := 2) hx hb dX11_knock_17 (by decide) ?_
    refine lv_icmp_ne (tgt := 25) hx hb dX11_knock_18 (by decide) (fun c10 => ?_) (fun c10 => ?_)
    · have hf := g_f c10 hf
      refine lv_iconst (v := 4) hx hb dX11_knock_25 (by decide) ?_
      exact B26 x1 4 σ _ _ _ (lv_sub hl [0, 1] rfl) hw hf
    · have hf := g_t c10 hf
      refine lv_iconst (v := 5) hx hb dX11_knock_21 (by decide) ?_
      refine lv_goto (tgt := 26) hx hb dX11_knock_22 (by decide) ?_
      exact B26 x1 5 σ _ _ _ (lv_sub hl [0, 1] rfl) hw hf
  · have hf := g_f (bI_z c8) hf
    refine lv_iconst (v := (-1)) hx hb dX11_knock_8 (by decide) ?_
    exact hret (-1) _ _ _ _ _ (g_i1 hf) (congrArg (fun t => mw ty ad t wr) (g_i2 hf)) hw dX11_knock_9

abbrev rm_mm_as : Room := { frames := 1, cells := 0, slots := 0, locals := 22 }
set_option maxHeartbeats 4000000 in
set_option maxRecDepth 100000 in
theorem cmm_as {l : Launch} {D : va_G} {ty : gT} {A : Nat → Prop} {ad : Nat → Nat} {wr : va_W} {x1 : Int32} {x2 : Int32} {σ : gS} {r : Int32} {σ' : gS} (hf : mm_as σ x1 x2 = some (r, σ')) : gI l D ty A yX11_as wsX11_as rm_mm_as [.ref (ad 0), .int x1, .int x2] (mw ty ad σ wr) r (mw ty ad σ' wr) := by
  refine gI_enter (cc := cX11_as) (maxL := 3) (by decide) rfl (Nat.le_of_ble_eq_true rfl) ?_
  intro p e s m args below meth c Q ls F hl hw hret
  have F : CallFix p m c cX11_as 3 s args wsX11_as RX11 := F
  obtain ⟨hx, hb, hml, hown, hts⟩ := id F
  have hl : lv_has ls 3 [(0, .ref (ad 0)), (1, .int x1), (2, .int x2)] := hl
  have hin : ∀ w ∈ wsX110, w ∈ wsX11_as := by first | exact fun w h => List.mem_cons_of_mem _ (List.mem_append_right _ h) | decide +kernel
  have kf19 := hts (.fieldLink RX11 19 "GossipGateModel" "kind" "[I") (by decide +kernel)
  have kf74 := hts (.fieldLink RX11 74 "GossipGateModel" "fault" "I") (by decide +kernel)
  unfold mm_as at hf
  refine lv_aload_n hx hb dX11_as_0 rfl (lv_at hl 0 rfl) ?_
  refine lv_iconst (v := 0) hx hb dX11_as_1 (by decide) ?_
  refine mw_put_0 F hin hw kf74 dX11_as_2 (fun H locs hw => ?_)
  obtain ⟨σ1, eσ1, hf⟩ := g_let hf
  have hw := mw_re eσ1 hw
  refine lv_aload_n hx hb dX11_as_5 rfl (lv_at hl 0 rfl) ?_
  refine lv_iload_n hx hb dX11_as_6 rfl (lv_at hl 1 rfl) ?_
  obtain ⟨r3, h2, hf⟩ := g_b1 hf
  refine g_cI F (As := [.int x1]) (rest := []) (cmm_isGate h2) (cwV 1 hts gX11_as_X11_isGate rfl rfl rfl (by decide +kernel) ⟨Nat.le_of_ble_eq_true rfl, Nat.le_of_ble_eq_true rfl⟩) hw (hw.recv (ci := 11) (q0 := 0) rfl rfl rfl) rfl hl.1 rfl (Nat.le_of_ble_eq_true rfl) dX11_as_7 (fun H locs hw => ?_)
  refine lv_if_ne (tgt := 15) hx hb dX11_as_10 (by decide) (fun c4 => ?_) (fun c4 => ?_)
  · have hf := g_t (bI_nz c4) hf
    refine lv_iload_n hx hb dX11_as_15 rfl (lv_at hl 2 rfl) ?_
    refine lv_iconst (v := 0) hx hb dX11_as_16 (by decide) ?_
    refine lv_iconst (v := 2) hx hb dX11_as_17 (by decide) ?_
    obtain ⟨r6, h5, hf⟩ := g_b1 hf
    refine g_sI F (As := [.int x2, .int 0, .int 2]) (rest := []) (cmm_within h5) (va_cwS 3 hts gX11_as_X11_within rfl rfl rfl (by decide +kernel) ⟨Nat.le_of_ble_eq_true rfl, Nat.le_of_ble_eq_true rfl⟩) hw rfl hl.1 rfl (Nat.le_of_ble_eq_true rfl) dX11_as_18 (fun H locs hw => ?_)
    refine lv_if_ne (tgt := 27) hx hb dX11_as_21 (by decide) (fun c7 => ?_) (fun c7 => ?_)
    · have hf := g_t (bI_nz c7) hf
      refine lv_aload_n hx hb dX11_as_27 rfl (lv_at hl 0 rfl) ?_
      refine mw_get_8 F hin hw kf19 dX11_as_28 ?_
      refine lv_iload_n hx hb dX11_as_31 rfl (lv_at hl 1 rfl) ?_
      obtain ⟨g8, hf⟩ := g_g hf
      refine mw_ld_8 F hw g8 dX11_as_32 ?_
      refine lv_iload_n hx hb dX11_as_33 rfl (lv_at hl 2 rfl) ?_
      refine lv_icmp_lt (tgt := 41) hx hb dX11_as_34 (by decide) (fun c9 => ?_) (fun c9 => ?_)
      · have hf := g_t c9 hf
        refine lv_aload_n hx hb dX11_as_41 rfl (lv_at hl 0 rfl) ?_
        refine lv_iconst (v := 2) hx hb dX11_as_42 (by decide) ?_
        obtain ⟨r11, σ12, h10, hf⟩ := g_b2 hf
        refine g_cI F (As := [.int 2]) (rest := []) (cmm_fails h10) (cwV 1 hts gX11_as_X11_fails rfl rfl rfl (by decide +kernel) ⟨Nat.le_of_ble_eq_true rfl, Nat.le_of_ble_eq_true rfl⟩) hw (hw.recv (ci := 11) (q0 := 0) rfl rfl rfl) rfl hl.1 rfl (Nat.le_of_ble_eq_true rfl) dX11_as_43 (fun H locs hw => ?_)
        exact hret r11 _ _ _ _ _ (g_i1 hf) (congrArg (fun t => mw ty ad t wr) (g_i2 hf)) hw dX11_as_46
      · have hf := g_f c9 hf
        refine lv_iconst (v := 1) hx hb dX11_as_37 (by decide) ?_
        refine lv_goto (tgt := 46) hx hb dX11_as_38 (by decide) ?_
        exact hret 1 _ _ _ _ _ (g_i1 hf) (congrArg (fun t => mw ty ad t wr) (g_i2 hf)) hw dX11_as_46
    · have hf := g_f (bI_z c7) hf
      refine lv_bipush (v := (-2)) hx hb dX11_as_24 (by decide) ?_
      exact hret (-2) _ _ _ _ _ (g_i1 hf) (congrArg (fun t => mw ty ad t wr) (g_i2 hf)) hw dX11_as_26
  · have hf := g_f (bI_z c4) hf
    refine lv_iconst (v := (-1)) hx hb dX11_as_13 (by decide) ?_
    exact hret (-1) _ _ _ _ _ (g_i1 hf) (congrArg (fun t => mw ty ad t wr) (g_i2 hf)) hw dX11_as_14

abbrev rm_mm_trace : Room := { frames := 0, cells := 0, slots := 0, locals := 0 }
set_option maxHeartbeats 4000000 in
set_option maxRecDepth 100000 in
theorem cmm_trace {l : Launch} {D : va_G} {ty : gT} {A : Nat → Prop} {ad : Nat → Nat} {wr : va_W} {σ : gS} {r : Int32} (hf : mm_trace σ = some r) : gI l D ty A yX11_trace wsX11_trace rm_mm_trace [.ref (ad 0)] (mw ty ad σ wr) r (mw ty ad σ wr) := by
  refine gI_enter (cc := cX11_trace) (maxL := 1) (by decide) rfl (Nat.le_of_ble_eq_true rfl) ?_
  intro p e s m args below meth c Q ls F hl hw hret
  have F : CallFix p m c cX11_trace 1 s args wsX11_trace RX11 := F
  obtain ⟨hx, hb, hml, hown, hts⟩ := id F
  have hl : lv_has ls 1 [(0, .ref (ad 0))] := hl
  have hin : ∀ w ∈ wsX110, w ∈ wsX11_trace := by first | exact fun w h => List.mem_cons_of_mem _ (List.mem_append_right _ h) | decide +kernel
  have kf214 := hts (.fieldLink RX11 214 "GossipGateModel" "trace" "I") (by decide +kernel)
  unfold mm_trace at hf
  refine lv_aload_n hx hb dX11_trace_0 rfl (lv_at hl 0 rfl) ?_
  refine mw_get_1 F hin hw kf214 dX11_trace_1 ?_
  exact hret (σ.1 1) _ _ _ _ _ (Option.some.inj hf) rfl hw dX11_trace_4

abbrev rm_mm_fault : Room := { frames := 0, cells := 0, slots := 0, locals := 0 }
set_option maxHeartbeats 4000000 in
set_option maxRecDepth 100000 in
theorem cmm_fault {l : Launch} {D : va_G} {ty : gT} {A : Nat → Prop} {ad : Nat → Nat} {wr : va_W} {σ : gS} {r : Int32} (hf : mm_fault σ = some r) : gI l D ty A yX11_fault wsX11_fault rm_mm_fault [.ref (ad 0)] (mw ty ad σ wr) r (mw ty ad σ wr) := by
  refine gI_enter (cc := cX11_fault) (maxL := 1) (by decide) rfl (Nat.le_of_ble_eq_true rfl) ?_
  intro p e s m args below meth c Q ls F hl hw hret
  have F : CallFix p m c cX11_fault 1 s args wsX11_fault RX11 := F
  obtain ⟨hx, hb, hml, hown, hts⟩ := id F
  have hl : lv_has ls 1 [(0, .ref (ad 0))] := hl
  have hin : ∀ w ∈ wsX110, w ∈ wsX11_fault := by first | exact fun w h => List.mem_cons_of_mem _ (List.mem_append_right _ h) | decide +kernel
  have kf74 := hts (.fieldLink RX11 74 "GossipGateModel" "fault" "I") (by decide +kernel)
  unfold mm_fault at hf
  refine lv_aload_n hx hb dX11_fault_0 rfl (lv_at hl 0 rfl) ?_
  refine mw_get_0 F hin hw kf74 dX11_fault_1 ?_
  exact hret (σ.1 0) _ _ _ _ _ (Option.some.inj hf) rfl hw dX11_fault_4

abbrev rm_mm_many : Room := { frames := 0, cells := 0, slots := 0, locals := 0 }
set_option maxHeartbeats 4000000 in
set_option maxRecDepth 100000 in
theorem cmm_many {l : Launch} {D : va_G} {ty : gT} {A : Nat → Prop} {ad : Nat → Nat} {wr : va_W} {x1 : Int32} {σ : gS} {r : Int32} (hf : mm_many σ x1 = some r) : gI l D ty A yX11_many wsX11_many rm_mm_many [.ref (ad 0), .int x1] (mw ty ad σ wr) r (mw ty ad σ wr) := by
  refine gI_enter (cc := cX11_many) (maxL := 2) (by decide) rfl (Nat.le_of_ble_eq_true rfl) ?_
  intro p e s m args below meth c Q ls F hl hw hret
  have F : CallFix p m c cX11_many 2 s args wsX11_many RX11 := F
  obtain ⟨hx, hb, hml, hown, hts⟩ := id F
  have hl : lv_has ls 2 [(0, .ref (ad 0)), (1, .int x1)] := hl
  have hin : ∀ w ∈ wsX110, w ∈ wsX11_many := by first | exact fun w h => List.mem_cons_of_mem _ (List.mem_append_right _ h) | decide +kernel
  have kf116 := hts (.fieldLink RX11 116 "GossipGateModel" "harmless" "I") (by decide +kernel)
  have kf119 := hts (.fieldLink RX11 119 "GossipGateModel" "readings" "I") (by decide +kernel)
  have kf83 := hts (.fieldLink RX11 83 "GossipGateModel" "gates" "I") (by decide +kernel)
  have kf86 := hts (.fieldLink RX11 86 "GossipGateModel" "stories" "I") (by decide +kernel)
  unfold mm_many at hf
  refine lv_iload_n hx hb dX11_many_0 rfl (lv_at hl 1 rfl) ?_
  refine lv_if_ne (tgt := 11) hx hb dX11_many_1 (by decide) (fun c1 => ?_) (fun c1 => ?_)
  · have hf := g_f c1 hf
    refine lv_iload_n hx hb dX11_many_11 rfl (lv_at hl 1 rfl) ?_
    refine lv_iconst (v := 1) hx hb dX11_many_12 (by decide) ?_
    refine lv_icmp_ne (tgt := 23) hx hb dX11_many_13 (by decide) (fun c2 => ?_) (fun c2 => ?_)
    · have hf := g_f c2 hf
      refine lv_iload_n hx hb dX11_many_23 rfl (lv_at hl 1 rfl) ?_
      refine lv_iconst (v := 2) hx hb dX11_many_24 (by decide) ?_
      refine lv_icmp_ne (tgt := 35) hx hb dX11_many_25 (by decide) (fun c3 => ?_) (fun c3 => ?_)
      · have hf := g_f c3 hf
        refine lv_iload_n hx hb dX11_many_35 rfl (lv_at hl 1 rfl) ?_
        refine lv_iconst (v := 3) hx hb dX11_many_36 (by decide) ?_
        refine lv_icmp_ne (tgt := 47) hx hb dX11_many_37 (by decide) (fun c4 => ?_) (fun c4 => ?_)
        · have hf := g_f c4 hf
          refine lv_bipush (v := (-2)) hx hb dX11_many_47 (by decide) ?_
          exact hret (-2) _ _ _ _ _ (Option.some.inj hf) rfl hw dX11_many_49
        · have hf := g_t c4 hf
          refine lv_aload_n hx hb dX11_many_40 rfl (lv_at hl 0 rfl) ?_
          refine mw_get_31 F hin hw kf119 dX11_many_41 ?_
          refine lv_goto (tgt := 49) hx hb dX11_many_44 (by decide) ?_
          exact hret (σ.1 31) _ _ _ _ _ (Option.some.inj hf) rfl hw dX11_many_49
      · have hf := g_t c3 hf
        refine lv_aload_n hx hb dX11_many_28 rfl (lv_at hl 0 rfl) ?_
        refine mw_get_7 F hin hw kf116 dX11_many_29 ?_
        refine lv_goto (tgt := 49) hx hb dX11_many_32 (by decide) ?_
        exact hret (σ.1 7) _ _ _ _ _ (Option.some.inj hf) rfl hw dX11_many_49
    · have hf := g_t c2 hf
      refine lv_aload_n hx hb dX11_many_16 rfl (lv_at hl 0 rfl) ?_
      refine mw_get_5 F hin hw kf83 dX11_many_17 ?_
      refine lv_goto (tgt := 49) hx hb dX11_many_20 (by decide) ?_
      exact hret (σ.1 5) _ _ _ _ _ (Option.some.inj hf) rfl hw dX11_many_49
  · have hf := g_t c1 hf
    refine lv_aload_n hx hb dX11_many_4 rfl (lv_at hl 0 rfl) ?_
    refine mw_get_6 F hin hw kf86 dX11_many_5 ?_
    refine lv_goto (tgt := 49) hx hb dX11_many_8 (by decide) ?_
    exact hret (σ.1 6) _ _ _ _ _ (Option.some.inj hf) rfl hw dX11_many_49
