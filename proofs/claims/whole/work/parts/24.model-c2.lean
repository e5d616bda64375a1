abbrev rm_mm_isPlace : Room := { frames := 1, cells := 0, slots := 0, locals := 22 }
set_option maxHeartbeats 4000000 in
set_option maxRecDepth 100000 in
theorem cmm_isPlace {l : Launch} {D : va_G} {ty : gT} {A : Nat → Prop} {ad : Nat → Nat} {wr : va_W} {x1 : Int32} {x2 : Int32} {x3 : Int32} {σ : gS} {r : Bool} (hf : mm_isPlace σ x1 x2 x3 = some r) : gI l D ty A yX11_isPlace wsX11_isPlace rm_mm_isPlace [.ref (ad 0), .int x1, .int x2, .int x3] (mw ty ad σ wr) (bI r) (mw ty ad σ wr) := by
  refine gZ_enter (cc := cX11_isPlace) (maxL := 4) (by decide) rfl (Nat.le_of_ble_eq_true rfl) ?_
  intro p e s m args below meth c Q ls F hl hw hret
  have F : CallFix p m c cX11_isPlace 4 s args wsX11_isPlace RX11 := F
  obtain ⟨hx, hb, hml, hown, hts⟩ := id F
  have hl : lv_has ls 4 [(0, .ref (ad 0)), (1, .int x1), (2, .int x2), (3, .int x3)] := hl
  have hin : ∀ w ∈ wsX110, w ∈ wsX11_isPlace := by first | exact fun w h => List.mem_cons_of_mem _ (List.mem_append_right _ h) | decide +kernel
  have kf34 := hts (.fieldLink RX11 34 "GossipGateModel" "born" "[I") (by decide +kernel)
  have kf37 := hts (.fieldLink RX11 37 "GossipGateModel" "shut" "I") (by decide +kernel)
  unfold mm_isPlace at hf
  refine lv_iload_n hx hb dX11_isPlace_0 rfl (lv_at hl 3 rfl) ?_
  refine lv_bipush (v := 10) hx hb dX11_isPlace_1 (by decide) ?_
  refine lv_idiv hx hb dX11_isPlace_3 (by decide) ?_
  refine lv_aload_n hx hb dX11_isPlace_4 rfl (lv_at hl 0 rfl) ?_
  refine mw_get_14 F hin hw kf37 dX11_isPlace_5 ?_
  refine lv_icmp_eq (tgt := 32) hx hb dX11_isPlace_8 (by decide) (fun c1 => ?_) (fun c1 => ?_)
  · have hf := g_t c1 hf
    refine lv_iconst (v := 0) hx hb dX11_isPlace_32 (by decide) ?_
    exact hret false _ _ _ _ _ (Option.some.inj hf) rfl hw dX11_isPlace_33
  · have hf := g_f c1 hf
    refine lv_iload_n hx hb dX11_isPlace_11 rfl (lv_at hl 3 rfl) ?_
    refine lv_bipush (v := 10) hx hb dX11_isPlace_12 (by decide) ?_
    refine lv_irem hx hb dX11_isPlace_14 (by decide) ?_
    refine lv_aload_n hx hb dX11_isPlace_15 rfl (lv_at hl 0 rfl) ?_
    refine mw_get_13 F hin hw kf34 dX11_isPlace_16 ?_
    refine lv_iload_n hx hb dX11_isPlace_19 rfl (lv_at hl 1 rfl) ?_
    obtain ⟨g2, hf⟩ := g_g hf
    refine mw_ld_13 F hw g2 dX11_isPlace_20 ?_
    refine lv_iload_n hx hb dX11_isPlace_21 rfl (lv_at hl 2 rfl) ?_
    obtain ⟨r4, h3, hf⟩ := g_b1 hf
    refine g_sI F (As := [.int (x3 - x3 / 10 * 10), .int (σ.2 13 x1.toNatClampNeg), .int x2]) (rest := []) (cmm_within h3) (va_cwS 3 hts gX11_isPlace_X11_within rfl rfl rfl (by decide +kernel) ⟨Nat.le_of_ble_eq_true rfl, Nat.le_of_ble_eq_true rfl⟩) hw rfl hl.1 rfl (Nat.le_of_ble_eq_true rfl) dX11_isPlace_22 (fun H locs hw => ?_)
    refine lv_if_eq (tgt := 32) hx hb dX11_isPlace_25 (by decide) (fun c5 => ?_) (fun c5 => ?_)
    · have hf := g_f (bI_z c5) hf
      refine lv_iconst (v := 0) hx hb dX11_isPlace_32 (by decide) ?_
      exact hret false _ _ _ _ _ (Option.some.inj hf) rfl hw dX11_isPlace_33
    · have hf := g_t (bI_nz c5) hf
      refine lv_iconst (v := 1) hx hb dX11_isPlace_28 (by decide) ?_
      refine lv_goto (tgt := 33) hx hb dX11_isPlace_29 (by decide) ?_
      exact hret true _ _ _ _ _ (Option.some.inj hf) rfl hw dX11_isPlace_33

abbrev rm_mm_findLeast : Room := { frames := 4, cells := 0, slots := 0, locals := 99 }
set_option maxHeartbeats 4000000 in
set_option maxRecDepth 100000 in
theorem cmm_findLeast {l : Launch} {D : va_G} {ty : gT} {A : Nat → Prop} {ad : Nat → Nat} {wr : va_W} {x1 : Int32} {x2 : Int32} {σ : gS} {r : Int32} {σ' : gS} (hf : mm_findLeast σ x1 x2 = some (r, σ')) : gI l D ty A yX11_findLeast wsX11_findLeast rm_mm_findLeast [.ref (ad 0), .int x1, .int x2] (mw ty ad σ wr) r (mw ty ad σ' wr) := by
  refine gI_enter (cc := cX11_findLeast) (maxL := 8) (by decide) rfl (Nat.le_of_ble_eq_true rfl) ?_
  intro p e s m args below meth c Q ls F hl hw hret
  have F : CallFix p m c cX11_findLeast 8 s args wsX11_findLeast RX11 := F
  obtain ⟨hx, hb, hml, hown, hts⟩ := id F
  have hl : lv_has ls 8 [(0, .ref (ad 0)), (1, .int x1), (2, .int x2)] := hl
  have hin : ∀ w ∈ wsX110, w ∈ wsX11_findLeast := by first | exact fun w h => List.mem_cons_of_mem _ (List.mem_append_right _ h) | decide +kernel
  have kf186 := hts (.fieldLink RX11 186 "GossipGateModel" "foundA" "I") (by decide +kernel)
  have kf189 := hts (.fieldLink RX11 189 "GossipGateModel" "foundB" "I") (by decide +kernel)
  have kf192 := hts (.fieldLink RX11 192 "GossipGateModel" "foundC" "I") (by decide +kernel)
  have kf83 := hts (.fieldLink RX11 83 "GossipGateModel" "gates" "I") (by decide +kernel)
  have B6 : ∀ (n6 : Nat) (v1 : Int32) (v2 : Int32) (v3 : Int32) (v4 : Int32) (σ : gS) (H : Heap) (locs : List Loc) (ls : Array Slot), lv_has ls 8 [(0, .ref (ad 0)), (1, .int v1), (2, .int v2), (3, .int v3), (4, .int v4)] → gW D ty A (mw ty ad σ wr) s s.heap H locs → mm_findLeast_b6 n6 v1 v2 v3 v4 σ = some (r, σ') → W p l e rm_mm_findLeast s m args below meth c H locs 0 0 Q (F0 m 6 ls []) := by
    intro n6
    induction n6 with
    | zero => intro v1 v2 v3 v4 σ H locs ls hl hw hf; cases hf
    | succ n6 ih6 =>
      have B139 : ∀ (v1 : Int32) (v2 : Int32) (v3 : Int32) (v4 : Int32) (σ : gS) (H : Heap) (locs : List Loc) (ls : Array Slot), lv_has ls 8 [(0, .ref (ad 0)), (1, .int v1), (2, .int v2), (3, .int v3), (4, .int v4)] → gW D ty A (mw ty ad σ wr) s s.heap H locs → mm_findLeast_b139 (mm_findLeast_b6 n6) v1 v2 v3 v4 σ = some (r, σ') → W p l e rm_mm_findLeast s m args below meth c H locs 0 0 Q (F0 m 139 ls []) := by
        intro v1 v2 v3 v4 σ H locs ls hl hw hf
        unfold mm_findLeast_b139 at hf
        refine lv_iinc (v := v4 + 1) (lv' := [(4, .int (v4 + 1)), (0, .ref (ad 0)), (1, .int v1), (2, .int v2), (3, .int v3)]) hx hb dX11_findLeast_139 hl (k := 4) rfl rfl (by decide) rfl (fun ls hl => ?_)
        refine lv_goto (tgt := 6) hx hb dX11_findLeast_142 (by decide) ?_
        exact ih6 v1 v2 v3 (v4 + 1) σ _ _ _ (lv_sub hl [1, 2, 3, 4, 0] rfl) hw hf
      have B21 : ∀ (n21 : Nat) (v1 : Int32) (v2 : Int32) (v3 : Int32) (v4 : Int32) (v5 : Int32) (σ : gS) (H : Heap) (locs : List Loc) (ls : Array Slot), lv_has ls 8 [(0, .ref (ad 0)), (1, .int v1), (2, .int v2), (3, .int v3), (4, .int v4), (5, .int v5)] → gW D ty A (mw ty ad σ wr) s s.heap H locs → mm_findLeast_b21 (mm_findLeast_b6 n6) n21 v1 v2 v3 v4 v5 σ = some (r, σ') → W p l e rm_mm_findLeast s m args below meth c H locs 0 0 Q (F0 m 21 ls []) := by
        intro n21
        induction n21 with
        | zero => intro v1 v2 v3 v4 v5 σ H locs ls hl hw hf; cases hf
        | succ n21 ih21 =>
          have B133 : ∀ (v1 : Int32) (v2 : Int32) (v3 : Int32) (v4 : Int32) (v5 : Int32) (σ : gS) (H : Heap) (locs : List Loc) (ls : Array Slot), lv_has ls 8 [(0, .ref (ad 0)), (1, .int v1), (2, .int v2), (3, .int v3), (4, .int v4), (5, .int v5)] → gW D ty A (mw ty ad σ wr) s s.heap H locs → mm_findLeast_b133 (mm_findLeast_b6 n6) (mm_findLeast_b21 (mm_findLeast_b6 n6) n21) v1 v2 v3 v4 v5 σ = some (r, σ') → W p l e rm_mm_findLeast s m args below meth c H locs 0 0 Q (F0 m 133 ls []) := by
            intro v1 v2 v3 v4 v5 σ H locs ls hl hw hf
            unfold mm_findLeast_b133 at hf
            refine lv_iinc (v := v5 + 1) (lv' := [(5, .int (v5 + 1)), (0, .ref (ad 0)), (1, .int v1), (2, .int v2), (3, .int v3), (4, .int v4)]) hx hb dX11_findLeast_133 hl (k := 5) rfl rfl (by decide) rfl (fun ls hl => ?_)
            refine lv_goto (tgt := 21) hx hb dX11_findLeast_136 (by decide) ?_
            exact ih21 v1 v2 v3 v4 (v5 + 1) σ _ _ _ (lv_sub hl [1, 2, 3, 4, 5, 0] rfl) hw hf
          have B47 : ∀ (n47 : Nat) (v1 : Int32) (v2 : Int32) (v3 : Int32) (v4 : Int32) (v5 : Int32) (v6 : Int32) (σ : gS) (H : Heap) (locs : List Loc) (ls : Array Slot), lv_has ls 8 [(0, .ref (ad 0)), (1, .int v1), (2, .int v2), (3, .int v3), (4, .int v4), (5, .int v5), (6, .int v6)] → gW D ty A (mw ty ad σ wr) s s.heap H locs → mm_findLeast_b47 (mm_findLeast_b6 n6) (mm_findLeast_b21 (mm_findLeast_b6 n6) n21) n47 v1 v2 v3 v4 v5 v6 σ = some (r, σ') → W p l e rm_mm_findLeast s m args below meth c H locs 0 0 Q (F0 m 47 ls []) := by
            intro n47
            induction n47 with
            | zero => intro v1 v2 v3 v4 v5 v6 σ H locs ls hl hw hf; cases hf
            | succ n47 ih47 =>
              have B127 : ∀ (v1 : Int32) (v2 : Int32) (v3 : Int32) (v4 : Int32) (v5 : Int32) (v6 : Int32) (σ : gS) (H : Heap) (locs : List Loc) (ls : Array Slot), lv_has ls 8 [(0, .ref (ad 0)), (1, .int v1), (2, .int v2), (3, .int v3), (4, .int v4), (5, .int v5), (6, .int v6)] → gW D ty A (mw ty ad σ wr) s s.heap H locs → mm_findLeast_b127 (mm_findLeast_b6 n6) (mm_findLeast_b21 (mm_findLeast_b6 n6) n21) (mm_findLeast_b47 (mm_findLeast_b6 n6) (mm_findLeast_b21 (mm_findLeast_b6 n6) n21) n47) v1 v2 v3 v4 v5 v6 σ = some (r, σ') → W p l e rm_mm_findLeast s m args below meth c H locs 0 0 Q (F0 m 127 ls []) := by
                intro v1 v2 v3 v4 v5 v6 σ H locs ls hl hw hf
                unfold mm_findLeast_b127 at hf
                refine lv_iinc (v := v6 + 1) (lv' := [(6, .int (v6 + 1)), (0, .ref (ad 0)), (1, .int v1), (2, .int v2), (3, .int v3), (4, .int v4), (5, .int v5)]) hx hb dX11_findLeast_127 hl (k := 6) rfl rfl (by decide) rfl (fun ls hl => ?_)
                refine lv_goto (tgt := 47) hx hb dX11_findLeast_130 (by decide) ?_
                exact ih47 v1 v2 v3 v4 v5 (v6 + 1) σ _ _ _ (lv_sub hl [1, 2, 3, 4, 5, 6, 0] rfl) hw hf
              have B106 : ∀ (v1 : Int32) (v2 : Int32) (v4 : Int32) (v5 : Int32) (v6 : Int32) (v7 : Int32) (σ : gS) (H : Heap) (locs : List Loc) (ls : Array Slot), lv_has ls 8 [(0, .ref (ad 0)), (1, .int v1), (2, .int v2), (4, .int v4), (5, .int v5), (6, .int v6), (7, .int v7)] → gW D ty A (mw ty ad σ wr) s s.heap H locs → mm_findLeast_b106 (mm_findLeast_b6 n6) (mm_findLeast_b21 (mm_findLeast_b6 n6) n21) (mm_findLeast_b47 (mm_findLeast_b6 n6) (mm_findLeast_b21 (mm_findLeast_b6 n6) n21) n47) v1 v2 v4 v5 v6 v7 σ = some (r, σ') → W p l e rm_mm_findLeast s m args below meth c H locs 0 0 Q (F0 m 106 ls []) := by
                intro v1 v2 v4 v5 v6 v7 σ H locs ls hl hw hf
                unfold mm_findLeast_b106 at hf
                refine lv_iload hx hb dX11_findLeast_106 (lv_at hl 6 rfl) ?_
                refine lv_istore_n (lv' := [(3, .int v7), (0, .ref (ad 0)), (1, .int v1), (2, .int v2), (4, .int v4), (5, .int v5), (6, .int v6), (7, .int v7)]) hx hb dX11_findLeast_108 rfl hl (by decide) rfl (fun ls hl => ?_)
                refine lv_aload_n hx hb dX11_findLeast_109 rfl (lv_at hl 1 rfl) ?_
                refine lv_iload hx hb dX11_findLeast_110 (lv_at hl 4 rfl) ?_
                refine mw_put_28 F hin hw kf186 dX11_findLeast_112 (fun H locs hw => ?_)
                obtain ⟨σ1, eσ1, hf⟩ := g_let hf
                have hw := mw_re eσ1 hw
                refine lv_aload_n hx hb dX11_findLeast_115 rfl (lv_at hl 1 rfl) ?_
                refine lv_iload hx hb dX11_findLeast_116 (lv_at hl 5 rfl) ?_
                refine mw_put_29 F hin hw kf189 dX11_findLeast_118 (fun H locs hw => ?_)
                obtain ⟨σ2, eσ2, hf⟩ := g_let hf
                have hw := mw_re eσ2 hw
                refine lv_aload_n hx hb dX11_findLeast_121 rfl (lv_at hl 1 rfl) ?_
                refine lv_iload hx hb dX11_findLeast_122 (lv_at hl 6 rfl) ?_
                refine mw_put_30 F hin hw kf192 dX11_findLeast_124 (fun H locs hw => ?_)
                obtain ⟨σ3, eσ3, hf⟩ := g_let hf
                have hw := mw_re eσ3 hw
                exact B127 v1 v2 v7 v4 v5 v6 σ3 _ _ _ (lv_sub hl [1, 2, 3, 0, 4, 5, 6] rfl) hw hf
              intro v1 v2 v3 v4 v5 v6 σ H locs ls hl hw hf
              rw [mm_findLeast_b47] at hf
              refine lv_iload hx hb dX11_findLeast_47 (lv_at hl 6 rfl) ?_
              refine lv_bipush (v := 10) hx hb dX11_findLeast_49 (by decide) ?_
              refine lv_aload_n hx hb dX11_findLeast_51 rfl (lv_at hl 0 rfl) ?_
              refine mw_get_5 F hin hw kf83 dX11_findLeast_52 ?_
              refine lv_imul hx hb dX11_findLeast_55 ?_
              refine lv_icmp_ge (tgt := 133) hx hb dX11_findLeast_56 (by decide) (fun c4 => ?_) (fun c4 => ?_)
              · have hf := g_t c4 hf
                exact B133 v1 v2 v3 v4 v5 σ _ _ _ (lv_sub hl [0, 1, 2, 3, 4, 5] rfl) hw hf
              · have hf := g_f c4 hf
                refine lv_aload_n hx hb dX11_findLeast_59 rfl (lv_at hl 0 rfl) ?_
                refine lv_iload_n hx hb dX11_findLeast_60 rfl (lv_at hl 1 rfl) ?_
                refine lv_iload_n hx hb dX11_findLeast_61 rfl (lv_at hl 2 rfl) ?_
                refine lv_iload hx hb dX11_findLeast_62 (lv_at hl 5 rfl) ?_
                obtain ⟨r6, h5, hf⟩ := g_b1 hf
                refine g_cI F (As := [.int v1, .int v2, .int v5]) (rest := []) (cmm_isPlace h5) (cwV 3 hts gX11_findLeast_X11_isPlace rfl rfl rfl (by decide +kernel) ⟨Nat.le_of_ble_eq_true rfl, Nat.le_of_ble_eq_true rfl⟩) hw (hw.recv (ci := 11) (q0 := 0) rfl rfl rfl) rfl hl.1 rfl (Nat.le_of_ble_eq_true rfl) dX11_findLeast_64 (fun H locs hw => ?_)
                refine lv_if_eq (tgt := 133) hx hb dX11_findLeast_67 (by decide) (fun c7 => ?_) (fun c7 => ?_)
                · have hf := g_f (bI_z c7) hf
                  exact B133 v1 v2 v3 v4 v5 σ _ _ _ (lv_sub hl [0, 1, 2, 3, 4, 5] rfl) hw hf
                · have hf := g_t (bI_nz c7) hf
                  refine lv_aload_n hx hb dX11_findLeast_70 rfl (lv_at hl 0 rfl) ?_
                  refine lv_iload_n hx hb dX11_findLeast_71 rfl (lv_at hl 1 rfl) ?_
                  refine lv_iload_n hx hb dX11_findLeast_72 rfl (lv_at hl 2 rfl) ?_
                  refine lv_iload hx hb dX11_findLeast_73 (lv_at hl 6 rfl) ?_
                  obtain ⟨r9, h8, hf⟩ := g_b1 hf
                  refine g_cI F (As := [.int v1, .int v2, .int v6]) (rest := []) (cmm_isPlace h8) (cwV 3 hts gX11_findLeast_X11_isPlace rfl rfl rfl (by decide +kernel) ⟨Nat.le_of_ble_eq_true rfl, Nat.le_of_ble_eq_true rfl⟩) hw (hw.recv (ci := 11) (q0 := 0) rfl rfl rfl) rfl hl.1 rfl (Nat.le_of_ble_eq_true rfl) dX11_findLeast_75 (fun H locs hw => ?_)
                  refine lv_if_eq (tgt := 127) hx hb dX11_findLeast_78 (by decide) (fun c10 => ?_) (fun c10 => ?_)
                  · have hf := g_f (bI_z c10) hf
                    exact B127 v1 v2 v3 v4 v5 v6 σ _ _ _ (lv_sub hl [0, 1, 2, 3, 4, 5, 6] rfl) hw hf
                  · have hf := g_t (bI_nz c10) hf
                    refine lv_aload_n hx hb dX11_findLeast_81 rfl (lv_at hl 0 rfl) ?_
                    refine lv_iload_n hx hb dX11_findLeast_82 rfl (lv_at hl 1 rfl) ?_
                    refine lv_iload hx hb dX11_findLeast_83 (lv_at hl 4 rfl) ?_
                    refine lv_iload hx hb dX11_findLeast_85 (lv_at hl 5 rfl) ?_
                    refine lv_iload hx hb dX11_findLeast_87 (lv_at hl 6 rfl) ?_
                    obtain ⟨r12, h11, hf⟩ := g_b1 hf
                    refine g_cI F (As := [.int v1, .int v4, .int v5, .int v6]) (rest := []) (cmm_paid h11) (cwV 4 hts gX11_findLeast_X11_paid rfl rfl rfl (by decide +kernel) ⟨Nat.le_of_ble_eq_true rfl, Nat.le_of_ble_eq_true rfl⟩) hw (hw.recv (ci := 11) (q0 := 0) rfl rfl rfl) rfl hl.1 rfl (Nat.le_of_ble_eq_true rfl) dX11_findLeast_89 (fun H locs hw => ?_)
                    refine lv_istore (lv' := [(7, .int r12), (0, .ref (ad 0)), (1, .int v1), (2, .int v2), (3, .int v3), (4, .int v4), (5, .int v5), (6, .int v6)]) hx hb dX11_findLeast_92 hl (by decide) rfl (fun ls hl => ?_)
                    refine lv_iload_n hx hb dX11_findLeast_94 rfl (lv_at hl 4 rfl) ?_
                    refine lv_bipush (v := (-9)) hx hb dX11_findLeast_95 (by decide) ?_
                    refine lv_icmp_eq (tgt := 106) hx hb dX11_findLeast_97 (by decide) (fun c13 => ?_) (fun c13 => ?_)
                    · have hf := g_t c13 hf
                      exact B106 v1 v2 v4 v5 v6 r12 σ _ _ _ (lv_sub hl [1, 2, 3, 5, 6, 7, 0] rfl) hw hf
                    · have hf := g_f c13 hf
                      refine lv_iload hx hb dX11_findLeast_100 (lv_at hl 0 rfl) ?_
                      refine lv_iload_n hx hb dX11_findLeast_102 rfl (lv_at hl 4 rfl) ?_
                      refine lv_icmp_ge (tgt := 127) hx hb dX11_findLeast_103 (by decide) (fun c14 => ?_) (fun c14 => ?_)
                      · have hf := g_t c14 hf
                        exact B127 v1 v2 v3 v4 v5 v6 σ _ _ _ (lv_sub hl [1, 2, 3, 4, 5, 6, 7] rfl) hw hf
                      · have hf := g_f c14 hf
                        exact B106 v1 v2 v4 v5 v6 r12 σ _ _ _ (lv_sub hl [1, 2, 3, 5, 6, 7, 0] rfl) hw hf
          intro v1 v2 v3 v4 v5 σ H locs ls hl hw hf
          rw [mm_findLeast_b21] at hf
          refine lv_iload hx hb dX11_findLeast_21 (lv_at hl 5 rfl) ?_
          refine lv_bipush (v := 10) hx hb dX11_findLeast_23 (by decide) ?_
          refine lv_aload_n hx hb dX11_findLeast_25 rfl (lv_at hl 0 rfl) ?_
          refine mw_get_5 F hin hw kf83 dX11_findLeast_26 ?_
          refine lv_imul hx hb dX11_findLeast_29 ?_
          refine lv_icmp_ge (tgt := 139) hx hb dX11_findLeast_30 (by decide) (fun c15 => ?_) (fun c15 => ?_)
          · have hf := g_t c15 hf
            exact B139 v1 v2 v3 v4 σ _ _ _ (lv_sub hl [0, 1, 2, 3, 4] rfl) hw hf
          · have hf := g_f c15 hf
            refine lv_aload_n hx hb dX11_findLeast_33 rfl (lv_at hl 0 rfl) ?_
            refine lv_iload_n hx hb dX11_findLeast_34 rfl (lv_at hl 1 rfl) ?_
            refine lv_iload_n hx hb dX11_findLeast_35 rfl (lv_at hl 2 rfl) ?_
            refine lv_iload hx hb dX11_findLeast_36 (lv_at hl 4 rfl) ?_
            obtain ⟨r17, h16, hf⟩ := g_b1 hf
            refine g_cI F (As := [.int v1, .int v2, .int v4]) (rest := []) (cmm_isPlace h16) (cwV 3 hts gX11_findLeast_X11_isPlace rfl rfl rfl (by decide +kernel) ⟨Nat.le_of_ble_eq_true rfl, Nat.le_of_ble_eq_true rfl⟩) hw (hw.recv (ci := 11) (q0 := 0) rfl rfl rfl) rfl hl.1 rfl (Nat.le_of_ble_eq_true rfl) dX11_findLeast_38 (fun H locs hw => ?_)
            refine lv_if_eq (tgt := 139) hx hb dX11_findLeast_41 (by decide) (fun c18 => ?_) (fun c18 => ?_)
            · have hf := g_f (bI_z c18) hf
              exact B139 v1 v2 v3 v4 σ _ _ _ (lv_sub hl [0, 1, 2, 3, 4] rfl) hw hf
            · have hf := g_t (bI_nz c18) hf
              refine lv_iconst (v := 0) hx hb dX11_findLeast_44 (by decide) ?_
              refine lv_istore (lv' := [(6, .int 0), (0, .ref (ad 0)), (1, .int v1), (2, .int v2), (3, .int v3), (4, .int v4), (5, .int v5)]) hx hb dX11_findLeast_45 hl (by decide) rfl (fun ls hl => ?_)
              exact B47 1000 v1 v2 v3 v4 v5 0 σ _ _ _ (lv_sub hl [1, 2, 3, 4, 5, 6, 0] rfl) hw hf
      intro v1 v2 v3 v4 σ H locs ls hl hw hf
      rw [mm_findLeast_b6] at hf
      refine lv_iload hx hb dX11_findLeast_6 (lv_at hl 4 rfl) ?_
      refine lv_bipush (v := 10) hx hb dX11_findLeast_8 (by decide) ?_
      refine lv_aload_n hx hb dX11_findLeast_10 rfl (lv_at hl 0 rfl) ?_
      refine mw_get_5 F hin hw kf83 dX11_findLeast_11 ?_
      refine lv_imul hx hb dX11_findLeast_14 ?_
      refine lv_icmp_ge (tgt := 145) hx hb dX11_findLeast_15 (by decide) (fun c19 => ?_) (fun c19 => ?_)
      · have hf := g_t c19 hf
        refine lv_iload_n hx hb dX11_findLeast_145 rfl (lv_at hl 3 rfl) ?_
        exact hret v3 _ _ _ _ _ (g_i1 hf) (congrArg (fun t => mw ty ad t wr) (g_i2 hf)) hw dX11_findLeast_146
      · have hf := g_f c19 hf
        refine lv_iconst (v := 0) hx hb dX11_findLeast_18 (by decide) ?_
        refine lv_istore (lv' := [(5, .int 0), (0, .ref (ad 0)), (1, .int v1), (2, .int v2), (3, .int v3), (4, .int v4)]) hx hb dX11_findLeast_19 hl (by decide) rfl (fun ls hl => ?_)
        exact B21 1000 v1 v2 v3 v4 0 σ _ _ _ (lv_sub hl [1, 2, 3, 4, 5, 0] rfl) hw hf
  unfold mm_findLeast at hf
  refine lv_bipush (v := (-9)) hx hb dX11_findLeast_0 (by decide) ?_
  refine lv_istore_n (lv' := [(3, .int (-9)), (0, .ref (ad 0)), (1, .int x1), (2, .int x2)]) hx hb dX11_findLeast_2 rfl hl (by decide) rfl (fun ls hl => ?_)
  refine lv_iconst (v := 0) hx hb dX11_findLeast_3 (by decide) ?_
  refine lv_istore (lv' := [(4, .int 0), (3, .int (-9)), (0, .ref (ad 0)), (1, .int x1), (2, .int x2)]) hx hb dX11_findLeast_4 hl (by decide) rfl (fun ls hl => ?_)
  exact B6 1000 x1 x2 (-9) 0 σ _ _ _ (lv_sub hl [2, 3, 4, 1, 0] rfl) hw hf

abbrev rm_mm_least : Room := { frames := 5, cells := 0, slots := 0, locals := 126 }
set_option maxHeartbeats 4000000 in
set_option maxRecDepth 100000 in
theorem cmm_least {l : Launch} {D : va_G} {ty : gT} {A : Nat → Prop} {ad : Nat → Nat} {wr : va_W} {x1 : Int32} {x2 : Int32} {x3 : Int32} {σ : gS} {r : Int32} {σ' : gS} (hf : mm_least σ x1 x2 x3 = some (r, σ')) : gI l D ty A yX11_least wsX11_least rm_mm_least [.ref (ad 0), .int x1, .int x2, .int x3] (mw ty ad σ wr) r (mw ty ad σ' wr) := by
  refine gI_enter (cc := cX11_least) (maxL := 5) (by decide) rfl (Nat.le_of_ble_eq_true rfl) ?_
  intro p e s m args below meth c Q ls F hl hw hret
  have F : CallFix p m c cX11_least 5 s args wsX11_least RX11 := F
  obtain ⟨hx, hb, hml, hown, hts⟩ := id F
  have hl : lv_has ls 5 [(0, .ref (ad 0)), (1, .int x1), (2, .int x2), (3, .int x3)] := hl
  have hin : ∀ w ∈ wsX110, w ∈ wsX11_least := by first | exact fun w h => List.mem_cons_of_mem _ (List.mem_append_right _ h) | decide +kernel
  have kf186 := hts (.fieldLink RX11 186 "GossipGateModel" "foundA" "I") (by decide +kernel)
  have kf189 := hts (.fieldLink RX11 189 "GossipGateModel" "foundB" "I") (by decide +kernel)
  have kf192 := hts (.fieldLink RX11 192 "GossipGateModel" "foundC" "I") (by decide +kernel)
  unfold mm_least at hf
  refine lv_aload_n hx hb dX11_least_0 rfl (lv_at hl 0 rfl) ?_
  refine lv_iload_n hx hb dX11_least_1 rfl (lv_at hl 1 rfl) ?_
  obtain ⟨r2, h1, hf⟩ := g_b1 hf
  refine g_cI F (As := [.int x1]) (rest := []) (cmm_isStory h1) (cwV 1 hts gX11_least_X11_isStory rfl rfl rfl (by decide +kernel) ⟨Nat.le_of_ble_eq_true rfl, Nat.le_of_ble_eq_true rfl⟩) hw (hw.recv (ci := 11) (q0 := 0) rfl rfl rfl) rfl hl.1 rfl (Nat.le_of_ble_eq_true rfl) dX11_least_2 (fun H locs hw => ?_)
  refine lv_if_ne (tgt := 10) hx hb dX11_least_5 (by decide) (fun c3 => ?_) (fun c3 => ?_)
  · have hf := g_t (bI_nz c3) hf
    refine lv_iload_n hx hb dX11_least_10 rfl (lv_at hl 2 rfl) ?_
    obtain ⟨r5, h4, hf⟩ := g_b1 hf
    refine g_sI F (As := [.int x2]) (rest := []) (cmm_isDay h4) (va_cwS 1 hts gX11_least_X11_isDay rfl rfl rfl (by decide +kernel) ⟨Nat.le_of_ble_eq_true rfl, Nat.le_of_ble_eq_true rfl⟩) hw rfl hl.1 rfl (Nat.le_of_ble_eq_true rfl) dX11_least_11 (fun H locs hw => ?_)
    refine lv_if_eq (tgt := 26) hx hb dX11_least_14 (by decide) (fun c6 => ?_) (fun c6 => ?_)
    · have hf := g_f (bI_z c6) hf
      refine lv_bipush (v := (-2)) hx hb dX11_least_26 (by decide) ?_
      exact hret (-2) _ _ _ _ _ (g_i1 hf) (congrArg (fun t => mw ty ad t wr) (g_i2 hf)) hw dX11_least_28
    · have hf := g_t (bI_nz c6) hf
      refine lv_iload_n hx hb dX11_least_17 rfl (lv_at hl 3 rfl) ?_
      refine lv_iconst (v := (-1)) hx hb dX11_least_18 (by decide) ?_
      refine lv_iconst (v := 2) hx hb dX11_least_19 (by decide) ?_
      obtain ⟨r8, h7, hf⟩ := g_b1 hf
      refine g_sI F (As := [.int x3, .int (-1), .int 2]) (rest := []) (cmm_within h7) (va_cwS 3 hts gX11_least_X11_within rfl rfl rfl (by decide +kernel) ⟨Nat.le_of_ble_eq_true rfl, Nat.le_of_ble_eq_true rfl⟩) hw rfl hl.1 rfl (Nat.le_of_ble_eq_true rfl) dX11_least_20 (fun H locs hw => ?_)
      refine lv_if_ne (tgt := 29) hx hb dX11_least_23 (by decide) (fun c9 => ?_) (fun c9 => ?_)
      · have hf := g_t (bI_nz c9) hf
        refine lv_aload_n hx hb dX11_least_29 rfl (lv_at hl 0 rfl) ?_
        refine lv_iload_n hx hb dX11_least_30 rfl (lv_at hl 1 rfl) ?_
        refine lv_iload_n hx hb dX11_least_31 rfl (lv_at hl 2 rfl) ?_
        obtain ⟨r11, σ12, h10, hf⟩ := g_b2 hf
        refine g_cI F (As := [.int x1, .int x2]) (rest := []) (cmm_findLeast h10) (cwV 2 hts gX11_least_X11_findLeast rfl rfl rfl (by decide +kernel) ⟨Nat.le_of_ble_eq_true rfl, Nat.le_of_ble_eq_true rfl⟩) hw (hw.recv (ci := 11) (q0 := 0) rfl rfl rfl) rfl hl.1 rfl (Nat.le_of_ble_eq_true rfl) dX11_least_32 (fun H locs hw => ?_)
        refine lv_istore (lv' := [(4, .int r11), (0, .ref (ad 0)), (1, .int x1), (2, .int x2), (3, .int x3)]) hx hb dX11_least_35 hl (by decide) rfl (fun ls hl => ?_)
        refine lv_iload_n hx hb dX11_least_37 rfl (lv_at hl 4 rfl) ?_
        refine lv_iconst (v := (-1)) hx hb dX11_least_38 (by decide) ?_
        refine lv_icmp_eq (tgt := 49) hx hb dX11_least_39 (by decide) (fun c13 => ?_) (fun c13 => ?_)
        · have hf := g_t c13 hf
          refine lv_iload hx hb dX11_least_49 (lv_at hl 0 rfl) ?_
          exact hret r11 _ _ _ _ _ (g_i1 hf) (congrArg (fun t => mw ty ad t wr) (g_i2 hf)) hw dX11_least_51
        · have hf := g_f c13 hf
          refine lv_iload hx hb dX11_least_42 (lv_at hl 0 rfl) ?_
          refine lv_bipush (v := (-9)) hx hb dX11_least_44 (by decide) ?_
          refine lv_icmp_ne (tgt := 52) hx hb dX11_least_46 (by decide) (fun c14 => ?_) (fun c14 => ?_)
          · have hf := g_f c14 hf
            refine lv_iload_n hx hb dX11_least_52 rfl (lv_at hl 4 rfl) ?_
            refine lv_if_ne (tgt := 63) hx hb dX11_least_53 (by decide) (fun c15 => ?_) (fun c15 => ?_)
            · have hf := g_f c15 hf
              refine lv_iload_n hx hb dX11_least_63 rfl (lv_at hl 4 rfl) ?_
              refine lv_iconst (v := 1) hx hb dX11_least_64 (by decide) ?_
              refine lv_icmp_ne (tgt := 75) hx hb dX11_least_65 (by decide) (fun c16 => ?_) (fun c16 => ?_)
              · have hf := g_f c16 hf
                refine lv_aload_n hx hb dX11_least_75 rfl (lv_at hl 1 rfl) ?_
                refine mw_get_30 F hin hw kf192 dX11_least_76 ?_
                exact hret (σ12.1 30) _ _ _ _ _ (g_i1 hf) (congrArg (fun t => mw ty ad t wr) (g_i2 hf)) hw dX11_least_79
              · have hf := g_t c16 hf
                refine lv_aload_n hx hb dX11_least_68 rfl (lv_at hl 1 rfl) ?_
                refine mw_get_29 F hin hw kf189 dX11_least_69 ?_
                refine lv_goto (tgt := 79) hx hb dX11_least_72 (by decide) ?_
                exact hret (σ12.1 29) _ _ _ _ _ (g_i1 hf) (congrArg (fun t => mw ty ad t wr) (g_i2 hf)) hw dX11_least_79
            · have hf := g_t c15 hf
              refine lv_aload_n hx hb dX11_least_56 rfl (lv_at hl 1 rfl) ?_
              refine mw_get_28 F hin hw kf186 dX11_least_57 ?_
              refine lv_goto (tgt := 79) hx hb dX11_least_60 (by decide) ?_
              exact hret (σ12.1 28) _ _ _ _ _ (g_i1 hf) (congrArg (fun t => mw ty ad t wr) (g_i2 hf)) hw dX11_least_79
          · have hf := g_t c14 hf
            refine lv_iload hx hb dX11_least_49 (lv_at hl 0 rfl) ?_
            exact hret r11 _ _ _ _ _ (g_i1 hf) (congrArg (fun t => mw ty ad t wr) (g_i2 hf)) hw dX11_least_51
      · have hf := g_f (bI_z c9) hf
        refine lv_bipush (v := (-2)) hx hb dX11_least_26 (by decide) ?_
        exact hret (-2) _ _ _ _ _ (g_i1 hf) (congrArg (fun t => mw ty ad t wr) (g_i2 hf)) hw dX11_least_28
  · have hf := g_f (bI_z c3) hf
    refine lv_iconst (v := (-1)) hx hb dX11_least_8 (by decide) ?_
    exact hret (-1) _ _ _ _ _ (g_i1 hf) (congrArg (fun t => mw ty ad t wr) (g_i2 hf)) hw dX11_least_9

abbrev rm_mm_free : Room := { frames := 5, cells := 0, slots := 0, locals := 126 }
set_option maxHeartbeats 4000000 in
set_option maxRecDepth 100000 in
theorem cmm_free {l : Launch} {D : va_G} {ty : gT} {A : Nat → Prop} {ad : Nat → Nat} {wr : va_W} {x1 : Int32} {σ : gS} {r : Int32} {σ' : gS} (hf : mm_free σ x1 = some (r, σ')) : gI l D ty A yX11_free wsX11_free rm_mm_free [.ref (ad 0), .int x1] (mw ty ad σ wr) r (mw ty ad σ' wr) := by
  refine gI_enter (cc := cX11_free) (maxL := 3) (by decide) rfl (Nat.le_of_ble_eq_true rfl) ?_
  intro p e s m args below meth c Q ls F hl hw hret
  have F : CallFix p m c cX11_free 3 s args wsX11_free RX11 := F
  obtain ⟨hx, hb, hml, hown, hts⟩ := id F
  have hl : lv_has ls 3 [(0, .ref (ad 0)), (1, .int x1)] := hl
  have hin : ∀ w ∈ wsX110, w ∈ wsX11_free := by first | exact fun w h => List.mem_cons_of_mem _ (List.mem_append_right _ h) | decide +kernel
  have kf34 := hts (.fieldLink RX11 34 "GossipGateModel" "born" "[I") (by decide +kernel)
  have B17 : ∀ (n17 : Nat) (v1 : Int32) (v2 : Int32) (σ : gS) (H : Heap) (locs : List Loc) (ls : Array Slot), lv_has ls 3 [(0, .ref (ad 0)), (1, .int v1), (2, .int v2)] → gW D ty A (mw ty ad σ wr) s s.heap H locs → mm_free_b17 n17 v1 v2 σ = some (r, σ') → W p l e rm_mm_free s m args below meth c H locs 0 0 Q (F0 m 17 ls []) := by
    intro n17
    induction n17 with
    | zero => intro v1 v2 σ H locs ls hl hw hf; cases hf
    | succ n17 ih17 =>
      intro v1 v2 σ H locs ls hl hw hf
      rw [mm_free_b17] at hf
      refine lv_iload_n hx hb dX11_free_17 rfl (lv_at hl 2 rfl) ?_
      refine lv_bipush (v := 8) hx hb dX11_free_18 (by decide) ?_
      refine lv_icmp_ge (tgt := 40) hx hb dX11_free_20 (by decide) (fun c1 => ?_) (fun c1 => ?_)
      · have hf := g_t c1 hf
        refine lv_bipush (v := (-9)) hx hb dX11_free_40 (by decide) ?_
        exact hret (-9) _ _ _ _ _ (g_i1 hf) (congrArg (fun t => mw ty ad t wr) (g_i2 hf)) hw dX11_free_42
      · have hf := g_f c1 hf
        refine lv_aload_n hx hb dX11_free_23 rfl (lv_at hl 0 rfl) ?_
        refine lv_iload_n hx hb dX11_free_24 rfl (lv_at hl 1 rfl) ?_
        refine lv_iload_n hx hb dX11_free_25 rfl (lv_at hl 2 rfl) ?_
        obtain ⟨r3, σ4, h2, hf⟩ := g_b2 hf
        refine g_cI F (As := [.int v1, .int v2]) (rest := []) (cmm_findLeast h2) (cwV 2 hts gX11_free_X11_findLeast rfl rfl rfl (by decide +kernel) ⟨Nat.le_of_ble_eq_true rfl, Nat.le_of_ble_eq_true rfl⟩) hw (hw.recv (ci := 11) (q0 := 0) rfl rfl rfl) rfl hl.1 rfl (Nat.le_of_ble_eq_true rfl) dX11_free_26 (fun H locs hw => ?_)
        refine lv_if_ne (tgt := 34) hx hb dX11_free_29 (by decide) (fun c5 => ?_) (fun c5 => ?_)
        · have hf := g_f c5 hf
          refine lv_iinc (v := v2 + 1) (lv' := [(2, .int (v2 + 1)), (0, .ref (ad 0)), (1, .int v1)]) hx hb dX11_free_34 hl (k := 2) rfl rfl (by decide) rfl (fun ls hl => ?_)
          refine lv_goto (tgt := 17) hx hb dX11_free_37 (by decide) ?_
          exact ih17 v1 (v2 + 1) σ4 _ _ _ (lv_sub hl [1, 2, 0] rfl) hw hf
        · have hf := g_t c5 hf
          refine lv_iload_n hx hb dX11_free_32 rfl (lv_at hl 2 rfl) ?_
          exact hret v2 _ _ _ _ _ (g_i1 hf) (congrArg (fun t => mw ty ad t wr) (g_i2 hf)) hw dX11_free_33
  unfold mm_free at hf
  refine lv_aload_n hx hb dX11_free_0 rfl (lv_at hl 0 rfl) ?_
  refine lv_iload_n hx hb dX11_free_1 rfl (lv_at hl 1 rfl) ?_
  obtain ⟨r7, h6, hf⟩ := g_b1 hf
  refine g_cI F (As := [.int x1]) (rest := []) (cmm_isStory h6) (cwV 1 hts gX11_free_X11_isStory rfl rfl rfl (by decide +kernel) ⟨Nat.le_of_ble_eq_true rfl, Nat.le_of_ble_eq_true rfl⟩) hw (hw.recv (ci := 11) (q0 := 0) rfl rfl rfl) rfl hl.1 rfl (Nat.le_of_ble_eq_true rfl) dX11_free_2 (fun H locs hw => ?_)
  refine lv_if_ne (tgt := 10) hx hb dX11_free_5 (by decide) (fun c8 => ?_) (fun c8 => ?_)
  · have hf := g_t (bI_nz c8) hf
    refine lv_aload_n hx hb dX11_free_10 rfl (lv_at hl 0 rfl) ?_
    refine mw_get_13 F hin hw kf34 dX11_free_11 ?_
    refine lv_iload_n hx hb dX11_free_14 rfl (lv_at hl 1 rfl) ?_
    obtain ⟨g9, hf⟩ := g_g hf
    refine mw_ld_13 F hw g9 dX11_free_15 ?_
    obtain ⟨y10, ey10, hf⟩ := g_let hf
    refine g_nm ey10 ?_
    refine lv_istore_n (lv' := [(2, .int y10), (0, .ref (ad 0)), (1, .int x1)]) hx hb dX11_free_16 rfl hl (by decide) rfl (fun ls hl => ?_)
    exact B17 1000 x1 y10 σ _ _ _ (lv_sub hl [1, 2, 0] rfl) hw hf
  · have hf := g_f (bI_z c8) hf
    refine lv_iconst (v := (-1)) hx hb dX11_free_8 (by decide) ?_
    exact hret (-1) _ _ _ _ _ (g_i1 hf) (congrArg (fun t => mw ty ad t wr) (g_i2 hf)) hw dX11_free_9

abbrev rm_mm_worth : Room := { frames := 5, cells := 0, slots := 0, locals := 126 }
set_option maxHeartbeats 4000000 in
set_option maxRecDepth 100000 in
theorem cmm_worth {l : Launch} {D : va_G} {ty : gT} {A : Nat → Prop} {ad : Nat → Nat} {wr : va_W} {x1 : Int32} {x2 : Int32} {x3 : Int32} {σ : gS} {r : Int32} {σ' : gS} (hf : mm_worth σ x1 x2 x3 = some (r, σ')) : gI l D ty A yX11_worth wsX11_worth rm_mm_worth [.ref (ad 0), .int x1, .int x2, .int x3] (mw ty ad σ wr) r (mw ty ad σ' wr) := by
  refine gI_enter (cc := cX11_worth) (maxL := 6) (by decide) rfl (Nat.le_of_ble_eq_true rfl) ?_
  intro p e s m args below meth c Q ls F hl hw hret
  have F : CallFix p m c cX11_worth 6 s args wsX11_worth RX11 := F
  obtain ⟨hx, hb, hml, hown, hts⟩ := id F
  have hl : lv_has ls 6 [(0, .ref (ad 0)), (1, .int x1), (2, .int x2), (3, .int x3)] := hl
  have hin : ∀ w ∈ wsX110, w ∈ wsX11_worth := by first | exact fun w h => List.mem_cons_of_mem _ (List.mem_append_right _ h) | decide +kernel
  have kf37 := hts (.fieldLink RX11 37 "GossipGateModel" "shut" "I") (by decide +kernel)
  have B69 : ∀  (σ : gS) (H : Heap) (locs : List Loc) (ls : Array Slot), lv_has ls 6 [] → gW D ty A (mw ty ad σ wr) s s.heap H locs → mm_worth_b69 σ = some (r, σ') → W p l e rm_mm_worth s m args below meth c H locs 0 0 Q (F0 m 69 ls []) := by
    intro σ H locs ls hl hw hf
    unfold mm_worth_b69 at hf
    refine lv_bipush (v := (-9)) hx hb dX11_worth_69 (by decide) ?_
    refine lv_goto (tgt := 79) hx hb dX11_worth_71 (by decide) ?_
    exact hret (-9) _ _ _ _ _ (g_i1 hf) (congrArg (fun t => mw ty ad t wr) (g_i2 hf)) hw dX11_worth_79
  unfold mm_worth at hf
  refine lv_aload_n hx hb dX11_worth_0 rfl (lv_at hl 0 rfl) ?_
  refine lv_iload_n hx hb dX11_worth_1 rfl (lv_at hl 1 rfl) ?_
  obtain ⟨r2, h1, hf⟩ := g_b1 hf
  refine g_cI F (As := [.int x1]) (rest := []) (cmm_isGate h1) (cwV 1 hts gX11_worth_X11_isGate rfl rfl rfl (by decide +kernel) ⟨Nat.le_of_ble_eq_true rfl, Nat.le_of_ble_eq_true rfl⟩) hw (hw.recv (ci := 11) (q0 := 0) rfl rfl rfl) rfl hl.1 rfl (Nat.le_of_ble_eq_true rfl) dX11_worth_2 (fun H locs hw => ?_)
  refine lv_if_eq (tgt := 16) hx hb dX11_worth_5 (by decide) (fun c3 => ?_) (fun c3 => ?_)
  · have hf := g_f (bI_z c3) hf
    refine lv_iconst (v := (-1)) hx hb dX11_worth_16 (by decide) ?_
    exact hret (-1) _ _ _ _ _ (g_i1 hf) (congrArg (fun t => mw ty ad t wr) (g_i2 hf)) hw dX11_worth_17
  · have hf := g_t (bI_nz c3) hf
    refine lv_aload_n hx hb dX11_worth_8 rfl (lv_at hl 0 rfl) ?_
    refine lv_iload_n hx hb dX11_worth_9 rfl (lv_at hl 2 rfl) ?_
    obtain ⟨r5, h4, hf⟩ := g_b1 hf
    refine g_cI F (As := [.int x2]) (rest := []) (cmm_isStory h4) (cwV 1 hts gX11_worth_X11_isStory rfl rfl rfl (by decide +kernel) ⟨Nat.le_of_ble_eq_true rfl, Nat.le_of_ble_eq_true rfl⟩) hw (hw.recv (ci := 11) (q0 := 0) rfl rfl rfl) rfl hl.1 rfl (Nat.le_of_ble_eq_true rfl) dX11_worth_10 (fun H locs hw => ?_)
    refine lv_if_ne (tgt := 18) hx hb dX11_worth_13 (by decide) (fun c6 => ?_) (fun c6 => ?_)
    · have hf := g_t (bI_nz c6) hf
      refine lv_iload_n hx hb dX11_worth_18 rfl (lv_at hl 3 rfl) ?_
      obtain ⟨r8, h7, hf⟩ := g_b1 hf
      refine g_sI F (As := [.int x3]) (rest := []) (cmm_isDay h7) (va_cwS 1 hts gX11_worth_X11_isDay rfl rfl rfl (by decide +kernel) ⟨Nat.le_of_ble_eq_true rfl, Nat.le_of_ble_eq_true rfl⟩) hw rfl hl.1 rfl (Nat.le_of_ble_eq_true rfl) dX11_worth_19 (fun H locs hw => ?_)
      refine lv_if_ne (tgt := 28) hx hb dX11_worth_22 (by decide) (fun c9 => ?_) (fun c9 => ?_)
      · have hf := g_t (bI_nz c9) hf
        refine lv_aload_n hx hb dX11_worth_28 rfl (lv_at hl 0 rfl) ?_
        refine lv_iload_n hx hb dX11_worth_29 rfl (lv_at hl 2 rfl) ?_
        refine lv_iload_n hx hb dX11_worth_30 rfl (lv_at hl 3 rfl) ?_
        obtain ⟨r11, σ12, h10, hf⟩ := g_b2 hf
        refine g_cI F (As := [.int x2, .int x3]) (rest := []) (cmm_findLeast h10) (cwV 2 hts gX11_worth_X11_findLeast rfl rfl rfl (by decide +kernel) ⟨Nat.le_of_ble_eq_true rfl, Nat.le_of_ble_eq_true rfl⟩) hw (hw.recv (ci := 11) (q0 := 0) rfl rfl rfl) rfl hl.1 rfl (Nat.le_of_ble_eq_true rfl) dX11_worth_31 (fun H locs hw => ?_)
        refine lv_istore (lv' := [(4, .int r11), (0, .ref (ad 0)), (1, .int x1), (2, .int x2), (3, .int x3)]) hx hb dX11_worth_34 hl (by decide) rfl (fun ls hl => ?_)
        refine lv_aload_n hx hb dX11_worth_36 rfl (lv_at hl 1 rfl) ?_
        refine lv_iload_n hx hb dX11_worth_37 rfl (lv_at hl 2 rfl) ?_
        refine mw_put_14 F hin hw kf37 dX11_worth_38 (fun H locs hw => ?_)
        obtain ⟨σ13, eσ13, hf⟩ := g_let hf
        have hw := mw_re eσ13 hw
        refine lv_aload_n hx hb dX11_worth_41 rfl (lv_at hl 1 rfl) ?_
        refine lv_iload_n hx hb dX11_worth_42 rfl (lv_at hl 3 rfl) ?_
        refine lv_iload_n hx hb dX11_worth_43 rfl (lv_at hl 4 rfl) ?_
        obtain ⟨r15, σ16, h14, hf⟩ := g_b2 hf
        refine g_cI F (As := [.int x2, .int x3]) (rest := []) (cmm_findLeast h14) (cwV 2 hts gX11_worth_X11_findLeast rfl rfl rfl (by decide +kernel) ⟨Nat.le_of_ble_eq_true rfl, Nat.le_of_ble_eq_true rfl⟩) hw (hw.recv (ci := 11) (q0 := 0) rfl rfl rfl) rfl hl.1 rfl (Nat.le_of_ble_eq_true rfl) dX11_worth_44 (fun H locs hw => ?_)
        refine lv_istore (lv' := [(5, .int r15), (4, .int r11), (0, .ref (ad 0)), (1, .int x1), (2, .int x2), (3, .int x3)]) hx hb dX11_worth_47 hl (by decide) rfl (fun ls hl => ?_)
        refine lv_aload_n hx hb dX11_worth_49 rfl (lv_at hl 2 rfl) ?_
        refine lv_bipush (v := (-9)) hx hb dX11_worth_50 (by decide) ?_
        refine mw_put_14 F hin hw kf37 dX11_worth_52 (fun H locs hw => ?_)
        obtain ⟨σ17, eσ17, hf⟩ := g_let hf
        have hw := mw_re eσ17 hw
        refine lv_iload hx hb dX11_worth_55 (lv_at hl 1 rfl) ?_
        refine lv_bipush (v := (-9)) hx hb dX11_worth_57 (by decide) ?_
        refine lv_icmp_eq (tgt := 69) hx hb dX11_worth_59 (by decide) (fun c18 => ?_) (fun c18 => ?_)
        · have hf := g_t c18 hf
          exact B69 σ17 _ _ _ (lv_sub hl [] rfl) hw hf
        · have hf := g_f c18 hf
          refine lv_iload hx hb dX11_worth_62 (lv_at hl 0 rfl) ?_
          refine lv_bipush (v := (-9)) hx hb dX11_worth_64 (by decide) ?_
          refine lv_icmp_ne (tgt := 74) hx hb dX11_worth_66 (by decide) (fun c19 => ?_) (fun c19 => ?_)
          · have hf := g_f c19 hf
            refine lv_iload hx hb dX11_worth_74 (lv_at hl 0 rfl) ?_
            refine lv_iload hx hb dX11_worth_76 (lv_at hl 1 rfl) ?_
            refine lv_isub hx hb dX11_worth_78 ?_
            exact hret (r15 - r11) _ _ _ _ _ (g_i1 hf) (congrArg (fun t => mw ty ad t wr) (g_i2 hf)) hw dX11_worth_79
          · have hf := g_t c19 hf
            exact B69 σ17 _ _ _ (lv_sub hl [] rfl) hw hf
      · have hf := g_f (bI_z c9) hf
        refine lv_bipush (v := (-2)) hx hb dX11_worth_25 (by decide) ?_
        exact hret (-2) _ _ _ _ _ (g_i1 hf) (congrArg (fun t => mw ty ad t wr) (g_i2 hf)) hw dX11_worth_27
    · have hf := g_f (bI_z c6) hf
      refine lv_iconst (v := (-1)) hx hb dX11_worth_16 (by decide) ?_
      exact hret (-1) _ _ _ _ _ (g_i1 hf) (congrArg (fun t => mw ty ad t wr) (g_i2 hf)) hw dX11_worth_17

abbrev rm_mm_reading : Room := { frames := 1, cells := 0, slots := 0, locals := 22 }
set_option maxHeartbeats 4000000 in
set_option maxRecDepth 100000 in
theorem cmm_reading {l : Launch} {D : va_G} {ty : gT} {A : Nat → Prop} {ad : Nat → Nat} {wr : va_W} {x1 : Int32} {x2 : Int32} {σ : gS} {r : Int32} {σ' : gS} (hf : mm_reading σ x1 x2 = some (r, σ')) : gI l D ty A yX11_reading wsX11_reading rm_mm_reading [.ref (ad 0), .int x1, .int x2] (mw ty ad σ wr) r (mw ty ad σ' wr) := by
  refine gI_enter (cc := cX11_reading) (maxL := 3) (by decide) rfl (Nat.le_of_ble_eq_true rfl) ?_
  intro p e s m args below meth c Q ls F hl hw hret
  have F : CallFix p m c cX11_reading 3 s args wsX11_reading RX11 := F
  obtain ⟨hx, hb, hml, hown, hts⟩ := id F
  have hl : lv_has ls 3 [(0, .ref (ad 0)), (1, .int x1), (2, .int x2)] := hl
  have hin : ∀ w ∈ wsX110, w ∈ wsX11_reading := by first | exact fun w h => List.mem_cons_of_mem _ (List.mem_append_right _ h) | decide +kernel
  have kf119 := hts (.fieldLink RX11 119 "GossipGateModel" "readings" "I") (by decide +kernel)
  have kf68 := hts (.fieldLink RX11 68 "GossipGateModel" "readAt" "[I") (by decide +kernel)
  have kf71 := hts (.fieldLink RX11 71 "GossipGateModel" "readTook" "[I") (by decide +kernel)
  unfold mm_reading at hf
  refine lv_aload_n hx hb dX11_reading_0 rfl (lv_at hl 0 rfl) ?_
  refine lv_iload_n hx hb dX11_reading_1 rfl (lv_at hl 1 rfl) ?_
  obtain ⟨r2, h1, hf⟩ := g_b1 hf
  refine g_cI F (As := [.int x1]) (rest := []) (cmm_isGate h1) (cwV 1 hts gX11_reading_X11_isGate rfl rfl rfl (by decide +kernel) ⟨Nat.le_of_ble_eq_true rfl, Nat.le_of_ble_eq_true rfl⟩) hw (hw.recv (ci := 11) (q0 := 0) rfl rfl rfl) rfl hl.1 rfl (Nat.le_of_ble_eq_true rfl) dX11_reading_2 (fun H locs hw => ?_)
  refine lv_if_ne (tgt := 10) hx hb dX11_reading_5 (by decide) (fun c3 => ?_) (fun c3 => ?_)
  · have hf := g_t (bI_nz c3) hf
    refine lv_iload_n hx hb dX11_reading_10 rfl (lv_at hl 2 rfl) ?_
    refine lv_iconst (v := 0) hx hb dX11_reading_11 (by decide) ?_
    refine lv_sipush (v := 9999) hx hb dX11_reading_12 (by decide) ?_
    obtain ⟨r5, h4, hf⟩ := g_b1 hf
    refine g_sI F (As := [.int x2, .int 0, .int 9999]) (rest := []) (cmm_within h4) (va_cwS 3 hts gX11_reading_X11_within rfl rfl rfl (by decide +kernel) ⟨Nat.le_of_ble_eq_true rfl, Nat.le_of_ble_eq_true rfl⟩) hw rfl hl.1 rfl (Nat.le_of_ble_eq_true rfl) dX11_reading_15 (fun H locs hw => ?_)
    refine lv_if_ne (tgt := 24) hx hb dX11_reading_18 (by decide) (fun c6 => ?_) (fun c6 => ?_)
    · have hf := g_t (bI_nz c6) hf
      refine lv_aload_n hx hb dX11_reading_24 rfl (lv_at hl 0 rfl) ?_
      refine mw_get_31 F hin hw kf119 dX11_reading_25 ?_
      refine lv_bipush (v := 8) hx hb dX11_reading_28 (by decide) ?_
      refine lv_icmp_ne (tgt := 36) hx hb dX11_reading_30 (by decide) (fun c7 => ?_) (fun c7 => ?_)
      · have hf := g_f c7 hf
        refine lv_aload_n hx hb dX11_reading_36 rfl (lv_at hl 0 rfl) ?_
        refine mw_get_32 F hin hw kf68 dX11_reading_37 ?_
        refine lv_aload_n hx hb dX11_reading_40 rfl (lv_at hl 0 rfl) ?_
        refine mw_get_31 F hin hw kf119 dX11_reading_41 ?_
        refine lv_iload_n hx hb dX11_reading_44 rfl (lv_at hl 1 rfl) ?_
        obtain ⟨g8, hf⟩ := g_g hf
        refine mw_st_32 F hw g8 dX11_reading_45 (fun H locs hw => ?_)
        obtain ⟨σ9, eσ9, hf⟩ := g_let hf
        have hw := mw_re eσ9 hw
        refine lv_aload_n hx hb dX11_reading_46 rfl (lv_at hl 0 rfl) ?_
        refine mw_get_33 F hin hw kf71 dX11_reading_47 ?_
        refine lv_aload_n hx hb dX11_reading_50 rfl (lv_at hl 0 rfl) ?_
        refine mw_get_31 F hin hw kf119 dX11_reading_51 ?_
        refine lv_iload_n hx hb dX11_reading_54 rfl (lv_at hl 2 rfl) ?_
        obtain ⟨g10, hf⟩ := g_g hf
        refine mw_st_33 F hw g10 dX11_reading_55 (fun H locs hw => ?_)
        obtain ⟨σ11, eσ11, hf⟩ := g_let hf
        have hw := mw_re eσ11 hw
        refine lv_aload_n hx hb dX11_reading_56 rfl (lv_at hl 0 rfl) ?_
        refine lv_dup hx hb dX11_reading_57 rfl ?_
        refine mw_get_31 F hin hw kf119 dX11_reading_58 ?_
        refine lv_iconst (v := 1) hx hb dX11_reading_61 (by decide) ?_
        refine lv_iadd hx hb dX11_reading_62 ?_
        refine mw_put_31 F hin hw kf119 dX11_reading_63 (fun H locs hw => ?_)
        obtain ⟨σ12, eσ12, hf⟩ := g_let hf
        have hw := mw_re eσ12 hw
        refine lv_aload_n hx hb dX11_reading_66 rfl (lv_at hl 0 rfl) ?_
        refine mw_get_31 F hin hw kf119 dX11_reading_67 ?_
        refine lv_iconst (v := 1) hx hb dX11_reading_70 (by decide) ?_
        refine lv_isub hx hb dX11_reading_71 ?_
        exact hret ((σ12.1 31) - 1) _ _ _ _ _ (g_i1 hf) (congrArg (fun t => mw ty ad t wr) (g_i2 hf)) hw dX11_reading_72
      · have hf := g_t c7 hf
        refine lv_bipush (v := (-4)) hx hb dX11_reading_33 (by decide) ?_
        exact hret (-4) _ _ _ _ _ (g_i1 hf) (congrArg (fun t => mw ty ad t wr) (g_i2 hf)) hw dX11_reading_35
    · have hf := g_f (bI_z c6) hf
      refine lv_bipush (v := (-2)) hx hb dX11_reading_21 (by decide) ?_
      exact hret (-2) _ _ _ _ _ (g_i1 hf) (congrArg (fun t => mw ty ad t wr) (g_i2 hf)) hw dX11_reading_23
  · have hf := g_f (bI_z c3) hf
    refine lv_iconst (v := (-1)) hx hb dX11_reading_8 (by decide) ?_
    exact hret (-1) _ _ _ _ _ (g_i1 hf) (congrArg (fun t => mw ty ad t wr) (g_i2 hf)) hw dX11_reading_9

abbrev rm_mm_back : Room := { frames := 1, cells := 0, slots := 0, locals := 22 }
set_option maxHeartbeats 4000000 in
set_option maxRecDepth 100000 in
theorem cmm_back {l : Launch} {D : va_G} {ty : gT} {A : Nat → Prop} {ad : Nat → Nat} {wr : va_W} {x1 : Int32} {σ : gS} {r : Int32} {σ' : gS} (hf : mm_back σ x1 = some (r, σ')) : gI l D ty A yX11_back wsX11_back rm_mm_back [.ref (ad 0), .int x1] (mw ty ad σ wr) r (mw ty ad σ' wr) := by
  refine gI_enter (cc := cX11_back) (maxL := 2) (by decide) rfl (Nat.le_of_ble_eq_true rfl) ?_
  intro p e s m args below meth c Q ls F hl hw hret
  have F : CallFix p m c cX11_back 2 s args wsX11_back RX11 := F
  obtain ⟨hx, hb, hml, hown, hts⟩ := id F
  have hl : lv_has ls 2 [(0, .ref (ad 0)), (1, .int x1)] := hl
  have hin : ∀ w ∈ wsX110, w ∈ wsX11_back := by first | exact fun w h => List.mem_cons_of_mem _ (List.mem_append_right _ h) | decide +kernel
  have kf119 := hts (.fieldLink RX11 119 "GossipGateModel" "readings" "I") (by decide +kernel)
  unfold mm_back at hf
  refine lv_iload_n hx hb dX11_back_0 rfl (lv_at hl 1 rfl) ?_
  refine lv_iconst (v := 0) hx hb dX11_back_1 (by decide) ?_
  refine lv_aload_n hx hb dX11_back_2 rfl (lv_at hl 0 rfl) ?_
  refine mw_get_31 F hin hw kf119 dX11_back_3 ?_
  obtain ⟨r2, h1, hf⟩ := g_b1 hf
  refine g_sI F (As := [.int x1, .int 0, .int (σ.1 31)]) (rest := []) (cmm_within h1) (va_cwS 3 hts gX11_back_X11_within rfl rfl rfl (by decide +kernel) ⟨Nat.le_of_ble_eq_true rfl, Nat.le_of_ble_eq_true rfl⟩) hw rfl hl.1 rfl (Nat.le_of_ble_eq_true rfl) dX11_back_6 (fun H locs hw => ?_)
  refine lv_if_ne (tgt := 15) hx hb dX11_back_9 (by decide) (fun c3 => ?_) (fun c3 => ?_)
  · have hf := g_t (bI_nz c3) hf
    refine lv_aload_n hx hb dX11_back_15 rfl (lv_at hl 0 rfl) ?_
    refine lv_dup hx hb dX11_back_16 rfl ?_
    refine mw_get_31 F hin hw kf119 dX11_back_17 ?_
    refine lv_iload_n hx hb dX11_back_20 rfl (lv_at hl 1 rfl) ?_
    refine lv_isub hx hb dX11_back_21 ?_
    refine mw_put_31 F hin hw kf119 dX11_back_22 (fun H locs hw => ?_)
    obtain ⟨σ4, eσ4, hf⟩ := g_let hf
    have hw := mw_re eσ4 hw
    refine lv_aload_n hx hb dX11_back_25 rfl (lv_at hl 0 rfl) ?_
    refine mw_get_31 F hin hw kf119 dX11_back_26 ?_
    exact hret (σ4.1 31) _ _ _ _ _ (g_i1 hf) (congrArg (fun t => mw ty ad t wr) (g_i2 hf)) hw dX11_back_29
  · have hf := g_f (bI_z c3) hf
    refine lv_bipush (v := (-2)) hx hb dX11_back_12 (by decide) ?_
    exact hret (-2) _ _ _ _ _ (g_i1 hf) (congrArg (fun t => mw ty ad t wr) (g_i2 hf)) hw dX11_back_14

abbrev rm_mm_areSo : Room := { frames := 4, cells := 0, slots := 0, locals := 97 }
set_option maxHeartbeats 4000000 in
set_option maxRecDepth 100000 in
theorem cmm_areSo {l : Launch} {D : va_G} {ty : gT} {A : Nat → Prop} {ad : Nat → Nat} {wr : va_W} {σ : gS} {r : Bool} {σ' : gS} (hf : mm_areSo σ = some (r, σ')) : gI l D ty A yX11_areSo wsX11_areSo rm_mm_areSo [.ref (ad 0)] (mw ty ad σ wr) (bI r) (mw ty ad σ' wr) := by
  refine gZ_enter (cc := cX11_areSo) (maxL := 2) (by decide) rfl (Nat.le_of_ble_eq_true rfl) ?_
  intro p e s m args below meth c Q ls F hl hw hret
  have F : CallFix p m c cX11_areSo 2 s args wsX11_areSo RX11 := F
  obtain ⟨hx, hb, hml, hown, hts⟩ := id F
  have hl : lv_has ls 2 [(0, .ref (ad 0))] := hl
  have hin : ∀ w ∈ wsX110, w ∈ wsX11_areSo := by first | exact fun w h => List.mem_cons_of_mem _ (List.mem_append_right _ h) | decide +kernel
  have kf119 := hts (.fieldLink RX11 119 "GossipGateModel" "readings" "I") (by decide +kernel)
  have kf65 := hts (.fieldLink RX11 65 "GossipGateModel" "takenAt" "[I") (by decide +kernel)
  have kf68 := hts (.fieldLink RX11 68 "GossipGateModel" "readAt" "[I") (by decide +kernel)
  have kf71 := hts (.fieldLink RX11 71 "GossipGateModel" "readTook" "[I") (by decide +kernel)
  have B18 : ∀ (n18 : Nat) (v1 : Int32) (σ : gS) (H : Heap) (locs : List Loc) (ls : Array Slot), lv_has ls 2 [(0, .ref (ad 0)), (1, .int v1)] → gW D ty A (mw ty ad σ wr) s s.heap H locs → mm_areSo_b18 n18 v1 σ = some (r, σ') → W p l e rm_mm_areSo s m args below meth c H locs 0 0 Q (F0 m 18 ls []) := by
    intro n18
    induction n18 with
    | zero => intro v1 σ H locs ls hl hw hf; cases hf
    | succ n18 ih18 =>
      intro v1 σ H locs ls hl hw hf
      rw [mm_areSo_b18] at hf
      refine lv_iload_n hx hb dX11_areSo_18 rfl (lv_at hl 1 rfl) ?_
      refine lv_aload_n hx hb dX11_areSo_19 rfl (lv_at hl 0 rfl) ?_
      refine mw_get_31 F hin hw kf119 dX11_areSo_20 ?_
      refine lv_icmp_ge (tgt := 54) hx hb dX11_areSo_23 (by decide) (fun c1 => ?_) (fun c1 => ?_)
      · have hf := g_t c1 hf
        refine lv_iconst (v := 1) hx hb dX11_areSo_54 (by decide) ?_
        exact hret true _ _ _ _ _ (g_i1 hf) (congrArg (fun t => mw ty ad t wr) (g_i2 hf)) hw dX11_areSo_55
      · have hf := g_f c1 hf
        refine lv_aload_n hx hb dX11_areSo_26 rfl (lv_at hl 0 rfl) ?_
        refine mw_get_27 F hin hw kf65 dX11_areSo_27 ?_
        refine lv_aload_n hx hb dX11_areSo_30 rfl (lv_at hl 0 rfl) ?_
        refine mw_get_32 F hin hw kf68 dX11_areSo_31 ?_
        refine lv_iload_n hx hb dX11_areSo_34 rfl (lv_at hl 1 rfl) ?_
        obtain ⟨g2, hf⟩ := g_g hf
        refine mw_ld_32 F hw g2 dX11_areSo_35 ?_
        obtain ⟨g3, hf⟩ := g_g hf
        refine mw_ld_27 F hw g3 dX11_areSo_36 ?_
        refine lv_aload_n hx hb dX11_areSo_37 rfl (lv_at hl 0 rfl) ?_
        refine mw_get_33 F hin hw kf71 dX11_areSo_38 ?_
        refine lv_iload_n hx hb dX11_areSo_41 rfl (lv_at hl 1 rfl) ?_
        refine mw_ld_33 F hw g2 dX11_areSo_42 ?_
        refine lv_icmp_eq (tgt := 48) hx hb dX11_areSo_43 (by decide) (fun c4 => ?_) (fun c4 => ?_)
        · have hf := g_t c4 hf
          refine lv_iinc (v := v1 + 1) (lv' := [(1, .int (v1 + 1)), (0, .ref (ad 0))]) hx hb dX11_areSo_48 hl (k := 1) rfl rfl (by decide) rfl (fun ls hl => ?_)
          refine lv_goto (tgt := 18) hx hb dX11_areSo_51 (by decide) ?_
          exact ih18 (v1 + 1) σ _ _ _ (lv_sub hl [1, 0] rfl) hw hf
        · have hf := g_f c4 hf
          refine lv_iconst (v := 0) hx hb dX11_areSo_46 (by decide) ?_
          exact hret false _ _ _ _ _ (g_i1 hf) (congrArg (fun t => mw ty ad t wr) (g_i2 hf)) hw dX11_areSo_47
  unfold mm_areSo at hf
  refine lv_aload_n hx hb dX11_areSo_0 rfl (lv_at hl 0 rfl) ?_
  obtain ⟨r6, σ7, h5, hf⟩ := g_b2 hf
  refine g_cI F (As := []) (rest := []) (cmm_go h5) (cwV 0 hts gX11_areSo_X11_go rfl rfl rfl (by decide +kernel) ⟨Nat.le_of_ble_eq_true rfl, Nat.le_of_ble_eq_true rfl⟩) hw (hw.recv (ci := 11) (q0 := 0) rfl rfl rfl) rfl hl.1 rfl (Nat.le_of_ble_eq_true rfl) dX11_areSo_1 (fun H locs hw => ?_)
  refine lv_bipush (v := (-9)) hx hb dX11_areSo_4 (by decide) ?_
  refine lv_icmp_eq (tgt := 11) hx hb dX11_areSo_6 (by decide) (fun c8 => ?_) (fun c8 => ?_)
  · have hf := g_t c8 hf
    refine lv_aload_n hx hb dX11_areSo_11 rfl (lv_at hl 0 rfl) ?_
    obtain ⟨r10, σ11, h9, hf⟩ := g_b2 hf
    refine g_cI F (As := []) (rest := []) (cmm_takeAll h9) (cwV 0 hts gX11_areSo_X11_takeAll rfl rfl rfl (by decide +kernel) ⟨Nat.le_of_ble_eq_true rfl, Nat.le_of_ble_eq_true rfl⟩) hw (hw.recv (ci := 11) (q0 := 0) rfl rfl rfl) rfl hl.1 rfl (Nat.le_of_ble_eq_true rfl) dX11_areSo_12 (fun H locs hw => ?_)
    refine lv_pop hx hb dX11_areSo_15 rfl ?_
    refine lv_iconst (v := 0) hx hb dX11_areSo_16 (by decide) ?_
    refine lv_istore_n (lv' := [(1, .int 0), (0, .ref (ad 0))]) hx hb dX11_areSo_17 rfl hl (by decide) rfl (fun ls hl => ?_)
    exact B18 1000 0 σ11 _ _ _ (lv_sub hl [1, 0] rfl) hw hf
  · have hf := g_f c8 hf
    refine lv_iconst (v := 0) hx hb dX11_areSo_9 (by decide) ?_
    exact hret false _ _ _ _ _ (g_i1 hf) (congrArg (fun t => mw ty ad t wr) (g_i2 hf)) hw dX11_areSo_10

abbrev rm_mm_lay : Room := { frames := 3, cells := 0, slots := 0, locals := 69 }
set_option maxHeartbeats 4000000 in
set_option maxRecDepth 100000 in
theorem cmm_lay {l : Launch} {D : va_G} {ty : gT} {A : Nat → Prop} {ad : Nat → Nat} {wr : va_W} {x1 : Int32} {x2 : Int32} {x3 : Int32} {x4 : Int32} {x5 : Int32} {σ : gS} {r : Int32} {σ' : gS} (hf : mm_lay σ x1 x2 x3 x4 x5 = some (r, σ')) : gI l D ty A yX11_lay wsX11_lay rm_mm_lay [.ref (ad 0), .int x1, .int x2, .int x3, .int x4, .int x5] (mw ty ad σ wr) r (mw ty ad σ' wr) := by
  refine gI_enter (cc := cX11_lay) (maxL := 6) (by decide) rfl (Nat.le_of_ble_eq_true rfl) ?_
  intro p e s m args below meth c Q ls F hl hw hret
  have F : CallFix p m c cX11_lay 6 s args wsX11_lay RX11 := F
  obtain ⟨hx, hb, hml, hown, hts⟩ := id F
  have hl : lv_has ls 6 [(0, .ref (ad 0)), (1, .int x1), (2, .int x2), (3, .int x3), (4, .int x4), (5, .int x5)] := hl
  have hin : ∀ w ∈ wsX110, w ∈ wsX11_lay := by first | exact fun w h => List.mem_cons_of_mem _ (List.mem_append_right _ h) | decide +kernel
  have kf74 := hts (.fieldLink RX11 74 "GossipGateModel" "fault" "I") (by decide +kernel)
  unfold mm_lay at hf
  refine lv_aload_n hx hb dX11_lay_0 rfl (lv_at hl 0 rfl) ?_
  refine lv_iconst (v := 0) hx hb dX11_lay_1 (by decide) ?_
  refine mw_put_0 F hin hw kf74 dX11_lay_2 (fun H locs hw => ?_)
  obtain ⟨σ1, eσ1, hf⟩ := g_let hf
  have hw := mw_re eσ1 hw
  refine lv_iload_n hx hb dX11_lay_5 rfl (lv_at hl 1 rfl) ?_
  refine lv_if_eq (tgt := 16) hx hb dX11_lay_6 (by decide) (fun c2 => ?_) (fun c2 => ?_)
  · have hf := g_t c2 hf
    refine lv_iconst (v := (-1)) hx hb dX11_lay_16 (by decide) ?_
    exact hret (-1) _ _ _ _ _ (g_i1 hf) (congrArg (fun t => mw ty ad t wr) (g_i2 hf)) hw dX11_lay_17
  · have hf := g_f c2 hf
    refine lv_iload_n hx hb dX11_lay_9 rfl (lv_at hl 2 rfl) ?_
    obtain ⟨r4, h3, hf⟩ := g_b1 hf
    refine g_sI F (As := [.int x2]) (rest := []) (cmm_isSheet h3) (va_cwS 1 hts gX11_lay_X11_isSheet rfl rfl rfl (by decide +kernel) ⟨Nat.le_of_ble_eq_true rfl, Nat.le_of_ble_eq_true rfl⟩) hw rfl hl.1 rfl (Nat.le_of_ble_eq_true rfl) dX11_lay_10 (fun H locs hw => ?_)
    refine lv_if_ne (tgt := 18) hx hb dX11_lay_13 (by decide) (fun c5 => ?_) (fun c5 => ?_)
    · have hf := g_t (bI_nz c5) hf
      refine lv_iload_n hx hb dX11_lay_18 rfl (lv_at hl 3 rfl) ?_
      refine lv_iload hx hb dX11_lay_19 (lv_at hl 5 rfl) ?_
      obtain ⟨r7, h6, hf⟩ := g_b1 hf
      refine g_sI F (As := [.int x3, .int x5]) (rest := []) (cmm_isRow h6) (va_cwS 2 hts gX11_lay_X11_isRow rfl rfl rfl (by decide +kernel) ⟨Nat.le_of_ble_eq_true rfl, Nat.le_of_ble_eq_true rfl⟩) hw rfl hl.1 rfl (Nat.le_of_ble_eq_true rfl) dX11_lay_21 (fun H locs hw => ?_)
      refine lv_if_eq (tgt := 40) hx hb dX11_lay_24 (by decide) (fun c8 => ?_) (fun c8 => ?_)
      · have hf := g_f (bI_z c8) hf
        refine lv_bipush (v := (-2)) hx hb dX11_lay_40 (by decide) ?_
        exact hret (-2) _ _ _ _ _ (g_i1 hf) (congrArg (fun t => mw ty ad t wr) (g_i2 hf)) hw dX11_lay_42
      · have hf := g_t (bI_nz c8) hf
        refine lv_aload_n hx hb dX11_lay_27 rfl (lv_at hl 0 rfl) ?_
        refine lv_iload_n hx hb dX11_lay_28 rfl (lv_at hl 2 rfl) ?_
        refine lv_iload_n hx hb dX11_lay_29 rfl (lv_at hl 3 rfl) ?_
        refine lv_iload hx hb dX11_lay_30 (lv_at hl 4 rfl) ?_
        refine lv_iload hx hb dX11_lay_32 (lv_at hl 5 rfl) ?_
        obtain ⟨r10, σ11, h9, hf⟩ := g_b2 hf
        refine g_cI F (As := [.int x2, .int x3, .int x4, .int x5]) (rest := []) (cmm_layPassages h9) (cwV 4 hts gX11_lay_X11_layPassages rfl rfl rfl (by decide +kernel) ⟨Nat.le_of_ble_eq_true rfl, Nat.le_of_ble_eq_true rfl⟩) hw (hw.recv (ci := 11) (q0 := 0) rfl rfl rfl) rfl hl.1 rfl (Nat.le_of_ble_eq_true rfl) dX11_lay_34 (fun H locs hw => ?_)
        refine lv_goto (tgt := 42) hx hb dX11_lay_37 (by decide) ?_
        exact hret r10 _ _ _ _ _ (g_i1 hf) (congrArg (fun t => mw ty ad t wr) (g_i2 hf)) hw dX11_lay_42
    · have hf := g_f (bI_z c5) hf
      refine lv_iconst (v := (-1)) hx hb dX11_lay_16 (by decide) ?_
      exact hret (-1) _ _ _ _ _ (g_i1 hf) (congrArg (fun t => mw ty ad t wr) (g_i2 hf)) hw dX11_lay_17

abbrev rm_mm_sizes : Room := { frames := 5, cells := 0, slots := 0, locals := 118 }
set_option maxHeartbeats 4000000 in
set_option maxRecDepth 100000 in
theorem cmm_sizes {l : Launch} {D : va_G} {ty : gT} {A : Nat → Prop} {ad : Nat → Nat} {wr : va_W} {x1 : Int32} {x2 : Int32} {x3 : Int32} {x4 : Int32} {x5 : Int32} {σ : gS} {r : Int32} {σ' : gS} (hf : mm_sizes σ x1 x2 x3 x4 x5 = some (r, σ')) : gI l D ty A yX11_sizes wsX11_sizes rm_mm_sizes [.ref (ad 0), .int x1, .int x2, .int x3, .int x4, .int x5] (mw ty ad σ wr) r (mw ty ad σ' wr) := by
  refine gI_enter (cc := cX11_sizes) (maxL := 10) (by decide) rfl (Nat.le_of_ble_eq_true rfl) ?_
  intro p e s m args below meth c Q ls F hl hw hret
  have F : CallFix p m c cX11_sizes 10 s args wsX11_sizes RX11 := F
  obtain ⟨hx, hb, hml, hown, hts⟩ := id F
  have hl : lv_has ls 10 [(0, .ref (ad 0)), (1, .int x1), (2, .int x2), (3, .int x3), (4, .int x4), (5, .int x5)] := hl
  have hin : ∀ w ∈ wsX110, w ∈ wsX11_sizes := by first | exact fun w h => List.mem_cons_of_mem _ (List.mem_append_right _ h) | decide +kernel
  have kf28 := hts (.fieldLink RX11 28 "GossipGateModel" "large" "[I") (by decide +kernel)
  have B39 : ∀ (n39 : Nat) (v1 : Int32) (v7 : Int32) (v8 : Int32) (v9 : Int32) (σ : gS) (H : Heap) (locs : List Loc) (ls : Array Slot), lv_has ls 10 [(0, .ref (ad 0)), (1, .int v1), (7, .int v7), (8, .int v8), (9, .int v9)] → gW D ty A (mw ty ad σ wr) s s.heap H locs → mm_sizes_b39 n39 v1 v7 v8 v9 σ = some (r, σ') → W p l e rm_mm_sizes s m args below meth c H locs 0 0 Q (F0 m 39 ls []) := by
    intro n39
    induction n39 with
    | zero => intro v1 v7 v8 v9 σ H locs ls hl hw hf; cases hf
    | succ n39 ih39 =>
      have B71 : ∀ (v1 : Int32) (v7 : Int32) (v9 : Int32) (s0 : Int32) (s1 : Int32) (σ : gS) (H : Heap) (locs : List Loc) (ls : Array Slot), lv_has ls 10 [(0, .ref (ad 0)), (1, .int v1), (7, .int v7), (9, .int v9)] → gW D ty A (mw ty ad σ wr) s s.heap H locs → mm_sizes_b71 (mm_sizes_b39 n39) v1 v7 v9 s0 s1 σ = some (r, σ') → W p l e rm_mm_sizes s m args below meth c H locs 0 0 Q (F0 m 71 ls [.int s1, .int s0]) := by
        intro v1 v7 v9 s0 s1 σ H locs ls hl hw hf
        unfold mm_sizes_b71 at hf
        refine lv_ior hx hb dX11_sizes_71 ?_
        refine lv_istore (lv' := [(8, .int (s0 ||| s1)), (0, .ref (ad 0)), (1, .int v1), (7, .int v7), (9, .int v9)]) hx hb dX11_sizes_72 hl (by decide) rfl (fun ls hl => ?_)
        refine lv_iinc (v := v9 + 1) (lv' := [(9, .int (v9 + 1)), (8, .int (s0 ||| s1)), (0, .ref (ad 0)), (1, .int v1), (7, .int v7)]) hx hb dX11_sizes_74 hl (k := 4) rfl rfl (by decide) rfl (fun ls hl => ?_)
        refine lv_goto (tgt := 39) hx hb dX11_sizes_77 (by decide) ?_
        exact ih39 v1 v7 (s0 ||| s1) (v9 + 1) σ _ _ _ (lv_sub hl [2, 3, 4, 1, 0] rfl) hw hf
      intro v1 v7 v8 v9 σ H locs ls hl hw hf
      rw [mm_sizes_b39] at hf
      refine lv_iload hx hb dX11_sizes_39 (lv_at hl 4 rfl) ?_
      refine lv_bipush (v := 9) hx hb dX11_sizes_41 (by decide) ?_
      refine lv_icmp_gt (tgt := 80) hx hb dX11_sizes_43 (by decide) (fun c1 => ?_) (fun c1 => ?_)
      · have hf := g_t c1 hf
        refine lv_aload_n hx hb dX11_sizes_80 rfl (lv_at hl 0 rfl) ?_
        refine mw_get_11 F hin hw kf28 dX11_sizes_81 ?_
        refine lv_iload_n hx hb dX11_sizes_84 rfl (lv_at hl 1 rfl) ?_
        refine lv_iload hx hb dX11_sizes_85 (lv_at hl 2 rfl) ?_
        obtain ⟨g2, hf⟩ := g_g hf
        refine mw_st_11 F hw g2 dX11_sizes_87 (fun H locs hw => ?_)
        obtain ⟨σ3, eσ3, hf⟩ := g_let hf
        have hw := mw_re eσ3 hw
        refine lv_iload hx hb dX11_sizes_88 (lv_at hl 3 rfl) ?_
        exact hret v8 _ _ _ _ _ (g_i1 hf) (congrArg (fun t => mw ty ad t wr) (g_i2 hf)) hw dX11_sizes_90
      · have hf := g_f c1 hf
        refine lv_aload_n hx hb dX11_sizes_46 rfl (lv_at hl 0 rfl) ?_
        refine mw_get_11 F hin hw kf28 dX11_sizes_47 ?_
        refine lv_iload_n hx hb dX11_sizes_50 rfl (lv_at hl 1 rfl) ?_
        refine lv_iload hx hb dX11_sizes_51 (lv_at hl 4 rfl) ?_
        obtain ⟨g4, hf⟩ := g_g hf
        refine mw_st_11 F hw g4 dX11_sizes_53 (fun H locs hw => ?_)
        obtain ⟨σ5, eσ5, hf⟩ := g_let hf
        have hw := mw_re eσ5 hw
        refine lv_iload hx hb dX11_sizes_54 (lv_at hl 3 rfl) ?_
        refine lv_aload_n hx hb dX11_sizes_56 rfl (lv_at hl 0 rfl) ?_
        obtain ⟨r7, σ8, h6, hf⟩ := g_b2 hf
        refine g_cI F (As := []) (rest := [.int v8]) (cmm_areSo h6) (cwV 0 hts gX11_sizes_X11_areSo rfl rfl rfl (by decide +kernel) ⟨Nat.le_of_ble_eq_true rfl, Nat.le_of_ble_eq_true rfl⟩) hw (hw.recv (ci := 11) (q0 := 0) rfl rfl rfl) rfl hl.1 rfl (Nat.le_of_ble_eq_true rfl) dX11_sizes_57 (fun H locs hw => ?_)
        refine lv_if_eq (tgt := 70) hx hb dX11_sizes_60 (by decide) (fun c9 => ?_) (fun c9 => ?_)
        · have hf := g_f (bI_z c9) hf
          refine lv_iconst (v := 0) hx hb dX11_sizes_70 (by decide) ?_
          exact B71 v1 v7 v9 v8 0 σ8 _ _ _ (lv_sub hl [0, 1, 2, 4] rfl) hw hf
        · have hf := g_t (bI_nz c9) hf
          refine lv_iconst (v := 1) hx hb dX11_sizes_63 (by decide) ?_
          refine lv_iload hx hb dX11_sizes_64 (lv_at hl 4 rfl) ?_
          refine lv_ishl hx hb dX11_sizes_66 ?_
          refine lv_goto (tgt := 71) hx hb dX11_sizes_67 (by decide) ?_
          exact B71 v1 v7 v9 v8 ((1 : Int32) <<< (v9 &&& 31)) σ8 _ _ _ (lv_sub hl [0, 1, 2, 4] rfl) hw hf
  unfold mm_sizes at hf
  refine lv_aload_n hx hb dX11_sizes_0 rfl (lv_at hl 0 rfl) ?_
  refine lv_aload_n hx hb dX11_sizes_1 rfl (lv_at hl 0 rfl) ?_
  refine lv_iload_n hx hb dX11_sizes_2 rfl (lv_at hl 1 rfl) ?_
  obtain ⟨r11, h10, hf⟩ := g_b1 hf
  refine g_cI F (As := [.int x1]) (rest := [.ref (ad 0)]) (cmm_isStory h10) (cwV 1 hts gX11_sizes_X11_isStory rfl rfl rfl (by decide +kernel) ⟨Nat.le_of_ble_eq_true rfl, Nat.le_of_ble_eq_true rfl⟩) hw (hw.recv (ci := 11) (q0 := 0) rfl rfl rfl) rfl hl.1 rfl (Nat.le_of_ble_eq_true rfl) dX11_sizes_3 (fun H locs hw => ?_)
  refine lv_iload_n hx hb dX11_sizes_6 rfl (lv_at hl 2 rfl) ?_
  refine lv_iload_n hx hb dX11_sizes_7 rfl (lv_at hl 3 rfl) ?_
  refine lv_iload hx hb dX11_sizes_8 (lv_at hl 4 rfl) ?_
  refine lv_iload hx hb dX11_sizes_10 (lv_at hl 5 rfl) ?_
  obtain ⟨r13, σ14, h12, hf⟩ := g_b2 hf
  refine g_cI F (As := [.int (bI r11), .int x2, .int x3, .int x4, .int x5]) (rest := []) (cmm_lay h12) (cwV 5 hts gX11_sizes_X11_lay rfl rfl rfl (by decide +kernel) ⟨Nat.le_of_ble_eq_true rfl, Nat.le_of_ble_eq_true rfl⟩) hw (hw.recv (ci := 11) (q0 := 0) rfl rfl rfl) rfl hl.1 rfl (Nat.le_of_ble_eq_true rfl) dX11_sizes_12 (fun H locs hw => ?_)
  refine lv_istore (lv' := [(6, .int r13), (0, .ref (ad 0)), (1, .int x1), (2, .int x2), (3, .int x3), (4, .int x4), (5, .int x5)]) hx hb dX11_sizes_15 hl (by decide) rfl (fun ls hl => ?_)
  refine lv_iload hx hb dX11_sizes_17 (lv_at hl 0 rfl) ?_
  refine lv_if_eq (tgt := 25) hx hb dX11_sizes_19 (by decide) (fun c15 => ?_) (fun c15 => ?_)
  · have hf := g_t c15 hf
    refine lv_aload_n hx hb dX11_sizes_25 rfl (lv_at hl 1 rfl) ?_
    refine mw_get_11 F hin hw kf28 dX11_sizes_26 ?_
    refine lv_iload_n hx hb dX11_sizes_29 rfl (lv_at hl 2 rfl) ?_
    obtain ⟨g16, hf⟩ := g_g hf
    refine mw_ld_11 F hw g16 dX11_sizes_30 ?_
    obtain ⟨y17, ey17, hf⟩ := g_let hf
    refine g_nm ey17 ?_
    refine lv_istore (lv' := [(7, .int y17), (6, .int r13), (0, .ref (ad 0)), (1, .int x1), (2, .int x2), (3, .int x3), (4, .int x4), (5, .int x5)]) hx hb dX11_sizes_31 hl (by decide) rfl (fun ls hl => ?_)
    refine lv_iconst (v := 0) hx hb dX11_sizes_33 (by decide) ?_
    refine lv_istore (lv' := [(8, .int 0), (7, .int y17), (6, .int r13), (0, .ref (ad 0)), (1, .int x1), (2, .int x2), (3, .int x3), (4, .int x4), (5, .int x5)]) hx hb dX11_sizes_34 hl (by decide) rfl (fun ls hl => ?_)
    refine lv_iconst (v := 1) hx hb dX11_sizes_36 (by decide) ?_
    refine lv_istore (lv' := [(9, .int 1), (8, .int 0), (7, .int y17), (6, .int r13), (0, .ref (ad 0)), (1, .int x1), (2, .int x2), (3, .int x3), (4, .int x4), (5, .int x5)]) hx hb dX11_sizes_37 hl (by decide) rfl (fun ls hl => ?_)
    exact B39 1000 x1 y17 0 1 σ14 _ _ _ (lv_sub hl [4, 5, 2, 1, 0] rfl) hw hf
  · have hf := g_f c15 hf
    refine lv_iload hx hb dX11_sizes_22 (lv_at hl 0 rfl) ?_
    exact hret r13 _ _ _ _ _ (g_i1 hf) (congrArg (fun t => mw ty ad t wr) (g_i2 hf)) hw dX11_sizes_24

abbrev rm_mm_persons : Room := { frames := 5, cells := 0, slots := 0, locals := 118 }
set_option maxHeartbeats 4000000 in
set_option maxRecDepth 100000 in
theorem cmm_persons {l : Launch} {D : va_G} {ty : gT} {A : Nat → Prop} {ad : Nat → Nat} {wr : va_W} {x1 : Int32} {x2 : Int32} {x3 : Int32} {x4 : Int32} {x5 : Int32} {σ : gS} {r : Int32} {σ' : gS} (hf : mm_persons σ x1 x2 x3 x4 x5 = some (r, σ')) : gI l D ty A yX11_persons wsX11_persons rm_mm_persons [.ref (ad 0), .int x1, .int x2, .int x3, .int x4, .int x5] (mw ty ad σ wr) r (mw ty ad σ' wr) := by
  refine gI_enter (cc := cX11_persons) (maxL := 10) (by decide) rfl (Nat.le_of_ble_eq_true rfl) ?_
  intro p e s m args below meth c Q ls F hl hw hret
  have F : CallFix p m c cX11_persons 10 s args wsX11_persons RX11 := F
  obtain ⟨hx, hb, hml, hown, hts⟩ := id F
  have hl : lv_has ls 10 [(0, .ref (ad 0)), (1, .int x1), (2, .int x2), (3, .int x3), (4, .int x4), (5, .int x5)] := hl
  have hin : ∀ w ∈ wsX110, w ∈ wsX11_persons := by first | exact fun w h => List.mem_cons_of_mem _ (List.mem_append_right _ h) | decide +kernel
  have kf31 := hts (.fieldLink RX11 31 "GossipGateModel" "person" "[I") (by decide +kernel)
  have B39 : ∀ (n39 : Nat) (v1 : Int32) (v7 : Int32) (v8 : Int32) (v9 : Int32) (σ : gS) (H : Heap) (locs : List Loc) (ls : Array Slot), lv_has ls 10 [(0, .ref (ad 0)), (1, .int v1), (7, .int v7), (8, .int v8), (9, .int v9)] → gW D ty A (mw ty ad σ wr) s s.heap H locs → mm_persons_b39 n39 v1 v7 v8 v9 σ = some (r, σ') → W p l e rm_mm_persons s m args below meth c H locs 0 0 Q (F0 m 39 ls []) := by
    intro n39
    induction n39 with
    | zero => intro v1 v7 v8 v9 σ H locs ls hl hw hf; cases hf
    | succ n39 ih39 =>
      have B71 : ∀ (v1 : Int32) (v7 : Int32) (v9 : Int32) (s0 : Int32) (s1 : Int32) (σ : gS) (H : Heap) (locs : List Loc) (ls : Array Slot), lv_has ls 10 [(0, .ref (ad 0)), (1, .int v1), (7, .int v7), (9, .int v9)] → gW D ty A (mw ty ad σ wr) s s.heap H locs → mm_persons_b71 (mm_persons_b39 n39) v1 v7 v9 s0 s1 σ = some (r, σ') → W p l e rm_mm_persons s m args below meth c H locs 0 0 Q (F0 m 71 ls [.int s1, .int s0]) := by
        intro v1 v7 v9 s0 s1 σ H locs ls hl hw hf
        unfold mm_persons_b71 at hf
        refine lv_ior hx hb dX11_persons_71 ?_
        refine lv_istore (lv' := [(8, .int (s0 ||| s1)), (0, .ref (ad 0)), (1, .int v1), (7, .int v7), (9, .int v9)]) hx hb dX11_persons_72 hl (by decide) rfl (fun ls hl => ?_)
        refine lv_iinc (v := v9 + 1) (lv' := [(9, .int (v9 + 1)), (8, .int (s0 ||| s1)), (0, .ref (ad 0)), (1, .int v1), (7, .int v7)]) hx hb dX11_persons_74 hl (k := 4) rfl rfl (by decide) rfl (fun ls hl => ?_)
        refine lv_goto (tgt := 39) hx hb dX11_persons_77 (by decide) ?_
        exact ih39 v1 v7 (s0 ||| s1) (v9 + 1) σ _ _ _ (lv_sub hl [2, 3, 4, 1, 0] rfl) hw hf
      intro v1 v7 v8 v9 σ H locs ls hl hw hf
      rw [mm_persons_b39] at hf
      refine lv_iload hx hb dX11_persons_39 (lv_at hl 4 rfl) ?_
      refine lv_bipush (v := 6) hx hb dX11_persons_41 (by decide) ?_
      refine lv_icmp_ge (tgt := 80) hx hb dX11_persons_43 (by decide) (fun c1 => ?_) (fun c1 => ?_)
      · have hf := g_t c1 hf
        refine lv_aload_n hx hb dX11_persons_80 rfl (lv_at hl 0 rfl) ?_
        refine mw_get_12 F hin hw kf31 dX11_persons_81 ?_
        refine lv_iload_n hx hb dX11_persons_84 rfl (lv_at hl 1 rfl) ?_
        refine lv_iload hx hb dX11_persons_85 (lv_at hl 2 rfl) ?_
        obtain ⟨g2, hf⟩ := g_g hf
        refine mw_st_12 F hw g2 dX11_persons_87 (fun H locs hw => ?_)
        obtain ⟨σ3, eσ3, hf⟩ := g_let hf
        have hw := mw_re eσ3 hw
        refine lv_iload hx hb dX11_persons_88 (lv_at hl 3 rfl) ?_
        exact hret v8 _ _ _ _ _ (g_i1 hf) (congrArg (fun t => mw ty ad t wr) (g_i2 hf)) hw dX11_persons_90
      · have hf := g_f c1 hf
        refine lv_aload_n hx hb dX11_persons_46 rfl (lv_at hl 0 rfl) ?_
        refine mw_get_12 F hin hw kf31 dX11_persons_47 ?_
        refine lv_iload_n hx hb dX11_persons_50 rfl (lv_at hl 1 rfl) ?_
        refine lv_iload hx hb dX11_persons_51 (lv_at hl 4 rfl) ?_
        obtain ⟨g4, hf⟩ := g_g hf
        refine mw_st_12 F hw g4 dX11_persons_53 (fun H locs hw => ?_)
        obtain ⟨σ5, eσ5, hf⟩ := g_let hf
        have hw := mw_re eσ5 hw
        refine lv_iload hx hb dX11_persons_54 (lv_at hl 3 rfl) ?_
        refine lv_aload_n hx hb dX11_persons_56 rfl (lv_at hl 0 rfl) ?_
        obtain ⟨r7, σ8, h6, hf⟩ := g_b2 hf
        refine g_cI F (As := []) (rest := [.int v8]) (cmm_areSo h6) (cwV 0 hts gX11_persons_X11_areSo rfl rfl rfl (by decide +kernel) ⟨Nat.le_of_ble_eq_true rfl, Nat.le_of_ble_eq_true rfl⟩) hw (hw.recv (ci := 11) (q0 := 0) rfl rfl rfl) rfl hl.1 rfl (Nat.le_of_ble_eq_true rfl) dX11_persons_57 (fun H locs hw => ?_)
        refine lv_if_eq (tgt := 70) hx hb dX11_persons_60 (by decide) (fun c9 => ?_) (fun c9 => ?_)
        · have hf := g_f (bI_z c9) hf
          refine lv_iconst (v := 0) hx hb dX11_persons_70 (by decide) ?_
          exact B71 v1 v7 v9 v8 0 σ8 _ _ _ (lv_sub hl [0, 1, 2, 4] rfl) hw hf
        · have hf := g_t (bI_nz c9) hf
          refine lv_iconst (v := 1) hx hb dX11_persons_63 (by decide) ?_
          refine lv_iload hx hb dX11_persons_64 (lv_at hl 4 rfl) ?_
          refine lv_ishl hx hb dX11_persons_66 ?_
          refine lv_goto (tgt := 71) hx hb dX11_persons_67 (by decide) ?_
          exact B71 v1 v7 v9 v8 ((1 : Int32) <<< (v9 &&& 31)) σ8 _ _ _ (lv_sub hl [0, 1, 2, 4] rfl) hw hf
  unfold mm_persons at hf
  refine lv_aload_n hx hb dX11_persons_0 rfl (lv_at hl 0 rfl) ?_
  refine lv_aload_n hx hb dX11_persons_1 rfl (lv_at hl 0 rfl) ?_
  refine lv_iload_n hx hb dX11_persons_2 rfl (lv_at hl 1 rfl) ?_
  obtain ⟨r11, h10, hf⟩ := g_b1 hf
  refine g_cI F (As := [.int x1]) (rest := [.ref (ad 0)]) (cmm_isStory h10) (cwV 1 hts gX11_persons_X11_isStory rfl rfl rfl (by decide +kernel) ⟨Nat.le_of_ble_eq_true rfl, Nat.le_of_ble_eq_true rfl⟩) hw (hw.recv (ci := 11) (q0 := 0) rfl rfl rfl) rfl hl.1 rfl (Nat.le_of_ble_eq_true rfl) dX11_persons_3 (fun H locs hw => ?_)
  refine lv_iload_n hx hb dX11_persons_6 rfl (lv_at hl 2 rfl) ?_
  refine lv_iload_n hx hb dX11_persons_7 rfl (lv_at hl 3 rfl) ?_
  refine lv_iload hx hb dX11_persons_8 (lv_at hl 4 rfl) ?_
  refine lv_iload hx hb dX11_persons_10 (lv_at hl 5 rfl) ?_
  obtain ⟨r13, σ14, h12, hf⟩ := g_b2 hf
  refine g_cI F (As := [.int (bI r11), .int x2, .int x3, .int x4, .int x5]) (rest := []) (cmm_lay h12) (cwV 5 hts gX11_persons_X11_lay rfl rfl rfl (by decide +kernel) ⟨Nat.le_of_ble_eq_true rfl, Nat.le_of_ble_eq_true rfl⟩) hw (hw.recv (ci := 11) (q0 := 0) rfl rfl rfl) rfl hl.1 rfl (Nat.le_of_ble_eq_true rfl) dX11_persons_12 (fun H locs hw => ?_)
  refine lv_istore (lv' := [(6, .int r13), (0, .ref (ad 0)), (1, .int x1), (2, .int x2), (3, .int x3), (4, .int x4), (5, .int x5)]) hx hb dX11_persons_15 hl (by decide) rfl (fun ls hl => ?_)
  refine lv_iload hx hb dX11_persons_17 (lv_at hl 0 rfl) ?_
  refine lv_if_eq (tgt := 25) hx hb dX11_persons_19 (by decide) (fun c15 => ?_) (fun c15 => ?_)
  · have hf := g_t c15 hf
    refine lv_aload_n hx hb dX11_persons_25 rfl (lv_at hl 1 rfl) ?_
    refine mw_get_12 F hin hw kf31 dX11_persons_26 ?_
    refine lv_iload_n hx hb dX11_persons_29 rfl (lv_at hl 2 rfl) ?_
    obtain ⟨g16, hf⟩ := g_g hf
    refine mw_ld_12 F hw g16 dX11_persons_30 ?_
    obtain ⟨y17, ey17, hf⟩ := g_let hf
    refine g_nm ey17 ?_
    refine lv_istore (lv' := [(7, .int y17), (6, .int r13), (0, .ref (ad 0)), (1, .int x1), (2, .int x2), (3, .int x3), (4, .int x4), (5, .int x5)]) hx hb dX11_persons_31 hl (by decide) rfl (fun ls hl => ?_)
    refine lv_iconst (v := 0) hx hb dX11_persons_33 (by decide) ?_
    refine lv_istore (lv' := [(8, .int 0), (7, .int y17), (6, .int r13), (0, .ref (ad 0)), (1, .int x1), (2, .int x2), (3, .int x3), (4, .int x4), (5, .int x5)]) hx hb dX11_persons_34 hl (by decide) rfl (fun ls hl => ?_)
    refine lv_iconst (v := 0) hx hb dX11_persons_36 (by decide) ?_
    refine lv_istore (lv' := [(9, .int 0), (8, .int 0), (7, .int y17), (6, .int r13), (0, .ref (ad 0)), (1, .int x1), (2, .int x2), (3, .int x3), (4, .int x4), (5, .int x5)]) hx hb dX11_persons_37 hl (by decide) rfl (fun ls hl => ?_)
    exact B39 1000 x1 y17 0 0 σ14 _ _ _ (lv_sub hl [4, 5, 2, 1, 0] rfl) hw hf
  · have hf := g_f c15 hf
    refine lv_iload hx hb dX11_persons_22 (lv_at hl 0 rfl) ?_
    exact hret r13 _ _ _ _ _ (g_i1 hf) (congrArg (fun t => mw ty ad t wr) (g_i2 hf)) hw dX11_persons_24

abbrev rm_mm_kinds : Room := { frames := 5, cells := 0, slots := 0, locals := 118 }
set_option maxHeartbeats 4000000 in
set_option maxRecDepth 100000 in
theorem cmm_kinds {l : Launch} {D : va_G} {ty : gT} {A : Nat → Prop} {ad : Nat → Nat} {wr : va_W} {x1 : Int32} {x2 : Int32} {x3 : Int32} {x4 : Int32} {x5 : Int32} {σ : gS} {r : Int32} {σ' : gS} (hf : mm_kinds σ x1 x2 x3 x4 x5 = some (r, σ')) : gI l D ty A yX11_kinds wsX11_kinds rm_mm_kinds [.ref (ad 0), .int x1, .int x2, .int x3, .int x4, .int x5] (mw ty ad σ wr) r (mw ty ad σ' wr) := by
  refine gI_enter (cc := cX11_kinds) (maxL := 10) (by decide) rfl (Nat.le_of_ble_eq_true rfl) ?_
  intro p e s m args below meth c Q ls F hl hw hret
  have F : CallFix p m c cX11_kinds 10 s args wsX11_kinds RX11 := F
  obtain ⟨hx, hb, hml, hown, hts⟩ := id F
  have hl : lv_has ls 10 [(0, .ref (ad 0)), (1, .int x1), (2, .int x2), (3, .int x3), (4, .int x4), (5, .int x5)] := hl
  have hin : ∀ w ∈ wsX110, w ∈ wsX11_kinds := by first | exact fun w h => List.mem_cons_of_mem _ (List.mem_append_right _ h) | decide +kernel
  have kf19 := hts (.fieldLink RX11 19 "GossipGateModel" "kind" "[I") (by decide +kernel)
  have B39 : ∀ (n39 : Nat) (v1 : Int32) (v7 : Int32) (v8 : Int32) (v9 : Int32) (σ : gS) (H : Heap) (locs : List Loc) (ls : Array Slot), lv_has ls 10 [(0, .ref (ad 0)), (1, .int v1), (7, .int v7), (8, .int v8), (9, .int v9)] → gW D ty A (mw ty ad σ wr) s s.heap H locs → mm_kinds_b39 n39 v1 v7 v8 v9 σ = some (r, σ') → W p l e rm_mm_kinds s m args below meth c H locs 0 0 Q (F0 m 39 ls []) := by
    intro n39
    induction n39 with
    | zero => intro v1 v7 v8 v9 σ H locs ls hl hw hf; cases hf
    | succ n39 ih39 =>
      have B70 : ∀ (v1 : Int32) (v7 : Int32) (v9 : Int32) (s0 : Int32) (s1 : Int32) (σ : gS) (H : Heap) (locs : List Loc) (ls : Array Slot), lv_has ls 10 [(0, .ref (ad 0)), (1, .int v1), (7, .int v7), (9, .int v9)] → gW D ty A (mw ty ad σ wr) s s.heap H locs → mm_kinds_b70 (mm_kinds_b39 n39) v1 v7 v9 s0 s1 σ = some (r, σ') → W p l e rm_mm_kinds s m args below meth c H locs 0 0 Q (F0 m 70 ls [.int s1, .int s0]) := by
        intro v1 v7 v9 s0 s1 σ H locs ls hl hw hf
        unfold mm_kinds_b70 at hf
        refine lv_ior hx hb dX11_kinds_70 ?_
        refine lv_istore (lv' := [(8, .int (s0 ||| s1)), (0, .ref (ad 0)), (1, .int v1), (7, .int v7), (9, .int v9)]) hx hb dX11_kinds_71 hl (by decide) rfl (fun ls hl => ?_)
        refine lv_iinc (v := v9 + 1) (lv' := [(9, .int (v9 + 1)), (8, .int (s0 ||| s1)), (0, .ref (ad 0)), (1, .int v1), (7, .int v7)]) hx hb dX11_kinds_73 hl (k := 4) rfl rfl (by decide) rfl (fun ls hl => ?_)
        refine lv_goto (tgt := 39) hx hb dX11_kinds_76 (by decide) ?_
        exact ih39 v1 v7 (s0 ||| s1) (v9 + 1) σ _ _ _ (lv_sub hl [2, 3, 4, 1, 0] rfl) hw hf
      intro v1 v7 v8 v9 σ H locs ls hl hw hf
      rw [mm_kinds_b39] at hf
      refine lv_iload hx hb dX11_kinds_39 (lv_at hl 4 rfl) ?_
      refine lv_iconst (v := 3) hx hb dX11_kinds_41 (by decide) ?_
      refine lv_icmp_ge (tgt := 79) hx hb dX11_kinds_42 (by decide) (fun c1 => ?_) (fun c1 => ?_)
      · have hf := g_t c1 hf
        refine lv_aload_n hx hb dX11_kinds_79 rfl (lv_at hl 0 rfl) ?_
        refine mw_get_8 F hin hw kf19 dX11_kinds_80 ?_
        refine lv_iload_n hx hb dX11_kinds_83 rfl (lv_at hl 1 rfl) ?_
        refine lv_iload hx hb dX11_kinds_84 (lv_at hl 2 rfl) ?_
        obtain ⟨g2, hf⟩ := g_g hf
        refine mw_st_8 F hw g2 dX11_kinds_86 (fun H locs hw => ?_)
        obtain ⟨σ3, eσ3, hf⟩ := g_let hf
        have hw := mw_re eσ3 hw
        refine lv_iload hx hb dX11_kinds_87 (lv_at hl 3 rfl) ?_
        exact hret v8 _ _ _ _ _ (g_i1 hf) (congrArg (fun t => mw ty ad t wr) (g_i2 hf)) hw dX11_kinds_89
      · have hf := g_f c1 hf
        refine lv_aload_n hx hb dX11_kinds_45 rfl (lv_at hl 0 rfl) ?_
        refine mw_get_8 F hin hw kf19 dX11_kinds_46 ?_
        refine lv_iload_n hx hb dX11_kinds_49 rfl (lv_at hl 1 rfl) ?_
        refine lv_iload hx hb dX11_kinds_50 (lv_at hl 4 rfl) ?_
        obtain ⟨g4, hf⟩ := g_g hf
        refine mw_st_8 F hw g4 dX11_kinds_52 (fun H locs hw => ?_)
        obtain ⟨σ5, eσ5, hf⟩ := g_let hf
        have hw := mw_re eσ5 hw
        refine lv_iload hx hb dX11_kinds_53 (lv_at hl 3 rfl) ?_
        refine lv_aload_n hx hb dX11_kinds_55 rfl (lv_at hl 0 rfl) ?_
        obtain ⟨r7, σ8, h6, hf⟩ := g_b2 hf
        refine g_cI F (As := []) (rest := [.int v8]) (cmm_areSo h6) (cwV 0 hts gX11_kinds_X11_areSo rfl rfl rfl (by decide +kernel) ⟨Nat.le_of_ble_eq_true rfl, Nat.le_of_ble_eq_true rfl⟩) hw (hw.recv (ci := 11) (q0 := 0) rfl rfl rfl) rfl hl.1 rfl (Nat.le_of_ble_eq_true rfl) dX11_kinds_56 (fun H locs hw => ?_)
        refine lv_if_eq (tgt := 69) hx hb dX11_kinds_59 (by decide) (fun c9 => ?_) (fun c9 => ?_)
        · have hf := g_f (bI_z c9) hf
          refine lv_iconst (v := 0) hx hb dX11_kinds_69 (by decide) ?_
          exact B70 v1 v7 v9 v8 0 σ8 _ _ _ (lv_sub hl [0, 1, 2, 4] rfl) hw hf
        · have hf := g_t (bI_nz c9) hf
          refine lv_iconst (v := 1) hx hb dX11_kinds_62 (by decide) ?_
          refine lv_iload hx hb dX11_kinds_63 (lv_at hl 4 rfl) ?_
          refine lv_ishl hx hb dX11_kinds_65 ?_
          refine lv_goto (tgt := 70) hx hb dX11_kinds_66 (by decide) ?_
          exact B70 v1 v7 v9 v8 ((1 : Int32) <<< (v9 &&& 31)) σ8 _ _ _ (lv_sub hl [0, 1, 2, 4] rfl) hw hf
  unfold mm_kinds at hf
  refine lv_aload_n hx hb dX11_kinds_0 rfl (lv_at hl 0 rfl) ?_
  refine lv_aload_n hx hb dX11_kinds_1 rfl (lv_at hl 0 rfl) ?_
  refine lv_iload_n hx hb dX11_kinds_2 rfl (lv_at hl 1 rfl) ?_
  obtain ⟨r11, h10, hf⟩ := g_b1 hf
  refine g_cI F (As := [.int x1]) (rest := [.ref (ad 0)]) (cmm_isGate h10) (cwV 1 hts gX11_kinds_X11_isGate rfl rfl rfl (by decide +kernel) ⟨Nat.le_of_ble_eq_true rfl, Nat.le_of_ble_eq_true rfl⟩) hw (hw.recv (ci := 11) (q0 := 0) rfl rfl rfl) rfl hl.1 rfl (Nat.le_of_ble_eq_true rfl) dX11_kinds_3 (fun H locs hw => ?_)
  refine lv_iload_n hx hb dX11_kinds_6 rfl (lv_at hl 2 rfl) ?_
  refine lv_iload_n hx hb dX11_kinds_7 rfl (lv_at hl 3 rfl) ?_
  refine lv_iload hx hb dX11_kinds_8 (lv_at hl 4 rfl) ?_
  refine lv_iload hx hb dX11_kinds_10 (lv_at hl 5 rfl) ?_
  obtain ⟨r13, σ14, h12, hf⟩ := g_b2 hf
  refine g_cI F (As := [.int (bI r11), .int x2, .int x3, .int x4, .int x5]) (rest := []) (cmm_lay h12) (cwV 5 hts gX11_kinds_X11_lay rfl rfl rfl (by decide +kernel) ⟨Nat.le_of_ble_eq_true rfl, Nat.le_of_ble_eq_true rfl⟩) hw (hw.recv (ci := 11) (q0 := 0) rfl rfl rfl) rfl hl.1 rfl (Nat.le_of_ble_eq_true rfl) dX11_kinds_12 (fun H locs hw => ?_)
  refine lv_istore (lv' := [(6, .int r13), (0, .ref (ad 0)), (1, .int x1), (2, .int x2), (3, .int x3), (4, .int x4), (5, .int x5)]) hx hb dX11_kinds_15 hl (by decide) rfl (fun ls hl => ?_)
  refine lv_iload hx hb dX11_kinds_17 (lv_at hl 0 rfl) ?_
  refine lv_if_eq (tgt := 25) hx hb dX11_kinds_19 (by decide) (fun c15 => ?_) (fun c15 => ?_)
  · have hf := g_t c15 hf
    refine lv_aload_n hx hb dX11_kinds_25 rfl (lv_at hl 1 rfl) ?_
    refine mw_get_8 F hin hw kf19 dX11_kinds_26 ?_
    refine lv_iload_n hx hb dX11_kinds_29 rfl (lv_at hl 2 rfl) ?_
    obtain ⟨g16, hf⟩ := g_g hf
    refine mw_ld_8 F hw g16 dX11_kinds_30 ?_
    obtain ⟨y17, ey17, hf⟩ := g_let hf
    refine g_nm ey17 ?_
    refine lv_istore (lv' := [(7, .int y17), (6, .int r13), (0, .ref (ad 0)), (1, .int x1), (2, .int x2), (3, .int x3), (4, .int x4), (5, .int x5)]) hx hb dX11_kinds_31 hl (by decide) rfl (fun ls hl => ?_)
    refine lv_iconst (v := 0) hx hb dX11_kinds_33 (by decide) ?_
    refine lv_istore (lv' := [(8, .int 0), (7, .int y17), (6, .int r13), (0, .ref (ad 0)), (1, .int x1), (2, .int x2), (3, .int x3), (4, .int x4), (5, .int x5)]) hx hb dX11_kinds_34 hl (by decide) rfl (fun ls hl => ?_)
    refine lv_iconst (v := 0) hx hb dX11_kinds_36 (by decide) ?_
    refine lv_istore (lv' := [(9, .int 0), (8, .int 0), (7, .int y17), (6, .int r13), (0, .ref (ad 0)), (1, .int x1), (2, .int x2), (3, .int x3), (4, .int x4), (5, .int x5)]) hx hb dX11_kinds_37 hl (by decide) rfl (fun ls hl => ?_)
    exact B39 1000 x1 y17 0 0 σ14 _ _ _ (lv_sub hl [4, 5, 2, 1, 0] rfl) hw hf
  · have hf := g_f c15 hf
    refine lv_iload hx hb dX11_kinds_22 (lv_at hl 0 rfl) ?_
    exact hret r13 _ _ _ _ _ (g_i1 hf) (congrArg (fun t => mw ty ad t wr) (g_i2 hf)) hw dX11_kinds_24

abbrev rm_mm_limits : Room := { frames := 5, cells := 0, slots := 0, locals := 118 }
set_option maxHeartbeats 4000000 in
set_option maxRecDepth 100000 in
theorem cmm_limits {l : Launch} {D : va_G} {ty : gT} {A : Nat → Prop} {ad : Nat → Nat} {wr : va_W} {x1 : Int32} {x2 : Int32} {x3 : Int32} {x4 : Int32} {σ : gS} {r : Int32} {σ' : gS} (hf : mm_limits σ x1 x2 x3 x4 = some (r, σ')) : gI l D ty A yX11_limits wsX11_limits rm_mm_limits [.ref (ad 0), .int x1, .int x2, .int x3, .int x4] (mw ty ad σ wr) r (mw ty ad σ' wr) := by
  refine gI_enter (cc := cX11_limits) (maxL := 9) (by decide) rfl (Nat.le_of_ble_eq_true rfl) ?_
  intro p e s m args below meth c Q ls F hl hw hret
  have F : CallFix p m c cX11_limits 9 s args wsX11_limits RX11 := F
  obtain ⟨hx, hb, hml, hown, hts⟩ := id F
  have hl : lv_has ls 9 [(0, .ref (ad 0)), (1, .int x1), (2, .int x2), (3, .int x3), (4, .int x4)] := hl
  have hin : ∀ w ∈ wsX110, w ∈ wsX11_limits := by first | exact fun w h => List.mem_cons_of_mem _ (List.mem_append_right _ h) | decide +kernel
  have kf116 := hts (.fieldLink RX11 116 "GossipGateModel" "harmless" "I") (by decide +kernel)
  have B32 : ∀ (n32 : Nat) (v6 : Int32) (v7 : Int32) (v8 : Int32) (σ : gS) (H : Heap) (locs : List Loc) (ls : Array Slot), lv_has ls 9 [(0, .ref (ad 0)), (6, .int v6), (7, .int v7), (8, .int v8)] → gW D ty A (mw ty ad σ wr) s s.heap H locs → mm_limits_b32 n32 v6 v7 v8 σ = some (r, σ') → W p l e rm_mm_limits s m args below meth c H locs 0 0 Q (F0 m 32 ls []) := by
    intro n32
    induction n32 with
    | zero => intro v6 v7 v8 σ H locs ls hl hw hf; cases hf
    | succ n32 ih32 =>
      have B62 : ∀ (v6 : Int32) (v8 : Int32) (s0 : Int32) (s1 : Int32) (σ : gS) (H : Heap) (locs : List Loc) (ls : Array Slot), lv_has ls 9 [(0, .ref (ad 0)), (6, .int v6), (8, .int v8)] → gW D ty A (mw ty ad σ wr) s s.heap H locs → mm_limits_b62 (mm_limits_b32 n32) v6 v8 s0 s1 σ = some (r, σ') → W p l e rm_mm_limits s m args below meth c H locs 0 0 Q (F0 m 62 ls [.int s1, .int s0]) := by
        intro v6 v8 s0 s1 σ H locs ls hl hw hf
        unfold mm_limits_b62 at hf
        refine lv_ior hx hb dX11_limits_62 ?_
        refine lv_istore (lv' := [(7, .int (s0 ||| s1)), (0, .ref (ad 0)), (6, .int v6), (8, .int v8)]) hx hb dX11_limits_63 hl (by decide) rfl (fun ls hl => ?_)
        refine lv_iinc (v := v8 + 1) (lv' := [(8, .int (v8 + 1)), (7, .int (s0 ||| s1)), (0, .ref (ad 0)), (6, .int v6)]) hx hb dX11_limits_65 hl (k := 3) rfl rfl (by decide) rfl (fun ls hl => ?_)
        refine lv_goto (tgt := 32) hx hb dX11_limits_68 (by decide) ?_
        exact ih32 v6 (s0 ||| s1) (v8 + 1) σ _ _ _ (lv_sub hl [2, 3, 1, 0] rfl) hw hf
      intro v6 v7 v8 σ H locs ls hl hw hf
      rw [mm_limits_b32] at hf
      refine lv_iload hx hb dX11_limits_32 (lv_at hl 3 rfl) ?_
      refine lv_bipush (v := 9) hx hb dX11_limits_34 (by decide) ?_
      refine lv_icmp_gt (tgt := 71) hx hb dX11_limits_36 (by decide) (fun c1 => ?_) (fun c1 => ?_)
      · have hf := g_t c1 hf
        refine lv_aload_n hx hb dX11_limits_71 rfl (lv_at hl 0 rfl) ?_
        refine lv_iload hx hb dX11_limits_72 (lv_at hl 1 rfl) ?_
        refine mw_put_7 F hin hw kf116 dX11_limits_74 (fun H locs hw => ?_)
        obtain ⟨σ2, eσ2, hf⟩ := g_let hf
        have hw := mw_re eσ2 hw
        refine lv_iload hx hb dX11_limits_77 (lv_at hl 2 rfl) ?_
        exact hret v7 _ _ _ _ _ (g_i1 hf) (congrArg (fun t => mw ty ad t wr) (g_i2 hf)) hw dX11_limits_79
      · have hf := g_f c1 hf
        refine lv_aload_n hx hb dX11_limits_39 rfl (lv_at hl 0 rfl) ?_
        refine lv_iload hx hb dX11_limits_40 (lv_at hl 3 rfl) ?_
        refine mw_put_7 F hin hw kf116 dX11_limits_42 (fun H locs hw => ?_)
        obtain ⟨σ3, eσ3, hf⟩ := g_let hf
        have hw := mw_re eσ3 hw
        refine lv_iload hx hb dX11_limits_45 (lv_at hl 2 rfl) ?_
        refine lv_aload_n hx hb dX11_limits_47 rfl (lv_at hl 0 rfl) ?_
        obtain ⟨r5, σ6, h4, hf⟩ := g_b2 hf
        refine g_cI F (As := []) (rest := [.int v7]) (cmm_areSo h4) (cwV 0 hts gX11_limits_X11_areSo rfl rfl rfl (by decide +kernel) ⟨Nat.le_of_ble_eq_true rfl, Nat.le_of_ble_eq_true rfl⟩) hw (hw.recv (ci := 11) (q0 := 0) rfl rfl rfl) rfl hl.1 rfl (Nat.le_of_ble_eq_true rfl) dX11_limits_48 (fun H locs hw => ?_)
        refine lv_if_eq (tgt := 61) hx hb dX11_limits_51 (by decide) (fun c7 => ?_) (fun c7 => ?_)
        · have hf := g_f (bI_z c7) hf
          refine lv_iconst (v := 0) hx hb dX11_limits_61 (by decide) ?_
          exact B62 v6 v8 v7 0 σ6 _ _ _ (lv_sub hl [0, 1, 3] rfl) hw hf
        · have hf := g_t (bI_nz c7) hf
          refine lv_iconst (v := 1) hx hb dX11_limits_54 (by decide) ?_
          refine lv_iload hx hb dX11_limits_55 (lv_at hl 3 rfl) ?_
          refine lv_ishl hx hb dX11_limits_57 ?_
          refine lv_goto (tgt := 62) hx hb dX11_limits_58 (by decide) ?_
          exact B62 v6 v8 v7 ((1 : Int32) <<< (v8 &&& 31)) σ6 _ _ _ (lv_sub hl [0, 1, 3] rfl) hw hf
  unfold mm_limits at hf
  refine lv_aload_n hx hb dX11_limits_0 rfl (lv_at hl 0 rfl) ?_
  refine lv_iconst (v := 1) hx hb dX11_limits_1 (by decide) ?_
  refine lv_iload_n hx hb dX11_limits_2 rfl (lv_at hl 1 rfl) ?_
  refine lv_iload_n hx hb dX11_limits_3 rfl (lv_at hl 2 rfl) ?_
  refine lv_iload_n hx hb dX11_limits_4 rfl (lv_at hl 3 rfl) ?_
  refine lv_iload hx hb dX11_limits_5 (lv_at hl 4 rfl) ?_
  obtain ⟨r9, σ10, h8, hf⟩ := g_b2 hf
  refine g_cI F (As := [.int 1, .int x1, .int x2, .int x3, .int x4]) (rest := []) (cmm_lay h8) (cwV 5 hts gX11_limits_X11_lay rfl rfl rfl (by decide +kernel) ⟨Nat.le_of_ble_eq_true rfl, Nat.le_of_ble_eq_true rfl⟩) hw (hw.recv (ci := 11) (q0 := 0) rfl rfl rfl) rfl hl.1 rfl (Nat.le_of_ble_eq_true rfl) dX11_limits_7 (fun H locs hw => ?_)
  refine lv_istore (lv' := [(5, .int r9), (0, .ref (ad 0)), (1, .int x1), (2, .int x2), (3, .int x3), (4, .int x4)]) hx hb dX11_limits_10 hl (by decide) rfl (fun ls hl => ?_)
  refine lv_iload hx hb dX11_limits_12 (lv_at hl 0 rfl) ?_
  refine lv_if_eq (tgt := 20) hx hb dX11_limits_14 (by decide) (fun c11 => ?_) (fun c11 => ?_)
  · have hf := g_t c11 hf
    refine lv_aload_n hx hb dX11_limits_20 rfl (lv_at hl 1 rfl) ?_
    refine mw_get_7 F hin hw kf116 dX11_limits_21 ?_
    refine lv_istore (lv' := [(6, .int (σ10.1 7)), (5, .int r9), (0, .ref (ad 0)), (1, .int x1), (2, .int x2), (3, .int x3), (4, .int x4)]) hx hb dX11_limits_24 hl (by decide) rfl (fun ls hl => ?_)
    refine lv_iconst (v := 0) hx hb dX11_limits_26 (by decide) ?_
    refine lv_istore (lv' := [(7, .int 0), (6, .int (σ10.1 7)), (5, .int r9), (0, .ref (ad 0)), (1, .int x1), (2, .int x2), (3, .int x3), (4, .int x4)]) hx hb dX11_limits_27 hl (by decide) rfl (fun ls hl => ?_)
    refine lv_iconst (v := 0) hx hb dX11_limits_29 (by decide) ?_
    refine lv_istore (lv' := [(8, .int 0), (7, .int 0), (6, .int (σ10.1 7)), (5, .int r9), (0, .ref (ad 0)), (1, .int x1), (2, .int x2), (3, .int x3), (4, .int x4)]) hx hb dX11_limits_30 hl (by decide) rfl (fun ls hl => ?_)
    exact B32 1000 (σ10.1 7) 0 0 σ10 _ _ _ (lv_sub hl [4, 2, 1, 0] rfl) hw hf
  · have hf := g_f c11 hf
    refine lv_iload hx hb dX11_limits_17 (lv_at hl 0 rfl) ?_
    exact hret r9 _ _ _ _ _ (g_i1 hf) (congrArg (fun t => mw ty ad t wr) (g_i2 hf)) hw dX11_limits_19

abbrev rm_mm_inLeastTerms : Room := { frames := 0, cells := 0, slots := 0, locals := 0 }
set_option maxHeartbeats 4000000 in
set_option maxRecDepth 100000 in
theorem cmm_inLeastTerms {l : Launch} {D : va_G} {ty : gT} {A : Nat → Prop} {ws : va_W} {x1 : Int64} {x2 : Int64} {x3 : Int32} {r : Int64} (hf : mm_inLeastTerms x1 x2 x3 = some r) : gL l D ty A yX11_inLeastTerms wsX11_inLeastTerms rm_mm_inLeastTerms [.long x1, .long x2, .int x3] ws r ws := by
  refine gL_enter (cc := cX11_inLeastTerms) (maxL := 11) (by decide) rfl (Nat.le_of_ble_eq_true rfl) ?_
  intro p e s m args below meth c Q ls F hl hw hret
  have F : CallFix p m c cX11_inLeastTerms 11 s args wsX11_inLeastTerms RX11 := F
  obtain ⟨hx, hb, hml, hown, hts⟩ := id F
  have hl : lv_has ls 11 [(0, .long x1), (2, .long x2), (4, .int x3)] := hl
  have B6 : ∀ (n6 : Nat) (v0 : Int64) (v2 : Int64) (v4 : Int32) (v5 : Int64) (v7 : Int64) (H : Heap) (locs : List Loc) (ls : Array Slot), lv_has ls 11 [(0, .long v0), (2, .long v2), (4, .int v4), (5, .long v5), (7, .long v7)] → gW D ty A ws s s.heap H locs → mm_inLeastTerms_b6 n6 v0 v2 v4 v5 v7 = some r → W p l e rm_mm_inLeastTerms s m args below meth c H locs 0 0 Q (F0 m 6 ls []) := by
    intro n6
    induction n6 with
    | zero => intro v0 v2 v4 v5 v7 H locs ls hl hw hf; cases hf
    | succ n6 ih6 =>
      intro v0 v2 v4 v5 v7 H locs ls hl hw hf
      rw [mm_inLeastTerms_b6] at hf
      refine lv_lload hx hb dX11_inLeastTerms_6 (lv_at hl 4 rfl) ?_
      refine lv_lconst (v := 0) hx hb dX11_inLeastTerms_8 (by decide) ?_
      refine W.lcmp hx hb dX11_inLeastTerms_9 ?_
      refine lv_if_eq (tgt := 31) hx hb dX11_inLeastTerms_10 (by decide) (fun c1 => ?_) (fun c1 => ?_)
      · have hf := g_t (g_cmp.mp c1) hf
        refine lv_iload hx hb dX11_inLeastTerms_31 (lv_at hl 2 rfl) ?_
        refine lv_if_ne (tgt := 43) hx hb dX11_inLeastTerms_33 (by decide) (fun c2 => ?_) (fun c2 => ?_)
        · have hf := g_f c2 hf
          refine lv_lload_n hx hb dX11_inLeastTerms_43 rfl (lv_at hl 1 rfl) ?_
          refine lv_lload hx hb dX11_inLeastTerms_44 (lv_at hl 3 rfl) ?_
          obtain ⟨g3, hf⟩ := g_g hf
          refine lv_ldiv hx hb dX11_inLeastTerms_46 g3 ?_
          exact hret (v2 / v5) _ _ _ _ _ (Option.some.inj hf) rfl hw dX11_inLeastTerms_47
        · have hf := g_t c2 hf
          refine lv_lload_n hx hb dX11_inLeastTerms_36 rfl (lv_at hl 0 rfl) ?_
          refine lv_lload hx hb dX11_inLeastTerms_37 (lv_at hl 3 rfl) ?_
          obtain ⟨g4, hf⟩ := g_g hf
          refine lv_ldiv hx hb dX11_inLeastTerms_39 g4 ?_
          refine lv_goto (tgt := 47) hx hb dX11_inLeastTerms_40 (by decide) ?_
          exact hret (v0 / v5) _ _ _ _ _ (Option.some.inj hf) rfl hw dX11_inLeastTerms_47
      · have hf := g_f (fun q => c1 (g_cmp.mpr q)) hf
        have h5 := (fun q => c1 (g_cmp.mpr q))
        refine lv_lload hx hb dX11_inLeastTerms_13 (lv_at hl 3 rfl) ?_
        refine lv_lload hx hb dX11_inLeastTerms_15 (lv_at hl 4 rfl) ?_
        refine lv_lrem hx hb dX11_inLeastTerms_17 h5 ?_
        refine lv_lstore (lv' := [(9, .long (v5 - v5 / v7 * v7)), (0, .long v0), (2, .long v2), (4, .int v4), (5, .long v5), (7, .long v7)]) hx hb dX11_inLeastTerms_18 hl (by decide) rfl (fun ls hl => ?_)
        refine lv_lload hx hb dX11_inLeastTerms_20 (lv_at hl 5 rfl) ?_
        refine lv_lstore (lv' := [(5, .long v7), (9, .long (v5 - v5 / v7 * v7)), (0, .long v0), (2, .long v2), (4, .int v4), (7, .long v7)]) hx hb dX11_inLeastTerms_22 hl (by decide) rfl (fun ls hl => ?_)
        refine lv_lload hx hb dX11_inLeastTerms_24 (lv_at hl 1 rfl) ?_
        refine lv_lstore (lv' := [(7, .long (v5 - v5 / v7 * v7)), (5, .long v7), (9, .long (v5 - v5 / v7 * v7)), (0, .long v0), (2, .long v2), (4, .int v4)]) hx hb dX11_inLeastTerms_26 hl (by decide) rfl (fun ls hl => ?_)
        refine lv_goto (tgt := 6) hx hb dX11_inLeastTerms_28 (by decide) ?_
        exact ih6 v0 v2 v4 v7 (v5 - v5 / v7 * v7) _ _ _ (lv_sub hl [3, 4, 5, 1, 0] rfl) hw hf
  unfold mm_inLeastTerms at hf
  refine lv_lload_n hx hb dX11_inLeastTerms_0 rfl (lv_at hl 0 rfl) ?_
  refine lv_lstore (lv' := [(5, .long x1), (0, .long x1), (2, .long x2), (4, .int x3)]) hx hb dX11_inLeastTerms_1 hl (by decide) rfl (fun ls hl => ?_)
  refine lv_lload_n hx hb dX11_inLeastTerms_3 rfl (lv_at hl 2 rfl) ?_
  refine lv_lstore (lv' := [(7, .long x2), (5, .long x1), (0, .long x1), (2, .long x2), (4, .int x3)]) hx hb dX11_inLeastTerms_4 hl (by decide) rfl (fun ls hl => ?_)
  exact B6 1000 x1 x2 x3 x1 x2 _ _ _ (lv_sub hl [2, 3, 4, 1, 0] rfl) hw hf
