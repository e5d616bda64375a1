/-! kinds: three gates are made and put in, one behind another, then the town's own comes back -/
def cx_kinds (G S : Nat) (X : gC) (x1 x2 x3 x4 x5 : Int32) : Option (Int32 × gC) :=
    gLet ((sS X.1 0 0, X.2)) fun X1 =>
    gB1 (ct_gateAt G S X1 x1) fun r1 =>
    gN r1 (
    some ((-1), X1)) fun k =>
    gB2 (cx_readRoute G S X1 x2 x3 x4 x5) fun r2 X2 =>
    if 0 ≤ r2 then
    gB2 (cx_bitIfSo G S (X2.1, sA X2.2 0 k 0) 0) fun b0 X3 =>
    gB2 (cx_bitIfSo G S (X3.1, sA X2.2 0 k 1) 1) fun b1 X4 =>
    gB2 (cx_bitIfSo G S (X4.1, sA X2.2 0 k 2) 2) fun b2 X5 =>
    some (((0 ||| b0) ||| b1) ||| b2, (X5.1, X2.2))
    else
    some (r2, X2)
theorem ct_collect_b10_2 {G S : Nat} : ∀ (n : Nat) (v : Int32) (X X' : gC) (u : Unit), ct_collect_b10 G S n v X = some (u, X') → X'.2 = X.2
  | 0, _, _, _, _, h => by cases h
  | n + 1, v, X, X', u, h => by
    rw [ct_collect_b10] at h
    simp only [ct_collect_b81] at h
    by_cases c1 : X.1.1 3 ≤ v
    · cases g_t c1 h; rfl
    replace h := g_f c1 h
    obtain ⟨_, h⟩ := g_g h
    obtain ⟨r4, _, h⟩ := g_b1 h
    rcases r4 with _ | k5
    · replace h := gN_n h
      obtain ⟨r7, _, h⟩ := g_b1 h
      rcases r7 with _ | k8
      · exact ct_collect_b10_2 n _ _ _ _ (gN_n h)
      · exact ct_collect_b10_2 n _ _ _ _ (gN_s h)
    · replace h := gN_s h
      obtain ⟨r10, _, h⟩ := g_b1 h
      rcases r10 with _ | k11
      · exact ct_collect_b10_2 n _ _ _ _ (gN_n h)
      · replace h := gN_s h
        obtain ⟨_, h⟩ := g_g h
        obtain ⟨_, h⟩ := g_g h
        obtain ⟨r15, _, h⟩ := g_b1 h
        obtain ⟨X16, e, h⟩ := g_let h
        rw [ct_collect_b10_2 n _ _ _ _ h, e]
theorem ct_collect_2 {G S : Nat} {X X' : gC} {u : Unit} (h : ct_collect G S X = some (u, X')) : X'.2 = X.2 := by
  unfold ct_collect at h
  obtain ⟨X17, e, h⟩ := g_let h
  rw [ct_collect_b10_2 _ _ _ _ _ h, e]
theorem cx_bitIfSo_b27_2 {G S : Nat} : ∀ (n : Nat) (v w : Int32) (X X' : gC) (r : Int32), cx_bitIfSo_b27 G S n v w X = some (r, X') → X'.2 = X.2
  | 0, _, _, _, _, _, h => by cases h
  | n + 1, v, w, X, X', r, h => by
    rw [cx_bitIfSo_b27] at h
    by_cases c1 : X.1.1 5 ≤ w
    · cases g_t c1 h; rfl
    replace h := g_f c1 h
    obtain ⟨_, h⟩ := g_g h
    obtain ⟨r4, _, h⟩ := g_b1 h
    by_cases c2 : r4 = X.1.2 16 w.toNatClampNeg
    · exact cx_bitIfSo_b27_2 n _ _ _ _ _ (g_t c2 h)
    · cases g_f c2 h; rfl
theorem cx_bitIfSo_2 {G S : Nat} {X X' : gC} {v r : Int32} (h : cx_bitIfSo G S X v = some (r, X')) : X'.2 = X.2 := by
  unfold cx_bitIfSo at h
  by_cases c1 : X.1.1 4 = (-9)
  · replace h := g_t c1 h
    obtain ⟨r8, X9, h8, h⟩ := g_b2 h
    rw [cx_bitIfSo_b27_2 _ _ _ _ _ _ h, ct_collect_2 h8]
  · cases g_f c1 h; rfl
theorem gin_nI {i : Int32} {n : Nat} (h : gin i n = true) : i = nI i.toNatClampNeg := by
  unfold gin at h
  simp only [Bool.not_eq_true', Bool.or_eq_false_iff, decide_eq_false_iff_not] at h
  obtain ⟨j, hj, rfl⟩ := nI_of h.1
  rw [nI_clamp hj]
theorem ct_gateAt_s {G S k : Nat} {X : gC} {x : Int32} (h : ct_gateAt G S X x = some (some k)) : k < G ∧ x = nI k := by
  unfold ct_gateAt at h
  by_cases c1 : x < 0
  · cases g_t c1 h
  replace h := g_f c1 h
  by_cases c2 : nI G ≤ x
  · cases g_t c2 h
  replace h := g_f c2 h
  obtain ⟨g1, h⟩ := g_g h
  cases h
  exact ⟨gin_lt g1, gin_nI g1⟩
theorem cw_drop {D : va_G} {ty : gT} {A : Nat → Prop} {s : State} {H0 H : Heap} {locs : List Loc} {ad : Nat → Nat} {G S : Nat} {X : gC} {wr : va_W} {x : Nat × va_E} (hw : gW D ty A (cw ty ad G S X (x :: wr)) s H0 H locs) : gW D ty A (cw ty ad G S X wr) s H0 H locs := (gW.perm (cw_in x).symm hw).tail
section OG
variable {p : Program} {l : Launch} {e : Env} {R : Room} {s : State} {m : MethodId} {args : Array Value} {below : List Frame} {meth : Method} {c : Code} {H : Heap} {locs : List Loc} {cells slots : Nat} {Q : State → Prop} {cc : ByteArray} {pc nL : Nat} {ls : Array Slot} {rest : List Value} {D : va_G} {A : Nat → Prop} {ty : gT} {H0 : Heap} {own : String} {index : Nat} {Ts : List Cond} {ad : Nat → Nat} {wr : va_W} {G S q : Nat} {X : gC} {kd v0 v1 v2 : Int32}
theorem cw_og_1 (F : CallFix p m c cc nL s args Ts own) (h0 : ∀ w ∈ wsX00, w ∈ Ts) (h1 : ∀ w ∈ wsX10, w ∈ Ts) (h6 : ∀ w ∈ wsX60, w ∈ Ts) (hw : gW D ty A (cw ty ad G S X ((q, .inr (kc kd, [.int v0, .int v1, .int v2])) :: wr)) s H0 H locs) (hk : (Cond.fieldLink own index "GossipGate$Gate" "deaf" "I").before args s = true) (hd : decode cc pc = .ok (.getfield index, 3)) (kk : W p l e R s m args below meth c H locs cells slots Q (F0 m (pc + 3) ls (.int v1 :: rest))) : W p l e R s m args below meth c H locs cells slots Q (F0 m pc ls (.ref q :: rest)) := by
  have he := cw_rest (ty := ty) (ad := ad) (G := G) (S := S) (X := X) (wr := wr) (x := (q, .inr (kc kd, [.int v0, .int v1, .int v2])))
  by_cases c1 : kd = 1
  · rw [kc_1 c1] at he hw
    exact g_get (C := RX6) (T := TX6) (N := 3) F.1 F.2.1 F.2.2.2.2 h6 F.2.2.2.1 hw (G + S + 27) he rfl 1 (by decide) hk rfl hd kk
  by_cases c2 : kd = 2
  · rw [kc_2 c1 c2] at he hw
    exact g_get (C := RX1) (T := TX1) (N := 3) F.1 F.2.1 F.2.2.2.2 h1 F.2.2.2.1 hw (G + S + 27) he rfl 1 (by decide) hk rfl hd kk
  · rw [kc_0 c1 c2] at he hw
    exact g_get (C := RX0) (T := TX0) (N := 3) F.1 F.2.1 F.2.2.2.2 h0 F.2.2.2.1 hw (G + S + 27) he rfl 1 (by decide) hk rfl hd kk
theorem cw_og_2 (F : CallFix p m c cc nL s args Ts own) (h0 : ∀ w ∈ wsX00, w ∈ Ts) (h1 : ∀ w ∈ wsX10, w ∈ Ts) (h6 : ∀ w ∈ wsX60, w ∈ Ts) (hw : gW D ty A (cw ty ad G S X ((q, .inr (kc kd, [.int v0, .int v1, .int v2])) :: wr)) s H0 H locs) (hk : (Cond.fieldLink own index "GossipGate$Gate" "rate" "I").before args s = true) (hd : decode cc pc = .ok (.getfield index, 3)) (kk : W p l e R s m args below meth c H locs cells slots Q (F0 m (pc + 3) ls (.int v2 :: rest))) : W p l e R s m args below meth c H locs cells slots Q (F0 m pc ls (.ref q :: rest)) := by
  have he := cw_rest (ty := ty) (ad := ad) (G := G) (S := S) (X := X) (wr := wr) (x := (q, .inr (kc kd, [.int v0, .int v1, .int v2])))
  by_cases c1 : kd = 1
  · rw [kc_1 c1] at he hw
    exact g_get (C := RX6) (T := TX6) (N := 3) F.1 F.2.1 F.2.2.2.2 h6 F.2.2.2.1 hw (G + S + 27) he rfl 2 (by decide) hk rfl hd kk
  by_cases c2 : kd = 2
  · rw [kc_2 c1 c2] at he hw
    exact g_get (C := RX1) (T := TX1) (N := 3) F.1 F.2.1 F.2.2.2.2 h1 F.2.2.2.1 hw (G + S + 27) he rfl 2 (by decide) hk rfl hd kk
  · rw [kc_0 c1 c2] at he hw
    exact g_get (C := RX0) (T := TX0) (N := 3) F.1 F.2.1 F.2.2.2.2 h0 F.2.2.2.1 hw (G + S + 27) he rfl 2 (by decide) hk rfl hd kk
end OG
abbrev rm_cx_kinds : Room := { frames := 5, cells := 3, slots := 9, locals := 115 }
set_option maxHeartbeats 4000000 in
set_option maxRecDepth 100000 in
theorem ccx_kinds {l : Launch} {D : va_G} {ty : gT} {A : Nat → Prop} {ad : Nat → Nat} {wr : va_W} {G S : Nat} {X : gC} {x1 x2 x3 x4 x5 r : Int32} {X' : gC} (hG : G ≤ 100) (hf : cx_kinds G S X x1 x2 x3 x4 x5 = some (r, X')) : gJ l D ty A yX10_kinds wsX10_kinds rm_cx_kinds [.ref (ad 0), .int x1, .int x2, .int x3, .int x4, .int x5] (cw ty ad G S X wr) (fun v u => v = r ∧ u = cw ty ad G S X' wr) 3 9 := by
  refine gJ_enter (cc := cX10_kinds) (maxL := 10) (by decide) rfl (Nat.le_of_ble_eq_true rfl) ?_
  intro p e s m args below meth c Q ls F hl hw hret
  have F : CallFix p m c cX10_kinds 10 s args wsX10_kinds RX10 := F
  obtain ⟨hx, hb, hml, hown, hts⟩ := id F
  have hinX0 : ∀ w ∈ wsX00, w ∈ wsX10_kinds := by first | exact fun w h => List.mem_cons_of_mem _ (List.mem_append_left _ (List.mem_append_left _ (List.mem_append_left _ (List.mem_append_left _ (List.mem_append_left _ (List.mem_append_left _ (List.mem_append_left _ (List.mem_append_right _ h)))))))) | decide +kernel
  have hinX1 : ∀ w ∈ wsX10, w ∈ wsX10_kinds := by first | exact fun w h => List.mem_cons_of_mem _ (List.mem_append_left _ (List.mem_append_left _ (List.mem_append_left _ (List.mem_append_left _ (List.mem_append_left _ (List.mem_append_left _ (List.mem_append_right _ h))))))) | decide +kernel
  have hinX6 : ∀ w ∈ wsX60, w ∈ wsX10_kinds := by first | exact fun w h => List.mem_cons_of_mem _ (List.mem_append_left _ (List.mem_append_left _ (List.mem_append_left _ (List.mem_append_left _ (List.mem_append_left _ (List.mem_append_right _ h)))))) | decide +kernel
  have hinX8 : ∀ w ∈ wsX80, w ∈ wsX10_kinds := by first | exact fun w h => List.mem_cons_of_mem _ (List.mem_append_left _ (List.mem_append_left _ (List.mem_append_left _ (List.mem_append_left _ (List.mem_append_right _ h))))) | decide +kernel
  have hinX10 : ∀ w ∈ wsX100, w ∈ wsX10_kinds := by first | exact fun w h => List.mem_cons_of_mem _ (List.mem_append_left _ (List.mem_append_left _ (List.mem_append_left _ (List.mem_append_left _ (List.mem_append_left _ (List.mem_append_left _ (List.mem_append_left _ (List.mem_append_left _ (List.mem_append_right _ h))))))))) | decide +kernel
  have kf45 := hts (.fieldLink RX10 45 "GossipGate" "latestFault" "I") (by decide +kernel)
  have kf20 := hts (.fieldLink RX10 20 "GossipGate" "theTown" "LGossipGate$Town;") (by decide +kernel)
  have kf98 := hts (.fieldLink RX10 98 "GossipGate$Gate" "rate" "I") (by decide +kernel)
  have kf101 := hts (.fieldLink RX10 101 "GossipGate$Gate" "deaf" "I") (by decide +kernel)
  have hl : lv_has ls 10 [(0, .ref (ad 0)), (1, .int x1), (2, .int x2), (3, .int x3), (4, .int x4), (5, .int x5)] := hl
  unfold cx_kinds at hf
  refine lv_aload_n hx hb dX10_kinds_0 rfl (lv_at hl 0 rfl) ?_
  refine lv_iconst (v := 0) hx hb dX10_kinds_1 (by decide) ?_
  refine cf_put_X10_5 F hinX10 hw kf45 dX10_kinds_2 (fun H locs hw => ?_)
  obtain ⟨X1, eX1, hf⟩ := g_let hf
  have hw := cw_re eX1 hw
  refine lv_aload_n hx hb dX10_kinds_5 rfl (lv_at hl 0 rfl) ?_
  refine cf_get_X10_1 F hinX10 hw kf20 dX10_kinds_6 ?_
  refine lv_iload_n hx hb dX10_kinds_9 rfl (lv_at hl 1 rfl) ?_
  obtain ⟨r1, h1, hf⟩ := g_b1 hf
  refine g_cQ F (As := [.int x1]) (rest := []) (cct_gateAt h1) (cwV 1 hts gX10_kinds_X8_gateAt rfl rfl rfl (by decide +kernel) ⟨Nat.le_of_ble_eq_true rfl, Nat.le_of_ble_eq_true rfl⟩) hw (hw.recv (ci := 8) (q0 := 10) rfl rfl rfl) rfl hl.1 rfl (Nat.le_of_ble_eq_true rfl) dX10_kinds_10 (fun H locs hw => ?_)
  rcases r1 with _ | k
  · replace hf := gN_n hf
    refine lv_astoreN (lv' := [(6, .null), (0, .ref (ad 0)), (1, .int x1), (2, .int x2), (3, .int x3), (4, .int x4), (5, .int x5)]) hx hb dX10_kinds_13 hl (by decide) rfl (fun ls hl => ?_)
    refine lv_aloadN hx hb dX10_kinds_15 (lv_at hl 0 rfl) ?_
    refine lv_ifnonnullN hx hb dX10_kinds_17 ?_
    refine lv_iconst (v := (-1)) hx hb dX10_kinds_20 (by decide) ?_
    cases hf
    exact hret _ _ _ _ _ _ _ _ (Nat.zero_le _) (Nat.zero_le _) ⟨rfl, rfl⟩ hw dX10_kinds_21
  replace hf := gN_s hf
  obtain ⟨hk, ex1⟩ := ct_gateAt_s h1
  have hl : lv_has ls 10 [(0, .ref (ad 0)), (1, .int (nI k)), (2, .int x2), (3, .int x3), (4, .int x4), (5, .int x5)] := by rw [← ex1]; exact hl
  refine lv_astore (lv' := [(6, .ref (ad (100 + k))), (0, .ref (ad 0)), (1, .int (nI k)), (2, .int x2), (3, .int x3), (4, .int x4), (5, .int x5)]) hx hb dX10_kinds_13 hl (by decide) rfl (fun ls hl => ?_)
  refine lv_aload hx hb dX10_kinds_15 (lv_at hl 0 rfl) ?_
  refine lv_ifnonnull (tgt := 22) hx hb dX10_kinds_17 (by decide) ?_
  refine lv_aload_n hx hb dX10_kinds_22 rfl (lv_at hl 1 rfl) ?_
  refine lv_iload_n hx hb dX10_kinds_23 rfl (lv_at hl 3 rfl) ?_
  refine lv_iload_n hx hb dX10_kinds_24 rfl (lv_at hl 4 rfl) ?_
  refine lv_iload hx hb dX10_kinds_25 (lv_at hl 5 rfl) ?_
  refine lv_iload hx hb dX10_kinds_27 (lv_at hl 6 rfl) ?_
  obtain ⟨r2, X2, h2, hf⟩ := g_b2 hf
  refine g_cI F (As := [.int x2, .int x3, .int x4, .int x5]) (rest := []) (ccx_readRoute h2) (cwV 4 hts gX10_kinds_X10_readRoute rfl rfl rfl (by decide +kernel) ⟨Nat.le_of_ble_eq_true rfl, Nat.le_of_ble_eq_true rfl⟩) hw (hw.recv (ci := 10) (q0 := 0) rfl rfl rfl) rfl hl.1 rfl (Nat.le_of_ble_eq_true rfl) dX10_kinds_29 (fun H locs hw => ?_)
  refine lv_istore (lv' := [(7, .int r2), (6, .ref (ad (100 + k))), (0, .ref (ad 0)), (1, .int (nI k)), (2, .int x2), (3, .int x3), (4, .int x4), (5, .int x5)]) hx hb dX10_kinds_32 hl (by decide) rfl (fun ls hl => ?_)
  refine lv_iload hx hb dX10_kinds_34 (lv_at hl 0 rfl) ?_
  refine lv_if_ge (tgt := 42) hx hb dX10_kinds_36 (by decide) (fun c1 => ?_) (fun c1 => ?_)
  rotate_left
  · have hf := g_f c1 hf
    refine lv_iload hx hb dX10_kinds_39 (lv_at hl 0 rfl) ?_
    cases hf
    exact hret _ _ _ _ _ _ _ _ (Nat.zero_le _) (Nat.zero_le _) ⟨rfl, rfl⟩ hw dX10_kinds_41
  have hf := g_t c1 hf
  obtain ⟨σ0, γ⟩ := X2
  try dsimp only at hf
  obtain ⟨b0, X3, hb0, hf⟩ := g_b2 hf
  obtain ⟨b1, X4, hb1, hf⟩ := g_b2 hf
  obtain ⟨b2, X5, hb2, hf⟩ := g_b2 hf
  have e3 : X3.2 = sA γ 0 k 0 := cx_bitIfSo_2 hb0
  have e4 : X4.2 = sA γ 0 k 1 := cx_bitIfSo_2 hb1
  have e5 : X5.2 = sA γ 0 k 2 := cx_bitIfSo_2 hb2
  refine lv_iconst (v := 0) hx hb dX10_kinds_42 (by decide) ?_
  refine lv_istore (lv' := [(8, .int 0), (7, .int r2), (6, .ref (ad (100 + k))), (0, .ref (ad 0)), (1, .int (nI k)), (2, .int x2), (3, .int x3), (4, .int x4), (5, .int x5)]) hx hb dX10_kinds_43 hl (by decide) rfl (fun ls hl => ?_)
  refine lv_iconst (v := 0) hx hb dX10_kinds_45 (by decide) ?_
  refine lv_istore (lv' := [(9, .int 0), (8, .int 0), (7, .int r2), (6, .ref (ad (100 + k))), (0, .ref (ad 0)), (1, .int (nI k)), (2, .int x2), (3, .int x3), (4, .int x4), (5, .int x5)]) hx hb dX10_kinds_46 hl (by decide) rfl (fun ls hl => ?_)
  have hoa : ∀ j, j ≠ 100 + k → ad j = ad j := fun _ _ => rfl
  refine lv_iload hx hb dX10_kinds_48 (lv_at hl 0 rfl) ?_
  refine lv_iconst (v := 2) hx hb dX10_kinds_50 (by decide) ?_
  refine lv_icmp_gt (tgt := 94) hx hb dX10_kinds_51 (by decide) (fun c0 => absurd c0 (by decide)) (fun _ => ?_)
  refine lv_aload_n hx hb dX10_kinds_54 rfl (lv_at hl 4 rfl) ?_
  refine cf_get_X10_1 F hinX10 hw kf20 dX10_kinds_55 ?_
  refine lv_iload hx hb dX10_kinds_58 (lv_at hl 0 rfl) ?_
  refine lv_iload_n hx hb dX10_kinds_60 rfl (lv_at hl 5 rfl) ?_
  refine lv_aload hx hb dX10_kinds_61 (lv_at hl 3 rfl) ?_
  refine cw_gate_get_2 F hinX0 hinX1 hinX6 hw hk kf98 dX10_kinds_63 ?_
  refine lv_aload hx hb dX10_kinds_66 (lv_at hl 3 rfl) ?_
  refine cw_gate_get_1 F hinX0 hinX1 hinX6 hw hk kf101 dX10_kinds_68 ?_
  refine g_rC (va_runS F (As := [.int 0, .int (nI k), .int (γ.2 1 k), .int (γ.2 2 k)]) (rest := [.ref (ad 10)]) c_newGate (va_cwS 4 hts gX10_kinds_X8_newGate rfl rfl rfl (by decide +kernel) ⟨Nat.le_of_ble_eq_true rfl, Nat.le_of_ble_eq_true rfl⟩) ⟨gO_blind, hw.pre _⟩ rfl rfl hl.1 rfl (lv_room (Nat.le_of_ble_eq_true rfl)) dX10_kinds_71 ⟨(Nat.le_of_ble_eq_true rfl), (Nat.le_of_ble_eq_true rfl)⟩) hw (fun u q0 H locs hu hw => ?_)
  subst hu
  have hw := gW.perm (cw_in _) hw
  have hw := gW.eq (b := cw ty ad G S (σ0, γ) ((q0, .inr (kc 0, [.int (nI k), .int (γ.2 2 k), .int (γ.2 1 k)])) :: wr)) rfl hw
  refine W.widen (k := 1) (n := 3) (by decide) (by decide) ?_
  refine g_cVc F (As := [.ref q0]) (rest := []) (c_setGate (wr := wr) hk hG) (cwV 1 hts gX10_kinds_X8_setGate rfl rfl rfl (by decide +kernel) ⟨Nat.le_of_ble_eq_true rfl, Nat.le_of_ble_eq_true rfl⟩) hw (hw.recv (ci := 8) (q0 := 10) rfl rfl rfl) rfl hl.1 rfl (Nat.le_of_ble_eq_true rfl) dX10_kinds_74 (Nat.le_of_ble_eq_true rfl) (Nat.le_of_ble_eq_true rfl) (fun H locs hw => ?_)
  have hw := cw_swap (γ := γ) (γ' := sA γ 0 k 0) (q := q0) hk hG (fun j hj => by simp [cgt, sA, va_up, upd, hj]) (fun j => by simp [cst, sA, va_up]) (gW.eq (b := cf ty ad (G, S, va_up (fun g => some (ad (100 + g))) k (some q0), fun k => some (ad (200 + k))) σ0 (cgs ad G S γ ((q0, (cgt ad (sA γ 0 k 0) k).2) :: wr))) (by simp [cgt, sA, va_up, upd]) hw)
  obtain ⟨a1, ha1, hw⟩ : ∃ a' : Nat → Nat, (∀ j, j ≠ 100 + k → a' j = ad j) ∧ gW D ty A (cw ty a' G S (σ0, sA γ 0 k 0) (cgt ad γ k :: wr)) s s.heap H locs := ⟨_, fun j hj => (if_neg hj).trans (hoa j hj), hw⟩
  have hl : lv_has ls 10 [(9, .int 0), (8, .int 0), (7, .int r2), (6, .ref (ad (100 + k))), (0, .ref (a1 0)), (1, .int (nI k)), (2, .int x2), (3, .int x3), (4, .int x4), (5, .int x5)] := by rw [ha1 0 (by omega)]; exact hl
  refine lv_iload hx hb dX10_kinds_77 (lv_at hl 1 rfl) ?_
  refine lv_aload_n hx hb dX10_kinds_79 rfl (lv_at hl 4 rfl) ?_
  refine lv_iload hx hb dX10_kinds_80 (lv_at hl 0 rfl) ?_
  refine g_cIc F (As := [.int 0]) (rest := [.int 0]) (ccx_bitIfSo hb0) (cwV 1 hts gX10_kinds_X10_bitIfSo rfl rfl rfl (by decide +kernel) ⟨Nat.le_of_ble_eq_true rfl, Nat.le_of_ble_eq_true rfl⟩) hw (hw.recv (ci := 10) (q0 := 0) rfl rfl rfl) rfl hl.1 rfl (Nat.le_of_ble_eq_true rfl) dX10_kinds_82 (Nat.le_of_ble_eq_true rfl) (Nat.le_of_ble_eq_true rfl) (fun H locs hw => ?_)
  have hw := gW.eq (b := cw ty a1 G S (X3.1, sA γ 0 k 0) (cgt ad γ k :: wr)) (by rw [← e3]) hw
  refine lv_ior hx hb dX10_kinds_85 ?_
  refine lv_istore (lv' := [(8, .int ((0 : Int32) ||| b0)), (9, .int 0), (7, .int r2), (6, .ref (ad (100 + k))), (0, .ref (a1 0)), (1, .int (nI k)), (2, .int x2), (3, .int x3), (4, .int x4), (5, .int x5)]) hx hb dX10_kinds_86 hl (by decide) rfl (fun ls hl => ?_)
  refine lv_iinc (v := 1) (lv' := [(9, .int 1), (8, .int ((0 : Int32) ||| b0)), (7, .int r2), (6, .ref (ad (100 + k))), (0, .ref (a1 0)), (1, .int (nI k)), (2, .int x2), (3, .int x3), (4, .int x4), (5, .int x5)]) hx hb dX10_kinds_88 hl (k := 1) rfl (by decide) (by decide) rfl (fun ls hl => ?_)
  refine lv_goto (tgt := 48) hx hb dX10_kinds_91 (by decide) ?_
  refine lv_iload hx hb dX10_kinds_48 (lv_at hl 0 rfl) ?_
  refine lv_iconst (v := 2) hx hb dX10_kinds_50 (by decide) ?_
  refine lv_icmp_gt (tgt := 94) hx hb dX10_kinds_51 (by decide) (fun c0 => absurd c0 (by decide)) (fun _ => ?_)
  refine lv_aload_n hx hb dX10_kinds_54 rfl (lv_at hl 4 rfl) ?_
  refine cf_get_X10_1 F hinX10 hw kf20 dX10_kinds_55 ?_
  refine lv_iload hx hb dX10_kinds_58 (lv_at hl 0 rfl) ?_
  refine lv_iload_n hx hb dX10_kinds_60 rfl (lv_at hl 5 rfl) ?_
  refine lv_aload hx hb dX10_kinds_61 (lv_at hl 3 rfl) ?_
  refine cw_og_2 F hinX0 hinX1 hinX6 hw kf98 dX10_kinds_63 ?_
  refine lv_aload hx hb dX10_kinds_66 (lv_at hl 3 rfl) ?_
  refine cw_og_1 F hinX0 hinX1 hinX6 hw kf101 dX10_kinds_68 ?_
  refine g_rC (va_runS F (As := [.int 1, .int (nI k), .int (γ.2 1 k), .int (γ.2 2 k)]) (rest := [.ref (a1 10)]) c_newGate (va_cwS 4 hts gX10_kinds_X8_newGate rfl rfl rfl (by decide +kernel) ⟨Nat.le_of_ble_eq_true rfl, Nat.le_of_ble_eq_true rfl⟩) ⟨gO_blind, hw.pre _⟩ rfl rfl hl.1 rfl (lv_room (Nat.le_of_ble_eq_true rfl)) dX10_kinds_71 ⟨(Nat.le_of_ble_eq_true rfl), (Nat.le_of_ble_eq_true rfl)⟩) hw (fun u q1 H locs hu hw => ?_)
  subst hu
  have hw := gW.perm (cw_in _) hw
  have hw := gW.eq (b := cw ty a1 G S (X3.1, sA γ 0 k 0) ((q1, .inr (kc 1, [.int (nI k), .int (γ.2 2 k), .int (γ.2 1 k)])) :: (cgt ad γ k :: wr))) rfl hw
  refine W.widen (k := 2) (n := 6) (by decide) (by decide) ?_
  refine g_cVc F (As := [.ref q1]) (rest := []) (c_setGate (wr := (cgt ad γ k :: wr)) hk hG) (cwV 1 hts gX10_kinds_X8_setGate rfl rfl rfl (by decide +kernel) ⟨Nat.le_of_ble_eq_true rfl, Nat.le_of_ble_eq_true rfl⟩) hw (hw.recv (ci := 8) (q0 := 10) rfl rfl rfl) rfl hl.1 rfl (Nat.le_of_ble_eq_true rfl) dX10_kinds_74 (Nat.le_of_ble_eq_true rfl) (Nat.le_of_ble_eq_true rfl) (fun H locs hw => ?_)
  have hw := cw_swap (γ := (sA γ 0 k 0)) (γ' := sA γ 0 k 1) (q := q1) hk hG (fun j hj => by simp [cgt, sA, va_up, upd, hj]) (fun j => by simp [cst, sA, va_up]) (gW.eq (b := cf ty a1 (G, S, va_up (fun g => some (a1 (100 + g))) k (some q1), fun k => some (a1 (200 + k))) X3.1 (cgs a1 G S (sA γ 0 k 0) ((q1, (cgt a1 (sA γ 0 k 1) k).2) :: (cgt ad γ k :: wr)))) (by simp [cgt, sA, va_up, upd]) hw)
  have hw := cw_drop hw
  obtain ⟨a2, ha2, hw⟩ : ∃ a' : Nat → Nat, (∀ j, j ≠ 100 + k → a' j = ad j) ∧ gW D ty A (cw ty a' G S (X3.1, sA γ 0 k 1) (cgt ad γ k :: wr)) s s.heap H locs := ⟨_, fun j hj => (if_neg hj).trans (ha1 j hj), hw⟩
  have hl : lv_has ls 10 [(9, .int 1), (8, .int ((0 : Int32) ||| b0)), (7, .int r2), (6, .ref (ad (100 + k))), (0, .ref (a2 0)), (1, .int (nI k)), (2, .int x2), (3, .int x3), (4, .int x4), (5, .int x5)] := by rw [ha2 0 (by omega)]; rw [ha1 0 (by omega)] at hl; exact hl
  refine lv_iload hx hb dX10_kinds_77 (lv_at hl 1 rfl) ?_
  refine lv_aload_n hx hb dX10_kinds_79 rfl (lv_at hl 4 rfl) ?_
  refine lv_iload hx hb dX10_kinds_80 (lv_at hl 0 rfl) ?_
  refine g_cIc F (As := [.int 1]) (rest := [.int ((0 : Int32) ||| b0)]) (ccx_bitIfSo hb1) (cwV 1 hts gX10_kinds_X10_bitIfSo rfl rfl rfl (by decide +kernel) ⟨Nat.le_of_ble_eq_true rfl, Nat.le_of_ble_eq_true rfl⟩) hw (hw.recv (ci := 10) (q0 := 0) rfl rfl rfl) rfl hl.1 rfl (Nat.le_of_ble_eq_true rfl) dX10_kinds_82 (Nat.le_of_ble_eq_true rfl) (Nat.le_of_ble_eq_true rfl) (fun H locs hw => ?_)
  have hw := gW.eq (b := cw ty a2 G S (X4.1, sA γ 0 k 1) (cgt ad γ k :: wr)) (by rw [← e4]) hw
  refine lv_ior hx hb dX10_kinds_85 ?_
  refine lv_istore (lv' := [(8, .int (((0 : Int32) ||| b0) ||| b1)), (9, .int 1), (7, .int r2), (6, .ref (ad (100 + k))), (0, .ref (a2 0)), (1, .int (nI k)), (2, .int x2), (3, .int x3), (4, .int x4), (5, .int x5)]) hx hb dX10_kinds_86 hl (by decide) rfl (fun ls hl => ?_)
  refine lv_iinc (v := 2) (lv' := [(9, .int 2), (8, .int (((0 : Int32) ||| b0) ||| b1)), (7, .int r2), (6, .ref (ad (100 + k))), (0, .ref (a2 0)), (1, .int (nI k)), (2, .int x2), (3, .int x3), (4, .int x4), (5, .int x5)]) hx hb dX10_kinds_88 hl (k := 1) rfl (by decide) (by decide) rfl (fun ls hl => ?_)
  refine lv_goto (tgt := 48) hx hb dX10_kinds_91 (by decide) ?_
  refine lv_iload hx hb dX10_kinds_48 (lv_at hl 0 rfl) ?_
  refine lv_iconst (v := 2) hx hb dX10_kinds_50 (by decide) ?_
  refine lv_icmp_gt (tgt := 94) hx hb dX10_kinds_51 (by decide) (fun c0 => absurd c0 (by decide)) (fun _ => ?_)
  refine lv_aload_n hx hb dX10_kinds_54 rfl (lv_at hl 4 rfl) ?_
  refine cf_get_X10_1 F hinX10 hw kf20 dX10_kinds_55 ?_
  refine lv_iload hx hb dX10_kinds_58 (lv_at hl 0 rfl) ?_
  refine lv_iload_n hx hb dX10_kinds_60 rfl (lv_at hl 5 rfl) ?_
  refine lv_aload hx hb dX10_kinds_61 (lv_at hl 3 rfl) ?_
  refine cw_og_2 F hinX0 hinX1 hinX6 hw kf98 dX10_kinds_63 ?_
  refine lv_aload hx hb dX10_kinds_66 (lv_at hl 3 rfl) ?_
  refine cw_og_1 F hinX0 hinX1 hinX6 hw kf101 dX10_kinds_68 ?_
  refine g_rC (va_runS F (As := [.int 2, .int (nI k), .int (γ.2 1 k), .int (γ.2 2 k)]) (rest := [.ref (a2 10)]) c_newGate (va_cwS 4 hts gX10_kinds_X8_newGate rfl rfl rfl (by decide +kernel) ⟨Nat.le_of_ble_eq_true rfl, Nat.le_of_ble_eq_true rfl⟩) ⟨gO_blind, hw.pre _⟩ rfl rfl hl.1 rfl (lv_room (Nat.le_of_ble_eq_true rfl)) dX10_kinds_71 ⟨(Nat.le_of_ble_eq_true rfl), (Nat.le_of_ble_eq_true rfl)⟩) hw (fun u q2 H locs hu hw => ?_)
  subst hu
  have hw := gW.perm (cw_in _) hw
  have hw := gW.eq (b := cw ty a2 G S (X4.1, sA γ 0 k 1) ((q2, .inr (kc 2, [.int (nI k), .int (γ.2 2 k), .int (γ.2 1 k)])) :: (cgt ad γ k :: wr))) rfl hw
  refine W.widen (k := 3) (n := 9) (by decide) (by decide) ?_
  refine g_cVc F (As := [.ref q2]) (rest := []) (c_setGate (wr := (cgt ad γ k :: wr)) hk hG) (cwV 1 hts gX10_kinds_X8_setGate rfl rfl rfl (by decide +kernel) ⟨Nat.le_of_ble_eq_true rfl, Nat.le_of_ble_eq_true rfl⟩) hw (hw.recv (ci := 8) (q0 := 10) rfl rfl rfl) rfl hl.1 rfl (Nat.le_of_ble_eq_true rfl) dX10_kinds_74 (Nat.le_of_ble_eq_true rfl) (Nat.le_of_ble_eq_true rfl) (fun H locs hw => ?_)
  have hw := cw_swap (γ := (sA γ 0 k 1)) (γ' := sA γ 0 k 2) (q := q2) hk hG (fun j hj => by simp [cgt, sA, va_up, upd, hj]) (fun j => by simp [cst, sA, va_up]) (gW.eq (b := cf ty a2 (G, S, va_up (fun g => some (a2 (100 + g))) k (some q2), fun k => some (a2 (200 + k))) X4.1 (cgs a2 G S (sA γ 0 k 1) ((q2, (cgt a2 (sA γ 0 k 2) k).2) :: (cgt ad γ k :: wr)))) (by simp [cgt, sA, va_up, upd]) hw)
  have hw := cw_drop hw
  obtain ⟨a3, ha3, hw⟩ : ∃ a' : Nat → Nat, (∀ j, j ≠ 100 + k → a' j = ad j) ∧ gW D ty A (cw ty a' G S (X4.1, sA γ 0 k 2) (cgt ad γ k :: wr)) s s.heap H locs := ⟨_, fun j hj => (if_neg hj).trans (ha2 j hj), hw⟩
  have hl : lv_has ls 10 [(9, .int 2), (8, .int (((0 : Int32) ||| b0) ||| b1)), (7, .int r2), (6, .ref (ad (100 + k))), (0, .ref (a3 0)), (1, .int (nI k)), (2, .int x2), (3, .int x3), (4, .int x4), (5, .int x5)] := by rw [ha3 0 (by omega)]; rw [ha2 0 (by omega)] at hl; exact hl
  refine lv_iload hx hb dX10_kinds_77 (lv_at hl 1 rfl) ?_
  refine lv_aload_n hx hb dX10_kinds_79 rfl (lv_at hl 4 rfl) ?_
  refine lv_iload hx hb dX10_kinds_80 (lv_at hl 0 rfl) ?_
  refine g_cIc F (As := [.int 2]) (rest := [.int (((0 : Int32) ||| b0) ||| b1)]) (ccx_bitIfSo hb2) (cwV 1 hts gX10_kinds_X10_bitIfSo rfl rfl rfl (by decide +kernel) ⟨Nat.le_of_ble_eq_true rfl, Nat.le_of_ble_eq_true rfl⟩) hw (hw.recv (ci := 10) (q0 := 0) rfl rfl rfl) rfl hl.1 rfl (Nat.le_of_ble_eq_true rfl) dX10_kinds_82 (Nat.le_of_ble_eq_true rfl) (Nat.le_of_ble_eq_true rfl) (fun H locs hw => ?_)
  have hw := gW.eq (b := cw ty a3 G S (X5.1, sA γ 0 k 2) (cgt ad γ k :: wr)) (by rw [← e5]) hw
  refine lv_ior hx hb dX10_kinds_85 ?_
  refine lv_istore (lv' := [(8, .int ((((0 : Int32) ||| b0) ||| b1) ||| b2)), (9, .int 2), (7, .int r2), (6, .ref (ad (100 + k))), (0, .ref (a3 0)), (1, .int (nI k)), (2, .int x2), (3, .int x3), (4, .int x4), (5, .int x5)]) hx hb dX10_kinds_86 hl (by decide) rfl (fun ls hl => ?_)
  refine lv_iinc (v := 3) (lv' := [(9, .int 3), (8, .int ((((0 : Int32) ||| b0) ||| b1) ||| b2)), (7, .int r2), (6, .ref (ad (100 + k))), (0, .ref (a3 0)), (1, .int (nI k)), (2, .int x2), (3, .int x3), (4, .int x4), (5, .int x5)]) hx hb dX10_kinds_88 hl (k := 1) rfl (by decide) (by decide) rfl (fun ls hl => ?_)
  refine lv_goto (tgt := 48) hx hb dX10_kinds_91 (by decide) ?_
  refine lv_iload hx hb dX10_kinds_48 (lv_at hl 0 rfl) ?_
  refine lv_iconst (v := 2) hx hb dX10_kinds_50 (by decide) ?_
  refine lv_icmp_gt (tgt := 94) hx hb dX10_kinds_51 (by decide) (fun _ => ?_) (fun c0 => absurd (by decide) c0)
  refine lv_aload_n hx hb dX10_kinds_94 rfl (lv_at hl 4 rfl) ?_
  refine cf_get_X10_1 F hinX10 hw kf20 dX10_kinds_95 ?_
  refine lv_aload hx hb dX10_kinds_98 (lv_at hl 3 rfl) ?_
  refine g_cVc F (As := [.ref (ad (100 + k))]) (rest := []) (c_setGate (wr := wr) (kd := γ.2 0 k) (vd := γ.2 2 k) (vr := γ.2 1 k) (q := ad (100 + k)) hk hG) (cwV 1 hts gX10_kinds_X8_setGate rfl rfl rfl (by decide +kernel) ⟨Nat.le_of_ble_eq_true rfl, Nat.le_of_ble_eq_true rfl⟩) hw (hw.recv (ci := 8) (q0 := 10) rfl rfl rfl) rfl hl.1 rfl (Nat.le_of_ble_eq_true rfl) dX10_kinds_100 (Nat.le_of_ble_eq_true rfl) (Nat.le_of_ble_eq_true rfl) (fun H locs hw => ?_)
  have hw := cw_swap (γ := sA γ 0 k 2) (γ' := γ) (q := ad (100 + k)) (σ := X5.1) hk hG (fun j hj => by simp [cgt, sA, va_up, upd, hj]) (fun j => by simp [cst, sA, va_up]) hw
  have hw := cw_drop hw
  have ea : va_up a3 (100 + k) (ad (100 + k)) = ad := by
    funext j
    unfold va_up
    by_cases hj : j = 100 + k
    · rw [if_pos hj, hj]
    · rw [if_neg hj]; exact ha3 j hj
  rw [ea] at hw
  refine lv_iload hx hb dX10_kinds_103 (lv_at hl 1 rfl) ?_
  cases hf
  exact hret _ _ _ _ _ _ _ _ (by decide) (by decide) ⟨rfl, rfl⟩ hw dX10_kinds_105
