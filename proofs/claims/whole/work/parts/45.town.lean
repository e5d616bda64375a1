/-! town -/
def tau0 (x3 x4 : Int32) : gS := (fun j => match j with
  | 0 => x3
  | 1 => x4
  | _ => 0, fun _ _ => 0)
def gtd (o : Option Int32) : Int32 := o.getD 0
/-- a text's counts are as a town's may be, and its codes are there -/
def tnOK (σ : gS) (k : Nat) (τ : gS) (G S : Nat) : Bool := decide (G ≤ 5 ∧ S ≤ 4 ∧ τ.1 2 = nI G ∧ τ.1 3 = nI S ∧ k < 4) && (List.range G).all (fun g => (tt_gateKind σ k τ (nI g)).isSome && (tt_gateDigit σ k τ (nI g) 2).isSome && (tt_gateDigit σ k τ (nI g) 3).isSome) && (List.range S).all (fun g => (tt_storyDigit σ k τ (nI g) 1).isSome && (tt_storyDigit σ k τ (nI g) 2).isSome && (tt_storyDigit σ k τ (nI g) 3).isSome)
def tnγ (σ : gS) (k : Nat) (τ : gS) : gS := gγ (fun g => gtd (tt_gateKind σ k τ (nI g))) (fun g => gtd (tt_gateDigit σ k τ (nI g) 2)) (fun g => gtd (tt_gateDigit σ k τ (nI g) 3)) (fun g => gtd (tt_storyDigit σ k τ (nI g) 1)) (fun g => gtd (tt_storyDigit σ k τ (nI g) 2)) (fun g => gtd (tt_storyDigit σ k τ (nI g) 3))
def cx_townMake (G S : Nat) (k : Nat) (x3 x4 : Int32) (X : gC) : Option (Int32 × (Nat × Nat × gC)) :=
    gB2 (tt_firstFault X.1 k (tau0 x3 x4)) fun ff τ =>
    if ff = (-9) then
    if tnOK X.1 k τ (τ.1 2).toNatClampNeg (τ.1 3).toNatClampNeg = true then
    some (nI (τ.1 3).toNatClampNeg, ((τ.1 2).toNatClampNeg, (τ.1 3).toNatClampNeg, (sS (sS X.1 2 0) 5 0, tnγ X.1 k τ)))
    else none
    else
    some ((-100) - ff, (G, S, X))
theorem tn_ret {ty : gT} {ad : Nat → Nat} {wr : va_W} {v r : Int32} {G S G' S' : Nat} {X X' : gC} (h : some (v, (G, S, X)) = some (r, (G', S', X'))) : v = r ∧ ∃ ad' : Nat → Nat, (∀ k, k < 27 → k ≠ 11 → k ≠ 12 → ad' k = ad k) ∧ cw ty ad G S X wr = cw ty ad' G' S' X' wr := by
  cases h
  exact ⟨rfl, ad, fun _ _ _ _ => rfl, rfl⟩
theorem gtd_some {o : Option Int32} (h : o.isSome = true) : o = some (gtd o) := by
  cases o with
  | none => cases h
  | some v => rfl
theorem tnOK_spec {σ : gS} {k : Nat} {τ : gS} {G S : Nat} (h : tnOK σ k τ G S = true) : (G ≤ 5 ∧ S ≤ 4 ∧ τ.1 2 = nI G ∧ τ.1 3 = nI S ∧ k < 4) ∧ (∀ g, g < G → (tt_gateKind σ k τ (nI g)).isSome = true ∧ (tt_gateDigit σ k τ (nI g) 2).isSome = true ∧ (tt_gateDigit σ k τ (nI g) 3).isSome = true) ∧ ∀ g, g < S → (tt_storyDigit σ k τ (nI g) 1).isSome = true ∧ (tt_storyDigit σ k τ (nI g) 2).isSome = true ∧ (tt_storyDigit σ k τ (nI g) 3).isSome = true := by
  unfold tnOK at h
  simp only [Bool.and_eq_true, decide_eq_true_eq, List.all_eq_true, List.mem_range] at h
  exact ⟨h.1.1, fun g hg => ⟨(h.1.2 g hg).1.1, (h.1.2 g hg).1.2, (h.1.2 g hg).2⟩, fun g hg => ⟨(h.2 g hg).1.1, (h.2 g hg).1.2, (h.2 g hg).2⟩⟩
theorem cw_dropL {D : va_G} {ty : gT} {A : Nat → Prop} {s : State} {H0 H : Heap} {locs : List Loc} {ad : Nat → Nat} {G S : Nat} {X : gC} {L wr : va_W} (hw : gW D ty A (cw ty ad G S X (L ++ wr)) s H0 H locs) : gW D ty A (cw ty ad G S X wr) s H0 H locs := by
  have e : ∀ w, cw ty ad G S X w = cw ty ad G S X [] ++ w := by
    intro w
    show cf ty ad (kK ad G S) X.1 (cgs ad G S X.2 w) = cf ty ad (kK ad G S) X.1 (cgs ad G S X.2 []) ++ w
    have e1 : cgs ad G S X.2 w = cgs ad G S X.2 [] ++ w := by unfold cgs; simp
    rw [e1]
    rfl
  rw [e] at hw ⊢
  refine gW.drop (a := L) (gW.perm ?_ hw)
  rw [← List.append_assoc, ← List.append_assoc]
  exact List.Perm.append_right _ List.perm_append_comm
def cx_town_b71 (G : Nat) (S : Nat)  (v3 : Int32) (v4 : Int32) (v5 : Nat) (v6 : Int32) (X : gC) : Option (Int32 × (Nat × Nat × gC)) := 
    if v6 = 0 then
    cx_townMake G S v5 v3 v4 X
    else
    gB2 (cx_failBy G S X v6) fun r3 X4 =>
    some (r3, (G, S, X4))

def cx_town_b52 (G : Nat) (S : Nat)  (v3 : Int32) (v4 : Int32) (v5 : Nat) (v6 : Int32) (X : gC) : Option (Int32 × (Nat × Nat × gC)) := 
    if v6 = 0 then
    if v5 < 4 then
    gB1 (fr_hasCells v5 X.1 v3 v4) fun r8 =>
    if r8 = true then
    cx_town_b71 G S v3 v4 v5 v6 X
    else
    cx_town_b71 G S v3 v4 v5 3 X
    else none
    else
    cx_town_b71 G S v3 v4 v5 v6 X

def cx_town (G : Nat) (S : Nat) (X : gC) (x1 : Int32) (x2 : Int32) (x3 : Int32) (x4 : Int32) : Option (Int32 × (Nat × Nat × gC)) := 
    gLet ((sS X.1 0 0, X.2)) fun X10 =>
    gB1 (cx_rowAt G S X10 x1) fun r12 =>
    gN r12 (
    some ((-1), (G, S, X10))) fun k13 =>
    gB1 (cx_isWithin x2 0 2) fun r15 =>
    if r15 = true then
    if k13 < 4 then
    gB1 (fr_faultTakenAs k13 X10.1 x2) fun r19 =>
    if r19 = 0 then
    if 0 ≤ x4 then
    cx_town_b52 G S x3 x4 k13 r19 X10
    else
    cx_town_b52 G S x3 x4 k13 4 X10
    else
    cx_town_b52 G S x3 x4 k13 r19 X10
    else none
    else
    some ((-2), (G, S, X10))

abbrev rm_cx_town : Room := { frames := 6, cells := 12, slots := 41, locals := 134 }
set_option maxHeartbeats 4000000 in
set_option maxRecDepth 100000 in
theorem ccx_town {l : Launch} {D : va_G} {ty : gT} {A : Nat → Prop} {ad : Nat → Nat} {wr : va_W} {G S G' S' : Nat} {X X' : gC} {x1 x2 x3 x4 r : Int32} (hf : cx_town G S X x1 x2 x3 x4 = some (r, (G', S', X'))) : gJ l D ty A yX10_town wsX10_town rm_cx_town [.ref (ad 0), .int x1, .int x2, .int x3, .int x4] (cw ty ad G S X wr) (fun v u => v = r ∧ ∃ ad' : Nat → Nat, (∀ k, k < 27 → k ≠ 11 → k ≠ 12 → ad' k = ad k) ∧ u = cw ty ad' G' S' X' wr) 12 41 := by
  refine gJ_enter (cc := cX10_town) (maxL := 9) (by decide) rfl (Nat.le_of_ble_eq_true rfl) ?_
  intro p e s m args below meth c Q ls F hl hw hret
  have F : CallFix p m c cX10_town 9 s args wsX10_town RX10 := F
  obtain ⟨hx, hb, hml, hown, hts⟩ := id F
  have hl : lv_has ls 9 [(0, .ref (ad 0)), (1, .int x1), (2, .int x2), (3, .int x3), (4, .int x4)] := hl
  have hinX10 : ∀ w ∈ wsX100, w ∈ wsX10_town := by first | exact fun w h => List.mem_cons_of_mem _ (List.mem_append_left _ (List.mem_append_left _ (List.mem_append_left _ (List.mem_append_left _ (List.mem_append_left _ (List.mem_append_left _ (List.mem_append_left _ (List.mem_append_left _ (List.mem_append_right _ h))))))))) | decide +kernel
  have hinX2 : ∀ w ∈ wsX20, w ∈ wsX10_town := by first | exact fun w h => List.mem_cons_of_mem _ (List.mem_append_left _ (List.mem_append_left _ (List.mem_append_left _ (List.mem_append_left _ (List.mem_append_left _ (List.mem_append_left _ (List.mem_append_right _ h))))))) | decide +kernel
  have hinX7 : ∀ w ∈ wsX70, w ∈ wsX10_town := by first | exact fun w h => List.mem_cons_of_mem _ (List.mem_append_left _ (List.mem_append_left _ (List.mem_append_left _ (List.mem_append_left _ (List.mem_append_left _ (List.mem_append_left _ (List.mem_append_left _ (List.mem_append_right _ h)))))))) | decide +kernel
  have hinX8 : ∀ w ∈ wsX80, w ∈ wsX10_town := by first | exact fun w h => List.mem_cons_of_mem _ (List.mem_append_left _ (List.mem_append_left _ (List.mem_append_left _ (List.mem_append_left _ (List.mem_append_left _ (List.mem_append_right _ h)))))) | decide +kernel
  have kf45 := hts (.fieldLink RX10 45 "GossipGate" "latestFault" "I") (by decide +kernel)
  have kf20 := hts (.fieldLink RX10 20 "GossipGate" "theTown" "LGossipGate$Town;") (by decide +kernel)
  have kf34 := hts (.fieldLink RX10 34 "GossipGate" "readings" "LGossipGate$Readings;") (by decide +kernel)
  have kf82 := hts (.fieldLink RX10 82 "GossipGate$Readings" "count" "I") (by decide +kernel)
  have kf85 := hts (.fieldLink RX10 85 "GossipGate$Town" "stories" "[LGossipGate$Story;") (by decide +kernel)
  have mk83 : ∀ (k : Nat) (x3 x4 : Int32) (X : gC) (H : Heap) (locs : List Loc) (ls : Array Slot), lv_has ls 9 [(0, .ref (ad 0)), (3, .int x3), (4, .int x4), (5, .ref (ad (2 + k)))] → gW D ty A (cw ty ad G S X wr) s s.heap H locs → cx_townMake G S k x3 x4 X = some (r, (G', S', X')) → W p l e rm_cx_town s m args below meth c H locs 0 0 Q (F0 m 83 ls []) := by
    intro k x3 x4 X H locs ls hl hw hf
    unfold cx_townMake at hf
    obtain ⟨ff, τ, h1, hf⟩ := g_b2 hf
    refine g_new (C := RX7) (T := TX7) (N := 5) (ci := 7) (fs := [.null, .int 0, .int 0, .int 0, .int 0]) F hinX7 tyX7 tyX7_ok (hts (.classLink RX10 69 RX7) (by decide +kernel)) (hts (.instantiable RX7 5) (by decide +kernel)) (hts (.initialized RX7) (by decide +kernel)) hw rfl (fun j hj => by rcases (show j = 0 ∨ j = 1 ∨ j = 2 ∨ j = 3 ∨ j = 4 by omega) with rfl | rfl | rfl | rfl | rfl <;> rfl) (Nat.le_of_ble_eq_true rfl) (Nat.le_of_ble_eq_true rfl) dX10_town_83 (fun tx H hw => ?_)
    refine lv_dup hx hb dX10_town_86 rfl ?_
    refine lv_aload hx hb dX10_town_87 (lv_at hl 3 rfl) ?_
    refine lv_iload_n hx hb dX10_town_89 rfl (lv_at hl 1 rfl) ?_
    refine lv_iload hx hb dX10_town_90 (lv_at hl 2 rfl) ?_
    refine g_mC (va_runI F (As := [.ref (ad (2 + k)), .int x3, .int x4]) (rest := [.ref tx]) (ci_X7 (wr := cw ty ad G S X wr)) (cwI 3 hts gX10_town_X7_init rfl rfl rfl (hts (.initialized RX7) (by decide +kernel)) (hts (.methodLink RX10 71 yX7_init) (by decide +kernel)) (hts (.instanceMethod yX7_init) (by decide +kernel)) rfl (by decide +kernel) ⟨Nat.le_of_ble_eq_true rfl, Nat.le_of_ble_eq_true rfl⟩) ⟨gO_blind, hw.pre _⟩ rfl rfl hl.1 rfl (lv_room (Nat.le_of_ble_eq_true rfl)) dX10_town_92 ⟨(Nat.le_of_ble_eq_true rfl), (Nat.le_of_ble_eq_true rfl)⟩) hw (fun u H locs hu hw => ?_)
    subst hu
    have hw : gW D ty A (tw ty ad (kK ad G S) X.1 tx k (tau0 x3 x4) (cgs ad G S X.2 wr)) s s.heap H locs := gW.perm (cf_in _) hw
    refine lv_astore (lv' := [(7, .ref tx), (0, .ref (ad 0)), (3, .int x3), (4, .int x4), (5, .ref (ad (2 + k)))]) hx hb dX10_town_95 hl (by decide) rfl (fun ls hl => ?_)
    refine lv_aload hx hb dX10_town_97 (lv_at hl 0 rfl) ?_
    refine g_cIc F (As := []) (rest := []) (ctt_firstFault h1) (cwV 0 hts gX10_town_X7_firstFault rfl rfl rfl (by decide +kernel) ⟨Nat.le_of_ble_eq_true rfl, Nat.le_of_ble_eq_true rfl⟩) hw (hw.recv (ci := 7) (q0 := 27) rfl rfl rfl) rfl hl.1 rfl (Nat.le_of_ble_eq_true rfl) dX10_town_99 (Nat.le_of_ble_eq_true rfl) (Nat.le_of_ble_eq_true rfl) (fun H locs hw => ?_)
    refine lv_istore (lv' := [(8, .int ff), (7, .ref tx), (0, .ref (ad 0)), (3, .int x3), (4, .int x4), (5, .ref (ad (2 + k)))]) hx hb dX10_town_102 hl (by decide) rfl (fun ls hl => ?_)
    refine lv_iload hx hb dX10_town_104 (lv_at hl 0 rfl) ?_
    refine lv_bipush (v := (-9)) hx hb dX10_town_106 (by decide) ?_
    refine lv_icmp_eq (tgt := 117) hx hb dX10_town_108 (by decide) (fun c1 => ?_) (fun c1 => ?_)
    · have hf := g_t c1 hf
      obtain ⟨g1, hf⟩ := g_g hf
      obtain ⟨⟨q1, q2, q3, q4, q5⟩, q6, q7⟩ := tnOK_spec g1
      refine lv_aload_n hx hb dX10_town_117 rfl (lv_at hl 2 rfl) ?_
      refine cf_get_X10_1 F hinX10 hw kf20 dX10_town_118 ?_
      refine lv_aload hx hb dX10_town_121 (lv_at hl 1 rfl) ?_
      refine g_mC (va_runV F (As := [.ref tx]) (rest := []) (c_settle q1 q2 q3 q4 q5 (fun g hg => gtd_some (q6 g hg).1) (fun g hg => gtd_some (q6 g hg).2.1) (fun g hg => gtd_some (q6 g hg).2.2) (fun g hg => gtd_some (q7 g hg).1) (fun g hg => gtd_some (q7 g hg).2.1) (fun g hg => gtd_some (q7 g hg).2.2)) (cwV 1 hts gX10_town_X8_settle rfl rfl rfl (by decide +kernel) ⟨Nat.le_of_ble_eq_true rfl, Nat.le_of_ble_eq_true rfl⟩) ⟨gO_blind, hw.recv (ci := 8) (q0 := 10) rfl rfl rfl, hw.pre _⟩ rfl rfl hl.1 rfl (lv_room (Nat.le_of_ble_eq_true rfl)) dX10_town_123 ⟨(Nat.le_of_ble_eq_true rfl), (Nat.le_of_ble_eq_true rfl)⟩) hw (fun u H locs hu hw => ?_)
      obtain ⟨ad', had, rfl⟩ := hu
      have hw := cw_dropL (L := (List.range G).map (cgt ad X.2) ++ (List.range S).map (cst ad X.2)) (wr := wr) (gW.eq (by unfold cgs; rw [List.append_assoc]) hw)
      have hl : lv_has ls 9 [(8, .int ff), (7, .ref tx), (0, .ref (ad' 0)), (3, .int x3), (4, .int x4), (5, .ref (ad (2 + k)))] := by rw [had 0 (by decide) (by decide) (by decide)]; exact hl
      refine lv_aload_n hx hb dX10_town_126 rfl (lv_at hl 2 rfl) ?_
      refine cf_get_X10_3 F hinX10 hw kf34 dX10_town_127 ?_
      refine lv_iconst (v := 0) hx hb dX10_town_130 (by decide) ?_
      refine cf_put_X2_2 F hinX2 hw kf82 dX10_town_131 (fun H locs hw => ?_)
      refine lv_aload_n hx hb dX10_town_134 rfl (lv_at hl 2 rfl) ?_
      refine cf_get_X10_1 F hinX10 hw kf20 dX10_town_135 ?_
      refine cf_get_X8_1 F hinX8 hw kf85 dX10_town_138 ?_
      refine cf_len_12 F hw dX10_town_141 ?_
      cases hf
      exact hret _ _ _ _ _ _ _ _ (Nat.le_of_ble_eq_true rfl) (Nat.le_of_ble_eq_true rfl) ⟨rfl, ad', had, rfl⟩ hw dX10_town_142
    · have hf := g_f c1 hf
      have hw := (gW.perm (cf_in _).symm hw).tail
      refine lv_bipush (v := (-100)) hx hb dX10_town_111 (by decide) ?_
      refine lv_iload hx hb dX10_town_113 (lv_at hl 0 rfl) ?_
      refine lv_isub hx hb dX10_town_115 ?_
      exact hret _ _ _ _ _ _ _ _ (Nat.le_of_ble_eq_true rfl) (Nat.le_of_ble_eq_true rfl) (tn_ret (ty := ty) (ad := ad) (wr := wr) hf) hw dX10_town_116
  have B71 : ∀ (v3 : Int32) (v4 : Int32) (v5 : Nat) (v6 : Int32) (X : gC) (H : Heap) (locs : List Loc) (ls : Array Slot), lv_has ls 9 [(0, .ref (ad 0)), (3, .int v3), (4, .int v4), (5, .ref (ad (2 + v5))), (6, .int v6)] → gW D ty A (cw ty ad G S X wr) s s.heap H locs → cx_town_b71 G S v3 v4 v5 v6 X = some (r, (G', S', X')) → W p l e rm_cx_town s m args below meth c H locs 0 0 Q (F0 m 71 ls []) := by
    intro v3 v4 v5 v6 X H locs ls hl hw hf
    unfold cx_town_b71 at hf
    refine lv_iload hx hb dX10_town_71 (lv_at hl 4 rfl) ?_
    refine lv_if_eq (tgt := 83) hx hb dX10_town_73 (by decide) (fun c1 => ?_) (fun c1 => ?_)
    · have hf := g_t c1 hf
      exact mk83 v5 v3 v4 X _ _ _ (lv_sub hl [0, 1, 2, 3] rfl) hw hf
    · have hf := g_f c1 hf
      refine lv_aload_n hx hb dX10_town_76 rfl (lv_at hl 0 rfl) ?_
      refine lv_iload hx hb dX10_town_77 (lv_at hl 4 rfl) ?_
      obtain ⟨r3, X4, h2, hf⟩ := g_b2 hf
      refine g_cI F (As := [.int v6]) (rest := []) (ccx_failBy h2) (cwV 1 hts gX10_town_X10_failBy rfl rfl rfl (by decide +kernel) ⟨Nat.le_of_ble_eq_true rfl, Nat.le_of_ble_eq_true rfl⟩) hw (hw.recv (ci := 10) (q0 := 0) rfl rfl rfl) rfl hl.1 rfl (Nat.le_of_ble_eq_true rfl) dX10_town_79 (fun H locs hw => ?_)
      exact hret _ _ _ _ _ _ _ _ (Nat.zero_le _) (Nat.zero_le _) (tn_ret hf) hw dX10_town_82
  have B52 : ∀ (v3 : Int32) (v4 : Int32) (v5 : Nat) (v6 : Int32) (X : gC) (H : Heap) (locs : List Loc) (ls : Array Slot), lv_has ls 9 [(0, .ref (ad 0)), (3, .int v3), (4, .int v4), (5, .ref (ad (2 + v5))), (6, .int v6)] → gW D ty A (cw ty ad G S X wr) s s.heap H locs → cx_town_b52 G S v3 v4 v5 v6 X = some (r, (G', S', X')) → W p l e rm_cx_town s m args below meth c H locs 0 0 Q (F0 m 52 ls []) := by
    intro v3 v4 v5 v6 X H locs ls hl hw hf
    unfold cx_town_b52 at hf
    refine lv_iload hx hb dX10_town_52 (lv_at hl 4 rfl) ?_
    refine lv_if_ne (tgt := 71) hx hb dX10_town_54 (by decide) (fun c5 => ?_) (fun c5 => ?_)
    · have hf := g_f c5 hf
      exact B71 v3 v4 v5 v6 X _ _ _ (lv_sub hl [0, 1, 2, 3, 4] rfl) hw hf
    · have hf := g_t c5 hf
      refine lv_aload hx hb dX10_town_57 (lv_at hl 3 rfl) ?_
      refine lv_iload_n hx hb dX10_town_59 rfl (lv_at hl 1 rfl) ?_
      refine lv_iload hx hb dX10_town_60 (lv_at hl 2 rfl) ?_
      obtain ⟨g7, hf⟩ := g_g hf
      obtain ⟨r8, h6, hf⟩ := g_b1 hf
      refine g_cI F (As := [.int v3, .int v4]) (rest := []) (cfr_hasCells h6) (cwV 2 hts gX10_town_X4_hasCells rfl rfl rfl (by decide +kernel) ⟨Nat.le_of_ble_eq_true rfl, Nat.le_of_ble_eq_true rfl⟩) hw (hw.recv (ci := 4) (q0 := 2 + v5) rfl rfl (cf_row g7)) rfl hl.1 rfl (Nat.le_of_ble_eq_true rfl) dX10_town_62 (fun H locs hw => ?_)
      refine lv_if_ne (tgt := 71) hx hb dX10_town_65 (by decide) (fun c9 => ?_) (fun c9 => ?_)
      · have hf := g_t (bI_nz c9) hf
        exact B71 v3 v4 v5 v6 X _ _ _ (lv_sub hl [0, 1, 2, 3, 4] rfl) hw hf
      · have hf := g_f (bI_z c9) hf
        refine lv_iconst (v := 3) hx hb dX10_town_68 (by decide) ?_
        refine lv_istore (lv' := [(6, .int 3), (0, .ref (ad 0)), (3, .int v3), (4, .int v4), (5, .ref (ad (2 + v5)))]) hx hb dX10_town_69 hl (by decide) rfl (fun ls hl => ?_)
        exact B71 v3 v4 v5 3 X _ _ _ (lv_sub hl [1, 2, 3, 4, 0] rfl) hw hf
  unfold cx_town at hf
  refine lv_aload_n hx hb dX10_town_0 rfl (lv_at hl 0 rfl) ?_
  refine lv_iconst (v := 0) hx hb dX10_town_1 (by decide) ?_
  refine cf_put_X10_5 F hinX10 hw kf45 dX10_town_2 (fun H locs hw => ?_)
  obtain ⟨X10, eX10, hf⟩ := g_let hf
  have hw := cw_re eX10 hw
  refine lv_aload_n hx hb dX10_town_5 rfl (lv_at hl 0 rfl) ?_
  refine lv_iload_n hx hb dX10_town_6 rfl (lv_at hl 1 rfl) ?_
  obtain ⟨r12, h11, hf⟩ := g_b1 hf
  refine g_cQ F (As := [.int x1]) (rest := []) (ccx_rowAt h11) (cwV 1 hts gX10_town_X10_rowAt rfl rfl rfl (by decide +kernel) ⟨Nat.le_of_ble_eq_true rfl, Nat.le_of_ble_eq_true rfl⟩) hw (hw.recv (ci := 10) (q0 := 0) rfl rfl rfl) rfl hl.1 rfl (Nat.le_of_ble_eq_true rfl) dX10_town_7 (fun H locs hw => ?_)
  rcases r12 with _ | k13
  · replace hf := gN_n hf
    refine lv_astoreN (lv' := [(5, .null), (0, .ref (ad 0)), (1, .int x1), (2, .int x2), (3, .int x3), (4, .int x4)]) hx hb dX10_town_10 hl (by decide) rfl (fun ls hl => ?_)
    refine lv_aloadN hx hb dX10_town_12 (lv_at hl 0 rfl) ?_
    refine lv_ifnonnullN hx hb dX10_town_14 ?_
    refine lv_iconst (v := (-1)) hx hb dX10_town_17 (by decide) ?_
    exact hret _ _ _ _ _ _ _ _ (Nat.zero_le _) (Nat.zero_le _) (tn_ret hf) hw dX10_town_18
  · replace hf := gN_s hf
    refine lv_astore (lv' := [(5, .ref (ad (2 + k13))), (0, .ref (ad 0)), (1, .int x1), (2, .int x2), (3, .int x3), (4, .int x4)]) hx hb dX10_town_10 hl (by decide) rfl (fun ls hl => ?_)
    refine lv_aload hx hb dX10_town_12 (lv_at hl 0 rfl) ?_
    refine lv_ifnonnull (tgt := 19) hx hb dX10_town_14 (by decide) ?_
    refine lv_iload_n hx hb dX10_town_19 rfl (lv_at hl 3 rfl) ?_
    refine lv_iconst (v := 0) hx hb dX10_town_20 (by decide) ?_
    refine lv_iconst (v := 2) hx hb dX10_town_21 (by decide) ?_
    obtain ⟨r15, h14, hf⟩ := g_b1 hf
    refine g_sI F (As := [.int x2, .int 0, .int 2]) (rest := []) (ccx_isWithin h14) (va_cwS 3 hts gX10_town_X10_isWithin rfl rfl rfl (by decide +kernel) ⟨Nat.le_of_ble_eq_true rfl, Nat.le_of_ble_eq_true rfl⟩) hw rfl hl.1 rfl (Nat.le_of_ble_eq_true rfl) dX10_town_22 (fun H locs hw => ?_)
    refine lv_if_ne (tgt := 31) hx hb dX10_town_25 (by decide) (fun c16 => ?_) (fun c16 => ?_)
    · have hf := g_t (bI_nz c16) hf
      refine lv_aload hx hb dX10_town_31 (lv_at hl 0 rfl) ?_
      refine lv_iload_n hx hb dX10_town_33 rfl (lv_at hl 3 rfl) ?_
      obtain ⟨g18, hf⟩ := g_g hf
      obtain ⟨r19, h17, hf⟩ := g_b1 hf
      refine g_cI F (As := [.int x2]) (rest := []) (cfr_faultTakenAs h17) (cwV 1 hts gX10_town_X4_faultTakenAs rfl rfl rfl (by decide +kernel) ⟨Nat.le_of_ble_eq_true rfl, Nat.le_of_ble_eq_true rfl⟩) hw (hw.recv (ci := 4) (q0 := 2 + k13) rfl rfl (cf_row g18)) rfl hl.1 rfl (Nat.le_of_ble_eq_true rfl) dX10_town_34 (fun H locs hw => ?_)
      refine lv_istore (lv' := [(6, .int r19), (5, .ref (ad (2 + k13))), (0, .ref (ad 0)), (1, .int x1), (2, .int x2), (3, .int x3), (4, .int x4)]) hx hb dX10_town_37 hl (by decide) rfl (fun ls hl => ?_)
      refine lv_iload hx hb dX10_town_39 (lv_at hl 0 rfl) ?_
      refine lv_if_ne (tgt := 52) hx hb dX10_town_41 (by decide) (fun c20 => ?_) (fun c20 => ?_)
      · have hf := g_f c20 hf
        exact B52 x3 x4 k13 r19 X10 _ _ _ (lv_sub hl [2, 5, 6, 1, 0] rfl) hw hf
      · have hf := g_t c20 hf
        refine lv_iload hx hb dX10_town_44 (lv_at hl 6 rfl) ?_
        refine lv_if_ge (tgt := 52) hx hb dX10_town_46 (by decide) (fun c21 => ?_) (fun c21 => ?_)
        · have hf := g_t c21 hf
          exact B52 x3 x4 k13 r19 X10 _ _ _ (lv_sub hl [2, 5, 6, 1, 0] rfl) hw hf
        · have hf := g_f c21 hf
          refine lv_iconst (v := 4) hx hb dX10_town_49 (by decide) ?_
          refine lv_istore (lv' := [(6, .int 4), (5, .ref (ad (2 + k13))), (0, .ref (ad 0)), (1, .int x1), (2, .int x2), (3, .int x3), (4, .int x4)]) hx hb dX10_town_50 hl (by decide) rfl (fun ls hl => ?_)
          exact B52 x3 x4 k13 4 X10 _ _ _ (lv_sub hl [2, 5, 6, 1, 0] rfl) hw hf
    · have hf := g_f (bI_z c16) hf
      refine lv_bipush (v := (-2)) hx hb dX10_town_28 (by decide) ?_
      exact hret _ _ _ _ _ _ _ _ (Nat.zero_le _) (Nat.zero_le _) (tn_ret hf) hw dX10_town_30
