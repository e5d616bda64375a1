/-! settle: a town out of a text that has no fault -/
theorem perm_xo {α : Type} (x o : α) (L B : List α) : (x :: (L ++ o :: B)).Perm (o :: (L ++ x :: B)) :=
  (List.Perm.cons x List.perm_middle).trans ((List.Perm.swap o x _).trans (List.Perm.cons o List.perm_middle.symm))
def gcl (ga : Nat → Nat) (Kg Rg Dg : Nat → Int32) (g : Nat) : Nat × va_E := (ga g, .inr (kc (Kg g), [.int (nI g), .int (Dg g), .int (Rg g)]))
def scl (sa : Nat → Nat) (Ls Ps Bs : Nat → Int32) (k : Nat) : Nat × va_E := (sa k, .inr (5, [.int (Ls k), .int (Ps k), .int (Bs k)]))
def fga (ga : Nat → Nat) (i : Nat) : Nat → Option Nat := fun j => if j < i then some (ga j) else none
def gγ (Kg Rg Dg Ls Ps Bs : Nat → Int32) : gS := (fun _ => 0, fun k => match k with
  | 0 => Kg
  | 1 => Rg
  | 2 => Dg
  | 3 => Ls
  | 4 => Ps
  | _ => Bs)
theorem fga_0 (ga : Nat → Nat) : fga ga 0 = fun _ => none := by funext j; simp [fga]
theorem fga_s (ga : Nat → Nat) (i q : Nat) : va_up (fga ga i) i (some q) = fga (va_up ga i q) (i + 1) := by
  funext j
  unfold va_up fga
  by_cases h : j = i
  · subst h; simp
  · by_cases h2 : j < i
    · have : j < i + 1 := by omega
      simp [h, h2, this]
    · have : ¬ j < i + 1 := by omega
      simp [h, h2, this]
theorem gcl_s {ga : Nat → Nat} {Kg Rg Dg : Nat → Int32} {i q : Nat} : (List.range (i + 1)).map (gcl (va_up ga i q) Kg Rg Dg) = (List.range i).map (gcl ga Kg Rg Dg) ++ [(q, .inr (kc (Kg i), [.int (nI i), .int (Dg i), .int (Rg i)]))] := by
  rw [List.range_succ, List.map_append]
  congr 1
  · apply List.map_congr_left
    intro g hg
    have : g ≠ i := by have := List.mem_range.mp hg; omega
    simp [gcl, va_up, this]
  · simp [gcl, va_up]
theorem scl_s {sa : Nat → Nat} {Ls Ps Bs : Nat → Int32} {i q : Nat} : (List.range (i + 1)).map (scl (va_up sa i q) Ls Ps Bs) = (List.range i).map (scl sa Ls Ps Bs) ++ [(q, .inr (5, [.int (Ls i), .int (Ps i), .int (Bs i)]))] := by
  rw [List.range_succ, List.map_append]
  congr 1
  · apply List.map_congr_left
    intro g hg
    have : g ≠ i := by have := List.mem_range.mp hg; omega
    simp [scl, va_up, this]
  · simp [scl, va_up]
theorem perm_in {x : Nat × va_E} {t : Nat × va_E} {L R : va_W} {ty : gT} {ad : Nat → Nat} {K : gK} {σ : gS} : (x :: cf ty ad K σ (t :: (L ++ R))).Perm (cf ty ad K σ (t :: ((L ++ [x]) ++ R))) := by
  refine (cf_in x).trans (cf_perm ?_)
  refine (List.Perm.swap t x _).trans (List.Perm.cons t ?_)
  rw [List.append_assoc]
  exact List.perm_middle.symm
section STL
variable {D : va_G} {ty : gT} {A : Nat → Prop} {s : State} {H0 H : Heap} {locs : List Loc} {ad : Nat → Nat} {K : gK} {σ τ : gS} {wr w : va_W} {tx kr q G S : Nat}
theorem txc_up {j : Nat} (hkr : kr < 4) (hj : 6 ≤ j) : txc (va_up ad j q) tx kr τ = txc ad tx kr τ := by
  have : va_up ad j q (2 + kr) = ad (2 + kr) := by unfold va_up; rw [if_neg (by omega)]
  simp only [txc, this]
theorem put_gates {fg : Nat → Option Nat} (hw : gW D ty A ((q, .inl (ty 1, G, .inr (.inr (.inr (.inr fg))))) :: (cf ty ad K σ w).set 10 (ad 10, .inr (8, [.ref q, .ref (ad 12), .int (σ.1 2), .ref (ad 13), .ref (ad 14), .ref (ad 15)]))) s H0 H locs) : gW D ty A (cf ty (va_up ad 11 q) (G, K.2.1, fg, K.2.2.2) σ w) s H0 H locs := by
  have e2 : cf ty (va_up ad 11 q) (G, K.2.1, fg, K.2.2.2) σ w = ((cf ty ad K σ w).set 10 (ad 10, .inr (8, [.ref q, .ref (ad 12), .int (σ.1 2), .ref (ad 13), .ref (ad 14), .ref (ad 15)]))).take 11 ++ (q, .inl (ty 1, G, .inr (.inr (.inr (.inr fg))))) :: ((cf ty ad K σ w).set 10 (ad 10, .inr (8, [.ref q, .ref (ad 12), .int (σ.1 2), .ref (ad 13), .ref (ad 14), .ref (ad 15)]))).drop 12 := rfl
  rw [e2]
  exact (gW.perm (perm_xo _ (ad 11, .inl (ty 1, K.1, .inr (.inr (.inr (.inr K.2.2.1))))) _ _) (gW.eq rfl hw)).tail
theorem put_stories {fs : Nat → Option Nat} (hw : gW D ty A ((q, .inl (ty 3, S, .inr (.inr (.inr (.inr fs))))) :: (cf ty ad K σ w).set 10 (ad 10, .inr (8, [.ref (ad 11), .ref q, .int (σ.1 2), .ref (ad 13), .ref (ad 14), .ref (ad 15)]))) s H0 H locs) : gW D ty A (cf ty (va_up ad 12 q) (K.1, S, K.2.2.1, fs) σ w) s H0 H locs := by
  have e2 : cf ty (va_up ad 12 q) (K.1, S, K.2.2.1, fs) σ w = ((cf ty ad K σ w).set 10 (ad 10, .inr (8, [.ref (ad 11), .ref q, .int (σ.1 2), .ref (ad 13), .ref (ad 14), .ref (ad 15)]))).take 12 ++ (q, .inl (ty 3, S, .inr (.inr (.inr (.inr fs))))) :: ((cf ty ad K σ w).set 10 (ad 10, .inr (8, [.ref (ad 11), .ref q, .int (σ.1 2), .ref (ad 13), .ref (ad 14), .ref (ad 15)]))).drop 13 := rfl
  rw [e2]
  exact (gW.perm (perm_xo _ (ad 12, .inl (ty 3, K.2.1, .inr (.inr (.inr (.inr K.2.2.2))))) _ _) (gW.eq rfl hw)).tail
/-- the town stands: its parts as the class's world has them -/
theorem settled {ga sa : Nat → Nat} {Kg Rg Dg Ls Ps Bs : Nat → Int32} (hG : G ≤ 5) (hS : S ≤ 4) (hw : gW D ty A (tw ty ad (G, S, fga ga G, fga sa S) σ tx kr τ ((List.range S).map (scl sa Ls Ps Bs) ++ ((List.range G).map (gcl ga Kg Rg Dg) ++ wr))) s H0 H locs) :
    ∃ ad' : Nat → Nat, (∀ k, k < 27 → ad' k = ad k) ∧ gW D ty A (cw ty ad' G S (σ, gγ Kg Rg Dg Ls Ps Bs) wr) s H0 H locs := by
  refine ⟨fun k => if 200 ≤ k then sa (k - 200) else if 100 ≤ k then ga (k - 100) else ad k, fun k hk => ?_, ?_⟩
  · show (if 200 ≤ k then sa (k - 200) else if 100 ≤ k then ga (k - 100) else ad k) = ad k
    rw [if_neg (by omega), if_neg (by omega)]
  · have hw := (gW.perm (cf_in _).symm hw).tail
    have hw := cf_ext (fg' := fun g => some ((fun k => if 200 ≤ k then sa (k - 200) else if 100 ≤ k then ga (k - 100) else ad k) (100 + g))) (fs' := fun g => some ((fun k => if 200 ≤ k then sa (k - 200) else if 100 ≤ k then ga (k - 100) else ad k) (200 + g))) (fun j hj => by
      show fga ga G j = some (if 200 ≤ 100 + j then sa (100 + j - 200) else if 100 ≤ 100 + j then ga (100 + j - 100) else ad (100 + j))
      rw [if_neg (by omega), if_pos (by omega), Nat.add_sub_cancel_left]
      simp [fga, hj]) (fun j hj => by
      show fga sa S j = some (if 200 ≤ 200 + j then sa (200 + j - 200) else if 100 ≤ 200 + j then ga (200 + j - 100) else ad (200 + j))
      rw [if_pos (by omega), Nat.add_sub_cancel_left]
      simp [fga, hj]) hw
    show gW D ty A (cf ty _ _ σ (cgs _ G S (gγ Kg Rg Dg Ls Ps Bs) wr)) s H0 H locs
    rw [cf_ad (ad := ad) (fun k hk => by
      show (if 200 ≤ k then sa (k - 200) else if 100 ≤ k then ga (k - 100) else ad k) = ad k
      rw [if_neg (by omega), if_neg (by omega)])]
    refine gW.perm (cf_perm ?_) hw
    unfold cgs
    have e1 : (List.range G).map (cgt (fun k => if 200 ≤ k then sa (k - 200) else if 100 ≤ k then ga (k - 100) else ad k) (gγ Kg Rg Dg Ls Ps Bs)) = (List.range G).map (gcl ga Kg Rg Dg) := by
      apply List.map_congr_left
      intro g hg
      have := List.mem_range.mp hg
      unfold cgt gcl
      dsimp only
      rw [if_neg (by omega), if_pos (by omega), Nat.add_sub_cancel_left]
      rfl
    have e2 : (List.range S).map (cst (fun k => if 200 ≤ k then sa (k - 200) else if 100 ≤ k then ga (k - 100) else ad k) (gγ Kg Rg Dg Ls Ps Bs)) = (List.range S).map (scl sa Ls Ps Bs) := by
      apply List.map_congr_left
      intro k hk
      unfold cst scl
      dsimp only
      rw [if_pos (by omega), Nat.add_sub_cancel_left]
      rfl
    rw [e1, e2]
    rw [← List.append_assoc, ← List.append_assoc]
    exact List.Perm.append_right _ List.perm_append_comm
end STL
abbrev rm_settle : Room := { frames := 5, cells := 11, slots := 36, locals := 112 }
set_option maxHeartbeats 4000000 in
set_option maxRecDepth 100000 in
theorem c_settle {l : Launch} {D : va_G} {ty : gT} {A : Nat → Prop} {ad : Nat → Nat} {K : gK} {σ τ : gS} {tx kr : Nat} {wr : va_W} {G S : Nat} {Kg Rg Dg Ls Ps Bs : Nat → Int32} (hG : G ≤ 5) (hS : S ≤ 4) (hgc : τ.1 2 = nI G) (hsc : τ.1 3 = nI S) (hkr : kr < 4)
    (hK : ∀ g, g < G → tt_gateKind σ kr τ (nI g) = some (Kg g)) (hR : ∀ g, g < G → tt_gateDigit σ kr τ (nI g) 2 = some (Rg g)) (hDg : ∀ g, g < G → tt_gateDigit σ kr τ (nI g) 3 = some (Dg g))
    (hL : ∀ k, k < S → tt_storyDigit σ kr τ (nI k) 1 = some (Ls k)) (hPs : ∀ k, k < S → tt_storyDigit σ kr τ (nI k) 2 = some (Ps k)) (hB : ∀ k, k < S → tt_storyDigit σ kr τ (nI k) 3 = some (Bs k)) :
    gM l D ty A yX8_settle wsX8_settle rm_settle [.ref (ad 10), .ref tx] (tw ty ad K σ tx kr τ wr) (fun u => ∃ ad' : Nat → Nat, (∀ k, k < 27 → k ≠ 11 → k ≠ 12 → ad' k = ad k) ∧ u = cw ty ad' G S (sS σ 2 0, gγ Kg Rg Dg Ls Ps Bs) wr) 11 36 := by
  refine gM_enter (cc := cX8_settle) (maxL := 3) (by decide) rfl (Nat.le_of_ble_eq_true rfl) ?_
  intro p e s m args below meth c Q ls _ F hl hw hret
  have F : CallFix p m c cX8_settle 3 s args wsX8_settle RX8 := F
  obtain ⟨hx, hb, hml, hown, hts⟩ := id F
  have hl : lv_has ls 3 [(0, .ref (ad 10)), (1, .ref tx)] := hl
  have hinX0 : ∀ w ∈ wsX00, w ∈ wsX8_settle := by first | exact fun w h => List.mem_cons_of_mem _ (List.mem_append_right _ h) | decide +kernel
  have hinX1 : ∀ w ∈ wsX10, w ∈ wsX8_settle := by first | exact fun w h => List.mem_cons_of_mem _ (List.mem_append_left _ (List.mem_append_right _ h)) | decide +kernel
  have hinX6 : ∀ w ∈ wsX60, w ∈ wsX8_settle := by first | exact fun w h => List.mem_cons_of_mem _ (List.mem_append_left _ (List.mem_append_left _ (List.mem_append_right _ h))) | decide +kernel
  have hinX5 : ∀ w ∈ wsX50, w ∈ wsX8_settle := by first | exact fun w h => List.mem_cons_of_mem _ (List.mem_append_left _ (List.mem_append_left _ (List.mem_append_left _ (List.mem_append_left _ (List.mem_append_right _ h))))) | decide +kernel
  have hinX7 : ∀ w ∈ wsX70, w ∈ wsX8_settle := by first | exact fun w h => List.mem_cons_of_mem _ (List.mem_append_left _ (List.mem_append_left _ (List.mem_append_left _ (List.mem_append_left _ (List.mem_append_left _ (List.mem_append_left _ (List.mem_append_right _ h))))))) | decide +kernel
  have hinX8 : ∀ w ∈ wsX80, w ∈ wsX8_settle := by first | exact fun w h => List.mem_cons_of_mem _ (List.mem_append_left _ (List.mem_append_left _ (List.mem_append_left _ (List.mem_append_left _ (List.mem_append_left _ (List.mem_append_right _ h)))))) | decide +kernel
  have kf11 := hts (.fieldLink RX8 11 "GossipGate$Town" "gates" "[LGossipGate$Gate;") (by decide +kernel)
  have kf19 := hts (.fieldLink RX8 19 "GossipGate$Town" "stories" "[LGossipGate$Story;") (by decide +kernel)
  have kf23 := hts (.fieldLink RX8 23 "GossipGate$Town" "harmlessSize" "I") (by decide +kernel)
  have kf50 := hts (.fieldLink RX8 50 "GossipGate$Text" "gateCount" "I") (by decide +kernel)
  have kf66 := hts (.fieldLink RX8 66 "GossipGate$Text" "storyCount" "I") (by decide +kernel)
  have kc9 := hts (.classLink RX8 9 RX0) (by decide +kernel)
  have kc17 := hts (.classLink RX8 17 RX5) (by decide +kernel)
  have kin5 := hts (.instantiable RX5 3) (by decide +kernel)
  have kit5 := hts (.initialized RX5) (by decide +kernel)
  have kml72 := hts (.methodLink RX8 72 yX5_init) (by decide +kernel)
  have kim5 := hts (.instanceMethod yX5_init) (by decide +kernel)
  -- the stories' loop
  have L2 : ∀ (ad2 : Nat → Nat) (ga : Nat → Nat), (∀ k, k < 27 → k ≠ 11 → k ≠ 12 → ad2 k = ad k) → ∀ (n i : Nat) (sa : Nat → Nat) (H : Heap) (locs : List Loc) (ls : Array Slot) (cells slots : Nat), i ≤ S → S - i < n → cells = G + 2 + i → slots = 4 * G + S + 3 * i → lv_has ls 3 [(0, .ref (ad2 10)), (1, .ref tx), (2, .int (nI i))] → gW D ty A (tw ty ad2 (G, S, fga ga G, fga sa i) σ tx kr τ ((List.range i).map (scl sa Ls Ps Bs) ++ ((List.range G).map (gcl ga Kg Rg Dg) ++ wr))) s s.heap H locs → W p l e rm_settle s m args below meth c H locs cells slots Q (F0 m 68 ls []) := by
    intro ad2 ga had n
    induction n with
    | zero => intro i sa H locs ls cells slots _ h; exact absurd h (Nat.not_lt_zero _)
    | succ n ih =>
      intro i sa H locs ls cells slots hi hn hcl hsl hl hw
      refine lv_iload_n hx hb dX8_settle_68 rfl (lv_at hl 2 rfl) ?_
      refine lv_aload_n hx hb dX8_settle_69 rfl (lv_at hl 0 rfl) ?_
      refine cf_get_X8_1 F hinX8 hw kf19 dX8_settle_70 ?_
      refine cf_len_12 F hw dX8_settle_73 ?_
      refine lv_icmp_ge (tgt := 114) hx hb dX8_settle_74 (by decide) (fun c1 => ?_) (fun c1 => ?_)
      · have hiS : i = S := Nat.le_antisymm hi ((nI_leI (by omega) (by omega)).mp c1)
        subst hiS
        refine lv_aload_n hx hb dX8_settle_114 rfl (lv_at hl 0 rfl) ?_
        refine lv_iconst (v := 0) hx hb dX8_settle_115 (by decide) ?_
        refine cf_put_X8_2 F hinX8 hw kf23 dX8_settle_116 (fun H locs hw => ?_)
        obtain ⟨ad', h', hw⟩ := settled hG hS hw
        refine W.widen (k := 11) (n := 36) (by omega) (by omega) ?_
        exact hret _ _ _ _ _ ⟨ad', fun k hk h1 h2 => (h' k hk).trans (had k hk h1 h2), rfl⟩ hw dX8_settle_119
      · have hlt : i < S := Nat.lt_of_not_le fun h => c1 ((nI_leI (a := S) (b := i) (by omega) (by omega)).mpr h)
        refine lv_aload_n hx hb dX8_settle_77 rfl (lv_at hl 0 rfl) ?_
        refine cf_get_X8_1 F hinX8 hw kf19 dX8_settle_78 ?_
        refine lv_iload_n hx hb dX8_settle_81 rfl (lv_at hl 2 rfl) ?_
        refine g_new (C := RX5) (T := TX5) (N := 3) (ci := 5) (fs := [.int 0, .int 0, .int 0]) F hinX5 tyX5 tyX5_ok kc17 kin5 kit5 hw rfl (fun j hj => by rcases (show j = 0 ∨ j = 1 ∨ j = 2 by omega) with rfl | rfl | rfl <;> rfl) (show cells + 1 ≤ 11 by omega) (show slots + 3 ≤ 36 by omega) dX8_settle_82 (fun q H hw => ?_)
        refine lv_dup hx hb dX8_settle_85 rfl ?_
        have hw := gW.perm perm_in hw
        rw [List.append_assoc] at hw
        refine lv_aload_n hx hb dX8_settle_86 rfl (lv_at hl 1 rfl) ?_
        refine lv_iload_n hx hb dX8_settle_87 rfl (lv_at hl 2 rfl) ?_
        refine lv_iconst (v := 1) hx hb dX8_settle_88 (by decide) ?_
        refine g_cIc F (As := [.int (nI i), .int 1]) (rest := [.ref q, .ref q, .int (nI i), .ref (ad2 12)]) (ctt_storyDigit (hL i hlt)) (cwV 2 hts gX8_settle_X7_storyDigit rfl rfl rfl (by decide +kernel) ⟨Nat.le_of_ble_eq_true rfl, Nat.le_of_ble_eq_true rfl⟩) hw (hw.recv (ci := 7) (q0 := 27) rfl rfl rfl) rfl hl.1 rfl (Nat.le_of_ble_eq_true rfl) dX8_settle_89 (show cells + 1 ≤ 11 by omega) (show slots + 3 ≤ 36 by omega) (fun H locs hw => ?_)
        refine lv_aload_n hx hb dX8_settle_92 rfl (lv_at hl 1 rfl) ?_
        refine lv_iload_n hx hb dX8_settle_93 rfl (lv_at hl 2 rfl) ?_
        refine lv_iconst (v := 2) hx hb dX8_settle_94 (by decide) ?_
        refine g_cIc F (As := [.int (nI i), .int 2]) (rest := [.int (Ls i), .ref q, .ref q, .int (nI i), .ref (ad2 12)]) (ctt_storyDigit (hPs i hlt)) (cwV 2 hts gX8_settle_X7_storyDigit rfl rfl rfl (by decide +kernel) ⟨Nat.le_of_ble_eq_true rfl, Nat.le_of_ble_eq_true rfl⟩) hw (hw.recv (ci := 7) (q0 := 27) rfl rfl rfl) rfl hl.1 rfl (Nat.le_of_ble_eq_true rfl) dX8_settle_95 (show cells + 1 ≤ 11 by omega) (show slots + 3 ≤ 36 by omega) (fun H locs hw => ?_)
        refine lv_aload_n hx hb dX8_settle_98 rfl (lv_at hl 1 rfl) ?_
        refine lv_iload_n hx hb dX8_settle_99 rfl (lv_at hl 2 rfl) ?_
        refine lv_iconst (v := 3) hx hb dX8_settle_100 (by decide) ?_
        refine g_cIc F (As := [.int (nI i), .int 3]) (rest := [.int (Ps i), .int (Ls i), .ref q, .ref q, .int (nI i), .ref (ad2 12)]) (ctt_storyDigit (hB i hlt)) (cwV 2 hts gX8_settle_X7_storyDigit rfl rfl rfl (by decide +kernel) ⟨Nat.le_of_ble_eq_true rfl, Nat.le_of_ble_eq_true rfl⟩) hw (hw.recv (ci := 7) (q0 := 27) rfl rfl rfl) rfl hl.1 rfl (Nat.le_of_ble_eq_true rfl) dX8_settle_101 (show cells + 1 ≤ 11 by omega) (show slots + 3 ≤ 36 by omega) (fun H locs hw => ?_)
        rw [← List.append_assoc] at hw
        have hw := gW.perm perm_in.symm hw
        refine g_mC (va_runI F (As := [.int (Ls i), .int (Ps i), .int (Bs i)]) (rest := [.ref q, .int (nI i), .ref (ad2 12)]) ci_X5 (cwI 3 hts gX8_settle_X5_init rfl rfl rfl kit5 kml72 kim5 rfl (by decide +kernel) ⟨Nat.le_of_ble_eq_true rfl, Nat.le_of_ble_eq_true rfl⟩) ⟨gO_blind, hw.pre _⟩ rfl rfl hl.1 rfl (lv_room (Nat.le_of_ble_eq_true rfl)) dX8_settle_104 ⟨show cells + 1 + 0 ≤ 11 by omega, show slots + 3 + 0 ≤ 36 by omega⟩) hw (fun u H locs hu hw => ?_)
        subst hu
        have hi0 : gin (nI i) S = true := by
          unfold gin
          rw [nI_clamp (by omega)]
          have := nI_pos (n := i) (by omega)
          simp [this]; omega
        refine g_astq (q0 := 13) (qk := 0) (cj := 5) (t := 3) (r := (RX5, TX5, 3)) F hw rfl rfl rfl rfl hi0 (ws1 := (q, .inr (5, [.int (Ls i), .int (Ps i), .int (Bs i)])) :: tw ty ad2 (G, S, fga ga G, va_up (fga sa i) (nI i).toNatClampNeg (some q)) σ tx kr τ ((List.range i).map (scl sa Ls Ps Bs) ++ ((List.range G).map (gcl ga Kg Rg Dg) ++ wr))) rfl dX8_settle_107 (fun H locs hw => ?_)
        rw [nI_clamp (by omega), fga_s] at hw
        have hw := gW.perm perm_in hw
        rw [← scl_s] at hw
        refine lv_iinc (v := nI (i + 1)) (lv' := [(2, .int (nI (i + 1))), (0, .ref (ad2 10)), (1, .ref tx)]) hx hb dX8_settle_108 hl (k := 2) rfl (by rw [← nI_1]; rfl) (by decide) rfl (fun ls hl => ?_)
        refine lv_goto (tgt := 68) hx hb dX8_settle_111 (by decide) ?_
        exact ih (i + 1) _ _ _ _ _ _ hlt (by omega) (by omega) (by omega) (lv_sub hl [1, 2, 0] rfl) hw
  -- the gates' loop
  have L1 : ∀ (ad1 : Nat → Nat), (∀ k, k < 27 → k ≠ 11 → ad1 k = ad k) → ∀ (n i : Nat) (ga : Nat → Nat) (H : Heap) (locs : List Loc) (ls : Array Slot) (cells slots : Nat), i ≤ G → G - i < n → cells = 1 + i → slots = G + 3 * i → lv_has ls 3 [(0, .ref (ad1 10)), (1, .ref tx), (2, .int (nI i))] → gW D ty A (tw ty ad1 (G, K.2.1, fga ga i, K.2.2.2) σ tx kr τ ((List.range i).map (gcl ga Kg Rg Dg) ++ wr)) s s.heap H locs → W p l e rm_settle s m args below meth c H locs cells slots Q (F0 m 13 ls []) := by
    intro ad1 had n
    induction n with
    | zero => intro i ga H locs ls cells slots _ h; exact absurd h (Nat.not_lt_zero _)
    | succ n ih =>
      intro i ga H locs ls cells slots hi hn hcl hsl hl hw
      refine lv_iload_n hx hb dX8_settle_13 rfl (lv_at hl 2 rfl) ?_
      refine lv_aload_n hx hb dX8_settle_14 rfl (lv_at hl 0 rfl) ?_
      refine cf_get_X8_0 F hinX8 hw kf11 dX8_settle_15 ?_
      refine cf_len_11 F hw dX8_settle_18 ?_
      refine lv_icmp_ge (tgt := 55) hx hb dX8_settle_19 (by decide) (fun c1 => ?_) (fun c1 => ?_)
      · have hiG : i = G := Nat.le_antisymm hi ((nI_leI (by omega) (by omega)).mp c1)
        subst hiG
        refine lv_aload_n hx hb dX8_settle_55 rfl (lv_at hl 0 rfl) ?_
        refine lv_aload_n hx hb dX8_settle_56 rfl (lv_at hl 1 rfl) ?_
        refine tw_get_4 F hinX7 hw kf66 dX8_settle_57 ?_
        refine g_nm hsc.symm ?_
        refine g_newq (N' := S) (t := 3) F kc17 hw.2.2.2.2.2.2.2.2.1.2.2 hw rfl (nI_pos (by omega)) (nI_clamp (by omega)) (by omega) (show cells + 1 ≤ 11 by omega) (show slots + S ≤ 36 by omega) dX8_settle_60 (fun q H hw => ?_)
        refine g_putv (C := RX8) (T := TX8) (N := 6) (ci := 8) F hinX8 tyX8 tyX8_ok nmX8 hw 11 rfl rfl 1 (by decide) kf19 rfl (fy := .array (.object "GossipGate$Story")) (by decide +kernel) rfl rfl (Nat.le_of_ble_eq_true rfl) (ws1 := (q, .inl (ty 3, S, .inr (.inr (.inr (.inr (fun _ => none)))))) :: (tw ty ad1 (i, K.2.1, fga ga i, K.2.2.2) σ tx kr τ ((List.range i).map (gcl ga Kg Rg Dg) ++ wr)).set 10 (ad1 10, .inr (8, [.ref (ad1 11), .ref q, .int (σ.1 2), .ref (ad1 13), .ref (ad1 14), .ref (ad1 15)]))) rfl dX8_settle_63 (fun H locs hw => ?_)
        have hw := put_stories hw
        rw [← txc_up (j := 12) (q := q) hkr (by omega)] at hw
        refine lv_iconst (v := 0) hx hb dX8_settle_66 (by decide) ?_
        refine lv_istore_n (lv' := [(2, .int 0), (0, .ref (ad1 10)), (1, .ref tx)]) hx hb dX8_settle_67 rfl hl (by decide) rfl (fun ls hl => ?_)
        refine L2 (va_up ad1 12 q) ga (fun k hk h1 h2 => (if_neg h2).trans (had k hk h1)) (S + 1) 0 (fun _ => 0) _ _ _ _ _ (Nat.zero_le _) (by omega) (by omega) (by omega) (lv_sub hl [1, 2, 0] rfl) ?_
        rw [fga_0]
        exact hw
      · have hlt : i < G := Nat.lt_of_not_le fun h => c1 ((nI_leI (a := G) (b := i) (by omega) (by omega)).mpr h)
        refine lv_aload_n hx hb dX8_settle_22 rfl (lv_at hl 0 rfl) ?_
        refine cf_get_X8_0 F hinX8 hw kf11 dX8_settle_23 ?_
        refine lv_iload_n hx hb dX8_settle_26 rfl (lv_at hl 2 rfl) ?_
        refine lv_aload_n hx hb dX8_settle_27 rfl (lv_at hl 1 rfl) ?_
        refine lv_iload_n hx hb dX8_settle_28 rfl (lv_at hl 2 rfl) ?_
        refine g_cIc F (As := [.int (nI i)]) (rest := [.int (nI i), .ref (ad1 11)]) (ctt_gateKind (hK i hlt)) (cwV 1 hts gX8_settle_X7_gateKind rfl rfl rfl (by decide +kernel) ⟨Nat.le_of_ble_eq_true rfl, Nat.le_of_ble_eq_true rfl⟩) hw (hw.recv (ci := 7) (q0 := 27) rfl rfl rfl) rfl hl.1 rfl (Nat.le_of_ble_eq_true rfl) dX8_settle_29 (show cells ≤ 11 by omega) (show slots ≤ 36 by omega) (fun H locs hw => ?_)
        refine lv_iload_n hx hb dX8_settle_32 rfl (lv_at hl 2 rfl) ?_
        refine lv_aload_n hx hb dX8_settle_33 rfl (lv_at hl 1 rfl) ?_
        refine lv_iload_n hx hb dX8_settle_34 rfl (lv_at hl 2 rfl) ?_
        refine lv_iconst (v := 2) hx hb dX8_settle_35 (by decide) ?_
        refine g_cIc F (As := [.int (nI i), .int 2]) (rest := [.int (nI i), .int (Kg i), .int (nI i), .ref (ad1 11)]) (ctt_gateDigit (hR i hlt)) (cwV 2 hts gX8_settle_X7_gateDigit rfl rfl rfl (by decide +kernel) ⟨Nat.le_of_ble_eq_true rfl, Nat.le_of_ble_eq_true rfl⟩) hw (hw.recv (ci := 7) (q0 := 27) rfl rfl rfl) rfl hl.1 rfl (Nat.le_of_ble_eq_true rfl) dX8_settle_36 (show cells ≤ 11 by omega) (show slots ≤ 36 by omega) (fun H locs hw => ?_)
        refine lv_aload_n hx hb dX8_settle_39 rfl (lv_at hl 1 rfl) ?_
        refine lv_iload_n hx hb dX8_settle_40 rfl (lv_at hl 2 rfl) ?_
        refine lv_iconst (v := 3) hx hb dX8_settle_41 (by decide) ?_
        refine g_cIc F (As := [.int (nI i), .int 3]) (rest := [.int (Rg i), .int (nI i), .int (Kg i), .int (nI i), .ref (ad1 11)]) (ctt_gateDigit (hDg i hlt)) (cwV 2 hts gX8_settle_X7_gateDigit rfl rfl rfl (by decide +kernel) ⟨Nat.le_of_ble_eq_true rfl, Nat.le_of_ble_eq_true rfl⟩) hw (hw.recv (ci := 7) (q0 := 27) rfl rfl rfl) rfl hl.1 rfl (Nat.le_of_ble_eq_true rfl) dX8_settle_42 (show cells ≤ 11 by omega) (show slots ≤ 36 by omega) (fun H locs hw => ?_)
        refine g_rC (va_runS F (As := [.int (Kg i), .int (nI i), .int (Rg i), .int (Dg i)]) (rest := [.int (nI i), .ref (ad1 11)]) c_newGate (va_cwS 4 hts gX8_settle_X8_newGate rfl rfl rfl (by decide +kernel) ⟨Nat.le_of_ble_eq_true rfl, Nat.le_of_ble_eq_true rfl⟩) ⟨gO_blind, hw.pre _⟩ rfl rfl hl.1 rfl (lv_room (Nat.le_of_ble_eq_true rfl)) dX8_settle_45 ⟨show cells + 1 ≤ 11 by omega, show slots + 3 ≤ 36 by omega⟩) hw (fun u q H locs hu hw => ?_)
        subst hu
        have hi0 : gin (nI i) G = true := by
          unfold gin
          rw [nI_clamp (by omega)]
          have := nI_pos (n := i) (by omega)
          simp [this]; omega
        have fin : ∀ (H : Heap) (locs : List Loc), gW D ty A ((q, .inr (kc (Kg i), [.int (nI i), .int (Dg i), .int (Rg i)])) :: tw ty ad1 (G, K.2.1, va_up (fga ga i) (nI i).toNatClampNeg (some q), K.2.2.2) σ tx kr τ ((List.range i).map (gcl ga Kg Rg Dg) ++ wr)) s s.heap H locs → W p l e rm_settle s m args below meth c H locs (cells + 1) (slots + 3) Q (F0 m 49 ls []) := by
          intro H locs hw
          rw [nI_clamp (by omega), fga_s] at hw
          have hw := gW.perm perm_in hw
          rw [← gcl_s] at hw
          refine lv_iinc (v := nI (i + 1)) (lv' := [(2, .int (nI (i + 1))), (0, .ref (ad1 10)), (1, .ref tx)]) hx hb dX8_settle_49 hl (k := 2) rfl (by rw [← nI_1]; rfl) (by decide) rfl (fun ls hl => ?_)
          refine lv_goto (tgt := 13) hx hb dX8_settle_52 (by decide) ?_
          exact ih (i + 1) _ _ _ _ _ _ hlt (by omega) (by omega) (by omega) (lv_sub hl [1, 2, 0] rfl) hw
        by_cases c1 : Kg i = 1
        · rw [kc_1 c1] at hw fin
          exact g_astqO (q0 := 12) (qk := 0) (cj := 6) (t := 1) (E := RX0) (r := (RX6, TX6, 3)) F hw rfl rfl hw.2.2.2.2.2.1.2.1 rfl rfl hi0 rfl dX8_settle_48 (fun H locs hw => fin H locs hw)
        by_cases c2 : Kg i = 2
        · rw [kc_2 c1 c2] at hw fin
          exact g_astqO (q0 := 12) (qk := 0) (cj := 1) (t := 1) (E := RX0) (r := (RX1, TX1, 3)) F hw rfl rfl hw.2.2.2.2.2.1.2.2 rfl rfl hi0 rfl dX8_settle_48 (fun H locs hw => fin H locs hw)
        · rw [kc_0 c1 c2] at hw fin
          exact g_astq (q0 := 12) (qk := 0) (cj := 0) (t := 1) (r := (RX0, TX0, 3)) F hw rfl rfl rfl rfl hi0 rfl dX8_settle_48 (fun H locs hw => fin H locs hw)
  refine lv_aload_n hx hb dX8_settle_0 rfl (lv_at hl 0 rfl) ?_
  refine lv_aload_n hx hb dX8_settle_1 rfl (lv_at hl 1 rfl) ?_
  refine tw_get_3 F hinX7 hw kf50 dX8_settle_2 ?_
  refine g_nm hgc.symm ?_
  refine g_newq (N' := G) (t := 1) F kc9 hw.2.2.2.2.2.2.2.2.1.1 hw rfl (nI_pos (by omega)) (nI_clamp (by omega)) (by omega) (show 0 + 1 ≤ 11 by omega) (show 0 + G ≤ 36 by omega) dX8_settle_5 (fun q H hw => ?_)
  refine g_putv (C := RX8) (T := TX8) (N := 6) (ci := 8) F hinX8 tyX8 tyX8_ok nmX8 hw 11 rfl rfl 0 (by decide) kf11 rfl (fy := .array (.object "GossipGate$Gate")) (by decide +kernel) rfl rfl (Nat.le_of_ble_eq_true rfl) (ws1 := (q, .inl (ty 1, G, .inr (.inr (.inr (.inr (fun _ => none)))))) :: (tw ty ad K σ tx kr τ wr).set 10 (ad 10, .inr (8, [.ref q, .ref (ad 12), .int (σ.1 2), .ref (ad 13), .ref (ad 14), .ref (ad 15)]))) rfl dX8_settle_8 (fun H locs hw => ?_)
  have hw := put_gates hw
  rw [← txc_up (j := 11) (q := q) hkr (by omega)] at hw
  refine lv_iconst (v := 0) hx hb dX8_settle_11 (by decide) ?_
  refine lv_istore_n (lv' := [(2, .int 0), (0, .ref (ad 10)), (1, .ref tx)]) hx hb dX8_settle_12 rfl hl (by decide) rfl (fun ls hl => ?_)
  refine L1 (va_up ad 11 q) (fun k hk h1 => if_neg h1) (G + 1) 0 (fun _ => 0) _ _ _ _ _ (Nat.zero_le _) (by omega) (by omega) (by omega) (lv_sub hl [1, 2, 0] rfl) ?_
  rw [fga_0]
  exact hw
