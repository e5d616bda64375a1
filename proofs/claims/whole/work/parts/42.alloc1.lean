/-! newGate, setGate: gates that are made and put in -/
theorem arrV_ext {c : ClassId} {N : Nat} {f g : Nat → Value} (h : ∀ j, j < N → f j = g j) : arrV c N f = arrV c N g := by
  unfold arrV
  have e : (fun j : Fin N => f j.val) = fun j : Fin N => g j.val := funext fun j => h j.val j.isLt
  rw [e]
theorem gW_setq {D : va_G} {ty : gT} {A : Nat → Prop} {ws : va_W} {s : State} {H0 H : Heap} {locs : List Loc} {i a n : Nat} {cA : ClassId} {f g : Nat → Option Nat} (he : ws[i]? = some (a, .inl (cA, n, .inr (.inr (.inr (.inr f)))))) (h : ∀ j, j < n → f j = g j) (hw : gW D ty A ws s H0 H locs) : gW D ty A (ws.set i (a, .inl (cA, n, .inr (.inr (.inr (.inr g)))))) s H0 H locs := by
  refine ⟨fun k q hk => ?_, hw.2.1, hw.2.2.1.set he, hw.2.2.2⟩
  by_cases hi : i = k
  · subst hi
    rw [List.getElem?_set_self (List.getElem?_eq_some_iff.mp he).1] at hk
    cases hk
    have h0 : H[a]? = some (vp_cell cA (n, .inr (.inr (.inr (.inr f))))) := hw.1 i _ he
    show H[a]? = some (vp_cell cA (n, .inr (.inr (.inr (.inr g)))))
    rw [h0, vp_cell_q, vp_cell_q, arrV_ext (fun j hj => by rw [h j hj])]
  · rw [List.getElem?_set_ne hi] at hk
    exact hw.1 k q hk
theorem cf_ext {D : va_G} {ty : gT} {A : Nat → Prop} {s : State} {H0 H : Heap} {locs : List Loc} {ad : Nat → Nat} {σ : gS} {wr : va_W} {G S : Nat} {fg fg' fs fs' : Nat → Option Nat} (hg : ∀ j, j < G → fg j = fg' j) (hs : ∀ j, j < S → fs j = fs' j) (hw : gW D ty A (cf ty ad (G, S, fg, fs) σ wr) s H0 H locs) : gW D ty A (cf ty ad (G, S, fg', fs') σ wr) s H0 H locs := by
  have h1 := gW_setq (i := 11) (ws := cf ty ad (G, S, fg, fs) σ wr) rfl hg hw
  exact gW_setq (i := 12) (ws := cf ty ad (G, S, fg', fs) σ wr) rfl hs h1
theorem cf_ad {ty : gT} {ad ad' : Nat → Nat} {K : gK} {σ : gS} {wr : va_W} (h : ∀ k, k < 27 → ad' k = ad k) : cf ty ad' K σ wr = cf ty ad K σ wr := by
  have e : rwf ad' = rwf ad := by
    funext k
    match k with
    | 0 => exact congrArg some (h 2 (by decide))
    | 1 => exact congrArg some (h 3 (by decide))
    | 2 => exact congrArg some (h 4 (by decide))
    | 3 => exact congrArg some (h 5 (by decide))
    | _ + 4 => rfl
  unfold cf
  rw [e, h 0 (by decide), h 1 (by decide), h 2 (by decide), h 3 (by decide), h 4 (by decide), h 5 (by decide), h 6 (by decide), h 7 (by decide), h 8 (by decide), h 9 (by decide), h 10 (by decide), h 11 (by decide), h 12 (by decide), h 13 (by decide), h 14 (by decide), h 15 (by decide), h 16 (by decide), h 17 (by decide), h 18 (by decide), h 19 (by decide), h 20 (by decide), h 21 (by decide), h 22 (by decide), h 23 (by decide), h 24 (by decide), h 25 (by decide), h 26 (by decide)]
theorem cf_in {ty : gT} {ad : Nat → Nat} {K : gK} {σ : gS} {wr : va_W} (x : Nat × va_E) : (x :: cf ty ad K σ wr).Perm (cf ty ad K σ (x :: wr)) := by
  have e : ∀ w, cf ty ad K σ w = cf ty ad K σ [] ++ w := fun _ => rfl
  rw [e wr, e (x :: wr)]
  exact List.perm_middle.symm
theorem cf_perm {ty : gT} {ad : Nat → Nat} {K : gK} {σ : gS} {wr wr' : va_W} (h : wr.Perm wr') : (cf ty ad K σ wr).Perm (cf ty ad K σ wr') := by
  have e : ∀ w, cf ty ad K σ w = cf ty ad K σ [] ++ w := fun _ => rfl
  rw [e wr, e wr']
  exact h.append_left _
theorem cgs_perm {ad : Nat → Nat} {G S : Nat} {γ : gS} {wr wr' : va_W} (h : wr.Perm wr') : (cgs ad G S γ wr).Perm (cgs ad G S γ wr') := (h.append_left _).append_left _
theorem cgs_in {ad : Nat → Nat} {G S : Nat} {γ : gS} {wr : va_W} (x : Nat × va_E) : (x :: cgs ad G S γ wr).Perm (cgs ad G S γ (x :: wr)) := by
  unfold cgs
  rw [← List.append_assoc, ← List.append_assoc]
  exact List.perm_middle.symm
theorem cw_in {ty : gT} {ad : Nat → Nat} {G S : Nat} {X : gC} {wr : va_W} (x : Nat × va_E) : (x :: cw ty ad G S X wr).Perm (cw ty ad G S X (x :: wr)) := (cf_in x).trans (cf_perm (cgs_in x))
theorem cw_rest {ty : gT} {ad : Nat → Nat} {G S : Nat} {X : gC} {wr : va_W} {x : Nat × va_E} : (cw ty ad G S X (x :: wr))[G + S + 27]? = some x := by
  show (cgs ad G S X.2 (x :: wr))[G + S]? = some x
  unfold cgs
  rw [← List.append_assoc, List.getElem?_append_right (by simp)]
  simp
theorem perm_set {α : Type} : ∀ (L : List α) (g : Nat) (o x : α) (R : List α), L[g]? = some o → (L ++ x :: R).Perm (L.set g x ++ o :: R)
  | [], _, _, _, _, h => by simp at h
  | a :: L, 0, o, x, R, h => by
    simp only [List.getElem?_cons_zero, Option.some.injEq] at h
    subst h
    simp only [List.set_cons_zero, List.cons_append]
    exact (List.Perm.cons a List.perm_middle).trans ((List.Perm.swap x a _).trans (List.Perm.cons x List.perm_middle.symm))
  | a :: L, g + 1, o, x, R, h => by
    simp only [List.getElem?_cons_succ] at h
    simp only [List.set_cons_succ, List.cons_append]
    exact List.Perm.cons a (perm_set L g o x R h)
/-- a gate of the town changed for another: the elder one goes to the rest -/
theorem cw_swap {D : va_G} {ty : gT} {A : Nat → Prop} {s : State} {H0 H : Heap} {locs : List Loc} {ad : Nat → Nat} {G S g q : Nat} {σ γ γ' : gS} {wr : va_W} (hg : g < G) (hG : G ≤ 100) (h1 : ∀ j, j ≠ g → cgt ad γ j = cgt ad γ' j) (h2 : ∀ j, cst ad γ j = cst ad γ' j)
    (hw : gW D ty A (cf ty ad (G, S, va_up (fun g => some (ad (100 + g))) g (some q), fun k => some (ad (200 + k))) σ (cgs ad G S γ ((q, (cgt ad γ' g).2) :: wr))) s H0 H locs) :
    gW D ty A (cw ty (va_up ad (100 + g) q) G S (σ, γ') (cgt ad γ g :: wr)) s H0 H locs := by
  have e1 : ∀ k, k < 27 → va_up ad (100 + g) q k = ad k := fun k hk => by unfold va_up; rw [if_neg (by omega)]
  have e2 : (fun j => some (va_up ad (100 + g) q (100 + j))) = va_up (fun g => some (ad (100 + g))) g (some q) := by
    funext j
    unfold va_up
    by_cases hj : j = g
    · subst hj; simp
    · rw [if_neg hj, if_neg (by omega)]
  have e3 : (fun k => some (va_up ad (100 + g) q (200 + k))) = fun k => some (ad (200 + k)) := by
    funext k
    unfold va_up
    rw [if_neg (by omega)]
  show gW D ty A (cf ty (va_up ad (100 + g) q) (G, S, fun j => some (va_up ad (100 + g) q (100 + j)), fun k => some (va_up ad (100 + g) q (200 + k))) σ (cgs (va_up ad (100 + g) q) G S γ' (cgt ad γ g :: wr))) s H0 H locs
  rw [e2, e3, cf_ad e1]
  refine gW.perm (cf_perm ?_) hw
  unfold cgs
  have e4 : (List.range G).map (cgt (va_up ad (100 + g) q) γ') = ((List.range G).map (cgt ad γ)).set g (q, (cgt ad γ' g).2) := by
    have hx : (q, (cgt ad γ' g).2) = cgt (va_up ad (100 + g) q) γ' g := by simp [cgt, va_up]
    rw [hx, map_set]
    intro j hj
    rw [h1 j hj]
    unfold cgt va_up
    rw [if_neg (by omega)]
  have e5 : (List.range S).map (cst (va_up ad (100 + g) q) γ') = (List.range S).map (cst ad γ) := by
    refine congrArg (fun f => (List.range S).map f) (funext fun k => ?_)
    rw [h2 k]
    unfold cst va_up
    rw [if_neg (by omega)]
  rw [e4, e5]
  have hp := perm_set ((List.range G).map (cgt ad γ)) g (cgt ad γ g) (q, (cgt ad γ' g).2) ((List.range S).map (cst ad γ) ++ wr) (by simp [hg])
  exact (List.Perm.append_left _ List.perm_middle).trans (hp.trans (List.Perm.append_left _ List.perm_middle.symm))
abbrev rm_newGate : Room := { frames := 4, cells := 1, slots := 3, locals := 89 }
set_option maxHeartbeats 4000000 in
set_option maxRecDepth 100000 in
theorem c_newGate {l : Launch} {D : va_G} {ty : gT} {A : Nat → Prop} {ws : va_W} {x1 x2 x3 x4 : Int32} : gR l D ty A yX8_newGate wsX8_newGate rm_newGate [.int x1, .int x2, .int x3, .int x4] ws (fun u a => u = (a, .inr (kc x1, [.int x2, .int x4, .int x3])) :: ws) 1 3 := by
  refine gR_enter (cc := cX8_newGate) (maxL := 4) (by decide) rfl (Nat.le_of_ble_eq_true rfl) ?_
  intro p e s m args below meth c Q ls F hl hw hret
  have F : CallFix p m c cX8_newGate 4 s args wsX8_newGate RX8 := F
  obtain ⟨hx, hb, hml, hown, hts⟩ := id F
  have hl : lv_has ls 4 [(0, .int x1), (1, .int x2), (2, .int x3), (3, .int x4)] := hl
  have hinX0 : ∀ w ∈ wsX00, w ∈ wsX8_newGate := by first | exact fun w h => List.mem_cons_of_mem _ (List.mem_append_right _ h) | decide +kernel
  have hinX1 : ∀ w ∈ wsX10, w ∈ wsX8_newGate := by first | exact fun w h => List.mem_cons_of_mem _ (List.mem_append_left _ (List.mem_append_right _ h)) | decide +kernel
  have hinX6 : ∀ w ∈ wsX60, w ∈ wsX8_newGate := by first | exact fun w h => List.mem_cons_of_mem _ (List.mem_append_left _ (List.mem_append_left _ (List.mem_append_right _ h))) | decide +kernel
  refine lv_iload_n hx hb dX8_newGate_0 rfl (lv_at hl 0 rfl) ?_
  by_cases c1 : x1 = 1
  · refine lv_lookup (off := 27) (tgt := 28) hx hb dX8_newGate_1 (by decide) (by rw [c1]; decide) (by decide) ?_
    refine g_new (C := RX6) (T := TX6) (N := 3) (ci := 6) (fs := [.int 0, .int 0, .int 0]) F hinX6 tyX6 tyX6_ok (hts (.classLink RX8 37 RX6) (by decide +kernel)) (hts (.instantiable RX6 3) (by decide +kernel)) (hts (.initialized RX6) (by decide +kernel)) hw rfl (fun j hj => by rcases (show j = 0 ∨ j = 1 ∨ j = 2 by omega) with rfl | rfl | rfl <;> rfl) (Nat.le_of_ble_eq_true rfl) (Nat.le_of_ble_eq_true rfl) dX8_newGate_28 (fun q H hw => ?_)
    refine lv_dup hx hb dX8_newGate_31 rfl ?_
    refine lv_iload_n hx hb dX8_newGate_32 rfl (lv_at hl 1 rfl) ?_
    refine lv_iload_n hx hb dX8_newGate_33 rfl (lv_at hl 2 rfl) ?_
    refine lv_iload_n hx hb dX8_newGate_34 rfl (lv_at hl 3 rfl) ?_
    refine g_mC (va_runI F (As := [.int x2, .int x3, .int x4]) (rest := [.ref q]) (ci_X6 (wr := ws)) (cwI 3 hts gX8_newGate_X6_init rfl rfl rfl (hts (.initialized RX6) (by decide +kernel)) (hts (.methodLink RX8 39 yX6_init) (by decide +kernel)) (hts (.instanceMethod yX6_init) (by decide +kernel)) rfl (by decide +kernel) ⟨Nat.le_of_ble_eq_true rfl, Nat.le_of_ble_eq_true rfl⟩) ⟨gO_blind, hw.pre _⟩ rfl rfl hl.1 rfl (lv_room (Nat.le_of_ble_eq_true rfl)) dX8_newGate_35 ⟨(Nat.le_of_ble_eq_true rfl), (Nat.le_of_ble_eq_true rfl)⟩) hw (fun u H locs hu hw => ?_)
    subst hu
    exact hret _ q _ _ _ _ (by rw [kc_1 c1]) hw dX8_newGate_38
  by_cases c2 : x1 = 2
  · refine lv_lookup (off := 38) (tgt := 39) hx hb dX8_newGate_1 (by decide) (by rw [c2]; decide) (by decide) ?_
    refine g_new (C := RX1) (T := TX1) (N := 3) (ci := 1) (fs := [.int 0, .int 0, .int 0]) F hinX1 tyX1 tyX1_ok (hts (.classLink RX8 42 RX1) (by decide +kernel)) (hts (.instantiable RX1 3) (by decide +kernel)) (hts (.initialized RX1) (by decide +kernel)) hw rfl (fun j hj => by rcases (show j = 0 ∨ j = 1 ∨ j = 2 by omega) with rfl | rfl | rfl <;> rfl) (Nat.le_of_ble_eq_true rfl) (Nat.le_of_ble_eq_true rfl) dX8_newGate_39 (fun q H hw => ?_)
    refine lv_dup hx hb dX8_newGate_42 rfl ?_
    refine lv_iload_n hx hb dX8_newGate_43 rfl (lv_at hl 1 rfl) ?_
    refine lv_iload_n hx hb dX8_newGate_44 rfl (lv_at hl 2 rfl) ?_
    refine lv_iload_n hx hb dX8_newGate_45 rfl (lv_at hl 3 rfl) ?_
    refine g_mC (va_runI F (As := [.int x2, .int x3, .int x4]) (rest := [.ref q]) (ci_X1 (wr := ws)) (cwI 3 hts gX8_newGate_X1_init rfl rfl rfl (hts (.initialized RX1) (by decide +kernel)) (hts (.methodLink RX8 44 yX1_init) (by decide +kernel)) (hts (.instanceMethod yX1_init) (by decide +kernel)) rfl (by decide +kernel) ⟨Nat.le_of_ble_eq_true rfl, Nat.le_of_ble_eq_true rfl⟩) ⟨gO_blind, hw.pre _⟩ rfl rfl hl.1 rfl (lv_room (Nat.le_of_ble_eq_true rfl)) dX8_newGate_46 ⟨(Nat.le_of_ble_eq_true rfl), (Nat.le_of_ble_eq_true rfl)⟩) hw (fun u H locs hu hw => ?_)
    subst hu
    exact hret _ q _ _ _ _ (by rw [kc_2 c1 c2]) hw dX8_newGate_49
  refine lv_lookup (off := 49) (tgt := 50) hx hb dX8_newGate_1 (by decide) (by have tc1 := g_ti (k := 1) 1 (by decide) c1; have tc2 := g_ti (k := 2) 2 (by decide) c2; simp [Op.lookupswitch.offset_cons, Op.lookupswitch.offset_nil]; omega) (by decide) ?_
  refine g_new (C := RX0) (T := TX0) (N := 3) (ci := 0) (fs := [.int 0, .int 0, .int 0]) F hinX0 tyX0 tyX0_ok (hts (.classLink RX8 9 RX0) (by decide +kernel)) (hts (.instantiable RX0 3) (by decide +kernel)) (hts (.initialized RX0) (by decide +kernel)) hw rfl (fun j hj => by rcases (show j = 0 ∨ j = 1 ∨ j = 2 by omega) with rfl | rfl | rfl <;> rfl) (Nat.le_of_ble_eq_true rfl) (Nat.le_of_ble_eq_true rfl) dX8_newGate_50 (fun q H hw => ?_)
  refine lv_dup hx hb dX8_newGate_53 rfl ?_
  refine lv_iload_n hx hb dX8_newGate_54 rfl (lv_at hl 1 rfl) ?_
  refine lv_iload_n hx hb dX8_newGate_55 rfl (lv_at hl 2 rfl) ?_
  refine lv_iload_n hx hb dX8_newGate_56 rfl (lv_at hl 3 rfl) ?_
  refine g_mC (va_runI F (As := [.int x2, .int x3, .int x4]) (rest := [.ref q]) (ci_X0 (wr := ws)) (cwI 3 hts gX8_newGate_X0_init rfl rfl rfl (hts (.initialized RX0) (by decide +kernel)) (hts (.methodLink RX8 45 yX0_init) (by decide +kernel)) (hts (.instanceMethod yX0_init) (by decide +kernel)) rfl (by decide +kernel) ⟨Nat.le_of_ble_eq_true rfl, Nat.le_of_ble_eq_true rfl⟩) ⟨gO_blind, hw.pre _⟩ rfl rfl hl.1 rfl (lv_room (Nat.le_of_ble_eq_true rfl)) dX8_newGate_57 ⟨(Nat.le_of_ble_eq_true rfl), (Nat.le_of_ble_eq_true rfl)⟩) hw (fun u H locs hu hw => ?_)
  subst hu
  exact hret _ q _ _ _ _ (by rw [kc_0 c1 c2]) hw dX8_newGate_60
theorem ct_gateAt_nI {G S g : Nat} {X : gC} (hg : g < G) (hG : G ≤ 100) : ct_gateAt G S X (nI g) = some (some g) := by
  unfold ct_gateAt
  rw [if_neg (nI_pos (by omega)), if_neg (nI_ge hg (by omega)), if_pos]
  · rw [nI_clamp (by omega)]
  · unfold gin
    rw [nI_clamp (by omega)]
    have := nI_pos (n := g) (by omega)
    simp [this]; omega
abbrev rm_setGate : Room := { frames := 1, cells := 0, slots := 0, locals := 21 }
set_option maxHeartbeats 4000000 in
set_option maxRecDepth 100000 in
theorem c_setGate {l : Launch} {D : va_G} {ty : gT} {A : Nat → Prop} {ad : Nat → Nat} {G S g q : Nat} {X : gC} {wr : va_W} {kd : Int32} {vd vr : Int32} (hg : g < G) (hG : G ≤ 100) : gV l D ty A yX8_setGate wsX8_setGate rm_setGate [.ref (ad 10), .ref q] (cw ty ad G S X ((q, .inr (kc kd, [.int (nI g), .int vd, .int vr])) :: wr)) (cf ty ad (G, S, va_up (fun g => some (ad (100 + g))) g (some q), fun k => some (ad (200 + k))) X.1 (cgs ad G S X.2 ((q, .inr (kc kd, [.int (nI g), .int vd, .int vr])) :: wr))) := by
  refine gV_enter (cc := cX8_setGate) (maxL := 2) (by decide) rfl (Nat.le_of_ble_eq_true rfl) ?_
  intro p e s m args below meth c Q ls F hl hw hret
  have F : CallFix p m c cX8_setGate 2 s args wsX8_setGate RX8 := F
  obtain ⟨hx, hb, hml, hown, hts⟩ := id F
  have hl : lv_has ls 2 [(0, .ref (ad 10)), (1, .ref q)] := hl
  have hinX0 : ∀ w ∈ wsX00, w ∈ wsX8_setGate := by first | exact fun w h => List.mem_cons_of_mem _ (List.mem_append_left _ (List.mem_append_left _ (List.mem_append_left _ (List.mem_append_right _ h)))) | decide +kernel
  have hinX1 : ∀ w ∈ wsX10, w ∈ wsX8_setGate := by first | exact fun w h => List.mem_cons_of_mem _ (List.mem_append_left _ (List.mem_append_left _ (List.mem_append_right _ h))) | decide +kernel
  have hinX6 : ∀ w ∈ wsX60, w ∈ wsX8_setGate := by first | exact fun w h => List.mem_cons_of_mem _ (List.mem_append_left _ (List.mem_append_right _ h)) | decide +kernel
  have hinX8 : ∀ w ∈ wsX80, w ∈ wsX8_setGate := by first | exact fun w h => List.mem_cons_of_mem _ (List.mem_append_right _ h) | decide +kernel
  have kf73 := hts (.fieldLink RX8 73 "GossipGate$Gate" "number" "I") (by decide +kernel)
  have kf11 := hts (.fieldLink RX8 11 "GossipGate$Town" "gates" "[LGossipGate$Gate;") (by decide +kernel)
  have get : ∀ {pc : Nat} {rest : List Value} {H : Heap} {locs : List Loc}, gW D ty A (cw ty ad G S X ((q, .inr (kc kd, [.int (nI g), .int vd, .int vr])) :: wr)) s s.heap H locs → decode cX8_setGate pc = .ok (.getfield 73, 3) → W p l e rm_setGate s m args below meth c H locs 0 0 Q (F0 m (pc + 3) ls (.int (nI g) :: rest)) → W p l e rm_setGate s m args below meth c H locs 0 0 Q (F0 m pc ls (.ref q :: rest)) := by
    intro pc rest H locs hw hd kk
    have he := cw_rest (ty := ty) (ad := ad) (G := G) (S := S) (X := X) (wr := wr) (x := (q, .inr (kc kd, [.int (nI g), .int vd, .int vr])))
    by_cases c1 : kd = 1
    · rw [kc_1 c1] at he hw
      exact g_get (C := RX6) (T := TX6) (N := 3) hx hb hts hinX6 hown hw (G + S + 27) he rfl 0 (by decide) kf73 rfl hd kk
    by_cases c2 : kd = 2
    · rw [kc_2 c1 c2] at he hw
      exact g_get (C := RX1) (T := TX1) (N := 3) hx hb hts hinX1 hown hw (G + S + 27) he rfl 0 (by decide) kf73 rfl hd kk
    · rw [kc_0 c1 c2] at he hw
      exact g_get (C := RX0) (T := TX0) (N := 3) hx hb hts hinX0 hown hw (G + S + 27) he rfl 0 (by decide) kf73 rfl hd kk
  refine lv_aload_n hx hb dX8_setGate_0 rfl (lv_at hl 0 rfl) ?_
  refine lv_aload_n hx hb dX8_setGate_1 rfl (lv_at hl 1 rfl) ?_
  refine get hw dX8_setGate_2 ?_
  refine g_cQ F (As := [.int (nI g)]) (rest := []) (cct_gateAt (ct_gateAt_nI hg hG)) (cwV 1 hts gX8_setGate_X8_gateAt rfl rfl rfl (by decide +kernel) ⟨Nat.le_of_ble_eq_true rfl, Nat.le_of_ble_eq_true rfl⟩) hw (hw.recv (ci := 8) (q0 := 10) rfl rfl rfl) rfl hl.1 rfl (Nat.le_of_ble_eq_true rfl) dX8_setGate_5 (fun H locs hw => ?_)
  refine lv_ifnull hx hb dX8_setGate_8 ?_
  refine lv_aload_n hx hb dX8_setGate_11 rfl (lv_at hl 0 rfl) ?_
  refine cf_get_X8_0 F hinX8 hw kf11 dX8_setGate_12 ?_
  refine lv_aload_n hx hb dX8_setGate_15 rfl (lv_at hl 1 rfl) ?_
  refine get hw dX8_setGate_16 ?_
  refine lv_aload_n hx hb dX8_setGate_19 rfl (lv_at hl 1 rfl) ?_
  have hi : gin (nI g) G = true := by
    unfold gin
    rw [nI_clamp (by omega)]
    have := nI_pos (n := g) (by omega)
    simp [this]; omega
  have hcl : (nI g).toNatClampNeg = g := nI_clamp (by omega)
  have he := cw_rest (ty := ty) (ad := ad) (G := G) (S := S) (X := X) (wr := wr) (x := (q, .inr (kc kd, [.int (nI g), .int vd, .int vr])))
  by_cases c1 : kd = 1
  · rw [kc_1 c1] at he hw
    refine g_astqO (q0 := 11) (qk := G + S + 27) (cj := 6) (t := 1) (E := RX0) F hw rfl rfl hw.2.2.2.2.2.1.2.1 he rfl hi rfl dX8_setGate_20 (fun H locs hw => ?_)
    rw [hcl] at hw
    exact hret _ _ _ _ _ (by rw [kc_1 c1]; rfl) hw dX8_setGate_21
  by_cases c2 : kd = 2
  · rw [kc_2 c1 c2] at he hw
    refine g_astqO (q0 := 11) (qk := G + S + 27) (cj := 1) (t := 1) (E := RX0) F hw rfl rfl hw.2.2.2.2.2.1.2.2 he rfl hi rfl dX8_setGate_20 (fun H locs hw => ?_)
    rw [hcl] at hw
    exact hret _ _ _ _ _ (by rw [kc_2 c1 c2]; rfl) hw dX8_setGate_21
  rw [kc_0 c1 c2] at he hw
  refine g_astq (q0 := 11) (qk := G + S + 27) (cj := 0) (t := 1) F hw rfl rfl he rfl hi rfl dX8_setGate_20 (fun H locs hw => ?_)
  rw [hcl] at hw
  exact hret _ _ _ _ _ (by rw [kc_0 c1 c2]; rfl) hw dX8_setGate_21
