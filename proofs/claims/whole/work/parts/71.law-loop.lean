theorem loop_cmp {L i : Nat} (hL : L ≤ 384) (hi : 6 * i ≤ L) : (nI L - 6 < nI (6 * i)) ↔ L < 6 * i + 6 := by
  have e6 : (6 : Int32) = nI 6 := rfl
  rw [e6, Int32.lt_iff_toInt_lt, pk_sub_toInt (by omega) (by omega), nI_toInt (by omega)]
  omega
set_option maxHeartbeats 8000000 in
set_option maxRecDepth 100000 in
theorem law_loop (h_town : St_town) (h_ofGate : St_ofGate) (h_ofStory : St_ofStory) (h_harmless : St_harmless) (h_rate : St_rate) (h_fresh : St_fresh) (h_duty : St_duty) (h_passages : St_passages) (h_least : St_least) (h_free : St_free) (h_worth : St_worth) (h_reading : St_reading) (h_back : St_back) (h_sizes : St_sizes) (h_persons : St_persons) (h_kinds : St_kinds) (h_limits : St_limits) (h_odds : St_odds) (h_sheet : St_sheet) (h_lose : St_lose) (h_put : St_put) (h_cell : St_cell) (h_copy : St_copy) (h_tell : St_tell) (h_knock : St_knock) (h_as : St_as) (h_trace : St_trace) (h_fault : St_fault) (h_many : St_many) {p : Program} {l : Launch} {e : Env} {s : State} {m : MethodId} {below : List Frame} {meth : Method} {c : Code} {b L : Nat} {xs : Nat → Int32} {D : va_G} {ty : gT} {ad1 : Nat → Nat} (C0 : lw_At p s m meth c b L xs) (hL : L ≤ 384) : ∀ (n i : Nat) (ad2 : Nat → Nat) (G S : Nat) (X : gC) (μ : gS) (H : Heap) (locs : List Loc) (ls : Array Slot), 6 * i ≤ L → L < 6 * i + 6 * n → RR G S X μ → lv_has ls 4 [(0, .ref b), (1, .ref (ad2 0)), (2, .ref (ad1 0)), (3, .int (nI (6 * i)))] → gW D ty (fun q => s.heap.size ≤ q) (mw ty ad1 μ (cw ty ad2 G S X [])) s s.heap H locs → W p l e room_1 s m #[Value.ref b] below meth c H locs (48 + 12 * i) (966 + 41 * i) (lw_Z below #[Value.ref b] s) (F0 m 18 ls []) := by
  obtain ⟨hx, hb0, hr, hml, hown, hts, hX, hbl, hlocks, hgv⟩ := id C0
  have hb : c.code = cL_law := hb0
  have hbA : ¬ (fun q : Nat => s.heap.size ≤ q) b := Nat.not_le.mpr hbl
  intro n
  induction n with
  | zero => intro i ad2 G S X μ H locs ls h1 h2; exact absurd h2 (by omega)
  | succ n ih =>
    intro i ad2 G S X μ H locs ls h1 h2 hR hl hw
    refine lv_iload_n hx hb dL_law_18 rfl (lv_at hl 3 rfl) ?_
    refine lv_aload_n hx hb dL_law_19 rfl (lv_at hl 0 rfl) ?_
    refine va_slen (A := fun q => s.heap.size ≤ q) hx hb hX hbl hbA hw.2.2.2.1 dL_law_20 ?_
    refine lv_bipush (v := 6) hx hb dL_law_21 (by decide) ?_
    refine lv_isub hx hb dL_law_23 ?_
    refine lv_icmp_gt (tgt := 1299) hx hb dL_law_24 (by decide) (fun c1 => ?_) (fun c1 => ?_)
    · refine lv_iconst (v := 1) hx hb dL_law_1299 (by decide) ?_
      refine va_forget (fun q hq => hw.2.2.2.1.2.2 q hq) ?_
      refine W.widen (k := 600000) (n := 7302250) (by omega) (by omega) ?_
      exact lw_ret hx hb0 hr hlocks dL_law_1300
    · have hlt : 6 * i + 6 ≤ L := Nat.le_of_not_lt fun h => c1 ((loop_cmp hL h1).mpr h)
      have K : ∀ (G S : Nat) (X : gC) (μ : gS) (ad2 : Nat → Nat) (H : Heap) (locs : List Loc) (ls : Array Slot), RR G S X μ → lv_has ls 4 [(0, .ref b), (1, .ref (ad2 0)), (2, .ref (ad1 0)), (3, .int (nI (6 * i)))] → gW D ty (fun q => s.heap.size ≤ q) (mw ty ad1 μ (cw ty ad2 G S X [])) s s.heap H locs → W p l e room_1 s m #[Value.ref b] below meth c H locs (48 + 12 * i + 12) (966 + 41 * i + 41) (lw_Z below #[Value.ref b] s) (F0 m 1293 ls []) := by
        intro G S X μ ad2 H locs ls hR hl hw
        have e6 : nI (6 * i) + 6 = nI (6 * (i + 1)) := by
          have : (6 : Int32) = nI 6 := rfl
          rw [this, nI_add]
          congr 1
        refine lv_iinc (v := nI (6 * (i + 1))) (lv' := [(3, .int (nI (6 * (i + 1)))), (0, .ref b), (1, .ref (ad2 0)), (2, .ref (ad1 0))]) hx hb dL_law_1293 hl (k := 3) rfl e6 (by decide) rfl (fun ls hl => ?_)
        refine lv_goto (tgt := 18) hx hb dL_law_1296 (by decide) ?_
        exact ih (i + 1) ad2 G S X μ H locs ls (by omega) (by omega) hR (lv_sub hl [1, 2, 3, 0] rfl) hw
      refine lv_aload_n hx hb dL_law_27 rfl (lv_at hl 0 rfl) ?_
      refine lv_iload_n hx hb dL_law_28 rfl (lv_at hl 3 rfl) ?_
      refine va_sld (A := fun q => s.heap.size ≤ q) hx hb hX hbl hbA hw.2.2.2.1 (vp_in_nI (by omega) (by omega)) dL_law_29 ?_
      refine lv_bipush (v := 31) hx hb dL_law_30 (by decide) ?_
      refine lv_iand hx hb dL_law_32 ?_
      obtain ⟨j, hj, ej⟩ := pk_andE (xs (nI (6 * i)).toNatClampNeg) (m := 31) 5 (by decide)
      rw [ej]
      have hc : 48 + 12 * i + 12 ≤ 600000 := by omega
      have hs : 966 + 41 * i + 41 ≤ 7302250 := by omega
      match j, hj with
      | 0, _ =>
        refine lv_tableIn (off := 131) (tgt := 164) hx hb dL_law_33 (by decide) (by decide) (by decide) (by decide) ?_
        exact lc_town h_town C0 hlt hL hR hl hw hc hs K
      | 1, _ =>
        refine lv_tableIn (off := 184) (tgt := 217) hx hb dL_law_33 (by decide) (by decide) (by decide) (by decide) ?_
        exact lc_ofGate h_ofGate C0 hlt hL hR hl hw hc hs K
      | 2, _ =>
        refine lv_tableIn (off := 217) (tgt := 250) hx hb dL_law_33 (by decide) (by decide) (by decide) (by decide) ?_
        exact lc_ofStory h_ofStory C0 hlt hL hR hl hw hc hs K
      | 3, _ =>
        refine lv_tableIn (off := 250) (tgt := 283) hx hb dL_law_33 (by decide) (by decide) (by decide) (by decide) ?_
        exact lc_harmless h_harmless C0 hlt hL hR hl hw hc hs K
      | 4, _ =>
        refine lv_tableIn (off := 273) (tgt := 306) hx hb dL_law_33 (by decide) (by decide) (by decide) (by decide) ?_
        exact lc_rate h_rate C0 hlt hL hR hl hw hc hs K
      | 5, _ =>
        refine lv_tableIn (off := 306) (tgt := 339) hx hb dL_law_33 (by decide) (by decide) (by decide) (by decide) ?_
        exact lc_fresh h_fresh C0 hlt hL hR hl hw hc hs K
      | 6, _ =>
        refine lv_tableIn (off := 339) (tgt := 372) hx hb dL_law_33 (by decide) (by decide) (by decide) (by decide) ?_
        exact lc_duty h_duty C0 hlt hL hR hl hw hc hs K
      | 7, _ =>
        refine lv_tableIn (off := 392) (tgt := 425) hx hb dL_law_33 (by decide) (by decide) (by decide) (by decide) ?_
        exact lc_passages h_passages C0 hlt hL hR hl hw hc hs K
      | 8, _ =>
        refine lv_tableIn (off := 455) (tgt := 488) hx hb dL_law_33 (by decide) (by decide) (by decide) (by decide) ?_
        exact lc_least h_least C0 hlt hL hR hl hw hc hs K
      | 9, _ =>
        refine lv_tableIn (off := 498) (tgt := 531) hx hb dL_law_33 (by decide) (by decide) (by decide) (by decide) ?_
        exact lc_free h_free C0 hlt hL hR hl hw hc hs K
      | 10, _ =>
        refine lv_tableIn (off := 521) (tgt := 554) hx hb dL_law_33 (by decide) (by decide) (by decide) (by decide) ?_
        exact lc_worth h_worth C0 hlt hL hR hl hw hc hs K
      | 11, _ =>
        refine lv_tableIn (off := 564) (tgt := 597) hx hb dL_law_33 (by decide) (by decide) (by decide) (by decide) ?_
        exact lc_reading h_reading C0 hlt hL hR hl hw hc hs K
      | 12, _ =>
        refine lv_tableIn (off := 597) (tgt := 630) hx hb dL_law_33 (by decide) (by decide) (by decide) (by decide) ?_
        exact lc_back h_back C0 hlt hL hR hl hw hc hs K
      | 13, _ =>
        refine lv_tableIn (off := 620) (tgt := 653) hx hb dL_law_33 (by decide) (by decide) (by decide) (by decide) ?_
        exact lc_sizes h_sizes C0 hlt hL hR hl hw hc hs K
      | 14, _ =>
        refine lv_tableIn (off := 683) (tgt := 716) hx hb dL_law_33 (by decide) (by decide) (by decide) (by decide) ?_
        exact lc_persons h_persons C0 hlt hL hR hl hw hc hs K
      | 15, _ =>
        refine lv_tableIn (off := 746) (tgt := 779) hx hb dL_law_33 (by decide) (by decide) (by decide) (by decide) ?_
        exact lc_kinds h_kinds C0 hlt hL hR hl hw hc hs K
      | 16, _ =>
        refine lv_tableIn (off := 809) (tgt := 842) hx hb dL_law_33 (by decide) (by decide) (by decide) (by decide) ?_
        exact lc_limits h_limits C0 hlt hL hR hl hw hc hs K
      | 17, _ =>
        refine lv_tableIn (off := 862) (tgt := 895) hx hb dL_law_33 (by decide) (by decide) (by decide) (by decide) ?_
        exact lc_odds h_odds C0 hlt hL hR hl hw hc hs K
      | 18, _ =>
        refine lv_tableIn (off := 916) (tgt := 949) hx hb dL_law_33 (by decide) (by decide) (by decide) (by decide) ?_
        exact lc_sheet h_sheet C0 hlt hL hR hl hw hc hs K
      | 19, _ =>
        refine lv_tableIn (off := 959) (tgt := 992) hx hb dL_law_33 (by decide) (by decide) (by decide) (by decide) ?_
        exact lc_lose h_lose C0 hlt hL hR hl hw hc hs K
      | 20, _ =>
        refine lv_tableIn (off := 982) (tgt := 1015) hx hb dL_law_33 (by decide) (by decide) (by decide) (by decide) ?_
        exact lc_put h_put C0 hlt hL hR hl hw hc hs K
      | 21, _ =>
        refine lv_tableIn (off := 1025) (tgt := 1058) hx hb dL_law_33 (by decide) (by decide) (by decide) (by decide) ?_
        exact lc_cell h_cell C0 hlt hL hR hl hw hc hs K
      | 22, _ =>
        refine lv_tableIn (off := 1069) (tgt := 1102) hx hb dL_law_33 (by decide) (by decide) (by decide) (by decide) ?_
        exact lc_copy h_copy C0 hlt hL hR hl hw hc hs K
      | 23, _ =>
        refine lv_tableIn (off := 1132) (tgt := 1165) hx hb dL_law_33 (by decide) (by decide) (by decide) (by decide) ?_
        exact lc_tell h_tell C0 hlt hL hR hl hw hc hs K
      | 24, _ =>
        refine lv_tableIn (off := 1155) (tgt := 1188) hx hb dL_law_33 (by decide) (by decide) (by decide) (by decide) ?_
        exact lc_knock h_knock C0 hlt hL hR hl hw hc hs K
      | 25, _ =>
        refine lv_tableIn (off := 1178) (tgt := 1211) hx hb dL_law_33 (by decide) (by decide) (by decide) (by decide) ?_
        exact lc_as h_as C0 hlt hL hR hl hw hc hs K
      | 26, _ =>
        refine lv_tableIn (off := 1211) (tgt := 1244) hx hb dL_law_33 (by decide) (by decide) (by decide) (by decide) ?_
        exact lc_trace h_trace C0 hlt hL hR hl hw hc hs K
      | 27, _ =>
        refine lv_tableIn (off := 1224) (tgt := 1257) hx hb dL_law_33 (by decide) (by decide) (by decide) (by decide) ?_
        exact lc_fault h_fault C0 hlt hL hR hl hw hc hs K
      | 28, _ =>
        refine lv_tableIn (off := 1237) (tgt := 1270) hx hb dL_law_33 (by decide) (by decide) (by decide) (by decide) ?_
        exact lc_many h_many C0 hlt hL hR hl hw hc hs K
      | 29, _ =>
        refine lv_tableOut (tgt := 1293) hx hb dL_law_33 (by decide) (by decide) ?_
        refine W.widen (k := 48 + 12 * i + 12) (n := 966 + 41 * i + 41) (by omega) (by omega) ?_
        exact K _ _ _ _ _ _ _ _ hR hl hw
      | 30, _ =>
        refine lv_tableOut (tgt := 1293) hx hb dL_law_33 (by decide) (by decide) ?_
        refine W.widen (k := 48 + 12 * i + 12) (n := 966 + 41 * i + 41) (by omega) (by omega) ?_
        exact K _ _ _ _ _ _ _ _ hR hl hw
      | 31, _ =>
        refine lv_tableOut (tgt := 1293) hx hb dL_law_33 (by decide) (by decide) ?_
        refine W.widen (k := 48 + 12 * i + 12) (n := 966 + 41 * i + 41) (by omega) (by omega) ?_
        exact K _ _ _ _ _ _ _ _ hR hl hw
      | j + 32, hj => exact absurd hj (by omega)
/-- the states as the constructors leave them -/
def sig0 : gS := (fun k => if k = 4 then (-9) else 0, fun k => if k = 0 then fun _ => (-1) else fun _ => 0)
def gam0 : gS := (fun _ => 0, fun _ _ => 0)
def mu0 : gS := (fun k => if k = 14 then (-9) else 0, fun k => if k = 2 then (upd (upd (upd (upd (fun _ => 0) (0 : Int32).toNatClampNeg (-9)) (1 : Int32).toNatClampNeg (-9)) (2 : Int32).toNatClampNeg (-9)) (3 : Int32).toNatClampNeg (-9)) else fun _ => 0)
theorem RR_0 : RR 0 0 (sig0, gam0) mu0 := by
  refine ⟨fun _ _ => 0, 0, 0, ⟨by decide, by decide, Iff.rfl, by decide, by decide, fun g h => absurd h (Nat.not_lt_zero _), fun g h => absurd h (Nat.not_lt_zero _), fun g h => absurd h (Nat.not_lt_zero _), fun k _ => ⟨Nat.zero_le _, Nat.zero_le _, fun _ => rfl⟩⟩, ⟨rfl, rfl, fun g h => absurd h (Nat.not_lt_zero _), fun g h => absurd h (Nat.not_lt_zero _), fun g h => absurd h (Nat.not_lt_zero _), fun k _ => ⟨rfl, rfl⟩⟩, ⟨rfl, rfl, rfl, rfl, rfl, fun g h => absurd h (Nat.not_lt_zero _), fun g h => absurd h (Nat.not_lt_zero _), fun g h => absurd h (Nat.not_lt_zero _), fun k hk => ⟨?_, fun h => absurd rfl h⟩⟩, ⟨rfl, rfl, fun g h => absurd h (Nat.not_lt_zero _), fun k _ h => absurd rfl h⟩⟩
  rcases lt4 hk with rfl | rfl | rfl | rfl <;> decide
theorem gW.sub {D : va_G} {ty : gT} {A : Nat → Prop} {a b : va_W} {s : State} {H0 H : Heap} {locs : List Loc} (is : List Nat) (hn : va_nd is = true) (hs : is.map (fun i => a[i]?) = b.map some) (hs2 : is.filterMap (fun i => a[i]?) = b) (hw : gW D ty A a s H0 H locs) : gW D ty A b s H0 H locs := ⟨hw.1.sub is hs2, hw.2.1, hw.2.2.1.sub is hn hs, hw.2.2.2⟩
set_option maxHeartbeats 8000000 in
set_option maxRecDepth 100000 in
theorem start_world {D : va_G} {ty : gT} {A : Nat → Prop} {s : State} {H0 H : Heap} {locs : List Loc} {xa ma p1 p2 p3 p4 p5 p6 p7 p8 p9 p10 p11 p12 p13 p14 p15 p16 p17 p18 p19 p20 p21 p22 p23 p24 p25 p26 m1 m2 m3 m4 m5 m6 m7 m8 m9 m10 m11 m12 m13 m14 m15 m16 m17 m18 m19 m20 : Nat} (hw : gW D ty A [(m20, .inl (ty 0, 8, .inl (fun _ => 0))), (m19, .inl (ty 0, 8, .inl (fun _ => 0))), (m18, .inl (ty 0, 5, .inl (fun _ => 0))), (m17, .inl (ty 0, 4, .inl (fun _ => 0))), (m16, .inl (ty 0, 4, .inl (fun _ => 0))), (m15, .inl (ty 0, 160, .inl (fun _ => 0))), (m14, .inl (ty 0, 12, .inl (fun _ => 0))), (m13, .inl (ty 0, 12, .inl (fun _ => 0))), (m12, .inl (ty 0, 12, .inl (fun _ => 0))), (m11, .inl (ty 0, 12, .inl (fun _ => 0))), (m10, .inl (ty 0, 15, .inl (fun _ => 0))), (m9, .inl (ty 0, 4, .inl (fun _ => 0))), (m8, .inl (ty 0, 4, .inl (fun _ => 0))), (m7, .inl (ty 0, 4, .inl (fun _ => 0))), (m6, .inl (ty 0, 5, .inl (fun _ => 0))), (m5, .inl (ty 0, 5, .inl (fun _ => 0))), (m4, .inl (ty 0, 5, .inl (fun _ => 0))), (m3, .inl (ty 0, 240, .inl (fun _ => 0))), (m2, .inl (ty 0, 4, .inl (fun _ => 0))), (m1, .inl (ty 0, 4, .inl (upd (upd (upd (upd (fun _ => 0) (0 : Int32).toNatClampNeg (-9)) (1 : Int32).toNatClampNeg (-9)) (2 : Int32).toNatClampNeg (-9)) (3 : Int32).toNatClampNeg (-9)))), (ma, .inr (11, [.int 0, .int 0, .ref m1, .ref m2, .ref m3, .int 0, .int 0, .int 0, .ref m4, .ref m5, .ref m6, .ref m7, .ref m8, .ref m9, .int (-9), .int 0, .int 0, .int 0, .ref m10, .ref m11, .int 0, .ref m12, .ref m13, .ref m14, .ref m15, .ref m16, .ref m17, .ref m18, .int 0, .int 0, .int 0, .int 0, .ref m19, .ref m20])), (p26, .inl (ty 0, 60, .inl (fun _ => 0))), (p25, .inr (4, [.ref p26, .int (-1), .int 0])), (p24, .inl (ty 0, 60, .inl (fun _ => 0))), (p23, .inr (4, [.ref p24, .int (-1), .int 0])), (p22, .inl (ty 0, 60, .inl (fun _ => 0))), (p21, .inr (4, [.ref p22, .int (-1), .int 0])), (p20, .inl (ty 0, 60, .inl (fun _ => 0))), (p19, .inr (4, [.ref p20, .int (-1), .int 0])), (p18, .inr (9, [.int 0])), (p17, .inl (ty 0, 8, .inl (fun _ => 0))), (p16, .inl (ty 0, 8, .inl (fun _ => 0))), (p15, .inr (2, [.ref p16, .ref p17, .int 0])), (p14, .inl (ty 0, 4, .inl (fun _ => 0))), (p13, .inl (ty 0, 4, .inl (fun _ => 0))), (p12, .inl (ty 0, 12, .inl (fun _ => 0))), (p11, .inl (ty 0, 12, .inl (fun _ => 0))), (p10, .inl (ty 0, 12, .inl (fun _ => 0))), (p9, .inl (ty 0, 12, .inl (fun _ => 0))), (p8, .inr (3, [.ref p9, .ref p10, .ref p11, .ref p12, .int 0, .int (-9), .ref p13, .ref p14])), (p7, .inl (ty 0, 8, .inl (fun _ => 0))), (p6, .inl (ty 0, 40, .inl (fun _ => 0))), (p5, .inl (ty 0, 5, .inl (fun _ => 0))), (p4, .inl (ty 3, 0, .inr (.inr (.inr (.inr (fun _ => none)))))), (p3, .inl (ty 1, 0, .inr (.inr (.inr (.inr (fun _ => none)))))), (p2, .inr (8, [.ref p3, .ref p4, .int 0, .ref p5, .ref p6, .ref p7])), (p1, .inl (ty 2, 4, .inr (.inr (.inr (.inr (va_up (va_up (va_up (va_up (fun _ => none) (0 : Int32).toNatClampNeg (some p19)) (1 : Int32).toNatClampNeg (some p21)) (2 : Int32).toNatClampNeg (some p23)) (3 : Int32).toNatClampNeg (some p25))))))), (xa, .inr (10, [.ref p1, .ref p2, .ref p8, .ref p15, .ref p18, .int 0]))] s H0 H locs) : gW D ty A (mw ty (fun k => ([ma, 0, 0, m1, m2, m3, 0, 0, 0, m4, m5, m6, m7, m8, m9, 0, 0, 0, 0, m10, m11, 0, m12, m13, m14, m15, m16, m17, m18, 0, 0, 0, 0, m19, m20] : List Nat).getD k 0) mu0 (cw ty (fun k => ([xa, p1, p19, p21, p23, p25, p20, p22, p24, p26, p2, p3, p4, p5, p6, p7, p8, p9, p10, p11, p12, p13, p14, p15, p16, p17, p18] : List Nat).getD k 0) 0 0 (sig0, gam0) [])) s H0 H locs := by
  have hw := gW_setq (i := 46) (g := rwf (fun k => ([xa, p1, p19, p21, p23, p25, p20, p22, p24, p26, p2, p3, p4, p5, p6, p7, p8, p9, p10, p11, p12, p13, p14, p15, p16, p17, p18] : List Nat).getD k 0)) rfl (fun j hj => by rcases lt4 hj with rfl | rfl | rfl | rfl <;> rfl) hw
  have hw := gW.sub (b := cf ty (fun k => ([xa, p1, p19, p21, p23, p25, p20, p22, p24, p26, p2, p3, p4, p5, p6, p7, p8, p9, p10, p11, p12, p13, p14, p15, p16, p17, p18] : List Nat).getD k 0) (0, 0, fun _ => none, fun _ => none) sig0 (mw ty (fun k => ([ma, 0, 0, m1, m2, m3, 0, 0, 0, m4, m5, m6, m7, m8, m9, 0, 0, 0, 0, m10, m11, 0, m12, m13, m14, m15, m16, m17, m18, 0, 0, 0, 0, m19, m20] : List Nat).getD k 0) mu0 [])) [47, 46, 28, 26, 24, 22, 27, 25, 23, 21, 45, 44, 43, 42, 41, 40, 39, 38, 37, 36, 35, 34, 33, 32, 31, 30, 29, 20, 19, 18, 17, 16, 15, 14, 13, 12, 11, 10, 9, 8, 7, 6, 5, 4, 3, 2, 1, 0] (by decide) rfl rfl hw
  have hw := cf_ext (fg' := fun g => some ((fun k => ([xa, p1, p19, p21, p23, p25, p20, p22, p24, p26, p2, p3, p4, p5, p6, p7, p8, p9, p10, p11, p12, p13, p14, p15, p16, p17, p18] : List Nat).getD k 0) (100 + g))) (fs' := fun g => some ((fun k => ([xa, p1, p19, p21, p23, p25, p20, p22, p24, p26, p2, p3, p4, p5, p6, p7, p8, p9, p10, p11, p12, p13, p14, p15, p16, p17, p18] : List Nat).getD k 0) (200 + g))) (fun j hj => absurd hj (Nat.not_lt_zero _)) (fun j hj => absurd hj (Nat.not_lt_zero _)) hw
  exact gW.perm (perm_cm (X := (sig0, gam0)) (G := 0) (S := 0)) hw
set_option maxHeartbeats 8000000 in
set_option maxRecDepth 100000 in
theorem whole_start_open (h_town : St_town) (h_ofGate : St_ofGate) (h_ofStory : St_ofStory) (h_harmless : St_harmless) (h_rate : St_rate) (h_fresh : St_fresh) (h_duty : St_duty) (h_passages : St_passages) (h_least : St_least) (h_free : St_free) (h_worth : St_worth) (h_reading : St_reading) (h_back : St_back) (h_sizes : St_sizes) (h_persons : St_persons) (h_kinds : St_kinds) (h_limits : St_limits) (h_odds : St_odds) (h_sheet : St_sheet) (h_lose : St_lose) (h_put : St_put) (h_cell : St_cell) (h_copy : St_copy) (h_tell : St_tell) (h_knock : St_knock) (h_as : St_as) (h_trace : St_trace) (h_fault : St_fault) (h_many : St_many) {p : Program} {l : Launch} {e : Env} {s : State} {m : MethodId} {below : List Frame} {meth : Method} {c : Code} {b L : Nat} {xs : Nat → Int32} {L0 : Unit} (hL : L ≤ 384) (C0 : lw_At p s m meth c b L xs) : W p l e room_1 s m #[Value.ref b] below meth c s.heap [] 0 0 (lw_Z below #[Value.ref b] s) (entryFrame m ([Value.ref b] : List Value).toArray 4) := by
  obtain ⟨hx, hb0, hr, hml, hown, hts, hX, hbl, hlocks, hgv⟩ := id C0
  have hb : c.code = cL_law := hb0
  have F := lw_F C0
  have hA : ∀ q : Nat, s.heap.size ≤ q → (fun q : Nat => s.heap.size ≤ q) q := fun _ h => h
  have hq := flat_of_before _ hgv
  obtain ⟨c0, i0, k0⟩ := u_known (C := RX0) (T := TX0) (N := 3) (n := 3) hts inX0 (hts (.instantiable RX0 3) (List.mem_of_getElem? (i := 335) (by decide +kernel)))
  obtain ⟨c1, i1, k1⟩ := u_known (C := RX1) (T := TX1) (N := 3) (n := 3) hts inX1 (hts (.instantiable RX1 3) (List.mem_of_getElem? (i := 326) (by decide +kernel)))
  obtain ⟨c2, i2, k2⟩ := u_known (C := RX2) (T := TX2) (N := 3) (n := 3) hts inX2 (hts (.instantiable RX2 3) (List.mem_of_getElem? (i := 135) (by decide +kernel)))
  obtain ⟨c3, i3, k3⟩ := u_known (C := RX3) (T := TX3) (N := 8) (n := 8) hts inX3 (hts (.instantiable RX3 8) (List.mem_of_getElem? (i := 98) (by decide +kernel)))
  obtain ⟨c4, i4, k4⟩ := u_known (C := RX4) (T := TX4) (N := 3) (n := 3) hts inX4 (hts (.instantiable RX4 3) (List.mem_of_getElem? (i := 164) (by decide +kernel)))
  obtain ⟨c5, i5, k5⟩ := u_known (C := RX5) (T := TX5) (N := 3) (n := 3) hts inX5 (hts (.instantiable RX5 3) (List.mem_of_getElem? (i := 341) (by decide +kernel)))
  obtain ⟨c6, i6, k6⟩ := u_known (C := RX6) (T := TX6) (N := 3) (n := 3) hts inX6 (hts (.instantiable RX6 3) (List.mem_of_getElem? (i := 301) (by decide +kernel)))
  obtain ⟨c7, i7, k7⟩ := u_known (C := RX7) (T := TX7) (N := 5) (n := 5) hts inX7 (hts (.instantiable RX7 5) (List.mem_of_getElem? (i := 228) (by decide +kernel)))
  obtain ⟨c8, i8, k8⟩ := u_known (C := RX8) (T := TX8) (N := 6) (n := 6) hts inX8 (hts (.instantiable RX8 6) (List.mem_of_getElem? (i := 65) (by decide +kernel)))
  obtain ⟨c9, i9, k9⟩ := u_known (C := RX9) (T := TX9) (N := 1) (n := 1) hts inX9 (hts (.instantiable RX9 1) (List.mem_of_getElem? (i := 154) (by decide +kernel)))
  obtain ⟨c10, i10, k10⟩ := u_known (C := RX10) (T := TX10) (N := 6) (n := 6) hts inX10 (hts (.instantiable RX10 6) (List.mem_of_getElem? (i := 55) (by decide +kernel)))
  obtain ⟨c11, i11, k11⟩ := u_known (C := RX11) (T := TX11) (N := 34) (n := 34) hts inX11 (hts (.instantiable RX11 34) (List.mem_of_getElem? (i := 719) (by decide +kernel)))
  obtain ⟨D, hKc⟩ : ∃ D : va_G, ∀ (k : Nat) (q : vw_C), vwCl[k]? = some q → u_Kn s q.1 q.2.1 q.2.2 (D.1 k) (D.2 k) := by
    refine ⟨(fun k => ([c0, c1, c2, c3, c4, c5, c6, c7, c8, c9, c10, c11] : List ClassId).getD k c0, fun k => ([i0, i1, i2, i3, i4, i5, i6, i7, i8, i9, i10, i11] : List (Nat → Nat)).getD k i0), ?_⟩
    intro k q hq
    match k, hq with
    | 0, hq => cases hq; exact k0
    | 1, hq => cases hq; exact k1
    | 2, hq => cases hq; exact k2
    | 3, hq => cases hq; exact k3
    | 4, hq => cases hq; exact k4
    | 5, hq => cases hq; exact k5
    | 6, hq => cases hq; exact k6
    | 7, hq => cases hq; exact k7
    | 8, hq => cases hq; exact k8
    | 9, hq => cases hq; exact k9
    | 10, hq => cases hq; exact k10
    | 11, hq => cases hq; exact k11
    | k + 12, hq => simp [vwCl] at hq
  have a0 : va_AO RX0 s := va_AO.of (hts (.arrayOver (.object RX0)) (List.mem_of_getElem? (i := 71) (by decide +kernel)))
  have a4 : va_AO RX4 s := va_AO.of (hts (.arrayOver (.object RX4)) (List.mem_of_getElem? (i := 63) (by decide +kernel)))
  have a5 : va_AO RX5 s := va_AO.of (hts (.arrayOver (.object RX5)) (List.mem_of_getElem? (i := 73) (by decide +kernel)))
  have aI := hts (.arrayClass .int) (List.mem_of_getElem? (i := 96) (by decide +kernel))
  obtain ⟨tI, kI, pI, w1, w2, w3⟩ := Cond.arrayClass_spec aI
  obtain ⟨p0, t0, k0', u1, u2, u3, u4, u5⟩ := Cond.arrayOver_spec a0
  obtain ⟨p4, t4, k4', v1, v2, v3, v4, v5⟩ := Cond.arrayOver_spec a4
  obtain ⟨p5, t5, k5', z1, z2, z3, z4, z5⟩ := Cond.arrayOver_spec a5
  obtain ⟨ty, hty⟩ : ∃ ty : gT, va_K D vwCl (gtys ty) s := by
    refine ⟨fun k => ([tI, t0, t4, t5] : List ClassId).getD k tI, hKc, ?_⟩
    intro k q hq
    match k, hq with
    | 0, hq => cases hq; exact ⟨fun n z => ⟨fun k h => (by cases h), kI, w2, pI, w3⟩, w1⟩
    | 1, hq => cases hq; exact ⟨fun n z => ⟨fun k h => (by cases h), k0', u3, p0, u4⟩, k0', p0, u3, u4, u1, u5⟩
    | 2, hq => cases hq; exact ⟨fun n z => ⟨fun k h => (by cases h), k4', v3, p4, v4⟩, k4', p4, v3, v4, v1, v5⟩
    | 3, hq => cases hq; exact ⟨fun n z => ⟨fun k h => (by cases h), k5', z3, p5, z4⟩, k5', p5, z3, z4, z1, z5⟩
    | k + 4, hq => simp [gtys] at hq
  have hFc : gFc s := ⟨⟨va_Nw.of rfl (hts (.castable RX1 RX6) (List.mem_of_getElem? (i := 1070) (by decide +kernel))), va_Nw.of rfl (hts (.castable RX6 RX0) (List.mem_of_getElem? (i := 1071) (by decide +kernel))), va_Nw.of rfl (hts (.castable RX1 RX0) (List.mem_of_getElem? (i := 1072) (by decide +kernel)))⟩, ⟨va_Nc.of (hq (.not (.castable RX0 RX6)) (by decide +kernel)), va_Nc.of (hq (.not (.castable RX0 RX1)) (by decide +kernel)), va_Nc.of (hq (.not (.castable RX6 RX1)) (by decide +kernel))⟩, ⟨va_Nw.of rfl (hts (.methodLinkNest RX3 43 yX10_isWithin RX10) (List.mem_of_getElem? (i := 482) (by decide +kernel))), va_Nw.of rfl (hts (.methodLinkNest RX7 58 yX10_isWithin RX10) (List.mem_of_getElem? (i := 281) (by decide +kernel))), va_Nw.of rfl (hts (.methodLinkNest RX8 124 yX10_isWithin RX10) (List.mem_of_getElem? (i := 508) (by decide +kernel)))⟩, ⟨a0, a4, a5⟩, va_Nw.of rfl (hts (.methodLinkNest RX10 19 yX8_init RX10) (List.mem_of_getElem? (i := 66) (by decide +kernel))), va_Nw.of rfl (hts (.methodLinkNest RX10 26 yX3_init RX10) (List.mem_of_getElem? (i := 99) (by decide +kernel))), va_Nw.of rfl (hts (.methodLinkNest RX10 33 yX2_init RX10) (List.mem_of_getElem? (i := 136) (by decide +kernel))), va_Nw.of rfl (hts (.methodLinkNest RX10 40 yX9_init RX10) (List.mem_of_getElem? (i := 155) (by decide +kernel))), va_Nw.of rfl (hts (.methodLinkNest RX10 49 yX4_init RX10) (List.mem_of_getElem? (i := 165) (by decide +kernel)))⟩
  have wl : ∀ w : Cond, w ∈ wsL_law_r1 → w ∈ wsL_law := fun w h => by unfold wsL_law; simp only [List.mem_append]; simp [h]
  have hw : gW D ty (fun q : Nat => s.heap.size ≤ q) [] s s.heap s.heap [] := ⟨fun k q h => by simp at h, hty, ⟨fun i j p q h => by simp at h, fun k q h => by simp at h⟩, va_S.rf, hA, hFc⟩
  have hl := lv_entry ([.ref b]) (n := 4) (Nat.le_of_ble_eq_true rfl)
  rw [lg_entry_eq]
  generalize (lg_sl ([.ref b]) ++ List.replicate (4 - (lg_sl ([.ref b])).length) Slot.unset).toArray = ls at hl ⊢
  have hl : lv_has ls 4 [(0, .ref b)] := hl
  refine g_new (C := RX10) (T := TX10) (N := 6) (ci := 10) (fs := [.null, .null, .null, .null, .null, .int 0]) F inlX10 tyX10 tyX10_ok (F.2.2.2.2 (.classLink RL 7 RX10) (wl (.classLink RL 7 RX10) (by decide +kernel))) (F.2.2.2.2 (.instantiable RX10 6) (wl _ (by decide +kernel))) (F.2.2.2.2 (.initialized RX10) (wl _ (by decide +kernel))) hw rfl (fun j hj => by rcases (show j = 0 ∨ j = 1 ∨ j = 2 ∨ j = 3 ∨ j = 4 ∨ j = 5 by omega) with rfl | rfl | rfl | rfl | rfl | rfl <;> rfl) (Nat.le_of_ble_eq_true rfl) (Nat.le_of_ble_eq_true rfl) dL_law_0 (fun xa H hw => ?_)
  refine lv_dup hx hb dL_law_3 rfl ?_
  refine g_mC (va_runI F (As := []) (rest := [.ref xa]) (ci_X10 (wr := [])) (cwI 0 F.2.2.2.2 gL_law_X10_init rfl rfl rfl (hts (.initialized RX10) (List.mem_of_getElem? (i := 39) (by decide +kernel))) (hts (.methodLink RL 9 yX10_init) (List.mem_of_getElem? (i := 56) (by decide +kernel))) (hts (.instanceMethod yX10_init) (List.mem_of_getElem? (i := 57) (by decide +kernel))) rfl (by decide +kernel) ⟨Nat.le_of_ble_eq_true rfl, Nat.le_of_ble_eq_true rfl⟩) ⟨gO_blind, hw.pre _⟩ rfl rfl hl.1 rfl (lv_room (Nat.le_of_ble_eq_true rfl)) dL_law_4 ⟨(Nat.le_of_ble_eq_true rfl), (Nat.le_of_ble_eq_true rfl)⟩) hw (fun u H locs hu hw => ?_)
  obtain ⟨p1, p2, p3, p4, p5, p6, p7, p8, p9, p10, p11, p12, p13, p14, p15, p16, p17, p18, p19, p20, p21, p22, p23, p24, p25, p26, rfl⟩ := hu
  refine lv_astore_n (lv' := [(1, .ref xa), (0, .ref b)]) hx hb dL_law_7 rfl hl (by decide) rfl (fun ls hl => ?_)
  refine g_new (C := RX11) (T := TX11) (N := 34) (ci := 11) (fs := [.int 0, .int 0, .null, .null, .null, .int 0, .int 0, .int 0, .null, .null, .null, .null, .null, .null, .int 0, .int 0, .int 0, .int 0, .null, .null, .int 0, .null, .null, .null, .null, .null, .null, .null, .int 0, .int 0, .int 0, .int 0, .null, .null]) F inlX11 tyX11 tyX11_ok (F.2.2.2.2 (.classLink RL 10 RX11) (wl (.classLink RL 10 RX11) (by decide +kernel))) (F.2.2.2.2 (.instantiable RX11 34) (wl _ (by decide +kernel))) (F.2.2.2.2 (.initialized RX11) (wl _ (by decide +kernel))) hw rfl (fun j hj => by rcases (show j = 0 ∨ j = 1 ∨ j = 2 ∨ j = 3 ∨ j = 4 ∨ j = 5 ∨ j = 6 ∨ j = 7 ∨ j = 8 ∨ j = 9 ∨ j = 10 ∨ j = 11 ∨ j = 12 ∨ j = 13 ∨ j = 14 ∨ j = 15 ∨ j = 16 ∨ j = 17 ∨ j = 18 ∨ j = 19 ∨ j = 20 ∨ j = 21 ∨ j = 22 ∨ j = 23 ∨ j = 24 ∨ j = 25 ∨ j = 26 ∨ j = 27 ∨ j = 28 ∨ j = 29 ∨ j = 30 ∨ j = 31 ∨ j = 32 ∨ j = 33 by omega) with rfl | rfl | rfl | rfl | rfl | rfl | rfl | rfl | rfl | rfl | rfl | rfl | rfl | rfl | rfl | rfl | rfl | rfl | rfl | rfl | rfl | rfl | rfl | rfl | rfl | rfl | rfl | rfl | rfl | rfl | rfl | rfl | rfl | rfl <;> rfl) (Nat.le_of_ble_eq_true rfl) (Nat.le_of_ble_eq_true rfl) dL_law_8 (fun ma H hw => ?_)
  refine lv_dup hx hb dL_law_11 rfl ?_
  refine g_mC (va_runI F (As := []) (rest := [.ref ma]) (ci_X11 (wr := [(p26, .inl (ty 0, 60, .inl (fun _ => 0))), (p25, .inr (4, [.ref p26, .int (-1), .int 0])), (p24, .inl (ty 0, 60, .inl (fun _ => 0))), (p23, .inr (4, [.ref p24, .int (-1), .int 0])), (p22, .inl (ty 0, 60, .inl (fun _ => 0))), (p21, .inr (4, [.ref p22, .int (-1), .int 0])), (p20, .inl (ty 0, 60, .inl (fun _ => 0))), (p19, .inr (4, [.ref p20, .int (-1), .int 0])), (p18, .inr (9, [.int 0])), (p17, .inl (ty 0, 8, .inl (fun _ => 0))), (p16, .inl (ty 0, 8, .inl (fun _ => 0))), (p15, .inr (2, [.ref p16, .ref p17, .int 0])), (p14, .inl (ty 0, 4, .inl (fun _ => 0))), (p13, .inl (ty 0, 4, .inl (fun _ => 0))), (p12, .inl (ty 0, 12, .inl (fun _ => 0))), (p11, .inl (ty 0, 12, .inl (fun _ => 0))), (p10, .inl (ty 0, 12, .inl (fun _ => 0))), (p9, .inl (ty 0, 12, .inl (fun _ => 0))), (p8, .inr (3, [.ref p9, .ref p10, .ref p11, .ref p12, .int 0, .int (-9), .ref p13, .ref p14])), (p7, .inl (ty 0, 8, .inl (fun _ => 0))), (p6, .inl (ty 0, 40, .inl (fun _ => 0))), (p5, .inl (ty 0, 5, .inl (fun _ => 0))), (p4, .inl (ty 3, 0, .inr (.inr (.inr (.inr (fun _ => none)))))), (p3, .inl (ty 1, 0, .inr (.inr (.inr (.inr (fun _ => none)))))), (p2, .inr (8, [.ref p3, .ref p4, .int 0, .ref p5, .ref p6, .ref p7])), (p1, .inl (ty 2, 4, .inr (.inr (.inr (.inr (va_up (va_up (va_up (va_up (fun _ => none) (0 : Int32).toNatClampNeg (some p19)) (1 : Int32).toNatClampNeg (some p21)) (2 : Int32).toNatClampNeg (some p23)) (3 : Int32).toNatClampNeg (some p25))))))), (xa, .inr (10, [.ref p1, .ref p2, .ref p8, .ref p15, .ref p18, .int 0]))])) (cwI 0 F.2.2.2.2 gL_law_X11_init rfl rfl rfl (hts (.initialized RX11) (List.mem_of_getElem? (i := 45) (by decide +kernel))) (hts (.methodLink RL 12 yX11_init) (List.mem_of_getElem? (i := 720) (by decide +kernel))) (hts (.instanceMethod yX11_init) (List.mem_of_getElem? (i := 721) (by decide +kernel))) rfl (by decide +kernel) ⟨Nat.le_of_ble_eq_true rfl, Nat.le_of_ble_eq_true rfl⟩) ⟨gO_blind, hw.pre _⟩ rfl rfl hl.1 rfl (lv_room (Nat.le_of_ble_eq_true rfl)) dL_law_12 ⟨(Nat.le_of_ble_eq_true rfl), (Nat.le_of_ble_eq_true rfl)⟩) hw (fun u H locs hu hw => ?_)
  obtain ⟨m1, m2, m3, m4, m5, m6, m7, m8, m9, m10, m11, m12, m13, m14, m15, m16, m17, m18, m19, m20, rfl⟩ := hu
  refine lv_astore_n (lv' := [(2, .ref ma), (1, .ref xa), (0, .ref b)]) hx hb dL_law_15 rfl hl (by decide) rfl (fun ls hl => ?_)
  refine lv_iconst (v := 0) hx hb dL_law_16 (by decide) ?_
  refine lv_istore_n (lv' := [(3, .int 0), (2, .ref ma), (1, .ref xa), (0, .ref b)]) hx hb dL_law_17 rfl hl (by decide) rfl (fun ls hl => ?_)
  refine W.widen (k := 48) (n := 966) (by decide) (by decide) ?_
  exact law_loop h_town h_ofGate h_ofStory h_harmless h_rate h_fresh h_duty h_passages h_least h_free h_worth h_reading h_back h_sizes h_persons h_kinds h_limits h_odds h_sheet h_lose h_put h_cell h_copy h_tell h_knock h_as h_trace h_fault h_many C0 hL (L + 1) 0 _ 0 0 _ _ _ _ ls (by omega) (by omega) RR_0 (lv_sub hl [3, 2, 1, 0] rfl) (start_world hw)
