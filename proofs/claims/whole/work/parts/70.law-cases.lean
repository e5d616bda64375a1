def R_law : String := "GossipGateLaw"
def lw_P (b : Addr) (xs : List Int32) (args : Array Value) (s : State) : Prop := args = #[.ref b] ∧ s.IntsAt b xs ∧ xs.length ≤ 384 ∧ (Jvm.Cond.and given_1 narrow_1).before args s = true
def lw_Q (_ : Array Value) (s : State) (o : Outcome) (t : State) : Prop := o = .returned (some (.int 1)) ∧ Framed s o t [] 600000 7302250
def lw_Z (below : List Frame) (a : Array Value) (s : State) : State → Prop := fun t => ∃ o, t.status = .running ∧ Ended t below o ∧ lw_Q a s o t
/-- the law's own end, with 1 on the stack, nothing written that was there before, its room as the claim has it -/
theorem lw_ret {p : Program} {l : Launch} {e : Env} {s : State} {m : MethodId} {below : List Frame} {meth : Method} {c : Code} {b : Nat} (hx : p.tables.exec = Jvm.exec) (hb : c.code = code) (hr : meth.sig.returnType = ret) (hlocks : meth.locks = false) {pc : Nat} {H : Heap} {ls : Array Slot} (hdg : decode code pc = .ok (.ireturn, 1)) : W p l e room_1 s m #[Value.ref b] below meth c H [] 600000 7302250 (lw_Z below #[Value.ref b] s) (F0 m pc ls [.int 1]) := by
  intro T hT X
  obtain ⟨fs, hret, hrun, hended, hW, hframe⟩ := X.leave (v := some (.int 1)) (hlocks := hlocks) (fun h => by rw [hr] at h; cases h)
  have hmeth' : T.vm.method? m = some meth := X.method'
  refine ⟨T.setFrames fs, ?_, .returned (some (.int 1)), hrun, hended, rfl, ⟨_, rfl⟩, hW, hframe⟩
  jvm_step X.here [X.here.top, hx, hb, hdg, hmeth', hr, ret, narrow_b1]
  (try refine ⟨rfl, ?_⟩); (try refine ⟨rfl, ?_⟩)
  first | (intro acts; rw [hret _ acts rfl rfl rfl]) | rw [hret _ _ rfl rfl rfl]
  exact Steps.refl _
/-- what holds at the law's entry: the machine, the code, the tables' words (any of lw_tbl by 'hts w (by decide +kernel)'), the script of L ints xs at the cell b, what the Statement gives of the start (any of its parts by flat_of_before) -/
def lw_At (p : Program) (s : State) (m : MethodId) (meth : Method) (c : Code) (b L : Nat) (xs : Nat → Int32) : Prop :=
  p.tables.exec = Jvm.exec ∧ c.code = code ∧ meth.sig.returnType = ret ∧ c.maxLocals = 4 ∧ s.vm.findClass R_law = some m.cls ∧ (∀ w ∈ lw_tbl, w.before #[Value.ref b] s = true) ∧ va_X b L xs s s.heap ∧ b < s.heap.size ∧ meth.locks = false ∧ (Jvm.Cond.and given_1 narrow_1).before #[Value.ref b] s = true
theorem lw_F {p : Program} {s : State} {m : MethodId} {meth : Method} {c : Code} {b L : Nat} {xs : Nat → Int32} (C0 : lw_At p s m meth c b L xs) : CallFix p m c cL_law 4 s #[Value.ref b] wsL_law RL := ⟨C0.1, C0.2.1, C0.2.2.2.1, C0.2.2.2.2.1, fun w h => C0.2.2.2.2.2.1 w (wsL_law_in w h)⟩
theorem perm_mc {ty : gT} {ad1 ad2 : Nat → Nat} {μ : gS} {G S : Nat} {X : gC} : (mw ty ad1 μ (cw ty ad2 G S X [])).Perm (cw ty ad2 G S X (mw ty ad1 μ [])) := by
  have e1 : mw ty ad1 μ (cw ty ad2 G S X []) = mw ty ad1 μ [] ++ cw ty ad2 G S X [] := rfl
  have e2 : cw ty ad2 G S X (mw ty ad1 μ []) = cw ty ad2 G S X [] ++ mw ty ad1 μ [] := by
    show cf ty ad2 (kK ad2 G S) X.1 (cgs ad2 G S X.2 (mw ty ad1 μ [])) = cf ty ad2 (kK ad2 G S) X.1 (cgs ad2 G S X.2 []) ++ mw ty ad1 μ []
    have e3 : cgs ad2 G S X.2 (mw ty ad1 μ []) = cgs ad2 G S X.2 [] ++ mw ty ad1 μ [] := by unfold cgs; simp
    rw [e3]
    rfl
  rw [e1, e2]
  exact List.perm_append_comm
theorem perm_cm {ty : gT} {ad1 ad2 : Nat → Nat} {μ : gS} {G S : Nat} {X : gC} : (cw ty ad2 G S X (mw ty ad1 μ [])).Perm (mw ty ad1 μ (cw ty ad2 G S X [])) := perm_mc.symm
/-- the script's next number but j -/
theorem ls_arg {p : Program} {l : Launch} {e : Env} {R : Room} {s : State} {m : MethodId} {below : List Frame} {meth : Method} {c : Code} {b L : Nat} {xs : Nat → Int32} {D : va_G} {ty : gT} {i j pc x1 x2 : Nat} {ws : va_W} {H : Heap} {locs : List Loc} {ls : Array Slot} {cells slots : Nat} {Q : State → Prop} {st : List Value} (C0 : lw_At p s m meth c b L xs) (hi : 6 * i + 6 ≤ L) (hL : L ≤ 384) (hj : j < 6) (hl : lv_has ls 4 [(0, .ref b), (1, .ref x1), (2, .ref x2), (3, .int (nI (6 * i)))]) (hw : gW D ty (fun q => s.heap.size ≤ q) ws s s.heap H locs) {v : Int} (hv : Int32.ofInt v = nI j)
    (d1 : decode cL_law pc = .ok (.aload_n 0, 1)) (d2 : decode cL_law (pc + 1) = .ok (.iload_n 3, 1)) (d3 : decode cL_law (pc + 1 + 1) = .ok (.iconst v, 1)) (d4 : decode cL_law (pc + 1 + 1 + 1) = .ok (.iadd, 1)) (d5 : decode cL_law (pc + 1 + 1 + 1 + 1) = .ok (.iaload, 1))
    (kk : W p l e R s m #[Value.ref b] below meth c H locs cells slots Q (F0 m (pc + 1 + 1 + 1 + 1 + 1) ls (.int (xs (6 * i + j)) :: st))) : W p l e R s m #[Value.ref b] below meth c H locs cells slots Q (F0 m pc ls st) := by
  obtain ⟨hx, hb, hr, hml, hown, hts, hX, hbl, hlocks, hgv⟩ := id C0
  refine lv_aload_n hx hb d1 rfl (lv_at hl 0 rfl) ?_
  refine lv_iload_n hx hb d2 rfl (lv_at hl 3 rfl) ?_
  refine lv_iconst (v := nI j) hx hb d3 hv ?_
  refine lv_iadd hx hb d4 ?_
  have e : nI (6 * i) + nI j = nI (6 * i + j) := nI_add _ _
  rw [e]
  refine va_sld (A := fun q => s.heap.size ≤ q) hx hb hX hbl (Nat.not_le.mpr hbl) hw.2.2.2.1 (vp_in_nI (by omega) (by omega)) d5 ?_
  rw [nI_clamp (by omega)]
  exact kk
set_option maxHeartbeats 4000000 in
set_option maxRecDepth 100000 in
theorem lc_town (hst : St_town) {p : Program} {l : Launch} {e : Env} {s : State} {m : MethodId} {below : List Frame} {meth : Method} {c : Code} {b L : Nat} {xs : Nat → Int32} {D : va_G} {ty : gT} {ad1 ad2 : Nat → Nat} {G S i : Nat} {X : gC} {μ : gS} {H : Heap} {locs : List Loc} {ls : Array Slot} {cells slots : Nat} {Q : State → Prop} (C0 : lw_At p s m meth c b L xs) (hi : 6 * i + 6 ≤ L) (hL : L ≤ 384) (hR : RR G S X μ) (hl : lv_has ls 4 [(0, .ref b), (1, .ref (ad2 0)), (2, .ref (ad1 0)), (3, .int (nI (6 * i)))]) (hw : gW D ty (fun q => s.heap.size ≤ q) (mw ty ad1 μ (cw ty ad2 G S X [])) s s.heap H locs) (hc : cells + 12 ≤ 600000) (hs : slots + 41 ≤ 7302250)
    (K : ∀ (G S : Nat) (X : gC) (μ : gS) (ad2 : Nat → Nat) (H : Heap) (locs : List Loc) (ls : Array Slot), RR G S X μ → lv_has ls 4 [(0, .ref b), (1, .ref (ad2 0)), (2, .ref (ad1 0)), (3, .int (nI (6 * i)))] → gW D ty (fun q => s.heap.size ≤ q) (mw ty ad1 μ (cw ty ad2 G S X [])) s s.heap H locs → W p l e room_1 s m #[Value.ref b] below meth c H locs (cells + 12) (slots + 41) Q (F0 m 1293 ls [])) : W p l e room_1 s m #[Value.ref b] below meth c H locs cells slots Q (F0 m 164 ls []) := by
  have F := lw_F C0
  obtain ⟨hx, hb, hml, hown, hts⟩ := id F
  obtain ⟨r, G', S', X', μ', h1, h2, hR'⟩ := hst G S X μ (xs (6 * i + 1)) (xs (6 * i + 2)) (xs (6 * i + 3)) (xs (6 * i + 4)) hR
  have hw := gW.perm perm_mc hw
  refine lv_aload_n hx hb dL_law_164 rfl (lv_at hl 1 rfl) ?_
  refine ls_arg C0 (j := 1) hi hL (by decide) hl hw (by decide) dL_law_165 dL_law_166 dL_law_167 dL_law_168 dL_law_169 ?_
  refine ls_arg C0 (j := 2) hi hL (by decide) hl hw (by decide) dL_law_170 dL_law_171 dL_law_172 dL_law_173 dL_law_174 ?_
  refine ls_arg C0 (j := 3) hi hL (by decide) hl hw (by decide) dL_law_175 dL_law_176 dL_law_177 dL_law_178 dL_law_179 ?_
  refine ls_arg C0 (j := 4) hi hL (by decide) hl hw (by decide) dL_law_180 dL_law_181 dL_law_182 dL_law_183 dL_law_184 ?_
  refine g_jC (va_runV F (As := [.int (xs (6 * i + 1)), .int (xs (6 * i + 2)), .int (xs (6 * i + 3)), .int (xs (6 * i + 4))]) (rest := []) (ccx_town h1) (cwV 4 hts gL_law_X10_town rfl rfl rfl (by decide +kernel) ⟨Nat.le_of_ble_eq_true rfl, Nat.le_of_ble_eq_true rfl⟩) ⟨gO_blind, hw.recv (ci := 10) (q0 := 0) rfl rfl rfl, hw.pre _⟩ rfl rfl hl.1 rfl (lv_room (Nat.le_of_ble_eq_true rfl)) dL_law_185 ⟨hc, hs⟩) hw (fun r1 u H locs hu hw => ?_)
  obtain ⟨rfl, ad2', had, rfl⟩ := hu
  have hl : lv_has ls 4 [(0, .ref b), (1, .ref (ad2' 0)), (2, .ref (ad1 0)), (3, .int (nI (6 * i)))] := by rw [had 0 (by decide) (by decide) (by decide)]; exact hl
  have hw := gW.perm perm_cm hw
  refine lv_aload_n hx hb dL_law_188 rfl (lv_at hl 2 rfl) ?_
  refine ls_arg C0 (j := 1) hi hL (by decide) hl hw (by decide) dL_law_189 dL_law_190 dL_law_191 dL_law_192 dL_law_193 ?_
  refine ls_arg C0 (j := 2) hi hL (by decide) hl hw (by decide) dL_law_194 dL_law_195 dL_law_196 dL_law_197 dL_law_198 ?_
  refine ls_arg C0 (j := 3) hi hL (by decide) hl hw (by decide) dL_law_199 dL_law_200 dL_law_201 dL_law_202 dL_law_203 ?_
  refine ls_arg C0 (j := 4) hi hL (by decide) hl hw (by decide) dL_law_204 dL_law_205 dL_law_206 dL_law_207 dL_law_208 ?_
  refine g_cIc F (As := [.int (xs (6 * i + 1)), .int (xs (6 * i + 2)), .int (xs (6 * i + 3)), .int (xs (6 * i + 4))]) (rest := [.int _]) (cmm_town h2) (cwV 4 hts gL_law_X11_town rfl rfl rfl (by decide +kernel) ⟨Nat.le_of_ble_eq_true rfl, Nat.le_of_ble_eq_true rfl⟩) hw (hw.recv (ci := 11) (q0 := 0) rfl rfl rfl) rfl hl.1 rfl (Nat.le_of_ble_eq_true rfl) dL_law_209 hc hs (fun H locs hw => ?_)
  refine lv_icmp_eq (tgt := 1293) hx hb dL_law_212 (by decide) (fun _ => ?_) (fun c0 => absurd rfl c0)
  exact K _ _ _ _ _ _ _ _ hR' hl hw
set_option maxHeartbeats 4000000 in
set_option maxRecDepth 100000 in
theorem lc_ofGate (hst : St_ofGate) {p : Program} {l : Launch} {e : Env} {s : State} {m : MethodId} {below : List Frame} {meth : Method} {c : Code} {b L : Nat} {xs : Nat → Int32} {D : va_G} {ty : gT} {ad1 ad2 : Nat → Nat} {G S i : Nat} {X : gC} {μ : gS} {H : Heap} {locs : List Loc} {ls : Array Slot} {cells slots : Nat} {Q : State → Prop} (C0 : lw_At p s m meth c b L xs) (hi : 6 * i + 6 ≤ L) (hL : L ≤ 384) (hR : RR G S X μ) (hl : lv_has ls 4 [(0, .ref b), (1, .ref (ad2 0)), (2, .ref (ad1 0)), (3, .int (nI (6 * i)))]) (hw : gW D ty (fun q => s.heap.size ≤ q) (mw ty ad1 μ (cw ty ad2 G S X [])) s s.heap H locs) (hc : cells + 12 ≤ 600000) (hs : slots + 41 ≤ 7302250)
    (K : ∀ (G S : Nat) (X : gC) (μ : gS) (ad2 : Nat → Nat) (H : Heap) (locs : List Loc) (ls : Array Slot), RR G S X μ → lv_has ls 4 [(0, .ref b), (1, .ref (ad2 0)), (2, .ref (ad1 0)), (3, .int (nI (6 * i)))] → gW D ty (fun q => s.heap.size ≤ q) (mw ty ad1 μ (cw ty ad2 G S X [])) s s.heap H locs → W p l e room_1 s m #[Value.ref b] below meth c H locs (cells + 12) (slots + 41) Q (F0 m 1293 ls [])) : W p l e room_1 s m #[Value.ref b] below meth c H locs cells slots Q (F0 m 217 ls []) := by
  have F := lw_F C0
  obtain ⟨hx, hb, hml, hown, hts⟩ := id F
  obtain ⟨r, h1, h2, hR'⟩ := hst G S X μ (xs (6 * i + 1)) (xs (6 * i + 2)) hR
  have hw := gW.perm perm_mc hw
  refine lv_aload_n hx hb dL_law_217 rfl (lv_at hl 1 rfl) ?_
  refine ls_arg C0 (j := 1) hi hL (by decide) hl hw (by decide) dL_law_218 dL_law_219 dL_law_220 dL_law_221 dL_law_222 ?_
  refine ls_arg C0 (j := 2) hi hL (by decide) hl hw (by decide) dL_law_223 dL_law_224 dL_law_225 dL_law_226 dL_law_227 ?_
  refine g_cIc F (As := [.int (xs (6 * i + 1)), .int (xs (6 * i + 2))]) (rest := []) (ccx_ofGate h1) (cwV 2 hts gL_law_X10_ofGate rfl rfl rfl (by decide +kernel) ⟨Nat.le_of_ble_eq_true rfl, Nat.le_of_ble_eq_true rfl⟩) hw (hw.recv (ci := 10) (q0 := 0) rfl rfl rfl) rfl hl.1 rfl (Nat.le_of_ble_eq_true rfl) dL_law_228 (show cells ≤ 600000 by omega) (show slots ≤ 7302250 by omega) (fun H locs hw => ?_)
  refine W.widen (k := cells + 12) (n := slots + 41) (by omega) (by omega) ?_
  have hw := gW.perm perm_cm hw
  refine lv_aload_n hx hb dL_law_231 rfl (lv_at hl 2 rfl) ?_
  refine ls_arg C0 (j := 1) hi hL (by decide) hl hw (by decide) dL_law_232 dL_law_233 dL_law_234 dL_law_235 dL_law_236 ?_
  refine ls_arg C0 (j := 2) hi hL (by decide) hl hw (by decide) dL_law_237 dL_law_238 dL_law_239 dL_law_240 dL_law_241 ?_
  refine g_cIc F (As := [.int (xs (6 * i + 1)), .int (xs (6 * i + 2))]) (rest := [.int r]) (cmm_ofGate h2) (cwV 2 hts gL_law_X11_ofGate rfl rfl rfl (by decide +kernel) ⟨Nat.le_of_ble_eq_true rfl, Nat.le_of_ble_eq_true rfl⟩) hw (hw.recv (ci := 11) (q0 := 0) rfl rfl rfl) rfl hl.1 rfl (Nat.le_of_ble_eq_true rfl) dL_law_242 hc hs (fun H locs hw => ?_)
  refine lv_icmp_eq (tgt := 1293) hx hb dL_law_245 (by decide) (fun _ => ?_) (fun c0 => absurd rfl c0)
  exact K _ _ _ _ _ _ _ _ hR' hl hw
set_option maxHeartbeats 4000000 in
set_option maxRecDepth 100000 in
theorem lc_ofStory (hst : St_ofStory) {p : Program} {l : Launch} {e : Env} {s : State} {m : MethodId} {below : List Frame} {meth : Method} {c : Code} {b L : Nat} {xs : Nat → Int32} {D : va_G} {ty : gT} {ad1 ad2 : Nat → Nat} {G S i : Nat} {X : gC} {μ : gS} {H : Heap} {locs : List Loc} {ls : Array Slot} {cells slots : Nat} {Q : State → Prop} (C0 : lw_At p s m meth c b L xs) (hi : 6 * i + 6 ≤ L) (hL : L ≤ 384) (hR : RR G S X μ) (hl : lv_has ls 4 [(0, .ref b), (1, .ref (ad2 0)), (2, .ref (ad1 0)), (3, .int (nI (6 * i)))]) (hw : gW D ty (fun q => s.heap.size ≤ q) (mw ty ad1 μ (cw ty ad2 G S X [])) s s.heap H locs) (hc : cells + 12 ≤ 600000) (hs : slots + 41 ≤ 7302250)
    (K : ∀ (G S : Nat) (X : gC) (μ : gS) (ad2 : Nat → Nat) (H : Heap) (locs : List Loc) (ls : Array Slot), RR G S X μ → lv_has ls 4 [(0, .ref b), (1, .ref (ad2 0)), (2, .ref (ad1 0)), (3, .int (nI (6 * i)))] → gW D ty (fun q => s.heap.size ≤ q) (mw ty ad1 μ (cw ty ad2 G S X [])) s s.heap H locs → W p l e room_1 s m #[Value.ref b] below meth c H locs (cells + 12) (slots + 41) Q (F0 m 1293 ls [])) : W p l e room_1 s m #[Value.ref b] below meth c H locs cells slots Q (F0 m 250 ls []) := by
  have F := lw_F C0
  obtain ⟨hx, hb, hml, hown, hts⟩ := id F
  obtain ⟨r, h1, h2, hR'⟩ := hst G S X μ (xs (6 * i + 1)) (xs (6 * i + 2)) hR
  have hw := gW.perm perm_mc hw
  refine lv_aload_n hx hb dL_law_250 rfl (lv_at hl 1 rfl) ?_
  refine ls_arg C0 (j := 1) hi hL (by decide) hl hw (by decide) dL_law_251 dL_law_252 dL_law_253 dL_law_254 dL_law_255 ?_
  refine ls_arg C0 (j := 2) hi hL (by decide) hl hw (by decide) dL_law_256 dL_law_257 dL_law_258 dL_law_259 dL_law_260 ?_
  refine g_cIc F (As := [.int (xs (6 * i + 1)), .int (xs (6 * i + 2))]) (rest := []) (ccx_ofStory h1) (cwV 2 hts gL_law_X10_ofStory rfl rfl rfl (by decide +kernel) ⟨Nat.le_of_ble_eq_true rfl, Nat.le_of_ble_eq_true rfl⟩) hw (hw.recv (ci := 10) (q0 := 0) rfl rfl rfl) rfl hl.1 rfl (Nat.le_of_ble_eq_true rfl) dL_law_261 (show cells ≤ 600000 by omega) (show slots ≤ 7302250 by omega) (fun H locs hw => ?_)
  refine W.widen (k := cells + 12) (n := slots + 41) (by omega) (by omega) ?_
  have hw := gW.perm perm_cm hw
  refine lv_aload_n hx hb dL_law_264 rfl (lv_at hl 2 rfl) ?_
  refine ls_arg C0 (j := 1) hi hL (by decide) hl hw (by decide) dL_law_265 dL_law_266 dL_law_267 dL_law_268 dL_law_269 ?_
  refine ls_arg C0 (j := 2) hi hL (by decide) hl hw (by decide) dL_law_270 dL_law_271 dL_law_272 dL_law_273 dL_law_274 ?_
  refine g_cIc F (As := [.int (xs (6 * i + 1)), .int (xs (6 * i + 2))]) (rest := [.int r]) (cmm_ofStory h2) (cwV 2 hts gL_law_X11_ofStory rfl rfl rfl (by decide +kernel) ⟨Nat.le_of_ble_eq_true rfl, Nat.le_of_ble_eq_true rfl⟩) hw (hw.recv (ci := 11) (q0 := 0) rfl rfl rfl) rfl hl.1 rfl (Nat.le_of_ble_eq_true rfl) dL_law_275 hc hs (fun H locs hw => ?_)
  refine lv_icmp_eq (tgt := 1293) hx hb dL_law_278 (by decide) (fun _ => ?_) (fun c0 => absurd rfl c0)
  exact K _ _ _ _ _ _ _ _ hR' hl hw
set_option maxHeartbeats 4000000 in
set_option maxRecDepth 100000 in
theorem lc_harmless (hst : St_harmless) {p : Program} {l : Launch} {e : Env} {s : State} {m : MethodId} {below : List Frame} {meth : Method} {c : Code} {b L : Nat} {xs : Nat → Int32} {D : va_G} {ty : gT} {ad1 ad2 : Nat → Nat} {G S i : Nat} {X : gC} {μ : gS} {H : Heap} {locs : List Loc} {ls : Array Slot} {cells slots : Nat} {Q : State → Prop} (C0 : lw_At p s m meth c b L xs) (hi : 6 * i + 6 ≤ L) (hL : L ≤ 384) (hR : RR G S X μ) (hl : lv_has ls 4 [(0, .ref b), (1, .ref (ad2 0)), (2, .ref (ad1 0)), (3, .int (nI (6 * i)))]) (hw : gW D ty (fun q => s.heap.size ≤ q) (mw ty ad1 μ (cw ty ad2 G S X [])) s s.heap H locs) (hc : cells + 12 ≤ 600000) (hs : slots + 41 ≤ 7302250)
    (K : ∀ (G S : Nat) (X : gC) (μ : gS) (ad2 : Nat → Nat) (H : Heap) (locs : List Loc) (ls : Array Slot), RR G S X μ → lv_has ls 4 [(0, .ref b), (1, .ref (ad2 0)), (2, .ref (ad1 0)), (3, .int (nI (6 * i)))] → gW D ty (fun q => s.heap.size ≤ q) (mw ty ad1 μ (cw ty ad2 G S X [])) s s.heap H locs → W p l e room_1 s m #[Value.ref b] below meth c H locs (cells + 12) (slots + 41) Q (F0 m 1293 ls [])) : W p l e room_1 s m #[Value.ref b] below meth c H locs cells slots Q (F0 m 283 ls []) := by
  have F := lw_F C0
  obtain ⟨hx, hb, hml, hown, hts⟩ := id F
  obtain ⟨r, X', μ', h1, h2, hR'⟩ := hst G S X μ (xs (6 * i + 1)) hR
  have hw := gW.perm perm_mc hw
  refine lv_aload_n hx hb dL_law_283 rfl (lv_at hl 1 rfl) ?_
  refine ls_arg C0 (j := 1) hi hL (by decide) hl hw (by decide) dL_law_284 dL_law_285 dL_law_286 dL_law_287 dL_law_288 ?_
  refine g_cIc F (As := [.int (xs (6 * i + 1))]) (rest := []) (ccx_harmless h1) (cwV 1 hts gL_law_X10_harmless rfl rfl rfl (by decide +kernel) ⟨Nat.le_of_ble_eq_true rfl, Nat.le_of_ble_eq_true rfl⟩) hw (hw.recv (ci := 10) (q0 := 0) rfl rfl rfl) rfl hl.1 rfl (Nat.le_of_ble_eq_true rfl) dL_law_289 (show cells ≤ 600000 by omega) (show slots ≤ 7302250 by omega) (fun H locs hw => ?_)
  refine W.widen (k := cells + 12) (n := slots + 41) (by omega) (by omega) ?_
  have hw := gW.perm perm_cm hw
  refine lv_aload_n hx hb dL_law_292 rfl (lv_at hl 2 rfl) ?_
  refine ls_arg C0 (j := 1) hi hL (by decide) hl hw (by decide) dL_law_293 dL_law_294 dL_law_295 dL_law_296 dL_law_297 ?_
  refine g_cIc F (As := [.int (xs (6 * i + 1))]) (rest := [.int r]) (cmm_harmless h2) (cwV 1 hts gL_law_X11_harmless rfl rfl rfl (by decide +kernel) ⟨Nat.le_of_ble_eq_true rfl, Nat.le_of_ble_eq_true rfl⟩) hw (hw.recv (ci := 11) (q0 := 0) rfl rfl rfl) rfl hl.1 rfl (Nat.le_of_ble_eq_true rfl) dL_law_298 hc hs (fun H locs hw => ?_)
  refine lv_icmp_eq (tgt := 1293) hx hb dL_law_301 (by decide) (fun _ => ?_) (fun c0 => absurd rfl c0)
  exact K _ _ _ _ _ _ _ _ hR' hl hw
set_option maxHeartbeats 4000000 in
set_option maxRecDepth 100000 in
theorem lc_rate (hst : St_rate) {p : Program} {l : Launch} {e : Env} {s : State} {m : MethodId} {below : List Frame} {meth : Method} {c : Code} {b L : Nat} {xs : Nat → Int32} {D : va_G} {ty : gT} {ad1 ad2 : Nat → Nat} {G S i : Nat} {X : gC} {μ : gS} {H : Heap} {locs : List Loc} {ls : Array Slot} {cells slots : Nat} {Q : State → Prop} (C0 : lw_At p s m meth c b L xs) (hi : 6 * i + 6 ≤ L) (hL : L ≤ 384) (hR : RR G S X μ) (hl : lv_has ls 4 [(0, .ref b), (1, .ref (ad2 0)), (2, .ref (ad1 0)), (3, .int (nI (6 * i)))]) (hw : gW D ty (fun q => s.heap.size ≤ q) (mw ty ad1 μ (cw ty ad2 G S X [])) s s.heap H locs) (hc : cells + 12 ≤ 600000) (hs : slots + 41 ≤ 7302250)
    (K : ∀ (G S : Nat) (X : gC) (μ : gS) (ad2 : Nat → Nat) (H : Heap) (locs : List Loc) (ls : Array Slot), RR G S X μ → lv_has ls 4 [(0, .ref b), (1, .ref (ad2 0)), (2, .ref (ad1 0)), (3, .int (nI (6 * i)))] → gW D ty (fun q => s.heap.size ≤ q) (mw ty ad1 μ (cw ty ad2 G S X [])) s s.heap H locs → W p l e room_1 s m #[Value.ref b] below meth c H locs (cells + 12) (slots + 41) Q (F0 m 1293 ls [])) : W p l e room_1 s m #[Value.ref b] below meth c H locs cells slots Q (F0 m 306 ls []) := by
  have F := lw_F C0
  obtain ⟨hx, hb, hml, hown, hts⟩ := id F
  obtain ⟨r, X', μ', h1, h2, hR'⟩ := hst G S X μ (xs (6 * i + 1)) (xs (6 * i + 2)) hR
  have hw := gW.perm perm_mc hw
  refine lv_aload_n hx hb dL_law_306 rfl (lv_at hl 1 rfl) ?_
  refine ls_arg C0 (j := 1) hi hL (by decide) hl hw (by decide) dL_law_307 dL_law_308 dL_law_309 dL_law_310 dL_law_311 ?_
  refine ls_arg C0 (j := 2) hi hL (by decide) hl hw (by decide) dL_law_312 dL_law_313 dL_law_314 dL_law_315 dL_law_316 ?_
  refine g_cIc F (As := [.int (xs (6 * i + 1)), .int (xs (6 * i + 2))]) (rest := []) (ccx_rate h1) (cwV 2 hts gL_law_X10_rate rfl rfl rfl (by decide +kernel) ⟨Nat.le_of_ble_eq_true rfl, Nat.le_of_ble_eq_true rfl⟩) hw (hw.recv (ci := 10) (q0 := 0) rfl rfl rfl) rfl hl.1 rfl (Nat.le_of_ble_eq_true rfl) dL_law_317 (show cells ≤ 600000 by omega) (show slots ≤ 7302250 by omega) (fun H locs hw => ?_)
  refine W.widen (k := cells + 12) (n := slots + 41) (by omega) (by omega) ?_
  have hw := gW.perm perm_cm hw
  refine lv_aload_n hx hb dL_law_320 rfl (lv_at hl 2 rfl) ?_
  refine ls_arg C0 (j := 1) hi hL (by decide) hl hw (by decide) dL_law_321 dL_law_322 dL_law_323 dL_law_324 dL_law_325 ?_
  refine ls_arg C0 (j := 2) hi hL (by decide) hl hw (by decide) dL_law_326 dL_law_327 dL_law_328 dL_law_329 dL_law_330 ?_
  refine g_cIc F (As := [.int (xs (6 * i + 1)), .int (xs (6 * i + 2))]) (rest := [.int r]) (cmm_rate h2) (cwV 2 hts gL_law_X11_rate rfl rfl rfl (by decide +kernel) ⟨Nat.le_of_ble_eq_true rfl, Nat.le_of_ble_eq_true rfl⟩) hw (hw.recv (ci := 11) (q0 := 0) rfl rfl rfl) rfl hl.1 rfl (Nat.le_of_ble_eq_true rfl) dL_law_331 hc hs (fun H locs hw => ?_)
  refine lv_icmp_eq (tgt := 1293) hx hb dL_law_334 (by decide) (fun _ => ?_) (fun c0 => absurd rfl c0)
  exact K _ _ _ _ _ _ _ _ hR' hl hw
set_option maxHeartbeats 4000000 in
set_option maxRecDepth 100000 in
theorem lc_fresh (hst : St_fresh) {p : Program} {l : Launch} {e : Env} {s : State} {m : MethodId} {below : List Frame} {meth : Method} {c : Code} {b L : Nat} {xs : Nat → Int32} {D : va_G} {ty : gT} {ad1 ad2 : Nat → Nat} {G S i : Nat} {X : gC} {μ : gS} {H : Heap} {locs : List Loc} {ls : Array Slot} {cells slots : Nat} {Q : State → Prop} (C0 : lw_At p s m meth c b L xs) (hi : 6 * i + 6 ≤ L) (hL : L ≤ 384) (hR : RR G S X μ) (hl : lv_has ls 4 [(0, .ref b), (1, .ref (ad2 0)), (2, .ref (ad1 0)), (3, .int (nI (6 * i)))]) (hw : gW D ty (fun q => s.heap.size ≤ q) (mw ty ad1 μ (cw ty ad2 G S X [])) s s.heap H locs) (hc : cells + 12 ≤ 600000) (hs : slots + 41 ≤ 7302250)
    (K : ∀ (G S : Nat) (X : gC) (μ : gS) (ad2 : Nat → Nat) (H : Heap) (locs : List Loc) (ls : Array Slot), RR G S X μ → lv_has ls 4 [(0, .ref b), (1, .ref (ad2 0)), (2, .ref (ad1 0)), (3, .int (nI (6 * i)))] → gW D ty (fun q => s.heap.size ≤ q) (mw ty ad1 μ (cw ty ad2 G S X [])) s s.heap H locs → W p l e room_1 s m #[Value.ref b] below meth c H locs (cells + 12) (slots + 41) Q (F0 m 1293 ls [])) : W p l e room_1 s m #[Value.ref b] below meth c H locs cells slots Q (F0 m 339 ls []) := by
  have F := lw_F C0
  obtain ⟨hx, hb, hml, hown, hts⟩ := id F
  obtain ⟨r, h1, h2, hR'⟩ := hst G S X μ (xs (6 * i + 1)) (xs (6 * i + 2)) hR
  have hw := gW.perm perm_mc hw
  refine lv_aload_n hx hb dL_law_339 rfl (lv_at hl 1 rfl) ?_
  refine ls_arg C0 (j := 1) hi hL (by decide) hl hw (by decide) dL_law_340 dL_law_341 dL_law_342 dL_law_343 dL_law_344 ?_
  refine ls_arg C0 (j := 2) hi hL (by decide) hl hw (by decide) dL_law_345 dL_law_346 dL_law_347 dL_law_348 dL_law_349 ?_
  refine g_cIc F (As := [.int (xs (6 * i + 1)), .int (xs (6 * i + 2))]) (rest := []) (ccx_fresh h1) (cwV 2 hts gL_law_X10_fresh rfl rfl rfl (by decide +kernel) ⟨Nat.le_of_ble_eq_true rfl, Nat.le_of_ble_eq_true rfl⟩) hw (hw.recv (ci := 10) (q0 := 0) rfl rfl rfl) rfl hl.1 rfl (Nat.le_of_ble_eq_true rfl) dL_law_350 (show cells ≤ 600000 by omega) (show slots ≤ 7302250 by omega) (fun H locs hw => ?_)
  refine W.widen (k := cells + 12) (n := slots + 41) (by omega) (by omega) ?_
  have hw := gW.perm perm_cm hw
  refine lv_aload_n hx hb dL_law_353 rfl (lv_at hl 2 rfl) ?_
  refine ls_arg C0 (j := 1) hi hL (by decide) hl hw (by decide) dL_law_354 dL_law_355 dL_law_356 dL_law_357 dL_law_358 ?_
  refine ls_arg C0 (j := 2) hi hL (by decide) hl hw (by decide) dL_law_359 dL_law_360 dL_law_361 dL_law_362 dL_law_363 ?_
  refine g_cIc F (As := [.int (xs (6 * i + 1)), .int (xs (6 * i + 2))]) (rest := [.int r]) (cmm_fresh h2) (cwV 2 hts gL_law_X11_fresh rfl rfl rfl (by decide +kernel) ⟨Nat.le_of_ble_eq_true rfl, Nat.le_of_ble_eq_true rfl⟩) hw (hw.recv (ci := 11) (q0 := 0) rfl rfl rfl) rfl hl.1 rfl (Nat.le_of_ble_eq_true rfl) dL_law_364 hc hs (fun H locs hw => ?_)
  refine lv_icmp_eq (tgt := 1293) hx hb dL_law_367 (by decide) (fun _ => ?_) (fun c0 => absurd rfl c0)
  exact K _ _ _ _ _ _ _ _ hR' hl hw
set_option maxHeartbeats 4000000 in
set_option maxRecDepth 100000 in
theorem lc_duty (hst : St_duty) {p : Program} {l : Launch} {e : Env} {s : State} {m : MethodId} {below : List Frame} {meth : Method} {c : Code} {b L : Nat} {xs : Nat → Int32} {D : va_G} {ty : gT} {ad1 ad2 : Nat → Nat} {G S i : Nat} {X : gC} {μ : gS} {H : Heap} {locs : List Loc} {ls : Array Slot} {cells slots : Nat} {Q : State → Prop} (C0 : lw_At p s m meth c b L xs) (hi : 6 * i + 6 ≤ L) (hL : L ≤ 384) (hR : RR G S X μ) (hl : lv_has ls 4 [(0, .ref b), (1, .ref (ad2 0)), (2, .ref (ad1 0)), (3, .int (nI (6 * i)))]) (hw : gW D ty (fun q => s.heap.size ≤ q) (mw ty ad1 μ (cw ty ad2 G S X [])) s s.heap H locs) (hc : cells + 12 ≤ 600000) (hs : slots + 41 ≤ 7302250)
    (K : ∀ (G S : Nat) (X : gC) (μ : gS) (ad2 : Nat → Nat) (H : Heap) (locs : List Loc) (ls : Array Slot), RR G S X μ → lv_has ls 4 [(0, .ref b), (1, .ref (ad2 0)), (2, .ref (ad1 0)), (3, .int (nI (6 * i)))] → gW D ty (fun q => s.heap.size ≤ q) (mw ty ad1 μ (cw ty ad2 G S X [])) s s.heap H locs → W p l e room_1 s m #[Value.ref b] below meth c H locs (cells + 12) (slots + 41) Q (F0 m 1293 ls [])) : W p l e room_1 s m #[Value.ref b] below meth c H locs cells slots Q (F0 m 372 ls []) := by
  have F := lw_F C0
  obtain ⟨hx, hb, hml, hown, hts⟩ := id F
  obtain ⟨r, h1, h2, hR'⟩ := hst G S X μ (xs (6 * i + 1)) (xs (6 * i + 2)) (xs (6 * i + 3)) (xs (6 * i + 4)) hR
  have hw := gW.perm perm_mc hw
  refine lv_aload_n hx hb dL_law_372 rfl (lv_at hl 1 rfl) ?_
  refine ls_arg C0 (j := 1) hi hL (by decide) hl hw (by decide) dL_law_373 dL_law_374 dL_law_375 dL_law_376 dL_law_377 ?_
  refine ls_arg C0 (j := 2) hi hL (by decide) hl hw (by decide) dL_law_378 dL_law_379 dL_law_380 dL_law_381 dL_law_382 ?_
  refine ls_arg C0 (j := 3) hi hL (by decide) hl hw (by decide) dL_law_383 dL_law_384 dL_law_385 dL_law_386 dL_law_387 ?_
  refine ls_arg C0 (j := 4) hi hL (by decide) hl hw (by decide) dL_law_388 dL_law_389 dL_law_390 dL_law_391 dL_law_392 ?_
  refine g_cIc F (As := [.int (xs (6 * i + 1)), .int (xs (6 * i + 2)), .int (xs (6 * i + 3)), .int (xs (6 * i + 4))]) (rest := []) (ccx_duty h1) (cwV 4 hts gL_law_X10_duty rfl rfl rfl (by decide +kernel) ⟨Nat.le_of_ble_eq_true rfl, Nat.le_of_ble_eq_true rfl⟩) hw (hw.recv (ci := 10) (q0 := 0) rfl rfl rfl) rfl hl.1 rfl (Nat.le_of_ble_eq_true rfl) dL_law_393 (show cells ≤ 600000 by omega) (show slots ≤ 7302250 by omega) (fun H locs hw => ?_)
  refine W.widen (k := cells + 12) (n := slots + 41) (by omega) (by omega) ?_
  have hw := gW.perm perm_cm hw
  refine lv_aload_n hx hb dL_law_396 rfl (lv_at hl 2 rfl) ?_
  refine ls_arg C0 (j := 1) hi hL (by decide) hl hw (by decide) dL_law_397 dL_law_398 dL_law_399 dL_law_400 dL_law_401 ?_
  refine ls_arg C0 (j := 2) hi hL (by decide) hl hw (by decide) dL_law_402 dL_law_403 dL_law_404 dL_law_405 dL_law_406 ?_
  refine ls_arg C0 (j := 3) hi hL (by decide) hl hw (by decide) dL_law_407 dL_law_408 dL_law_409 dL_law_410 dL_law_411 ?_
  refine ls_arg C0 (j := 4) hi hL (by decide) hl hw (by decide) dL_law_412 dL_law_413 dL_law_414 dL_law_415 dL_law_416 ?_
  refine g_cIc F (As := [.int (xs (6 * i + 1)), .int (xs (6 * i + 2)), .int (xs (6 * i + 3)), .int (xs (6 * i + 4))]) (rest := [.int r]) (cmm_duty h2) (cwV 4 hts gL_law_X11_duty rfl rfl rfl (by decide +kernel) ⟨Nat.le_of_ble_eq_true rfl, Nat.le_of_ble_eq_true rfl⟩) hw (hw.recv (ci := 11) (q0 := 0) rfl rfl rfl) rfl hl.1 rfl (Nat.le_of_ble_eq_true rfl) dL_law_417 hc hs (fun H locs hw => ?_)
  refine lv_icmp_eq (tgt := 1293) hx hb dL_law_420 (by decide) (fun _ => ?_) (fun c0 => absurd rfl c0)
  exact K _ _ _ _ _ _ _ _ hR' hl hw
set_option maxHeartbeats 4000000 in
set_option maxRecDepth 100000 in
theorem lc_passages (hst : St_passages) {p : Program} {l : Launch} {e : Env} {s : State} {m : MethodId} {below : List Frame} {meth : Method} {c : Code} {b L : Nat} {xs : Nat → Int32} {D : va_G} {ty : gT} {ad1 ad2 : Nat → Nat} {G S i : Nat} {X : gC} {μ : gS} {H : Heap} {locs : List Loc} {ls : Array Slot} {cells slots : Nat} {Q : State → Prop} (C0 : lw_At p s m meth c b L xs) (hi : 6 * i + 6 ≤ L) (hL : L ≤ 384) (hR : RR G S X μ) (hl : lv_has ls 4 [(0, .ref b), (1, .ref (ad2 0)), (2, .ref (ad1 0)), (3, .int (nI (6 * i)))]) (hw : gW D ty (fun q => s.heap.size ≤ q) (mw ty ad1 μ (cw ty ad2 G S X [])) s s.heap H locs) (hc : cells + 12 ≤ 600000) (hs : slots + 41 ≤ 7302250)
    (K : ∀ (G S : Nat) (X : gC) (μ : gS) (ad2 : Nat → Nat) (H : Heap) (locs : List Loc) (ls : Array Slot), RR G S X μ → lv_has ls 4 [(0, .ref b), (1, .ref (ad2 0)), (2, .ref (ad1 0)), (3, .int (nI (6 * i)))] → gW D ty (fun q => s.heap.size ≤ q) (mw ty ad1 μ (cw ty ad2 G S X [])) s s.heap H locs → W p l e room_1 s m #[Value.ref b] below meth c H locs (cells + 12) (slots + 41) Q (F0 m 1293 ls [])) : W p l e room_1 s m #[Value.ref b] below meth c H locs cells slots Q (F0 m 425 ls []) := by
  have F := lw_F C0
  obtain ⟨hx, hb, hml, hown, hts⟩ := id F
  obtain ⟨r, X', μ', h1, h2, hR'⟩ := hst G S X μ (xs (6 * i + 1)) (xs (6 * i + 2)) (xs (6 * i + 3)) (xs (6 * i + 4)) (xs (6 * i + 5)) hR
  have hw := gW.perm perm_mc hw
  refine lv_aload_n hx hb dL_law_425 rfl (lv_at hl 1 rfl) ?_
  refine ls_arg C0 (j := 1) hi hL (by decide) hl hw (by decide) dL_law_426 dL_law_427 dL_law_428 dL_law_429 dL_law_430 ?_
  refine ls_arg C0 (j := 2) hi hL (by decide) hl hw (by decide) dL_law_431 dL_law_432 dL_law_433 dL_law_434 dL_law_435 ?_
  refine ls_arg C0 (j := 3) hi hL (by decide) hl hw (by decide) dL_law_436 dL_law_437 dL_law_438 dL_law_439 dL_law_440 ?_
  refine ls_arg C0 (j := 4) hi hL (by decide) hl hw (by decide) dL_law_441 dL_law_442 dL_law_443 dL_law_444 dL_law_445 ?_
  refine ls_arg C0 (j := 5) hi hL (by decide) hl hw (by decide) dL_law_446 dL_law_447 dL_law_448 dL_law_449 dL_law_450 ?_
  refine g_cIc F (As := [.int (xs (6 * i + 1)), .int (xs (6 * i + 2)), .int (xs (6 * i + 3)), .int (xs (6 * i + 4)), .int (xs (6 * i + 5))]) (rest := []) (ccx_passages h1) (cwV 5 hts gL_law_X10_passages rfl rfl rfl (by decide +kernel) ⟨Nat.le_of_ble_eq_true rfl, Nat.le_of_ble_eq_true rfl⟩) hw (hw.recv (ci := 10) (q0 := 0) rfl rfl rfl) rfl hl.1 rfl (Nat.le_of_ble_eq_true rfl) dL_law_451 (show cells ≤ 600000 by omega) (show slots ≤ 7302250 by omega) (fun H locs hw => ?_)
  refine W.widen (k := cells + 12) (n := slots + 41) (by omega) (by omega) ?_
  have hw := gW.perm perm_cm hw
  refine lv_aload_n hx hb dL_law_454 rfl (lv_at hl 2 rfl) ?_
  refine ls_arg C0 (j := 1) hi hL (by decide) hl hw (by decide) dL_law_455 dL_law_456 dL_law_457 dL_law_458 dL_law_459 ?_
  refine ls_arg C0 (j := 2) hi hL (by decide) hl hw (by decide) dL_law_460 dL_law_461 dL_law_462 dL_law_463 dL_law_464 ?_
  refine ls_arg C0 (j := 3) hi hL (by decide) hl hw (by decide) dL_law_465 dL_law_466 dL_law_467 dL_law_468 dL_law_469 ?_
  refine ls_arg C0 (j := 4) hi hL (by decide) hl hw (by decide) dL_law_470 dL_law_471 dL_law_472 dL_law_473 dL_law_474 ?_
  refine ls_arg C0 (j := 5) hi hL (by decide) hl hw (by decide) dL_law_475 dL_law_476 dL_law_477 dL_law_478 dL_law_479 ?_
  refine g_cIc F (As := [.int (xs (6 * i + 1)), .int (xs (6 * i + 2)), .int (xs (6 * i + 3)), .int (xs (6 * i + 4)), .int (xs (6 * i + 5))]) (rest := [.int r]) (cmm_passages h2) (cwV 5 hts gL_law_X11_passages rfl rfl rfl (by decide +kernel) ⟨Nat.le_of_ble_eq_true rfl, Nat.le_of_ble_eq_true rfl⟩) hw (hw.recv (ci := 11) (q0 := 0) rfl rfl rfl) rfl hl.1 rfl (Nat.le_of_ble_eq_true rfl) dL_law_480 hc hs (fun H locs hw => ?_)
  refine lv_icmp_eq (tgt := 1293) hx hb dL_law_483 (by decide) (fun _ => ?_) (fun c0 => absurd rfl c0)
  exact K _ _ _ _ _ _ _ _ hR' hl hw
set_option maxHeartbeats 4000000 in
set_option maxRecDepth 100000 in
theorem lc_least (hst : St_least) {p : Program} {l : Launch} {e : Env} {s : State} {m : MethodId} {below : List Frame} {meth : Method} {c : Code} {b L : Nat} {xs : Nat → Int32} {D : va_G} {ty : gT} {ad1 ad2 : Nat → Nat} {G S i : Nat} {X : gC} {μ : gS} {H : Heap} {locs : List Loc} {ls : Array Slot} {cells slots : Nat} {Q : State → Prop} (C0 : lw_At p s m meth c b L xs) (hi : 6 * i + 6 ≤ L) (hL : L ≤ 384) (hR : RR G S X μ) (hl : lv_has ls 4 [(0, .ref b), (1, .ref (ad2 0)), (2, .ref (ad1 0)), (3, .int (nI (6 * i)))]) (hw : gW D ty (fun q => s.heap.size ≤ q) (mw ty ad1 μ (cw ty ad2 G S X [])) s s.heap H locs) (hc : cells + 12 ≤ 600000) (hs : slots + 41 ≤ 7302250)
    (K : ∀ (G S : Nat) (X : gC) (μ : gS) (ad2 : Nat → Nat) (H : Heap) (locs : List Loc) (ls : Array Slot), RR G S X μ → lv_has ls 4 [(0, .ref b), (1, .ref (ad2 0)), (2, .ref (ad1 0)), (3, .int (nI (6 * i)))] → gW D ty (fun q => s.heap.size ≤ q) (mw ty ad1 μ (cw ty ad2 G S X [])) s s.heap H locs → W p l e room_1 s m #[Value.ref b] below meth c H locs (cells + 12) (slots + 41) Q (F0 m 1293 ls [])) : W p l e room_1 s m #[Value.ref b] below meth c H locs cells slots Q (F0 m 488 ls []) := by
  have F := lw_F C0
  obtain ⟨hx, hb, hml, hown, hts⟩ := id F
  obtain ⟨r, X', μ', h1, h2, hR'⟩ := hst G S X μ (xs (6 * i + 1)) (xs (6 * i + 2)) (xs (6 * i + 3)) hR
  have hw := gW.perm perm_mc hw
  refine lv_aload_n hx hb dL_law_488 rfl (lv_at hl 1 rfl) ?_
  refine ls_arg C0 (j := 1) hi hL (by decide) hl hw (by decide) dL_law_489 dL_law_490 dL_law_491 dL_law_492 dL_law_493 ?_
  refine ls_arg C0 (j := 2) hi hL (by decide) hl hw (by decide) dL_law_494 dL_law_495 dL_law_496 dL_law_497 dL_law_498 ?_
  refine ls_arg C0 (j := 3) hi hL (by decide) hl hw (by decide) dL_law_499 dL_law_500 dL_law_501 dL_law_502 dL_law_503 ?_
  refine g_cIc F (As := [.int (xs (6 * i + 1)), .int (xs (6 * i + 2)), .int (xs (6 * i + 3))]) (rest := []) (ccx_least h1) (cwV 3 hts gL_law_X10_least rfl rfl rfl (by decide +kernel) ⟨Nat.le_of_ble_eq_true rfl, Nat.le_of_ble_eq_true rfl⟩) hw (hw.recv (ci := 10) (q0 := 0) rfl rfl rfl) rfl hl.1 rfl (Nat.le_of_ble_eq_true rfl) dL_law_504 (show cells ≤ 600000 by omega) (show slots ≤ 7302250 by omega) (fun H locs hw => ?_)
  refine W.widen (k := cells + 12) (n := slots + 41) (by omega) (by omega) ?_
  have hw := gW.perm perm_cm hw
  refine lv_aload_n hx hb dL_law_507 rfl (lv_at hl 2 rfl) ?_
  refine ls_arg C0 (j := 1) hi hL (by decide) hl hw (by decide) dL_law_508 dL_law_509 dL_law_510 dL_law_511 dL_law_512 ?_
  refine ls_arg C0 (j := 2) hi hL (by decide) hl hw (by decide) dL_law_513 dL_law_514 dL_law_515 dL_law_516 dL_law_517 ?_
  refine ls_arg C0 (j := 3) hi hL (by decide) hl hw (by decide) dL_law_518 dL_law_519 dL_law_520 dL_law_521 dL_law_522 ?_
  refine g_cIc F (As := [.int (xs (6 * i + 1)), .int (xs (6 * i + 2)), .int (xs (6 * i + 3))]) (rest := [.int r]) (cmm_least h2) (cwV 3 hts gL_law_X11_least rfl rfl rfl (by decide +kernel) ⟨Nat.le_of_ble_eq_true rfl, Nat.le_of_ble_eq_true rfl⟩) hw (hw.recv (ci := 11) (q0 := 0) rfl rfl rfl) rfl hl.1 rfl (Nat.le_of_ble_eq_true rfl) dL_law_523 hc hs (fun H locs hw => ?_)
  refine lv_icmp_eq (tgt := 1293) hx hb dL_law_526 (by decide) (fun _ => ?_) (fun c0 => absurd rfl c0)
  exact K _ _ _ _ _ _ _ _ hR' hl hw
set_option maxHeartbeats 4000000 in
set_option maxRecDepth 100000 in
theorem lc_free (hst : St_free) {p : Program} {l : Launch} {e : Env} {s : State} {m : MethodId} {below : List Frame} {meth : Method} {c : Code} {b L : Nat} {xs : Nat → Int32} {D : va_G} {ty : gT} {ad1 ad2 : Nat → Nat} {G S i : Nat} {X : gC} {μ : gS} {H : Heap} {locs : List Loc} {ls : Array Slot} {cells slots : Nat} {Q : State → Prop} (C0 : lw_At p s m meth c b L xs) (hi : 6 * i + 6 ≤ L) (hL : L ≤ 384) (hR : RR G S X μ) (hl : lv_has ls 4 [(0, .ref b), (1, .ref (ad2 0)), (2, .ref (ad1 0)), (3, .int (nI (6 * i)))]) (hw : gW D ty (fun q => s.heap.size ≤ q) (mw ty ad1 μ (cw ty ad2 G S X [])) s s.heap H locs) (hc : cells + 12 ≤ 600000) (hs : slots + 41 ≤ 7302250)
    (K : ∀ (G S : Nat) (X : gC) (μ : gS) (ad2 : Nat → Nat) (H : Heap) (locs : List Loc) (ls : Array Slot), RR G S X μ → lv_has ls 4 [(0, .ref b), (1, .ref (ad2 0)), (2, .ref (ad1 0)), (3, .int (nI (6 * i)))] → gW D ty (fun q => s.heap.size ≤ q) (mw ty ad1 μ (cw ty ad2 G S X [])) s s.heap H locs → W p l e room_1 s m #[Value.ref b] below meth c H locs (cells + 12) (slots + 41) Q (F0 m 1293 ls [])) : W p l e room_1 s m #[Value.ref b] below meth c H locs cells slots Q (F0 m 531 ls []) := by
  have F := lw_F C0
  obtain ⟨hx, hb, hml, hown, hts⟩ := id F
  obtain ⟨r, X', μ', h1, h2, hR'⟩ := hst G S X μ (xs (6 * i + 1)) hR
  have hw := gW.perm perm_mc hw
  refine lv_aload_n hx hb dL_law_531 rfl (lv_at hl 1 rfl) ?_
  refine ls_arg C0 (j := 1) hi hL (by decide) hl hw (by decide) dL_law_532 dL_law_533 dL_law_534 dL_law_535 dL_law_536 ?_
  refine g_cIc F (As := [.int (xs (6 * i + 1))]) (rest := []) (ccx_free h1) (cwV 1 hts gL_law_X10_free rfl rfl rfl (by decide +kernel) ⟨Nat.le_of_ble_eq_true rfl, Nat.le_of_ble_eq_true rfl⟩) hw (hw.recv (ci := 10) (q0 := 0) rfl rfl rfl) rfl hl.1 rfl (Nat.le_of_ble_eq_true rfl) dL_law_537 (show cells ≤ 600000 by omega) (show slots ≤ 7302250 by omega) (fun H locs hw => ?_)
  refine W.widen (k := cells + 12) (n := slots + 41) (by omega) (by omega) ?_
  have hw := gW.perm perm_cm hw
  refine lv_aload_n hx hb dL_law_540 rfl (lv_at hl 2 rfl) ?_
  refine ls_arg C0 (j := 1) hi hL (by decide) hl hw (by decide) dL_law_541 dL_law_542 dL_law_543 dL_law_544 dL_law_545 ?_
  refine g_cIc F (As := [.int (xs (6 * i + 1))]) (rest := [.int r]) (cmm_free h2) (cwV 1 hts gL_law_X11_free rfl rfl rfl (by decide +kernel) ⟨Nat.le_of_ble_eq_true rfl, Nat.le_of_ble_eq_true rfl⟩) hw (hw.recv (ci := 11) (q0 := 0) rfl rfl rfl) rfl hl.1 rfl (Nat.le_of_ble_eq_true rfl) dL_law_546 hc hs (fun H locs hw => ?_)
  refine lv_icmp_eq (tgt := 1293) hx hb dL_law_549 (by decide) (fun _ => ?_) (fun c0 => absurd rfl c0)
  exact K _ _ _ _ _ _ _ _ hR' hl hw
set_option maxHeartbeats 4000000 in
set_option maxRecDepth 100000 in
theorem lc_worth (hst : St_worth) {p : Program} {l : Launch} {e : Env} {s : State} {m : MethodId} {below : List Frame} {meth : Method} {c : Code} {b L : Nat} {xs : Nat → Int32} {D : va_G} {ty : gT} {ad1 ad2 : Nat → Nat} {G S i : Nat} {X : gC} {μ : gS} {H : Heap} {locs : List Loc} {ls : Array Slot} {cells slots : Nat} {Q : State → Prop} (C0 : lw_At p s m meth c b L xs) (hi : 6 * i + 6 ≤ L) (hL : L ≤ 384) (hR : RR G S X μ) (hl : lv_has ls 4 [(0, .ref b), (1, .ref (ad2 0)), (2, .ref (ad1 0)), (3, .int (nI (6 * i)))]) (hw : gW D ty (fun q => s.heap.size ≤ q) (mw ty ad1 μ (cw ty ad2 G S X [])) s s.heap H locs) (hc : cells + 12 ≤ 600000) (hs : slots + 41 ≤ 7302250)
    (K : ∀ (G S : Nat) (X : gC) (μ : gS) (ad2 : Nat → Nat) (H : Heap) (locs : List Loc) (ls : Array Slot), RR G S X μ → lv_has ls 4 [(0, .ref b), (1, .ref (ad2 0)), (2, .ref (ad1 0)), (3, .int (nI (6 * i)))] → gW D ty (fun q => s.heap.size ≤ q) (mw ty ad1 μ (cw ty ad2 G S X [])) s s.heap H locs → W p l e room_1 s m #[Value.ref b] below meth c H locs (cells + 12) (slots + 41) Q (F0 m 1293 ls [])) : W p l e room_1 s m #[Value.ref b] below meth c H locs cells slots Q (F0 m 554 ls []) := by
  have F := lw_F C0
  obtain ⟨hx, hb, hml, hown, hts⟩ := id F
  obtain ⟨r, X', μ', h1, h2, hR'⟩ := hst G S X μ (xs (6 * i + 1)) (xs (6 * i + 2)) (xs (6 * i + 3)) hR
  have hw := gW.perm perm_mc hw
  refine lv_aload_n hx hb dL_law_554 rfl (lv_at hl 1 rfl) ?_
  refine ls_arg C0 (j := 1) hi hL (by decide) hl hw (by decide) dL_law_555 dL_law_556 dL_law_557 dL_law_558 dL_law_559 ?_
  refine ls_arg C0 (j := 2) hi hL (by decide) hl hw (by decide) dL_law_560 dL_law_561 dL_law_562 dL_law_563 dL_law_564 ?_
  refine ls_arg C0 (j := 3) hi hL (by decide) hl hw (by decide) dL_law_565 dL_law_566 dL_law_567 dL_law_568 dL_law_569 ?_
  refine g_cIc F (As := [.int (xs (6 * i + 1)), .int (xs (6 * i + 2)), .int (xs (6 * i + 3))]) (rest := []) (ccx_worth h1) (cwV 3 hts gL_law_X10_worth rfl rfl rfl (by decide +kernel) ⟨Nat.le_of_ble_eq_true rfl, Nat.le_of_ble_eq_true rfl⟩) hw (hw.recv (ci := 10) (q0 := 0) rfl rfl rfl) rfl hl.1 rfl (Nat.le_of_ble_eq_true rfl) dL_law_570 (show cells ≤ 600000 by omega) (show slots ≤ 7302250 by omega) (fun H locs hw => ?_)
  refine W.widen (k := cells + 12) (n := slots + 41) (by omega) (by omega) ?_
  have hw := gW.perm perm_cm hw
  refine lv_aload_n hx hb dL_law_573 rfl (lv_at hl 2 rfl) ?_
  refine ls_arg C0 (j := 1) hi hL (by decide) hl hw (by decide) dL_law_574 dL_law_575 dL_law_576 dL_law_577 dL_law_578 ?_
  refine ls_arg C0 (j := 2) hi hL (by decide) hl hw (by decide) dL_law_579 dL_law_580 dL_law_581 dL_law_582 dL_law_583 ?_
  refine ls_arg C0 (j := 3) hi hL (by decide) hl hw (by decide) dL_law_584 dL_law_585 dL_law_586 dL_law_587 dL_law_588 ?_
  refine g_cIc F (As := [.int (xs (6 * i + 1)), .int (xs (6 * i + 2)), .int (xs (6 * i + 3))]) (rest := [.int r]) (cmm_worth h2) (cwV 3 hts gL_law_X11_worth rfl rfl rfl (by decide +kernel) ⟨Nat.le_of_ble_eq_true rfl, Nat.le_of_ble_eq_true rfl⟩) hw (hw.recv (ci := 11) (q0 := 0) rfl rfl rfl) rfl hl.1 rfl (Nat.le_of_ble_eq_true rfl) dL_law_589 hc hs (fun H locs hw => ?_)
  refine lv_icmp_eq (tgt := 1293) hx hb dL_law_592 (by decide) (fun _ => ?_) (fun c0 => absurd rfl c0)
  exact K _ _ _ _ _ _ _ _ hR' hl hw
set_option maxHeartbeats 4000000 in
set_option maxRecDepth 100000 in
theorem lc_reading (hst : St_reading) {p : Program} {l : Launch} {e : Env} {s : State} {m : MethodId} {below : List Frame} {meth : Method} {c : Code} {b L : Nat} {xs : Nat → Int32} {D : va_G} {ty : gT} {ad1 ad2 : Nat → Nat} {G S i : Nat} {X : gC} {μ : gS} {H : Heap} {locs : List Loc} {ls : Array Slot} {cells slots : Nat} {Q : State → Prop} (C0 : lw_At p s m meth c b L xs) (hi : 6 * i + 6 ≤ L) (hL : L ≤ 384) (hR : RR G S X μ) (hl : lv_has ls 4 [(0, .ref b), (1, .ref (ad2 0)), (2, .ref (ad1 0)), (3, .int (nI (6 * i)))]) (hw : gW D ty (fun q => s.heap.size ≤ q) (mw ty ad1 μ (cw ty ad2 G S X [])) s s.heap H locs) (hc : cells + 12 ≤ 600000) (hs : slots + 41 ≤ 7302250)
    (K : ∀ (G S : Nat) (X : gC) (μ : gS) (ad2 : Nat → Nat) (H : Heap) (locs : List Loc) (ls : Array Slot), RR G S X μ → lv_has ls 4 [(0, .ref b), (1, .ref (ad2 0)), (2, .ref (ad1 0)), (3, .int (nI (6 * i)))] → gW D ty (fun q => s.heap.size ≤ q) (mw ty ad1 μ (cw ty ad2 G S X [])) s s.heap H locs → W p l e room_1 s m #[Value.ref b] below meth c H locs (cells + 12) (slots + 41) Q (F0 m 1293 ls [])) : W p l e room_1 s m #[Value.ref b] below meth c H locs cells slots Q (F0 m 597 ls []) := by
  have F := lw_F C0
  obtain ⟨hx, hb, hml, hown, hts⟩ := id F
  obtain ⟨r, X', μ', h1, h2, hR'⟩ := hst G S X μ (xs (6 * i + 1)) (xs (6 * i + 2)) hR
  have hw := gW.perm perm_mc hw
  refine lv_aload_n hx hb dL_law_597 rfl (lv_at hl 1 rfl) ?_
  refine ls_arg C0 (j := 1) hi hL (by decide) hl hw (by decide) dL_law_598 dL_law_599 dL_law_600 dL_law_601 dL_law_602 ?_
  refine ls_arg C0 (j := 2) hi hL (by decide) hl hw (by decide) dL_law_603 dL_law_604 dL_law_605 dL_law_606 dL_law_607 ?_
  refine g_cIc F (As := [.int (xs (6 * i + 1)), .int (xs (6 * i + 2))]) (rest := []) (ccx_reading h1) (cwV 2 hts gL_law_X10_reading rfl rfl rfl (by decide +kernel) ⟨Nat.le_of_ble_eq_true rfl, Nat.le_of_ble_eq_true rfl⟩) hw (hw.recv (ci := 10) (q0 := 0) rfl rfl rfl) rfl hl.1 rfl (Nat.le_of_ble_eq_true rfl) dL_law_608 (show cells ≤ 600000 by omega) (show slots ≤ 7302250 by omega) (fun H locs hw => ?_)
  refine W.widen (k := cells + 12) (n := slots + 41) (by omega) (by omega) ?_
  have hw := gW.perm perm_cm hw
  refine lv_aload_n hx hb dL_law_611 rfl (lv_at hl 2 rfl) ?_
  refine ls_arg C0 (j := 1) hi hL (by decide) hl hw (by decide) dL_law_612 dL_law_613 dL_law_614 dL_law_615 dL_law_616 ?_
  refine ls_arg C0 (j := 2) hi hL (by decide) hl hw (by decide) dL_law_617 dL_law_618 dL_law_619 dL_law_620 dL_law_621 ?_
  refine g_cIc F (As := [.int (xs (6 * i + 1)), .int (xs (6 * i + 2))]) (rest := [.int r]) (cmm_reading h2) (cwV 2 hts gL_law_X11_reading rfl rfl rfl (by decide +kernel) ⟨Nat.le_of_ble_eq_true rfl, Nat.le_of_ble_eq_true rfl⟩) hw (hw.recv (ci := 11) (q0 := 0) rfl rfl rfl) rfl hl.1 rfl (Nat.le_of_ble_eq_true rfl) dL_law_622 hc hs (fun H locs hw => ?_)
  refine lv_icmp_eq (tgt := 1293) hx hb dL_law_625 (by decide) (fun _ => ?_) (fun c0 => absurd rfl c0)
  exact K _ _ _ _ _ _ _ _ hR' hl hw
set_option maxHeartbeats 4000000 in
set_option maxRecDepth 100000 in
theorem lc_back (hst : St_back) {p : Program} {l : Launch} {e : Env} {s : State} {m : MethodId} {below : List Frame} {meth : Method} {c : Code} {b L : Nat} {xs : Nat → Int32} {D : va_G} {ty : gT} {ad1 ad2 : Nat → Nat} {G S i : Nat} {X : gC} {μ : gS} {H : Heap} {locs : List Loc} {ls : Array Slot} {cells slots : Nat} {Q : State → Prop} (C0 : lw_At p s m meth c b L xs) (hi : 6 * i + 6 ≤ L) (hL : L ≤ 384) (hR : RR G S X μ) (hl : lv_has ls 4 [(0, .ref b), (1, .ref (ad2 0)), (2, .ref (ad1 0)), (3, .int (nI (6 * i)))]) (hw : gW D ty (fun q => s.heap.size ≤ q) (mw ty ad1 μ (cw ty ad2 G S X [])) s s.heap H locs) (hc : cells + 12 ≤ 600000) (hs : slots + 41 ≤ 7302250)
    (K : ∀ (G S : Nat) (X : gC) (μ : gS) (ad2 : Nat → Nat) (H : Heap) (locs : List Loc) (ls : Array Slot), RR G S X μ → lv_has ls 4 [(0, .ref b), (1, .ref (ad2 0)), (2, .ref (ad1 0)), (3, .int (nI (6 * i)))] → gW D ty (fun q => s.heap.size ≤ q) (mw ty ad1 μ (cw ty ad2 G S X [])) s s.heap H locs → W p l e room_1 s m #[Value.ref b] below meth c H locs (cells + 12) (slots + 41) Q (F0 m 1293 ls [])) : W p l e room_1 s m #[Value.ref b] below meth c H locs cells slots Q (F0 m 630 ls []) := by
  have F := lw_F C0
  obtain ⟨hx, hb, hml, hown, hts⟩ := id F
  obtain ⟨r, X', μ', h1, h2, hR'⟩ := hst G S X μ (xs (6 * i + 1)) hR
  have hw := gW.perm perm_mc hw
  refine lv_aload_n hx hb dL_law_630 rfl (lv_at hl 1 rfl) ?_
  refine ls_arg C0 (j := 1) hi hL (by decide) hl hw (by decide) dL_law_631 dL_law_632 dL_law_633 dL_law_634 dL_law_635 ?_
  refine g_cIc F (As := [.int (xs (6 * i + 1))]) (rest := []) (ccx_back h1) (cwV 1 hts gL_law_X10_back rfl rfl rfl (by decide +kernel) ⟨Nat.le_of_ble_eq_true rfl, Nat.le_of_ble_eq_true rfl⟩) hw (hw.recv (ci := 10) (q0 := 0) rfl rfl rfl) rfl hl.1 rfl (Nat.le_of_ble_eq_true rfl) dL_law_636 (show cells ≤ 600000 by omega) (show slots ≤ 7302250 by omega) (fun H locs hw => ?_)
  refine W.widen (k := cells + 12) (n := slots + 41) (by omega) (by omega) ?_
  have hw := gW.perm perm_cm hw
  refine lv_aload_n hx hb dL_law_639 rfl (lv_at hl 2 rfl) ?_
  refine ls_arg C0 (j := 1) hi hL (by decide) hl hw (by decide) dL_law_640 dL_law_641 dL_law_642 dL_law_643 dL_law_644 ?_
  refine g_cIc F (As := [.int (xs (6 * i + 1))]) (rest := [.int r]) (cmm_back h2) (cwV 1 hts gL_law_X11_back rfl rfl rfl (by decide +kernel) ⟨Nat.le_of_ble_eq_true rfl, Nat.le_of_ble_eq_true rfl⟩) hw (hw.recv (ci := 11) (q0 := 0) rfl rfl rfl) rfl hl.1 rfl (Nat.le_of_ble_eq_true rfl) dL_law_645 hc hs (fun H locs hw => ?_)
  refine lv_icmp_eq (tgt := 1293) hx hb dL_law_648 (by decide) (fun _ => ?_) (fun c0 => absurd rfl c0)
  exact K _ _ _ _ _ _ _ _ hR' hl hw
set_option maxHeartbeats 4000000 in
set_option maxRecDepth 100000 in
theorem lc_sizes (hst : St_sizes) {p : Program} {l : Launch} {e : Env} {s : State} {m : MethodId} {below : List Frame} {meth : Method} {c : Code} {b L : Nat} {xs : Nat → Int32} {D : va_G} {ty : gT} {ad1 ad2 : Nat → Nat} {G S i : Nat} {X : gC} {μ : gS} {H : Heap} {locs : List Loc} {ls : Array Slot} {cells slots : Nat} {Q : State → Prop} (C0 : lw_At p s m meth c b L xs) (hi : 6 * i + 6 ≤ L) (hL : L ≤ 384) (hR : RR G S X μ) (hl : lv_has ls 4 [(0, .ref b), (1, .ref (ad2 0)), (2, .ref (ad1 0)), (3, .int (nI (6 * i)))]) (hw : gW D ty (fun q => s.heap.size ≤ q) (mw ty ad1 μ (cw ty ad2 G S X [])) s s.heap H locs) (hc : cells + 12 ≤ 600000) (hs : slots + 41 ≤ 7302250)
    (K : ∀ (G S : Nat) (X : gC) (μ : gS) (ad2 : Nat → Nat) (H : Heap) (locs : List Loc) (ls : Array Slot), RR G S X μ → lv_has ls 4 [(0, .ref b), (1, .ref (ad2 0)), (2, .ref (ad1 0)), (3, .int (nI (6 * i)))] → gW D ty (fun q => s.heap.size ≤ q) (mw ty ad1 μ (cw ty ad2 G S X [])) s s.heap H locs → W p l e room_1 s m #[Value.ref b] below meth c H locs (cells + 12) (slots + 41) Q (F0 m 1293 ls [])) : W p l e room_1 s m #[Value.ref b] below meth c H locs cells slots Q (F0 m 653 ls []) := by
  have F := lw_F C0
  obtain ⟨hx, hb, hml, hown, hts⟩ := id F
  obtain ⟨r, X', μ', h1, h2, hR'⟩ := hst G S X μ (xs (6 * i + 1)) (xs (6 * i + 2)) (xs (6 * i + 3)) (xs (6 * i + 4)) (xs (6 * i + 5)) hR
  have hw := gW.perm perm_mc hw
  refine lv_aload_n hx hb dL_law_653 rfl (lv_at hl 1 rfl) ?_
  refine ls_arg C0 (j := 1) hi hL (by decide) hl hw (by decide) dL_law_654 dL_law_655 dL_law_656 dL_law_657 dL_law_658 ?_
  refine ls_arg C0 (j := 2) hi hL (by decide) hl hw (by decide) dL_law_659 dL_law_660 dL_law_661 dL_law_662 dL_law_663 ?_
  refine ls_arg C0 (j := 3) hi hL (by decide) hl hw (by decide) dL_law_664 dL_law_665 dL_law_666 dL_law_667 dL_law_668 ?_
  refine ls_arg C0 (j := 4) hi hL (by decide) hl hw (by decide) dL_law_669 dL_law_670 dL_law_671 dL_law_672 dL_law_673 ?_
  refine ls_arg C0 (j := 5) hi hL (by decide) hl hw (by decide) dL_law_674 dL_law_675 dL_law_676 dL_law_677 dL_law_678 ?_
  refine g_cIc F (As := [.int (xs (6 * i + 1)), .int (xs (6 * i + 2)), .int (xs (6 * i + 3)), .int (xs (6 * i + 4)), .int (xs (6 * i + 5))]) (rest := []) (ccx_sizes h1) (cwV 5 hts gL_law_X10_sizes rfl rfl rfl (by decide +kernel) ⟨Nat.le_of_ble_eq_true rfl, Nat.le_of_ble_eq_true rfl⟩) hw (hw.recv (ci := 10) (q0 := 0) rfl rfl rfl) rfl hl.1 rfl (Nat.le_of_ble_eq_true rfl) dL_law_679 (show cells ≤ 600000 by omega) (show slots ≤ 7302250 by omega) (fun H locs hw => ?_)
  refine W.widen (k := cells + 12) (n := slots + 41) (by omega) (by omega) ?_
  have hw := gW.perm perm_cm hw
  refine lv_aload_n hx hb dL_law_682 rfl (lv_at hl 2 rfl) ?_
  refine ls_arg C0 (j := 1) hi hL (by decide) hl hw (by decide) dL_law_683 dL_law_684 dL_law_685 dL_law_686 dL_law_687 ?_
  refine ls_arg C0 (j := 2) hi hL (by decide) hl hw (by decide) dL_law_688 dL_law_689 dL_law_690 dL_law_691 dL_law_692 ?_
  refine ls_arg C0 (j := 3) hi hL (by decide) hl hw (by decide) dL_law_693 dL_law_694 dL_law_695 dL_law_696 dL_law_697 ?_
  refine ls_arg C0 (j := 4) hi hL (by decide) hl hw (by decide) dL_law_698 dL_law_699 dL_law_700 dL_law_701 dL_law_702 ?_
  refine ls_arg C0 (j := 5) hi hL (by decide) hl hw (by decide) dL_law_703 dL_law_704 dL_law_705 dL_law_706 dL_law_707 ?_
  refine g_cIc F (As := [.int (xs (6 * i + 1)), .int (xs (6 * i + 2)), .int (xs (6 * i + 3)), .int (xs (6 * i + 4)), .int (xs (6 * i + 5))]) (rest := [.int r]) (cmm_sizes h2) (cwV 5 hts gL_law_X11_sizes rfl rfl rfl (by decide +kernel) ⟨Nat.le_of_ble_eq_true rfl, Nat.le_of_ble_eq_true rfl⟩) hw (hw.recv (ci := 11) (q0 := 0) rfl rfl rfl) rfl hl.1 rfl (Nat.le_of_ble_eq_true rfl) dL_law_708 hc hs (fun H locs hw => ?_)
  refine lv_icmp_eq (tgt := 1293) hx hb dL_law_711 (by decide) (fun _ => ?_) (fun c0 => absurd rfl c0)
  exact K _ _ _ _ _ _ _ _ hR' hl hw
set_option maxHeartbeats 4000000 in
set_option maxRecDepth 100000 in
theorem lc_persons (hst : St_persons) {p : Program} {l : Launch} {e : Env} {s : State} {m : MethodId} {below : List Frame} {meth : Method} {c : Code} {b L : Nat} {xs : Nat → Int32} {D : va_G} {ty : gT} {ad1 ad2 : Nat → Nat} {G S i : Nat} {X : gC} {μ : gS} {H : Heap} {locs : List Loc} {ls : Array Slot} {cells slots : Nat} {Q : State → Prop} (C0 : lw_At p s m meth c b L xs) (hi : 6 * i + 6 ≤ L) (hL : L ≤ 384) (hR : RR G S X μ) (hl : lv_has ls 4 [(0, .ref b), (1, .ref (ad2 0)), (2, .ref (ad1 0)), (3, .int (nI (6 * i)))]) (hw : gW D ty (fun q => s.heap.size ≤ q) (mw ty ad1 μ (cw ty ad2 G S X [])) s s.heap H locs) (hc : cells + 12 ≤ 600000) (hs : slots + 41 ≤ 7302250)
    (K : ∀ (G S : Nat) (X : gC) (μ : gS) (ad2 : Nat → Nat) (H : Heap) (locs : List Loc) (ls : Array Slot), RR G S X μ → lv_has ls 4 [(0, .ref b), (1, .ref (ad2 0)), (2, .ref (ad1 0)), (3, .int (nI (6 * i)))] → gW D ty (fun q => s.heap.size ≤ q) (mw ty ad1 μ (cw ty ad2 G S X [])) s s.heap H locs → W p l e room_1 s m #[Value.ref b] below meth c H locs (cells + 12) (slots + 41) Q (F0 m 1293 ls [])) : W p l e room_1 s m #[Value.ref b] below meth c H locs cells slots Q (F0 m 716 ls []) := by
  have F := lw_F C0
  obtain ⟨hx, hb, hml, hown, hts⟩ := id F
  obtain ⟨r, X', μ', h1, h2, hR'⟩ := hst G S X μ (xs (6 * i + 1)) (xs (6 * i + 2)) (xs (6 * i + 3)) (xs (6 * i + 4)) (xs (6 * i + 5)) hR
  have hw := gW.perm perm_mc hw
  refine lv_aload_n hx hb dL_law_716 rfl (lv_at hl 1 rfl) ?_
  refine ls_arg C0 (j := 1) hi hL (by decide) hl hw (by decide) dL_law_717 dL_law_718 dL_law_719 dL_law_720 dL_law_721 ?_
  refine ls_arg C0 (j := 2) hi hL (by decide) hl hw (by decide) dL_law_722 dL_law_723 dL_law_724 dL_law_725 dL_law_726 ?_
  refine ls_arg C0 (j := 3) hi hL (by decide) hl hw (by decide) dL_law_727 dL_law_728 dL_law_729 dL_law_730 dL_law_731 ?_
  refine ls_arg C0 (j := 4) hi hL (by decide) hl hw (by decide) dL_law_732 dL_law_733 dL_law_734 dL_law_735 dL_law_736 ?_
  refine ls_arg C0 (j := 5) hi hL (by decide) hl hw (by decide) dL_law_737 dL_law_738 dL_law_739 dL_law_740 dL_law_741 ?_
  refine g_cIc F (As := [.int (xs (6 * i + 1)), .int (xs (6 * i + 2)), .int (xs (6 * i + 3)), .int (xs (6 * i + 4)), .int (xs (6 * i + 5))]) (rest := []) (ccx_persons h1) (cwV 5 hts gL_law_X10_persons rfl rfl rfl (by decide +kernel) ⟨Nat.le_of_ble_eq_true rfl, Nat.le_of_ble_eq_true rfl⟩) hw (hw.recv (ci := 10) (q0 := 0) rfl rfl rfl) rfl hl.1 rfl (Nat.le_of_ble_eq_true rfl) dL_law_742 (show cells ≤ 600000 by omega) (show slots ≤ 7302250 by omega) (fun H locs hw => ?_)
  refine W.widen (k := cells + 12) (n := slots + 41) (by omega) (by omega) ?_
  have hw := gW.perm perm_cm hw
  refine lv_aload_n hx hb dL_law_745 rfl (lv_at hl 2 rfl) ?_
  refine ls_arg C0 (j := 1) hi hL (by decide) hl hw (by decide) dL_law_746 dL_law_747 dL_law_748 dL_law_749 dL_law_750 ?_
  refine ls_arg C0 (j := 2) hi hL (by decide) hl hw (by decide) dL_law_751 dL_law_752 dL_law_753 dL_law_754 dL_law_755 ?_
  refine ls_arg C0 (j := 3) hi hL (by decide) hl hw (by decide) dL_law_756 dL_law_757 dL_law_758 dL_law_759 dL_law_760 ?_
  refine ls_arg C0 (j := 4) hi hL (by decide) hl hw (by decide) dL_law_761 dL_law_762 dL_law_763 dL_law_764 dL_law_765 ?_
  refine ls_arg C0 (j := 5) hi hL (by decide) hl hw (by decide) dL_law_766 dL_law_767 dL_law_768 dL_law_769 dL_law_770 ?_
  refine g_cIc F (As := [.int (xs (6 * i + 1)), .int (xs (6 * i + 2)), .int (xs (6 * i + 3)), .int (xs (6 * i + 4)), .int (xs (6 * i + 5))]) (rest := [.int r]) (cmm_persons h2) (cwV 5 hts gL_law_X11_persons rfl rfl rfl (by decide +kernel) ⟨Nat.le_of_ble_eq_true rfl, Nat.le_of_ble_eq_true rfl⟩) hw (hw.recv (ci := 11) (q0 := 0) rfl rfl rfl) rfl hl.1 rfl (Nat.le_of_ble_eq_true rfl) dL_law_771 hc hs (fun H locs hw => ?_)
  refine lv_icmp_eq (tgt := 1293) hx hb dL_law_774 (by decide) (fun _ => ?_) (fun c0 => absurd rfl c0)
  exact K _ _ _ _ _ _ _ _ hR' hl hw
set_option maxHeartbeats 4000000 in
set_option maxRecDepth 100000 in
theorem lc_kinds (hst : St_kinds) {p : Program} {l : Launch} {e : Env} {s : State} {m : MethodId} {below : List Frame} {meth : Method} {c : Code} {b L : Nat} {xs : Nat → Int32} {D : va_G} {ty : gT} {ad1 ad2 : Nat → Nat} {G S i : Nat} {X : gC} {μ : gS} {H : Heap} {locs : List Loc} {ls : Array Slot} {cells slots : Nat} {Q : State → Prop} (C0 : lw_At p s m meth c b L xs) (hi : 6 * i + 6 ≤ L) (hL : L ≤ 384) (hR : RR G S X μ) (hl : lv_has ls 4 [(0, .ref b), (1, .ref (ad2 0)), (2, .ref (ad1 0)), (3, .int (nI (6 * i)))]) (hw : gW D ty (fun q => s.heap.size ≤ q) (mw ty ad1 μ (cw ty ad2 G S X [])) s s.heap H locs) (hc : cells + 12 ≤ 600000) (hs : slots + 41 ≤ 7302250)
    (K : ∀ (G S : Nat) (X : gC) (μ : gS) (ad2 : Nat → Nat) (H : Heap) (locs : List Loc) (ls : Array Slot), RR G S X μ → lv_has ls 4 [(0, .ref b), (1, .ref (ad2 0)), (2, .ref (ad1 0)), (3, .int (nI (6 * i)))] → gW D ty (fun q => s.heap.size ≤ q) (mw ty ad1 μ (cw ty ad2 G S X [])) s s.heap H locs → W p l e room_1 s m #[Value.ref b] below meth c H locs (cells + 12) (slots + 41) Q (F0 m 1293 ls [])) : W p l e room_1 s m #[Value.ref b] below meth c H locs cells slots Q (F0 m 779 ls []) := by
  have F := lw_F C0
  obtain ⟨hx, hb, hml, hown, hts⟩ := id F
  obtain ⟨r, X', μ', h1, h2, hR'⟩ := hst G S X μ (xs (6 * i + 1)) (xs (6 * i + 2)) (xs (6 * i + 3)) (xs (6 * i + 4)) (xs (6 * i + 5)) hR
  have hw := gW.perm perm_mc hw
  refine lv_aload_n hx hb dL_law_779 rfl (lv_at hl 1 rfl) ?_
  refine ls_arg C0 (j := 1) hi hL (by decide) hl hw (by decide) dL_law_780 dL_law_781 dL_law_782 dL_law_783 dL_law_784 ?_
  refine ls_arg C0 (j := 2) hi hL (by decide) hl hw (by decide) dL_law_785 dL_law_786 dL_law_787 dL_law_788 dL_law_789 ?_
  refine ls_arg C0 (j := 3) hi hL (by decide) hl hw (by decide) dL_law_790 dL_law_791 dL_law_792 dL_law_793 dL_law_794 ?_
  refine ls_arg C0 (j := 4) hi hL (by decide) hl hw (by decide) dL_law_795 dL_law_796 dL_law_797 dL_law_798 dL_law_799 ?_
  refine ls_arg C0 (j := 5) hi hL (by decide) hl hw (by decide) dL_law_800 dL_law_801 dL_law_802 dL_law_803 dL_law_804 ?_
  refine g_jC (va_runV F (As := [.int (xs (6 * i + 1)), .int (xs (6 * i + 2)), .int (xs (6 * i + 3)), .int (xs (6 * i + 4)), .int (xs (6 * i + 5))]) (rest := []) (ccx_kinds (Nat.le_trans hR.G5 (by decide)) h1) (cwV 5 hts gL_law_X10_kinds rfl rfl rfl (by decide +kernel) ⟨Nat.le_of_ble_eq_true rfl, Nat.le_of_ble_eq_true rfl⟩) ⟨gO_blind, hw.recv (ci := 10) (q0 := 0) rfl rfl rfl, hw.pre _⟩ rfl rfl hl.1 rfl (lv_room (Nat.le_of_ble_eq_true rfl)) dL_law_805 ⟨show cells + 3 ≤ 600000 by omega, show slots + 9 ≤ 7302250 by omega⟩) hw (fun r1 u H locs hu hw => ?_)
  obtain ⟨rfl, rfl⟩ := hu
  refine W.widen (k := cells + 12) (n := slots + 41) (by omega) (by omega) ?_
  have hw := gW.perm perm_cm hw
  refine lv_aload_n hx hb dL_law_808 rfl (lv_at hl 2 rfl) ?_
  refine ls_arg C0 (j := 1) hi hL (by decide) hl hw (by decide) dL_law_809 dL_law_810 dL_law_811 dL_law_812 dL_law_813 ?_
  refine ls_arg C0 (j := 2) hi hL (by decide) hl hw (by decide) dL_law_814 dL_law_815 dL_law_816 dL_law_817 dL_law_818 ?_
  refine ls_arg C0 (j := 3) hi hL (by decide) hl hw (by decide) dL_law_819 dL_law_820 dL_law_821 dL_law_822 dL_law_823 ?_
  refine ls_arg C0 (j := 4) hi hL (by decide) hl hw (by decide) dL_law_824 dL_law_825 dL_law_826 dL_law_827 dL_law_828 ?_
  refine ls_arg C0 (j := 5) hi hL (by decide) hl hw (by decide) dL_law_829 dL_law_830 dL_law_831 dL_law_832 dL_law_833 ?_
  refine g_cIc F (As := [.int (xs (6 * i + 1)), .int (xs (6 * i + 2)), .int (xs (6 * i + 3)), .int (xs (6 * i + 4)), .int (xs (6 * i + 5))]) (rest := [.int _]) (cmm_kinds h2) (cwV 5 hts gL_law_X11_kinds rfl rfl rfl (by decide +kernel) ⟨Nat.le_of_ble_eq_true rfl, Nat.le_of_ble_eq_true rfl⟩) hw (hw.recv (ci := 11) (q0 := 0) rfl rfl rfl) rfl hl.1 rfl (Nat.le_of_ble_eq_true rfl) dL_law_834 hc hs (fun H locs hw => ?_)
  refine lv_icmp_eq (tgt := 1293) hx hb dL_law_837 (by decide) (fun _ => ?_) (fun c0 => absurd rfl c0)
  exact K _ _ _ _ _ _ _ _ hR' hl hw
set_option maxHeartbeats 4000000 in
set_option maxRecDepth 100000 in
theorem lc_limits (hst : St_limits) {p : Program} {l : Launch} {e : Env} {s : State} {m : MethodId} {below : List Frame} {meth : Method} {c : Code} {b L : Nat} {xs : Nat → Int32} {D : va_G} {ty : gT} {ad1 ad2 : Nat → Nat} {G S i : Nat} {X : gC} {μ : gS} {H : Heap} {locs : List Loc} {ls : Array Slot} {cells slots : Nat} {Q : State → Prop} (C0 : lw_At p s m meth c b L xs) (hi : 6 * i + 6 ≤ L) (hL : L ≤ 384) (hR : RR G S X μ) (hl : lv_has ls 4 [(0, .ref b), (1, .ref (ad2 0)), (2, .ref (ad1 0)), (3, .int (nI (6 * i)))]) (hw : gW D ty (fun q => s.heap.size ≤ q) (mw ty ad1 μ (cw ty ad2 G S X [])) s s.heap H locs) (hc : cells + 12 ≤ 600000) (hs : slots + 41 ≤ 7302250)
    (K : ∀ (G S : Nat) (X : gC) (μ : gS) (ad2 : Nat → Nat) (H : Heap) (locs : List Loc) (ls : Array Slot), RR G S X μ → lv_has ls 4 [(0, .ref b), (1, .ref (ad2 0)), (2, .ref (ad1 0)), (3, .int (nI (6 * i)))] → gW D ty (fun q => s.heap.size ≤ q) (mw ty ad1 μ (cw ty ad2 G S X [])) s s.heap H locs → W p l e room_1 s m #[Value.ref b] below meth c H locs (cells + 12) (slots + 41) Q (F0 m 1293 ls [])) : W p l e room_1 s m #[Value.ref b] below meth c H locs cells slots Q (F0 m 842 ls []) := by
  have F := lw_F C0
  obtain ⟨hx, hb, hml, hown, hts⟩ := id F
  obtain ⟨r, X', μ', h1, h2, hR'⟩ := hst G S X μ (xs (6 * i + 1)) (xs (6 * i + 2)) (xs (6 * i + 3)) (xs (6 * i + 4)) hR
  have hw := gW.perm perm_mc hw
  refine lv_aload_n hx hb dL_law_842 rfl (lv_at hl 1 rfl) ?_
  refine ls_arg C0 (j := 1) hi hL (by decide) hl hw (by decide) dL_law_843 dL_law_844 dL_law_845 dL_law_846 dL_law_847 ?_
  refine ls_arg C0 (j := 2) hi hL (by decide) hl hw (by decide) dL_law_848 dL_law_849 dL_law_850 dL_law_851 dL_law_852 ?_
  refine ls_arg C0 (j := 3) hi hL (by decide) hl hw (by decide) dL_law_853 dL_law_854 dL_law_855 dL_law_856 dL_law_857 ?_
  refine ls_arg C0 (j := 4) hi hL (by decide) hl hw (by decide) dL_law_858 dL_law_859 dL_law_860 dL_law_861 dL_law_862 ?_
  refine g_cIc F (As := [.int (xs (6 * i + 1)), .int (xs (6 * i + 2)), .int (xs (6 * i + 3)), .int (xs (6 * i + 4))]) (rest := []) (ccx_limits h1) (cwV 4 hts gL_law_X10_limits rfl rfl rfl (by decide +kernel) ⟨Nat.le_of_ble_eq_true rfl, Nat.le_of_ble_eq_true rfl⟩) hw (hw.recv (ci := 10) (q0 := 0) rfl rfl rfl) rfl hl.1 rfl (Nat.le_of_ble_eq_true rfl) dL_law_863 (show cells ≤ 600000 by omega) (show slots ≤ 7302250 by omega) (fun H locs hw => ?_)
  refine W.widen (k := cells + 12) (n := slots + 41) (by omega) (by omega) ?_
  have hw := gW.perm perm_cm hw
  refine lv_aload_n hx hb dL_law_866 rfl (lv_at hl 2 rfl) ?_
  refine ls_arg C0 (j := 1) hi hL (by decide) hl hw (by decide) dL_law_867 dL_law_868 dL_law_869 dL_law_870 dL_law_871 ?_
  refine ls_arg C0 (j := 2) hi hL (by decide) hl hw (by decide) dL_law_872 dL_law_873 dL_law_874 dL_law_875 dL_law_876 ?_
  refine ls_arg C0 (j := 3) hi hL (by decide) hl hw (by decide) dL_law_877 dL_law_878 dL_law_879 dL_law_880 dL_law_881 ?_
  refine ls_arg C0 (j := 4) hi hL (by decide) hl hw (by decide) dL_law_882 dL_law_883 dL_law_884 dL_law_885 dL_law_886 ?_
  refine g_cIc F (As := [.int (xs (6 * i + 1)), .int (xs (6 * i + 2)), .int (xs (6 * i + 3)), .int (xs (6 * i + 4))]) (rest := [.int r]) (cmm_limits h2) (cwV 4 hts gL_law_X11_limits rfl rfl rfl (by decide +kernel) ⟨Nat.le_of_ble_eq_true rfl, Nat.le_of_ble_eq_true rfl⟩) hw (hw.recv (ci := 11) (q0 := 0) rfl rfl rfl) rfl hl.1 rfl (Nat.le_of_ble_eq_true rfl) dL_law_887 hc hs (fun H locs hw => ?_)
  refine lv_icmp_eq (tgt := 1293) hx hb dL_law_890 (by decide) (fun _ => ?_) (fun c0 => absurd rfl c0)
  exact K _ _ _ _ _ _ _ _ hR' hl hw
set_option maxHeartbeats 4000000 in
set_option maxRecDepth 100000 in
theorem lc_odds (hst : St_odds) {p : Program} {l : Launch} {e : Env} {s : State} {m : MethodId} {below : List Frame} {meth : Method} {c : Code} {b L : Nat} {xs : Nat → Int32} {D : va_G} {ty : gT} {ad1 ad2 : Nat → Nat} {G S i : Nat} {X : gC} {μ : gS} {H : Heap} {locs : List Loc} {ls : Array Slot} {cells slots : Nat} {Q : State → Prop} (C0 : lw_At p s m meth c b L xs) (hi : 6 * i + 6 ≤ L) (hL : L ≤ 384) (hR : RR G S X μ) (hl : lv_has ls 4 [(0, .ref b), (1, .ref (ad2 0)), (2, .ref (ad1 0)), (3, .int (nI (6 * i)))]) (hw : gW D ty (fun q => s.heap.size ≤ q) (mw ty ad1 μ (cw ty ad2 G S X [])) s s.heap H locs) (hc : cells + 12 ≤ 600000) (hs : slots + 41 ≤ 7302250)
    (K : ∀ (G S : Nat) (X : gC) (μ : gS) (ad2 : Nat → Nat) (H : Heap) (locs : List Loc) (ls : Array Slot), RR G S X μ → lv_has ls 4 [(0, .ref b), (1, .ref (ad2 0)), (2, .ref (ad1 0)), (3, .int (nI (6 * i)))] → gW D ty (fun q => s.heap.size ≤ q) (mw ty ad1 μ (cw ty ad2 G S X [])) s s.heap H locs → W p l e room_1 s m #[Value.ref b] below meth c H locs (cells + 12) (slots + 41) Q (F0 m 1293 ls [])) : W p l e room_1 s m #[Value.ref b] below meth c H locs cells slots Q (F0 m 895 ls []) := by
  have F := lw_F C0
  obtain ⟨hx, hb, hml, hown, hts⟩ := id F
  obtain ⟨r, X', h1, h2, hR'⟩ := hst G S X μ (xs (6 * i + 1)) (xs (6 * i + 2)) (xs (6 * i + 3)) (xs (6 * i + 4)) hR
  have hw := gW.perm perm_mc hw
  refine lv_aload_n hx hb dL_law_895 rfl (lv_at hl 1 rfl) ?_
  refine ls_arg C0 (j := 1) hi hL (by decide) hl hw (by decide) dL_law_896 dL_law_897 dL_law_898 dL_law_899 dL_law_900 ?_
  refine ls_arg C0 (j := 2) hi hL (by decide) hl hw (by decide) dL_law_901 dL_law_902 dL_law_903 dL_law_904 dL_law_905 ?_
  refine ls_arg C0 (j := 3) hi hL (by decide) hl hw (by decide) dL_law_906 dL_law_907 dL_law_908 dL_law_909 dL_law_910 ?_
  refine ls_arg C0 (j := 4) hi hL (by decide) hl hw (by decide) dL_law_911 dL_law_912 dL_law_913 dL_law_914 dL_law_915 ?_
  refine g_cLc F (As := [.int (xs (6 * i + 1)), .int (xs (6 * i + 2)), .int (xs (6 * i + 3)), .int (xs (6 * i + 4))]) (rest := []) (ccx_odds h1) (cwV 4 hts gL_law_X10_odds rfl rfl rfl (by decide +kernel) ⟨Nat.le_of_ble_eq_true rfl, Nat.le_of_ble_eq_true rfl⟩) hw (hw.recv (ci := 10) (q0 := 0) rfl rfl rfl) rfl hl.1 rfl (Nat.le_of_ble_eq_true rfl) dL_law_916 (show cells ≤ 600000 by omega) (show slots ≤ 7302250 by omega) (fun H locs hw => ?_)
  refine W.widen (k := cells + 12) (n := slots + 41) (by omega) (by omega) ?_
  have hw := gW.perm perm_cm hw
  refine lv_aload_n hx hb dL_law_919 rfl (lv_at hl 2 rfl) ?_
  refine ls_arg C0 (j := 1) hi hL (by decide) hl hw (by decide) dL_law_920 dL_law_921 dL_law_922 dL_law_923 dL_law_924 ?_
  refine ls_arg C0 (j := 2) hi hL (by decide) hl hw (by decide) dL_law_925 dL_law_926 dL_law_927 dL_law_928 dL_law_929 ?_
  refine ls_arg C0 (j := 3) hi hL (by decide) hl hw (by decide) dL_law_930 dL_law_931 dL_law_932 dL_law_933 dL_law_934 ?_
  refine ls_arg C0 (j := 4) hi hL (by decide) hl hw (by decide) dL_law_935 dL_law_936 dL_law_937 dL_law_938 dL_law_939 ?_
  refine g_cLc F (As := [.int (xs (6 * i + 1)), .int (xs (6 * i + 2)), .int (xs (6 * i + 3)), .int (xs (6 * i + 4))]) (rest := [.long r]) (cmm_odds h2) (cwV 4 hts gL_law_X11_odds rfl rfl rfl (by decide +kernel) ⟨Nat.le_of_ble_eq_true rfl, Nat.le_of_ble_eq_true rfl⟩) hw (hw.recv (ci := 11) (q0 := 0) rfl rfl rfl) rfl hl.1 rfl (Nat.le_of_ble_eq_true rfl) dL_law_940 hc hs (fun H locs hw => ?_)
  refine W.lcmp hx hb dL_law_943 ?_
  refine lv_if_eq (tgt := 1293) hx hb dL_law_944 (by decide) (fun _ => ?_) (fun c0 => absurd (g_cmp.mpr rfl) c0)
  exact K _ _ _ _ _ _ _ _ hR' hl hw
set_option maxHeartbeats 4000000 in
set_option maxRecDepth 100000 in
theorem lc_sheet (hst : St_sheet) {p : Program} {l : Launch} {e : Env} {s : State} {m : MethodId} {below : List Frame} {meth : Method} {c : Code} {b L : Nat} {xs : Nat → Int32} {D : va_G} {ty : gT} {ad1 ad2 : Nat → Nat} {G S i : Nat} {X : gC} {μ : gS} {H : Heap} {locs : List Loc} {ls : Array Slot} {cells slots : Nat} {Q : State → Prop} (C0 : lw_At p s m meth c b L xs) (hi : 6 * i + 6 ≤ L) (hL : L ≤ 384) (hR : RR G S X μ) (hl : lv_has ls 4 [(0, .ref b), (1, .ref (ad2 0)), (2, .ref (ad1 0)), (3, .int (nI (6 * i)))]) (hw : gW D ty (fun q => s.heap.size ≤ q) (mw ty ad1 μ (cw ty ad2 G S X [])) s s.heap H locs) (hc : cells + 12 ≤ 600000) (hs : slots + 41 ≤ 7302250)
    (K : ∀ (G S : Nat) (X : gC) (μ : gS) (ad2 : Nat → Nat) (H : Heap) (locs : List Loc) (ls : Array Slot), RR G S X μ → lv_has ls 4 [(0, .ref b), (1, .ref (ad2 0)), (2, .ref (ad1 0)), (3, .int (nI (6 * i)))] → gW D ty (fun q => s.heap.size ≤ q) (mw ty ad1 μ (cw ty ad2 G S X [])) s s.heap H locs → W p l e room_1 s m #[Value.ref b] below meth c H locs (cells + 12) (slots + 41) Q (F0 m 1293 ls [])) : W p l e room_1 s m #[Value.ref b] below meth c H locs cells slots Q (F0 m 949 ls []) := by
  have F := lw_F C0
  obtain ⟨hx, hb, hml, hown, hts⟩ := id F
  obtain ⟨r, X', μ', h1, h2, hR'⟩ := hst G S X μ (xs (6 * i + 1)) (xs (6 * i + 2)) (xs (6 * i + 3)) hR
  have hw := gW.perm perm_mc hw
  refine lv_aload_n hx hb dL_law_949 rfl (lv_at hl 1 rfl) ?_
  refine ls_arg C0 (j := 1) hi hL (by decide) hl hw (by decide) dL_law_950 dL_law_951 dL_law_952 dL_law_953 dL_law_954 ?_
  refine ls_arg C0 (j := 2) hi hL (by decide) hl hw (by decide) dL_law_955 dL_law_956 dL_law_957 dL_law_958 dL_law_959 ?_
  refine ls_arg C0 (j := 3) hi hL (by decide) hl hw (by decide) dL_law_960 dL_law_961 dL_law_962 dL_law_963 dL_law_964 ?_
  refine g_cIc F (As := [.int (xs (6 * i + 1)), .int (xs (6 * i + 2)), .int (xs (6 * i + 3))]) (rest := []) (ccx_sheet h1) (cwV 3 hts gL_law_X10_sheet rfl rfl rfl (by decide +kernel) ⟨Nat.le_of_ble_eq_true rfl, Nat.le_of_ble_eq_true rfl⟩) hw (hw.recv (ci := 10) (q0 := 0) rfl rfl rfl) rfl hl.1 rfl (Nat.le_of_ble_eq_true rfl) dL_law_965 (show cells ≤ 600000 by omega) (show slots ≤ 7302250 by omega) (fun H locs hw => ?_)
  refine W.widen (k := cells + 12) (n := slots + 41) (by omega) (by omega) ?_
  have hw := gW.perm perm_cm hw
  refine lv_aload_n hx hb dL_law_968 rfl (lv_at hl 2 rfl) ?_
  refine ls_arg C0 (j := 1) hi hL (by decide) hl hw (by decide) dL_law_969 dL_law_970 dL_law_971 dL_law_972 dL_law_973 ?_
  refine ls_arg C0 (j := 2) hi hL (by decide) hl hw (by decide) dL_law_974 dL_law_975 dL_law_976 dL_law_977 dL_law_978 ?_
  refine ls_arg C0 (j := 3) hi hL (by decide) hl hw (by decide) dL_law_979 dL_law_980 dL_law_981 dL_law_982 dL_law_983 ?_
  refine g_cIc F (As := [.int (xs (6 * i + 1)), .int (xs (6 * i + 2)), .int (xs (6 * i + 3))]) (rest := [.int r]) (cmm_sheet h2) (cwV 3 hts gL_law_X11_sheet rfl rfl rfl (by decide +kernel) ⟨Nat.le_of_ble_eq_true rfl, Nat.le_of_ble_eq_true rfl⟩) hw (hw.recv (ci := 11) (q0 := 0) rfl rfl rfl) rfl hl.1 rfl (Nat.le_of_ble_eq_true rfl) dL_law_984 hc hs (fun H locs hw => ?_)
  refine lv_icmp_eq (tgt := 1293) hx hb dL_law_987 (by decide) (fun _ => ?_) (fun c0 => absurd rfl c0)
  exact K _ _ _ _ _ _ _ _ hR' hl hw
set_option maxHeartbeats 4000000 in
set_option maxRecDepth 100000 in
theorem lc_lose (hst : St_lose) {p : Program} {l : Launch} {e : Env} {s : State} {m : MethodId} {below : List Frame} {meth : Method} {c : Code} {b L : Nat} {xs : Nat → Int32} {D : va_G} {ty : gT} {ad1 ad2 : Nat → Nat} {G S i : Nat} {X : gC} {μ : gS} {H : Heap} {locs : List Loc} {ls : Array Slot} {cells slots : Nat} {Q : State → Prop} (C0 : lw_At p s m meth c b L xs) (hi : 6 * i + 6 ≤ L) (hL : L ≤ 384) (hR : RR G S X μ) (hl : lv_has ls 4 [(0, .ref b), (1, .ref (ad2 0)), (2, .ref (ad1 0)), (3, .int (nI (6 * i)))]) (hw : gW D ty (fun q => s.heap.size ≤ q) (mw ty ad1 μ (cw ty ad2 G S X [])) s s.heap H locs) (hc : cells + 12 ≤ 600000) (hs : slots + 41 ≤ 7302250)
    (K : ∀ (G S : Nat) (X : gC) (μ : gS) (ad2 : Nat → Nat) (H : Heap) (locs : List Loc) (ls : Array Slot), RR G S X μ → lv_has ls 4 [(0, .ref b), (1, .ref (ad2 0)), (2, .ref (ad1 0)), (3, .int (nI (6 * i)))] → gW D ty (fun q => s.heap.size ≤ q) (mw ty ad1 μ (cw ty ad2 G S X [])) s s.heap H locs → W p l e room_1 s m #[Value.ref b] below meth c H locs (cells + 12) (slots + 41) Q (F0 m 1293 ls [])) : W p l e room_1 s m #[Value.ref b] below meth c H locs cells slots Q (F0 m 992 ls []) := by
  have F := lw_F C0
  obtain ⟨hx, hb, hml, hown, hts⟩ := id F
  obtain ⟨r, X', μ', h1, h2, hR'⟩ := hst G S X μ (xs (6 * i + 1)) hR
  have hw := gW.perm perm_mc hw
  refine lv_aload_n hx hb dL_law_992 rfl (lv_at hl 1 rfl) ?_
  refine ls_arg C0 (j := 1) hi hL (by decide) hl hw (by decide) dL_law_993 dL_law_994 dL_law_995 dL_law_996 dL_law_997 ?_
  refine g_cIc F (As := [.int (xs (6 * i + 1))]) (rest := []) (ccx_lose h1) (cwV 1 hts gL_law_X10_lose rfl rfl rfl (by decide +kernel) ⟨Nat.le_of_ble_eq_true rfl, Nat.le_of_ble_eq_true rfl⟩) hw (hw.recv (ci := 10) (q0 := 0) rfl rfl rfl) rfl hl.1 rfl (Nat.le_of_ble_eq_true rfl) dL_law_998 (show cells ≤ 600000 by omega) (show slots ≤ 7302250 by omega) (fun H locs hw => ?_)
  refine W.widen (k := cells + 12) (n := slots + 41) (by omega) (by omega) ?_
  have hw := gW.perm perm_cm hw
  refine lv_aload_n hx hb dL_law_1001 rfl (lv_at hl 2 rfl) ?_
  refine ls_arg C0 (j := 1) hi hL (by decide) hl hw (by decide) dL_law_1002 dL_law_1003 dL_law_1004 dL_law_1005 dL_law_1006 ?_
  refine g_cIc F (As := [.int (xs (6 * i + 1))]) (rest := [.int r]) (cmm_lose h2) (cwV 1 hts gL_law_X11_lose rfl rfl rfl (by decide +kernel) ⟨Nat.le_of_ble_eq_true rfl, Nat.le_of_ble_eq_true rfl⟩) hw (hw.recv (ci := 11) (q0 := 0) rfl rfl rfl) rfl hl.1 rfl (Nat.le_of_ble_eq_true rfl) dL_law_1007 hc hs (fun H locs hw => ?_)
  refine lv_icmp_eq (tgt := 1293) hx hb dL_law_1010 (by decide) (fun _ => ?_) (fun c0 => absurd rfl c0)
  exact K _ _ _ _ _ _ _ _ hR' hl hw
set_option maxHeartbeats 4000000 in
set_option maxRecDepth 100000 in
theorem lc_put (hst : St_put) {p : Program} {l : Launch} {e : Env} {s : State} {m : MethodId} {below : List Frame} {meth : Method} {c : Code} {b L : Nat} {xs : Nat → Int32} {D : va_G} {ty : gT} {ad1 ad2 : Nat → Nat} {G S i : Nat} {X : gC} {μ : gS} {H : Heap} {locs : List Loc} {ls : Array Slot} {cells slots : Nat} {Q : State → Prop} (C0 : lw_At p s m meth c b L xs) (hi : 6 * i + 6 ≤ L) (hL : L ≤ 384) (hR : RR G S X μ) (hl : lv_has ls 4 [(0, .ref b), (1, .ref (ad2 0)), (2, .ref (ad1 0)), (3, .int (nI (6 * i)))]) (hw : gW D ty (fun q => s.heap.size ≤ q) (mw ty ad1 μ (cw ty ad2 G S X [])) s s.heap H locs) (hc : cells + 12 ≤ 600000) (hs : slots + 41 ≤ 7302250)
    (K : ∀ (G S : Nat) (X : gC) (μ : gS) (ad2 : Nat → Nat) (H : Heap) (locs : List Loc) (ls : Array Slot), RR G S X μ → lv_has ls 4 [(0, .ref b), (1, .ref (ad2 0)), (2, .ref (ad1 0)), (3, .int (nI (6 * i)))] → gW D ty (fun q => s.heap.size ≤ q) (mw ty ad1 μ (cw ty ad2 G S X [])) s s.heap H locs → W p l e room_1 s m #[Value.ref b] below meth c H locs (cells + 12) (slots + 41) Q (F0 m 1293 ls [])) : W p l e room_1 s m #[Value.ref b] below meth c H locs cells slots Q (F0 m 1015 ls []) := by
  have F := lw_F C0
  obtain ⟨hx, hb, hml, hown, hts⟩ := id F
  obtain ⟨r, X', μ', h1, h2, hR'⟩ := hst G S X μ (xs (6 * i + 1)) (xs (6 * i + 2)) (xs (6 * i + 3)) hR
  have hw := gW.perm perm_mc hw
  refine lv_aload_n hx hb dL_law_1015 rfl (lv_at hl 1 rfl) ?_
  refine ls_arg C0 (j := 1) hi hL (by decide) hl hw (by decide) dL_law_1016 dL_law_1017 dL_law_1018 dL_law_1019 dL_law_1020 ?_
  refine ls_arg C0 (j := 2) hi hL (by decide) hl hw (by decide) dL_law_1021 dL_law_1022 dL_law_1023 dL_law_1024 dL_law_1025 ?_
  refine ls_arg C0 (j := 3) hi hL (by decide) hl hw (by decide) dL_law_1026 dL_law_1027 dL_law_1028 dL_law_1029 dL_law_1030 ?_
  refine g_cIc F (As := [.int (xs (6 * i + 1)), .int (xs (6 * i + 2)), .int (xs (6 * i + 3))]) (rest := []) (ccx_put h1) (cwV 3 hts gL_law_X10_put rfl rfl rfl (by decide +kernel) ⟨Nat.le_of_ble_eq_true rfl, Nat.le_of_ble_eq_true rfl⟩) hw (hw.recv (ci := 10) (q0 := 0) rfl rfl rfl) rfl hl.1 rfl (Nat.le_of_ble_eq_true rfl) dL_law_1031 (show cells ≤ 600000 by omega) (show slots ≤ 7302250 by omega) (fun H locs hw => ?_)
  refine W.widen (k := cells + 12) (n := slots + 41) (by omega) (by omega) ?_
  have hw := gW.perm perm_cm hw
  refine lv_aload_n hx hb dL_law_1034 rfl (lv_at hl 2 rfl) ?_
  refine ls_arg C0 (j := 1) hi hL (by decide) hl hw (by decide) dL_law_1035 dL_law_1036 dL_law_1037 dL_law_1038 dL_law_1039 ?_
  refine ls_arg C0 (j := 2) hi hL (by decide) hl hw (by decide) dL_law_1040 dL_law_1041 dL_law_1042 dL_law_1043 dL_law_1044 ?_
  refine ls_arg C0 (j := 3) hi hL (by decide) hl hw (by decide) dL_law_1045 dL_law_1046 dL_law_1047 dL_law_1048 dL_law_1049 ?_
  refine g_cIc F (As := [.int (xs (6 * i + 1)), .int (xs (6 * i + 2)), .int (xs (6 * i + 3))]) (rest := [.int r]) (cmm_put h2) (cwV 3 hts gL_law_X11_put rfl rfl rfl (by decide +kernel) ⟨Nat.le_of_ble_eq_true rfl, Nat.le_of_ble_eq_true rfl⟩) hw (hw.recv (ci := 11) (q0 := 0) rfl rfl rfl) rfl hl.1 rfl (Nat.le_of_ble_eq_true rfl) dL_law_1050 hc hs (fun H locs hw => ?_)
  refine lv_icmp_eq (tgt := 1293) hx hb dL_law_1053 (by decide) (fun _ => ?_) (fun c0 => absurd rfl c0)
  exact K _ _ _ _ _ _ _ _ hR' hl hw
set_option maxHeartbeats 4000000 in
set_option maxRecDepth 100000 in
theorem lc_cell (hst : St_cell) {p : Program} {l : Launch} {e : Env} {s : State} {m : MethodId} {below : List Frame} {meth : Method} {c : Code} {b L : Nat} {xs : Nat → Int32} {D : va_G} {ty : gT} {ad1 ad2 : Nat → Nat} {G S i : Nat} {X : gC} {μ : gS} {H : Heap} {locs : List Loc} {ls : Array Slot} {cells slots : Nat} {Q : State → Prop} (C0 : lw_At p s m meth c b L xs) (hi : 6 * i + 6 ≤ L) (hL : L ≤ 384) (hR : RR G S X μ) (hl : lv_has ls 4 [(0, .ref b), (1, .ref (ad2 0)), (2, .ref (ad1 0)), (3, .int (nI (6 * i)))]) (hw : gW D ty (fun q => s.heap.size ≤ q) (mw ty ad1 μ (cw ty ad2 G S X [])) s s.heap H locs) (hc : cells + 12 ≤ 600000) (hs : slots + 41 ≤ 7302250)
    (K : ∀ (G S : Nat) (X : gC) (μ : gS) (ad2 : Nat → Nat) (H : Heap) (locs : List Loc) (ls : Array Slot), RR G S X μ → lv_has ls 4 [(0, .ref b), (1, .ref (ad2 0)), (2, .ref (ad1 0)), (3, .int (nI (6 * i)))] → gW D ty (fun q => s.heap.size ≤ q) (mw ty ad1 μ (cw ty ad2 G S X [])) s s.heap H locs → W p l e room_1 s m #[Value.ref b] below meth c H locs (cells + 12) (slots + 41) Q (F0 m 1293 ls [])) : W p l e room_1 s m #[Value.ref b] below meth c H locs cells slots Q (F0 m 1058 ls []) := by
  have F := lw_F C0
  obtain ⟨hx, hb, hml, hown, hts⟩ := id F
  obtain ⟨r, X', μ', h1, h2, hR'⟩ := hst G S X μ (xs (6 * i + 1)) (xs (6 * i + 2)) (xs (6 * i + 3)) hR
  have hw := gW.perm perm_mc hw
  refine lv_aload_n hx hb dL_law_1058 rfl (lv_at hl 1 rfl) ?_
  refine ls_arg C0 (j := 1) hi hL (by decide) hl hw (by decide) dL_law_1059 dL_law_1060 dL_law_1061 dL_law_1062 dL_law_1063 ?_
  refine ls_arg C0 (j := 2) hi hL (by decide) hl hw (by decide) dL_law_1064 dL_law_1065 dL_law_1066 dL_law_1067 dL_law_1068 ?_
  refine ls_arg C0 (j := 3) hi hL (by decide) hl hw (by decide) dL_law_1069 dL_law_1070 dL_law_1071 dL_law_1072 dL_law_1073 ?_
  refine g_cLc F (As := [.int (xs (6 * i + 1)), .int (xs (6 * i + 2)), .int (xs (6 * i + 3))]) (rest := []) (ccx_cell h1) (cwV 3 hts gL_law_X10_cell rfl rfl rfl (by decide +kernel) ⟨Nat.le_of_ble_eq_true rfl, Nat.le_of_ble_eq_true rfl⟩) hw (hw.recv (ci := 10) (q0 := 0) rfl rfl rfl) rfl hl.1 rfl (Nat.le_of_ble_eq_true rfl) dL_law_1074 (show cells ≤ 600000 by omega) (show slots ≤ 7302250 by omega) (fun H locs hw => ?_)
  refine W.widen (k := cells + 12) (n := slots + 41) (by omega) (by omega) ?_
  have hw := gW.perm perm_cm hw
  refine lv_aload_n hx hb dL_law_1077 rfl (lv_at hl 2 rfl) ?_
  refine ls_arg C0 (j := 1) hi hL (by decide) hl hw (by decide) dL_law_1078 dL_law_1079 dL_law_1080 dL_law_1081 dL_law_1082 ?_
  refine ls_arg C0 (j := 2) hi hL (by decide) hl hw (by decide) dL_law_1083 dL_law_1084 dL_law_1085 dL_law_1086 dL_law_1087 ?_
  refine ls_arg C0 (j := 3) hi hL (by decide) hl hw (by decide) dL_law_1088 dL_law_1089 dL_law_1090 dL_law_1091 dL_law_1092 ?_
  refine g_cLc F (As := [.int (xs (6 * i + 1)), .int (xs (6 * i + 2)), .int (xs (6 * i + 3))]) (rest := [.long r]) (cmm_cell h2) (cwV 3 hts gL_law_X11_cell rfl rfl rfl (by decide +kernel) ⟨Nat.le_of_ble_eq_true rfl, Nat.le_of_ble_eq_true rfl⟩) hw (hw.recv (ci := 11) (q0 := 0) rfl rfl rfl) rfl hl.1 rfl (Nat.le_of_ble_eq_true rfl) dL_law_1093 hc hs (fun H locs hw => ?_)
  refine W.lcmp hx hb dL_law_1096 ?_
  refine lv_if_eq (tgt := 1293) hx hb dL_law_1097 (by decide) (fun _ => ?_) (fun c0 => absurd (g_cmp.mpr rfl) c0)
  exact K _ _ _ _ _ _ _ _ hR' hl hw
set_option maxHeartbeats 4000000 in
set_option maxRecDepth 100000 in
theorem lc_copy (hst : St_copy) {p : Program} {l : Launch} {e : Env} {s : State} {m : MethodId} {below : List Frame} {meth : Method} {c : Code} {b L : Nat} {xs : Nat → Int32} {D : va_G} {ty : gT} {ad1 ad2 : Nat → Nat} {G S i : Nat} {X : gC} {μ : gS} {H : Heap} {locs : List Loc} {ls : Array Slot} {cells slots : Nat} {Q : State → Prop} (C0 : lw_At p s m meth c b L xs) (hi : 6 * i + 6 ≤ L) (hL : L ≤ 384) (hR : RR G S X μ) (hl : lv_has ls 4 [(0, .ref b), (1, .ref (ad2 0)), (2, .ref (ad1 0)), (3, .int (nI (6 * i)))]) (hw : gW D ty (fun q => s.heap.size ≤ q) (mw ty ad1 μ (cw ty ad2 G S X [])) s s.heap H locs) (hc : cells + 12 ≤ 600000) (hs : slots + 41 ≤ 7302250)
    (K : ∀ (G S : Nat) (X : gC) (μ : gS) (ad2 : Nat → Nat) (H : Heap) (locs : List Loc) (ls : Array Slot), RR G S X μ → lv_has ls 4 [(0, .ref b), (1, .ref (ad2 0)), (2, .ref (ad1 0)), (3, .int (nI (6 * i)))] → gW D ty (fun q => s.heap.size ≤ q) (mw ty ad1 μ (cw ty ad2 G S X [])) s s.heap H locs → W p l e room_1 s m #[Value.ref b] below meth c H locs (cells + 12) (slots + 41) Q (F0 m 1293 ls [])) : W p l e room_1 s m #[Value.ref b] below meth c H locs cells slots Q (F0 m 1102 ls []) := by
  have F := lw_F C0
  obtain ⟨hx, hb, hml, hown, hts⟩ := id F
  obtain ⟨r, X', μ', h1, h2, hR'⟩ := hst G S X μ (xs (6 * i + 1)) (xs (6 * i + 2)) (xs (6 * i + 3)) (xs (6 * i + 4)) (xs (6 * i + 5)) hR
  have hw := gW.perm perm_mc hw
  refine lv_aload_n hx hb dL_law_1102 rfl (lv_at hl 1 rfl) ?_
  refine ls_arg C0 (j := 1) hi hL (by decide) hl hw (by decide) dL_law_1103 dL_law_1104 dL_law_1105 dL_law_1106 dL_law_1107 ?_
  refine ls_arg C0 (j := 2) hi hL (by decide) hl hw (by decide) dL_law_1108 dL_law_1109 dL_law_1110 dL_law_1111 dL_law_1112 ?_
  refine ls_arg C0 (j := 3) hi hL (by decide) hl hw (by decide) dL_law_1113 dL_law_1114 dL_law_1115 dL_law_1116 dL_law_1117 ?_
  refine ls_arg C0 (j := 4) hi hL (by decide) hl hw (by decide) dL_law_1118 dL_law_1119 dL_law_1120 dL_law_1121 dL_law_1122 ?_
  refine ls_arg C0 (j := 5) hi hL (by decide) hl hw (by decide) dL_law_1123 dL_law_1124 dL_law_1125 dL_law_1126 dL_law_1127 ?_
  refine g_cIc F (As := [.int (xs (6 * i + 1)), .int (xs (6 * i + 2)), .int (xs (6 * i + 3)), .int (xs (6 * i + 4)), .int (xs (6 * i + 5))]) (rest := []) (ccx_copy h1) (cwV 5 hts gL_law_X10_copy rfl rfl rfl (by decide +kernel) ⟨Nat.le_of_ble_eq_true rfl, Nat.le_of_ble_eq_true rfl⟩) hw (hw.recv (ci := 10) (q0 := 0) rfl rfl rfl) rfl hl.1 rfl (Nat.le_of_ble_eq_true rfl) dL_law_1128 (show cells ≤ 600000 by omega) (show slots ≤ 7302250 by omega) (fun H locs hw => ?_)
  refine W.widen (k := cells + 12) (n := slots + 41) (by omega) (by omega) ?_
  have hw := gW.perm perm_cm hw
  refine lv_aload_n hx hb dL_law_1131 rfl (lv_at hl 2 rfl) ?_
  refine ls_arg C0 (j := 1) hi hL (by decide) hl hw (by decide) dL_law_1132 dL_law_1133 dL_law_1134 dL_law_1135 dL_law_1136 ?_
  refine ls_arg C0 (j := 2) hi hL (by decide) hl hw (by decide) dL_law_1137 dL_law_1138 dL_law_1139 dL_law_1140 dL_law_1141 ?_
  refine ls_arg C0 (j := 3) hi hL (by decide) hl hw (by decide) dL_law_1142 dL_law_1143 dL_law_1144 dL_law_1145 dL_law_1146 ?_
  refine ls_arg C0 (j := 4) hi hL (by decide) hl hw (by decide) dL_law_1147 dL_law_1148 dL_law_1149 dL_law_1150 dL_law_1151 ?_
  refine ls_arg C0 (j := 5) hi hL (by decide) hl hw (by decide) dL_law_1152 dL_law_1153 dL_law_1154 dL_law_1155 dL_law_1156 ?_
  refine g_cIc F (As := [.int (xs (6 * i + 1)), .int (xs (6 * i + 2)), .int (xs (6 * i + 3)), .int (xs (6 * i + 4)), .int (xs (6 * i + 5))]) (rest := [.int r]) (cmm_copy h2) (cwV 5 hts gL_law_X11_copy rfl rfl rfl (by decide +kernel) ⟨Nat.le_of_ble_eq_true rfl, Nat.le_of_ble_eq_true rfl⟩) hw (hw.recv (ci := 11) (q0 := 0) rfl rfl rfl) rfl hl.1 rfl (Nat.le_of_ble_eq_true rfl) dL_law_1157 hc hs (fun H locs hw => ?_)
  refine lv_icmp_eq (tgt := 1293) hx hb dL_law_1160 (by decide) (fun _ => ?_) (fun c0 => absurd rfl c0)
  exact K _ _ _ _ _ _ _ _ hR' hl hw
set_option maxHeartbeats 4000000 in
set_option maxRecDepth 100000 in
theorem lc_tell (hst : St_tell) {p : Program} {l : Launch} {e : Env} {s : State} {m : MethodId} {below : List Frame} {meth : Method} {c : Code} {b L : Nat} {xs : Nat → Int32} {D : va_G} {ty : gT} {ad1 ad2 : Nat → Nat} {G S i : Nat} {X : gC} {μ : gS} {H : Heap} {locs : List Loc} {ls : Array Slot} {cells slots : Nat} {Q : State → Prop} (C0 : lw_At p s m meth c b L xs) (hi : 6 * i + 6 ≤ L) (hL : L ≤ 384) (hR : RR G S X μ) (hl : lv_has ls 4 [(0, .ref b), (1, .ref (ad2 0)), (2, .ref (ad1 0)), (3, .int (nI (6 * i)))]) (hw : gW D ty (fun q => s.heap.size ≤ q) (mw ty ad1 μ (cw ty ad2 G S X [])) s s.heap H locs) (hc : cells + 12 ≤ 600000) (hs : slots + 41 ≤ 7302250)
    (K : ∀ (G S : Nat) (X : gC) (μ : gS) (ad2 : Nat → Nat) (H : Heap) (locs : List Loc) (ls : Array Slot), RR G S X μ → lv_has ls 4 [(0, .ref b), (1, .ref (ad2 0)), (2, .ref (ad1 0)), (3, .int (nI (6 * i)))] → gW D ty (fun q => s.heap.size ≤ q) (mw ty ad1 μ (cw ty ad2 G S X [])) s s.heap H locs → W p l e room_1 s m #[Value.ref b] below meth c H locs (cells + 12) (slots + 41) Q (F0 m 1293 ls [])) : W p l e room_1 s m #[Value.ref b] below meth c H locs cells slots Q (F0 m 1165 ls []) := by
  have F := lw_F C0
  obtain ⟨hx, hb, hml, hown, hts⟩ := id F
  obtain ⟨r, X', μ', h1, h2, hR'⟩ := hst G S X μ (xs (6 * i + 1)) hR
  have hw := gW.perm perm_mc hw
  refine lv_aload_n hx hb dL_law_1165 rfl (lv_at hl 1 rfl) ?_
  refine ls_arg C0 (j := 1) hi hL (by decide) hl hw (by decide) dL_law_1166 dL_law_1167 dL_law_1168 dL_law_1169 dL_law_1170 ?_
  refine g_cIc F (As := [.int (xs (6 * i + 1))]) (rest := []) (ccx_tell h1) (cwV 1 hts gL_law_X10_tell rfl rfl rfl (by decide +kernel) ⟨Nat.le_of_ble_eq_true rfl, Nat.le_of_ble_eq_true rfl⟩) hw (hw.recv (ci := 10) (q0 := 0) rfl rfl rfl) rfl hl.1 rfl (Nat.le_of_ble_eq_true rfl) dL_law_1171 (show cells ≤ 600000 by omega) (show slots ≤ 7302250 by omega) (fun H locs hw => ?_)
  refine W.widen (k := cells + 12) (n := slots + 41) (by omega) (by omega) ?_
  have hw := gW.perm perm_cm hw
  refine lv_aload_n hx hb dL_law_1174 rfl (lv_at hl 2 rfl) ?_
  refine ls_arg C0 (j := 1) hi hL (by decide) hl hw (by decide) dL_law_1175 dL_law_1176 dL_law_1177 dL_law_1178 dL_law_1179 ?_
  refine g_cIc F (As := [.int (xs (6 * i + 1))]) (rest := [.int r]) (cmm_tell h2) (cwV 1 hts gL_law_X11_tell rfl rfl rfl (by decide +kernel) ⟨Nat.le_of_ble_eq_true rfl, Nat.le_of_ble_eq_true rfl⟩) hw (hw.recv (ci := 11) (q0 := 0) rfl rfl rfl) rfl hl.1 rfl (Nat.le_of_ble_eq_true rfl) dL_law_1180 hc hs (fun H locs hw => ?_)
  refine lv_icmp_eq (tgt := 1293) hx hb dL_law_1183 (by decide) (fun _ => ?_) (fun c0 => absurd rfl c0)
  exact K _ _ _ _ _ _ _ _ hR' hl hw
set_option maxHeartbeats 4000000 in
set_option maxRecDepth 100000 in
theorem lc_knock (hst : St_knock) {p : Program} {l : Launch} {e : Env} {s : State} {m : MethodId} {below : List Frame} {meth : Method} {c : Code} {b L : Nat} {xs : Nat → Int32} {D : va_G} {ty : gT} {ad1 ad2 : Nat → Nat} {G S i : Nat} {X : gC} {μ : gS} {H : Heap} {locs : List Loc} {ls : Array Slot} {cells slots : Nat} {Q : State → Prop} (C0 : lw_At p s m meth c b L xs) (hi : 6 * i + 6 ≤ L) (hL : L ≤ 384) (hR : RR G S X μ) (hl : lv_has ls 4 [(0, .ref b), (1, .ref (ad2 0)), (2, .ref (ad1 0)), (3, .int (nI (6 * i)))]) (hw : gW D ty (fun q => s.heap.size ≤ q) (mw ty ad1 μ (cw ty ad2 G S X [])) s s.heap H locs) (hc : cells + 12 ≤ 600000) (hs : slots + 41 ≤ 7302250)
    (K : ∀ (G S : Nat) (X : gC) (μ : gS) (ad2 : Nat → Nat) (H : Heap) (locs : List Loc) (ls : Array Slot), RR G S X μ → lv_has ls 4 [(0, .ref b), (1, .ref (ad2 0)), (2, .ref (ad1 0)), (3, .int (nI (6 * i)))] → gW D ty (fun q => s.heap.size ≤ q) (mw ty ad1 μ (cw ty ad2 G S X [])) s s.heap H locs → W p l e room_1 s m #[Value.ref b] below meth c H locs (cells + 12) (slots + 41) Q (F0 m 1293 ls [])) : W p l e room_1 s m #[Value.ref b] below meth c H locs cells slots Q (F0 m 1188 ls []) := by
  have F := lw_F C0
  obtain ⟨hx, hb, hml, hown, hts⟩ := id F
  obtain ⟨r, X', μ', h1, h2, hR'⟩ := hst G S X μ (xs (6 * i + 1)) hR
  have hw := gW.perm perm_mc hw
  refine lv_aload_n hx hb dL_law_1188 rfl (lv_at hl 1 rfl) ?_
  refine ls_arg C0 (j := 1) hi hL (by decide) hl hw (by decide) dL_law_1189 dL_law_1190 dL_law_1191 dL_law_1192 dL_law_1193 ?_
  refine g_cIc F (As := [.int (xs (6 * i + 1))]) (rest := []) (ccx_knock h1) (cwV 1 hts gL_law_X10_knock rfl rfl rfl (by decide +kernel) ⟨Nat.le_of_ble_eq_true rfl, Nat.le_of_ble_eq_true rfl⟩) hw (hw.recv (ci := 10) (q0 := 0) rfl rfl rfl) rfl hl.1 rfl (Nat.le_of_ble_eq_true rfl) dL_law_1194 (show cells ≤ 600000 by omega) (show slots ≤ 7302250 by omega) (fun H locs hw => ?_)
  refine W.widen (k := cells + 12) (n := slots + 41) (by omega) (by omega) ?_
  have hw := gW.perm perm_cm hw
  refine lv_aload_n hx hb dL_law_1197 rfl (lv_at hl 2 rfl) ?_
  refine ls_arg C0 (j := 1) hi hL (by decide) hl hw (by decide) dL_law_1198 dL_law_1199 dL_law_1200 dL_law_1201 dL_law_1202 ?_
  refine g_cIc F (As := [.int (xs (6 * i + 1))]) (rest := [.int r]) (cmm_knock h2) (cwV 1 hts gL_law_X11_knock rfl rfl rfl (by decide +kernel) ⟨Nat.le_of_ble_eq_true rfl, Nat.le_of_ble_eq_true rfl⟩) hw (hw.recv (ci := 11) (q0 := 0) rfl rfl rfl) rfl hl.1 rfl (Nat.le_of_ble_eq_true rfl) dL_law_1203 hc hs (fun H locs hw => ?_)
  refine lv_icmp_eq (tgt := 1293) hx hb dL_law_1206 (by decide) (fun _ => ?_) (fun c0 => absurd rfl c0)
  exact K _ _ _ _ _ _ _ _ hR' hl hw
set_option maxHeartbeats 4000000 in
set_option maxRecDepth 100000 in
theorem lc_as (hst : St_as) {p : Program} {l : Launch} {e : Env} {s : State} {m : MethodId} {below : List Frame} {meth : Method} {c : Code} {b L : Nat} {xs : Nat → Int32} {D : va_G} {ty : gT} {ad1 ad2 : Nat → Nat} {G S i : Nat} {X : gC} {μ : gS} {H : Heap} {locs : List Loc} {ls : Array Slot} {cells slots : Nat} {Q : State → Prop} (C0 : lw_At p s m meth c b L xs) (hi : 6 * i + 6 ≤ L) (hL : L ≤ 384) (hR : RR G S X μ) (hl : lv_has ls 4 [(0, .ref b), (1, .ref (ad2 0)), (2, .ref (ad1 0)), (3, .int (nI (6 * i)))]) (hw : gW D ty (fun q => s.heap.size ≤ q) (mw ty ad1 μ (cw ty ad2 G S X [])) s s.heap H locs) (hc : cells + 12 ≤ 600000) (hs : slots + 41 ≤ 7302250)
    (K : ∀ (G S : Nat) (X : gC) (μ : gS) (ad2 : Nat → Nat) (H : Heap) (locs : List Loc) (ls : Array Slot), RR G S X μ → lv_has ls 4 [(0, .ref b), (1, .ref (ad2 0)), (2, .ref (ad1 0)), (3, .int (nI (6 * i)))] → gW D ty (fun q => s.heap.size ≤ q) (mw ty ad1 μ (cw ty ad2 G S X [])) s s.heap H locs → W p l e room_1 s m #[Value.ref b] below meth c H locs (cells + 12) (slots + 41) Q (F0 m 1293 ls [])) : W p l e room_1 s m #[Value.ref b] below meth c H locs cells slots Q (F0 m 1211 ls []) := by
  have F := lw_F C0
  obtain ⟨hx, hb, hml, hown, hts⟩ := id F
  obtain ⟨r, X', μ', h1, h2, hR'⟩ := hst G S X μ (xs (6 * i + 1)) (xs (6 * i + 2)) hR
  have hw := gW.perm perm_mc hw
  refine lv_aload_n hx hb dL_law_1211 rfl (lv_at hl 1 rfl) ?_
  refine ls_arg C0 (j := 1) hi hL (by decide) hl hw (by decide) dL_law_1212 dL_law_1213 dL_law_1214 dL_law_1215 dL_law_1216 ?_
  refine ls_arg C0 (j := 2) hi hL (by decide) hl hw (by decide) dL_law_1217 dL_law_1218 dL_law_1219 dL_law_1220 dL_law_1221 ?_
  refine g_cIc F (As := [.int (xs (6 * i + 1)), .int (xs (6 * i + 2))]) (rest := []) (ccx_as h1) (cwV 2 hts gL_law_X10_as rfl rfl rfl (by decide +kernel) ⟨Nat.le_of_ble_eq_true rfl, Nat.le_of_ble_eq_true rfl⟩) hw (hw.recv (ci := 10) (q0 := 0) rfl rfl rfl) rfl hl.1 rfl (Nat.le_of_ble_eq_true rfl) dL_law_1222 (show cells ≤ 600000 by omega) (show slots ≤ 7302250 by omega) (fun H locs hw => ?_)
  refine W.widen (k := cells + 12) (n := slots + 41) (by omega) (by omega) ?_
  have hw := gW.perm perm_cm hw
  refine lv_aload_n hx hb dL_law_1225 rfl (lv_at hl 2 rfl) ?_
  refine ls_arg C0 (j := 1) hi hL (by decide) hl hw (by decide) dL_law_1226 dL_law_1227 dL_law_1228 dL_law_1229 dL_law_1230 ?_
  refine ls_arg C0 (j := 2) hi hL (by decide) hl hw (by decide) dL_law_1231 dL_law_1232 dL_law_1233 dL_law_1234 dL_law_1235 ?_
  refine g_cIc F (As := [.int (xs (6 * i + 1)), .int (xs (6 * i + 2))]) (rest := [.int r]) (cmm_as h2) (cwV 2 hts gL_law_X11_as rfl rfl rfl (by decide +kernel) ⟨Nat.le_of_ble_eq_true rfl, Nat.le_of_ble_eq_true rfl⟩) hw (hw.recv (ci := 11) (q0 := 0) rfl rfl rfl) rfl hl.1 rfl (Nat.le_of_ble_eq_true rfl) dL_law_1236 hc hs (fun H locs hw => ?_)
  refine lv_icmp_eq (tgt := 1293) hx hb dL_law_1239 (by decide) (fun _ => ?_) (fun c0 => absurd rfl c0)
  exact K _ _ _ _ _ _ _ _ hR' hl hw
set_option maxHeartbeats 4000000 in
set_option maxRecDepth 100000 in
theorem lc_trace (hst : St_trace) {p : Program} {l : Launch} {e : Env} {s : State} {m : MethodId} {below : List Frame} {meth : Method} {c : Code} {b L : Nat} {xs : Nat → Int32} {D : va_G} {ty : gT} {ad1 ad2 : Nat → Nat} {G S i : Nat} {X : gC} {μ : gS} {H : Heap} {locs : List Loc} {ls : Array Slot} {cells slots : Nat} {Q : State → Prop} (C0 : lw_At p s m meth c b L xs) (hi : 6 * i + 6 ≤ L) (hL : L ≤ 384) (hR : RR G S X μ) (hl : lv_has ls 4 [(0, .ref b), (1, .ref (ad2 0)), (2, .ref (ad1 0)), (3, .int (nI (6 * i)))]) (hw : gW D ty (fun q => s.heap.size ≤ q) (mw ty ad1 μ (cw ty ad2 G S X [])) s s.heap H locs) (hc : cells + 12 ≤ 600000) (hs : slots + 41 ≤ 7302250)
    (K : ∀ (G S : Nat) (X : gC) (μ : gS) (ad2 : Nat → Nat) (H : Heap) (locs : List Loc) (ls : Array Slot), RR G S X μ → lv_has ls 4 [(0, .ref b), (1, .ref (ad2 0)), (2, .ref (ad1 0)), (3, .int (nI (6 * i)))] → gW D ty (fun q => s.heap.size ≤ q) (mw ty ad1 μ (cw ty ad2 G S X [])) s s.heap H locs → W p l e room_1 s m #[Value.ref b] below meth c H locs (cells + 12) (slots + 41) Q (F0 m 1293 ls [])) : W p l e room_1 s m #[Value.ref b] below meth c H locs cells slots Q (F0 m 1244 ls []) := by
  have F := lw_F C0
  obtain ⟨hx, hb, hml, hown, hts⟩ := id F
  obtain ⟨r, h1, h2, hR'⟩ := hst G S X μ  hR
  have hw := gW.perm perm_mc hw
  refine lv_aload_n hx hb dL_law_1244 rfl (lv_at hl 1 rfl) ?_
  refine g_cIc F (As := []) (rest := []) (ccx_trace h1) (cwV 0 hts gL_law_X10_trace rfl rfl rfl (by decide +kernel) ⟨Nat.le_of_ble_eq_true rfl, Nat.le_of_ble_eq_true rfl⟩) hw (hw.recv (ci := 10) (q0 := 0) rfl rfl rfl) rfl hl.1 rfl (Nat.le_of_ble_eq_true rfl) dL_law_1245 (show cells ≤ 600000 by omega) (show slots ≤ 7302250 by omega) (fun H locs hw => ?_)
  refine W.widen (k := cells + 12) (n := slots + 41) (by omega) (by omega) ?_
  have hw := gW.perm perm_cm hw
  refine lv_aload_n hx hb dL_law_1248 rfl (lv_at hl 2 rfl) ?_
  refine g_cIc F (As := []) (rest := [.int r]) (cmm_trace h2) (cwV 0 hts gL_law_X11_trace rfl rfl rfl (by decide +kernel) ⟨Nat.le_of_ble_eq_true rfl, Nat.le_of_ble_eq_true rfl⟩) hw (hw.recv (ci := 11) (q0 := 0) rfl rfl rfl) rfl hl.1 rfl (Nat.le_of_ble_eq_true rfl) dL_law_1249 hc hs (fun H locs hw => ?_)
  refine lv_icmp_eq (tgt := 1293) hx hb dL_law_1252 (by decide) (fun _ => ?_) (fun c0 => absurd rfl c0)
  exact K _ _ _ _ _ _ _ _ hR' hl hw
set_option maxHeartbeats 4000000 in
set_option maxRecDepth 100000 in
theorem lc_fault (hst : St_fault) {p : Program} {l : Launch} {e : Env} {s : State} {m : MethodId} {below : List Frame} {meth : Method} {c : Code} {b L : Nat} {xs : Nat → Int32} {D : va_G} {ty : gT} {ad1 ad2 : Nat → Nat} {G S i : Nat} {X : gC} {μ : gS} {H : Heap} {locs : List Loc} {ls : Array Slot} {cells slots : Nat} {Q : State → Prop} (C0 : lw_At p s m meth c b L xs) (hi : 6 * i + 6 ≤ L) (hL : L ≤ 384) (hR : RR G S X μ) (hl : lv_has ls 4 [(0, .ref b), (1, .ref (ad2 0)), (2, .ref (ad1 0)), (3, .int (nI (6 * i)))]) (hw : gW D ty (fun q => s.heap.size ≤ q) (mw ty ad1 μ (cw ty ad2 G S X [])) s s.heap H locs) (hc : cells + 12 ≤ 600000) (hs : slots + 41 ≤ 7302250)
    (K : ∀ (G S : Nat) (X : gC) (μ : gS) (ad2 : Nat → Nat) (H : Heap) (locs : List Loc) (ls : Array Slot), RR G S X μ → lv_has ls 4 [(0, .ref b), (1, .ref (ad2 0)), (2, .ref (ad1 0)), (3, .int (nI (6 * i)))] → gW D ty (fun q => s.heap.size ≤ q) (mw ty ad1 μ (cw ty ad2 G S X [])) s s.heap H locs → W p l e room_1 s m #[Value.ref b] below meth c H locs (cells + 12) (slots + 41) Q (F0 m 1293 ls [])) : W p l e room_1 s m #[Value.ref b] below meth c H locs cells slots Q (F0 m 1257 ls []) := by
  have F := lw_F C0
  obtain ⟨hx, hb, hml, hown, hts⟩ := id F
  obtain ⟨r, h1, h2, hR'⟩ := hst G S X μ  hR
  have hw := gW.perm perm_mc hw
  refine lv_aload_n hx hb dL_law_1257 rfl (lv_at hl 1 rfl) ?_
  refine g_cIc F (As := []) (rest := []) (ccx_fault h1) (cwV 0 hts gL_law_X10_fault rfl rfl rfl (by decide +kernel) ⟨Nat.le_of_ble_eq_true rfl, Nat.le_of_ble_eq_true rfl⟩) hw (hw.recv (ci := 10) (q0 := 0) rfl rfl rfl) rfl hl.1 rfl (Nat.le_of_ble_eq_true rfl) dL_law_1258 (show cells ≤ 600000 by omega) (show slots ≤ 7302250 by omega) (fun H locs hw => ?_)
  refine W.widen (k := cells + 12) (n := slots + 41) (by omega) (by omega) ?_
  have hw := gW.perm perm_cm hw
  refine lv_aload_n hx hb dL_law_1261 rfl (lv_at hl 2 rfl) ?_
  refine g_cIc F (As := []) (rest := [.int r]) (cmm_fault h2) (cwV 0 hts gL_law_X11_fault rfl rfl rfl (by decide +kernel) ⟨Nat.le_of_ble_eq_true rfl, Nat.le_of_ble_eq_true rfl⟩) hw (hw.recv (ci := 11) (q0 := 0) rfl rfl rfl) rfl hl.1 rfl (Nat.le_of_ble_eq_true rfl) dL_law_1262 hc hs (fun H locs hw => ?_)
  refine lv_icmp_eq (tgt := 1293) hx hb dL_law_1265 (by decide) (fun _ => ?_) (fun c0 => absurd rfl c0)
  exact K _ _ _ _ _ _ _ _ hR' hl hw
set_option maxHeartbeats 4000000 in
set_option maxRecDepth 100000 in
theorem lc_many (hst : St_many) {p : Program} {l : Launch} {e : Env} {s : State} {m : MethodId} {below : List Frame} {meth : Method} {c : Code} {b L : Nat} {xs : Nat → Int32} {D : va_G} {ty : gT} {ad1 ad2 : Nat → Nat} {G S i : Nat} {X : gC} {μ : gS} {H : Heap} {locs : List Loc} {ls : Array Slot} {cells slots : Nat} {Q : State → Prop} (C0 : lw_At p s m meth c b L xs) (hi : 6 * i + 6 ≤ L) (hL : L ≤ 384) (hR : RR G S X μ) (hl : lv_has ls 4 [(0, .ref b), (1, .ref (ad2 0)), (2, .ref (ad1 0)), (3, .int (nI (6 * i)))]) (hw : gW D ty (fun q => s.heap.size ≤ q) (mw ty ad1 μ (cw ty ad2 G S X [])) s s.heap H locs) (hc : cells + 12 ≤ 600000) (hs : slots + 41 ≤ 7302250)
    (K : ∀ (G S : Nat) (X : gC) (μ : gS) (ad2 : Nat → Nat) (H : Heap) (locs : List Loc) (ls : Array Slot), RR G S X μ → lv_has ls 4 [(0, .ref b), (1, .ref (ad2 0)), (2, .ref (ad1 0)), (3, .int (nI (6 * i)))] → gW D ty (fun q => s.heap.size ≤ q) (mw ty ad1 μ (cw ty ad2 G S X [])) s s.heap H locs → W p l e room_1 s m #[Value.ref b] below meth c H locs (cells + 12) (slots + 41) Q (F0 m 1293 ls [])) : W p l e room_1 s m #[Value.ref b] below meth c H locs cells slots Q (F0 m 1270 ls []) := by
  have F := lw_F C0
  obtain ⟨hx, hb, hml, hown, hts⟩ := id F
  obtain ⟨r, h1, h2, hR'⟩ := hst G S X μ (xs (6 * i + 1)) hR
  have hw := gW.perm perm_mc hw
  refine lv_aload_n hx hb dL_law_1270 rfl (lv_at hl 1 rfl) ?_
  refine ls_arg C0 (j := 1) hi hL (by decide) hl hw (by decide) dL_law_1271 dL_law_1272 dL_law_1273 dL_law_1274 dL_law_1275 ?_
  refine g_cIc F (As := [.int (xs (6 * i + 1))]) (rest := []) (ccx_many h1) (cwV 1 hts gL_law_X10_many rfl rfl rfl (by decide +kernel) ⟨Nat.le_of_ble_eq_true rfl, Nat.le_of_ble_eq_true rfl⟩) hw (hw.recv (ci := 10) (q0 := 0) rfl rfl rfl) rfl hl.1 rfl (Nat.le_of_ble_eq_true rfl) dL_law_1276 (show cells ≤ 600000 by omega) (show slots ≤ 7302250 by omega) (fun H locs hw => ?_)
  refine W.widen (k := cells + 12) (n := slots + 41) (by omega) (by omega) ?_
  have hw := gW.perm perm_cm hw
  refine lv_aload_n hx hb dL_law_1279 rfl (lv_at hl 2 rfl) ?_
  refine ls_arg C0 (j := 1) hi hL (by decide) hl hw (by decide) dL_law_1280 dL_law_1281 dL_law_1282 dL_law_1283 dL_law_1284 ?_
  refine g_cIc F (As := [.int (xs (6 * i + 1))]) (rest := [.int r]) (cmm_many h2) (cwV 1 hts gL_law_X11_many rfl rfl rfl (by decide +kernel) ⟨Nat.le_of_ble_eq_true rfl, Nat.le_of_ble_eq_true rfl⟩) hw (hw.recv (ci := 11) (q0 := 0) rfl rfl rfl) rfl hl.1 rfl (Nat.le_of_ble_eq_true rfl) dL_law_1285 hc hs (fun H locs hw => ?_)
  refine lv_icmp_eq (tgt := 1293) hx hb dL_law_1288 (by decide) (fun _ => ?_) (fun c0 => absurd rfl c0)
  exact K _ _ _ _ _ _ _ _ hR' hl hw
