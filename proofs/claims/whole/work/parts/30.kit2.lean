/-! more of my kit: references, inherited and super calls, a nest mate's static, Math, Arrays.fill -/
def gN {β : Type} (o : Option Nat) (x : Option β) (f : Nat → Option β) : Option β := match o with
  | none => x
  | some k => f k
theorem gN_n {β : Type} {x : Option β} {f : Nat → Option β} {ρ : β} (h : gN none x f = some ρ) : x = some ρ := h
theorem gN_s {β : Type} {k : Nat} {x : Option β} {f : Nat → Option β} {ρ : β} (h : gN (some k) x f = some ρ) : f k = some ρ := h
theorem gW.eq {D : va_G} {y : gT} {A : Nat → Prop} {a b : va_W} {s : State} {H0 H : Heap} {locs : List Loc} (h : a = b) (hw : gW D y A a s H0 H locs) : gW D y A b s H0 H locs := h ▸ hw
section GENT2
variable {l : Launch} {D : va_G} {ty : gT} {A : Nat → Prop} {y : MethodName} {w w' : List Cond} {rm : Room} {av : List Value} {w0 w1 : va_W} {cc : ByteArray} {maxL : Nat}
theorem gQ_enter {C : String} {r : Option Nat} (hy : plainName y.cls = true) (hw : w = Cond.code y cc maxL (some (.object C)) :: w') (hn : (lg_sl av).length ≤ maxL)
    (body : ∀ (p : Program) (e : Env) (s : State) (m : MethodId) (args : Array Value) (below : List Frame) (meth : Method) (c : Code) (Q : State → Prop) (ls : Array Slot), CallFix p m c cc maxL s args w y.cls → lv_has ls maxL (lv_args 0 av) → gW D ty A w0 s s.heap s.heap [] →
      (∀ (v : Option Nat) (wv : va_W) (H : Heap) (locs : List Loc) (ls : Array Slot) (pc : Nat), v = r → wv = w1 → gW D ty A wv s s.heap H locs → decode cc pc = .ok (.areturn, 1) → W p l e rm s m args below meth c H locs 0 0 Q (F0 m pc ls [va_rf v])) → W p l e rm s m args below meth c s.heap [] 0 0 Q (F0 m 0 ls [])) : gQ l D ty A y w rm av w0 r w1 := by
  refine Met.ofW (cc := cc) (maxL := maxL) (ret := some (.object C)) hy hw ?_
  intro p e s m args below meth c s₁ B hml hv
  obtain ⟨rfl, hO⟩ := hv
  rw [lg_entry_eq]
  exact body p e s m _ below meth c _ _ ⟨B.exec, B.bytes, hml, findClass_of_methodNamed B.named, atoms_spec (ws := w) B.pre⟩ (lv_entry av hn) (gW.of hO)
    (fun v wv H locs ls pc hv hwv hW hd => by subst hv; subst hwv; exact W.aret B.exec B.bytes B.returns (Or.inl ⟨_, rfl⟩) (va_rf_or v) (fun t ht hWm => ⟨⟨_, (), rfl, rfl, hW.to ht hWm⟩, hW.2.2.2.1.F ht⟩) hW.2.2.2.1.2.2 hd B.notSynchronized)
end GENT2
section GCALL2
variable {p : Program} {l : Launch} {e : Env} {R : Room} {s : State} {m : MethodId} {args : Array Value} {below : List Frame} {meth : Method} {c : Code} {H : Heap} {locs : List Loc} {Q : State → Prop}
variable {cc : ByteArray} {pc nL n index maxL : Nat} {ls : Array Slot} {rest st As : List Value} {D : va_G} {A : Nat → Prop} {b : Nat} {ty : gT} {w0 w1 : va_W} {own C : String} {Ts w : List Cond} {y : MethodName} {rm : Room} {bytes : ByteArray} {ret : Option FieldType}
theorem g_cQ {r : Option Nat} (F : CallFix p m c cc nL s args Ts own) (hM : gQ l D ty A y w rm (.ref b :: As) w0 r w1) (cw : CallW R s args own C index y bytes maxL ret w rm 0 0 n) (hw : gW D ty A w0 s s.heap H locs) (hrc : ∃ cell : Cell, H[b]? = some cell ∧ cell.vm.isStatics = false ∧ s.vm.findClass C = some cell.cls) (hn : As.length = n) (hz : ls.size = nL) (hst : st = As.reverse ++ .ref b :: rest) (hr : (rest.map fun v => v.category).sum ≤ 8) (hdg : decode cc pc = .ok (.invokevirtual index, 3))
    (kk : ∀ (H1 : Heap) (locs1 : List Loc), gW D ty A w1 s s.heap H1 locs1 → W p l e R s m args below meth c H1 locs1 0 0 Q (F0 m (pc + 3) ls (va_rf r :: rest))) : W p l e R s m args below meth c H locs 0 0 Q (F0 m pc ls st) := by
  refine va_callq (va_runV F hM cw ⟨gO_blind, hrc, hw.pre _⟩ rfl hn hz hst (lv_room hr) hdg ⟨Nat.zero_le _, Nat.zero_le _⟩) hw.2.2.2.1 (fun _ _ h => h) (fun _ h => h) (fun r1 u t H1 locs1 ht hv hp hB _ _ hS => ?_)
  subst hp
  exact kk H1 locs1 (gW.post (u := s) hw ht hv hB hS)
theorem g_uI {owner : String} {x : MethodName} {r : Int32} (F : CallFix p m c cc nL s args Ts own) (hM : gI l D ty A y w rm (.ref b :: As) w0 r w1) (cw : va_CU R s args own C owner index x y bytes maxL ret w rm 0 0 n) (hw : gW D ty A w0 s s.heap H locs) (hrc : ∃ cell : Cell, H[b]? = some cell ∧ cell.vm.isStatics = false ∧ s.vm.findClass C = some cell.cls) (hn : As.length = n) (hz : ls.size = nL) (hst : st = As.reverse ++ .ref b :: rest) (hr : (rest.map fun v => v.category).sum ≤ 8) (hdg : decode cc pc = .ok (.invokevirtual index, 3))
    (kk : ∀ (H1 : Heap) (locs1 : List Loc), gW D ty A w1 s s.heap H1 locs1 → W p l e R s m args below meth c H1 locs1 0 0 Q (F0 m (pc + 3) ls (.int r :: rest))) : W p l e R s m args below meth c H locs 0 0 Q (F0 m pc ls st) := by
  refine va_calli (va_runU F hM cw ⟨gO_blind, hrc, hw.pre _⟩ rfl hn hz hst (lv_room hr) hdg ⟨Nat.zero_le _, Nat.zero_le _⟩) hw.2.2.2.1 (fun _ _ h => h) (fun _ h => h) (fun r1 u t H1 locs1 ht hv hp hB _ _ hS => ?_)
  subst hp
  exact kk H1 locs1 (gW.post (u := s) hw ht hv hB hS)
theorem g_pI {cC : ClassId} {r : Int32} (hat : ClassAt s C cC) (F : CallFix p m c cc nL s args Ts own) (hM : gI l D ty A y w rm (.ref b :: As) w0 r w1) (cw : va_CS R s args own index y bytes maxL ret w rm 0 0 n) (hw : gW D ty A w0 s s.heap H locs) (hrc : ∃ cell : Cell, H[b]? = some cell ∧ cell.vm.isStatics = false ∧ s.vm.findClass C = some cell.cls) (hn : As.length = n) (hz : ls.size = nL) (hst : st = As.reverse ++ .ref b :: rest) (hr : (rest.map fun v => v.category).sum ≤ 8) (hdg : decode cc pc = .ok (.invokespecial index, 3))
    (kk : ∀ (H1 : Heap) (locs1 : List Loc), gW D ty A w1 s s.heap H1 locs1 → W p l e R s m args below meth c H1 locs1 0 0 Q (F0 m (pc + 3) ls (.int r :: rest))) : W p l e R s m args below meth c H locs 0 0 Q (F0 m pc ls st) := by
  refine va_calli (va_runSU hat F hM cw ⟨gO_blind, hrc, hw.pre _⟩ rfl hn hz hst (lv_room hr) hdg ⟨Nat.zero_le _, Nat.zero_le _⟩) hw.2.2.2.1 (fun _ _ h => h) (fun _ h => h) (fun r1 u t H1 locs1 ht hv hp hB _ _ hS => ?_)
  subst hp
  exact kk H1 locs1 (gW.post (u := s) hw ht hv hB hS)
theorem g_nI {host : String} {r : Int32} (F : CallFix p m c cc nL s args Ts own) (hM : gI l D ty A y w rm As w0 r w1) (cw : va_CN R s args own index y host bytes maxL ret w rm 0 0 n ∧ (Cond.static y).before args s = true ∧ True) (hw : gW D ty A w0 s s.heap H locs) (hn : As.length = n) (hz : ls.size = nL) (hst : st = As.reverse ++ rest) (hr : (rest.map fun v => v.category).sum ≤ 8) (hdg : decode cc pc = .ok (.invokestatic index, 3))
    (kk : ∀ (H1 : Heap) (locs1 : List Loc), gW D ty A w1 s s.heap H1 locs1 → W p l e R s m args below meth c H1 locs1 0 0 Q (F0 m (pc + 3) ls (.int r :: rest))) : W p l e R s m args below meth c H locs 0 0 Q (F0 m pc ls st) := by
  refine va_calli (va_runSN F hM cw ⟨gO_blind, hw.pre _⟩ rfl hn hz hst (lv_room hr) hdg ⟨Nat.zero_le _, Nat.zero_le _⟩) hw.2.2.2.1 (fun _ _ h => h) (fun _ h => h) (fun r1 u t H1 locs1 ht hv hp hB _ _ hS => ?_)
  subst hp
  exact kk H1 locs1 (gW.post (u := s) hw ht hv hB hS)
variable {cells slots : Nat}
theorem g_nmv {v v' : Value} (h : v = v') (k : W p l e R s m args below meth c H locs cells slots Q (F0 m pc ls (v' :: rest))) : W p l e R s m args below meth c H locs cells slots Q (F0 m pc ls (v :: rest)) := by rw [h]; exact k
end GCALL2
/-- Arrays.fill: every place of the row becomes x -/
abbrev rm_fill : Room := { frames := 0, cells := 0, slots := 0, locals := 0 }
theorem upd_all {f : Nat → Int32} {x : Int32} {n i : Nat} (hi : i < n) : (fun j => if j < i + 1 ∧ j < n then x else f j) = upd (fun j => if j < i ∧ j < n then x else f j) i x := by
  funext j
  unfold upd
  by_cases h : j = i
  · subst h; simp [hi]
  · by_cases h2 : j < i
    · have : j < i + 1 := by omega
      simp [h, h2, this]
    · have : ¬ j < i + 1 := by omega
      simp [h, h2, this]
set_option maxHeartbeats 4000000 in
set_option maxRecDepth 100000 in
theorem c_fill {l : Launch} {D : va_G} {ty : gT} {A : Nat → Prop} {ws : va_W} {q0 a n : Nat} {f : Nat → Int32} {x : Int32} (hn : n < 2 ^ 31) (ha : ws[q0]? = some (a, .inl (ty 0, n, .inl f))) :
    gV l D ty A yJ7_fill_53178 wsJ7_fill_53178 rm_fill [.ref a, .int x] ws (ws.set q0 (a, .inl (ty 0, n, .inl (fun j => if j < n then x else f j)))) := by
  refine gV_enter (cc := cJ7_fill_53178) (maxL := 4) (by decide) rfl (Nat.le_of_ble_eq_true rfl) ?_
  intro p e s m args below meth c Q ls F hl hw hret
  have F : CallFix p m c cJ7_fill_53178 4 s args wsJ7_fill_53178 RJ7 := F
  obtain ⟨hx, hb, hml, hown, hts⟩ := id F
  have hl : lv_has ls 4 [(0, .ref a), (1, .int x)] := hl
  have hlt : q0 < ws.length := (List.getElem?_eq_some_iff.mp ha).1
  have B5 : ∀ (k i : Nat) (H : Heap) (locs : List Loc) (ls : Array Slot), i ≤ n → n - i < k → lv_has ls 4 [(0, .ref a), (1, .int x), (2, .int (nI i)), (3, .int (nI n))] → gW D ty A (ws.set q0 (a, .inl (ty 0, n, .inl (fun j => if j < i ∧ j < n then x else f j)))) s s.heap H locs → W p l e rm_fill s m args below meth c H locs 0 0 Q (F0 m 5 ls []) := by
    intro k
    induction k with
    | zero => intro i H locs ls _ h; exact absurd h (Nat.not_lt_zero _)
    | succ k ih =>
      intro i H locs ls hi hk hl hw
      refine lv_iload_n hx hb dJ7_fill_53178_5 rfl (lv_at hl 2 rfl) ?_
      refine lv_iload_n hx hb dJ7_fill_53178_6 rfl (lv_at hl 3 rfl) ?_
      refine lv_icmp_ge (tgt := 20) hx hb dJ7_fill_53178_7 (by decide) (fun c1 => ?_) (fun c1 => ?_)
      · have hin : i = n := Nat.le_antisymm hi ((nI_leI hn (Nat.lt_of_le_of_lt hi hn)).mp c1)
        subst hin
        refine hret _ _ _ _ _ ?_ hw dJ7_fill_53178_20
        simp only [and_self]
      · have hlt2 : i < n := Nat.lt_of_not_le fun h => c1 ((nI_leI hn (Nat.lt_of_le_of_lt hi hn)).mpr h)
        refine lv_aload_n hx hb dJ7_fill_53178_10 rfl (lv_at hl 0 rfl) ?_
        refine lv_iload_n hx hb dJ7_fill_53178_11 rfl (lv_at hl 2 rfl) ?_
        refine lv_iload_n hx hb dJ7_fill_53178_12 rfl (lv_at hl 1 rfl) ?_
        refine g_iast hx hb hw q0 (by rw [List.getElem?_set_self hlt]) (by
          have := vp_in_nI hlt2 hn
          unfold vp_in at this
          unfold gin
          simp only [Bool.not_eq_true', Bool.or_eq_false_iff, decide_eq_false_iff_not]
          exact ⟨fun h => this (Or.inl h), fun h => this (Or.inr h)⟩) rfl dJ7_fill_53178_13 (fun H locs hw => ?_)
        rw [List.set_set, nI_clamp (Nat.lt_trans hlt2 hn), ← upd_all hlt2] at hw
        refine lv_iinc (v := nI (i + 1)) (lv' := [(2, .int (nI (i + 1))), (0, .ref a), (1, .int x), (3, .int (nI n))]) hx hb dJ7_fill_53178_14 hl (k := 2) rfl (by rw [← nI_1]; rfl) (by decide) rfl (fun ls hl => ?_)
        refine lv_goto (tgt := 5) hx hb dJ7_fill_53178_17 (by decide) ?_
        exact ih (i + 1) _ _ _ hlt2 (by omega) (lv_sub hl [1, 2, 0, 3] rfl) hw
  refine lv_iconst (v := 0) hx hb dJ7_fill_53178_0 (by decide) ?_
  refine lv_istore_n (lv' := [(2, .int 0), (0, .ref a), (1, .int x)]) hx hb dJ7_fill_53178_1 rfl hl (by decide) rfl (fun ls hl => ?_)
  refine lv_aload_n hx hb dJ7_fill_53178_2 rfl (lv_at hl 1 rfl) ?_
  refine va_alen hx hb hw.2.1 hw.1 q0 0 ha (ty := .int) rfl (v := nI n) rfl dJ7_fill_53178_3 ?_
  refine lv_istore_n (lv' := [(3, .int (nI n)), (2, .int 0), (0, .ref a), (1, .int x)]) hx hb dJ7_fill_53178_4 rfl hl (by decide) rfl (fun ls hl => ?_)
  refine B5 (n + 1) 0 _ _ _ (Nat.zero_le _) (by omega) (lv_sub hl [2, 3, 1, 0] rfl) ?_
  have e : (fun j => if j < 0 ∧ j < n then x else f j) = f := by funext j; simp
  rw [e]
  rw [show ws.set q0 (a, .inl (ty 0, n, .inl f)) = ws from by
    apply List.ext_getElem?
    intro j
    by_cases h : q0 = j
    · subst h; rw [List.getElem?_set_self hlt, ha]
    · rw [List.getElem?_set_ne h]]
  exact hw
