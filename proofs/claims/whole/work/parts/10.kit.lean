/-! MY KIT: a method's contract over one whole world; what a pure function of the same shape answers, the machine answers -/
/-- a state's numbers: scalars by slot, rows by slot -/
abbrev gS : Type := (Nat → Int32) × (Nat → Nat → Int32)
def sS (σ : gS) (k : Nat) (v : Int32) : gS := (upd σ.1 k v, σ.2)
def sA (σ : gS) (k i : Nat) (v : Int32) : gS := (σ.1, va_up σ.2 k (upd (σ.2 k) i v))
def sR (σ : gS) (k : Nat) (f : Nat → Int32) : gS := (σ.1, va_up σ.2 k f)
def gin (i : Int32) (n : Nat) : Bool := !(decide (i < 0) || decide (n ≤ i.toNatClampNeg))
theorem gin_vp {i : Int32} {n : Nat} (h : gin i n = true) : vp_in i n := by
  unfold gin at h
  unfold vp_in
  simp only [Bool.not_eq_true', Bool.or_eq_false_iff, decide_eq_false_iff_not] at h
  exact fun q => q.elim h.1 h.2
def bI : Bool → Int32
  | true => 1
  | false => 0
theorem bI_t : bI true = 1 := rfl
theorem bI_f : bI false = 0 := rfl
theorem bI_z {b : Bool} (h : bI b = 0) : ¬ b = true := by cases b <;> simp_all [bI]
theorem bI_nz {b : Bool} (h : ¬ bI b = 0) : b = true := by cases b <;> simp_all [bI]
theorem bI_nar (b : Bool) : narrow .boolean (.int (bI b)) = .int (bI b) := by cases b <;> rfl
/-- what a pure function's text comes to -/
theorem g_t {α : Type} {c : Prop} [Decidable c] {X Y : Option α} {ρ : α} (h : c) (hf : (if c then X else Y) = some ρ) : X = some ρ := by rwa [if_pos h] at hf
theorem g_f {α : Type} {c : Prop} [Decidable c] {X Y : Option α} {ρ : α} (h : ¬ c) (hf : (if c then X else Y) = some ρ) : Y = some ρ := by rwa [if_neg h] at hf
theorem g_g {α : Type} {c : Prop} [Decidable c] {X : Option α} {ρ : α} (hf : (if c then X else none) = some ρ) : c ∧ X = some ρ := by
  by_cases h : c
  · exact ⟨h, by rwa [if_pos h] at hf⟩
  · rw [if_neg h] at hf; cases hf
def gB1 {α β : Type} (o : Option α) (k : α → Option β) : Option β := match o with
  | none => none
  | some r => k r
def gB2 {α β τ : Type} (o : Option (α × τ)) (k : α → τ → Option β) : Option β := match o with
  | none => none
  | some q => k q.1 q.2
theorem g_b1 {α β : Type} {o : Option α} {k : α → Option β} {ρ : β} (hf : gB1 o k = some ρ) : ∃ r, o = some r ∧ k r = some ρ := by
  cases o with
  | none => cases hf
  | some r => exact ⟨r, rfl, hf⟩
theorem g_b2 {α β τ : Type} {o : Option (α × τ)} {k : α → τ → Option β} {ρ : β} (hf : gB2 o k = some ρ) : ∃ r σ, o = some (r, σ) ∧ k r σ = some ρ := by
  cases o with
  | none => cases hf
  | some q => exact ⟨q.1, q.2, rfl, hf⟩
def gLet {α β : Type} (x : α) (k : α → Option β) : Option β := k x
theorem g_let {α β : Type} {x : α} {k : α → Option β} {ρ : β} (hf : gLet x k = some ρ) : ∃ y, y = x ∧ k y = some ρ := ⟨x, rfl, hf⟩
theorem g_i1 {α β : Type} {a c : α} {b d : β} (h : some (a, b) = some (c, d)) : a = c := by cases h; rfl
theorem g_i2 {α β : Type} {a c : α} {b d : β} (h : some (a, b) = some (c, d)) : b = d := by cases h; rfl
theorem g_cmp {x y : Int64} : lg_cmp x y = 0 ↔ x = y := by
  unfold lg_cmp
  by_cases h : x = y
  · subst h; simp
  · simp only [h, if_false, iff_false]
    split <;> decide
theorem g_ti {x : Int32} {k : Int} (y : Int32) (hy : y.toInt = k) (h : ¬ x = y) : x.toInt ≠ k := fun q => h (Int32.toInt_inj.mp (q.trans hy.symm))
theorem gB1_some {α β : Type} (r : α) (k : α → Option β) : gB1 (some r) k = k r := rfl
theorem gB2_some {α β τ : Type} (r : α) (σ : τ) (k : α → τ → Option β) : gB2 (some (r, σ)) k = k r σ := rfl
/-- the array classes: ints, Gates, Rows, Stories -/
abbrev gT : Type := Nat → ClassId
def gtys (y : gT) : List (ClassId × FieldType) := [(y 0, .int), (y 1, .object RX0), (y 2, .object RX4), (y 3, .object RX5)]
def gFc (U : State) : Prop := (va_Nw (.castable RX1 RX6) U ∧ va_Nw (.castable RX6 RX0) U ∧ va_Nw (.castable RX1 RX0) U) ∧ (va_Nc RX0 RX6 U ∧ va_Nc RX0 RX1 U ∧ va_Nc RX6 RX1 U) ∧ (va_Nw (.methodLinkNest RX3 43 yX10_isWithin RX10) U ∧ va_Nw (.methodLinkNest RX7 58 yX10_isWithin RX10) U ∧ va_Nw (.methodLinkNest RX8 124 yX10_isWithin RX10) U) ∧ (va_AO RX0 U ∧ va_AO RX4 U ∧ va_AO RX5 U) ∧ (va_Nw (.methodLinkNest RX10 19 yX8_init RX10) U ∧ va_Nw (.methodLinkNest RX10 26 yX3_init RX10) U ∧ va_Nw (.methodLinkNest RX10 33 yX2_init RX10) U ∧ va_Nw (.methodLinkNest RX10 40 yX9_init RX10) U ∧ va_Nw (.methodLinkNest RX10 49 yX4_init RX10) U)
theorem gFc.moved {u U : State} (hv : u.WarmedH U.vm) (h : gFc u) : gFc U := ⟨⟨va_Nw.warmC hv h.1.1, va_Nw.warmC hv h.1.2.1, va_Nw.warmC hv h.1.2.2⟩, ⟨va_Nc.moved hv.alike h.2.1.1, va_Nc.moved hv.alike h.2.1.2.1, va_Nc.moved hv.alike h.2.1.2.2⟩, ⟨va_Nw.warmM hv h.2.2.1.1, va_Nw.warmM hv h.2.2.1.2.1, va_Nw.warmM hv h.2.2.1.2.2⟩, ⟨va_AO.moved hv.alike h.2.2.2.1.1, va_AO.moved hv.alike h.2.2.2.1.2.1, va_AO.moved hv.alike h.2.2.2.1.2.2⟩, va_Nw.warmM hv h.2.2.2.2.1, va_Nw.warmM hv h.2.2.2.2.2.1, va_Nw.warmM hv h.2.2.2.2.2.2.1, va_Nw.warmM hv h.2.2.2.2.2.2.2.1, va_Nw.warmM hv h.2.2.2.2.2.2.2.2⟩
theorem gFc.same {u U : State} (hv : u.vm = U.vm) (h : gFc u) : gFc U := ⟨⟨va_Nw.same rfl hv h.1.1, va_Nw.same rfl hv h.1.2.1, va_Nw.same rfl hv h.1.2.2⟩, ⟨va_Nc.moved (hv ▸ Vm.Alike.refl u.vm) h.2.1.1, va_Nc.moved (hv ▸ Vm.Alike.refl u.vm) h.2.1.2.1, va_Nc.moved (hv ▸ Vm.Alike.refl u.vm) h.2.1.2.2⟩, ⟨va_Nw.same rfl hv h.2.2.1.1, va_Nw.same rfl hv h.2.2.1.2.1, va_Nw.same rfl hv h.2.2.1.2.2⟩, ⟨va_AO.moved (hv ▸ Vm.Alike.refl u.vm) h.2.2.2.1.1, va_AO.moved (hv ▸ Vm.Alike.refl u.vm) h.2.2.2.1.2.1, va_AO.moved (hv ▸ Vm.Alike.refl u.vm) h.2.2.2.1.2.2⟩, va_Nw.same rfl hv h.2.2.2.2.1, va_Nw.same rfl hv h.2.2.2.2.2.1, va_Nw.same rfl hv h.2.2.2.2.2.2.1, va_Nw.same rfl hv h.2.2.2.2.2.2.2.1, va_Nw.same rfl hv h.2.2.2.2.2.2.2.2⟩
def gO (D : va_G) (y : gT) (A : Nat → Prop) (ws : va_W) (U : State) : Prop := va_P D vwCl ws U.heap ∧ va_K D vwCl (gtys y) U ∧ va_D A ws ∧ (∀ q : Nat, U.heap.size ≤ q → A q) ∧ gFc U
def gW (D : va_G) (y : gT) (A : Nat → Prop) (ws : va_W) (s : State) (H0 H : Heap) (locs : List Loc) : Prop := va_P D vwCl ws H ∧ va_K D vwCl (gtys y) s ∧ va_D A ws ∧ va_S A H0 H locs ∧ (∀ q : Nat, H0.size ≤ q → A q) ∧ gFc s
theorem gW.of {D : va_G} {y : gT} {A : Nat → Prop} {ws : va_W} {s : State} (h : gO D y A ws s) : gW D y A ws s s.heap s.heap [] := ⟨h.1, h.2.1, h.2.2.1, va_S.rf, h.2.2.2⟩
theorem gW.to {D : va_G} {y : gT} {A : Nat → Prop} {ws : va_W} {s t : State} {H0 H : Heap} {locs : List Loc} (h : gW D y A ws s H0 H locs) (ht : t.heap = H) (hv : s.WarmedH t.vm) : gO D y A ws t :=
  ⟨by rw [ht]; exact h.1, va_K.moved hv.alike h.2.1, h.2.2.1, fun q hq => h.2.2.2.2.1 q (Nat.le_trans h.2.2.2.1.1 (by rw [ht] at hq; exact hq)), h.2.2.2.2.2.moved hv⟩
theorem gO_blind {D : va_G} {y : gT} {A : Nat → Prop} {ws : va_W} {av : List Value} : FrameBlind (va_Pc av (gO D y A ws)) := fun a U g mk q =>
  ⟨q.1, q.2.1, va_K.moved (u := U) (U := U.calling g mk a) (Vm.Alike.refl U.vm) q.2.2.1, q.2.2.2.1, q.2.2.2.2.1, gFc.same (u := U) (U := U.calling g mk a) rfl q.2.2.2.2.2⟩
/-- the contracts: an int, a truth, a long, nothing, a reference -/
def gI (l : Launch) (D : va_G) (ty : gT) (A : Nat → Prop) (y : MethodName) (w : List Cond) (rm : Room) (av : List Value) (w0 : va_W) (r : Int32) (w1 : va_W) : Prop :=
  Met l y w rm (va_Pc av (gO D ty A w0)) (va_Qi (S := Unit) (fun x _ => x = r) (fun _ t => gO D ty A w1 t) A) 0 0 A
def gL (l : Launch) (D : va_G) (ty : gT) (A : Nat → Prop) (y : MethodName) (w : List Cond) (rm : Room) (av : List Value) (w0 : va_W) (r : Int64) (w1 : va_W) : Prop :=
  Met l y w rm (va_Pc av (gO D ty A w0)) (va_Ql (S := Unit) (fun x _ => x = r) (fun _ t => gO D ty A w1 t) A) 0 0 A
def gV (l : Launch) (D : va_G) (ty : gT) (A : Nat → Prop) (y : MethodName) (w : List Cond) (rm : Room) (av : List Value) (w0 : va_W) (w1 : va_W) : Prop :=
  Met l y w rm (va_Pc av (gO D ty A w0)) (va_Qv (S := Unit) (fun _ => True) (fun _ t => gO D ty A w1 t) A) 0 0 A
def gQ (l : Launch) (D : va_G) (ty : gT) (A : Nat → Prop) (y : MethodName) (w : List Cond) (rm : Room) (av : List Value) (w0 : va_W) (r : Option Nat) (w1 : va_W) : Prop :=
  Met l y w rm (va_Pc av (gO D ty A w0)) (va_Qq (S := Unit) (fun x _ => x = r) (fun _ t => gO D ty A w1 t) A) 0 0 A
section GENT
variable {l : Launch} {D : va_G} {ty : gT} {A : Nat → Prop} {y : MethodName} {w w' : List Cond} {rm : Room} {av : List Value} {w0 w1 : va_W} {cc : ByteArray} {maxL : Nat}
theorem gI_enter {r : Int32} (hy : plainName y.cls = true) (hw : w = Cond.code y cc maxL (some .int) :: w') (hn : (lg_sl av).length ≤ maxL)
    (body : ∀ (p : Program) (e : Env) (s : State) (m : MethodId) (args : Array Value) (below : List Frame) (meth : Method) (c : Code) (Q : State → Prop) (ls : Array Slot), CallFix p m c cc maxL s args w y.cls → lv_has ls maxL (lv_args 0 av) → gW D ty A w0 s s.heap s.heap [] →
      (∀ (v : Int32) (wv : va_W) (H : Heap) (locs : List Loc) (ls : Array Slot) (pc : Nat), v = r → wv = w1 → gW D ty A wv s s.heap H locs → decode cc pc = .ok (.ireturn, 1) → W p l e rm s m args below meth c H locs 0 0 Q (F0 m pc ls [.int v])) → W p l e rm s m args below meth c s.heap [] 0 0 Q (F0 m 0 ls [])) : gI l D ty A y w rm av w0 r w1 := by
  refine Met.ofW (cc := cc) (maxL := maxL) (ret := some .int) hy hw ?_
  intro p e s m args below meth c s₁ B hml hv
  obtain ⟨rfl, hO⟩ := hv
  rw [lg_entry_eq]
  exact body p e s m _ below meth c _ _ ⟨B.exec, B.bytes, hml, findClass_of_methodNamed B.named, atoms_spec (ws := w) B.pre⟩ (lv_entry av hn) (gW.of hO)
    (fun v wv H locs ls pc hv hwv hW hd => by subst hv; subst hwv; exact W.iret B.exec B.bytes B.returns (fun t ht hWm => ⟨⟨_, (), rfl, rfl, hW.to ht hWm⟩, hW.2.2.2.1.F ht⟩) hW.2.2.2.1.2.2 hd B.notSynchronized)
theorem gZ_enter {r : Bool} (hy : plainName y.cls = true) (hw : w = Cond.code y cc maxL (some .boolean) :: w') (hn : (lg_sl av).length ≤ maxL)
    (body : ∀ (p : Program) (e : Env) (s : State) (m : MethodId) (args : Array Value) (below : List Frame) (meth : Method) (c : Code) (Q : State → Prop) (ls : Array Slot), CallFix p m c cc maxL s args w y.cls → lv_has ls maxL (lv_args 0 av) → gW D ty A w0 s s.heap s.heap [] →
      (∀ (v : Bool) (wv : va_W) (H : Heap) (locs : List Loc) (ls : Array Slot) (pc : Nat), v = r → wv = w1 → gW D ty A wv s s.heap H locs → decode cc pc = .ok (.ireturn, 1) → W p l e rm s m args below meth c H locs 0 0 Q (F0 m pc ls [.int (bI v)])) → W p l e rm s m args below meth c s.heap [] 0 0 Q (F0 m 0 ls [])) : gI l D ty A y w rm av w0 (bI r) w1 := by
  refine Met.ofW (cc := cc) (maxL := maxL) (ret := some .boolean) hy hw ?_
  intro p e s m args below meth c s₁ B hml hv
  obtain ⟨rfl, hO⟩ := hv
  rw [lg_entry_eq]
  exact body p e s m _ below meth c _ _ ⟨B.exec, B.bytes, hml, findClass_of_methodNamed B.named, atoms_spec (ws := w) B.pre⟩ (lv_entry av hn) (gW.of hO)
    (fun v wv H locs ls pc hv hwv hW hd => by subst hv; subst hwv; exact W.zret B.exec B.bytes B.returns (bI_nar _) (fun t ht hWm => ⟨⟨_, (), rfl, rfl, hW.to ht hWm⟩, hW.2.2.2.1.F ht⟩) hW.2.2.2.1.2.2 hd B.notSynchronized)
theorem gL_enter {r : Int64} (hy : plainName y.cls = true) (hw : w = Cond.code y cc maxL (some .long) :: w') (hn : (lg_sl av).length ≤ maxL)
    (body : ∀ (p : Program) (e : Env) (s : State) (m : MethodId) (args : Array Value) (below : List Frame) (meth : Method) (c : Code) (Q : State → Prop) (ls : Array Slot), CallFix p m c cc maxL s args w y.cls → lv_has ls maxL (lv_args 0 av) → gW D ty A w0 s s.heap s.heap [] →
      (∀ (v : Int64) (wv : va_W) (H : Heap) (locs : List Loc) (ls : Array Slot) (pc : Nat), v = r → wv = w1 → gW D ty A wv s s.heap H locs → decode cc pc = .ok (.lreturn, 1) → W p l e rm s m args below meth c H locs 0 0 Q (F0 m pc ls [.long v])) → W p l e rm s m args below meth c s.heap [] 0 0 Q (F0 m 0 ls [])) : gL l D ty A y w rm av w0 r w1 := by
  refine Met.ofW (cc := cc) (maxL := maxL) (ret := some .long) hy hw ?_
  intro p e s m args below meth c s₁ B hml hv
  obtain ⟨rfl, hO⟩ := hv
  rw [lg_entry_eq]
  exact body p e s m _ below meth c _ _ ⟨B.exec, B.bytes, hml, findClass_of_methodNamed B.named, atoms_spec (ws := w) B.pre⟩ (lv_entry av hn) (gW.of hO)
    (fun v wv H locs ls pc hv hwv hW hd => by subst hv; subst hwv; exact W.lret B.exec B.bytes B.returns (fun t ht hWm => ⟨⟨_, (), rfl, rfl, hW.to ht hWm⟩, hW.2.2.2.1.F ht⟩) hW.2.2.2.1.2.2 hd B.notSynchronized)
theorem gV_enter (hy : plainName y.cls = true) (hw : w = Cond.code y cc maxL none :: w') (hn : (lg_sl av).length ≤ maxL)
    (body : ∀ (p : Program) (e : Env) (s : State) (m : MethodId) (args : Array Value) (below : List Frame) (meth : Method) (c : Code) (Q : State → Prop) (ls : Array Slot), CallFix p m c cc maxL s args w y.cls → lv_has ls maxL (lv_args 0 av) → gW D ty A w0 s s.heap s.heap [] →
      (∀ (wv : va_W) (H : Heap) (locs : List Loc) (ls : Array Slot) (pc : Nat), wv = w1 → gW D ty A wv s s.heap H locs → decode cc pc = .ok (.return_, 1) → W p l e rm s m args below meth c H locs 0 0 Q (F0 m pc ls [])) → W p l e rm s m args below meth c s.heap [] 0 0 Q (F0 m 0 ls [])) : gV l D ty A y w rm av w0 w1 := by
  refine Met.ofW (cc := cc) (maxL := maxL) (ret := none) hy hw ?_
  intro p e s m args below meth c s₁ B hml hv
  obtain ⟨rfl, hO⟩ := hv
  rw [lg_entry_eq]
  exact body p e s m _ below meth c _ _ ⟨B.exec, B.bytes, hml, findClass_of_methodNamed B.named, atoms_spec (ws := w) B.pre⟩ (lv_entry av hn) (gW.of hO)
    (fun wv H locs ls pc hwv hW hd => by subst hwv; exact W.vret B.exec B.bytes B.returns (fun t ht hWm => ⟨⟨(), rfl, trivial, hW.to ht hWm⟩, hW.2.2.2.1.F ht⟩) hW.2.2.2.1.2.2 hd B.notSynchronized)
end GENT
section GROW
variable {p : Program} {l : Launch} {e : Env} {R : Room} {s : State} {m : MethodId} {args : Array Value} {below : List Frame} {meth : Method} {c : Code} {H : Heap} {locs : List Loc} {cells slots : Nat} {Q : State → Prop}
variable {cc : ByteArray} {pc : Nat} {ls : Array Slot} {rest : List Value} {D : va_G} {A : Nat → Prop} {a : Nat} {ty : gT} {ws : va_W} {H0 : Heap} {own C : String} {T : u_T} {N ci index : Nat} {Ts : List Cond}
theorem g_get (hx : p.tables.exec = Jvm.exec) (hb : c.code = cc) (hts : ∀ w ∈ Ts, w.before args s = true) (hin : ∀ w ∈ u_ws C T N, w ∈ Ts) (hown : s.vm.findClass own = some m.cls) (hw : gW D ty A ws s H0 H locs) (q0 : Nat) {fs : List Value} (he : ws[q0]? = some (a, .inr (ci, fs))) (hc : vwCl[ci]? = some (C, T, N)) (k : Nat) (hk : k < N) (hlink : (Cond.fieldLink own index (T k).1 (T k).2.1 (T k).2.2.1).before args s = true) {v : Value} (hv : fs[k]? = some v) (hdg : decode cc pc = .ok (.getfield index, 3))
    (kk : W p l e R s m args below meth c H locs cells slots Q (F0 m (pc + 3) ls (v :: rest))) : W p l e R s m args below meth c H locs cells slots Q (F0 m pc ls (.ref a :: rest)) :=
  va_get hx hb hts hin hown hw.2.1 hw.1 q0 he hc k hk hlink (fun _ h => h) hv hdg kk
theorem g_put (hx : p.tables.exec = Jvm.exec) (hb : c.code = cc) (hts : ∀ w ∈ Ts, w.before args s = true) (hin : ∀ w ∈ u_ws C T N, w ∈ Ts) (ty0 : Nat → FieldType) (hty : ∀ k, k < N → parseFieldDescriptor (T k).2.2.1 = some (ty0 k)) (hnm : ∀ a, a < N → ∀ b, b < N → a ≠ b → (T a).2.1 ≠ (T b).2.1) (hown : s.vm.findClass own = some m.cls) (hw : gW D ty A ws s H0 H locs) (q0 : Nat) {fs : List Value} (he : ws[q0]? = some (a, .inr (ci, fs))) (hc : vwCl[ci]? = some (C, T, N)) (k : Nat) (hk : k < N) (hlink : (Cond.fieldLink own index (T k).1 (T k).2.1 (T k).2.2.1).before args s = true) (hfin : (T k).2.2.2 = false) {v : Int32} (hd : parseFieldDescriptor (T k).2.2.1 = some .int) (hl : k < fs.length) {ws1 : va_W} (hs : ws.set q0 (a, .inr (ci, fs.set k (.int v))) = ws1)
    (hdg : decode cc pc = .ok (.putfield index, 3)) (kk : ∀ (H1 : Heap) (locs1 : List Loc), gW D ty A ws1 s H0 H1 locs1 → W p l e R s m args below meth c H1 locs1 cells slots Q (F0 m (pc + 3) ls rest)) : W p l e R s m args below meth c H locs cells slots Q (F0 m pc ls (.int v :: .ref a :: rest)) := by
  subst hs
  exact va_put hx hb hts hin ty0 hty hnm hown hw.2.1 hw.1 hw.2.2.1 hw.2.2.2.1 q0 he hc k hk hlink (fun _ h => h) hfin hd rfl rfl hl hdg (fun H1 locs1 h1 h2 h3 => kk H1 locs1 ⟨h1, hw.2.1, h2, h3, hw.2.2.2.2⟩)
theorem g_iald (hx : p.tables.exec = Jvm.exec) (hb : c.code = cc) (hw : gW D ty A ws s H0 H locs) (q0 : Nat) {n : Nat} {f : Nat → Int32} (ha : ws[q0]? = some (a, .inl (ty 0, n, .inl f))) {i : Int32} (hin : gin i n = true) (hdg : decode cc pc = .ok (.iaload, 1))
    (kk : W p l e R s m args below meth c H locs cells slots Q (F0 m (pc + 1) ls (.int (f i.toNatClampNeg) :: rest))) : W p l e R s m args below meth c H locs cells slots Q (F0 m pc ls (.int i :: .ref a :: rest)) :=
  va_iald hx hb hw.2.1 hw.1 q0 0 ha rfl (gin_vp hin) hdg kk
theorem g_iast (hx : p.tables.exec = Jvm.exec) (hb : c.code = cc) (hw : gW D ty A ws s H0 H locs) (q0 : Nat) {n : Nat} {f : Nat → Int32} (ha : ws[q0]? = some (a, .inl (ty 0, n, .inl f))) {i x : Int32} (hin : gin i n = true) {ws1 : va_W} (hs : ws.set q0 (a, .inl (ty 0, n, .inl (upd f i.toNatClampNeg x))) = ws1) (hdg : decode cc pc = .ok (.iastore, 1))
    (kk : ∀ (H1 : Heap) (locs1 : List Loc), gW D ty A ws1 s H0 H1 locs1 → W p l e R s m args below meth c H1 locs1 cells slots Q (F0 m (pc + 1) ls rest)) : W p l e R s m args below meth c H locs cells slots Q (F0 m pc ls (.int x :: .int i :: .ref a :: rest)) := by
  subst hs
  exact va_iast hx hb hw.2.1 hw.1 hw.2.2.1 hw.2.2.2.1 q0 0 ha rfl (gin_vp hin) hdg (fun H1 locs1 h1 h2 h3 => kk H1 locs1 ⟨h1, hw.2.1, h2, h3, hw.2.2.2.2⟩)
end GROW
section GNM
variable {p : Program} {l : Launch} {e : Env} {R : Room} {s : State} {m : MethodId} {args : Array Value} {below : List Frame} {meth : Method} {c : Code} {H : Heap} {locs : List Loc} {cells slots : Nat} {Q : State → Prop} {pc : Nat} {ls : Array Slot} {rest : List Value}
theorem g_nm {x y : Int32} (h : y = x) (k : W p l e R s m args below meth c H locs cells slots Q (F0 m pc ls (.int y :: rest))) : W p l e R s m args below meth c H locs cells slots Q (F0 m pc ls (.int x :: rest)) := by rw [← h]; exact k
end GNM
section GCALL
variable {p : Program} {l : Launch} {e : Env} {R : Room} {s : State} {m : MethodId} {args : Array Value} {below : List Frame} {meth : Method} {c : Code} {H : Heap} {locs : List Loc} {Q : State → Prop}
variable {cc : ByteArray} {pc nL n index maxL : Nat} {ls : Array Slot} {rest st As : List Value} {D : va_G} {A : Nat → Prop} {b : Nat} {ty : gT} {w0 w1 : va_W} {own C : String} {Ts w : List Cond} {y : MethodName} {rm : Room} {bytes : ByteArray} {ret : Option FieldType}
theorem gW.pre (hw : gW D ty A w0 s s.heap H locs) (av : List Value) : ∀ U : State, U.heap = H → s.WarmedH U.vm → va_Pc av (gO D ty A w0) av.toArray U := fun _ hU hW => ⟨rfl, hw.to hU hW⟩
theorem gW.post {u t : State} {H1 : Heap} {locs1 : List Loc} (hw : gW D ty A w0 s s.heap H locs) (ht : t.heap = H1) (hv : s.vm.Alike t.vm) (hB : gO D ty A w1 t) (hS : va_S A s.heap H1 locs1) : gW D ty A w1 s s.heap H1 locs1 :=
  ⟨by rw [← ht]; exact hB.1, va_K.moved hv.symm hB.2.1, hB.2.2.1, hS, hw.2.2.2.2⟩
theorem gW.recv {ci q0 : Nat} {q : vw_C} {fs : List Value} (hw : gW D ty A w0 s s.heap H locs) (hc : vwCl[ci]? = some q) (hC : q.1 = C) (he : w0[q0]? = some (b, .inr (ci, fs))) : ∃ cell : Cell, H[b]? = some cell ∧ cell.vm.isStatics = false ∧ s.vm.findClass C = some cell.cls := by
  subst hC
  exact va_recv hw.2.1 hw.1 hc he
theorem g_cI {r : Int32} (F : CallFix p m c cc nL s args Ts own) (hM : gI l D ty A y w rm (.ref b :: As) w0 r w1) (cw : CallW R s args own C index y bytes maxL ret w rm 0 0 n) (hw : gW D ty A w0 s s.heap H locs) (hrc : ∃ cell : Cell, H[b]? = some cell ∧ cell.vm.isStatics = false ∧ s.vm.findClass C = some cell.cls) (hn : As.length = n) (hz : ls.size = nL) (hst : st = As.reverse ++ .ref b :: rest) (hr : (rest.map fun v => v.category).sum ≤ 8) (hdg : decode cc pc = .ok (.invokevirtual index, 3))
    (kk : ∀ (H1 : Heap) (locs1 : List Loc), gW D ty A w1 s s.heap H1 locs1 → W p l e R s m args below meth c H1 locs1 0 0 Q (F0 m (pc + 3) ls (.int r :: rest))) : W p l e R s m args below meth c H locs 0 0 Q (F0 m pc ls st) := by
  refine va_calli (va_runV F hM cw ⟨gO_blind, hrc, hw.pre _⟩ rfl hn hz hst (lv_room hr) hdg ⟨Nat.zero_le _, Nat.zero_le _⟩) hw.2.2.2.1 (fun _ _ h => h) (fun _ h => h) (fun r1 u t H1 locs1 ht hv hp hB _ _ hS => ?_)
  subst hp
  exact kk H1 locs1 (gW.post (u := s) hw ht hv hB hS)
theorem g_cL {r : Int64} (F : CallFix p m c cc nL s args Ts own) (hM : gL l D ty A y w rm (.ref b :: As) w0 r w1) (cw : CallW R s args own C index y bytes maxL ret w rm 0 0 n) (hw : gW D ty A w0 s s.heap H locs) (hrc : ∃ cell : Cell, H[b]? = some cell ∧ cell.vm.isStatics = false ∧ s.vm.findClass C = some cell.cls) (hn : As.length = n) (hz : ls.size = nL) (hst : st = As.reverse ++ .ref b :: rest) (hr : (rest.map fun v => v.category).sum ≤ 8) (hdg : decode cc pc = .ok (.invokevirtual index, 3))
    (kk : ∀ (H1 : Heap) (locs1 : List Loc), gW D ty A w1 s s.heap H1 locs1 → W p l e R s m args below meth c H1 locs1 0 0 Q (F0 m (pc + 3) ls (.long r :: rest))) : W p l e R s m args below meth c H locs 0 0 Q (F0 m pc ls st) := by
  refine va_calll (va_runV F hM cw ⟨gO_blind, hrc, hw.pre _⟩ rfl hn hz hst (lv_room hr) hdg ⟨Nat.zero_le _, Nat.zero_le _⟩) hw.2.2.2.1 (fun _ _ h => h) (fun _ h => h) (fun r1 u t H1 locs1 ht hv hp hB _ _ hS => ?_)
  subst hp
  exact kk H1 locs1 (gW.post (u := s) hw ht hv hB hS)
theorem g_cV (F : CallFix p m c cc nL s args Ts own) (hM : gV l D ty A y w rm (.ref b :: As) w0 w1) (cw : CallW R s args own C index y bytes maxL ret w rm 0 0 n) (hw : gW D ty A w0 s s.heap H locs) (hrc : ∃ cell : Cell, H[b]? = some cell ∧ cell.vm.isStatics = false ∧ s.vm.findClass C = some cell.cls) (hn : As.length = n) (hz : ls.size = nL) (hst : st = As.reverse ++ .ref b :: rest) (hr : (rest.map fun v => v.category).sum ≤ 8) (hdg : decode cc pc = .ok (.invokevirtual index, 3))
    (kk : ∀ (H1 : Heap) (locs1 : List Loc), gW D ty A w1 s s.heap H1 locs1 → W p l e R s m args below meth c H1 locs1 0 0 Q (F0 m (pc + 3) ls rest)) : W p l e R s m args below meth c H locs 0 0 Q (F0 m pc ls st) := by
  refine va_callv (va_runV F hM cw ⟨gO_blind, hrc, hw.pre _⟩ rfl hn hz hst (lv_room hr) hdg ⟨Nat.zero_le _, Nat.zero_le _⟩) hw.2.2.2.1 (fun _ _ h => h) (fun _ h => h) (fun u t H1 locs1 ht hv hp hB _ _ hS => ?_)
  exact kk H1 locs1 (gW.post (u := s) hw ht hv hB hS)
theorem g_sI {r : Int32} (F : CallFix p m c cc nL s args Ts own) (hM : gI l D ty A y w rm As w0 r w1) (cw : CallB R s args own index y bytes maxL ret w rm 0 0 n ∧ (Cond.static y).before args s = true) (hw : gW D ty A w0 s s.heap H locs) (hn : As.length = n) (hz : ls.size = nL) (hst : st = As.reverse ++ rest) (hr : (rest.map fun v => v.category).sum ≤ 8) (hdg : decode cc pc = .ok (.invokestatic index, 3))
    (kk : ∀ (H1 : Heap) (locs1 : List Loc), gW D ty A w1 s s.heap H1 locs1 → W p l e R s m args below meth c H1 locs1 0 0 Q (F0 m (pc + 3) ls (.int r :: rest))) : W p l e R s m args below meth c H locs 0 0 Q (F0 m pc ls st) := by
  refine va_calli (va_runS F hM cw ⟨gO_blind, hw.pre _⟩ rfl hn hz hst (lv_room hr) hdg ⟨Nat.zero_le _, Nat.zero_le _⟩) hw.2.2.2.1 (fun _ _ h => h) (fun _ h => h) (fun r1 u t H1 locs1 ht hv hp hB _ _ hS => ?_)
  subst hp
  exact kk H1 locs1 (gW.post (u := s) hw ht hv hB hS)
theorem g_sL {r : Int64} (F : CallFix p m c cc nL s args Ts own) (hM : gL l D ty A y w rm As w0 r w1) (cw : CallB R s args own index y bytes maxL ret w rm 0 0 n ∧ (Cond.static y).before args s = true) (hw : gW D ty A w0 s s.heap H locs) (hn : As.length = n) (hz : ls.size = nL) (hst : st = As.reverse ++ rest) (hr : (rest.map fun v => v.category).sum ≤ 8) (hdg : decode cc pc = .ok (.invokestatic index, 3))
    (kk : ∀ (H1 : Heap) (locs1 : List Loc), gW D ty A w1 s s.heap H1 locs1 → W p l e R s m args below meth c H1 locs1 0 0 Q (F0 m (pc + 3) ls (.long r :: rest))) : W p l e R s m args below meth c H locs 0 0 Q (F0 m pc ls st) := by
  refine va_calll (va_runS F hM cw ⟨gO_blind, hw.pre _⟩ rfl hn hz hst (lv_room hr) hdg ⟨Nat.zero_le _, Nat.zero_le _⟩) hw.2.2.2.1 (fun _ _ h => h) (fun _ h => h) (fun r1 u t H1 locs1 ht hv hp hB _ _ hS => ?_)
  subst hp
  exact kk H1 locs1 (gW.post (u := s) hw ht hv hB hS)
theorem g_sV (F : CallFix p m c cc nL s args Ts own) (hM : gV l D ty A y w rm As w0 w1) (cw : CallB R s args own index y bytes maxL ret w rm 0 0 n ∧ (Cond.static y).before args s = true) (hw : gW D ty A w0 s s.heap H locs) (hn : As.length = n) (hz : ls.size = nL) (hst : st = As.reverse ++ rest) (hr : (rest.map fun v => v.category).sum ≤ 8) (hdg : decode cc pc = .ok (.invokestatic index, 3))
    (kk : ∀ (H1 : Heap) (locs1 : List Loc), gW D ty A w1 s s.heap H1 locs1 → W p l e R s m args below meth c H1 locs1 0 0 Q (F0 m (pc + 3) ls rest)) : W p l e R s m args below meth c H locs 0 0 Q (F0 m pc ls st) := by
  refine va_callv (va_runS F hM cw ⟨gO_blind, hw.pre _⟩ rfl hn hz hst (lv_room hr) hdg ⟨Nat.zero_le _, Nat.zero_le _⟩) hw.2.2.2.1 (fun _ _ h => h) (fun _ h => h) (fun u t H1 locs1 ht hv hp hB _ _ hS => ?_)
  exact kk H1 locs1 (gW.post (u := s) hw ht hv hB hS)
end GCALL
