/-! my kit, third: worlds turned about, cells that are made, constructors -/
theorem va_D_pw {A : Nat → Prop} {ws : va_W} : va_D A ws ↔ ws.Pairwise (fun p q => p.1 ≠ q.1) ∧ ∀ q ∈ ws, A q.1 := by
  constructor
  · intro h
    refine ⟨List.pairwise_iff_getElem.mpr (fun i j hi hj hij he => ?_), fun q hq => ?_⟩
    · have := h.1 i j _ _ (List.getElem?_eq_getElem hi) (List.getElem?_eq_getElem hj) he
      omega
    · obtain ⟨k, hk⟩ := List.getElem?_of_mem hq
      exact h.2 k q hk
  · intro h
    refine ⟨fun i j p q hi hj he => ?_, fun k q hk => h.2 q (List.mem_of_getElem? hk)⟩
    obtain ⟨hi', hi2⟩ := List.getElem?_eq_some_iff.mp hi
    obtain ⟨hj', hj2⟩ := List.getElem?_eq_some_iff.mp hj
    have hp := List.pairwise_iff_getElem.mp h.1
    rcases Nat.lt_trichotomy i j with hlt | heq | hgt
    · exact absurd (by rw [hi2, hj2]; exact he) (hp i j hi' hj' hlt)
    · exact heq
    · exact absurd (by rw [hi2, hj2]; exact he.symm) (hp j i hj' hi' hgt)
section GPERM
variable {D : va_G} {ty : gT} {A : Nat → Prop} {a b : va_W} {x : Nat × va_E} {s : State} {H0 H : Heap} {locs : List Loc}
theorem gW.mems (h : ∀ q ∈ b, q ∈ a) (hd : b.Pairwise (fun p q => p.1 ≠ q.1)) (hw : gW D ty A a s H0 H locs) : gW D ty A b s H0 H locs := by
  refine ⟨fun k q hk => ?_, hw.2.1, va_D_pw.mpr ⟨hd, fun q hq => (va_D_pw.mp hw.2.2.1).2 q (h q hq)⟩, hw.2.2.2⟩
  obtain ⟨j, hj⟩ := List.getElem?_of_mem (h q (List.mem_of_getElem? hk))
  exact hw.1 j q hj
theorem gW.perm (h : a.Perm b) (hw : gW D ty A a s H0 H locs) : gW D ty A b s H0 H locs :=
  gW.mems (fun _ hq => h.mem_iff.mpr hq) ((h.pairwise_iff (fun hxy => Ne.symm hxy)).mp (va_D_pw.mp hw.2.2.1).1) hw
theorem gW.tail (hw : gW D ty A (x :: a) s H0 H locs) : gW D ty A a s H0 H locs :=
  gW.mems (fun _ hq => List.mem_cons_of_mem _ hq) (List.pairwise_cons.mp (va_D_pw.mp hw.2.2.1).1).2 hw
theorem gW.drop (hw : gW D ty A (a ++ b) s H0 H locs) : gW D ty A b s H0 H locs :=
  gW.mems (fun _ hq => List.mem_append_right _ hq) (List.pairwise_append.mp (va_D_pw.mp hw.2.2.1).1).2.1 hw
theorem gW.take (hw : gW D ty A (a ++ b) s H0 H locs) : gW D ty A a s H0 H locs :=
  gW.mems (fun _ hq => List.mem_append_left _ hq) (List.pairwise_append.mp (va_D_pw.mp hw.2.2.1).1).1 hw
end GPERM
/-- a method that makes cells: what its world may be behind it -/
def gM (l : Launch) (D : va_G) (ty : gT) (A : Nat → Prop) (y : MethodName) (w : List Cond) (rm : Room) (av : List Value) (w0 : va_W) (post : va_W → Prop) (mc ms : Nat) : Prop :=
  Met l y w rm (va_Pc av (gO D ty A w0)) (va_Qv (S := va_W) post (fun u t => gO D ty A u t) A) mc ms A
/-- .. and that answers one of them, or a number -/
def gR (l : Launch) (D : va_G) (ty : gT) (A : Nat → Prop) (y : MethodName) (w : List Cond) (rm : Room) (av : List Value) (w0 : va_W) (post : va_W → Nat → Prop) (mc ms : Nat) : Prop :=
  Met l y w rm (va_Pc av (gO D ty A w0)) (va_Qr (S := va_W) (fun _ => True) (fun u a t => gO D ty A u t ∧ post u a) A) mc ms A
def gJ (l : Launch) (D : va_G) (ty : gT) (A : Nat → Prop) (y : MethodName) (w : List Cond) (rm : Room) (av : List Value) (w0 : va_W) (post : Int32 → va_W → Prop) (mc ms : Nat) : Prop :=
  Met l y w rm (va_Pc av (gO D ty A w0)) (va_Qi (S := va_W) post (fun u t => gO D ty A u t) A) mc ms A
section GENT3
variable {l : Launch} {D : va_G} {ty : gT} {A : Nat → Prop} {y : MethodName} {w w' : List Cond} {rm : Room} {av : List Value} {w0 : va_W} {cc : ByteArray} {maxL mc ms : Nat}
theorem gM_enter {post : va_W → Prop} (hy : plainName y.cls = true) (hw : w = Cond.code y cc maxL none :: w') (hn : (lg_sl av).length ≤ maxL)
    (body : ∀ (p : Program) (e : Env) (s : State) (m : MethodId) (args : Array Value) (below : List Frame) (meth : Method) (c : Code) (Q : State → Prop) (ls : Array Slot), meth.name = y.name → CallFix p m c cc maxL s args w y.cls → lv_has ls maxL (lv_args 0 av) → gW D ty A w0 s s.heap s.heap [] →
      (∀ (u : va_W) (H : Heap) (locs : List Loc) (ls : Array Slot) (pc : Nat), post u → gW D ty A u s s.heap H locs → decode cc pc = .ok (.return_, 1) → W p l e rm s m args below meth c H locs mc ms Q (F0 m pc ls [])) → W p l e rm s m args below meth c s.heap [] 0 0 Q (F0 m 0 ls [])) : gM l D ty A y w rm av w0 post mc ms := by
  refine Met.ofW (cc := cc) (maxL := maxL) (ret := none) hy hw ?_
  intro p e s m args below meth c s₁ B hml hv
  obtain ⟨rfl, hO⟩ := hv
  rw [lg_entry_eq]
  exact body p e s m _ below meth c _ _ (name_of_methodNamed B.named B.method).1 ⟨B.exec, B.bytes, hml, findClass_of_methodNamed B.named, atoms_spec (ws := w) B.pre⟩ (lv_entry av hn) (gW.of hO)
    (fun u H locs ls pc hu hW hd => W.vret B.exec B.bytes B.returns (fun t ht hWm => ⟨⟨u, rfl, hu, hW.to ht hWm⟩, hW.2.2.2.1.F ht⟩) hW.2.2.2.1.2.2 hd B.notSynchronized)
theorem gR_enter {C : String} {post : va_W → Nat → Prop} (hy : plainName y.cls = true) (hw : w = Cond.code y cc maxL (some (.object C)) :: w') (hn : (lg_sl av).length ≤ maxL)
    (body : ∀ (p : Program) (e : Env) (s : State) (m : MethodId) (args : Array Value) (below : List Frame) (meth : Method) (c : Code) (Q : State → Prop) (ls : Array Slot), CallFix p m c cc maxL s args w y.cls → lv_has ls maxL (lv_args 0 av) → gW D ty A w0 s s.heap s.heap [] →
      (∀ (u : va_W) (a : Nat) (H : Heap) (locs : List Loc) (ls : Array Slot) (pc : Nat), post u a → gW D ty A u s s.heap H locs → decode cc pc = .ok (.areturn, 1) → W p l e rm s m args below meth c H locs mc ms Q (F0 m pc ls [.ref a])) → W p l e rm s m args below meth c s.heap [] 0 0 Q (F0 m 0 ls [])) : gR l D ty A y w rm av w0 post mc ms := by
  refine Met.ofW (cc := cc) (maxL := maxL) (ret := some (.object C)) hy hw ?_
  intro p e s m args below meth c s₁ B hml hv
  obtain ⟨rfl, hO⟩ := hv
  rw [lg_entry_eq]
  exact body p e s m _ below meth c _ _ ⟨B.exec, B.bytes, hml, findClass_of_methodNamed B.named, atoms_spec (ws := w) B.pre⟩ (lv_entry av hn) (gW.of hO)
    (fun u a H locs ls pc hu hW hd => W.aret B.exec B.bytes B.returns (Or.inl ⟨_, rfl⟩) (Or.inr ⟨a, rfl⟩) (fun t ht hWm => ⟨⟨u, a, rfl, trivial, hW.to ht hWm, hu⟩, hW.2.2.2.1.F ht⟩) hW.2.2.2.1.2.2 hd B.notSynchronized)
theorem gJ_enter {post : Int32 → va_W → Prop} (hy : plainName y.cls = true) (hw : w = Cond.code y cc maxL (some .int) :: w') (hn : (lg_sl av).length ≤ maxL)
    (body : ∀ (p : Program) (e : Env) (s : State) (m : MethodId) (args : Array Value) (below : List Frame) (meth : Method) (c : Code) (Q : State → Prop) (ls : Array Slot), CallFix p m c cc maxL s args w y.cls → lv_has ls maxL (lv_args 0 av) → gW D ty A w0 s s.heap s.heap [] →
      (∀ (v : Int32) (u : va_W) (H : Heap) (locs : List Loc) (ls : Array Slot) (pc cells slots : Nat), cells ≤ mc → slots ≤ ms → post v u → gW D ty A u s s.heap H locs → decode cc pc = .ok (.ireturn, 1) → W p l e rm s m args below meth c H locs cells slots Q (F0 m pc ls [.int v])) → W p l e rm s m args below meth c s.heap [] 0 0 Q (F0 m 0 ls [])) : gJ l D ty A y w rm av w0 post mc ms := by
  refine Met.ofW (cc := cc) (maxL := maxL) (ret := some .int) hy hw ?_
  intro p e s m args below meth c s₁ B hml hv
  obtain ⟨rfl, hO⟩ := hv
  rw [lg_entry_eq]
  exact body p e s m _ below meth c _ _ ⟨B.exec, B.bytes, hml, findClass_of_methodNamed B.named, atoms_spec (ws := w) B.pre⟩ (lv_entry av hn) (gW.of hO)
    (fun v u H locs ls pc cells slots h1 h2 hu hW hd => W.widen h1 h2 (W.iret B.exec B.bytes B.returns (fun t ht hWm => ⟨⟨v, u, rfl, hu, hW.to ht hWm⟩, hW.2.2.2.1.F ht⟩) hW.2.2.2.1.2.2 hd B.notSynchronized))
end GENT3
section GNEW
variable {p : Program} {l : Launch} {e : Env} {R : Room} {s : State} {m : MethodId} {args : Array Value} {below : List Frame} {meth : Method} {c : Code} {H : Heap} {locs : List Loc} {cells slots : Nat} {Q : State → Prop}
variable {cc : ByteArray} {pc nL : Nat} {ls : Array Slot} {rest st : List Value} {D : va_G} {A : Nat → Prop} {a : Nat} {ty : gT} {ws w0 : va_W} {H0 : Heap} {own C : String} {T : u_T} {N ci index mc ms : Nat} {Ts : List Cond}
theorem g_new (F : CallFix p m c cc nL s args Ts own) (hin : ∀ w ∈ u_ws C T N, w ∈ Ts) (ty0 : Nat → FieldType) (hty : ∀ k, k < N → parseFieldDescriptor (T k).2.2.1 = some (ty0 k)) (hcl : (Cond.classLink own index C).before args s = true) (hinst : (Cond.instantiable C N).before args s = true) (hini : (Cond.initialized C).before args s = true) (hw : gW D ty A ws s H0 H locs) (hc : vwCl[ci]? = some (C, T, N)) {fs : List Value} (hfs : ∀ j, j < N → defaultValue (ty0 j) = vp_V fs j) (h1 : cells + 1 ≤ R.cells) (h2 : slots + N ≤ R.slots) (hdg : decode cc pc = .ok (.new index, 3))
    (kk : ∀ (q : Nat) (H1 : Heap), gW D ty A ((q, .inr (ci, fs)) :: ws) s H0 H1 locs → W p l e R s m args below meth c H1 locs (cells + 1) (slots + N) Q (F0 m (pc + 3) ls (.ref q :: rest))) : W p l e R s m args below meth c H locs cells slots Q (F0 m pc ls rest) :=
  va_new F.1 F.2.1 F.2.2.2.2 hin ty0 hty F.2.2.2.1 hcl hinst hini hw.2.1 hw.1 hw.2.2.1 hw.2.2.2.1 hw.2.2.2.2.1 hc hfs h1 h2 hdg (fun q H1 a1 a2 a3 => kk q H1 (gW.perm List.perm_append_comm ⟨a1, hw.2.1, a2, a3, hw.2.2.2.2⟩))
theorem g_newa (F : CallFix p m c cc nL s args Ts own) (harr : (Cond.arrayClass .int).before args s = true) (hw : gW D ty A ws s H0 H locs) {n : Int32} {N' : Nat} (hn : ¬ n < 0) (hN : n.toNatClampNeg = N') (hbt : N' * componentBytes .int ≤ 536870912) (h1 : cells + 1 ≤ R.cells) (h2 : slots + N' ≤ R.slots) (hdg : decode cc pc = .ok (.newarray .int, 2))
    (kk : ∀ (q : Nat) (H1 : Heap), gW D ty A ((q, .inl (ty 0, N', .inl (fun _ => 0))) :: ws) s H0 H1 locs → W p l e R s m args below meth c H1 locs (cells + 1) (slots + N') Q (F0 m (pc + 2) ls (.ref q :: rest))) : W p l e R s m args below meth c H locs cells slots Q (F0 m pc ls (.int n :: rest)) := by
  refine va_newa (atype := .int) (N' := N') (a0 := (N', .inl (fun _ => 0))) F.1 F.2.1 harr (ty := .int) rfl hw.2.1 hw.1 hw.2.2.1 hw.2.2.2.1 hw.2.2.2.2.1 (fun _ => rfl) hn hN hbt h1 h2 hdg (fun q cA H1 a0 a1 a2 a3 => ?_)
  have e1 := (a0.2 4 (cA, .int) rfl).2
  have e2 := (hw.2.1.2 0 (ty 0, .int) rfl).2
  have e3 : cA = ty 0 := Option.some.inj (Eq.trans (Eq.symm e1) e2)
  subst e3
  exact kk q H1 (gW.perm List.perm_append_comm ⟨a1, hw.2.1, a2, a3, hw.2.2.2.2⟩)
theorem g_newq (F : CallFix p m c cc nL s args Ts own) (hcl : (Cond.classLink own index C).before args s = true) (hov : va_AO C s) (hw : gW D ty A ws s H0 H locs) {t : Nat} (ht : (gtys ty)[t]? = some (ty t, .object C)) {n : Int32} {N' : Nat} (hn : ¬ n < 0) (hN : n.toNatClampNeg = N') (hbt : N' * 4 ≤ 536870912) (h1 : cells + 1 ≤ R.cells) (h2 : slots + N' ≤ R.slots) (hdg : decode cc pc = .ok (.anewarray index, 3))
    (kk : ∀ (q : Nat) (H1 : Heap), gW D ty A ((q, .inl (ty t, N', .inr (.inr (.inr (.inr (fun _ => none)))))) :: ws) s H0 H1 locs → W p l e R s m args below meth c H1 locs (cells + 1) (slots + N') Q (F0 m (pc + 3) ls (.ref q :: rest))) : W p l e R s m args below meth c H locs cells slots Q (F0 m pc ls (.int n :: rest)) := by
  refine va_newq F.1 F.2.1 F.2.2.2.1 hcl hov hw.2.1 hw.1 hw.2.2.1 hw.2.2.2.1 hw.2.2.2.2.1 hn hN hbt h1 h2 hdg (fun q cA H1 a0 a1 a2 a3 => ?_)
  obtain ⟨_, _, _, _, _, e1⟩ := (a0.2 4 (cA, .object C) rfl).2
  obtain ⟨_, _, _, _, _, e2⟩ := (hw.2.1.2 t _ ht).2
  cases Option.some.inj (e1.symm.trans e2)
  exact kk q H1 (gW.perm List.perm_append_comm ⟨a1, hw.2.1, a2, a3, hw.2.2.2.2⟩)
theorem g_putv (F : CallFix p m c cc nL s args Ts own) (hin : ∀ w ∈ u_ws C T N, w ∈ Ts) (ty0 : Nat → FieldType) (hty : ∀ k, k < N → parseFieldDescriptor (T k).2.2.1 = some (ty0 k)) (hnm : ∀ a, a < N → ∀ b, b < N → a ≠ b → (T a).2.1 ≠ (T b).2.1) (hw : gW D ty A ws s H0 H locs) (q0 : Nat) {fs : List Value} (he : ws[q0]? = some (a, .inr (ci, fs))) (hc : vwCl[ci]? = some (C, T, N)) (k : Nat) (hk : k < N) (hlink : (Cond.fieldLink own index (T k).1 (T k).2.1 (T k).2.2.1).before args s = true) (hfin : (T k).2.2.2 = false) {fy : FieldType} {v : Value} (hd : parseFieldDescriptor (T k).2.2.1 = some fy) (hn : narrow fy v = v) (hfit : fits fy v = true) (hl : k < fs.length) {ws1 : va_W} (hs : ws.set q0 (a, .inr (ci, fs.set k v)) = ws1)
    (hdg : decode cc pc = .ok (.putfield index, 3)) (kk : ∀ (H1 : Heap) (locs1 : List Loc), gW D ty A ws1 s H0 H1 locs1 → W p l e R s m args below meth c H1 locs1 cells slots Q (F0 m (pc + 3) ls rest)) : W p l e R s m args below meth c H locs cells slots Q (F0 m pc ls (v :: .ref a :: rest)) := by
  subst hs
  exact va_put F.1 F.2.1 F.2.2.2.2 hin ty0 hty hnm F.2.2.2.1 hw.2.1 hw.1 hw.2.2.1 hw.2.2.2.1 q0 he hc k hk hlink (fun _ h => h) hfin hd hn hfit hl hdg (fun H1 locs1 h1 h2 h3 => kk H1 locs1 ⟨h1, hw.2.1, h2, h3, hw.2.2.2.2⟩)
theorem g_putF (F : CallFix p m c cc nL s args Ts own) (hin : ∀ w ∈ u_ws C T N, w ∈ Ts) (ty0 : Nat → FieldType) (hty : ∀ k, k < N → parseFieldDescriptor (T k).2.2.1 = some (ty0 k)) (hnm : ∀ a, a < N → ∀ b, b < N → a ≠ b → (T a).2.1 ≠ (T b).2.1) (hin2 : meth.name = "<init>") (hw : gW D ty A ws s H0 H locs) (q0 : Nat) {fs : List Value} (he : ws[q0]? = some (a, .inr (ci, fs))) (hc : vwCl[ci]? = some (C, T, N)) (k : Nat) (hk : k < N) (hlink : (Cond.fieldLink own index (T k).1 (T k).2.1 (T k).2.2.1).before args s = true) (hfin : (T k).2.2.2 = true) (hdecl : (T k).1 = own) {fy : FieldType} {v : Value} (hd : parseFieldDescriptor (T k).2.2.1 = some fy) (hn : narrow fy v = v) (hfit : fits fy v = true) (hl : k < fs.length) {ws1 : va_W} (hs : ws.set q0 (a, .inr (ci, fs.set k v)) = ws1)
    (hdg : decode cc pc = .ok (.putfield index, 3)) (kk : ∀ (H1 : Heap) (locs1 : List Loc), gW D ty A ws1 s H0 H1 locs1 → W p l e R s m args below meth c H1 locs1 cells slots Q (F0 m (pc + 3) ls rest)) : W p l e R s m args below meth c H locs cells slots Q (F0 m pc ls (v :: .ref a :: rest)) := by
  subst hs
  exact va_putF F.1 F.2.1 F.2.2.2.2 hin ty0 hty hnm F.2.2.2.1 hw.2.1 hw.1 hw.2.2.1 hw.2.2.2.1 q0 he hc k hk hlink (fun _ h => h) hfin hin2 hdecl hd hn hfit hl hdg (fun H1 locs1 h1 h2 h3 => kk H1 locs1 ⟨h1, hw.2.1, h2, h3, hw.2.2.2.2⟩)
theorem g_astq {q0 qk cj t n v : Nat} {r : vw_C} {vs : List Value} {f : Nat → Option Nat} (F : CallFix p m c cc nL s args Ts own) (hw : gW D ty A ws s H0 H locs) (ha : ws[q0]? = some (a, .inl (ty t, n, .inr (.inr (.inr (.inr f)))))) (ht : (gtys ty)[t]? = some (ty t, .object r.1)) (hv : ws[qk]? = some (v, .inr (cj, vs))) (hc : vwCl[cj]? = some r) {i : Int32} (hi : gin i n = true) {ws1 : va_W} (hs : ws.set q0 (a, .inl (ty t, n, .inr (.inr (.inr (.inr (va_up f i.toNatClampNeg (some v))))))) = ws1) (hdg : decode cc pc = .ok (.aastore, 1))
    (kk : ∀ (H1 : Heap) (locs1 : List Loc), gW D ty A ws1 s H0 H1 locs1 → W p l e R s m args below meth c H1 locs1 cells slots Q (F0 m (pc + 1) ls rest)) : W p l e R s m args below meth c H locs cells slots Q (F0 m pc ls (.ref v :: .int i :: .ref a :: rest)) := by
  subst hs
  exact va_astq F.1 F.2.1 hw.2.1 hw.1 hw.2.2.1 hw.2.2.2.1 q0 t qk cj ha ht hv hc (gin_vp hi) hdg (fun H1 locs1 h1 h2 h3 => kk H1 locs1 ⟨h1, hw.2.1, h2, h3, hw.2.2.2.2⟩)
theorem g_astqO {q0 qk cj t n v : Nat} {r : vw_C} {E : String} {vs : List Value} {f : Nat → Option Nat} (F : CallFix p m c cc nL s args Ts own) (hw : gW D ty A ws s H0 H locs) (ha : ws[q0]? = some (a, .inl (ty t, n, .inr (.inr (.inr (.inr f)))))) (ht : (gtys ty)[t]? = some (ty t, .object E)) (hca : va_Nw (.castable r.1 E) s) (hv : ws[qk]? = some (v, .inr (cj, vs))) (hc : vwCl[cj]? = some r) {i : Int32} (hi : gin i n = true) {ws1 : va_W} (hs : ws.set q0 (a, .inl (ty t, n, .inr (.inr (.inr (.inr (va_up f i.toNatClampNeg (some v))))))) = ws1) (hdg : decode cc pc = .ok (.aastore, 1))
    (kk : ∀ (H1 : Heap) (locs1 : List Loc), gW D ty A ws1 s H0 H1 locs1 → W p l e R s m args below meth c H1 locs1 cells slots Q (F0 m (pc + 1) ls rest)) : W p l e R s m args below meth c H locs cells slots Q (F0 m pc ls (.ref v :: .int i :: .ref a :: rest)) := by
  subst hs
  exact va_astqO F.1 F.2.1 hw.2.1 hw.1 hw.2.2.1 hw.2.2.2.1 q0 t qk cj ha ht hca hv hc (gin_vp hi) hdg (fun H1 locs1 h1 h2 h3 => kk H1 locs1 ⟨h1, hw.2.1, h2, h3, hw.2.2.2.2⟩)
theorem g_mC {post : va_W → Prop} {av : Array Value} (hr : va_Run p l e R s m args below meth c H locs cells slots mc ms (F0 m pc ls st) rest (va_Qv (S := va_W) post (fun u t => gO D ty A u t) A av) A) (hw : gW D ty A w0 s s.heap H locs)
    (kk : ∀ (u : va_W) (H1 : Heap) (locs1 : List Loc), post u → gW D ty A u s s.heap H1 locs1 → W p l e R s m args below meth c H1 locs1 (cells + mc) (slots + ms) Q (F0 m (pc + 3) ls rest)) : W p l e R s m args below meth c H locs cells slots Q (F0 m pc ls st) :=
  va_callv hr hw.2.2.2.1 (fun _ _ h => h) (fun _ h => h) (fun u t H1 locs1 ht hv hp hB _ _ hS => kk u H1 locs1 hp (gW.post (u := s) hw ht hv hB hS))
theorem g_rC {post : va_W → Nat → Prop} {av : Array Value} (hr : va_Run p l e R s m args below meth c H locs cells slots mc ms (F0 m pc ls st) rest (va_Qr (S := va_W) (fun _ => True) (fun u a t => gO D ty A u t ∧ post u a) A av) A) (hw : gW D ty A w0 s s.heap H locs)
    (kk : ∀ (u : va_W) (a : Nat) (H1 : Heap) (locs1 : List Loc), post u a → gW D ty A u s s.heap H1 locs1 → W p l e R s m args below meth c H1 locs1 (cells + mc) (slots + ms) Q (F0 m (pc + 3) ls (.ref a :: rest))) : W p l e R s m args below meth c H locs cells slots Q (F0 m pc ls st) :=
  va_callr hr hw.2.2.2.1 (fun _ _ h => h) (fun _ h => h) (fun u a t H1 locs1 ht hv hp hB _ _ hS => kk u a H1 locs1 hB.2 (gW.post (u := s) hw ht hv hB.1 hS))
theorem g_jC {post : Int32 → va_W → Prop} {av : Array Value} (hr : va_Run p l e R s m args below meth c H locs cells slots mc ms (F0 m pc ls st) rest (va_Qi (S := va_W) post (fun u t => gO D ty A u t) A av) A) (hw : gW D ty A w0 s s.heap H locs)
    (kk : ∀ (r : Int32) (u : va_W) (H1 : Heap) (locs1 : List Loc), post r u → gW D ty A u s s.heap H1 locs1 → W p l e R s m args below meth c H1 locs1 (cells + mc) (slots + ms) Q (F0 m (pc + 3) ls (.int r :: rest))) : W p l e R s m args below meth c H locs cells slots Q (F0 m pc ls st) :=
  va_calli hr hw.2.2.2.1 (fun _ _ h => h) (fun _ h => h) (fun r u t H1 locs1 ht hv hp hB _ _ hS => kk r u H1 locs1 hp (gW.post (u := s) hw ht hv hB hS))
theorem g_cVc {n maxL : Nat} {y : MethodName} {w : List Cond} {rm : Room} {bytes : ByteArray} {ret : Option FieldType} {b : Nat} {As : List Value} {w1 : va_W} (F : CallFix p m c cc nL s args Ts own) (hM : gV l D ty A y w rm (.ref b :: As) w0 w1) (cw : CallW R s args own C index y bytes maxL ret w rm 0 0 n) (hw : gW D ty A w0 s s.heap H locs) (hrc : ∃ cell : Cell, H[b]? = some cell ∧ cell.vm.isStatics = false ∧ s.vm.findClass C = some cell.cls) (hn : As.length = n) (hz : ls.size = nL) (hst : st = As.reverse ++ .ref b :: rest) (hr : (rest.map fun v => v.category).sum ≤ 8) (hdg : decode cc pc = .ok (.invokevirtual index, 3)) (h1 : cells ≤ R.cells) (h2 : slots ≤ R.slots)
    (kk : ∀ (H1 : Heap) (locs1 : List Loc), gW D ty A w1 s s.heap H1 locs1 → W p l e R s m args below meth c H1 locs1 cells slots Q (F0 m (pc + 3) ls rest)) : W p l e R s m args below meth c H locs cells slots Q (F0 m pc ls st) :=
  va_callv (va_runV F hM cw ⟨gO_blind, hrc, hw.pre _⟩ rfl hn hz hst (lv_room hr) hdg ⟨h1, h2⟩) hw.2.2.2.1 (fun _ _ h => h) (fun _ h => h) (fun u t H1 locs1 ht hv hp hB _ _ hS => kk H1 locs1 (gW.post (u := s) hw ht hv hB hS))
theorem g_cIc {n maxL : Nat} {y : MethodName} {w : List Cond} {rm : Room} {bytes : ByteArray} {ret : Option FieldType} {b : Nat} {As : List Value} {w1 : va_W} {r : Int32} (F : CallFix p m c cc nL s args Ts own) (hM : gI l D ty A y w rm (.ref b :: As) w0 r w1) (cw : CallW R s args own C index y bytes maxL ret w rm 0 0 n) (hw : gW D ty A w0 s s.heap H locs) (hrc : ∃ cell : Cell, H[b]? = some cell ∧ cell.vm.isStatics = false ∧ s.vm.findClass C = some cell.cls) (hn : As.length = n) (hz : ls.size = nL) (hst : st = As.reverse ++ .ref b :: rest) (hr : (rest.map fun v => v.category).sum ≤ 8) (hdg : decode cc pc = .ok (.invokevirtual index, 3)) (h1 : cells ≤ R.cells) (h2 : slots ≤ R.slots)
    (kk : ∀ (H1 : Heap) (locs1 : List Loc), gW D ty A w1 s s.heap H1 locs1 → W p l e R s m args below meth c H1 locs1 cells slots Q (F0 m (pc + 3) ls (.int r :: rest))) : W p l e R s m args below meth c H locs cells slots Q (F0 m pc ls st) :=
  va_calli (va_runV F hM cw ⟨gO_blind, hrc, hw.pre _⟩ rfl hn hz hst (lv_room hr) hdg ⟨h1, h2⟩) hw.2.2.2.1 (fun _ _ h => h) (fun _ h => h) (fun r1 u t H1 locs1 ht hv hp hB _ _ hS => by subst hp; exact kk H1 locs1 (gW.post (u := s) hw ht hv hB hS))
theorem g_cLc {n maxL : Nat} {y : MethodName} {w : List Cond} {rm : Room} {bytes : ByteArray} {ret : Option FieldType} {b : Nat} {As : List Value} {w1 : va_W} {r : Int64} (F : CallFix p m c cc nL s args Ts own) (hM : gL l D ty A y w rm (.ref b :: As) w0 r w1) (cw : CallW R s args own C index y bytes maxL ret w rm 0 0 n) (hw : gW D ty A w0 s s.heap H locs) (hrc : ∃ cell : Cell, H[b]? = some cell ∧ cell.vm.isStatics = false ∧ s.vm.findClass C = some cell.cls) (hn : As.length = n) (hz : ls.size = nL) (hst : st = As.reverse ++ .ref b :: rest) (hr : (rest.map fun v => v.category).sum ≤ 8) (hdg : decode cc pc = .ok (.invokevirtual index, 3)) (h1 : cells ≤ R.cells) (h2 : slots ≤ R.slots)
    (kk : ∀ (H1 : Heap) (locs1 : List Loc), gW D ty A w1 s s.heap H1 locs1 → W p l e R s m args below meth c H1 locs1 cells slots Q (F0 m (pc + 3) ls (.long r :: rest))) : W p l e R s m args below meth c H locs cells slots Q (F0 m pc ls st) :=
  va_calll (va_runV F hM cw ⟨gO_blind, hrc, hw.pre _⟩ rfl hn hz hst (lv_room hr) hdg ⟨h1, h2⟩) hw.2.2.2.1 (fun _ _ h => h) (fun _ h => h) (fun r1 u t H1 locs1 ht hv hp hB _ _ hS => by subst hp; exact kk H1 locs1 (gW.post (u := s) hw ht hv hB hS))
end GNEW
