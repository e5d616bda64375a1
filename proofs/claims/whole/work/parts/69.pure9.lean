/-! routes: bundles of the class, spots of the reference -/
def uN (f : Nat → Nat) (k x : Nat) : Nat → Nat := fun j => if j = k then x else f j
theorem uN_s {f : Nat → Nat} {k x : Nat} : uN f k x k = x := if_pos rfl
theorem uN_n {f : Nat → Nat} {k x j : Nat} (h : j ≠ k) : uN f k x j = f j := if_neg h
def sp (s g d : Nat) : Nat := (5 * s + g) * 8 + d
theorem sp_inj {s g d s' g' d' : Nat} (hg : g < 5) (hd : d ≤ 7) (hg' : g' < 5) (hd' : d' ≤ 7) (h : sp s g d = sp s' g' d') : s = s' ∧ g = g' ∧ d = d' := by
  unfold sp at h
  omega
/-- the class's route: how many passages of each story, its latest day, what goes together, the bundles -/
def CI (σ : gS) (m : Nat) (cn ld T bs bg bd : Nat → Nat) : Prop := σ.1 3 = nI m ∧ (∀ i, i < m → σ.2 9 i = nI (bs i) ∧ σ.2 10 i = nI (bg i) ∧ σ.2 11 i = nI (bd i) ∧ σ.2 12 i = nI (T (sp (bs i) (bg i) (bd i)))) ∧ ∀ s, s < 4 → σ.2 13 s = nI (cn s) ∧ σ.2 14 s = nI (ld s)
def NI (G S : Nat) (v : gV0) (m j : Nat) (cn ld T bs bg bd : Nat → Nat) : Prop := m ≤ j ∧ (∀ q, T q < 8) ∧ (∀ s, cn s ≤ 3 ∧ ld s ≤ 7 ∧ (cn s = 0 → ld s = 0)) ∧ (∀ i, i < m → bs i < S ∧ bg i < G ∧ bd i ≤ 7 ∧ v 5 (bs i) ≤ bd i) ∧ (∀ i i', i < m → i' < m → bs i = bs i' → bg i = bg i' → bd i = bd i' → i = i') ∧ ∀ s g d, s < S → g < G → d ≤ 7 → T (sp s g d) ≠ 0 → ∃ i, i < m ∧ bs i = s ∧ bg i = g ∧ bd i = d
def MI (σ : gS) (cn ld T : Nat → Nat) : Prop := (∀ q, q < 160 → σ.2 24 q = nI (T q)) ∧ ∀ s, s < 4 → σ.2 25 s = nI (cn s) ∧ σ.2 26 s = (if cn s = 0 then (-9) else nI (ld s))
theorem or_bit0 : ∀ T : Fin 8, ∀ c : Fin 3, (nI T.val ||| ((1 : Int32) <<< (nI c.val &&& 31))) = nI (T.val ||| 2 ^ c.val) ∧ (T.val ||| 2 ^ c.val) < 8 ∧ (T.val ||| 2 ^ c.val) ≠ 0 := by decide
theorem or_bit {T c : Nat} (hT : T < 8) (hc : c < 3) : (nI T ||| ((1 : Int32) <<< (nI c &&& 31))) = nI (T ||| 2 ^ c) ∧ (T ||| 2 ^ c) < 8 ∧ (T ||| 2 ^ c) ≠ 0 := or_bit0 ⟨T, hT⟩ ⟨c, hc⟩
def appS (σ : gS) (m s g d : Nat) : gS := sS (sA (sA (sA (sA σ 9 m (nI s)) 10 m (nI g)) 11 m (nI d)) 12 m 0) 3 (nI (m + 1))
theorem bundle_search {G S : Nat} {v : gV0} {σ : gS} {m j s g d : Nat} {cn ld T bs bg bd : Nat → Nat} (hG : G ≤ 5) (hS : S ≤ 4) (hI : CI σ m cn ld T bs bg bd) (hN : NI G S v m j cn ld T bs bg bd) (hm : m < 12) (hs : s < S) (hg : g < G) (hd : d ≤ 7) : ∀ r i n, i + r = m → r < n → (∃ i0, i0 < m ∧ bs i0 = s ∧ bg i0 = g ∧ bd i0 = d ∧ fo_bundleOf_b3 n (nI s) (nI g) (nI d) (nI i) σ = some (nI i0, σ)) ∨ ((∀ i', i ≤ i' → i' < m → ¬ (bs i' = s ∧ bg i' = g ∧ bd i' = d)) ∧ fo_bundleOf_b3 n (nI s) (nI g) (nI d) (nI i) σ = some (nI m, appS σ m s g d)) := by
  intro r
  induction r with
  | zero =>
    intro i n hi hn
    obtain ⟨n, rfl⟩ : ∃ q, n = q + 1 := ⟨n - 1, by omega⟩
    have : i = m := by omega
    subst this
    refine Or.inr ⟨fun i' h1 h2 => by omega, ?_⟩
    unfold fo_bundleOf_b3
    have e : ∀ (τ : gS) (a b : Nat) (x : Int32), (sA τ a b x).1 3 = τ.1 3 := fun _ _ _ _ => rfl
    have a12 : (12 : Int32) = nI 12 := rfl
    have g12 : gin (nI i) 12 = true := gin_of hm (by decide)
    have h12 : nI i < 12 := by rw [a12]; exact nI_lt hm (by decide)
    have hcl : (nI i).toNatClampNeg = i := nI_clamp (by omega)
    simp only [e, hI.1, gLet, if_true, g12, hcl, h12, sS_s, nI_1, nI_pred]
    rw [if_pos (nI_le (by omega) (by omega))]
    rfl
  | succ r ih =>
    intro i n hi hn
    obtain ⟨n, rfl⟩ : ∃ q, n = q + 1 := ⟨n - 1, by omega⟩
    have hb := hN.2.2.2.1 i (by omega)
    have hr := hI.2.1 i (by omega)
    have e1 : (nI (bs i) = nI s) ↔ bs i = s := nI_eq (by omega) (by omega)
    have e2 : (nI (bg i) = nI g) ↔ bg i = g := nI_eq (by omega) (by omega)
    have e3 : (nI (bd i) = nI d) ↔ bd i = d := nI_eq (by omega) (by omega)
    have g12 : gin (nI i) 12 = true := gin_of (by omega) (by decide)
    have hcl : (nI i).toNatClampNeg = i := nI_clamp (by omega)
    unfold fo_bundleOf_b3
    rw [hI.1, if_neg (nI_ge (by omega) (by omega))]
    simp only [g12, hcl, if_true, hr.1, hr.2.1, hr.2.2.1, e1, e2, e3, fo_bundleOf_b48, nI_1]
    by_cases hc : bs i = s ∧ bg i = g ∧ bd i = d
    · refine Or.inl ⟨i, by omega, hc.1, hc.2.1, hc.2.2, ?_⟩
      rw [if_pos hc.1, if_pos hc.2.1, if_pos hc.2.2]
    · have ef : (if bs i = s then if bg i = g then if bd i = d then some (nI i, σ) else fo_bundleOf_b3 n (nI s) (nI g) (nI d) (nI (i + 1)) σ else fo_bundleOf_b3 n (nI s) (nI g) (nI d) (nI (i + 1)) σ else fo_bundleOf_b3 n (nI s) (nI g) (nI d) (nI (i + 1)) σ) = fo_bundleOf_b3 n (nI s) (nI g) (nI d) (nI (i + 1)) σ := by
        by_cases c1 : bs i = s
        · rw [if_pos c1]
          by_cases c2 : bg i = g
          · rw [if_pos c2, if_neg (fun c3 => hc ⟨c1, c2, c3⟩)]
          · rw [if_neg c2]
        · rw [if_neg c1]
      rw [ef]
      rcases ih (i + 1) n (by omega) (by omega) with h | ⟨h1, h2⟩
      · exact Or.inl h
      · refine Or.inr ⟨fun i' q1 q2 => ?_, h2⟩
        by_cases q : i' = i
        · rw [q]; exact hc
        · exact h1 i' (by omega) q2
/-- only the route changes -/
def FK (σ σ' : gS) : Prop := (∀ b, b ≠ 3 → b ≠ 4 → σ'.1 b = σ.1 b) ∧ ∀ b, b < 9 ∨ 15 ≤ b → σ'.2 b = σ.2 b
theorem FK.refl (σ : gS) : FK σ σ := ⟨fun _ _ _ => rfl, fun _ _ => rfl⟩
theorem FK.trans {a b c : gS} (h : FK a b) (k : FK b c) : FK a c := ⟨fun i x y => (k.1 i x y).trans (h.1 i x y), fun i x => (k.2 i x).trans (h.2 i x)⟩
theorem FK.arr (σ : gS) (k i : Nat) (x : Int32) (hk : ¬ (k < 9 ∨ 15 ≤ k)) : FK σ (sA σ k i x) := ⟨fun _ _ _ => rfl, fun b hb => sA_k (fun e => hk (e ▸ hb))⟩
theorem FK.num (σ : gS) (k : Nat) (x : Int32) (hk : k = 3 ∨ k = 4) : FK σ (sS σ k x) := ⟨fun b h3 h4 => sS_k (by omega), fun _ _ => rfl⟩
theorem FK.CK {σ σ' : gS} (h : FK σ σ') (τ : gS) : CK (σ, τ) (σ', τ) := ⟨fun b hb => h.1 b (by omega) (by omega), rfl, fun b hb => h.2 b (by omega)⟩
theorem bundle_get {G S : Nat} {v : gV0} {σ : gS} {m j s g d : Nat} {cn ld T bs bg bd : Nat → Nat} (hG : G ≤ 5) (hS : S ≤ 4) (hI : CI σ m cn ld T bs bg bd) (hN : NI G S v m j cn ld T bs bg bd) (hj : j < 12) (hs : s < S) (hg : g < G) (hd : d ≤ 7) (hbd : v 5 s ≤ d) : ∃ (σ1 : gS) (m1 i1 : Nat) (bs1 bg1 bd1 : Nat → Nat), fo_bundleOf σ (nI s) (nI g) (nI d) = some (nI i1, σ1) ∧ FK σ σ1 ∧ σ1.1 4 = σ.1 4 ∧ CI σ1 m1 cn ld T bs1 bg1 bd1 ∧ NI G S v m1 (j + 1) cn ld T bs1 bg1 bd1 ∧ i1 < m1 ∧ m1 ≤ 12 ∧ bs1 i1 = s ∧ bg1 i1 = g ∧ bd1 i1 = d := by
  have hmj := hN.1
  rcases bundle_search hG hS hI hN (by omega) hs hg hd m 0 1000 (by omega) (by omega) with ⟨i0, h0, c1, c2, c3, h⟩ | ⟨hno, h⟩
  · exact ⟨σ, m, i0, bs, bg, bd, h, FK.refl σ, rfl, hI, ⟨by omega, hN.2⟩, h0, by omega, c1, c2, c3⟩
  · refine ⟨appS σ m s g d, m + 1, m, uN bs m s, uN bg m g, uN bd m d, h, ?_, ?_, ?_, ?_, by omega, by omega, uN_s, uN_s, uN_s⟩
    · exact ((((FK.arr σ 9 _ _ (by decide)).trans (FK.arr _ 10 _ _ (by decide))).trans (FK.arr _ 11 _ _ (by decide))).trans (FK.arr _ 12 _ _ (by decide))).trans (FK.num _ 3 _ (Or.inl rfl))
    · unfold appS
      rw [sS_k (by decide)]; rfl
    · have hT : T (sp s g d) = 0 := by
        refine Classical.byContradiction fun h0 => ?_
        obtain ⟨i, hi, q⟩ := hN.2.2.2.2.2 s g d hs hg hd h0
        exact hno i (by omega) hi q
      refine ⟨sS_s, ?_, ?_⟩
      · intro i hi
        unfold appS
        rw [sS_2]
        by_cases q : i = m
        · subst q
          rw [uN_s, uN_s, uN_s, hT]
          refine ⟨?_, ?_, ?_, ?_⟩
          · rw [sA_k (by decide), sA_k (by decide), sA_k (by decide), sA_s]
          · rw [sA_k (by decide), sA_k (by decide), sA_s]
          · rw [sA_k (by decide), sA_s]
          · rw [sA_s]; rfl
        · rw [uN_n q, uN_n q, uN_n q]
          have hr := hI.2.1 i (by omega)
          refine ⟨?_, ?_, ?_, ?_⟩
          · rw [sA_k (by decide), sA_k (by decide), sA_k (by decide), sA_i q]; exact hr.1
          · rw [sA_k (by decide), sA_k (by decide), sA_i q, sA_k (by decide)]; exact hr.2.1
          · rw [sA_k (by decide), sA_i q, sA_k (by decide), sA_k (by decide)]; exact hr.2.2.1
          · rw [sA_i q, sA_k (by decide), sA_k (by decide), sA_k (by decide)]; exact hr.2.2.2
      · intro t ht
        unfold appS
        rw [sS_2, sA_k (by decide), sA_k (by decide), sA_k (by decide), sA_k (by decide), sA_k (by decide), sA_k (by decide), sA_k (by decide), sA_k (by decide)]
        exact hI.2.2 t ht
    · refine ⟨by omega, hN.2.1, hN.2.2.1, ?_, ?_, ?_⟩
      · intro i hi
        by_cases q : i = m
        · subst q; rw [uN_s, uN_s, uN_s]; exact ⟨hs, hg, hd, hbd⟩
        · rw [uN_n q, uN_n q, uN_n q]; exact hN.2.2.2.1 i (by omega)
      · intro i i' hi hi' e1 e2 e3
        by_cases q : i = m
        · by_cases q' : i' = m
          · omega
          · subst q
            rw [uN_s, uN_n q'] at e1 e2 e3
            exact absurd ⟨e1.symm, e2.symm, e3.symm⟩ (hno i' (by omega) (by omega))
        · by_cases q' : i' = m
          · subst q'
            rw [uN_s, uN_n q] at e1 e2 e3
            exact absurd ⟨e1, e2, e3⟩ (hno i (by omega) (by omega))
          · rw [uN_n q, uN_n q'] at e1 e2 e3
            exact hN.2.2.2.2.1 i i' (by omega) (by omega) e1 e2 e3
      · intro s' g' d' hs' hg' hd' h0
        obtain ⟨i, hi, q⟩ := hN.2.2.2.2.2 s' g' d' hs' hg' hd' h0
        have : i ≠ m := by omega
        exact ⟨i, by omega, by rw [uN_n this, uN_n this, uN_n this]; exact q⟩
def lmax (l d : Nat) : Nat := if l < d then d else l
theorem pass_go {G S : Nat} {v : gV0} {σ : gS} {m j s g d : Nat} {cn ld T bs bg bd : Nat → Nat} (x : Int32) (hG : G ≤ 5) (hS : S ≤ 4) (hI : CI σ m cn ld T bs bg bd) (hN : NI G S v m j cn ld T bs bg bd) (h9 : σ.1 4 = (-9)) (hj : j < 12) (hs : s < S) (hg : g < G) (hd : d ≤ 7) (hbd : v 5 s ≤ d) (hc : cn s < 3) : ∃ (σ' : gS) (m' : Nat) (bs' bg' bd' : Nat → Nat), fo_pass σ x (nI s) (nI g) (nI d) 1 = some ((), σ') ∧ FK σ σ' ∧ σ'.1 4 = (-9) ∧ CI σ' m' (uN cn s (cn s + 1)) (uN ld s (lmax (ld s) d)) (uN T (sp s g d) (T (sp s g d) ||| 2 ^ cn s)) bs' bg' bd' ∧ NI G S v m' (j + 1) (uN cn s (cn s + 1)) (uN ld s (lmax (ld s) d)) (uN T (sp s g d) (T (sp s g d) ||| 2 ^ cn s)) bs' bg' bd' := by
  obtain ⟨σ1, m1, i1, bs1, bg1, bd1, f1, fk, f4, I1, N1, hi1, hm1, c1, c2, c3⟩ := bundle_get hG hS hI hN hj hs hg hd hbd
  have ob := or_bit (hN.2.1 (sp s g d)) hc
  have g4 : gin (nI s) 4 = true := gin_of (by omega) (by decide)
  have hcl : (nI s).toNatClampNeg = s := nI_clamp (by omega)
  have gi : gin (nI i1) 12 = true := gin_of (by omega) (by decide)
  have hci : (nI i1).toNatClampNeg = i1 := nI_clamp (by omega)
  have w03 : wI (nI s) 0 3 = true := wI_nI (b := 3) (by omega) (by decide)
  have a12 : (12 : Int32) = nI 12 := rfl
  have a3 : (3 : Int32) = nI 3 := rfl
  have n12 : ¬ (12 : Int32) ≤ nI i1 := by rw [a12]; exact nI_ge (by omega) (by decide)
  have k3 : nI (cn s) < 3 := by rw [a3]; exact nI_lt hc (by decide)
  have hld := (hN.2.2.1 s).2.1
  have r12 : σ1.2 12 i1 = nI (T (sp s g d)) := by rw [(I1.2.1 i1 hi1).2.2.2, c1, c2, c3]
  have r13 : σ1.2 13 s = nI (cn s) := (I1.2.2 s (by omega)).1
  have r14 : σ1.2 14 s = nI (ld s) := (I1.2.2 s (by omega)).2
  refine ⟨sA (sA (sA σ1 12 i1 (nI (T (sp s g d) ||| 2 ^ cn s))) 13 s (nI (cn s + 1))) 14 s (nI (lmax (ld s) d)), m1, bs1, bg1, bd1, ?_, ?_, ?_, ?_, ?_⟩
  · unfold fo_pass
    rw [if_pos h9, cwithin_eq, w03]
    simp only [gB1_some, if_true, show ¬ (1 : Int32) = 0 by decide, if_false, g4, hcl, (hI.2.2 s (by omega)).1, k3, f1, gB2_some, n12, gi, hci, gLet, fo_pass_b75, r12, r13, ob.1]
    rw [sA_k (k := 12) (b := 13) (by decide), r13, sA_k (k := 13) (b := 14) (by decide), sA_k (k := 12) (b := 14) (by decide), r14, nI_1]
    unfold lmax
    by_cases q : ld s < d
    · rw [if_pos (nI_lt q (by omega)), if_pos q]
    · rw [if_neg (nI_nlt (by omega) (by omega)), if_neg q]
  · exact ((fk.trans (FK.arr _ 12 _ _ (by decide))).trans (FK.arr _ 13 _ _ (by decide))).trans (FK.arr _ 14 _ _ (by decide))
  · exact f4.trans h9
  · refine ⟨I1.1, ?_, ?_⟩
    · intro i hi
      have hr := I1.2.1 i hi
      refine ⟨?_, ?_, ?_, ?_⟩
      · rw [sA_k (by decide), sA_k (by decide), sA_k (by decide)]; exact hr.1
      · rw [sA_k (by decide), sA_k (by decide), sA_k (by decide)]; exact hr.2.1
      · rw [sA_k (by decide), sA_k (by decide), sA_k (by decide)]; exact hr.2.2.1
      · rw [sA_k (by decide), sA_k (by decide)]
        by_cases q : i = i1
        · subst q
          rw [sA_s, c1, c2, c3, uN_s]
        · have nb := N1.2.2.2.1 i hi
          rw [sA_i q, uN_n]
          · exact hr.2.2.2
          · intro e
            obtain ⟨e1, e2, e3⟩ := sp_inj (by omega) nb.2.2.1 (by omega) hd e
            exact q (N1.2.2.2.2.1 i i1 hi hi1 (by rw [e1, c1]) (by rw [e2, c2]) (by rw [e3, c3]))
    · intro t ht
      have hr := I1.2.2 t ht
      by_cases q : t = s
      · subst q
        rw [uN_s, uN_s]
        exact ⟨by rw [sA_k (by decide), sA_s], sA_s⟩
      · rw [uN_n q, uN_n q]
        refine ⟨?_, ?_⟩
        · rw [sA_k (by decide), sA_i q, sA_k (by decide)]; exact hr.1
        · rw [sA_i q, sA_k (by decide), sA_k (by decide)]; exact hr.2
  · refine ⟨N1.1, ?_, ?_, N1.2.2.2.1, N1.2.2.2.2.1, ?_⟩
    · intro q
      by_cases h : q = sp s g d
      · rw [h, uN_s]; exact ob.2.1
      · rw [uN_n h]; exact N1.2.1 q
    · intro t
      by_cases h : t = s
      · subst h
        rw [uN_s, uN_s]
        unfold lmax
        refine ⟨by omega, ?_, fun h => by omega⟩
        by_cases q : ld t < d
        · rw [if_pos q]; exact hd
        · rw [if_neg q]; exact hld
      · rw [uN_n h, uN_n h]; exact N1.2.2.1 t
    · intro s' g' d' hs' hg' hd' h0
      by_cases h : sp s' g' d' = sp s g d
      · obtain ⟨e1, e2, e3⟩ := sp_inj (by omega) hd' (by omega) hd h
        exact ⟨i1, hi1, by rw [c1, e1], by rw [c2, e2], by rw [c3, e3]⟩
      · rw [uN_n h] at h0
        exact N1.2.2.2.2.2 s' g' d' hs' hg' hd' h0
