/-! routes: bundles of the class, spots of the reference -/
def uN (f : Nat → Nat) (k x : Nat) : Nat → Nat := fun j => if j = k then x else f j
theorem uN_s {f : Nat → Nat} {k x : Nat} : uN f k x k = x := if_pos rfl
theorem uN_n {f : Nat → Nat} {k x j : Nat} (h : j ≠ k) : uN f k x j = f j := if_neg h
def sp (s g d : Nat) : Nat := (5 * s + g) * 8 + d
theorem sp_inj {s g d s' g' d' : Nat} (hg : g < 5) (hd : d ≤ 7) (hg' : g' < 5) (hd' : d' ≤ 7) (h : sp s g d = sp s' g' d') : s = s' ∧ g = g' ∧ d = d' := by
  unfold sp at h
  omega
/-- the class's route: how many passages of each story, its latest day, what goes together, the bundles -/
def CI (σ : gS) (m : Nat) (cn ld T bs bg bd : Nat → Nat) : Prop := σ.1 3 = nI m ∧ (∀ i, i < m → σ.2 9 i = nI (bs i) ∧ σ.2 10 i = nI (bg i) ∧ σ.2 11 i = nI (bd i) ∧ σ.2 12 i = nI (T (sp (bs i) (bg i) (bd i)))) ∧ ∀ s, s < 4 → σ.2 13 s = nI (cn s) ∧ σ.2 14 s = nI (ld s)
def NI (G S : Nat) (v : gV0) (m j : Nat) (cn ld T bs bg bd : Nat → Nat) : Prop := m ≤ j ∧ (∀ q, T q < 8) ∧ (∀ s, cn s ≤ 3 ∧ ld s ≤ 7) ∧ (∀ i, i < m → bs i < S ∧ bg i < G ∧ bd i ≤ 7 ∧ v 5 (bs i) ≤ bd i) ∧ (∀ i i', i < m → i' < m → bs i = bs i' → bg i = bg i' → bd i = bd i' → i = i') ∧ ∀ s g d, s < S → g < G → d ≤ 7 → T (sp s g d) ≠ 0 → ∃ i, i < m ∧ bs i = s ∧ bg i = g ∧ bd i = d
def MI (σ : gS) (cn ld T : Nat → Nat) : Prop := (∀ q, q < 160 → σ.2 24 q = nI (T q)) ∧ ∀ s, s < 4 → σ.2 25 s = nI (cn s) ∧ σ.2 26 s = (if cn s = 0 then (-9) else nI (ld s))
theorem or_bit0 : ∀ T : Fin 8, ∀ c : Fin 3, (nI T.val ||| ((1 : Int32) <<< (nI c.val &&& 31))) = nI (T.val ||| 2 ^ c.val) ∧ (T.val ||| 2 ^ c.val) < 8 ∧ (T.val ||| 2 ^ c.val) ≠ 0 := by decide
theorem or_bit {T c : Nat} (hT : T < 8) (hc : c < 3) : (nI T ||| ((1 : Int32) <<< (nI c &&& 31))) = nI (T ||| 2 ^ c) ∧ (T ||| 2 ^ c) < 8 ∧ (T ||| 2 ^ c) ≠ 0 := or_bit0 ⟨T, hT⟩ ⟨c, hc⟩
def appS (σ : gS) (m s g d : Nat) : gS := sS (sA (sA (sA (sA σ 9 m (nI s)) 10 m (nI g)) 11 m (nI d)) 12 m 0) 3 (nI (m + 1))
theorem bundle_search {G S : Nat} {v : gV0} {σ : gS} {m j s g d : Nat} {cn ld T bs bg bd : Nat → Nat} (hG : G ≤ 5) (hS : S ≤ 4) (hI : CI σ m cn ld T bs bg bd) (hN : NI G S v m j cn ld T bs bg bd) (hm : m < 12) (hs : s < S) (hg : g < G) (hd : d ≤ 7) : ∀ r i n, i + r = m → r < n → (∃ i0, i0 < m ∧ bs i0 = s ∧ bg i0 = g ∧ bd i0 = d ∧ fo_bundleOf_b3 n (nI s) (nI g) (nI d) (nI i) σ = some (nI i0, σ)) ∨ ((∀ i', i ≤ i' → i' < m → ¬ (bs i' = s ∧ bg i' = g ∧ bd i' = d)) ∧ fo_bundleOf_b3 n (nI s) (nI g) (nI d) (nI i) σ = some (nI m, appS σ m s g d)) := by
  intro r
  induction r with
  | zero =>
    intro i n hi hn
    obtain ⟨n, rfl⟩ : ∃ q, n = q + 1 := ⟨n - 1, by omega⟩
    have : i = m := by omega
    subst this
    refine Or.inr ⟨fun i' h1 h2 => by omega, ?_⟩
    unfold fo_bundleOf_b3
    have e : ∀ (τ : gS) (a b : Nat) (x : Int32), (sA τ a b x).1 3 = τ.1 3 := fun _ _ _ _ => rfl
    have a12 : (12 : Int32) = nI 12 := rfl
    have g12 : gin (nI i) 12 = true := gin_of hm (by decide)
    have h12 : nI i < 12 := by rw [a12]; exact nI_lt hm (by decide)
    have hcl : (nI i).toNatClampNeg = i := nI_clamp (by omega)
    simp only [e, hI.1, gLet, if_true, g12, hcl, h12, sS_s, nI_1, nI_pred]
    rw [if_pos (nI_le (by omega) (by omega))]
    rfl
  | succ r ih =>
    intro i n hi hn
    obtain ⟨n, rfl⟩ : ∃ q, n = q + 1 := ⟨n - 1, by omega⟩
    have hb := hN.2.2.2.1 i (by omega)
    have hr := hI.2.1 i (by omega)
    have e1 : (nI (bs i) = nI s) ↔ bs i = s := nI_eq (by omega) (by omega)
    have e2 : (nI (bg i) = nI g) ↔ bg i = g := nI_eq (by omega) (by omega)
    have e3 : (nI (bd i) = nI d) ↔ bd i = d := nI_eq (by omega) (by omega)
    have g12 : gin (nI i) 12 = true := gin_of (by omega) (by decide)
    have hcl : (nI i).toNatClampNeg = i := nI_clamp (by omega)
    unfold fo_bundleOf_b3
    rw [hI.1, if_neg (nI_ge (by omega) (by omega))]
    simp only [g12, hcl, if_true, hr.1, hr.2.1, hr.2.2.1, e1, e2, e3, fo_bundleOf_b48, nI_1]
    by_cases hc : bs i = s ∧ bg i = g ∧ bd i = d
    · refine Or.inl ⟨i, by omega, hc.1, hc.2.1, hc.2.2, ?_⟩
      rw [if_pos hc.1, if_pos hc.2.1, if_pos hc.2.2]
    · have ef : (if bs i = s then if bg i = g then if bd i = d then some (nI i, σ) else fo_bundleOf_b3 n (nI s) (nI g) (nI d) (nI (i + 1)) σ else fo_bundleOf_b3 n (nI s) (nI g) (nI d) (nI (i + 1)) σ else fo_bundleOf_b3 n (nI s) (nI g) (nI d) (nI (i + 1)) σ) = fo_bundleOf_b3 n (nI s) (nI g) (nI d) (nI (i + 1)) σ := by
        by_cases c1 : bs i = s
        · rw [if_pos c1]
          by_cases c2 : bg i = g
          · rw [if_pos c2, if_neg (fun c3 => hc ⟨c1, c2, c3⟩)]
          · rw [if_neg c2]
        · rw [if_neg c1]
      rw [ef]
      rcases ih (i + 1) n (by omega) (by omega) with h | ⟨h1, h2⟩
      · exact Or.inl h
      · refine Or.inr ⟨fun i' q1 q2 => ?_, h2⟩
        by_cases q : i' = i
        · rw [q]; exact hc
        · exact h1 i' (by omega) q2
