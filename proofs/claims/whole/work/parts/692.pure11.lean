/-! routes: where both begin; what is taken -/
theorem go_clear1 : ∀ (r q N : Nat) (σ : gS), q + r = 160 → r < N → ∃ σ', mm_go_b2 N (nI q) σ = mm_go_b24 1000 0 σ' ∧ GK σ σ' ∧ ∀ i, σ'.2 24 i = if q ≤ i ∧ i < 160 then 0 else σ.2 24 i := by
  intro r
  induction r with
  | zero =>
    intro q N σ hq hN
    obtain ⟨N, rfl⟩ : ∃ q, N = q + 1 := ⟨N - 1, by omega⟩
    have : q = 160 := by omega
    subst this
    refine ⟨σ, ?_, GK.refl σ, fun i => ?_⟩
    · unfold mm_go_b2
      rw [if_pos (by decide)]
    · rw [if_neg (by omega)]
  | succ r ih =>
    intro q N σ hq hN
    obtain ⟨N, rfl⟩ : ∃ q, N = q + 1 := ⟨N - 1, by omega⟩
    obtain ⟨σ', h1, h2, h3⟩ := ih (q + 1) N (sA σ 24 q 0) (by omega) (by omega)
    refine ⟨σ', ?_, (GK.arr σ 24 q 0 (by decide)).trans h2, ?_⟩
    · unfold mm_go_b2
      have a : (160 : Int32) = nI 160 := rfl
      rw [if_neg (by rw [a]; exact nI_ge (by omega) (by omega)), if_pos (gin_of (by omega) (by decide)), nI_clamp (by omega), nI_1]
      exact h1
    · intro i
      rw [h3]
      by_cases hi : i = q
      · rw [hi, if_neg (by omega), if_pos (by omega), sA_s]
      · by_cases hc : q + 1 ≤ i ∧ i < 160
        · rw [if_pos hc, if_pos (by omega)]
        · rw [if_neg hc, if_neg (by omega), sA_i hi]
theorem go_clear2 : ∀ (r s N : Nat) (σ : gS), s + r = 4 → r < N → ∃ σ', mm_go_b24 N (nI s) σ = mm_go_b52 1000 0 σ' ∧ GK σ σ' ∧ σ'.2 24 = σ.2 24 ∧ ∀ i, σ'.2 25 i = (if s ≤ i ∧ i < 4 then 0 else σ.2 25 i) ∧ σ'.2 26 i = (if s ≤ i ∧ i < 4 then (-9) else σ.2 26 i) := by
  intro r
  induction r with
  | zero =>
    intro q N σ hq hN
    obtain ⟨N, rfl⟩ : ∃ q, N = q + 1 := ⟨N - 1, by omega⟩
    have : q = 4 := by omega
    subst this
    refine ⟨σ, ?_, GK.refl σ, rfl, fun i => ?_⟩
    · unfold mm_go_b24
      rw [if_pos (by decide)]
    · rw [if_neg (by omega), if_neg (by omega)]; exact ⟨rfl, rfl⟩
  | succ r ih =>
    intro q N σ hq hN
    obtain ⟨N, rfl⟩ : ∃ q, N = q + 1 := ⟨N - 1, by omega⟩
    obtain ⟨σ', h1, h2, h3, h4⟩ := ih (q + 1) N (sA (sA σ 25 q 0) 26 q (-9)) (by omega) (by omega)
    refine ⟨σ', ?_, ((GK.arr σ 25 q 0 (by decide)).trans (GK.arr _ 26 q (-9) (by decide))).trans h2, ?_, ?_⟩
    · unfold mm_go_b24
      have a : (4 : Int32) = nI 4 := rfl
      rw [if_neg (by rw [a]; exact nI_ge (by omega) (by omega)), if_pos (gin_of (by omega) (by decide)), nI_clamp (by omega), nI_1]
      exact h1
    · rw [h3, sA_k (by decide), sA_k (by decide)]
    · intro i
      rw [(h4 i).1, (h4 i).2]
      by_cases hi : i = q
      · subst hi
        refine ⟨?_, ?_⟩
        · rw [if_neg (by omega), if_pos (by omega), sA_k (by decide), sA_s]
        · rw [if_neg (by omega), if_pos (by omega), sA_s]
      · by_cases hc : q + 1 ≤ i ∧ i < 4
        · rw [if_pos hc, if_pos hc, if_pos (by omega), if_pos (by omega)]; exact ⟨rfl, rfl⟩
        · rw [if_neg hc, if_neg hc, if_neg (by omega), if_neg (by omega), sA_k (by decide), sA_i hi, sA_i hi, sA_k (by decide)]; exact ⟨rfl, rfl⟩
def n0 : Nat → Nat := fun _ => 0
theorem go_begin (σ : gS) : ∃ σ', mm_go σ = mm_go_b52 1000 (nI 0) σ' ∧ GK σ σ' ∧ MI σ' n0 n0 n0 := by
  obtain ⟨σ1, a1, a2, a3⟩ := go_clear1 160 0 1000 σ (by omega) (by omega)
  obtain ⟨σ2, b1, b2, b3, b4⟩ := go_clear2 4 0 1000 σ1 (by omega) (by omega)
  refine ⟨σ2, a1.trans b1, a2.trans b2, ?_, ?_⟩
  · intro q hq
    rw [b3, a3, if_pos (by omega)]; rfl
  · intro s hs
    rw [(b4 s).1, (b4 s).2, if_pos (by omega), if_pos (by omega)]
    exact ⟨rfl, rfl⟩
theorem route_begin (G S : Nat) (v : gV0) (σ : gS) : ∃ σ', fo_begin σ = some ((), σ') ∧ FK σ σ' ∧ σ'.1 4 = (-9) ∧ CI σ' 0 n0 n0 n0 n0 n0 n0 ∧ NI G S v 0 0 n0 n0 n0 n0 n0 n0 := by
  refine ⟨_, rfl, ?_, ?_, ?_, ?_⟩
  · refine ⟨?_, ?_⟩
    · intro b h3 h4
      show (sS (sS σ 3 0) 4 (-9)).1 b = _
      rw [sS_k h4, sS_k h3]
    · intro b hb
      rw [sR_k (by omega), sR_k (by omega)]; rfl
  · show (sS (sS σ 3 0) 4 (-9)).1 4 = _
    exact sS_s
  · refine ⟨?_, fun i hi => by omega, ?_⟩
    · show (sS (sS σ 3 0) 4 (-9)).1 3 = _
      rw [sS_k (by decide), sS_s]; rfl
    · intro s hs
      rw [sR_k (by decide), sR_s, sR_s, if_pos hs, if_pos hs]; exact ⟨rfl, rfl⟩
  · exact ⟨Nat.le_refl _, fun _ => by show (0 : Nat) < 8; decide, fun _ => ⟨by show (0 : Nat) ≤ 3; decide, by show (0 : Nat) ≤ 7; decide, fun _ => rfl⟩, fun i hi => by omega, fun i i' hi => by omega, fun s g d _ _ _ h => absurd rfl h⟩
/-- what the reference takes at a gate -/
def mG (v : gV0) (hm S : Nat) (T : Nat → Nat) (g : Nat) : Nat := sumTo (fun s => sumTo (fun d => nDuty v hm g s d (T (sp s g d))) (8 - v 5 s) (v 5 s)) S 0
def TK (σ σ' : gS) : Prop := σ'.1 = σ.1 ∧ ∀ b, b ≠ 27 → σ'.2 b = σ.2 b
theorem TK.refl (σ : gS) : TK σ σ := ⟨rfl, fun _ _ => rfl⟩
theorem TK.trans {a b c : gS} (h : TK a b) (k : TK b c) : TK a c := ⟨k.1.trans h.1, fun i x => (k.2 i x).trans (h.2 i x)⟩
theorem TK.arr (σ : gS) (i : Nat) (x : Int32) : TK σ (sA σ 27 i x) := ⟨rfl, fun b hb => sA_k hb⟩
theorem TK.MK {σ σ' : gS} (h : TK σ σ') : MK σ σ' := ⟨fun b _ => by rw [h.1], fun b hb => h.2 b (by omega)⟩
theorem TK.MI {σ σ' : gS} {cn ld T : Nat → Nat} (h : TK σ σ') (k : MI σ cn ld T) : MI σ' cn ld T := ⟨by rw [h.2 24 (by decide)]; exact k.1, by rw [h.2 25 (by decide), h.2 26 (by decide)]; exact k.2⟩
theorem take1 {G S : Nat} {X : gC} {v : gV0} {hm cnt g s : Nat} {cn ld T : Nat → Nat} (hB : RB G S v hm cnt) (hC : RC G S X v hm cnt) (hT : ∀ q, T q < 8) (hg : g < G) (hs : s < S) (V : Int32) (lp4 : Int32 → Int32 → gS → Option (Int32 × gS)) (lp21 : Int32 → Int32 → Int32 → gS → Option (Int32 × gS)) : ∀ (r d N a : Nat) (μ : gS), d + r = 8 → v 5 s ≤ d → r < N → RM G S μ v hm cnt → MI μ cn ld T → μ.2 27 g = nI a → ∃ μ', mm_takeAll_b37 lp4 lp21 N V (nI g) (nI s) (nI d) μ = lp21 V (nI g) (nI (s + 1)) μ' ∧ TK μ μ' ∧ μ'.2 27 g = nI (a + sumTo (fun d => nDuty v hm g s d (T (sp s g d))) r d) ∧ ∀ i, i ≠ g → μ'.2 27 i = μ.2 27 i := by
  intro r
  have hG := hB.1
  have hS := hB.2.1
  induction r with
  | zero =>
    intro d N a μ hd hbd hN hM hI h27
    obtain ⟨N, rfl⟩ : ∃ q, N = q + 1 := ⟨N - 1, by omega⟩
    have : d = 8 := by omega
    subst this
    refine ⟨μ, ?_, TK.refl μ, h27, fun _ _ => rfl⟩
    unfold mm_takeAll_b37
    rw [if_pos (by decide), nI_1]
  | succ r ih =>
    intro d N a μ hd hbd hN hM hI h27
    obtain ⟨N, rfl⟩ : ∃ q, N = q + 1 := ⟨N - 1, by omega⟩
    have t1 := TK.arr μ g (nI (a + nDuty v hm g s d (T (sp s g d))))
    obtain ⟨μ', h1, h2, h3, h4⟩ := ih (d + 1) N (a + nDuty v hm g s d (T (sp s g d))) (sA μ 27 g (nI (a + nDuty v hm g s d (T (sp s g d))))) (by omega) (by omega) (by omega) (t1.MK.RM hM) (t1.MI hI) sA_s
    refine ⟨μ', ?_, t1.trans h2, ?_, ?_⟩
    · conv => lhs; unfold mm_takeAll_b37
      have a8 : (8 : Int32) = nI 8 := rfl
      have hq : sp s g d < 160 := by unfold sp; omega
      have esp : ((5 : Int32) * nI s + nI g) * 8 + nI d = nI (sp s g d) := by
        have a5 : (5 : Int32) = nI 5 := rfl
        rw [a5, a8, pk_mul, nI_add, pk_mul, nI_add]; rfl
      rw [if_neg (by rw [a8]; exact nI_ge (by omega) (by omega)), if_pos (gin_of (by omega) (by decide))]
      simp only [mm_spot, gB1_some, esp, gin_of hq (by decide), if_true, nI_clamp (show sp s g d < 2 ^ 31 by omega), nI_clamp (show g < 2 ^ 31 by omega), hI.1 _ hq, (duty_nat hB hC hM hg hs (hT (sp s g d)) (show d ≤ 7 by omega) hbd).2, h27, nI_add, gLet, nI_1]
      exact h1
    · rw [h3]
      conv => rhs; unfold sumTo
      rw [Nat.add_assoc]
    · intro i hi
      rw [h4 i hi, sA_i hi]
theorem take2 {G S : Nat} {X : gC} {v : gV0} {hm cnt g : Nat} {cn ld T : Nat → Nat} (hB : RB G S v hm cnt) (hC : RC G S X v hm cnt) (hT : ∀ q, T q < 8) (hg : g < G) (V : Int32) (lp4 : Int32 → Int32 → gS → Option (Int32 × gS)) : ∀ (r s N a : Nat) (μ : gS), s + r = S → r < N → RM G S μ v hm cnt → MI μ cn ld T → μ.2 27 g = nI a → ∃ μ', mm_takeAll_b21 lp4 N V (nI g) (nI s) μ = lp4 (V + μ'.2 27 g) (nI (g + 1)) μ' ∧ TK μ μ' ∧ μ'.2 27 g = nI (a + sumTo (fun s => sumTo (fun d => nDuty v hm g s d (T (sp s g d))) (8 - v 5 s) (v 5 s)) r s) ∧ ∀ i, i ≠ g → μ'.2 27 i = μ.2 27 i := by
  intro r
  have hG := hB.1
  have hS := hB.2.1
  induction r with
  | zero =>
    intro s N a μ hs hN hM hI h27
    obtain ⟨N, rfl⟩ : ∃ q, N = q + 1 := ⟨N - 1, by omega⟩
    have : s = S := by omega
    subst this
    refine ⟨μ, ?_, TK.refl μ, h27, fun _ _ => rfl⟩
    unfold mm_takeAll_b21
    rw [hM.2.1, if_pos (nI_le (by omega) (by omega)), if_pos (gin_of (by omega) (by decide)), nI_clamp (by omega), nI_1]
    rfl
  | succ r ih =>
    intro s N a μ hs hN hM hI h27
    obtain ⟨N, rfl⟩ : ∃ q, N = q + 1 := ⟨N - 1, by omega⟩
    have hb := (hB.2.2.2.2.2.2.1 s (by omega)).2.2.2
    obtain ⟨μ1, f1, f2, f3, f4⟩ := take1 (cn := cn) (ld := ld) hB hC hT hg (show s < S by omega) V lp4 (mm_takeAll_b21 lp4 N) (8 - v 5 s) (v 5 s) 1000 a μ (by omega) (Nat.le_refl _) (by omega) hM hI h27
    obtain ⟨μ', h1, h2, h3, h4⟩ := ih (s + 1) N _ μ1 (by omega) (by omega) (f2.MK.RM hM) (f2.MI hI) f3
    refine ⟨μ', ?_, f2.trans h2, ?_, ?_⟩
    · conv => lhs; unfold mm_takeAll_b21
      rw [hM.2.1, if_neg (nI_ge (by omega) (by omega)), if_pos (gin_of (by omega) (by decide)), nI_clamp (by omega), (hM.2.2.2.2.2.2.1 s (by omega)).2.2]
      exact f1.trans h1
    · rw [h3]
      conv => rhs; unfold sumTo
      rw [Nat.add_assoc]
    · intro i hi
      rw [h4 i hi, f4 i hi]
theorem take3 {G S : Nat} {X : gC} {v : gV0} {hm cnt : Nat} {cn ld T : Nat → Nat} (hB : RB G S v hm cnt) (hC : RC G S X v hm cnt) (hT : ∀ q, T q < 8) : ∀ (r g N a : Nat) (μ : gS), g + r = G → r < N → RM G S μ v hm cnt → MI μ cn ld T → ∃ μ', mm_takeAll_b4 N (nI a) (nI g) μ = some (nI (a + sumTo (mG v hm S T) r g), μ') ∧ TK μ μ' ∧ (∀ i, i < g → μ'.2 27 i = μ.2 27 i) ∧ ∀ i, g ≤ i → i < G → μ'.2 27 i = nI (mG v hm S T i) := by
  intro r
  have hG := hB.1
  induction r with
  | zero =>
    intro g N a μ hg hN hM hI
    obtain ⟨N, rfl⟩ : ∃ q, N = q + 1 := ⟨N - 1, by omega⟩
    have : g = G := by omega
    subst this
    refine ⟨μ, ?_, TK.refl μ, fun _ _ => rfl, fun i h1 h2 => by omega⟩
    unfold mm_takeAll_b4
    rw [hM.1, if_pos (nI_le (by omega) (by omega))]
    rfl
  | succ r ih =>
    intro g N a μ hg hN hM hI
    obtain ⟨N, rfl⟩ : ∃ q, N = q + 1 := ⟨N - 1, by omega⟩
    have t0 := TK.arr μ g 0
    obtain ⟨μ1, f1, f2, f3, f4⟩ := take2 (cn := cn) (ld := ld) hB hC hT (show g < G by omega) (nI a) (mm_takeAll_b4 N) S 0 1000 0 (sA μ 27 g 0) (by omega) (by have := hB.2.1; omega) (t0.MK.RM hM) (t0.MI hI) sA_s
    have t1 := t0.trans f2
    rw [Nat.zero_add] at f3
    have f3 : μ1.2 27 g = nI (mG v hm S T g) := f3
    obtain ⟨μ', h1, h2, h3, h4⟩ := ih (g + 1) N (a + mG v hm S T g) μ1 (by omega) (by omega) (t1.MK.RM hM) (t1.MI hI)
    refine ⟨μ', ?_, t1.trans h2, ?_, ?_⟩
    · conv => lhs; unfold mm_takeAll_b4
      rw [hM.1, if_neg (nI_ge (by omega) (by omega)), if_pos (gin_of (by omega) (by decide)), nI_clamp (by omega)]
      refine f1.trans ?_
      rw [f3, nI_add, h1]
      conv => rhs; unfold sumTo
      rw [Nat.add_assoc]
    · intro i hi
      rw [h3 i (by omega), f4 i (by omega), sA_i (by omega)]
    · intro i h5 h6
      by_cases q : i = g
      · rw [q, h3 g (by omega), f3]
      · exact h4 i (by omega) h6
theorem take_nat {G S : Nat} {X : gC} {μ : gS} {v : gV0} {hm cnt : Nat} {cn ld T : Nat → Nat} (hB : RB G S v hm cnt) (hC : RC G S X v hm cnt) (hM : RM G S μ v hm cnt) (hT : ∀ q, T q < 8) (hI : MI μ cn ld T) : ∃ μ', mm_takeAll μ = some (nI (sumTo (mG v hm S T) G 0), μ') ∧ TK μ μ' ∧ ∀ i, i < G → μ'.2 27 i = nI (mG v hm S T i) := by
  obtain ⟨μ', h1, h2, h3, h4⟩ := take3 hB hC hT G 0 1000 0 μ (by omega) (by have := hB.1; omega) hM hI
  rw [Nat.zero_add] at h1
  exact ⟨μ', h1, h2, fun i hi => h4 i (by omega) hi⟩
