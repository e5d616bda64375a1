/-! town -/
theorem pl3 (w : Nat) : nI w + (3 : Int32) = nI (w + 3) := by rw [show (3 : Int32) = nI 3 from rfl, nI_add]
theorem ix41 (g : Nat) : (1 : Int32) + (4 : Int32) * nI g = nI (1 + 4 * g) := by rw [show (4 : Int32) = nI 4 from rfl, pk_mul, show (1 : Int32) = nI 1 from rfl, nI_add]
theorem tw_copyG {gc : Nat} (hg : gc ≤ 5) : ∀ (m g N : Nat) (σ : gS), g + m = gc → m < N → σ.1 5 = nI gc → ∃ σ' : gS, mm_town_b108 N (nI g) σ = mm_town_b178 1000 0 σ' ∧ σ'.1 = σ.1 ∧ (∀ b, b ≠ 8 → b ≠ 9 → b ≠ 10 → σ'.2 b = σ.2 b) ∧ (∀ j, j < g → σ'.2 8 j = σ.2 8 j ∧ σ'.2 9 j = σ.2 9 j ∧ σ'.2 10 j = σ.2 10 j) ∧ ∀ j, g ≤ j → j < gc → σ'.2 8 j = σ.2 18 (3 * j) ∧ σ'.2 9 j = σ.2 18 (3 * j + 1) ∧ σ'.2 10 j = σ.2 18 (3 * j + 2) := by
  intro m
  induction m with
  | zero =>
    intro g N σ hgm hN h5
    obtain ⟨N, rfl⟩ : ∃ z, N = z + 1 := ⟨N - 1, by omega⟩
    refine ⟨σ, ?_, rfl, fun _ _ _ _ => rfl, fun _ _ => ⟨rfl, rfl, rfl⟩, fun j h1 h2 => by omega⟩
    unfold mm_town_b108
    rw [h5, if_pos (nI_le (by omega) (by omega))]
  | succ m ih =>
    intro g N σ hgm hN h5
    obtain ⟨N, rfl⟩ : ∃ z, N = z + 1 := ⟨N - 1, by omega⟩
    have k1 : ∀ x : Int32, (sA σ 8 g x).2 18 = σ.2 18 := fun x => sA_k (by decide)
    have k2 : ∀ x y : Int32, (sA (sA σ 8 g x) 9 g y).2 18 = σ.2 18 := fun x y => (sA_k (by decide)).trans (k1 x)
    obtain ⟨σ', a1, a2, a3, a4, a5⟩ := ih (g + 1) N (sA (sA (sA σ 8 g (σ.2 18 (3 * g))) 9 g (σ.2 18 (3 * g + 1))) 10 g (σ.2 18 (3 * g + 2))) (by omega) (by omega) h5
    have k3 : (sA (sA (sA σ 8 g (σ.2 18 (3 * g))) 9 g (σ.2 18 (3 * g + 1))) 10 g (σ.2 18 (3 * g + 2))).2 18 = σ.2 18 := (sA_k (by decide)).trans (k2 _ _)
    have r8 : ∀ j, (sA (sA (sA σ 8 g (σ.2 18 (3 * g))) 9 g (σ.2 18 (3 * g + 1))) 10 g (σ.2 18 (3 * g + 2))).2 8 j = (sA σ 8 g (σ.2 18 (3 * g))).2 8 j := fun j => by rw [sA_k (by decide), sA_k (by decide)]
    have r9 : ∀ j, (sA (sA (sA σ 8 g (σ.2 18 (3 * g))) 9 g (σ.2 18 (3 * g + 1))) 10 g (σ.2 18 (3 * g + 2))).2 9 j = (sA (sA σ 8 g (σ.2 18 (3 * g))) 9 g (σ.2 18 (3 * g + 1))).2 9 j := fun j => by rw [sA_k (by decide)]
    refine ⟨σ', ?_, a2, ?_, ?_, ?_⟩
    · unfold mm_town_b108
      rw [h5, if_neg (nI_ge (by omega) (by omega)), ti3]
      simp only [nI_1, pl2, gLet, gin_of (show 3 * g < 15 by omega) (by decide), gin_of (show 3 * g + 1 < 15 by omega) (by decide), gin_of (show 3 * g + 2 < 15 by omega) (by decide), gin_of (show g < 5 by omega) (by decide), nI_clamp (show 3 * g < 2 ^ 31 by omega), nI_clamp (show 3 * g + 1 < 2 ^ 31 by omega), nI_clamp (show 3 * g + 2 < 2 ^ 31 by omega), nI_clamp (show g < 2 ^ 31 by omega), if_true, k1, k2]
      exact a1
    · intro b h8 h9 h10
      rw [a3 b h8 h9 h10, sA_k h10, sA_k h9, sA_k h8]
    · intro j hj
      obtain ⟨b1, b2, b3⟩ := a4 j (by omega)
      rw [b1, b2, b3, r8, r9, sA_i (by omega), sA_i (by omega), sA_i (by omega), sA_k (k := 8) (b := 9) (by decide), sA_k (k := 9) (b := 10) (by decide), sA_k (k := 8) (b := 10) (by decide)]
      exact ⟨rfl, rfl, rfl⟩
    · intro j h1 h2
      by_cases e : j = g
      · obtain ⟨b1, b2, b3⟩ := a4 j (by omega)
        rw [b1, b2, b3, r8, r9, e, sA_s, sA_s, sA_s]
        exact ⟨rfl, rfl, rfl⟩
      · obtain ⟨b1, b2, b3⟩ := a5 j (by omega) h2
        rw [k3] at b1 b2 b3
        exact ⟨b1, b2, b3⟩
theorem tw_copyS {sc : Nat} (hs : sc ≤ 4) : ∀ (m g N : Nat) (σ : gS), g + m = sc → m < N → σ.1 6 = nI sc → ∃ σ' : gS, mm_town_b178 N (nI g) σ = some (nI sc, σ') ∧ (∀ b, b ≠ 31 → σ'.1 b = σ.1 b) ∧ σ'.1 31 = 0 ∧ (∀ b, b ≠ 11 → b ≠ 12 → b ≠ 13 → σ'.2 b = σ.2 b) ∧ (∀ j, j < g → σ'.2 11 j = σ.2 11 j ∧ σ'.2 12 j = σ.2 12 j ∧ σ'.2 13 j = σ.2 13 j) ∧ ∀ j, g ≤ j → j < sc → σ'.2 11 j = σ.2 19 (3 * j) ∧ σ'.2 12 j = σ.2 19 (3 * j + 1) ∧ σ'.2 13 j = σ.2 19 (3 * j + 2) := by
  intro m
  induction m with
  | zero =>
    intro g N σ hgm hN h6
    obtain ⟨N, rfl⟩ : ∃ z, N = z + 1 := ⟨N - 1, by omega⟩
    refine ⟨sS σ 31 0, ?_, fun b hb => sS_k hb, sS_s, fun _ _ _ _ => rfl, fun _ _ => ⟨rfl, rfl, rfl⟩, fun j h1 h2 => by omega⟩
    unfold mm_town_b178
    rw [h6, if_pos (nI_le (by omega) (by omega))]
    simp only [gLet]
    rw [sS_k (show (6 : Nat) ≠ 31 by decide), h6]
  | succ m ih =>
    intro g N σ hgm hN h6
    obtain ⟨N, rfl⟩ : ∃ z, N = z + 1 := ⟨N - 1, by omega⟩
    have k1 : ∀ x : Int32, (sA σ 11 g x).2 19 = σ.2 19 := fun x => sA_k (by decide)
    have k2 : ∀ x y : Int32, (sA (sA σ 11 g x) 12 g y).2 19 = σ.2 19 := fun x y => (sA_k (by decide)).trans (k1 x)
    obtain ⟨σ', a1, a2, a3, a4, a5, a6⟩ := ih (g + 1) N (sA (sA (sA σ 11 g (σ.2 19 (3 * g))) 12 g (σ.2 19 (3 * g + 1))) 13 g (σ.2 19 (3 * g + 2))) (by omega) (by omega) h6
    have k3 : (sA (sA (sA σ 11 g (σ.2 19 (3 * g))) 12 g (σ.2 19 (3 * g + 1))) 13 g (σ.2 19 (3 * g + 2))).2 19 = σ.2 19 := (sA_k (by decide)).trans (k2 _ _)
    have r8 : ∀ j, (sA (sA (sA σ 11 g (σ.2 19 (3 * g))) 12 g (σ.2 19 (3 * g + 1))) 13 g (σ.2 19 (3 * g + 2))).2 11 j = (sA σ 11 g (σ.2 19 (3 * g))).2 11 j := fun j => by rw [sA_k (by decide), sA_k (by decide)]
    have r9 : ∀ j, (sA (sA (sA σ 11 g (σ.2 19 (3 * g))) 12 g (σ.2 19 (3 * g + 1))) 13 g (σ.2 19 (3 * g + 2))).2 12 j = (sA (sA σ 11 g (σ.2 19 (3 * g))) 12 g (σ.2 19 (3 * g + 1))).2 12 j := fun j => by rw [sA_k (by decide)]
    refine ⟨σ', ?_, a2, a3, ?_, ?_, ?_⟩
    · unfold mm_town_b178
      rw [h6, if_neg (nI_ge (by omega) (by omega)), ti3]
      simp only [nI_1, pl2, gLet, gin_of (show 3 * g < 12 by omega) (by decide), gin_of (show 3 * g + 1 < 12 by omega) (by decide), gin_of (show 3 * g + 2 < 12 by omega) (by decide), gin_of (show g < 4 by omega) (by decide), nI_clamp (show 3 * g < 2 ^ 31 by omega), nI_clamp (show 3 * g + 1 < 2 ^ 31 by omega), nI_clamp (show 3 * g + 2 < 2 ^ 31 by omega), nI_clamp (show g < 2 ^ 31 by omega), if_true, k1, k2]
      exact a1
    · intro b h8 h9 h10
      rw [a4 b h8 h9 h10, sA_k h10, sA_k h9, sA_k h8]
    · intro j hj
      obtain ⟨b1, b2, b3⟩ := a5 j (by omega)
      rw [b1, b2, b3, r8, r9, sA_i (by omega), sA_i (by omega), sA_i (by omega), sA_k (k := 11) (b := 12) (by decide), sA_k (k := 12) (b := 13) (by decide), sA_k (k := 11) (b := 13) (by decide)]
      exact ⟨rfl, rfl, rfl⟩
    · intro j h1 h2
      by_cases e : j = g
      · obtain ⟨b1, b2, b3⟩ := a5 j (by omega)
        rw [b1, b2, b3, r8, r9, e, sA_s, sA_s, sA_s]
        exact ⟨rfl, rfl, rfl⟩
      · obtain ⟨b1, b2, b3⟩ := a6 j (by omega) h2
        rw [k3] at b1 b2 b3
        exact ⟨b1, b2, b3⟩
theorem tv_digit {σc τ : gS} {k p n gc sc w d : Nat} {C : Nat → Int32} {x y : Int32} (h : TWH σc k p n C) (hτ : TWC τ p n gc sc) {t g : Nat} (hy : x = nI g) (hx : y = nI t) (hw : w = 1 + 4 * g + t) (hn : w < n) (hc : C (p + w) = nI (48 + d)) : tt_gateDigit σc k τ x y = some (nI d) := by
  subst hx
  subst hy
  subst hw
  unfold tt_gateDigit
  rw [ix41, nI_add, tw_code h hτ hn, hc]
  simp only [gB1_some]
  rw [show (48 : Int32) = nI 48 from rfl, pk_sub (by omega)]
  have : 48 + d - 48 = d := by omega
  rw [this]
theorem tv_gate {σc τ σ : gS} {k p n gc sc g : Nat} {C : Nat → Int32} (h : TWH σc k p n C) (hτ : TWC τ p n gc sc) (hn : 4 * (gc + sc) < n) (hg : g < gc) (hz : ZGF C p g σ) : ∃ kd rt df : Nat, (kd ≤ 2 ∧ 1 ≤ rt ∧ rt ≤ 9 ∧ df ≤ 6) ∧ tt_gateKind σc k τ (nI g) = some (nI kd) ∧ tt_gateDigit σc k τ (nI g) 2 = some (nI rt) ∧ tt_gateDigit σc k τ (nI g) 3 = some (nI df) ∧ σ.2 18 (3 * g) = nI kd ∧ σ.2 18 (3 * g + 1) = nI rt ∧ σ.2 18 (3 * g + 2) = nI df := by
  obtain ⟨kd, rt, df, a, b, c, d, e, f, i, j⟩ := hz
  refine ⟨kd, rt, df, ⟨a, b, c, d⟩, ?_, tv_digit h hτ rfl (t := 2) rfl (show 2 + 4 * g + 1 = 1 + 4 * g + 2 by omega) (by omega) f, tv_digit h hτ rfl (t := 3) rfl (show 2 + 4 * g + 1 + 1 = 1 + 4 * g + 3 by omega) (by omega) i, j⟩
  unfold tt_gateKind
  rw [ix41, nI_1, show 1 + 4 * g + 1 = 2 + 4 * g by omega, tw_code h hτ (by omega)]
  simp only [gB1_some, e]
theorem tv_story {σc τ σ : gS} {k p n gc sc s : Nat} {C : Nat → Int32} (h : TWH σc k p n C) (hτ : TWC τ p n gc sc) (hn : 4 * (gc + sc) < n) (hs : s < sc) (hz : ZSF C p gc s σ) : ∃ la pe bo : Nat, (1 ≤ la ∧ la ≤ 9 ∧ pe ≤ 5 ∧ bo ≤ 6) ∧ tt_storyDigit σc k τ (nI s) 1 = some (nI la) ∧ tt_storyDigit σc k τ (nI s) 2 = some (nI pe) ∧ tt_storyDigit σc k τ (nI s) 3 = some (nI bo) ∧ σ.2 19 (3 * s) = nI la ∧ σ.2 19 (3 * s + 1) = nI pe ∧ σ.2 19 (3 * s + 2) = nI bo := by
  obtain ⟨la, pe, bo, a, b, c, d, e, f, i, j⟩ := hz
  have eg : τ.1 2 + nI s = nI (gc + s) := by rw [hτ.2.2.1, nI_add]
  unfold tt_storyDigit
  rw [tv_digit (y := 1) h hτ eg (t := 1) rfl (show 2 + 4 * (gc + s) = 1 + 4 * (gc + s) + 1 by omega) (by omega) e, tv_digit (y := 2) h hτ eg (t := 2) rfl (show 2 + 4 * (gc + s) + 1 = 1 + 4 * (gc + s) + 2 by omega) (by omega) f, tv_digit (y := 3) h hτ eg (t := 3) rfl (show 2 + 4 * (gc + s) + 1 + 1 = 1 + 4 * (gc + s) + 3 by omega) (by omega) i]
  exact ⟨la, pe, bo, ⟨a, b, c, d⟩, rfl, rfl, rfl, j⟩
theorem town_made {G S : Nat} {X : gC} {μ τ σ : gS} {k p n gc sc L : Nat} (hR : RR G S X μ) (h : TWH X.1 k p n (X.1.2 (2 + k))) (hτ : TWC τ p n gc sc) (g0 : 0 < gc) (g5 : gc ≤ 5) (s0 : 0 < sc) (s4 : sc ≤ 4) (hn : 4 * (gc + sc) < n) (h16 : σ.1 16 = nI gc) (h17 : σ.1 17 = nI sc) (hG : ∀ g, g < gc → ZGF (X.1.2 (2 + k)) p g σ) (hS : ∀ s, s < sc → ZSF (X.1.2 (2 + k)) p gc s σ) (hm : MK μ σ) : tnOK X.1 k τ gc sc = true ∧ ∃ μ' : gS, mm_town_b108 1000 0 (sS (sS (sS σ 5 (nI gc)) 6 (nI sc)) 7 0) = some (nI sc, μ') ∧ RR gc sc (sS (sS X.1 2 0) 5 0, tnγ X.1 k τ) μ' := by
  obtain ⟨v, hm0, cnt, hB, hC, hM, hX⟩ := hR
  have vg := fun g (hg : g < gc) => tv_gate h hτ hn hg (hG g hg)
  have vs := fun s (hs : s < sc) => tv_story h hτ hn hs (hS s hs)
  constructor
  · unfold tnOK
    simp only [Bool.and_eq_true, decide_eq_true_eq, List.all_eq_true, List.mem_range]
    refine ⟨⟨⟨g5, s4, hτ.2.2.1, hτ.2.2.2, h.1⟩, fun g hg => ?_⟩, fun s hs => ?_⟩
    · obtain ⟨kd, rt, df, _, a, b, c, _⟩ := vg g hg
      rw [a, b, c]
      exact ⟨⟨rfl, rfl⟩, rfl⟩
    · obtain ⟨kd, rt, df, _, a, b, c, _⟩ := vs s hs
      rw [a, b, c]
      exact ⟨⟨rfl, rfl⟩, rfl⟩
  · obtain ⟨σ1, a1, a2, a3, a4, a5⟩ := tw_copyG g5 gc 0 1000 (sS (sS (sS σ 5 (nI gc)) 6 (nI sc)) 7 0) (by omega) (by omega) rfl
    obtain ⟨σ2, b1, b2, b3, b4, b5, b6⟩ := tw_copyS s4 sc 0 1000 σ1 (by omega) (by omega) (by rw [a2]; rfl)
    have hg : ∀ g, g < gc → ∃ kd rt df : Nat, (kd ≤ 2 ∧ 1 ≤ rt ∧ rt ≤ 9 ∧ df ≤ 6) ∧ tt_gateKind X.1 k τ (nI g) = some (nI kd) ∧ tt_gateDigit X.1 k τ (nI g) 2 = some (nI rt) ∧ tt_gateDigit X.1 k τ (nI g) 3 = some (nI df) ∧ σ2.2 8 g = nI kd ∧ σ2.2 9 g = nI rt ∧ σ2.2 10 g = nI df := by
      intro g hg
      obtain ⟨kd, rt, df, c1, c2, c3, c4, c5, c6, c7⟩ := vg g hg
      obtain ⟨d1, d2, d3⟩ := a5 g (Nat.zero_le _) hg
      refine ⟨kd, rt, df, c1, c2, c3, c4, ?_, ?_, ?_⟩
      · rw [b4 8 (by decide) (by decide) (by decide), d1]; exact c5
      · rw [b4 9 (by decide) (by decide) (by decide), d2]; exact c6
      · rw [b4 10 (by decide) (by decide) (by decide), d3]; exact c7
    have hs : ∀ s, s < sc → ∃ la pe bo : Nat, (1 ≤ la ∧ la ≤ 9 ∧ pe ≤ 5 ∧ bo ≤ 6) ∧ tt_storyDigit X.1 k τ (nI s) 1 = some (nI la) ∧ tt_storyDigit X.1 k τ (nI s) 2 = some (nI pe) ∧ tt_storyDigit X.1 k τ (nI s) 3 = some (nI bo) ∧ σ2.2 11 s = nI la ∧ σ2.2 12 s = nI pe ∧ σ2.2 13 s = nI bo := by
      intro s hs
      obtain ⟨kd, rt, df, c1, c2, c3, c4, c5, c6, c7⟩ := vs s hs
      obtain ⟨d1, d2, d3⟩ := b6 s (Nat.zero_le _) hs
      refine ⟨kd, rt, df, c1, c2, c3, c4, ?_, ?_, ?_⟩
      · rw [d1, a3 19 (by decide) (by decide) (by decide)]; exact c5
      · rw [d2, a3 19 (by decide) (by decide) (by decide)]; exact c6
      · rw [d3, a3 19 (by decide) (by decide) (by decide)]; exact c7
    have q1 : ∀ b, b ≠ 31 → b ≠ 5 → b ≠ 6 → b ≠ 7 → σ2.1 b = σ.1 b := by
      intro b h1 h2 h3 h4
      rw [b2 b h1, a2, sS_k h4, sS_k h3, sS_k h2]
    have q2 : ∀ b, b < 8 ∨ 13 < b → σ2.2 b = σ.2 b := by
      intro b hb
      rw [b4 b (by omega) (by omega) (by omega), a3 b (by omega) (by omega) (by omega)]
      rfl
    refine ⟨σ2, a1.trans b1, fun a j => if a < 6 then (σ2.2 (8 + a) j).toNatClampNeg else v a j, 0, 0, ⟨g5, s4, by omega, by omega, by omega, fun g hg' => ?_, fun s hs' => ?_, fun j hj => by omega, hB.2.2.2.2.2.2.2.2⟩, ⟨rfl, rfl, fun g hg' => ?_, fun s hs' => ?_, fun j hj => by omega, hC.2.2.2.2.2⟩, ⟨?_, ?_, ?_, b3, ?_, fun g hg' => ?_, fun s hs' => ?_, fun j hj => by omega, ?_⟩, ?_, ?_, fun j hj => by omega, ?_⟩
    · obtain ⟨kd, rt, df, c1, c2, c3, c4, c5, c6, c7⟩ := hg g hg'
      show (σ2.2 8 g).toNatClampNeg ≤ 2 ∧ 1 ≤ (σ2.2 9 g).toNatClampNeg ∧ (σ2.2 9 g).toNatClampNeg ≤ 9 ∧ (σ2.2 10 g).toNatClampNeg ≤ 6
      rw [c5, c6, c7, nI_clamp (by omega), nI_clamp (by omega), nI_clamp (by omega)]
      exact c1
    · obtain ⟨kd, rt, df, c1, c2, c3, c4, c5, c6, c7⟩ := hs s hs'
      show 1 ≤ (σ2.2 11 s).toNatClampNeg ∧ (σ2.2 11 s).toNatClampNeg ≤ 9 ∧ (σ2.2 12 s).toNatClampNeg ≤ 5 ∧ (σ2.2 13 s).toNatClampNeg ≤ 6
      rw [c5, c6, c7, nI_clamp (by omega), nI_clamp (by omega), nI_clamp (by omega)]
      exact c1
    · obtain ⟨kd, rt, df, c1, c2, c3, c4, c5, c6, c7⟩ := hg g hg'
      show gtd (tt_gateKind X.1 k τ (nI g)) = nI (σ2.2 8 g).toNatClampNeg ∧ gtd (tt_gateDigit X.1 k τ (nI g) 2) = nI (σ2.2 9 g).toNatClampNeg ∧ gtd (tt_gateDigit X.1 k τ (nI g) 3) = nI (σ2.2 10 g).toNatClampNeg
      rw [c2, c3, c4, c5, c6, c7, nI_clamp (by omega), nI_clamp (by omega), nI_clamp (by omega)]
      exact ⟨rfl, rfl, rfl⟩
    · obtain ⟨kd, rt, df, c1, c2, c3, c4, c5, c6, c7⟩ := hs s hs'
      show gtd (tt_storyDigit X.1 k τ (nI s) 1) = nI (σ2.2 11 s).toNatClampNeg ∧ gtd (tt_storyDigit X.1 k τ (nI s) 2) = nI (σ2.2 12 s).toNatClampNeg ∧ gtd (tt_storyDigit X.1 k τ (nI s) 3) = nI (σ2.2 13 s).toNatClampNeg
      rw [c2, c3, c4, c5, c6, c7, nI_clamp (by omega), nI_clamp (by omega), nI_clamp (by omega)]
      exact ⟨rfl, rfl, rfl⟩
    · rw [b2 5 (by decide), a2]; rfl
    · rw [b2 6 (by decide), a2]; rfl
    · rw [b2 7 (by decide), a2]; rfl
    · rw [q1 14 (by decide) (by decide) (by decide) (by decide), hm.1 14 (by decide)]; exact hM.2.2.2.2.1
    · obtain ⟨kd, rt, df, c1, c2, c3, c4, c5, c6, c7⟩ := hg g hg'
      show σ2.2 8 g = nI (σ2.2 8 g).toNatClampNeg ∧ σ2.2 9 g = nI (σ2.2 9 g).toNatClampNeg ∧ σ2.2 10 g = nI (σ2.2 10 g).toNatClampNeg
      rw [c5, c6, c7, nI_clamp (by omega), nI_clamp (by omega), nI_clamp (by omega)]
      exact ⟨rfl, rfl, rfl⟩
    · obtain ⟨kd, rt, df, c1, c2, c3, c4, c5, c6, c7⟩ := hs s hs'
      show σ2.2 11 s = nI (σ2.2 11 s).toNatClampNeg ∧ σ2.2 12 s = nI (σ2.2 12 s).toNatClampNeg ∧ σ2.2 13 s = nI (σ2.2 13 s).toNatClampNeg
      rw [c5, c6, c7, nI_clamp (by omega), nI_clamp (by omega), nI_clamp (by omega)]
      exact ⟨rfl, rfl, rfl⟩
    · rw [q2 2 (by decide), q2 3 (by decide), hm.2 2 (by decide), hm.2 3 (by decide)]
      exact hM.2.2.2.2.2.2.2.2
    · show X.1.1 0 = σ2.1 0
      rw [q1 0 (by decide) (by decide) (by decide) (by decide), hm.1 0 (by decide)]; exact hX.1
    · show X.1.1 1 = σ2.1 1
      rw [q1 1 (by decide) (by decide) (by decide) (by decide), hm.1 1 (by decide)]; exact hX.2.1
    · rw [q2 4 (by decide), hm.2 4 (by decide)]
      exact hX.2.2.2
theorem st_town : St_town := by
  intro G S X μ y1 y2 y3 y4 hR
  have hR0 := hR.fault 0
  unfold cx_town mm_town
  generalize ((sS X.1 0 0, X.2) : gC) = X0 at hR0 ⊢
  generalize sS μ 0 0 = μ0 at hR0 ⊢
  simp only [gLet]
  obtain ⟨v, hm, cnt, hB, hC, hM, hX⟩ := id hR0
  rw [sheet_eq, sort_eq, cwithin_eq]
  simp only [gB1_some]
  rcases at_row G S X0 y1 with ⟨k, hk, rfl, e1, e2⟩ | ⟨e1, e2⟩
  · rw [e1, e2]
    simp only [gB1_some, gN, if_true]
    cases h2 : wI y2 0 2 with
    | false => exact ⟨-2, G, S, X0, μ0, rfl, rfl, hR0⟩
    | true =>
      have hg : gin (nI k) 4 = true := gin_of (by omega) (by decide)
      have hcl : (nI k).toNatClampNeg = k := nI_clamp (by omega)
      have b1 : ¬ (1 : Int32) = 0 := by decide
      have b2 : ¬ (2 : Int32) = 0 := by decide
      have b3 : ¬ (3 : Int32) = 0 := by decide
      have b4 : ¬ (4 : Int32) = 0 := by decide
      unfold mm_against mm_against_b23
      simp only [if_true, hk, hg, hcl, mm_against_b70, fr_faultTakenAs, fr_isThere, cx_town_b52, cx_town_b71, fr_hasCells]
      rcases lane_cases hB hC hM hk with ⟨-, c0, c1, m0⟩ | ⟨l, L, hl, hL, hv7, -, c0, c1, m0, m1⟩
      · simp only [c0, m0, if_true, gB1_some, Bool.false_eq_true, b1, if_false, cx_failBy, mm_fails, gLet, gB2_some]
        exact ⟨_, G, S, _, _, rfl, rfl, hR0.fault 1⟩
      · simp only [c0, m0, m1, lane_m1 hl, lane_m9 hl, if_false, gB1_some, if_true]
        by_cases hl2 : nI l = y2
        · simp only [hl2, if_true, gB1_some, c1]
          by_cases n0 : (0 : Int32) ≤ y4
          · have n1 : ¬ y4 < 0 := Int32.not_lt.mpr n0
            obtain ⟨n, hn, rfl⟩ := nI_of n1
            simp only [n0, n1, if_true, if_false]
            by_cases t1 : y3 < 0
            · simp only [t1, if_true, gB1_some, b3, if_false, Bool.false_eq_true, cx_failBy, mm_fails, gLet, gB2_some]
              exact ⟨_, G, S, _, _, rfl, rfl, hR0.fault 3⟩
            by_cases t2 : nI L < y3
            · simp only [t1, t2, if_true, gB1_some, b3, if_false, Bool.false_eq_true, cx_failBy, mm_fails, gLet, gB2_some]
              exact ⟨_, G, S, _, _, rfl, rfl, hR0.fault 3⟩
            obtain ⟨p, hp, rfl⟩ := nI_of t1
            have u1 : p ≤ L := Nat.le_of_not_lt fun h => t2 (nI_lt h hp)
            simp only [t1, t2, if_false, pk_sub u1]
            by_cases t3 : L - p < n
            · have t3a : nI (L - p) < nI n := nI_lt t3 (by omega)
              have t3b : ¬ nI n ≤ nI (L - p) := nI_ge t3 (by omega)
              simp only [t3a, t3b, if_true, gB1_some, b3, if_false, Bool.false_eq_true, cx_failBy, mm_fails, gLet, gB2_some]
              exact ⟨_, G, S, _, _, rfl, rfl, hR0.fault 3⟩
            · have t3a : ¬ nI (L - p) < nI n := nI_nlt (by omega) (by omega)
              have t3b : nI n ≤ nI (L - p) := nI_le (by omega) (by omega)
              simp only [t3a, t3b, if_true, if_false, gB1_some, cx_townMake, ix2, nI_add]
              have hH : TWH X0.1 k p n (X0.1.2 (2 + k)) := ⟨hk, L, hL, by omega, c1, rfl⟩
              have hD : TWD μ0 (60 * k + p) p n (X0.1.2 (2 + k)) := ⟨by omega, fun j hj => by
                have := hX.2.2.2 k hk (by omega) (p + j) (by omega)
                rw [this, Nat.add_assoc]⟩
              rcases tw_read hH hD (MK.num μ0 15 (nI (60 * k + p)) (by decide)) sS_s with ⟨q, τ', σ', q1, q2, q3, q4, q5⟩ | ⟨gc, sc, τ', σ', a1, a2, a3, a4, a5, a6, a7, a8, a9, a10, a11, a12, a13⟩
              · rw [q2, q3]
                simp only [gB2_some, if_neg (nI_m9 (show q < 2 ^ 31 by omega)), if_false, Bool.false_eq_true]
                refine ⟨(-100) - nI q, G, S, X0, σ', rfl, ?_, hR0.keep (CK.refl X0) q5⟩
                rw [q4, pk_sub (by omega), Nat.add_sub_cancel_left]
              · rw [a1, a2]
                obtain ⟨ok, μ', z1, z2⟩ := town_made (L := L) hR0 hH a3 a4 a5 a6 a7 a8 a9 a10 a11 a12 a13
                have w17 : (sS σ' 5 (nI gc)).1 17 = nI sc := (sS_k (by decide)).trans a10
                simp only [gB2_some, if_true, a3.2.2.1, a3.2.2.2, nI_clamp (show gc < 2 ^ 31 by omega), nI_clamp (show sc < 2 ^ 31 by omega), ok, a9, w17]
                exact ⟨nI sc, gc, sc, _, μ', rfl, z1, z2⟩
          · have n1 : y4 < 0 := Int32.not_le.mp n0
            simp only [n0, if_false, b4, cx_failBy, mm_fails, gLet, gB2_some, gB1_some]
            exact ⟨_, G, S, _, _, rfl, rfl, hR0.fault 4⟩
        · simp only [hl2, if_false, gB1_some, b2, cx_failBy, mm_fails, gLet, gB2_some]
          exact ⟨_, G, S, _, _, rfl, rfl, hR0.fault 2⟩
  · rw [e1, e2]
    exact ⟨-1, G, S, X0, μ0, rfl, rfl, hR0⟩
