/-! town: the whole text on both sides -/
def TWR (σ0 : gS) (C : Nat → Int32) (b p n : Nat) (rc : Option (Int32 × gS)) (rm : Option (Bool × gS)) : Prop := (∃ (q : Nat) (τ' σ' : gS), q ≤ n ∧ rc = some (nI q, τ') ∧ rm = some (false, σ') ∧ σ'.1 15 = nI (b + q) ∧ MK σ0 σ') ∨ (∃ (gc sc : Nat) (τ' σ' : gS), rc = some ((-9), τ') ∧ rm = some (true, σ') ∧ TWC τ' p n gc sc ∧ 0 < gc ∧ gc ≤ 5 ∧ 0 < sc ∧ sc ≤ 4 ∧ 4 * (gc + sc) < n ∧ σ'.1 16 = nI gc ∧ σ'.1 17 = nI sc ∧ (∀ g, g < gc → ZGF C p g σ') ∧ (∀ s, s < sc → ZSF C p gc s σ') ∧ MK σ0 σ')
theorem tw_stop {σc τ σ0 σ : gS} {k b p n gc sc q N : Nat} {C : Nat → Int32} (h : TWH σc k p n C) (hd : TWD σ0 b p n C) (hτ : TWC τ p n gc sc) (hg : 0 < gc) (hg5 : gc ≤ 5) (hs : 0 < sc) (hs4 : sc ≤ 4) (hm : TWM σ0 σ b q gc sc) (hq : q = 1 + 4 * (gc + sc)) (hqn : q ≤ n) (hG : ∀ g, g < gc → ZGF C p g σ) (hS : ∀ s, s < sc → ZSF C p gc s σ) (hc : q = n ∨ ¬ C (p + q) = 59 ∨ sc = 4) : TWR σ0 C b p n (tt_firstFault_b2 σc k (N + 1) (nI q) τ) (mm_readTown_b116 (nI (b + n)) σ) := by
  have hn := tw_n h
  have hb := hd.1
  unfold mm_readTown_b116
  rw [hm.2.1]
  by_cases e : q = n
  · refine Or.inr ⟨gc, sc, τ, σ, ?_, ?_, hτ, hg, hg5, hs, hs4, by omega, hm.2.2.1, hm.2.2.2, hG, hS, hm.1⟩
    · rw [e, tw_end hτ (by omega) hs4, if_pos ⟨hs, by omega⟩]
    · rw [if_pos (by rw [e])]
  · have hl : q < n := by omega
    refine Or.inl ⟨q, τ, σ, hqn, ?_, ?_, hm.2.1, hm.1⟩
    · subst hq
      rw [tw_step hτ (by omega) hl ((tw_goesB h hτ hl).trans (tb_no hτ hg5 hs4 (fun _ => Or.inl hs) (fun q => (hc.resolve_left e).elim (fun z => absurd q z) Or.inr))), if_neg (by decide)]
    · rw [if_neg (fun z => e (by have := (nI_eq (by omega) (by omega)).mp z; omega))]
theorem ZGF.keep {C : Nat → Int32} {p g : Nat} {σ σ' : gS} (h : ZGF C p g σ) (e : ∀ j, j < 3 * g + 3 → σ'.2 18 j = σ.2 18 j) : ZGF C p g σ' := by
  obtain ⟨kd, rt, df, a, b, c, d, f, i, j, l, m, o⟩ := h
  exact ⟨kd, rt, df, a, b, c, d, f, i, j, (e _ (by omega)).trans l, (e _ (by omega)).trans m, (e _ (by omega)).trans o⟩
theorem ZSF.keep {C : Nat → Int32} {p gc s : Nat} {σ σ' : gS} (h : ZSF C p gc s σ) (e : ∀ j, j < 3 * s + 3 → σ'.2 19 j = σ.2 19 j) : ZSF C p gc s σ' := by
  obtain ⟨la, pe, bo, a, b, c, d, f, i, j, l, m, o⟩ := h
  exact ⟨la, pe, bo, a, b, c, d, f, i, j, (e _ (by omega)).trans l, (e _ (by omega)).trans m, (e _ (by omega)).trans o⟩
theorem tw_stories {σc σ0 : gS} {k b p n gc : Nat} {C : Nat → Int32} (h : TWH σc k p n C) (hd : TWD σ0 b p n C) (hg : 0 < gc) (hg5 : gc ≤ 5) : ∀ (m sc q N N' : Nat) (τ σ : gS), sc + m = 4 → 0 < sc → m < N' → q = 1 + 4 * (gc + sc) → q ≤ n → n + 6 < N + q → TWC τ p n gc sc → TWM σ0 σ b q gc sc → (∀ g, g < gc → ZGF C p g σ) → (∀ s, s < sc → ZSF C p gc s σ) → TWR σ0 C b p n (tt_firstFault_b2 σc k N (nI q) τ) (mm_readTown_b88 N' (nI (b + n)) σ) := by
  have hn := tw_n h
  intro m
  induction m with
  | zero =>
    intro sc q N N' τ σ hs hs0 hN' hq hqn hN hτ hm hG hS
    obtain ⟨N, rfl⟩ : ∃ z, N = z + 1 := ⟨N - 1, by omega⟩
    obtain ⟨N', rfl⟩ : ∃ z, N' = z + 1 := ⟨N' - 1, by omega⟩
    have e4 : sc = 4 := by omega
    unfold mm_readTown_b88
    rw [hm.2.2.2, if_pos (show (4 : Int32) ≤ nI sc by rw [e4]; decide)]
    exact tw_stop h hd hτ hg hg5 hs0 (by omega) hm hq hqn hG hS (Or.inr (Or.inr e4))
  | succ m ih =>
    intro sc q N N' τ σ hs hs0 hN' hq hqn hN hτ hm hG hS
    obtain ⟨N, rfl⟩ : ∃ z, N = z + 5 := ⟨N - 5, by omega⟩
    obtain ⟨N', rfl⟩ : ∃ z, N' = z + 1 := ⟨N' - 1, by omega⟩
    unfold mm_readTown_b88
    rw [hm.2.2.2, if_neg (show ¬ (4 : Int32) ≤ nI sc from nI_ge (b := 4) (by omega) (by decide))]
    rcases tm_sign hd hqn hm 59 with ⟨hl, hc, e⟩ | ⟨hc, e⟩
    · rw [e]
      simp only [gB2_some, if_true]
      have c1 : tt_firstFault_b2 σc k (N + 4 + 1) (nI q) τ = tt_firstFault_b2 σc k (N + 4) (nI (q + 1)) (sS τ 3 (nI (sc + 1))) := by
        subst hq
        rw [tw_step hτ (by omega) hl ((tw_goesB h hτ hl).trans (tb_semi hτ hg hg5 (by omega) hc)), if_pos rfl]
      rcases tw_story (N := N) h hd hτ.story (by omega) hm.go (show q + 1 = 2 + 4 * (gc + sc) by omega) (by omega) with ⟨q', σ', a1, a2, a3, a4, a5⟩ | ⟨σ', a1, a2, a3, a4, a5, a6, a7⟩
      · refine Or.inl ⟨q', sS τ 3 (nI (sc + 1)), σ', a1, c1.trans a2, ?_, a4, a5⟩
        rw [a3]
        rfl
      · rw [a3]
        simp only [gB2_some, if_true]
        rw [show N + 5 = N + 4 + 1 from rfl, c1, a2]
        exact ih (sc + 1) (q + 1 + 3) (N + 1) N' _ σ' (by omega) (by omega) (by omega) (by omega) a1 (by omega) hτ.story a4 (fun g hg => (hG g hg).keep (fun j _ => by rw [a5]; rfl)) (fun s hs' => by
          by_cases es : s = sc
          · rw [es]; exact a7
          · exact (hS s (by omega)).keep (fun j hj => by rw [a6 j (by omega)]; rfl))
    · rw [e]
      simp only [gB2_some, if_false, Bool.false_eq_true]
      exact tw_stop h hd hτ hg hg5 hs0 (by omega) hm hq hqn hG hS (hc.imp id Or.inl)
theorem tw_first {σc τ σ0 σ : gS} {k b p n gc q N : Nat} {C : Nat → Int32} (h : TWH σc k p n C) (hd : TWD σ0 b p n C) (hg : 0 < gc) (hg5 : gc ≤ 5) (hτ : TWC τ p n gc 0) (hm : TWM σ0 σ b q gc 0) (hq : q = 1 + 4 * gc) (hqn : q ≤ n) (hN : n + 6 < N + q) (hG : ∀ g, g < gc → ZGF C p g σ) (hc4 : q = n ∨ ¬ C (p + q) = 44 ∨ gc = 5) : TWR σ0 C b p n (tt_firstFault_b2 σc k N (nI q) τ) (mm_readTown_b68 (nI (b + n)) σ) := by
  have hn := tw_n h
  obtain ⟨N, rfl⟩ : ∃ z, N = z + 5 := ⟨N - 5, by omega⟩
  unfold mm_readTown_b68
  rcases tm_sign hd hqn hm 59 with ⟨hl, hc, e⟩ | ⟨hc, e⟩
  · rw [e]
    simp only [gB2_some, if_true]
    have c1 : tt_firstFault_b2 σc k (N + 4 + 1) (nI q) τ = tt_firstFault_b2 σc k (N + 4) (nI (q + 1)) (sS τ 3 (nI (0 + 1))) := by
      subst hq
      rw [tw_step hτ (by omega) hl ((tw_goesB h hτ hl).trans (tb_semi hτ hg hg5 (by omega) hc)), if_pos rfl]
    rcases tw_story (N := N) h hd hτ.story (by omega) hm.go (show q + 1 = 2 + 4 * (gc + 0) by omega) (by omega) with ⟨q', σ', a1, a2, a3, a4, a5⟩ | ⟨σ', a1, a2, a3, a4, a5, a6, a7⟩
    · refine Or.inl ⟨q', sS τ 3 (nI (0 + 1)), σ', a1, c1.trans a2, ?_, a4, a5⟩
      rw [a3]
      rfl
    · rw [a3]
      simp only [gB2_some, if_true]
      rw [show N + 5 = N + 4 + 1 from rfl, c1, a2]
      exact tw_stories h hd hg hg5 3 1 (q + 1 + 3) (N + 1) 1000 _ σ' (by omega) (by omega) (by omega) (by omega) a1 (by omega) hτ.story a4 (fun g hg => (hG g hg).keep (fun j _ => by rw [a5]; rfl)) (fun s hs' => by
        have es : s = 0 := by omega
        rw [es]; exact a7)
  · rw [e]
    refine Or.inl ⟨q, τ, σ, hqn, ?_, rfl, hm.2.1, hm.1⟩
    by_cases e1 : q = n
    · rw [e1, tw_end (N := N + 4) hτ (by omega) (by decide), if_neg (by omega)]
    · have hl : q < n := by omega
      subst hq
      rw [tw_step (N := N + 4) hτ (by omega) hl ((tw_goesB h hτ hl).trans (tb_no hτ hg5 (by decide) (fun z => (hc4.resolve_left e1).elim (fun w => absurd z w) Or.inr) (fun z => absurd z (hc.resolve_left e1)))), if_neg (by decide)]
theorem tw_gates {σc σ0 : gS} {k b p n : Nat} {C : Nat → Int32} (h : TWH σc k p n C) (hd : TWD σ0 b p n C) : ∀ (m gc q N N' : Nat) (τ σ : gS), gc + m = 5 → 0 < gc → m < N' → q = 1 + 4 * gc → q ≤ n → n + 6 < N + q → TWC τ p n gc 0 → TWM σ0 σ b q gc 0 → (∀ g, g < gc → ZGF C p g σ) → TWR σ0 C b p n (tt_firstFault_b2 σc k N (nI q) τ) (mm_readTown_b40 N' (nI (b + n)) σ) := by
  have hn := tw_n h
  intro m
  induction m with
  | zero =>
    intro gc q N N' τ σ hs hs0 hN' hq hqn hN hτ hm hG
    obtain ⟨N', rfl⟩ : ∃ z, N' = z + 1 := ⟨N' - 1, by omega⟩
    have e5 : gc = 5 := by omega
    unfold mm_readTown_b40
    rw [hm.2.2.1, if_pos (show (5 : Int32) ≤ nI gc by rw [e5]; decide)]
    exact tw_first h hd hs0 (by omega) hτ hm hq hqn hN hG (Or.inr (Or.inr e5))
  | succ m ih =>
    intro gc q N N' τ σ hs hs0 hN' hq hqn hN hτ hm hG
    obtain ⟨N', rfl⟩ : ∃ z, N' = z + 1 := ⟨N' - 1, by omega⟩
    unfold mm_readTown_b40
    rw [hm.2.2.1, if_neg (show ¬ (5 : Int32) ≤ nI gc from nI_ge (b := 5) (by omega) (by decide))]
    rcases tm_sign hd hqn hm 44 with ⟨hl, hc, e⟩ | ⟨hc, e⟩
    · obtain ⟨N, rfl⟩ : ∃ z, N = z + 5 := ⟨N - 5, by omega⟩
      rw [e]
      simp only [gB2_some, if_true]
      have c1 : tt_firstFault_b2 σc k (N + 4 + 1) (nI q) τ = tt_firstFault_b2 σc k (N + 4) (nI (q + 1)) (sS τ 2 (nI (gc + 1))) := by
        subst hq
        rw [tw_step hτ (by omega) hl ((tw_goesB h hτ hl).trans (tb_comma hτ (by omega) hc)), if_pos rfl]
      rcases tw_gate (N := N) h hd hτ.gate (by omega) hm.go (show q + 1 = 2 + 4 * gc by omega) (by omega) with ⟨q', σ', a1, a2, a3, a4, a5⟩ | ⟨σ', a1, a2, a3, a4, a6, a7⟩
      · refine Or.inl ⟨q', sS τ 2 (nI (gc + 1)), σ', a1, c1.trans a2, ?_, a4, a5⟩
        rw [a3]
        rfl
      · rw [a3]
        simp only [gB2_some, if_true]
        rw [show N + 5 = N + 4 + 1 from rfl, c1, a2]
        exact ih (gc + 1) (q + 1 + 3) (N + 1) N' _ σ' (by omega) (by omega) (by omega) (by omega) a1 (by omega) hτ.gate a4 (fun s hs' => by
          by_cases es : s = gc
          · rw [es]; exact a7
          · exact (hG s (by omega)).keep (fun j hj => by rw [a6 j (by omega)]; rfl))
    · rw [e]
      simp only [gB2_some, if_false, Bool.false_eq_true]
      exact tw_first h hd hs0 (by omega) hτ hm hq hqn hN hG (hc.imp id Or.inl)
theorem tw_read {σc σ0 σ : gS} {k b p n : Nat} {C : Nat → Int32} (h : TWH σc k p n C) (hd : TWD σ0 b p n C) (hm : MK σ0 σ) (h15 : σ.1 15 = nI b) : TWR σ0 C b p n (tt_firstFault σc k (tau0 (nI p) (nI n))) (mm_readTown σ (nI (b + n))) := by
  have hn := tw_n h
  have hτ : TWC (tau0 (nI p) (nI n)) p n 0 0 := ⟨rfl, rfl, rfl, rfl⟩
  have hm0 : TWM σ0 (sS (sS σ 16 0) 17 0) b 0 0 0 := ⟨(hm.trans (MK.num σ 16 0 (by decide))).trans (MK.num _ 17 0 (by decide)), h15, rfl, rfl⟩
  unfold tt_firstFault mm_readTown
  generalize tau0 (nI p) (nI n) = τ at hτ
  have e0 : tt_firstFault_b2 σc k 1000 0 τ = tt_firstFault_b2 σc k (999 + 1) (nI 0) τ := rfl
  rw [e0]
  simp only [gLet]
  rcases tm_sign hd (Nat.zero_le n) hm0 106 with ⟨hl, hc, e⟩ | ⟨hc, e⟩
  · rw [e, tw_step hτ (by omega) hl (tw_goes0 h hτ hl), if_pos (decide_eq_true hc)]
    simp only [gB2_some, if_true]
    have hm1 := hm0.go
    rcases tm_sign hd (show 0 + 1 ≤ n by omega) hm1 44 with ⟨hl2, hc2, e2⟩ | ⟨hc2, e2⟩
    · rw [e2]
      simp only [gB2_some, if_true]
      have c1 : tt_firstFault_b2 σc k (994 + 4 + 1) (nI (0 + 1)) τ = tt_firstFault_b2 σc k (994 + 4) (nI (0 + 1 + 1)) (sS τ 2 (nI (0 + 1))) := by
        rw [tw_step hτ (by omega) hl2 ((tw_goesB (i := 0) h hτ hl2).trans (tb_comma hτ (by omega) hc2)), if_pos rfl]
      rcases tw_gate (N := 994) h hd hτ.gate (by omega) hm1.go (show 0 + 1 + 1 = 2 + 4 * 0 by omega) (by omega) with ⟨q', σ', a1, a2, a3, a4, a5⟩ | ⟨σ', a1, a2, a3, a4, a6, a7⟩
      · refine Or.inl ⟨q', sS τ 2 (nI (0 + 1)), σ', a1, c1.trans a2, ?_, a4, a5⟩
        rw [a3]
        rfl
      · rw [a3]
        simp only [gB2_some, if_true]
        rw [show (999 : Nat) = 994 + 4 + 1 from rfl, c1, a2]
        exact tw_gates h hd 4 1 (0 + 1 + 1 + 3) (994 + 1) 1000 _ σ' (by omega) (by omega) (by omega) (by omega) a1 (by omega) hτ.gate a4 (fun s hs' => by
          have es : s = 0 := by omega
          rw [es]; exact a7)
    · rw [e2]
      refine Or.inl ⟨0 + 1, τ, _, by omega, ?_, rfl, hm1.2.1, hm1.1⟩
      by_cases e1 : 0 + 1 = n
      · rw [e1, tw_end (N := 998) hτ (by omega) (by decide), if_neg (by omega)]
      · have hl2 : 0 + 1 < n := by omega
        rw [tw_step (N := 998) hτ (by omega) hl2 ((tw_goesB (i := 0) h hτ hl2).trans (tb_no hτ (by decide) (by decide) (fun z => absurd z (hc2.resolve_left e1)) (fun z => Or.inl rfl))), if_neg (by decide)]
  · rw [e]
    refine Or.inl ⟨0, τ, _, by omega, ?_, rfl, hm0.2.1, hm0.1⟩
    by_cases e1 : 0 = n
    · rw [e1, tw_end (N := 999) hτ (by omega) (by decide), if_neg (by omega)]
    · have hl : 0 < n := by omega
      rw [tw_step (N := 999) hτ (by omega) hl (tw_goes0 h hτ hl), if_neg (by rw [decide_eq_false (hc.resolve_left e1)]; decide)]
