/-! town: the text, code by code, on both sides -/
def TWC (τ : gS) (p n gc sc : Nat) : Prop := τ.1 0 = nI p ∧ τ.1 1 = nI n ∧ τ.1 2 = nI gc ∧ τ.1 3 = nI sc
def TWH (σc : gS) (k p n : Nat) (C : Nat → Int32) : Prop := k < 4 ∧ ∃ L, L ≤ 60 ∧ p + n ≤ L ∧ σc.2 1 k = nI L ∧ σc.2 (2 + k) = C
theorem tw_n {σc : gS} {k p n : Nat} {C : Nat → Int32} (h : TWH σc k p n C) : p + n ≤ 60 := by
  obtain ⟨_, L, h1, h2, _⟩ := h
  omega
theorem tw_code {σc τ : gS} {k p n gc sc q : Nat} {C : Nat → Int32} (h : TWH σc k p n C) (hτ : TWC τ p n gc sc) (hq : q < n) : tt_codeAt σc k τ (nI q) = some (C (p + q)) := by
  obtain ⟨hk, L, h1, h2, h3, h4⟩ := h
  unfold tt_codeAt
  rw [if_pos hk, hτ.1, nI_add, read_nat hk h3 h1 (show p + q < L by omega), h4]
  rfl
theorem tw_step {σc τ τ' : gS} {k p n gc sc q N : Nat} {b : Bool} (hτ : TWC τ p n gc sc) (hn : n ≤ 60) (hq : q < n) (hg : tt_goesOn σc k τ (nI q) = some (b, τ')) : tt_firstFault_b2 σc k (N + 1) (nI q) τ = if b = true then tt_firstFault_b2 σc k N (nI (q + 1)) τ' else some (nI q, τ') := by
  conv => lhs; unfold tt_firstFault_b2
  rw [hτ.2.1, if_neg (nI_ge hq (by omega)), hg]
  simp only [gB2_some, nI_1]
theorem tw_end {σc τ : gS} {k p n gc sc N : Nat} (hτ : TWC τ p n gc sc) (hn : n ≤ 60) (hs : sc ≤ 4) : tt_firstFault_b2 σc k (N + 1) (nI n) τ = if 0 < sc ∧ n % 4 = 1 then some ((-9), τ) else some (nI n, τ) := by
  have a4 : (4 : Int32) = nI 4 := rfl
  unfold tt_firstFault_b2 tt_firstFault_b47 tt_firstFault_b48
  rw [hτ.2.1, hτ.2.2.2, if_pos (nI_le (Nat.le_refl _) (by omega)), a4, pk_rem (by omega) (by decide) (by decide), if_pos (show (0 : Int32) = 0 from rfl), if_neg (show ¬ (1 : Int32) = 0 by decide)]
  by_cases h0 : 0 < sc
  · rw [if_neg (nI_nle h0 (by omega))]
    by_cases h1 : n % 4 = 1
    · rw [if_pos (show nI (n % 4) = 1 by rw [h1]; rfl), if_pos ⟨h0, h1⟩]
    · rw [if_neg (show ¬ nI (n % 4) = 1 from fun q => h1 ((nI_eq (b := 1) (by omega) (by decide)).mp q)), if_neg (fun q => h1 q.2)]
  · have : sc = 0 := by omega
    subst this
    rw [if_pos (by decide), if_neg (fun q => h0 q.1)]
theorem tw_goes0 {σc τ : gS} {k p n gc sc : Nat} {C : Nat → Int32} (h : TWH σc k p n C) (hτ : TWC τ p n gc sc) (hq : 0 < n) : tt_goesOn σc k τ (nI 0) = some (decide (C (p + 0) = 106), τ) := by
  unfold tt_goesOn
  rw [tw_code h hτ hq]
  simp only [gB1_some]
  rw [if_pos (show nI 0 = 0 from rfl)]
  by_cases c : C (p + 0) = 106
  · rw [if_pos c, decide_eq_true c]
  · rw [if_neg c, decide_eq_false c]
theorem tw_rem {i t : Nat} (hi : i ≤ 60) (ht : t < 4) : nI (1 + 4 * i + t) - 1 - (nI (1 + 4 * i + t) - 1) / 4 * 4 = nI t := by
  have a4 : (4 : Int32) = nI 4 := rfl
  have a1 : nI (1 + 4 * i + t) - 1 = nI (4 * i + t) := by
    rw [show 1 + 4 * i + t = 4 * i + t + 1 by omega]
    exact nI_pred _
  rw [a1, a4, pk_rem (by omega) (by decide) (by decide)]
  congr 1
  omega
theorem tw_goesB {σc τ : gS} {k p n gc sc i : Nat} {C : Nat → Int32} (h : TWH σc k p n C) (hτ : TWC τ p n gc sc) (hq : 1 + 4 * i < n) : tt_goesOn σc k τ (nI (1 + 4 * i)) = tt_beginsItem σc k τ (C (p + (1 + 4 * i))) := by
  have hn := tw_n h
  have e := tw_rem (i := i) (t := 0) (by omega) (by decide)
  rw [Nat.add_zero] at e
  unfold tt_goesOn
  rw [tw_code h hτ hq]
  simp only [gB1_some, gLet]
  rw [if_neg (nI_ne0 (by omega) (by omega)), e, if_pos (show nI 0 = 0 from rfl)]
  cases tt_beginsItem σc k τ (C (p + (1 + 4 * i))) with
  | none => rfl
  | some z => rfl
theorem tw_goesG {σc τ : gS} {k p n gc i t : Nat} {C : Nat → Int32} (h : TWH σc k p n C) (hτ : TWC τ p n gc 0) (hq : 1 + 4 * i + t < n) (ht : 0 < t) (ht4 : t < 4) : tt_goesOn σc k τ (nI (1 + 4 * i + t)) = gB1 (tt_fitsGate (nI t) (C (p + (1 + 4 * i + t)))) fun r => some (r, τ) := by
  have hn := tw_n h
  unfold tt_goesOn
  rw [tw_code h hτ hq]
  simp only [gB1_some, gLet]
  rw [if_neg (nI_ne0 (by omega) (by omega)), tw_rem (by omega) ht4, if_neg (nI_ne0 ht (by omega)), hτ.2.2.2, if_pos (show nI 0 = 0 from rfl)]
theorem tw_goesS {σc τ : gS} {k p n gc sc i t : Nat} {C : Nat → Int32} (h : TWH σc k p n C) (hτ : TWC τ p n gc sc) (hs : 0 < sc) (hs4 : sc ≤ 4) (hq : 1 + 4 * i + t < n) (ht : 0 < t) (ht4 : t < 4) : tt_goesOn σc k τ (nI (1 + 4 * i + t)) = gB1 (tt_fitsStory (nI t) (C (p + (1 + 4 * i + t)))) fun r => some (r, τ) := by
  have hn := tw_n h
  unfold tt_goesOn
  rw [tw_code h hτ hq]
  simp only [gB1_some, gLet]
  rw [if_neg (nI_ne0 (by omega) (by omega)), tw_rem (by omega) ht4, if_neg (nI_ne0 ht (by omega)), hτ.2.2.2, if_neg (nI_ne0 hs (by omega))]
theorem tb_comma {σc τ : gS} {k p n gc : Nat} {c : Int32} (hτ : TWC τ p n gc 0) (hg : gc < 5) (hc : c = 44) : tt_beginsItem σc k τ c = some (true, sS τ 2 (nI (gc + 1))) := by
  unfold tt_beginsItem
  rw [if_pos hc, hτ.2.2.2, hτ.2.2.1, if_pos (show nI 0 = 0 from rfl), if_neg (show ¬ (5 : Int32) ≤ nI gc from nI_ge (b := 5) hg (by decide)), nI_1]
  rfl
theorem tb_semi {σc τ : gS} {k p n gc sc : Nat} {c : Int32} (hτ : TWC τ p n gc sc) (hg : 0 < gc) (hg5 : gc ≤ 5) (hs : sc < 4) (hc : c = 59) : tt_beginsItem σc k τ c = some (true, sS τ 3 (nI (sc + 1))) := by
  unfold tt_beginsItem tt_beginsItem_b33
  rw [if_neg (show ¬ c = 44 by rw [hc]; decide), if_pos hc, hτ.2.2.1, hτ.2.2.2, if_neg (nI_nle hg (by omega)), if_neg (show ¬ (4 : Int32) ≤ nI sc from nI_ge (b := 4) hs (by decide)), nI_1]
  rfl
theorem tb_no {σc τ : gS} {k p n gc sc : Nat} {c : Int32} (hτ : TWC τ p n gc sc) (hg5 : gc ≤ 5) (hs4 : sc ≤ 4) (h1 : c = 44 → 0 < sc ∨ gc = 5) (h2 : c = 59 → gc = 0 ∨ sc = 4) : tt_beginsItem σc k τ c = some (false, τ) := by
  have hb : tt_beginsItem_b33 σc k c τ = some (false, τ) := by
    unfold tt_beginsItem_b33
    by_cases c2 : c = 59
    · rw [if_pos c2, hτ.2.2.1, hτ.2.2.2]
      rcases h2 c2 with h | h
      · rw [h, if_pos (by decide)]
      · rw [h]
        by_cases h0 : nI gc ≤ 0
        · rw [if_pos h0]
        · rw [if_neg h0, if_pos (by decide)]
    · rw [if_neg c2]
  unfold tt_beginsItem
  rw [hb]
  by_cases c1 : c = 44
  · rw [if_pos c1, hτ.2.2.2, hτ.2.2.1]
    rcases h1 c1 with h | h
    · rw [if_neg (nI_ne0 h (by omega))]
    · by_cases h0 : nI sc = 0
      · rw [if_pos h0, h, if_pos (by decide)]
      · rw [if_neg h0]
  · rw [if_neg c1]
theorem TWC.gate {τ : gS} {p n gc sc : Nat} (h : TWC τ p n gc sc) : TWC (sS τ 2 (nI (gc + 1))) p n (gc + 1) sc := ⟨h.1, h.2.1, rfl, h.2.2.2⟩
theorem TWC.story {τ : gS} {p n gc sc : Nat} (h : TWC τ p n gc sc) : TWC (sS τ 3 (nI (sc + 1))) p n gc (sc + 1) := ⟨h.1, h.2.1, h.2.2.1, rfl⟩
/-- the reference's place and counts; all that it has changed are working rows -/
def TWM (σ0 σ : gS) (b q gc sc : Nat) : Prop := MK σ0 σ ∧ σ.1 15 = nI (b + q) ∧ σ.1 16 = nI gc ∧ σ.1 17 = nI sc
theorem TWM.arr {σ0 σ : gS} {b q gc sc : Nat} (h : TWM σ0 σ b q gc sc) (k i : Nat) (x : Int32) (hk : k = 18 ∨ k = 19) : TWM σ0 (sA σ k i x) b q gc sc := ⟨h.1.trans (MK.arr σ k i x (by omega)), h.2⟩
theorem TWM.go {σ0 σ : gS} {b q gc sc : Nat} (h : TWM σ0 σ b q gc sc) : TWM σ0 (sS σ 15 (nI (b + q + 1))) b (q + 1) gc sc := ⟨h.1.trans (MK.num σ 15 _ (by decide)), rfl, h.2.2⟩
def TWD (σ0 : gS) (b p n : Nat) (C : Nat → Int32) : Prop := b + n ≤ 240 ∧ ∀ j, j < n → σ0.2 4 (b + j) = C (p + j)
theorem tm_sign {σ0 σ : gS} {b p n q gc sc : Nat} {C : Nat → Int32} (hd : TWD σ0 b p n C) (hq : q ≤ n) (h : TWM σ0 σ b q gc sc) (x : Int32) : (q < n ∧ C (p + q) = x ∧ mm_isSign σ (nI (b + n)) x = some (true, sS σ 15 (nI (b + q + 1)))) ∨ ((q = n ∨ ¬ C (p + q) = x) ∧ mm_isSign σ (nI (b + n)) x = some (false, σ)) := by
  have hb := hd.1
  unfold mm_isSign
  rw [h.2.1]
  by_cases hqn : q = n
  · exact Or.inr ⟨Or.inl hqn, by rw [if_pos (nI_le (by omega) (by omega))]⟩
  · have e : σ.2 4 (b + q) = C (p + q) := by rw [h.1.2 4 (by decide)]; exact hd.2 q (by omega)
    rw [if_neg (nI_ge (by omega) (by omega)), if_pos (gin_of (by omega) (by decide)), nI_clamp (by omega), e, nI_1]
    by_cases c : C (p + q) = x
    · exact Or.inl ⟨by omega, c, by rw [if_pos c]; rfl⟩
    · exact Or.inr ⟨Or.inr c, by rw [if_neg c]⟩
theorem wI_48 {x : Int32} {lo hi : Nat} (h : wI x (nI (48 + lo)) (nI (48 + hi)) = true) (hh : hi ≤ 9) (hl : lo ≤ hi) : ∃ d, lo ≤ d ∧ d ≤ hi ∧ x = nI (48 + d) := by
  obtain ⟨h1, h2⟩ := wI_t h
  have h0 : ¬ x < 0 := fun q => h1 (Int32.lt_of_lt_of_le q (nI_pos' (by omega)))
  obtain ⟨j, hj, rfl⟩ := nI_of h0
  have l1 : 48 + lo ≤ j := Nat.le_of_not_lt fun q => h1 (nI_lt q (by omega))
  have l2 : j ≤ 48 + hi := Nat.le_of_not_lt fun q => h2 (nI_lt q (by omega))
  exact ⟨j - 48, by omega, by omega, congrArg nI (by omega)⟩
theorem tm_digit {σ0 σ : gS} {b p n q gc sc : Nat} {C : Nat → Int32} (hd : TWD σ0 b p n C) (hq : q ≤ n) (h : TWM σ0 σ b q gc sc) (lo hi : Nat) {x y : Int32} (hx : x = nI lo) (hy : y = nI hi) (hh : hi ≤ 9) (hl : lo ≤ hi) : (q < n ∧ ∃ d, lo ≤ d ∧ d ≤ hi ∧ C (p + q) = nI (48 + d) ∧ wI (C (p + q)) (nI (48 + lo)) (nI (48 + hi)) = true ∧ mm_digit σ (nI (b + n)) x y = some (nI d, sS σ 15 (nI (b + q + 1)))) ∨ ((q = n ∨ (q < n ∧ wI (C (p + q)) (nI (48 + lo)) (nI (48 + hi)) = false)) ∧ mm_digit σ (nI (b + n)) x y = some ((-9), σ)) := by
  subst hx
  subst hy
  have hb := hd.1
  have a48 : (48 : Int32) = nI 48 := rfl
  unfold mm_digit
  rw [h.2.1]
  by_cases hqn : q = n
  · exact Or.inr ⟨Or.inl hqn, by rw [if_pos (nI_le (by omega) (by omega))]⟩
  · have e : σ.2 4 (b + q) = C (p + q) := by rw [h.1.2 4 (by decide)]; exact hd.2 q (by omega)
    rw [if_neg (nI_ge (by omega) (by omega)), if_pos (gin_of (by omega) (by decide)), nI_clamp (by omega), e, nI_1, within_eq, a48, nI_add, nI_add]
    simp only [gB1_some, gLet, sS_s, nI_pred, sS_2, nI_clamp (show b + q < 2 ^ 31 by omega), gin_of (show b + q < 240 by omega) (by decide), if_true, e]
    cases hw : wI (C (p + q)) (nI (48 + lo)) (nI (48 + hi)) with
    | false => exact Or.inr ⟨Or.inr ⟨by omega, rfl⟩, rfl⟩
    | true =>
      obtain ⟨d, d1, d2, d3⟩ := wI_48 hw hh hl
      refine Or.inl ⟨by omega, d, d1, d2, d3, rfl, ?_⟩
      rw [if_pos rfl, d3, pk_sub (by omega)]
      have : 48 + d - 48 = d := by omega
      rw [this]
theorem tw_kind (c : Int32) : (∃ kd : Nat, kd ≤ 2 ∧ tt_kindOf c = some (nI kd) ∧ ∀ (v1 v2 : Int32) (σ : gS), mm_readOneGate_b28 v1 v2 c σ = mm_readOneGate_b66 v1 v2 v2 (nI kd) σ) ∨ (tt_kindOf c = some (-9) ∧ ∀ (v1 v2 : Int32) (σ : gS), mm_readOneGate_b28 v1 v2 c σ = mm_readOneGate_b66 v1 v2 v2 (-9) σ) := by
  unfold tt_kindOf mm_readOneGate_b28
  by_cases c1 : c = 103
  · exact Or.inl ⟨0, by decide, by rw [if_pos c1]; rfl, fun _ _ _ => by rw [if_pos c1]; rfl⟩
  · by_cases c2 : c = 108
    · have c3 : ¬ c = 115 := by rw [c2]; decide
      exact Or.inl ⟨2, by decide, by rw [if_neg c1, if_pos c2]; rfl, fun _ _ _ => by rw [if_neg c1, if_neg c3, if_pos c2]; rfl⟩
    · by_cases c3 : c = 115
      · exact Or.inl ⟨1, by decide, by rw [if_neg c1, if_neg c2, if_pos c3]; rfl, fun _ _ _ => by rw [if_neg c1, if_pos c3]; rfl⟩
      · exact Or.inr ⟨by rw [if_neg c1, if_neg c2, if_neg c3], fun _ _ _ => by rw [if_neg c1, if_neg c3, if_neg c2]⟩
