/-! pure steps: sheets -/
theorem RR.sh {G S : Nat} {X : gC} {μ : gS} {v : gV0} {hm cnt : Nat} (hB : RB G S v hm cnt) (hC : RC G S X v hm cnt) (hM : RM G S μ v hm cnt) (hX : RX X μ v cnt) {k L N : Nat} (hk : k < 4) (hL : L ≤ 3) (hN : N ≤ 60) (hLN : L = 0 → N = 0) {A B : Nat → Nat → Int32} (a15 : A 15 = X.1.2 15) (a16 : A 16 = X.1.2 16) (ai : ∀ i, i < 4 → i ≠ k → A 0 i = X.1.2 0 i ∧ A 1 i = X.1.2 1 i ∧ B 2 i = μ.2 2 i ∧ B 3 i = μ.2 3 i ∧ ∀ j, j < 60 → A (2 + i) j = X.1.2 (2 + i) j ∧ B 4 (60 * i + j) = μ.2 4 (60 * i + j)) (ak : A 0 k = nI L - 1 ∧ A 1 k = nI N ∧ B 2 k = (if L = 0 then (-9) else nI (L - 1)) ∧ (L ≠ 0 → B 3 k = nI N ∧ ∀ j, j < 60 → A (2 + k) j = B 4 (60 * k + j))) (bs : ∀ b, 8 ≤ b → B b = μ.2 b) : RR G S ((X.1.1, A), X.2) (μ.1, B) := by
  have w : ∀ b i, b ≠ 7 → b ≠ 8 → (vset (vset v 7 k L) 8 k N) b i = v b i := fun b i h7 h8 => by rw [vset_a h8, vset_a h7]
  have w7 : ∀ i, (vset (vset v 7 k L) 8 k N) 7 i = if i = k then L else v 7 i := fun i => by
    rw [vset_a (by decide)]
    by_cases h : i = k
    · rw [h, vset_s, if_pos rfl]
    · rw [vset_j h, if_neg h]
  have w8 : ∀ i, (vset (vset v 7 k L) 8 k N) 8 i = if i = k then N else v 8 i := fun i => by
    by_cases h : i = k
    · rw [h, vset_s, if_pos rfl]
    · rw [vset_j h, if_neg h, vset_a (by decide)]
  refine ⟨vset (vset v 7 k L) 8 k N, hm, cnt, ?_, ?_, ?_, ?_⟩
  · refine ⟨hB.1, hB.2.1, hB.2.2.1, hB.2.2.2.1, hB.2.2.2.2.1, ?_, ?_, ?_, ?_⟩
    · intro g hg; simp only [w _ _ (show (0 : Nat) ≠ 7 by decide) (show (0 : Nat) ≠ 8 by decide), w _ _ (show (1 : Nat) ≠ 7 by decide) (show (1 : Nat) ≠ 8 by decide), w _ _ (show (2 : Nat) ≠ 7 by decide) (show (2 : Nat) ≠ 8 by decide)]; exact hB.2.2.2.2.2.1 g hg
    · intro g hg; simp only [w _ _ (show (3 : Nat) ≠ 7 by decide) (show (3 : Nat) ≠ 8 by decide), w _ _ (show (4 : Nat) ≠ 7 by decide) (show (4 : Nat) ≠ 8 by decide), w _ _ (show (5 : Nat) ≠ 7 by decide) (show (5 : Nat) ≠ 8 by decide)]; exact hB.2.2.2.2.2.2.1 g hg
    · intro g hg; simp only [w _ _ (show (6 : Nat) ≠ 7 by decide) (show (6 : Nat) ≠ 8 by decide)]; exact hB.2.2.2.2.2.2.2.1 g hg
    · intro i hi
      rw [w7, w8]
      by_cases h : i = k
      · simp only [h, if_true]; exact ⟨hL, hN, hLN⟩
      · simp only [h, if_false]; exact hB.2.2.2.2.2.2.2.2 i hi
  · refine ⟨hC.1, hC.2.1, ?_, ?_, ?_, ?_⟩
    · intro g hg; simp only [w _ _ (show (0 : Nat) ≠ 7 by decide) (show (0 : Nat) ≠ 8 by decide), w _ _ (show (1 : Nat) ≠ 7 by decide) (show (1 : Nat) ≠ 8 by decide), w _ _ (show (2 : Nat) ≠ 7 by decide) (show (2 : Nat) ≠ 8 by decide)]; exact hC.2.2.1 g hg
    · intro g hg; simp only [w _ _ (show (3 : Nat) ≠ 7 by decide) (show (3 : Nat) ≠ 8 by decide), w _ _ (show (4 : Nat) ≠ 7 by decide) (show (4 : Nat) ≠ 8 by decide), w _ _ (show (5 : Nat) ≠ 7 by decide) (show (5 : Nat) ≠ 8 by decide)]; exact hC.2.2.2.1 g hg
    · intro g hg; simp only [w _ _ (show (6 : Nat) ≠ 7 by decide) (show (6 : Nat) ≠ 8 by decide)]
      show A 15 g = _
      rw [a15]; exact hC.2.2.2.2.1 g hg
    · intro i hi
      rw [w7, w8]
      by_cases h : i = k
      · simp only [h, if_true]; exact ⟨ak.1, ak.2.1⟩
      · simp only [h, if_false]
        show A 0 i = _ ∧ A 1 i = _
        rw [(ai i hi h).1, (ai i hi h).2.1]
        exact hC.2.2.2.2.2 i hi
  · refine ⟨hM.1, hM.2.1, hM.2.2.1, hM.2.2.2.1, hM.2.2.2.2.1, ?_, ?_, ?_, ?_⟩
    · intro g hg
      simp only [w _ _ (show (0 : Nat) ≠ 7 by decide) (show (0 : Nat) ≠ 8 by decide), w _ _ (show (1 : Nat) ≠ 7 by decide) (show (1 : Nat) ≠ 8 by decide), w _ _ (show (2 : Nat) ≠ 7 by decide) (show (2 : Nat) ≠ 8 by decide), bs 8 (by decide), bs 9 (by decide), bs 10 (by decide)]
      exact hM.2.2.2.2.2.1 g hg
    · intro g hg
      simp only [w _ _ (show (3 : Nat) ≠ 7 by decide) (show (3 : Nat) ≠ 8 by decide), w _ _ (show (4 : Nat) ≠ 7 by decide) (show (4 : Nat) ≠ 8 by decide), w _ _ (show (5 : Nat) ≠ 7 by decide) (show (5 : Nat) ≠ 8 by decide), bs 11 (by decide), bs 12 (by decide), bs 13 (by decide)]
      exact hM.2.2.2.2.2.2.1 g hg
    · intro g hg
      simp only [w _ _ (show (6 : Nat) ≠ 7 by decide) (show (6 : Nat) ≠ 8 by decide), bs 32 (by decide)]
      exact hM.2.2.2.2.2.2.2.1 g hg
    · intro i hi
      rw [w7, w8]
      by_cases h : i = k
      · simp only [h, if_true]; exact ⟨ak.2.2.1, fun h0 => (ak.2.2.2 h0).1⟩
      · simp only [h, if_false]
        rw [(ai i hi h).2.2.1, (ai i hi h).2.2.2.1]
        exact hM.2.2.2.2.2.2.2.2 i hi
  · refine ⟨hX.1, hX.2.1, ?_, ?_⟩
    · intro j hj
      show A 16 j = B 33 j
      rw [a16, bs 33 (by decide)]
      exact hX.2.2.1 j hj
    · intro i hi hv j hj
      rw [w7] at hv
      show A (2 + i) j = B 4 (60 * i + j)
      by_cases h : i = k
      · simp only [h, if_true] at hv ⊢; exact (ak.2.2.2 hv).2 j hj
      · simp only [h, if_false] at hv
        rw [((ai i hi h).2.2.2.2 j hj).1, ((ai i hi h).2.2.2.2 j hj).2]
        exact hX.2.2.2 i hi hv j hj
theorem RR.shE {G S : Nat} {X X' : gC} {μ μ' : gS} {v : gV0} {hm cnt : Nat} (hB : RB G S v hm cnt) (hC : RC G S X v hm cnt) (hM : RM G S μ v hm cnt) (hX : RX X μ v cnt) {k L N : Nat} (hk : k < 4) (hL : L ≤ 3) (hN : N ≤ 60) (hLN : L = 0 → N = 0) (x1 : X'.1.1 = X.1.1) (x2 : X'.2 = X.2) (m1 : μ'.1 = μ.1) (a15 : X'.1.2 15 = X.1.2 15) (a16 : X'.1.2 16 = X.1.2 16) (ai : ∀ i, i < 4 → i ≠ k → X'.1.2 0 i = X.1.2 0 i ∧ X'.1.2 1 i = X.1.2 1 i ∧ μ'.2 2 i = μ.2 2 i ∧ μ'.2 3 i = μ.2 3 i ∧ ∀ j, j < 60 → X'.1.2 (2 + i) j = X.1.2 (2 + i) j ∧ μ'.2 4 (60 * i + j) = μ.2 4 (60 * i + j)) (ak : X'.1.2 0 k = nI L - 1 ∧ X'.1.2 1 k = nI N ∧ μ'.2 2 k = (if L = 0 then (-9) else nI (L - 1)) ∧ (L ≠ 0 → μ'.2 3 k = nI N ∧ ∀ j, j < 60 → X'.1.2 (2 + k) j = μ'.2 4 (60 * k + j))) (bs : ∀ b, 8 ≤ b → μ'.2 b = μ.2 b) : RR G S X' μ' := by
  have h := RR.sh (A := X'.1.2) (B := μ'.2) hB hC hM hX hk hL hN hLN a15 a16 ai ak bs
  rw [← x1, ← x2, ← m1] at h
  exact h
theorem lane_cases {G S : Nat} {X : gC} {μ : gS} {v : gV0} {hm cnt k : Nat} (hB : RB G S v hm cnt) (hC : RC G S X v hm cnt) (hM : RM G S μ v hm cnt) (hk : k < 4) : (v 7 k = 0 ∧ X.1.2 0 k = (-1) ∧ X.1.2 1 k = 0 ∧ μ.2 2 k = (-9)) ∨ ∃ l n : Nat, l ≤ 2 ∧ n ≤ 60 ∧ v 7 k = l + 1 ∧ v 8 k = n ∧ X.1.2 0 k = nI l ∧ X.1.2 1 k = nI n ∧ μ.2 2 k = nI l ∧ μ.2 3 k = nI n := by
  have b := hB.2.2.2.2.2.2.2.2 k hk
  have c := hC.2.2.2.2.2 k hk
  have m := hM.2.2.2.2.2.2.2.2 k hk
  by_cases h : v 7 k = 0
  · refine Or.inl ⟨h, ?_, ?_, ?_⟩
    · rw [c.1, h]; rfl
    · rw [c.2, b.2.2 h]; rfl
    · rw [m.1, if_pos h]
  · obtain ⟨l, hl⟩ : ∃ l, v 7 k = l + 1 := ⟨v 7 k - 1, by omega⟩
    refine Or.inr ⟨l, v 8 k, by omega, b.2.1, hl, rfl, ?_, c.2, ?_, m.2 h⟩
    · rw [c.1, hl, nI_pred]
    · rw [m.1, if_neg h, hl]; rfl
theorem lane_m1 {l : Nat} (h : l ≤ 2) : ¬ nI l = (-1) := by
  have : l = 0 ∨ l = 1 ∨ l = 2 := by omega
  rcases this with rfl | rfl | rfl <;> decide
theorem lane_m9 {l : Nat} (h : l ≤ 2) : ¬ nI l = (-9) := by
  have : l = 0 ∨ l = 1 ∨ l = 2 := by omega
  rcases this with rfl | rfl | rfl <;> decide
theorem ix2 (k j : Nat) : (60 : Int32) * nI k + nI j = nI (60 * k + j) := by
  have : (60 : Int32) = nI 60 := rfl
  rw [this, pk_mul, nI_add]
theorem sheet_loop (k : Nat) (hk : k < 4) : ∀ (m j n : Nat) (σ : gS), j + m = 60 → m < n → ∃ B, mm_sheet_b57 n (nI k) (nI j) σ = some (1, (σ.1, B)) ∧ (∀ b, b ≠ 4 → B b = σ.2 b) ∧ ∀ i, B 4 i = if 60 * k + j ≤ i ∧ i < 60 * k + 60 then 0 else σ.2 4 i := by
  intro m
  induction m with
  | zero =>
    intro j n σ hj hn
    obtain ⟨n, rfl⟩ : ∃ q, n = q + 1 := ⟨n - 1, by omega⟩
    have : j = 60 := by omega
    subst this
    refine ⟨σ.2, ?_, fun _ _ => rfl, fun i => ?_⟩
    · unfold mm_sheet_b57
      rw [if_pos (by decide)]
    · rw [if_neg (by omega)]
  | succ m ih =>
    intro j n σ hj hn
    obtain ⟨n, rfl⟩ : ∃ q, n = q + 1 := ⟨n - 1, by omega⟩
    obtain ⟨B, h1, h2, h3⟩ := ih (j + 1) n (sA σ 4 (60 * k + j) 0) (by omega) (by omega)
    refine ⟨B, ?_, ?_, ?_⟩
    · unfold mm_sheet_b57
      have a60 : (60 : Int32) = nI 60 := rfl
      rw [if_neg (by rw [a60]; exact nI_ge (by omega) (by omega)), ix2, if_pos (gin_of (by omega) (by decide)), nI_clamp (by omega), nI_1]
      exact h1
    · intro b hb
      rw [h2 b hb, sA_k hb]
    · intro i
      rw [h3 i]
      by_cases hi : 60 * k + j = i
      · subst hi
        rw [if_neg (by omega), if_pos (by omega), sA_s]
      · by_cases hc : 60 * k + (j + 1) ≤ i ∧ i < 60 * k + 60
        · rw [if_pos hc, if_pos (by omega)]
        · rw [if_neg hc, if_neg (by omega), sA_i (fun h => hi h.symm)]
theorem st_sheet : St_sheet := by
  intro G S X μ y1 y2 y3 hR
  have hR0 := hR.fault 0
  obtain ⟨v, hm, cnt, hB, hC, hM, hX⟩ := id hR0
  unfold cx_sheet mm_sheet
  simp only [gLet, sheet_eq, sort_eq, cwithin_eq, gB1_some]
  rcases at_row G S (sS X.1 0 0, X.2) y1 with ⟨k, hk, rfl, e1, e2⟩ | ⟨e1, e2⟩
  · rw [e1, e2]
    have hg : gin (nI k) 4 = true := gin_of (by omega) (by decide)
    have hcl : (nI k).toNatClampNeg = k := nI_clamp (by omega)
    simp only [gB1_some, gN, if_true, hk, hg, hcl]
    cases hw : wI y2 0 2 with
    | false => exact ⟨-2, _, _, rfl, rfl, hR0⟩
    | true =>
      obtain ⟨l, hl, rfl⟩ := wI_nat 2 (by decide) hw
      simp only [if_true]
      by_cases h60 : y3 ≤ 60
      · simp only [h60, if_true]
        by_cases h0 : 0 ≤ y3
        · obtain ⟨n, hn, rfl⟩ := nI_of2 (x := y3) (M := 60) (n := 60) rfl (by rw [Int32.not_lt]; exact h0) h60
          simp only [h0, if_true, fr_begin, hk, gLet, gB2_some]
          obtain ⟨B, h1, h2, h3⟩ := sheet_loop k hk 60 0 1000 (sA (sA (sS μ 0 0) 2 k (nI l)) 3 k (nI n)) (by omega) (by omega)
          refine ⟨1, _, _, rfl, h1, ?_⟩
          refine RR.shE (k := k) (L := l + 1) (N := n) hB hC hM hX hk (by omega) hn (by omega) rfl rfl rfl ?_ ?_ ?_ ?_ ?_
          · rw [sA_k (by decide), sA_k (by decide), sR_k (by omega)]
          · rw [sA_k (by decide), sA_k (by decide), sR_k (by omega)]
          · intro i hi hne
            refine ⟨?_, ?_, ?_, ?_, ?_⟩
            · rw [sA_k (by decide), sA_i hne, sR_k (by omega)]
            · rw [sA_i hne, sA_k (by decide), sR_k (by omega)]
            · show B 2 i = _
              rw [h2 2 (by decide), sA_k (by decide), sA_i hne]
            · show B 3 i = _
              rw [h2 3 (by decide), sA_i hne, sA_k (by decide)]
            · intro j hj
              refine ⟨?_, ?_⟩
              · rw [sA_k (by omega), sA_k (by omega), sR_k (by omega)]
              · show B 4 _ = _
                rw [h3, if_neg (by omega), sA_k (by decide), sA_k (by decide)]
          · refine ⟨?_, ?_, ?_, fun _ => ⟨?_, ?_⟩⟩
            · rw [sA_k (by decide), sA_s, nI_pred]
            · rw [sA_s]
            · show B 2 k = _
              rw [h2 2 (by decide), sA_k (by decide), sA_s, if_neg (by omega)]; rfl
            · show B 3 k = _
              rw [h2 3 (by decide), sA_s]
            · intro j hj
              rw [sA_k (by omega), sA_k (by omega), sR_s]
              show (if j < 60 then (0 : Int32) else _) = B 4 _
              rw [h3]
              rw [if_pos hj, if_pos (by omega)]
          · intro b hb
            show B b = _
            rw [h2 b (by omega), sA_k (by omega), sA_k (by omega)]
        · simp only [h0, if_false, cx_failBy, mm_fails, gLet, gB2_some]
          exact ⟨_, _, _, rfl, rfl, hR0.fault 4⟩
      · simp only [h60, if_false]
        exact ⟨-2, _, _, rfl, rfl, hR0⟩
  · rw [e1, e2]
    exact ⟨-1, _, _, rfl, rfl, hR0⟩
theorem st_lose : St_lose := by
  intro G S X μ y1 hR
  obtain ⟨v, hm, cnt, hB, hC, hM, hX⟩ := id hR
  unfold cx_lose mm_lose
  simp only [sheet_eq, gB1_some]
  rcases at_row G S X y1 with ⟨k, hk, rfl, e1, e2⟩ | ⟨e1, e2⟩
  · rw [e1, e2]
    have hg : gin (nI k) 4 = true := gin_of (by omega) (by decide)
    have hcl : (nI k).toNatClampNeg = k := nI_clamp (by omega)
    simp only [gB1_some, gN, if_true, hk, hg, hcl, fr_isThere, cx_lose_b24, mm_lose_b25, fr_drop, gLet, gB2_some]
    have fin : RR G S (sA (sA X.1 0 k (-1)) 1 k 0, X.2) (sA μ 2 k (-9)) := by
      refine RR.shE (k := k) (L := 0) (N := 0) hB hC hM hX hk (by omega) (by omega) (by omega) rfl rfl rfl ?_ ?_ ?_ ?_ ?_
      · rfl
      · rfl
      · intro i hi hne
        refine ⟨?_, ?_, ?_, ?_, ?_⟩
        · exact (congrFun (sA_k (σ := sA X.1 0 k (-1)) (k := 1) (i := k) (x := 0) (b := 0) (by decide)) i).trans (sA_i hne)
        · exact (sA_i (σ := sA X.1 0 k (-1)) (k := 1) (i := k) (x := 0) hne).trans (congrFun (sA_k (by decide)) i)
        · exact sA_i (σ := μ) (k := 2) (x := (-9)) hne
        · exact congrFun (sA_k (σ := μ) (k := 2) (i := k) (x := (-9)) (b := 3) (by decide)) i
        · intro j hj
          refine ⟨?_, congrFun (sA_k (σ := μ) (k := 2) (i := k) (x := (-9)) (b := 4) (by decide)) _⟩
          exact (congrFun (sA_k (σ := sA X.1 0 k (-1)) (k := 1) (i := k) (x := 0) (b := 2 + i) (by omega)) j).trans (congrFun (sA_k (by omega)) j)
      · refine ⟨?_, ?_, ?_, fun h => absurd rfl h⟩
        · exact (congrFun (sA_k (σ := sA X.1 0 k (-1)) (k := 1) (i := k) (x := 0) (b := 0) (by decide)) k).trans (sA_s.trans (by decide))
        · exact sA_s (σ := sA X.1 0 k (-1)) (k := 1)
        · exact sA_s (σ := μ) (k := 2)
      · intro b hb
        exact sA_k (σ := μ) (k := 2) (i := k) (x := (-9)) (by omega)
    rcases lane_cases hB hC hM hk with ⟨-, c0, c1, m0⟩ | ⟨l, n, hl, hn, -, -, c0, c1, m0, m1⟩
    · rw [c0, m0, if_pos rfl, if_pos rfl]
      exact ⟨0, _, _, rfl, rfl, fin⟩
    · rw [c0, m0, if_neg (lane_m1 hl), if_neg (lane_m9 hl)]
      exact ⟨1, _, _, rfl, rfl, fin⟩
  · rw [e1, e2]
    exact ⟨-1, _, _, rfl, rfl, hR⟩
theorem hasCell_eq {k n : Nat} {σ : gS} (hk : k < 4) (h : σ.2 1 k = nI n) (hn : n ≤ 60) (x : Int32) : (∃ j, j < n ∧ x = nI j ∧ fr_hasCell k σ x = some true ∧ wI x 0 (nI n - 1) = true) ∨ (fr_hasCell k σ x = some false ∧ wI x 0 (nI n - 1) = false) := by
  unfold fr_hasCell
  by_cases h0 : x < 0
  · exact Or.inr ⟨by rw [if_pos h0], by unfold wI; rw [if_pos h0]⟩
  rcases pk_ix x (n := n) (by omega) with h1 | h1 | ⟨j, hj, rfl⟩
  · exact absurd h1 h0
  · refine Or.inr ⟨by rw [if_neg h0, if_pos hk, h, if_pos h1], ?_⟩
    unfold wI
    rw [if_neg h0, if_pos]
    cases n with
    | zero =>
      have : nI 0 - 1 < 0 := by decide
      exact Int32.lt_of_lt_of_le this h1
    | succ n =>
      rw [nI_pred]
      exact Int32.lt_of_lt_of_le (nI_lt (by omega) (by omega)) h1
  · refine Or.inl ⟨j, hj, rfl, by rw [if_neg h0, if_pos hk, h, if_neg (nI_ge hj (by omega))], ?_⟩
    obtain ⟨n, rfl⟩ : ∃ q, n = q + 1 := ⟨n - 1, by omega⟩
    rw [nI_pred]
    exact wI_nI (by omega) (by omega)
theorem RR.cell {G S : Nat} {X : gC} {μ : gS} {v : gV0} {hm cnt : Nat} (hB : RB G S v hm cnt) (hC : RC G S X v hm cnt) (hM : RM G S μ v hm cnt) (hX : RX X μ v cnt) {k l n j : Nat} (hk : k < 4) (hl : l ≤ 2) (hn : n ≤ 60) (hj : j < 60) (c0 : X.1.2 0 k = nI l) (c1 : X.1.2 1 k = nI n) (m0 : μ.2 2 k = nI l) (m1 : μ.2 3 k = nI n) (hv : v 7 k ≠ 0) (x : Int32) : RR G S (sA X.1 (2 + k) j x, X.2) (sA μ 4 (60 * k + j) x) := by
  refine RR.shE (k := k) (L := l + 1) (N := n) hB hC hM hX hk (by omega) hn (by omega) rfl rfl rfl ?_ ?_ ?_ ?_ ?_
  · rw [sA_k (by omega)]
  · rw [sA_k (by omega)]
  · intro i hi hne
    refine ⟨?_, ?_, ?_, ?_, ?_⟩
    · rw [sA_k (by omega)]
    · rw [sA_k (by omega)]
    · rw [sA_k (by omega)]
    · rw [sA_k (by omega)]
    · intro q hq
      exact ⟨by rw [sA_k (by omega)], by rw [sA_i (by omega)]⟩
  · refine ⟨?_, ?_, ?_, fun _ => ⟨?_, ?_⟩⟩
    · rw [sA_k (by omega), nI_pred, c0]
    · rw [sA_k (by omega), c1]
    · rw [sA_k (by omega), m0, if_neg (by omega)]; rfl
    · rw [sA_k (by omega), m1]
    · intro q hq
      by_cases h : q = j
      · subst h
        rw [sA_s, sA_s]
      · rw [sA_i h, sA_i (by omega)]
        exact hX.2.2.2 k hk hv q hq
  · intro b hb
    rw [sA_k (by omega)]
theorem st_put : St_put := by
  intro G S X μ y1 y2 y3 hR
  have hR0 := hR.fault 0
  obtain ⟨v, hm, cnt, hB, hC, hM, hX⟩ := id hR0
  unfold cx_put mm_put
  simp only [gLet, sheet_eq, within_eq, gB1_some]
  rcases at_row G S (sS X.1 0 0, X.2) y1 with ⟨k, hk, rfl, e1, e2⟩ | ⟨e1, e2⟩
  · rw [e1, e2]
    have hg : gin (nI k) 4 = true := gin_of (by omega) (by decide)
    have hcl : (nI k).toNatClampNeg = k := nI_clamp (by omega)
    simp only [gB1_some, gN, if_true, hk, hg, hcl, fr_isThere, fr_write, fr_cutToLane, gLet]
    rcases lane_cases hB hC hM hk with ⟨-, c0, c1, m0⟩ | ⟨l, n, hl, hn, hv7, -, c0, c1, m0, m1⟩
    · replace c0 : (sS X.1 0 0).2 0 k = _ := c0
      simp only [c0, m0, if_true, gB1_some, cx_failBy, mm_fails, gLet, gB2_some]
      exact ⟨_, _, _, rfl, rfl, hR0.fault 1⟩
    · replace c0 : (sS X.1 0 0).2 0 k = _ := c0
      simp only [c0, m0, m1, lane_m1 hl, lane_m9 hl, if_false, gB1_some, if_true]
      rcases hasCell_eq (σ := sS X.1 0 0) hk c1 hn y2 with ⟨j, hj, rfl, f1, f2⟩ | ⟨f1, f2⟩
      · have gj : gin (nI j) 60 = true := gin_of (by omega) (by decide)
        have gj2 : gin (nI (60 * k + j)) 240 = true := gin_of (by omega) (by decide)
        have cj : (nI j).toNatClampNeg = j := nI_clamp (by omega)
        have cj2 : (nI (60 * k + j)).toNatClampNeg = 60 * k + j := nI_clamp (by omega)
        simp only [f1, f2, gB1_some, if_true, ix2, gj, gj2, cj, cj2]
        have fin := fun x => RR.cell hB hC hM hX hk hl hn (show j < 60 by omega) c0 c1 m0 m1 (by omega) x
        have h3 : l = 0 ∨ l = 1 ∨ l = 2 := by omega
        rcases h3 with rfl | rfl | rfl
        · exact ⟨1, _, _, rfl, rfl, fin _⟩
        · exact ⟨1, _, _, rfl, rfl, fin _⟩
        · exact ⟨1, _, _, rfl, rfl, fin _⟩
      · simp only [f1, f2, gB1_some, cx_failBy, mm_fails, gLet, gB2_some]
        exact ⟨_, _, _, rfl, rfl, hR0.fault 3⟩
  · rw [e1, e2]
    exact ⟨-1, _, _, rfl, rfl, hR0⟩
theorem st_cell : St_cell := by
  intro G S X μ y1 y2 y3 hR
  have hR0 := hR.fault 0
  obtain ⟨v, hm, cnt, hB, hC, hM, hX⟩ := id hR0
  unfold cx_cell mm_cell
  simp only [gLet, sheet_eq, sort_eq, cwithin_eq, gB1_some]
  rcases at_row G S (sS X.1 0 0, X.2) y1 with ⟨k, hk, rfl, e1, e2⟩ | ⟨e1, e2⟩
  · rw [e1, e2]
    have hg : gin (nI k) 4 = true := gin_of (by omega) (by decide)
    have hcl : (nI k).toNatClampNeg = k := nI_clamp (by omega)
    simp only [gB1_some, gN, if_true, hk, hg, hcl]
    cases hw : wI y3 0 2 with
    | false => exact ⟨_, _, _, rfl, rfl, hR0⟩
    | true =>
      simp only [if_true, fr_faultTakenAs, fr_isThere, hk, mm_cell_b50, hg, hcl]
      rcases lane_cases hB hC hM hk with ⟨-, c0, c1, m0⟩ | ⟨l, n, hl, hn, hv7, -, c0, c1, m0, m1⟩
      · replace c0 : (sS X.1 0 0).2 0 k = _ := c0
        simp only [c0, m0, if_true, gB1_some, cx_cell_b55, mm_lost, gLet, gB2_some]
        exact ⟨_, _, _, rfl, rfl, hR0.fault 1⟩
      · replace c0 : (sS X.1 0 0).2 0 k = _ := c0
        simp only [c0, m0, m1, lane_m1 hl, lane_m9 hl, if_false, gB1_some, if_true]
        by_cases hl3 : nI l = y3
        · simp only [hl3, if_true, gB1_some, within_eq]
          rcases hasCell_eq (σ := sS X.1 0 0) hk c1 hn y2 with ⟨j, hj, rfl, f1, f2⟩ | ⟨f1, f2⟩
          · have gj : gin (nI j) 60 = true := gin_of (by omega) (by decide)
            have gj2 : gin (nI (60 * k + j)) 240 = true := gin_of (by omega) (by decide)
            have cj : (nI j).toNatClampNeg = j := nI_clamp (by omega)
            have cj2 : (nI (60 * k + j)).toNatClampNeg = 60 * k + j := nI_clamp (by omega)
            simp only [f1, f2, gB1_some, if_true, ix2, gj2, cj2, cx_cell_b55, hk, fr_read, gj, cj]
            refine ⟨_, _, _, rfl, ?_, hR0⟩
            rw [← hX.2.2.2 k hk (by omega) j (by omega)]
          · simp only [f1, f2, gB1_some, cx_cell_b55, mm_lost, gLet, gB2_some]
            exact ⟨_, _, _, rfl, rfl, hR0.fault 3⟩
        · simp only [hl3, if_false, gB1_some, cx_cell_b55, mm_lost, gLet, gB2_some]
          exact ⟨_, _, _, rfl, rfl, hR0.fault 2⟩
  · rw [e1, e2]
    exact ⟨_, _, _, rfl, rfl, hR0⟩
theorem ix3 (k j c : Nat) : (60 : Int32) * nI k + nI j + nI c = nI (60 * k + j + c) := by rw [ix2, nI_add]
theorem copy_fwd (k1 p1 k2 p2 n : Nat) (h1 : k1 < 4) (h2 : k2 < 4) (q1 : p1 + n ≤ 60) (q2 : p2 + n ≤ 60) (hd : p2 ≤ p1) : ∀ (m c N : Nat) (σ : gS), c + m = n → m < N → ∃ B, mm_copy_b166 N (nI k1) (nI p1) (nI k2) (nI p2) (nI n) 0 (nI c) σ = some (nI n, (σ.1, B)) ∧ (∀ b, b ≠ 4 → B b = σ.2 b) ∧ ∀ i, B 4 i = if 60 * k2 + p2 + c ≤ i ∧ i < 60 * k2 + p2 + n then σ.2 4 (60 * k1 + p1 + (i - (60 * k2 + p2))) else σ.2 4 i := by
  intro m
  induction m with
  | zero =>
    intro c N σ hc hN
    obtain ⟨N, rfl⟩ : ∃ q, N = q + 1 := ⟨N - 1, by omega⟩
    have : c = n := by omega
    subst this
    refine ⟨σ.2, ?_, fun _ _ => rfl, fun i => ?_⟩
    · unfold mm_copy_b166
      rw [if_pos (nI_le (by omega) (by omega))]
    · rw [if_neg (by omega)]
  | succ m ih =>
    intro c N σ hc hN
    obtain ⟨N, rfl⟩ : ∃ q, N = q + 1 := ⟨N - 1, by omega⟩
    obtain ⟨B, g1, g2, g3⟩ := ih (c + 1) N (sA σ 4 (60 * k2 + p2 + c) (σ.2 4 (60 * k1 + p1 + c))) (by omega) (by omega)
    refine ⟨B, ?_, ?_, ?_⟩
    · unfold mm_copy_b166
      rw [if_neg (nI_ge (by omega) (by omega)), if_pos rfl]
      unfold mm_copy_b190
      simp only [ix3, gin_of (show 60 * k1 + p1 + c < 240 by omega) (by decide), gin_of (show 60 * k2 + p2 + c < 240 by omega) (by decide), if_true, nI_clamp (show 60 * k1 + p1 + c < 2 ^ 31 by omega), nI_clamp (show 60 * k2 + p2 + c < 2 ^ 31 by omega), gLet, nI_1]
      exact g1
    · intro b hb
      rw [g2 b hb, sA_k hb]
    · intro i
      rw [g3 i]
      by_cases hi : i = 60 * k2 + p2 + c
      · rw [if_neg (by omega), if_pos (by omega), hi, sA_s]
        exact congrArg (σ.2 4) (by omega)
      · by_cases hcc : 60 * k2 + p2 + (c + 1) ≤ i ∧ i < 60 * k2 + p2 + n
        · rw [if_pos hcc, if_pos (by omega), sA_i (by omega)]
        · rw [if_neg hcc, if_neg (by omega), sA_i hi]
theorem copy_bwd (k1 p1 k2 p2 n : Nat) (h1 : k1 < 4) (h2 : k2 < 4) (q1 : p1 + n ≤ 60) (q2 : p2 + n ≤ 60) (hd : p1 < p2) : ∀ (m c N : Nat) (σ : gS), c + m = n → m < N → ∃ B, mm_copy_b166 N (nI k1) (nI p1) (nI k2) (nI p2) (nI n) 1 (nI c) σ = some (nI n, (σ.1, B)) ∧ (∀ b, b ≠ 4 → B b = σ.2 b) ∧ ∀ i, B 4 i = if 60 * k2 + p2 ≤ i ∧ i < 60 * k2 + p2 + m then σ.2 4 (60 * k1 + p1 + (i - (60 * k2 + p2))) else σ.2 4 i := by
  intro m
  induction m with
  | zero =>
    intro c N σ hc hN
    obtain ⟨N, rfl⟩ : ∃ q, N = q + 1 := ⟨N - 1, by omega⟩
    have : c = n := by omega
    subst this
    refine ⟨σ.2, ?_, fun _ _ => rfl, fun i => ?_⟩
    · unfold mm_copy_b166
      rw [if_pos (nI_le (by omega) (by omega))]
    · rw [if_neg (by omega)]
  | succ m ih =>
    intro c N σ hc hN
    obtain ⟨N, rfl⟩ : ∃ q, N = q + 1 := ⟨N - 1, by omega⟩
    obtain ⟨B, g1, g2, g3⟩ := ih (c + 1) N (sA σ 4 (60 * k2 + p2 + m) (σ.2 4 (60 * k1 + p1 + m))) (by omega) (by omega)
    refine ⟨B, ?_, ?_, ?_⟩
    · unfold mm_copy_b166
      rw [if_neg (nI_ge (by omega) (by omega)), if_neg (by decide)]
      unfold mm_copy_b190
      have e : nI n - 1 - nI c = nI m := by
        obtain ⟨w, rfl⟩ : ∃ w, n = w + 1 := ⟨n - 1, by omega⟩
        rw [nI_pred, pk_sub (by omega)]
        congr 1; omega
      simp only [e, ix3, gin_of (show 60 * k1 + p1 + m < 240 by omega) (by decide), gin_of (show 60 * k2 + p2 + m < 240 by omega) (by decide), if_true, nI_clamp (show 60 * k1 + p1 + m < 2 ^ 31 by omega), nI_clamp (show 60 * k2 + p2 + m < 2 ^ 31 by omega), gLet, nI_1]
      exact g1
    · intro b hb
      rw [g2 b hb, sA_k hb]
    · intro i
      rw [g3 i]
      by_cases hi : i = 60 * k2 + p2 + m
      · rw [if_neg (by omega), if_pos (by omega), hi, sA_s]
        exact congrArg (σ.2 4) (by omega)
      · by_cases hcc : 60 * k2 + p2 ≤ i ∧ i < 60 * k2 + p2 + m
        · rw [if_pos hcc, if_pos (by omega), sA_i (by omega)]
        · rw [if_neg hcc, if_neg (by omega), sA_i hi]
theorem copy_loop (k1 p1 k2 p2 n : Nat) (h1 : k1 < 4) (h2 : k2 < 4) (q1 : p1 + n ≤ 60) (q2 : p2 + n ≤ 60) (σ : gS) : ∃ B, (if nI p2 ≤ nI p1 then mm_copy_b161 (nI k1) (nI p1) (nI k2) (nI p2) (nI n) 0 σ else mm_copy_b161 (nI k1) (nI p1) (nI k2) (nI p2) (nI n) 1 σ) = some (nI n, (σ.1, B)) ∧ (∀ b, b ≠ 4 → B b = σ.2 b) ∧ ∀ i, B 4 i = if 60 * k2 + p2 ≤ i ∧ i < 60 * k2 + p2 + n then σ.2 4 (60 * k1 + p1 + (i - (60 * k2 + p2))) else σ.2 4 i := by
  by_cases hd : p2 ≤ p1
  · rw [if_pos (nI_le hd (by omega))]
    exact copy_fwd k1 p1 k2 p2 n h1 h2 q1 q2 hd n 0 1000 σ (by omega) (by omega)
  · rw [if_neg (nI_ge (by omega) (by omega))]
    exact copy_bwd k1 p1 k2 p2 n h1 h2 q1 q2 (by omega) n 0 1000 σ (by omega) (by omega)
theorem st_copy : St_copy := by
  intro G S X μ y1 y2 y3 y4 y5 hR
  have hR0 := hR.fault 0
  obtain ⟨v, hm, cnt, hB, hC, hM, hX⟩ := id hR0
  unfold cx_copy mm_copy
  simp only [gLet, sheet_eq, gB1_some]
  rcases at_row G S (sS X.1 0 0, X.2) y1 with ⟨k1, hk1, rfl, e1, e2⟩ | ⟨e1, e2⟩
  · rcases at_row G S (sS X.1 0 0, X.2) y3 with ⟨k2, hk2, rfl, f1, f2⟩ | ⟨f1, f2⟩
    · have hg : gin (nI k1) 4 = true := gin_of (by omega) (by decide)
      have hcl : (nI k1).toNatClampNeg = k1 := nI_clamp (by omega)
      have hg2 : gin (nI k2) 4 = true := gin_of (by omega) (by decide)
      have hcl2 : (nI k2).toNatClampNeg = k2 := nI_clamp (by omega)
      simp only [e1, e2, f1, f2, gB1_some, gN, if_true, hk1, hk2, hg, hcl, hg2, hcl2, fr_isThere, cx_copy_b47, cx_copy_b95, mm_copy_b43, cx_failBy, mm_fails, gLet, gB2_some]
      rcases lane_cases hB hC hM hk1 with ⟨-, c0, c1, m0⟩ | ⟨l, n, hl, hn, hv7, -, c0, c1, m0, m1⟩
      · replace c0 : (sS X.1 0 0).2 0 k1 = _ := c0
        simp only [c0, m0, if_true, gB1_some]
        exact ⟨_, _, _, rfl, rfl, hR0.fault 1⟩
      · replace c0 : (sS X.1 0 0).2 0 k1 = _ := c0
        replace c1 : (sS X.1 0 0).2 1 k1 = _ := c1
        simp only [c0, m0, m1, lane_m1 hl, lane_m9 hl, if_false, gB1_some, if_true]
        rcases lane_cases hB hC hM hk2 with ⟨-, d0, d1, o0⟩ | ⟨l2, n2, hl2, hn2, hv72, -, d0, d1, o0, o1⟩
        · replace d0 : (sS X.1 0 0).2 0 k2 = _ := d0
          simp only [d0, o0, if_true, gB1_some]
          exact ⟨_, _, _, rfl, rfl, hR0.fault 1⟩
        · replace d0 : (sS X.1 0 0).2 0 k2 = _ := d0
          replace d1 : (sS X.1 0 0).2 1 k2 = _ := d1
          simp only [d0, o0, o1, lane_m1 hl2, lane_m9 hl2, if_false, gB1_some, if_true]
          by_cases hll : nI l = nI l2
          · simp only [hll, if_true, fr_hasCells, hk1, hk2, c1, d1, mm_copy_b109, mm_copy_b110, mm_copy_b144, mm_fails, hg, hg2, hcl, hcl2, m1, o1, gLet, gB2_some, show ¬ (1 : Int32) = 0 by decide, if_false]
            have bad : RR G S (sS (sS X.1 0 0) 0 3, X.2) (sS (sS μ 0 0) 0 3) := hR0.fault 3
            by_cases t1 : y2 < 0
            · simp only [t1, if_true, gB1_some]; exact ⟨_, _, _, rfl, rfl, bad⟩
            by_cases t2 : nI n < y2
            · simp only [t1, t2, if_true, if_false, gB1_some]
              refine ⟨_, _, _, rfl, ?_, bad⟩
              by_cases w1 : y4 < 0
              · simp only [w1, if_true]
              by_cases w2 : y5 < 0
              · simp only [w1, w2, if_true, if_false]
              simp only [w1, w2, if_false]
            by_cases t3 : y5 < 0
            · simp only [t1, t2, t3, if_true, if_false, gB1_some]
              refine ⟨_, _, _, rfl, ?_, bad⟩
              by_cases w1 : y4 < 0
              · simp only [w1, if_true]
              simp only [w1, if_false]
            by_cases t4 : nI n - y2 < y5
            · simp only [t1, t2, t3, t4, if_true, if_false, gB1_some]
              refine ⟨_, _, _, rfl, ?_, bad⟩
              by_cases w1 : y4 < 0
              · simp only [w1, if_true]
              by_cases w2 : nI n2 < y4
              · simp only [w1, w2, if_true, if_false]
              simp only [w1, w2, if_false]
            by_cases t5 : y4 < 0
            · simp only [t1, t2, t3, t4, t5, if_true, if_false, gB1_some]; exact ⟨_, _, _, rfl, rfl, bad⟩
            by_cases t6 : nI n2 < y4
            · simp only [t1, t2, t3, t4, t5, t6, if_true, if_false, gB1_some]; exact ⟨_, _, _, rfl, rfl, bad⟩
            by_cases t7 : nI n2 - y4 < y5
            · simp only [t1, t2, t3, t4, t5, t6, t7, if_true, if_false, gB1_some]
              refine ⟨_, _, _, rfl, ?_, bad⟩
              rw [if_neg (by rw [Int32.not_le]; exact t7)]
            · obtain ⟨p1, hp1, rfl⟩ := nI_of t1
              obtain ⟨p2, hp2, rfl⟩ := nI_of t5
              obtain ⟨m, hm0, rfl⟩ := nI_of t3
              have u1 : p1 ≤ n := Nat.le_of_not_lt fun h => t2 (nI_lt h hp1)
              have u2 : p2 ≤ n2 := Nat.le_of_not_lt fun h => t6 (nI_lt h hp2)
              have u3 : m ≤ n - p1 := Nat.le_of_not_lt fun h => t4 (by rw [pk_sub u1]; exact nI_lt h hm0)
              have u4 : m ≤ n2 - p2 := Nat.le_of_not_lt fun h => t7 (by rw [pk_sub u2]; exact nI_lt h hm0)
              have ok : cpOK (nI p1) (nI p2) (nI m) = true := by
                unfold cpOK
                rw [nI_clamp hp1, nI_clamp hp2, nI_clamp hm0]
                exact decide_eq_true ⟨t1, t5, t3, by omega, by omega⟩
              have t7' : nI m ≤ nI n2 - nI p2 := by rw [pk_sub u2]; exact nI_le u4 (by omega)
              obtain ⟨B, g1, g2, g3⟩ := copy_loop k1 p1 k2 p2 m hk1 hk2 (by omega) (by omega) (sS μ 0 0)
              simp only [t1, t2, t3, t4, t5, t6, t7, t7', if_true, if_false, gB1_some, ok, g1]
              refine ⟨_, _, _, rfl, rfl, ?_⟩
              rw [nI_clamp hp1, nI_clamp hp2, nI_clamp hm0]
              refine RR.shE (k := k2) (L := l2 + 1) (N := n2) hB hC hM hX hk2 (by omega) hn2 (by omega) rfl rfl rfl ?_ ?_ ?_ ?_ ?_
              · rw [sR_k (by omega)]
              · rw [sR_k (by omega)]
              · intro i hi hne
                refine ⟨?_, ?_, ?_, ?_, ?_⟩
                · rw [sR_k (by omega)]
                · rw [sR_k (by omega)]
                · show B 2 i = _
                  rw [g2 2 (by decide)]
                · show B 3 i = _
                  rw [g2 3 (by decide)]
                · intro q hq
                  refine ⟨by rw [sR_k (by omega)], ?_⟩
                  show B 4 _ = _
                  rw [g3, if_neg (by omega)]
              · refine ⟨?_, ?_, ?_, fun _ => ⟨?_, ?_⟩⟩
                · rw [sR_k (by omega), nI_pred]; exact d0
                · rw [sR_k (by omega)]; exact d1
                · show B 2 k2 = _
                  rw [g2 2 (by decide), o0, if_neg (by omega)]; rfl
                · show B 3 k2 = _
                  rw [g2 3 (by decide), o1]
                · intro q hq
                  show (sR (sS X.1 0 0) (2 + k2) _).2 (2 + k2) q = B 4 _
                  rw [sR_s, g3]
                  have hx1 := hX.2.2.2 k1 hk1 (by omega)
                  have hx2 := hX.2.2.2 k2 hk2 (by omega)
                  by_cases hin : p2 ≤ q ∧ q < p2 + m
                  · rw [pk_cpy_in hin.1 hin.2, if_pos (by omega)]
                    refine (hx1 (p1 + (q - p2)) (by omega)).trans ?_
                    exact congrArg (μ.2 4) (by omega)
                  · rw [pk_cpy_out (by omega), if_neg (by omega)]
                    exact hx2 q hq
              · intro b hb
                show B b = _
                rw [g2 b (by omega)]
          · simp only [hll, if_false]
            exact ⟨_, _, _, rfl, rfl, hR0.fault 2⟩
    · rw [e1, e2, f1, f2]
      exact ⟨-1, _, _, rfl, rfl, hR0⟩
  · rw [e1, e2]
    rcases at_row G S (sS X.1 0 0, X.2) y3 with ⟨k2, hk2, rfl, f1, f2⟩ | ⟨f1, f2⟩
    · rw [f1]
      exact ⟨-1, _, _, rfl, rfl, hR0⟩
    · rw [f1]
      exact ⟨-1, _, _, rfl, rfl, hR0⟩
