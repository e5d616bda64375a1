/-! pure step: passages -/
theorem wI_nat2 {x : Int32} (a b : Nat) (ha : a < 2 ^ 31) (hb : b < 2 ^ 31) (h : wI x (nI a) (nI b) = true) : ∃ j : Nat, a ≤ j ∧ j ≤ b ∧ x = nI j := by
  obtain ⟨h1, h2⟩ := wI_t h
  have h0 : ¬ x < 0 := fun h => h1 (Int32.lt_of_lt_of_le h (nI_pos' ha))
  obtain ⟨j, hj, rfl⟩ := nI_of h0
  exact ⟨j, Nat.le_of_not_lt fun q => h1 (nI_lt q ha), Nat.le_of_not_lt fun q => h2 (nI_lt q hj), rfl⟩
theorem taken_all {G S : Nat} {X : gC} {F : Nat → Nat} (h : ∀ g, g < 5 → X.1.2 6 g = nI (F g)) : ∀ r g N a, g + r = 5 → r < N → ct_takenInAll_b13 G S X N (nI a) 5 (nI g) = some (nI (a + sumTo F r g)) := by
  intro r
  induction r with
  | zero =>
    intro g N a hg hN
    obtain ⟨N, rfl⟩ : ∃ q, N = q + 1 := ⟨N - 1, by omega⟩
    have : g = 5 := by omega
    subst this
    unfold ct_takenInAll_b13
    rw [if_pos (by decide)]
    rfl
  | succ r ih =>
    intro g N a hg hN
    obtain ⟨N, rfl⟩ : ∃ q, N = q + 1 := ⟨N - 1, by omega⟩
    have a5 : (5 : Int32) = nI 5 := rfl
    conv => lhs; unfold ct_takenInAll_b13
    rw [if_neg (by rw [a5]; exact nI_ge (by omega) (by omega)), if_pos (gin_of (by omega) (by decide)), nI_clamp (by omega), h g (by omega)]
    simp only [gLet, nI_add, nI_1]
    rw [ih (g + 1) N _ (by omega) (by omega)]
    conv => rhs; unfold sumTo
    rw [Nat.add_assoc]
theorem sumTo_tail {F H : Nat → Nat} {G : Nat} (hG : G ≤ 5) (h1 : ∀ g, g < G → F g = H g) (h2 : ∀ g, G ≤ g → g < 5 → F g = 0) : sumTo F 5 0 = sumTo H G 0 := by
  have hG' : G = 0 ∨ G = 1 ∨ G = 2 ∨ G = 3 ∨ G = 4 ∨ G = 5 := by omega
  rcases hG' with rfl | rfl | rfl | rfl | rfl | rfl
  · simp only [sumTo, h2 0 (by omega) (by omega), h2 1 (by omega) (by omega), h2 2 (by omega) (by omega), h2 3 (by omega) (by omega), h2 4 (by omega) (by omega)]
  · simp only [sumTo, h1 0 (by omega), h2 1 (by omega) (by omega), h2 2 (by omega) (by omega), h2 3 (by omega) (by omega), h2 4 (by omega) (by omega)]
  · simp only [sumTo, h1 0 (by omega), h1 1 (by omega), h2 2 (by omega) (by omega), h2 3 (by omega) (by omega), h2 4 (by omega) (by omega)]
  · simp only [sumTo, h1 0 (by omega), h1 1 (by omega), h1 2 (by omega), h2 3 (by omega) (by omega), h2 4 (by omega) (by omega)]
  · simp only [sumTo, h1 0 (by omega), h1 1 (by omega), h1 2 (by omega), h1 3 (by omega), h2 4 (by omega) (by omega)]
  · simp only [sumTo, h1 0 (by omega), h1 1 (by omega), h1 2 (by omega), h1 3 (by omega), h1 4 (by omega)]
theorem neg9_nI {j : Nat} (h : j < 2 ^ 31) : ¬ nI j = (-9) := fun e => by
  have : (-9 : Int32) < 0 := by decide
  rw [← e] at this
  exact nI_pos h this
/-- what is told of a route that goes well -/
theorem tell_nat {G S : Nat} {X : gC} {μ : gS} {v : gV0} {hm cnt m j : Nat} {cn ld T bs bg bd : Nat → Nat} (hB : RB G S v hm cnt) (hC : RC G S X v hm cnt) (hM : RM G S μ v hm cnt) (hN : NI G S v m j cn ld T bs bg bd) (hm12 : m ≤ 12) (hI : CI X.1 m cn ld T bs bg bd) (hI2 : MI μ cn ld T) (y : Nat) (hy : y = 0 ∨ (10 ≤ y ∧ y ≤ 13) ∨ (20 ≤ y ∧ y ≤ 24)) : ∃ (r : Int32) (X' : gC) (μ' : gS), (if nI y < 10 then cx_passages_b129 G S (nI y) X else if 20 ≤ nI y then cx_passages_b129 G S (nI y) X else gB1 (ct_storyAt G S X (nI y - 10)) fun r28 => gN r28 (some ((-9), X)) fun k29 => gB1 (fo_wholeDay X.1 (nI y - 10)) fun r31 => some (r31, X)) = some (r, X') ∧ mm_tellPassages μ (nI y) = some (r, μ') ∧ CK X X' ∧ MK μ μ' := by
  have hG := hB.1
  have hS := hB.2.1
  obtain ⟨X1, f1, f2, f3, f4⟩ := collect_nat hB hC hM hN hm12 hI
  obtain ⟨μ1, g1, g2, g3⟩ := take_nat hB hC hM hN.2.1 hI2
  have hM1 := g2.MK.RM hM
  have a10 : (10 : Int32) = nI 10 := rfl
  have a20 : (20 : Int32) = nI 20 := rfl
  unfold mm_tellPassages
  rw [g1]
  simp only [gB2_some, cx_passages_b129, f1]
  rcases hy with rfl | hy | hy
  · refine ⟨nI (sumTo (mG v hm S T) G 0), X1, μ1, ?_, ?_, f2.CK, g2.MK⟩
    · rw [if_pos (by decide), if_pos (show nI 0 = 0 from rfl)]
      have e := taken_all (G := G) (S := S) (X := X1) (F := fun g => if g < G then mG v hm S T g else 0) (by
        intro g hg
        by_cases q : g < G
        · rw [f3 g q, if_pos q]
        · rw [f4 g (by omega) hg, if_neg q]) 5 0 1000 0 (by omega) (by omega)
      rw [Nat.zero_add, sumTo_tail (H := mG v hm S T) hG (fun g hg => if_pos hg) (fun g hg _ => if_neg (by omega))] at e
      unfold ct_takenInAll
      show gB1 (ct_takenInAll_b13 G S X1 1000 (nI 0) 5 (nI 0)) _ = _
      rw [e]
      rfl
    · rw [if_pos (show nI 0 = 0 from rfl)]
  · have e10 : nI y - 10 = nI (y - 10) := by rw [a10, pk_sub (by omega)]
    have n0' : ¬ nI y = 0 := nI_ne0 (by omega) (by omega)
    have n10 : ¬ nI y < 10 := by rw [a10]; exact nI_nlt (by omega) (by omega)
    have n20 : ¬ (20 : Int32) ≤ nI y := by rw [a20]; exact nI_ge (by omega) (by omega)
    simp only [n0', n10, n20, if_false, e10]
    rcases at_story (μ := μ1) G X hS hM1.2.1 (nI (y - 10)) with ⟨s, hs, es, u1, u2⟩ | ⟨u1, u2⟩
    · have hs4 : y - 10 = s := (nI_eq (by omega) (by omega)).mp es
      have gs : gin (nI s) 4 = true := gin_of (by omega) (by decide)
      have cs : (nI s).toNatClampNeg = s := nI_clamp (by omega)
      have w03 : wI (nI s) 0 3 = true := wI_nI (b := 3) (by omega) (by decide)
      have i1 := hI.2.2 s (by omega)
      have i2 := (g2.MI hI2).2 s (by omega)
      have b3 := (hN.2.2.1 s).1
      have e3 : (nI (cn s) = 3) ↔ cn s = 3 := nI_eq (b := 3) (by omega) (by decide)
      rw [u1, u2, hs4]
      simp only [gB1_some, gN, if_true, gs, cs, fo_wholeDay, cwithin_eq, w03, i1.1, i1.2, i2.1, i2.2, e3, fo_wholeDay_b24, fo_wholeDay_b23]
      by_cases q : cn s = 3
      · simp only [q, if_true]
        exact ⟨_, X, μ1, rfl, rfl, CK.refl X, g2.MK⟩
      · simp only [q, if_false]
        exact ⟨_, X, μ1, rfl, rfl, CK.refl X, g2.MK⟩
    · rw [u1, u2]
      exact ⟨_, X, μ1, rfl, rfl, CK.refl X, g2.MK⟩
  · have e20 : nI y - 20 = nI (y - 20) := by rw [a20, pk_sub (by omega)]
    have n0' : ¬ nI y = 0 := nI_ne0 (by omega) (by omega)
    have n10 : ¬ nI y < 10 := by rw [a10]; exact nI_nlt (by omega) (by omega)
    have n20 : (20 : Int32) ≤ nI y := by rw [a20]; exact nI_le (by omega) (by omega)
    simp only [n0', n10, n20, if_false, if_true, e20]
    rcases at_gate (μ := μ1) S X1 hG hM1.1 (nI (y - 20)) with ⟨g, hg, es, u1, u2⟩ | ⟨u1, u2⟩
    · have hs4 : y - 20 = g := (nI_eq (by omega) (by omega)).mp es
      have gs : gin (nI g) 5 = true := gin_of (by omega) (by decide)
      have cs : (nI g).toNatClampNeg = g := nI_clamp (by omega)
      have w04 : wI (nI g) 0 4 = true := wI_nI (b := 4) (by omega) (by decide)
      rw [u1, u2, hs4]
      simp only [gB1_some, gN, if_true, gs, cs, ct_takenAt, cwithin_eq, w04, f3 g hg, g3 g hg]
      exact ⟨_, X1, μ1, rfl, rfl, f2.CK, g2.MK⟩
    · rw [u1, u2]
      exact ⟨_, X1, μ1, rfl, rfl, f2.CK, g2.MK⟩
