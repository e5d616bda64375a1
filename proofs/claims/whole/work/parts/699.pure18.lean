/-! what a reading says: bitIfSo against areSo -/
theorem RT.born {G S : Nat} {v v' : gV0} {ps pg pd : Nat → Nat} {σ : gS} {n : Nat} (h : v' 5 = v 5) (k : RT G S v ps pg pd σ n) : RT G S v' ps pg pd σ n := by
  unfold RT rFree rBad NI at k ⊢
  rw [h]
  exact k
theorem RT.keep {G S : Nat} {v : gV0} {ps pg pd : Nat → Nat} {X X' : gC} {n : Nat} (h : SK X X') (k : RT G S v ps pg pd X.1 n) : RT G S v ps pg pd X'.1 n := by
  rcases k with ⟨hf, h9, m, bs, bg, bd, hI, hN⟩ | ⟨j0, a, b, c, d⟩
  · exact Or.inl ⟨hf, by rw [h.1]; exact h9, m, bs, bg, bd, h.CI hI, hN⟩
  · exact Or.inr ⟨j0, a, b, c, by rw [h.1]; exact d⟩
theorem TK.LY {σ σ' : gS} {n : Nat} {ps pg pd : Nat → Nat} (h : TK σ σ') (k : LY σ n ps pg pd) : LY σ' n ps pg pd := ⟨by rw [h.1]; exact k.1, by rw [h.2 21 (by decide), h.2 22 (by decide), h.2 23 (by decide)]; exact k.2⟩
theorem so_loop {G S : Nat} {X : gC} {μ : gS} {v : gV0} {hm cnt : Nat} {T : Nat → Nat} (hB : RB G S v hm cnt) (hC : RC G S X v hm cnt) (hM : RM G S μ v hm cnt) (hx : ∀ j, j < cnt → X.1.2 16 j = μ.2 33 j) (f3 : ∀ g, g < G → X.1.2 6 g = nI (mG v hm S T g)) (g3 : ∀ i, i < G → μ.2 27 i = nI (mG v hm S T i)) (t : Int32) : ∀ r j N, j + r = cnt → r < N → ∃ b : Bool, cx_bitIfSo_b27 G S N t (nI j) X = some (if b = true then (1 : Int32) <<< (t &&& 31) else 0, X) ∧ mm_areSo_b18 N (nI j) μ = some (b, μ) := by
  intro r
  have hG := hB.1
  have h8 := hB.2.2.2.2.1
  induction r with
  | zero =>
    intro j N hj hN
    obtain ⟨N, rfl⟩ : ∃ q, N = q + 1 := ⟨N - 1, by omega⟩
    have : j = cnt := by omega
    subst this
    refine ⟨true, ?_, ?_⟩
    · unfold cx_bitIfSo_b27
      rw [hC.2.1, if_pos (nI_le (by omega) (by omega))]
      rfl
    · unfold mm_areSo_b18
      rw [hM.2.2.2.1, if_pos (nI_le (by omega) (by omega))]
  | succ r ih =>
    intro j N hj hN
    obtain ⟨N, rfl⟩ : ∃ q, N = q + 1 := ⟨N - 1, by omega⟩
    have hjc : j < cnt := by omega
    have h6 := hB.2.2.2.2.2.2.2.1 j hjc
    have gj : gin (nI j) 8 = true := gin_of (by omega) (by decide)
    have cj : (nI j).toNatClampNeg = j := nI_clamp (by omega)
    have gg : gin (nI (v 6 j)) 5 = true := gin_of (by omega) (by decide)
    have cg : (nI (v 6 j)).toNatClampNeg = v 6 j := nI_clamp (by omega)
    have w4 : wI (nI (v 6 j)) 0 4 = true := wI_nI (b := 4) (by omega) (by decide)
    obtain ⟨b, i1, i2⟩ := ih (j + 1) N (by omega) (by omega)
    unfold cx_bitIfSo_b27 mm_areSo_b18
    rw [hC.2.1, hM.2.2.2.1, if_neg (nI_ge hjc (by omega)), if_neg (nI_ge hjc (by omega))]
    simp only [gj, cj, if_true, hC.2.2.2.2.1 j hjc, hM.2.2.2.2.2.2.2.1 j hjc, ct_takenAt, cwithin_eq, w4, gB1_some, gg, cg, f3 _ h6, g3 _ h6, hx j hjc, nI_1]
    by_cases q : nI (mG v hm S T (v 6 j)) = μ.2 33 j
    · simp only [q, if_true]
      exact ⟨b, i1, i2⟩
    · simp only [q, if_false]
      exact ⟨false, rfl, rfl⟩
theorem so_nat {G S : Nat} {X : gC} {μ : gS} {v : gV0} {hm cnt n : Nat} {ps pg pd : Nat → Nat} (hB : RB G S v hm cnt) (hC : RC G S X v hm cnt) (hM : RM G S μ v hm cnt) (hx : ∀ j, j < cnt → X.1.2 16 j = μ.2 33 j) (hn : n ≤ 12) (hT : RT G S v ps pg pd X.1 n) (hV : rVal G S ps pg pd n) (hL : LY μ n ps pg pd) (t : Int32) : ∃ (b : Bool) (X' : gC) (μ' : gS), cx_bitIfSo G S X t = some (if b = true then (1 : Int32) <<< (t &&& 31) else 0, X') ∧ mm_areSo μ = some (b, μ') ∧ SK X X' ∧ MK μ μ' ∧ LY μ' n ps pg pd := by
  obtain ⟨go1, go2⟩ := go_nat hB hM hL hn hV
  unfold cx_bitIfSo mm_areSo
  rcases hT with ⟨hf, h9, m, bs, bg, bd, hI, hN⟩ | ⟨j0, hj0, hf, hb, h4'⟩
  · obtain ⟨μ2, z1, z2, z3⟩ := go1 hf
    have hM2 := z2.MK.RM hM
    obtain ⟨X1, f1, f2, f3, f4⟩ := collect_nat hB hC hM hN (by have := hN.1; omega) hI
    obtain ⟨μ3, g1, g2, g3⟩ := take_nat hB hC hM2 hN.2.1 z3
    have hC1 := f2.CK.RC hC
    have hM3 := g2.MK.RM hM2
    have hx1 : ∀ j, j < cnt → X1.1.2 16 j = μ3.2 33 j := by
      rw [f2.2.2 16 (by decide), g2.2 33 (by decide), z2.2 33 (by decide)]; exact hx
    obtain ⟨b, l1, l2⟩ := so_loop hB hC1 hM3 hx1 f3 g3 t cnt 0 1000 (by omega) (by have := hB.2.2.2.2.1; omega)
    rw [z1, h9]
    simp only [gB2_some, if_true, f1, g1]
    exact ⟨b, X1, μ3, l1, l2, f2, z2.MK.trans g2.MK, g2.LY (z2.LY hL)⟩
  · obtain ⟨μ2, z1, z2⟩ := go2 j0 hj0 hf hb
    rw [z1, h4']
    simp only [gB2_some, neg9_nI (show j0 < 2 ^ 31 by omega), if_false]
    exact ⟨false, X, μ2, rfl, rfl, ⟨rfl, rfl, fun _ _ => rfl⟩, z2.MK, z2.LY hL⟩
