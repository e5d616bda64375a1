/-! routes: readRoute against layPassages -/
theorem route_nat {G S : Nat} {X : gC} {μ : gS} {v : gV0} {hm cnt k n : Nat} (hB : RB G S v hm cnt) (hC : RC G S X v hm cnt) (hM : RM G S μ v hm cnt) (hX : RX X μ v cnt) (hk : k < 4) (hn : n ≤ 12) (x2 x3 : Int32) (h2 : wI x2 0 2 = true) : (∃ (e : Int32) (X' : gC) (μ' : gS), (¬ 0 ≤ e) ∧ (¬ e = 0) ∧ cx_readRoute G S X (nI k) x2 x3 (nI n) = some (e, X') ∧ mm_layPassages μ (nI k) x2 x3 (nI n) = some (e, μ') ∧ RR G S X' μ') ∨ (∃ (C : Nat → Int32) (p : Nat) (X' : gC) (μ' : gS), cx_readRoute G S X (nI k) x2 x3 (nI n) = some (0, X') ∧ mm_layPassages μ (nI k) x2 x3 (nI n) = some (0, μ') ∧ CK X X' ∧ MK μ μ' ∧ RT G S v (qs C p) (qg C p) (qd C p) X'.1 n ∧ rVal G S (qs C p) (qg C p) (qd C p) n ∧ LY μ' n (qs C p) (qg C p) (qd C p)) := by
  have hR : RR G S X μ := ⟨v, hm, cnt, hB, hC, hM, hX⟩
  have hG := hB.1
  have hS := hB.2.1
  have a3 : (3 : Int32) = nI 3 := rfl
  have e3 : (3 : Int32) * nI n = nI (3 * n) := by rw [a3, pk_mul]
  have hg : gin (nI k) 4 = true := gin_of (by omega) (by decide)
  have hcl : (nI k).toNatClampNeg = k := nI_clamp (by omega)
  have w12 : wI (nI n) 0 12 = true := wI_nI (b := 12) (by omega) (by decide)
  have rw0 : cx_rowAt G S X (nI k) = some (some k) := by
    rcases at_row G S X (nI k) with ⟨k', hk', e, h, _⟩ | ⟨h, h'⟩
    · have : k = k' := (nI_eq (by omega) (by omega)).mp e
      rw [h, this]
    · have w3 : wI (nI k) 0 3 = true := wI_nI (b := 3) (by omega) (by decide)
      rw [w3] at h'
      cases h'
  unfold cx_readRoute mm_layPassages mm_against mm_against_b23
  simp only [rw0, gB1_some, gN, cwithin_eq, h2, w12, if_true, hk, hg, hcl, e3, fr_faultTakenAs, fr_isThere, mm_against_b70, cx_readRoute_b66]
  have bad : ∀ c : Int32, (c = 1 ∨ c = 2 ∨ c = 3) → RR G S (sS X.1 0 c, X.2) (sS μ 0 c) ∧ (¬ (0 : Int32) ≤ (-10) - c) ∧ ¬ (-10 : Int32) - c = 0 ∧ ¬ c = 0 := by
    intro c hc
    refine ⟨hR.fault c, ?_⟩
    rcases hc with rfl | rfl | rfl <;> decide
  rcases lane_cases hB hC hM hk with ⟨-, c0, c1, m0⟩ | ⟨l, L, hl, hL, hv7, -, c0, c1, m0, m1⟩
  · obtain ⟨b1, b2, b3, b4⟩ := bad 1 (Or.inl rfl)
    simp only [c0, m0, if_true, gB1_some, b4, if_false, cx_failBy, mm_fails, gLet, gB2_some]
    exact Or.inl ⟨_, _, _, b2, b3, rfl, rfl, b1⟩
  · simp only [c0, m0, m1, lane_m1 hl, lane_m9 hl, if_false, gB1_some, if_true]
    by_cases hl2 : nI l = x2
    · simp only [hl2, if_true, gB1_some, fr_hasCells, hk, c1]
      have p3 : (0 : Int32) ≤ nI (3 * n) := nI_pos' (by omega)
      have q3 : ¬ nI (3 * n) < 0 := nI_pos (by omega)
      obtain ⟨b1, b2, b3, b4⟩ := bad 3 (Or.inr (Or.inr rfl))
      simp only [p3, q3, if_true, if_false]
      by_cases t1 : x3 < 0
      · simp only [t1, if_true, gB1_some, b4, if_false, cx_failBy, mm_fails, gLet, gB2_some]
        exact Or.inl ⟨_, _, _, b2, b3, rfl, rfl, b1⟩
      by_cases t2 : nI L < x3
      · simp only [t1, t2, if_true, gB1_some, b4, if_false, cx_failBy, mm_fails, gLet, gB2_some]
        exact Or.inl ⟨_, _, _, b2, b3, rfl, rfl, b1⟩
      obtain ⟨p, hp, rfl⟩ := nI_of t1
      have u1 : p ≤ L := Nat.le_of_not_lt fun h => t2 (nI_lt h hp)
      simp only [t1, t2, if_false, pk_sub u1]
      by_cases t3 : L - p < 3 * n
      · have t3a : nI (L - p) < nI (3 * n) := nI_lt t3 (by omega)
        have t3b : ¬ nI (3 * n) ≤ nI (L - p) := nI_ge t3 (by omega)
        simp only [t3a, t3b, if_true, gB1_some, b4, if_false, cx_failBy, mm_fails, gLet, gB2_some]
        exact Or.inl ⟨_, _, _, b2, b3, rfl, rfl, b1⟩
      · have t3a : ¬ nI (L - p) < nI (3 * n) := nI_nlt (by omega) (by omega)
        have t3b : nI (3 * n) ≤ nI (L - p) := nI_le (by omega) (by omega)
        simp only [t3a, t3b, if_true, if_false, gB1_some]
        by_cases h0 : G = 0
        · have hS0 : S = 0 := hB.2.2.1.mp h0
          have st : ct_stands G S X = some false := by unfold ct_stands; rw [hS0]; rfl
          have mg : μ.1 5 = 0 := by rw [hM.1, h0]; rfl
          simp only [st, mg, gB1_some, if_true]
          exact Or.inl ⟨-3, X, μ, by decide, by decide, rfl, rfl, hR⟩
        · have hS0 : ¬ S = 0 := fun h => h0 (hB.2.2.1.mpr h)
          have st : ct_stands G S X = some true := by unfold ct_stands; rw [if_neg (nI_nle (by omega) (by omega))]
          have mg : ¬ μ.1 5 = 0 := by rw [hM.1]; exact nI_ne0 (by omega) (by omega)
          obtain ⟨σ0, f1, f2, f3, f4, f5⟩ := route_begin G S v X.1
          have ck : CK X (σ0, X.2) := f2.CK X.2
          simp only [st, mg, gB1_some, if_true, if_false, f1, gB2_some, gLet, ix2]
          have rt : RT G S v (qs (X.1.2 (2 + k)) p) (qg (X.1.2 (2 + k)) p) (qd (X.1.2 (2 + k)) p) σ0 0 := Or.inl ⟨fun i hi => by omega, f3, 0, n0, n0, n0, f4, f5⟩
          have d1 : (σ0, X.2).1.2 1 k = nI L := by rw [ck.2.2 1 (by decide)]; exact c1
          have d2 : (σ0, X.2).1.2 (2 + k) = X.1.2 (2 + k) := ck.2.2 (2 + k) (by omega)
          rcases read_lock (C := X.1.2 (2 + k)) hB hk hL hn (show p + 3 * n ≤ L by omega) n 0 1000 (σ0, X.2) μ (by omega) (by omega) d1 d2 (fun q hq => (hX.2.2.2 k hk (by omega) q hq).symm) (ck.RC hC) hM rt (fun i hi => by omega) (fun i hi => by omega) with ⟨e, X', μ', he, z1, z2, z3, z4⟩ | ⟨X', μ', z1, z2, z3, z4, z5⟩
          · refine Or.inl ⟨e, X', μ', ?_, ?_, z1, z2, hR.keep (ck.trans z3) z4⟩
            · rcases he with rfl | rfl <;> decide
            · rcases he with rfl | rfl <;> decide
          · exact Or.inr ⟨X.1.2 (2 + k), p, X', μ', z1, z2, ck.trans z3, z4, z5⟩
    · obtain ⟨b1, b2, b3, b4⟩ := bad 2 (Or.inr (Or.inl rfl))
      simp only [hl2, if_false, gB1_some, b4, cx_failBy, mm_fails, gLet, gB2_some]
      exact Or.inl ⟨_, _, _, b2, b3, rfl, rfl, b1⟩
