/-! routes: reading against laying -/
theorem read_nat {k L q : Nat} {σ : gS} (hk : k < 4) (h : σ.2 1 k = nI L) (hL : L ≤ 60) (hq : q < L) : fr_read k σ (nI q) = some (σ.2 (2 + k) q) := by
  unfold fr_read
  rw [if_pos hk]
  rcases hasCell_eq hk h hL (nI q) with ⟨j, hj, e, f1, f2⟩ | ⟨f1, f2⟩
  · simp only [f1, gB1_some, if_true, gin_of (show q < 60 by omega) (by decide), nI_clamp (show q < 2 ^ 31 by omega)]
  · obtain ⟨L, rfl⟩ : ∃ t, L = t + 1 := ⟨L - 1, by omega⟩
    rw [nI_pred, wI_nI (by omega) (by omega)] at f2
    cases f2
def qs (C : Nat → Int32) (p i : Nat) : Nat := (C (p + 3 * i)).toNatClampNeg
def qg (C : Nat → Int32) (p i : Nat) : Nat := (C (p + 3 * i + 1)).toNatClampNeg
def qd (C : Nat → Int32) (p i : Nat) : Nat := (C (p + 3 * i + 2)).toNatClampNeg
theorem read_lock {G S : Nat} {v : gV0} {hm cnt k L p n : Nat} {C : Nat → Int32} (hB : RB G S v hm cnt) (hk : k < 4) (hL : L ≤ 60) (hn : n ≤ 12) (hp : p + 3 * n ≤ L) : ∀ (r i N : Nat) (X : gC) (μ : gS), i + r = n → r < N → X.1.2 1 k = nI L → X.1.2 (2 + k) = C → (∀ q, q < 60 → μ.2 4 (60 * k + q) = C q) → RC G S X v hm cnt → RM G S μ v hm cnt → RT G S v (qs C p) (qg C p) (qd C p) X.1 i → rVal G S (qs C p) (qg C p) (qd C p) i → (∀ i', i' < i → μ.2 21 i' = nI (qs C p i') ∧ μ.2 22 i' = nI (qg C p i') ∧ μ.2 23 i' = nI (qd C p i')) → (∃ (e : Int32) (X' : gC) (μ' : gS), (e = (-1) ∨ e = (-2)) ∧ cx_readRoute_b101 G S N (nI p) (nI n) k (nI i) X = some (e, X') ∧ mm_layPassages_b46 N (nI n) (nI (60 * k + p)) (nI i) μ = some (e, μ') ∧ CK X X' ∧ MK μ μ') ∨ (∃ (X' : gC) (μ' : gS), cx_readRoute_b101 G S N (nI p) (nI n) k (nI i) X = some (0, X') ∧ mm_layPassages_b46 N (nI n) (nI (60 * k + p)) (nI i) μ = some (0, μ') ∧ CK X X' ∧ MK μ μ' ∧ RT G S v (qs C p) (qg C p) (qd C p) X'.1 n ∧ rVal G S (qs C p) (qg C p) (qd C p) n ∧ LY μ' n (qs C p) (qg C p) (qd C p)) := by
  intro r
  have hG := hB.1
  have hS := hB.2.1
  induction r with
  | zero =>
    intro i N X μ hi hN h1 h2 h4 hC hM hT hV hl
    obtain ⟨N, rfl⟩ : ∃ q, N = q + 1 := ⟨N - 1, by omega⟩
    have : i = n := by omega
    subst this
    refine Or.inr ⟨X, sS μ 20 (nI i), ?_, ?_, CK.refl X, MK.num μ 20 _ (by decide), hT, hV, sS_s, hl⟩
    · unfold cx_readRoute_b101
      rw [if_pos (nI_le (by omega) (by omega))]
    · unfold mm_layPassages_b46
      rw [if_pos (nI_le (by omega) (by omega))]
      rfl
  | succ r ih =>
    intro i N X μ hi hN h1 h2 h4 hC hM hT hV hl
    obtain ⟨N, rfl⟩ : ∃ q, N = q + 1 := ⟨N - 1, by omega⟩
    have a3 : (3 : Int32) = nI 3 := rfl
    have a2 : (2 : Int32) = nI 2 := rfl
    have e0 : ∀ w, nI w + (3 : Int32) * nI i = nI (w + 3 * i) := fun w => by rw [a3, pk_mul, nI_add]
    have e2 : ∀ w, nI w + (2 : Int32) = nI (w + 2) := fun w => by rw [a2, nI_add]
    have r0 := read_nat (q := p + 3 * i) hk h1 hL (by omega)
    have r1 := read_nat (q := p + 3 * i + 1) hk h1 hL (by omega)
    have r2 := read_nat (q := p + 3 * i + 2) hk h1 hL (by omega)
    rw [h2] at r0 r1 r2
    have m0 : μ.2 4 (60 * k + p + 3 * i) = C (p + 3 * i) := by rw [← h4 _ (by omega)]; exact congrArg _ (by omega)
    have m1 : μ.2 4 (60 * k + p + 3 * i + 1) = C (p + 3 * i + 1) := by rw [← h4 _ (by omega)]; exact congrArg _ (by omega)
    have m2 : μ.2 4 (60 * k + p + 3 * i + 2) = C (p + 3 * i + 2) := by rw [← h4 _ (by omega)]; exact congrArg _ (by omega)
    have gi : gin (nI i) 12 = true := gin_of (by omega) (by decide)
    have ci : (nI i).toNatClampNeg = i := nI_clamp (by omega)
    have g0 : gin (nI (60 * k + p + 3 * i)) 240 = true := gin_of (by omega) (by decide)
    have g1 : gin (nI (60 * k + p + 3 * i + 1)) 240 = true := gin_of (by omega) (by decide)
    have g2 : gin (nI (60 * k + p + 3 * i + 2)) 240 = true := gin_of (by omega) (by decide)
    have c0 : (nI (60 * k + p + 3 * i)).toNatClampNeg = 60 * k + p + 3 * i := nI_clamp (by omega)
    have c1 : (nI (60 * k + p + 3 * i + 1)).toNatClampNeg = 60 * k + p + 3 * i + 1 := nI_clamp (by omega)
    have c2 : (nI (60 * k + p + 3 * i + 2)).toNatClampNeg = 60 * k + p + 3 * i + 2 := nI_clamp (by omega)
    have mk : MK μ (sA (sA (sA μ 21 i (C (p + 3 * i))) 22 i (C (p + 3 * i + 1))) 23 i (C (p + 3 * i + 2))) := ((MK.arr μ 21 _ _ (by decide)).trans (MK.arr _ 22 _ _ (by decide))).trans (MK.arr _ 23 _ _ (by decide))
    have em : mm_layPassages_b46 (N + 1) (nI n) (nI (60 * k + p)) (nI i) μ = (gB1 (mm_isStory (sA (sA (sA μ 21 i (C (p + 3 * i))) 22 i (C (p + 3 * i + 1))) 23 i (C (p + 3 * i + 2))) (C (p + 3 * i))) fun r11 => if r11 = true then gB1 (mm_isGate (sA (sA (sA μ 21 i (C (p + 3 * i))) 22 i (C (p + 3 * i + 1))) 23 i (C (p + 3 * i + 2))) (C (p + 3 * i + 1))) fun r14 => if r14 = true then gB1 (mm_isDay (C (p + 3 * i + 2))) fun r17 => if r17 = true then mm_layPassages_b46 N (nI n) (nI (60 * k + p)) (nI (i + 1)) (sA (sA (sA μ 21 i (C (p + 3 * i))) 22 i (C (p + 3 * i + 1))) 23 i (C (p + 3 * i + 2))) else some ((-2), (sA (sA (sA μ 21 i (C (p + 3 * i))) 22 i (C (p + 3 * i + 1))) 23 i (C (p + 3 * i + 2)))) else some ((-1), (sA (sA (sA μ 21 i (C (p + 3 * i))) 22 i (C (p + 3 * i + 1))) 23 i (C (p + 3 * i + 2)))) else some ((-1), (sA (sA (sA μ 21 i (C (p + 3 * i))) 22 i (C (p + 3 * i + 1))) 23 i (C (p + 3 * i + 2))))) := by
      conv => lhs; unfold mm_layPassages_b46
      rw [if_neg (nI_ge (by omega) (by omega)), e0]
      simp only [nI_1, e2, g0, g1, g2, gi, ci, c0, c1, c2, if_true, gLet]
      rw [m0, sA_k (k := 21) (b := 4) (by decide), m1, sA_k (k := 22) (b := 4) (by decide), sA_k (k := 21) (b := 4) (by decide), m2, sA_s, sA_k (k := 23) (b := 21) (by decide), sA_k (k := 22) (b := 21) (by decide), sA_s, sA_k (k := 23) (b := 22) (by decide), sA_s]
    generalize hμ9 : sA (sA (sA μ 21 i (C (p + 3 * i))) 22 i (C (p + 3 * i + 1))) 23 i (C (p + 3 * i + 2)) = μ9 at em mk
    have ec : cx_readRoute_b101 G S (N + 1) (nI p) (nI n) k (nI i) X = (gB1 (ct_storyAt G S X (C (p + 3 * i))) fun r10 => gN r10 (some ((-1), X)) fun k11 => gB1 (ct_gateAt G S X (C (p + 3 * i + 1))) fun r13 => gN r13 (some ((-1), X)) fun k14 => gB1 (cx_isDay (C (p + 3 * i + 2))) fun r16 => if r16 = true then if k11 < S then gB1 (cs_isBornBy G S k11 X (C (p + 3 * i + 2))) fun r20 => gB2 (fo_pass X.1 (nI i) (C (p + 3 * i)) (C (p + 3 * i + 1)) (C (p + 3 * i + 2)) (bI r20)) fun r22 X23 => cx_readRoute_b101 G S N (nI p) (nI n) k (nI (i + 1)) (X23, X.2) else none else some ((-2), X)) := by
      conv => lhs; unfold cx_readRoute_b101
      rw [if_neg (nI_ge (by omega) (by omega)), if_pos hk, e0]
      simp only [nI_1, e2, r0, r1, r2, gB1_some, gLet]
    rw [ec, em]
    have hM9 := mk.RM hM
    rcases at_story G X hS hM9.2.1 (C (p + 3 * i)) with ⟨s, hs, es, u1, u2⟩ | ⟨u1, u2⟩
    · rcases at_gate S X hG hM9.1 (C (p + 3 * i + 1)) with ⟨g, hg, eg, w1, w2⟩ | ⟨w1, w2⟩
      · simp only [u1, u2, w1, w2, gB1_some, gN, if_true, cday_eq, day_eq, hs]
        cases hd : wI (C (p + 3 * i + 2)) 0 7 with
        | false => exact Or.inl ⟨-2, X, μ9, Or.inr rfl, rfl, rfl, CK.refl X, mk⟩
        | true =>
          obtain ⟨d, hd7, ed⟩ := wI_nat 7 (by decide) hd
          have q1 : qs C p i = s := by unfold qs; rw [es]; exact nI_clamp (by omega)
          have q2 : qg C p i = g := by unfold qg; rw [eg]; exact nI_clamp (by omega)
          have q3 : qd C p i = d := by unfold qd; rw [ed]; exact nI_clamp (by omega)
          have hV' : rVal G S (qs C p) (qg C p) (qd C p) (i + 1) := by
            intro i' hi'
            by_cases q : i' = i
            · rw [q, q1, q2, q3]; exact ⟨hs, hg, hd7⟩
            · exact hV i' (by omega)
          have hb6 := (hB.2.2.2.2.2.2.1 s hs).2.2.2
          obtain ⟨σ', f1, f2, f3⟩ := route_step hG hS hT (by omega) hV'
          rw [q1, q2, q3] at f1
          have bo : cs_isBornBy G S s X (nI d) = some (decide (v 5 s ≤ d)) := by
            unfold cs_isBornBy
            rw [if_pos hs, (hC.2.2.2.1 s hs).2.2]
            by_cases q : v 5 s ≤ d
            · rw [if_neg (nI_nlt q (by omega)), decide_eq_true q]
            · rw [if_pos (nI_lt (by omega) (by omega)), decide_eq_false q]
          simp only [if_true, es, eg, ed, bo, gB1_some, f1, gB2_some]
          have ck : CK X (σ', X.2) := f2.CK X.2
          have hl' : ∀ i', i' < i + 1 → μ9.2 21 i' = nI (qs C p i') ∧ μ9.2 22 i' = nI (qg C p i') ∧ μ9.2 23 i' = nI (qd C p i') := by
            intro i' hi'
            rw [← hμ9]
            by_cases q : i' = i
            · subst q
              rw [sA_k (k := 23) (b := 21) (by decide), sA_k (k := 22) (b := 21) (by decide), sA_s, sA_k (k := 23) (b := 22) (by decide), sA_s, sA_s, q1, q2, q3]
              exact ⟨es, eg, ed⟩
            · rw [sA_k (k := 23) (b := 21) (by decide), sA_k (k := 22) (b := 21) (by decide), sA_i q, sA_k (k := 23) (b := 22) (by decide), sA_i q, sA_i q, sA_k (k := 21) (b := 22) (by decide), sA_k (k := 22) (b := 23) (by decide), sA_k (k := 21) (b := 23) (by decide)]
              exact hl i' (by omega)
          have c1' : (σ', X.2).1.2 1 k = nI L := by rw [ck.2.2 1 (by decide)]; exact h1
          have c2' : (σ', X.2).1.2 (2 + k) = C := by rw [ck.2.2 (2 + k) (by omega)]; exact h2
          have c4' : ∀ q, q < 60 → μ9.2 4 (60 * k + q) = C q := by rw [mk.2 4 (by decide)]; exact h4
          rcases ih (i + 1) N (σ', X.2) μ9 (by omega) (by omega) c1' c2' c4' (ck.RC hC) hM9 f3 hV' hl' with ⟨e, X', μ', he, z1, z2, z3, z4⟩ | ⟨X', μ', z1, z2, z3, z4, z5⟩
          · exact Or.inl ⟨e, X', μ', he, z1, z2, ck.trans z3, mk.trans z4⟩
          · exact Or.inr ⟨X', μ', z1, z2, ck.trans z3, mk.trans z4, z5⟩
      · simp only [u1, u2, w1, w2, gB1_some, gN, if_true]
        exact Or.inl ⟨-1, X, μ9, Or.inl rfl, rfl, rfl, CK.refl X, mk⟩
    · simp only [u1, u2, gB1_some, gN]
      exact Or.inl ⟨-1, X, μ9, Or.inl rfl, rfl, rfl, CK.refl X, mk⟩
