/-! routes: the reference's going -/
def LY (σ : gS) (n : Nat) (ps pg pd : Nat → Nat) : Prop := σ.1 20 = nI n ∧ ∀ i, i < n → σ.2 21 i = nI (ps i) ∧ σ.2 22 i = nI (pg i) ∧ σ.2 23 i = nI (pd i)
/-- only rows 24 to 26 change -/
def GK (σ σ' : gS) : Prop := σ'.1 = σ.1 ∧ ∀ b, b < 24 ∨ 27 ≤ b → σ'.2 b = σ.2 b
theorem GK.refl (σ : gS) : GK σ σ := ⟨rfl, fun _ _ => rfl⟩
theorem GK.trans {a b c : gS} (h : GK a b) (k : GK b c) : GK a c := ⟨k.1.trans h.1, fun i x => (k.2 i x).trans (h.2 i x)⟩
theorem GK.arr (σ : gS) (k i : Nat) (x : Int32) (hk : ¬ (k < 24 ∨ 27 ≤ k)) : GK σ (sA σ k i x) := ⟨rfl, fun b hb => sA_k (fun e => hk (e ▸ hb))⟩
theorem GK.MK {σ σ' : gS} (h : GK σ σ') : MK σ σ' := ⟨fun b _ => by rw [h.1], fun b hb => h.2 b (by omega)⟩
theorem GK.LY {σ σ' : gS} {n : Nat} {ps pg pd : Nat → Nat} (h : GK σ σ') (k : LY σ n ps pg pd) : LY σ' n ps pg pd := ⟨by rw [h.1]; exact k.1, by rw [h.2 21 (by decide), h.2 22 (by decide), h.2 23 (by decide)]; exact k.2⟩
theorem go_stop {G S : Nat} {μ : gS} {v : gV0} {hm cnt n j N : Nat} {ps pg pd cn ld T : Nat → Nat} (hB : RB G S v hm cnt) (hM : RM G S μ v hm cnt) (hL : LY μ n ps pg pd) (hI : MI μ cn ld T) (hn : n ≤ 12) (hj : j < n) (hs : ps j < S) (hd : pd j ≤ 7) (hc3 : cn (ps j) ≤ 3) (h : pd j < v 5 (ps j) ∨ cn (ps j) = 3) : mm_go_b52 (N + 1) (nI j) μ = some (nI j, μ) := by
  have hS := hB.2.1
  have l := hL.2 j hj
  have hv := (hB.2.2.2.2.2.2.1 (ps j) hs).2.2.2
  have gj : gin (nI j) 12 = true := gin_of (by omega) (by decide)
  have cj : (nI j).toNatClampNeg = j := nI_clamp (by omega)
  have gs : gin (nI (ps j)) 4 = true := gin_of (by omega) (by decide)
  have cs : (nI (ps j)).toNatClampNeg = ps j := nI_clamp (by omega)
  have e : (nI (cn (ps j)) = 3) ↔ cn (ps j) = 3 := nI_eq (b := 3) (by omega) (by decide)
  unfold mm_go_b52
  rw [hL.1, if_neg (nI_ge hj (by omega))]
  simp only [gj, cj, if_true, gLet, l.1, l.2.1, l.2.2, gs, cs, (hM.2.2.2.2.2.2.1 _ hs).2.2, (hI.2 (ps j) (by omega)).1, e]
  by_cases q : pd j < v 5 (ps j)
  · rw [if_pos (nI_lt q (by omega))]
  · rw [if_neg (nI_nlt (by omega) (by omega)), if_pos (by omega)]
theorem go_on {G S : Nat} {μ : gS} {v : gV0} {hm cnt n j N : Nat} {ps pg pd cn ld T : Nat → Nat} (hB : RB G S v hm cnt) (hM : RM G S μ v hm cnt) (hL : LY μ n ps pg pd) (hI : MI μ cn ld T) (hn : n ≤ 12) (hj : j < n) (hs : ps j < S) (hg : pg j < G) (hd : pd j ≤ 7) (hbd : v 5 (ps j) ≤ pd j) (hc : cn (ps j) < 3) (hT : ∀ q, T q < 8) (hld : ∀ s, ld s ≤ 7 ∧ (cn s = 0 → ld s = 0)) : ∃ μ', mm_go_b52 (N + 1) (nI j) μ = mm_go_b52 N (nI (j + 1)) μ' ∧ GK μ μ' ∧ MI μ' (uN cn (ps j) (cn (ps j) + 1)) (uN ld (ps j) (lmax (ld (ps j)) (pd j))) (uN T (sp (ps j) (pg j) (pd j)) (T (sp (ps j) (pg j) (pd j)) ||| 2 ^ cn (ps j))) := by
  have hS := hB.2.1
  have hG := hB.1
  have l := hL.2 j hj
  have hv := (hB.2.2.2.2.2.2.1 (ps j) hs).2.2.2
  have gj : gin (nI j) 12 = true := gin_of (by omega) (by decide)
  have cj : (nI j).toNatClampNeg = j := nI_clamp (by omega)
  have gs : gin (nI (ps j)) 4 = true := gin_of (by omega) (by decide)
  have cs : (nI (ps j)).toNatClampNeg = ps j := nI_clamp (by omega)
  have e : (nI (cn (ps j)) = 3) ↔ cn (ps j) = 3 := nI_eq (b := 3) (by omega) (by decide)
  have n3 : ¬ cn (ps j) = 3 := by omega
  have nb : ¬ nI (pd j) < nI (v 5 (ps j)) := nI_nlt hbd (by omega)
  have hq : sp (ps j) (pg j) (pd j) < 160 := by unfold sp; omega
  have esp : ((5 : Int32) * nI (ps j) + nI (pg j)) * 8 + nI (pd j) = nI (sp (ps j) (pg j) (pd j)) := by
    have a5 : (5 : Int32) = nI 5 := rfl
    have a8 : (8 : Int32) = nI 8 := rfl
    rw [a5, a8, pk_mul, nI_add, pk_mul, nI_add]; rfl
  have gq : gin (nI (sp (ps j) (pg j) (pd j))) 160 = true := gin_of hq (by decide)
  have cq : (nI (sp (ps j) (pg j) (pd j))).toNatClampNeg = sp (ps j) (pg j) (pd j) := nI_clamp (by omega)
  have ob := or_bit (hT (sp (ps j) (pg j) (pd j))) hc
  have r24 := hI.1 _ hq
  have r25 := (hI.2 (ps j) (by omega)).1
  have r26 := (hI.2 (ps j) (by omega)).2
  have h7 := hld (ps j)
  refine ⟨sA (sA (sA μ 24 (sp (ps j) (pg j) (pd j)) (nI (T (sp (ps j) (pg j) (pd j)) ||| 2 ^ cn (ps j)))) 25 (ps j) (nI (cn (ps j) + 1))) 26 (ps j) (nI (lmax (ld (ps j)) (pd j))), ?_, ?_, ?_⟩
  · conv => lhs; unfold mm_go_b52
    rw [hL.1, if_neg (nI_ge hj (by omega))]
    simp only [gj, cj, if_true, gLet, l.1, l.2.1, l.2.2, gs, cs, (hM.2.2.2.2.2.2.1 _ hs).2.2, r25, e, n3, if_false, nb, mm_spot, gB1_some, esp, gq, cq, r24, ob.1]
    rw [sA_k (k := 24) (b := 25) (by decide), r25, nI_1, sA_k (k := 25) (b := 23) (by decide), sA_k (k := 24) (b := 23) (by decide), l.2.2, sA_k (k := 25) (b := 26) (by decide), sA_k (k := 24) (b := 26) (by decide), r26]
    simp only [mm_go_b171, gs, cs, if_true, gLet, nI_1]
    unfold lmax
    by_cases c0 : cn (ps j) = 0
    · have l0 := h7.2 c0
      have : ¬ nI (pd j) ≤ (-9) := by
        have : (-9 : Int32) < 0 := by decide
        intro q
        exact nI_pos (n := pd j) (by omega) (Int32.lt_of_le_of_lt q this)
      rw [if_pos c0, if_neg this, l0]
      by_cases q : 0 < pd j
      · rw [if_pos q]
      · rw [if_neg q]
        have : pd j = 0 := by omega
        rw [this]
    · rw [if_neg c0]
      by_cases q : ld (ps j) < pd j
      · rw [if_pos q, if_neg (nI_ge q (by omega))]
      · rw [if_neg q, if_pos (nI_le (by omega) (by omega))]
  · exact ((GK.arr μ 24 _ _ (by decide)).trans (GK.arr _ 25 _ _ (by decide))).trans (GK.arr _ 26 _ _ (by decide))
  · refine ⟨?_, ?_⟩
    · intro q hq
      rw [sA_k (by decide), sA_k (by decide)]
      by_cases h : q = sp (ps j) (pg j) (pd j)
      · rw [h, sA_s, uN_s]
      · rw [sA_i h, uN_n h]; exact hI.1 q hq
    · intro t ht
      by_cases h : t = ps j
      · rw [h, uN_s, uN_s, sA_s, if_neg (by omega), sA_k (by decide), sA_s]; exact ⟨rfl, rfl⟩
      · rw [uN_n h, uN_n h, sA_i h, sA_k (k := 26) (b := 25) (by decide), sA_i h, sA_k (k := 25) (b := 26) (by decide), sA_k (k := 24) (b := 26) (by decide), sA_k (k := 24) (b := 25) (by decide)]
        exact hI.2 t ht
