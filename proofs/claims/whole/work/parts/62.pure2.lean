/-! pure steps: rate, fresh, readings, telling -/
def vset (v : gV0) (a j x : Nat) : gV0 := fun b i => if b = a ∧ i = j then x else v b i
theorem vset_s {v : gV0} {a j x : Nat} : vset v a j x a j = x := by simp [vset]
theorem vset_a {v : gV0} {a j x b i : Nat} (h : b ≠ a) : vset v a j x b i = v b i := by simp [vset, h]
theorem vset_j {v : gV0} {a j x b i : Nat} (h : i ≠ j) : vset v a j x b i = v b i := by simp [vset, h]
theorem sA_s {σ : gS} {k i : Nat} {x : Int32} : (sA σ k i x).2 k i = x := by simp [sA, va_up, upd]
theorem sA_k {σ : gS} {k i b : Nat} {x : Int32} (h : b ≠ k) : (sA σ k i x).2 b = σ.2 b := by simp [sA, va_up, h]
theorem sA_i {σ : gS} {k i j : Nat} {x : Int32} (h : j ≠ i) : (sA σ k i x).2 k j = σ.2 k j := by simp [sA, va_up, upd, h]
theorem sA_1 {σ : gS} {k i : Nat} {x : Int32} : (sA σ k i x).1 = σ.1 := rfl
theorem sS_2 {σ : gS} {k : Nat} {x : Int32} : (sS σ k x).2 = σ.2 := rfl
theorem sS_s {σ : gS} {k : Nat} {x : Int32} : (sS σ k x).1 k = x := by simp [sS, upd]
theorem sS_k {σ : gS} {k b : Nat} {x : Int32} (h : b ≠ k) : (sS σ k x).1 b = σ.1 b := by simp [sS, upd, h]
theorem sR_s {σ : gS} {k : Nat} {f : Nat → Int32} : (sR σ k f).2 k = f := by simp [sR, va_up]
theorem sR_k {σ : gS} {k b : Nat} {f : Nat → Int32} (h : b ≠ k) : (sR σ k f).2 b = σ.2 b := by simp [sR, va_up, h]
theorem st_rate : St_rate := by
  intro G S X μ y1 y2 hR
  obtain ⟨v, hm, cnt, hB, hC, hM, hX⟩ := id hR
  have hG := hB.1
  unfold cx_rate mm_rate
  rcases at_gate S X hB.1 hM.1 y1 with ⟨k, hk, rfl, e1, e2⟩ | ⟨e1, e2⟩
  · have hc := hC.2.2.1 k hk
    have hmm := hM.2.2.2.2.2.1 k hk
    have hg : gin (nI k) 5 = true := gin_of (by omega) (by decide)
    have hcl : (nI k).toNatClampNeg = k := nI_clamp (by omega)
    rw [e1, e2, cwithin_eq, within_eq]
    simp only [gB1_some, gN, if_true, hk, hg, hcl, gLet, hc.2.1, hmm.2.1]
    cases hw : wI y2 1 9 with
    | false => exact ⟨-2, X, μ, rfl, rfl, hR⟩
    | true =>
      have hw' : wI y2 0 (nI 9) = true := wI_of (fun h => (wI_t hw).1 (Int32.lt_trans h (by decide))) (wI_t hw).2
      obtain ⟨r, hr, rfl⟩ := wI_nat 9 (by decide) hw'
      have hr1 : 1 ≤ r := Nat.le_of_not_lt fun h => (wI_t hw).1 ((nI_ltI (b := 1) (by omega) (by decide)).mpr h)
      refine ⟨nI (v 1 k), (X.1, sA X.2 1 k (nI r)), sA μ 9 k (nI r), rfl, rfl, vset v 1 k r, hm, cnt, ⟨hB.1, hB.2.1, hB.2.2.1, hB.2.2.2.1, hB.2.2.2.2.1, fun g hg => ?_, fun j hj => ?_, fun j hj => ?_, fun j hj => ?_⟩, ⟨hC.1, hC.2.1, fun g hg => ?_, fun j hj => ?_, fun j hj => ?_, fun j hj => ?_⟩, ⟨hM.1, hM.2.1, hM.2.2.1, hM.2.2.2.1, hM.2.2.2.2.1, fun g hg => ?_, fun j hj => ?_, fun j hj => ?_, fun j hj => ?_⟩, hX.1, hX.2.1, hX.2.2.1, fun j hj => ?_⟩
      · have h := hB.2.2.2.2.2.1 g hg
        rw [show vset v 1 k r 0 g = v 0 g from vset_a (by decide), show vset v 1 k r 2 g = v 2 g from vset_a (by decide)]
        by_cases e : g = k
        · subst e; rw [vset_s]; exact ⟨h.1, hr1, hr, h.2.2.2⟩
        · rw [vset_j e]; exact h
      · rw [vset_a (by decide), vset_a (by decide), vset_a (by decide)]; exact hB.2.2.2.2.2.2.1 j hj
      · rw [vset_a (by decide)]; exact hB.2.2.2.2.2.2.2.1 j hj
      · rw [vset_a (by decide), vset_a (by decide)]; exact hB.2.2.2.2.2.2.2.2 j hj
      · have h := hC.2.2.1 g hg
        show (sA X.2 1 k (nI r)).2 0 g = _ ∧ (sA X.2 1 k (nI r)).2 1 g = _ ∧ (sA X.2 1 k (nI r)).2 2 g = _
        rw [show vset v 1 k r 0 g = v 0 g from vset_a (by decide), show vset v 1 k r 2 g = v 2 g from vset_a (by decide), show (sA X.2 1 k (nI r)).2 0 = X.2.2 0 from sA_k (by decide), show (sA X.2 1 k (nI r)).2 2 = X.2.2 2 from sA_k (by decide)]
        by_cases e : g = k
        · subst e; rw [vset_s, sA_s]; exact ⟨h.1, rfl, h.2.2⟩
        · rw [vset_j e, sA_i e]; exact h
      · show (sA X.2 1 k (nI r)).2 3 j = _ ∧ (sA X.2 1 k (nI r)).2 4 j = _ ∧ (sA X.2 1 k (nI r)).2 5 j = _
        rw [sA_k (by decide), sA_k (by decide), sA_k (by decide), vset_a (by decide), vset_a (by decide), vset_a (by decide)]; exact hC.2.2.2.1 j hj
      · rw [vset_a (by decide)]; exact hC.2.2.2.2.1 j hj
      · rw [vset_a (by decide), vset_a (by decide)]; exact hC.2.2.2.2.2 j hj
      · have h := hM.2.2.2.2.2.1 g hg
        rw [show vset v 1 k r 0 g = v 0 g from vset_a (by decide), show vset v 1 k r 2 g = v 2 g from vset_a (by decide), show (sA μ 9 k (nI r)).2 8 = μ.2 8 from sA_k (by decide), show (sA μ 9 k (nI r)).2 10 = μ.2 10 from sA_k (by decide)]
        by_cases e : g = k
        · subst e; rw [vset_s, sA_s]; exact ⟨h.1, rfl, h.2.2⟩
        · rw [vset_j e, sA_i e]; exact h
      · rw [sA_k (by decide), sA_k (by decide), sA_k (by decide), vset_a (by decide), vset_a (by decide), vset_a (by decide)]; exact hM.2.2.2.2.2.2.1 j hj
      · rw [sA_k (by decide), vset_a (by decide)]; exact hM.2.2.2.2.2.2.2.1 j hj
      · rw [sA_k (by decide), sA_k (by decide), vset_a (by decide), vset_a (by decide)]; exact hM.2.2.2.2.2.2.2.2 j hj
      · rw [vset_a (by decide), sA_k (by decide)]; exact hX.2.2.2 j hj
  · rw [e1, e2]
    exact ⟨-1, X, μ, rfl, rfl, hR⟩
theorem fresh_eq {G S : Nat} {X : gC} {μ : gS} {v : gV0} {hm cnt k : Nat} (hB : RB G S v hm cnt) (hC : RC G S X v hm cnt) (hM : RM G S μ v hm cnt) (hk : k < S) (d : Int32) : (d < nI (v 5 k) ∧ cs_isBornBy G S k X d = some false ∧ mm_freshOf μ (nI k) d = some (-9)) ∨ (¬ d < nI (v 5 k) ∧ cs_isBornBy G S k X d = some true ∧ ∃ r, cs_freshness G S k X d = some r ∧ mm_freshOf μ (nI k) d = some r) := by
  have hS := hB.2.1
  have hc := (hC.2.2.2.1 k hk).2.2
  have hmm := (hM.2.2.2.2.2.2.1 k hk).2.2
  have hg : gin (nI k) 4 = true := gin_of (by omega) (by decide)
  have hcl : (nI k).toNatClampNeg = k := nI_clamp (by omega)
  unfold cs_isBornBy cs_freshness mm_freshOf
  rw [if_pos hk, if_pos hk, if_pos hg, hcl, hc, hmm]
  simp only [gLet]
  by_cases h : d < nI (v 5 k)
  · refine Or.inl ⟨h, if_pos h, ?_⟩
    rw [if_neg (Int32.not_le.mpr h)]
  · refine Or.inr ⟨h, if_neg h, _, rfl, ?_⟩
    rw [if_pos (Int32.not_lt.mp h)]
    by_cases h2 : (0 : Int32) < 4 - (d - nI (v 5 k))
    · rw [if_pos h2, if_pos (Int32.le_of_lt h2)]
    · rw [if_neg h2]
      by_cases h3 : (0 : Int32) ≤ 4 - (d - nI (v 5 k))
      · rw [if_pos h3, Int32.le_antisymm (Int32.not_lt.mp h2) h3]
      · rw [if_neg h3]
theorem st_fresh : St_fresh := by
  intro G S X μ y1 y2 hR
  obtain ⟨v, hm, cnt, hB, hC, hM, hX⟩ := id hR
  unfold cx_fresh mm_fresh
  rcases at_story G X hB.2.1 hM.2.1 y1 with ⟨k, hk, rfl, e1, e2⟩ | ⟨e1, e2⟩
  · rw [e1, e2, cday_eq, day_eq]
    simp only [gB1_some, gN, if_true, hk]
    cases hw : wI y2 0 7 with
    | false => exact ⟨-2, rfl, rfl, hR⟩
    | true =>
      simp only [if_true]
      rcases fresh_eq hB hC hM hk y2 with ⟨_, h1, h2⟩ | ⟨_, h1, r, h2, h3⟩
      · rw [h1, h2]; exact ⟨-9, rfl, rfl, hR⟩
      · rw [h1, h3]
        simp only [gB1_some, if_true]
        rw [h2]; exact ⟨r, rfl, rfl, hR⟩
  · rw [e1, e2]
    exact ⟨-1, rfl, rfl, hR⟩
theorem st_back : St_back := by
  intro G S X μ y1 hR
  obtain ⟨v, hm, cnt, hB, hC, hM, hX⟩ := id hR
  have h8 := hB.2.2.2.2.1
  unfold cx_back mm_back
  rw [cwithin_eq, within_eq, hC.2.1, hM.2.2.2.1]
  simp only [gB1_some, gLet]
  cases hw : wI y1 0 (nI cnt) with
  | false => exact ⟨-2, X, μ, rfl, rfl, hR⟩
  | true =>
    obtain ⟨j, hj, rfl⟩ := wI_nat cnt (by omega) hw
    simp only [if_true, pk_sub hj]
    refine ⟨nI (cnt - j), (sS X.1 5 (nI (cnt - j)), X.2), sS μ 31 (nI (cnt - j)), ?_, ?_, v, hm, cnt - j, ⟨hB.1, hB.2.1, hB.2.2.1, hB.2.2.2.1, by omega, hB.2.2.2.2.2.1, hB.2.2.2.2.2.2.1, fun i hi => hB.2.2.2.2.2.2.2.1 i (by omega), hB.2.2.2.2.2.2.2.2⟩, ⟨hC.1, rfl, hC.2.2.1, hC.2.2.2.1, fun i hi => hC.2.2.2.2.1 i (by omega), hC.2.2.2.2.2⟩, ⟨hM.1, hM.2.1, hM.2.2.1, rfl, hM.2.2.2.2.1, hM.2.2.2.2.2.1, hM.2.2.2.2.2.2.1, fun i hi => hM.2.2.2.2.2.2.2.1 i (by omega), hM.2.2.2.2.2.2.2.2⟩, hX.1, hX.2.1, fun i hi => hX.2.2.1 i (by omega), hX.2.2.2⟩
    · rw [sS_s]
    · rw [sS_s]
theorem st_reading : St_reading := by
  intro G S X μ y1 y2 hR
  obtain ⟨v, hm, cnt, hB, hC, hM, hX⟩ := id hR
  have hG := hB.1
  have h8 := hB.2.2.2.2.1
  unfold cx_reading mm_reading
  rcases at_gate S X hB.1 hM.1 y1 with ⟨k, hk, rfl, e1, e2⟩ | ⟨e1, e2⟩
  · rw [e1, e2, cwithin_eq, within_eq]
    simp only [gB1_some, gN, if_true]
    cases hw : wI y2 0 9999 with
    | false => exact ⟨-2, X, μ, rfl, rfl, hR⟩
    | true =>
      simp only [if_true]
      unfold fd_note
      rw [hC.2.1, hM.2.2.2.1]
      by_cases hf : cnt = 8
      · subst hf
        refine ⟨-4, X, μ, ?_, rfl, hR⟩
        rw [if_neg (by decide)]
        rfl
      · have hlt : cnt < 8 := by omega
        have hg : gin (nI cnt) 8 = true := gin_of hlt (by decide)
        have hcl : (nI cnt).toNatClampNeg = cnt := nI_clamp (by omega)
        have n8 : ¬ nI cnt = 8 := fun h => hf ((nI_eq (b := 8) (by omega) (by decide)).mp h)
        have l8 : nI cnt < 8 := (nI_ltI (b := 8) (by omega) (by decide)).mpr hlt
        rw [if_pos l8, if_pos hg, if_neg n8, if_pos hg]
        simp only [gLet, sA_1, hC.2.1, hM.2.2.2.1, hg, hcl, if_true, gB2_some, sS_s, nI_1, nI_pred]
        refine ⟨nI cnt, _, _, rfl, rfl, vset v 6 cnt k, hm, cnt + 1, ⟨hB.1, hB.2.1, hB.2.2.1, hB.2.2.2.1, by omega, fun g hg => ?_, fun j hj => ?_, fun j hj => ?_, fun j hj => ?_⟩, ⟨?_, ?_, fun g hg => ?_, fun j hj => ?_, fun j hj => ?_, fun j hj => ?_⟩, ⟨?_, ?_, ?_, ?_, ?_, fun g hg => ?_, fun j hj => ?_, fun j hj => ?_, fun j hj => ?_⟩, ?_, ?_, fun j hj => ?_, fun j hj => ?_⟩
        · rw [vset_a (by decide), vset_a (by decide), vset_a (by decide)]; exact hB.2.2.2.2.2.1 g hg
        · rw [vset_a (by decide), vset_a (by decide), vset_a (by decide)]; exact hB.2.2.2.2.2.2.1 j hj
        · by_cases e : j = cnt
          · subst e; rw [vset_s]; exact hk
          · rw [vset_j e]; exact hB.2.2.2.2.2.2.2.1 j (by omega)
        · rw [vset_a (by decide), vset_a (by decide)]; exact hB.2.2.2.2.2.2.2.2 j hj
        · exact hC.1
        · rfl
        · rw [vset_a (by decide), vset_a (by decide), vset_a (by decide)]; exact hC.2.2.1 g hg
        · rw [vset_a (by decide), vset_a (by decide), vset_a (by decide)]; exact hC.2.2.2.1 j hj
        · show (sA (sA X.1 15 cnt (nI k)) 16 cnt y2).2 15 j = _
          rw [sA_k (by decide)]
          by_cases e : j = cnt
          · subst e; rw [vset_s, sA_s]
          · rw [vset_j e, sA_i e]; exact hC.2.2.2.2.1 j (by omega)
        · show (sA (sA X.1 15 cnt (nI k)) 16 cnt y2).2 0 j = _ ∧ (sA (sA X.1 15 cnt (nI k)) 16 cnt y2).2 1 j = _
          rw [sA_k (by decide), sA_k (by decide), sA_k (by decide), sA_k (by decide), vset_a (by decide), vset_a (by decide)]; exact hC.2.2.2.2.2 j hj
        · exact hM.1
        · exact hM.2.1
        · exact hM.2.2.1
        · rfl
        · exact hM.2.2.2.2.1
        · rw [vset_a (by decide), vset_a (by decide), vset_a (by decide)]; exact hM.2.2.2.2.2.1 g hg
        · rw [vset_a (by decide), vset_a (by decide), vset_a (by decide)]; exact hM.2.2.2.2.2.2.1 j hj
        · show (sA (sA μ 32 cnt (nI k)) 33 cnt y2).2 32 j = _
          rw [sA_k (by decide)]
          by_cases e : j = cnt
          · subst e; rw [vset_s, sA_s]
          · rw [vset_j e, sA_i e]; exact hM.2.2.2.2.2.2.2.1 j (by omega)
        · rw [vset_a (by decide), vset_a (by decide)]; exact hM.2.2.2.2.2.2.2.2 j hj
        · exact hX.1
        · exact hX.2.1
        · show (sA (sA X.1 15 cnt (nI k)) 16 cnt y2).2 16 j = (sA (sA μ 32 cnt (nI k)) 33 cnt y2).2 33 j
          by_cases e : j = cnt
          · subst e; rw [sA_s, sA_s]
          · rw [sA_i e, sA_i e, sA_k (by decide), sA_k (by decide)]; exact hX.2.2.1 j (by omega)
        · rw [vset_a (by decide)]
          intro h i hi
          show (sA (sA X.1 15 cnt (nI k)) 16 cnt y2).2 (2 + j) i = (sA (sA μ 32 cnt (nI k)) 33 cnt y2).2 4 (60 * j + i)
          rw [sA_k (by omega), sA_k (by omega), sA_k (by decide), sA_k (by decide)]; exact hX.2.2.2 j hj h i hi
  · rw [e1, e2]
    exact ⟨-1, X, μ, rfl, rfl, hR⟩
