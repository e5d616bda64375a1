/-! pure steps: tell, knock, as -/
def trX (X : gC) (a : Int32) : gC := (sS X.1 1 ((31 : Int32) * X.1.1 1 + a), X.2)
def trM (μ : gS) (a : Int32) : gS := sS μ 1 ((31 : Int32) * μ.1 1 + a)
theorem RR.tr {G S : Nat} {X : gC} {μ : gS} (h : RR G S X μ) (a : Int32) : RR G S (trX X a) (trM μ a) := h.trace a
theorem begins_eq (μ : gS) (a : Int32) : mm_begins μ a = some ((), trM μ a) := rfl
theorem plainTelling_eq {G S k : Nat} {X : gC} (hk : k < G) : cg_plainTelling G S k X = some (X.2.2 1 k, trX X 1) := by
  unfold cg_plainTelling ft_leave
  simp only [gLet, gB2_some, hk, if_true, trX]
theorem gTelling_eq {G S k : Nat} {X : gC} (hk : k < G) : cg_telling G S k X = some (X.2.2 1 k, trX X 1) := by
  unfold cg_telling
  rw [plainTelling_eq hk]
  simp only [gB2_some, hk, if_true]
  by_cases h1 : X.2.2 0 k = 1
  · rw [if_pos h1]
  · rw [if_neg h1]
    by_cases h2 : X.2.2 0 k = 2
    · rw [if_pos h2]
    · rw [if_neg h2]
theorem hTelling_eq {G S k : Nat} {X : gC} (hk : k < G) : ch_telling G S k X = some (X.2.2 1 k + 100, trX (trX X 2) 1) := by
  unfold ch_telling ft_leave
  simp only [gLet, gB2_some, hk, if_true, gTelling_eq hk]
  by_cases h1 : X.2.2 0 k = 1
  · rw [if_pos h1]; rfl
  · rw [if_neg h1]
    by_cases h2 : X.2.2 0 k = 2
    · rw [if_pos h2]; rfl
    · rw [if_neg h2]; rfl
theorem iTelling_eq {G S k : Nat} {X : gC} (hk : k < G) (h1 : ¬ X.2.2 0 k = 1) (h2 : X.2.2 0 k = 2) : ci_telling G S k X = some (X.2.2 1 k + 100 + X.2.2 1 k, trX (trX (trX (trX X 3) 2) 1) 1) := by
  unfold ci_telling ft_leave
  simp only [gLet, gB2_some, hk, if_true, if_neg h1, if_pos h2, hTelling_eq hk]
  have e1 : ¬ (trX (trX (sS X.1 1 ((31 : Int32) * X.1.1 1 + 3), X.2) 2) 1).2.2 0 k = 1 := h1
  have e2 : (trX (trX (sS X.1 1 ((31 : Int32) * X.1.1 1 + 3), X.2) 2) 1).2.2 0 k = 2 := h2
  rw [if_neg e1, if_pos e2, plainTelling_eq hk]
  rfl
theorem st_tell : St_tell := by
  intro G S X μ y1 hR
  obtain ⟨v, hm, cnt, hB, hC, hM, hX⟩ := id hR
  have hG := hB.1
  unfold cx_tell mm_tell
  rcases at_gate S X hB.1 hM.1 y1 with ⟨k, hk, rfl, e1, e2⟩ | ⟨e1, e2⟩
  · have hc := hC.2.2.1 k hk
    have hmm := hM.2.2.2.2.2.1 k hk
    have hb := hB.2.2.2.2.2.1 k hk
    have hg : gin (nI k) 5 = true := gin_of (by omega) (by decide)
    have hcl : (nI k).toNatClampNeg = k := nI_clamp (by omega)
    rw [e1, e2]
    simp only [gB1_some, gN, if_true, hk, hg, hcl, gLet, hmm.1, hmm.2.1, begins_eq, gB2_some, gTelling_eq hk, hTelling_eq hk]
    rcases kind3 hB hk with h | h | h
    · rw [h] at hc ⊢
      rw [hc.1, if_neg (by decide), if_neg (by decide), if_neg (by decide), if_neg (by decide), hc.2.1]
      exact ⟨_, _, _, rfl, rfl, hR.tr 1⟩
    · rw [h] at hc ⊢
      rw [hc.1, if_pos (by decide), if_pos (by decide), hc.2.1]
      exact ⟨_, _, _, rfl, rfl, (hR.tr 2).tr 1⟩
    · rw [h] at hc ⊢
      have n1 : ¬ X.2.2 0 k = 1 := by rw [hc.1]; decide
      have n2 : X.2.2 0 k = 2 := by rw [hc.1]; decide
      rw [iTelling_eq hk n1 n2, if_neg n1, if_pos n2, if_neg (by decide), if_pos (by decide), hc.2.1]
      refine ⟨nI (v 1 k) + 100 + nI (v 1 k), _, _, rfl, ?_, (((hR.tr 3).tr 2).tr 1).tr 1⟩
      have : (2 : Int32) * nI (v 1 k) + 100 = nI (v 1 k) + 100 + nI (v 1 k) := by
        have a2 : (2 : Int32) = nI 2 := rfl
        have a100 : (100 : Int32) = nI 100 := rfl
        rw [a2, a100, pk_mul, nI_add, nI_add, nI_add]
        congr 1
        omega
      rw [this]
  · rw [e1, e2]
    exact ⟨-1, X, μ, rfl, rfl, hR⟩
theorem st_knock : St_knock := by
  intro G S X μ y1 hR
  obtain ⟨v, hm, cnt, hB, hC, hM, hX⟩ := id hR
  have hG := hB.1
  unfold cx_knock mm_knock
  rcases at_gate S X hB.1 hM.1 y1 with ⟨k, hk, rfl, e1, e2⟩ | ⟨e1, e2⟩
  · have hc := hC.2.2.1 k hk
    have hmm := hM.2.2.2.2.2.1 k hk
    have hg : gin (nI k) 5 = true := gin_of (by omega) (by decide)
    have hcl : (nI k).toNatClampNeg = k := nI_clamp (by omega)
    have q : ∀ a : Int32, (trM μ a).2 8 k = nI (v 0 k) := fun _ => hmm.1
    rw [e1, e2]
    simp only [gB1_some, gN, if_true, hk, hg, hcl, hmm.1, mm_knock_b26, begins_eq, gB2_some, q, cg_knocking, ci_knocking, ft_leave, gLet]
    rcases kind3 hB hk with h | h | h
    · rw [h] at hc ⊢
      rw [hc.1, if_neg (by decide), if_neg (by decide), if_neg (by decide), if_neg (by decide)]
      exact ⟨_, _, _, rfl, rfl, hR.tr 4⟩
    · rw [h] at hc ⊢
      rw [hc.1, if_pos (by decide), if_neg (by decide), if_neg (by decide)]
      exact ⟨_, _, _, rfl, rfl, hR.tr 4⟩
    · rw [h] at hc ⊢
      rw [hc.1, if_neg (by decide), if_pos (by decide), if_pos (by decide), if_pos (by decide)]
      exact ⟨_, _, _, rfl, rfl, hR.tr 5⟩
  · rw [e1, e2]
    exact ⟨-1, X, μ, rfl, rfl, hR⟩
theorem st_as : St_as := by
  intro G S X μ y1 y2 hR
  obtain ⟨v, hm, cnt, hB, hC, hM, hX⟩ := id hR
  have hG := hB.1
  unfold cx_as mm_as
  simp only [gLet]
  rcases at_gate (μ := sS μ 0 0) S (sS X.1 0 0, X.2) hB.1 hM.1 y1 with ⟨k, hk, rfl, e1, e2⟩ | ⟨e1, e2⟩
  · have hc : X.2.2 0 k = nI (v 0 k) := (hC.2.2.1 k hk).1
    have hmm : (sS μ 0 0).2 8 k = nI (v 0 k) := (hM.2.2.2.2.2.1 k hk).1
    have hg : gin (nI k) 5 = true := gin_of (by omega) (by decide)
    have hcl : (nI k).toNatClampNeg = k := nI_clamp (by omega)
    rw [e1, e2, cwithin_eq, within_eq]
    simp only [gB1_some, gN, if_true, hk, hg, hcl, hmm, hc, cx_as_b48, cx_as_b60, cx_as_b64, cx_as_b65, cx_failBy, mm_fails, gLet, gB2_some]
    cases hw : wI y2 0 2 with
    | false => exact ⟨-2, _, _, rfl, rfl, hR.fault 0⟩
    | true =>
      obtain ⟨j, hj, rfl⟩ := wI_nat 2 (by decide) hw
      have hj3 : j = 0 ∨ j = 1 ∨ j = 2 := by omega
      rcases kind3 hB hk with h | h | h <;> rw [h] <;> rcases hj3 with rfl | rfl | rfl
      · exact ⟨1, _, _, rfl, rfl, hR.fault 0⟩
      · exact ⟨-12, _, _, rfl, rfl, (hR.fault 0).fault 2⟩
      · exact ⟨-12, _, _, rfl, rfl, (hR.fault 0).fault 2⟩
      · exact ⟨1, _, _, rfl, rfl, hR.fault 0⟩
      · exact ⟨1, _, _, rfl, rfl, hR.fault 0⟩
      · exact ⟨-12, _, _, rfl, rfl, (hR.fault 0).fault 2⟩
      · exact ⟨1, _, _, rfl, rfl, hR.fault 0⟩
      · exact ⟨1, _, _, rfl, rfl, hR.fault 0⟩
      · exact ⟨1, _, _, rfl, rfl, hR.fault 0⟩
  · rw [e1, e2]
    exact ⟨-1, _, _, rfl, rfl, hR.fault 0⟩
