/-! pure steps: the easy ones -/
theorem gin_of {k n : Nat} (h : k < n) (hn : n < 2 ^ 31) : gin (nI k) n = true := by
  unfold gin
  rw [nI_clamp (by omega)]
  have := nI_pos (n := k) (by omega)
  simp [this]; omega
def wI (x a b : Int32) : Bool := if x < a then false else if b < x then false else true
theorem within_eq (x a b : Int32) : mm_within x a b = some (wI x a b) := by
  unfold mm_within wI
  by_cases h1 : x < a
  · rw [if_pos h1, if_pos h1]
  · by_cases h2 : b < x
    · rw [if_neg h1, if_neg h1, if_pos h2, if_pos h2]
    · rw [if_neg h1, if_neg h1, if_neg h2, if_neg h2]
theorem cwithin_eq (x a b : Int32) : cx_isWithin x a b = some (wI x a b) := within_eq x a b
theorem day_eq (x : Int32) : mm_isDay x = some (wI x 0 7) := by unfold mm_isDay; rw [within_eq]; rfl
theorem cday_eq (x : Int32) : cx_isDay x = some (wI x 0 7) := by unfold cx_isDay; rw [cwithin_eq]; rfl
theorem sheet_eq (x : Int32) : mm_isSheet x = some (wI x 0 3) := by unfold mm_isSheet; rw [within_eq]; rfl
theorem sort_eq (x : Int32) : mm_isSort x = some (wI x 0 2) := by unfold mm_isSort; rw [within_eq]; rfl
theorem wI_t {x a b : Int32} (h : wI x a b = true) : ¬ x < a ∧ ¬ b < x := by
  unfold wI at h
  by_cases h1 : x < a
  · rw [if_pos h1] at h; cases h
  · by_cases h2 : b < x
    · rw [if_neg h1, if_pos h2] at h; cases h
    · exact ⟨h1, h2⟩
theorem wI_of {x a b : Int32} (h1 : ¬ x < a) (h2 : ¬ b < x) : wI x a b = true := by unfold wI; rw [if_neg h1, if_neg h2]
theorem wI_nat {x : Int32} (b : Nat) (hb : b < 2 ^ 31) (h : wI x 0 (nI b) = true) : ∃ j : Nat, j ≤ b ∧ x = nI j := by
  obtain ⟨h1, h2⟩ := wI_t h
  obtain ⟨j, hj, rfl⟩ := nI_of h1
  exact ⟨j, Nat.le_of_not_lt fun hlt => h2 ((nI_ltI hb hj).mpr hlt), rfl⟩
theorem wI_nI {j b : Nat} (hj : j ≤ b) (hb : b < 2 ^ 31) : wI (nI j) 0 (nI b) = true := wI_of (nI_pos (by omega)) (nI_nlt hj hb)
theorem at_gate {G : Nat} {μ : gS} (S : Nat) (X : gC) (hG : G ≤ 5) (hm : μ.1 5 = nI G) (x : Int32) : (∃ k, k < G ∧ x = nI k ∧ ct_gateAt G S X x = some (some k) ∧ mm_isGate μ x = some true) ∨ (ct_gateAt G S X x = some none ∧ mm_isGate μ x = some false) := by
  by_cases h0 : x < 0
  · exact Or.inr ⟨by unfold ct_gateAt; rw [if_pos h0], by unfold mm_isGate; rw [if_pos h0]⟩
  rcases pk_ix x (n := G) (by omega) with h | h | ⟨j, hj, rfl⟩
  · exact absurd h h0
  · exact Or.inr ⟨by unfold ct_gateAt; rw [if_neg h0, if_pos h], by unfold mm_isGate; rw [if_neg h0, hm, if_pos h]⟩
  · exact Or.inl ⟨j, hj, rfl, ct_gateAt_nI hj (by omega), by unfold mm_isGate; rw [if_neg h0, hm, if_neg (nI_ge hj (by omega))]⟩
theorem at_story {S : Nat} {μ : gS} (G : Nat) (X : gC) (hS : S ≤ 4) (hm : μ.1 6 = nI S) (x : Int32) : (∃ k, k < S ∧ x = nI k ∧ ct_storyAt G S X x = some (some k) ∧ mm_isStory μ x = some true) ∨ (ct_storyAt G S X x = some none ∧ mm_isStory μ x = some false) := by
  by_cases h0 : x < 0
  · exact Or.inr ⟨by unfold ct_storyAt; rw [if_pos h0], by unfold mm_isStory; rw [if_pos h0]⟩
  rcases pk_ix x (n := S) (by omega) with h | h | ⟨j, hj, rfl⟩
  · exact absurd h h0
  · exact Or.inr ⟨by unfold ct_storyAt; rw [if_neg h0, if_pos h], by unfold mm_isStory; rw [if_neg h0, hm, if_pos h]⟩
  · refine Or.inl ⟨j, hj, rfl, ?_, by unfold mm_isStory; rw [if_neg h0, hm, if_neg (nI_ge hj (by omega))]⟩
    unfold ct_storyAt
    rw [if_neg h0, if_neg (nI_ge hj (by omega)), if_pos (gin_of hj (by omega)), nI_clamp (by omega)]
theorem at_row (G S : Nat) (X : gC) (x : Int32) : (∃ k, k < 4 ∧ x = nI k ∧ cx_rowAt G S X x = some (some k) ∧ wI x 0 3 = true) ∨ (cx_rowAt G S X x = some none ∧ wI x 0 3 = false) := by
  cases h : wI x 0 3 with
  | true =>
    obtain ⟨j, hj, rfl⟩ := wI_nat 3 (by decide) h
    refine Or.inl ⟨j, by omega, rfl, ?_, rfl⟩
    unfold cx_rowAt
    rw [cwithin_eq, h]
    show (if true = true then (if gin (nI j) 4 = true then some (some (nI j).toNatClampNeg) else none) else some none) = _
    rw [if_pos rfl, if_pos (gin_of (by omega) (by decide)), nI_clamp (by omega)]
  | false =>
    refine Or.inr ⟨?_, rfl⟩
    unfold cx_rowAt
    rw [cwithin_eq, h]
    rfl
-- the relation over changes
theorem RR.fault {G S : Nat} {X : gC} {μ : gS} (h : RR G S X μ) (a : Int32) : RR G S (sS X.1 0 a, X.2) (sS μ 0 a) := by
  obtain ⟨v, hm, cnt, hB, hC, hM, hX⟩ := h
  exact ⟨v, hm, cnt, hB, hC, hM, rfl, hX.2⟩
theorem RR.trace {G S : Nat} {X : gC} {μ : gS} (h : RR G S X μ) (a : Int32) : RR G S (sS X.1 1 ((31 : Int32) * X.1.1 1 + a), X.2) (sS μ 1 ((31 : Int32) * μ.1 1 + a)) := by
  obtain ⟨v, hm, cnt, hB, hC, hM, hX⟩ := h
  refine ⟨v, hm, cnt, hB, hC, hM, hX.1, ?_, hX.2.2⟩
  show (31 : Int32) * X.1.1 1 + a = (31 : Int32) * μ.1 1 + a
  rw [hX.2.1]
theorem kind3 {G S : Nat} {v : gV0} {hm cnt k : Nat} (hB : RB G S v hm cnt) (hk : k < G) : v 0 k = 0 ∨ v 0 k = 1 ∨ v 0 k = 2 := by
  have := (hB.2.2.2.2.2.1 k hk).1
  omega
theorem st_trace : St_trace := by
  intro G S X μ hR
  obtain ⟨v, hm, cnt, hB, hC, hM, hX⟩ := id hR
  exact ⟨_, rfl, by unfold mm_trace; rw [← hX.2.1], hR⟩
theorem st_fault : St_fault := by
  intro G S X μ hR
  obtain ⟨v, hm, cnt, hB, hC, hM, hX⟩ := id hR
  exact ⟨_, rfl, by unfold mm_fault; rw [← hX.1], hR⟩
theorem st_many : St_many := by
  intro G S X μ y1 hR
  obtain ⟨v, hm, cnt, hB, hC, hM, hX⟩ := id hR
  unfold cx_many mm_many
  rw [hM.1, hM.2.1, hM.2.2.1, hM.2.2.2.1, hC.1, hC.2.1]
  by_cases c0 : y1 = 0
  · exact ⟨_, if_pos c0, if_pos c0, hR⟩
  by_cases c1 : y1 = 1
  · exact ⟨nI G, by rw [if_neg c0, if_pos c1], by rw [if_neg c0, if_pos c1], hR⟩
  by_cases c2 : y1 = 2
  · exact ⟨nI hm, by rw [if_neg c0, if_neg c1, if_pos c2], by rw [if_neg c0, if_neg c1, if_pos c2], hR⟩
  by_cases c3 : y1 = 3
  · exact ⟨nI cnt, by rw [if_neg c0, if_neg c1, if_neg c2, if_pos c3], by rw [if_neg c0, if_neg c1, if_neg c2, if_pos c3], hR⟩
  · exact ⟨-2, by rw [if_neg c0, if_neg c1, if_neg c2, if_neg c3], by rw [if_neg c0, if_neg c1, if_neg c2, if_neg c3], hR⟩
theorem st_ofGate : St_ofGate := by
  intro G S X μ y1 y2 hR
  obtain ⟨v, hm, cnt, hB, hC, hM, hX⟩ := id hR
  have hG := hB.1
  unfold cx_ofGate mm_ofGate
  rcases at_gate S X hB.1 hM.1 y1 with ⟨k, hk, rfl, e1, e2⟩ | ⟨e1, e2⟩
  · have hc := hC.2.2.1 k hk
    have hmm := hM.2.2.2.2.2.1 k hk
    have hg : gin (nI k) 5 = true := gin_of (by omega) (by decide)
    have hcl : (nI k).toNatClampNeg = k := nI_clamp (by omega)
    rw [e1, e2]
    simp only [gB1_some, gN, if_true, hk, hg, hcl, hmm.1, hmm.2.1, hmm.2.2, hc.1, hc.2.1, hc.2.2, ch_kind, ci_kind, cg_kind]
    by_cases c0 : y2 = 0
    · simp only [c0, if_true]
      rcases kind3 hB hk with h | h | h <;> rw [h] <;> exact ⟨_, rfl, rfl, hR⟩
    by_cases c1 : y2 = 1
    · subst c1; exact ⟨_, rfl, rfl, hR⟩
    by_cases c2 : y2 = 2
    · subst c2; exact ⟨_, rfl, rfl, hR⟩
    · simp only [c0, c1, c2, if_false]; exact ⟨_, rfl, rfl, hR⟩
  · rw [e1, e2]
    exact ⟨_, rfl, rfl, hR⟩
theorem third_eq {G S : Nat} {X : gC} {μ : gS} {v : gV0} {hm cnt k : Nat} (hB : RB G S v hm cnt) (hC : RC G S X v hm cnt) (hM : RM G S μ v hm cnt) (hk : k < S) (t : Int32) : ∃ r : Int32, cs_sizeOfThird G S k X t = some r ∧ mm_third μ (nI k) t = some r := by
  have hS := hB.2.1
  have hc := (hC.2.2.2.1 k hk).1
  have hmm := (hM.2.2.2.2.2.2.1 k hk).1
  have hg : gin (nI k) 4 = true := gin_of (by omega) (by decide)
  have hcl : (nI k).toNatClampNeg = k := nI_clamp (by omega)
  unfold cs_sizeOfThird mm_third
  rw [if_pos hk, if_pos hg, hcl, hc, hmm]
  by_cases h : nI (v 3 k) - nI (v 3 k) / 3 * 3 ≤ t
  · exact ⟨_, if_pos h, if_pos h⟩
  · exact ⟨_, if_neg h, if_neg h⟩
theorem st_ofStory : St_ofStory := by
  intro G S X μ y1 y2 hR
  obtain ⟨v, hm, cnt, hB, hC, hM, hX⟩ := id hR
  have hS := hB.2.1
  unfold cx_ofStory mm_ofStory
  rcases at_story G X hB.2.1 hM.2.1 y1 with ⟨k, hk, rfl, e1, e2⟩ | ⟨e1, e2⟩
  · have hc := hC.2.2.2.1 k hk
    have hmm := hM.2.2.2.2.2.2.1 k hk
    have hg : gin (nI k) 4 = true := gin_of (by omega) (by decide)
    have hcl : (nI k).toNatClampNeg = k := nI_clamp (by omega)
    rw [e1, e2]
    simp only [gB1_some, gN, if_true, hk, hg, hcl, hmm.1, hmm.2.1, hmm.2.2, hc.1, hc.2.1, hc.2.2, cx_ofStory_b71, mm_ofStory_b69]
    by_cases c0 : y2 = 0
    · subst c0; exact ⟨_, rfl, rfl, hR⟩
    by_cases c1 : y2 = 1
    · subst c1; exact ⟨_, rfl, rfl, hR⟩
    by_cases c2 : y2 = 2
    · subst c2; exact ⟨_, rfl, rfl, hR⟩
    obtain ⟨r, h1, h2⟩ := third_eq hB hC hM hk (y2 - 3)
    simp only [c0, c1, c2, if_false, h1, h2, gB1_some]
    by_cases c3 : y2 = 3
    · simp only [c3, if_true]; exact ⟨_, rfl, rfl, hR⟩
    by_cases c4 : y2 = 4
    · simp only [c3, c4, if_true, if_false]; exact ⟨r, by simp, by simp, hR⟩
    by_cases c5 : y2 = 5
    · simp only [c3, c4, c5, if_true, if_false]; exact ⟨r, by simp, by simp, hR⟩
    · simp only [c3, c4, c5, if_false]; exact ⟨_, rfl, rfl, hR⟩
  · rw [e1, e2]
    exact ⟨_, rfl, rfl, hR⟩
theorem st_harmless : St_harmless := by
  intro G S X μ y1 hR
  obtain ⟨v, hm, cnt, hB, hC, hM, hX⟩ := id hR
  have hG := hB.1
  have hS := hB.2.1
  unfold cx_harmless mm_harmless
  rw [cwithin_eq, within_eq]
  simp only [gB1_some]
  cases hw : wI y1 0 9 with
  | false => exact ⟨-2, X, μ, rfl, rfl, hR⟩
  | true =>
    obtain ⟨j, hj, rfl⟩ := wI_nat 9 (by decide) hw
    simp only [if_true]
    by_cases h0 : G = 0
    · have hS0 : S = 0 := hB.2.2.1.mp h0
      subst h0; subst hS0
      refine ⟨-3, X, μ, ?_, ?_, hR⟩
      · unfold ct_stands; rfl
      · rw [hM.1]; rfl
    · have hS0 : ¬ S = 0 := fun h => h0 (hB.2.2.1.mpr h)
      refine ⟨nI hm, (sS X.1 2 (nI j), X.2), sS μ 7 (nI j), ?_, ?_, v, j, cnt, ⟨hB.1, hB.2.1, hB.2.2.1, hj, hB.2.2.2.2⟩, ⟨rfl, hC.2⟩, ⟨hM.1, hM.2.1, rfl, hM.2.2.2⟩, hX⟩
      · unfold ct_stands
        rw [if_neg (nI_nle (by omega) (by omega))]
        simp only [gB1_some, gLet, if_true, hC.1]
      · rw [hM.1, if_neg (nI_ne0 (by omega) (by omega)), hM.2.2.1]; rfl
