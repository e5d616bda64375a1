/-! routes: the run by naturals -/
def rcn (ps : Nat → Nat) : Nat → Nat → Nat
  | 0 => n0
  | j + 1 => uN (rcn ps j) (ps j) (rcn ps j (ps j) + 1)
def rld (ps pd : Nat → Nat) : Nat → Nat → Nat
  | 0 => n0
  | j + 1 => uN (rld ps pd j) (ps j) (lmax (rld ps pd j (ps j)) (pd j))
def rT (ps pg pd : Nat → Nat) : Nat → Nat → Nat
  | 0 => n0
  | j + 1 => uN (rT ps pg pd j) (sp (ps j) (pg j) (pd j)) (rT ps pg pd j (sp (ps j) (pg j) (pd j)) ||| 2 ^ rcn ps j (ps j))
/-- passage j goes wrong -/
def rBad (v : gV0) (ps pd : Nat → Nat) (j : Nat) : Prop := pd j < v 5 (ps j) ∨ rcn ps j (ps j) = 3
def rFree (v : gV0) (ps pd : Nat → Nat) (j : Nat) : Prop := ∀ i, i < j → ¬ rBad v ps pd i
def rVal (G S : Nat) (ps pg pd : Nat → Nat) (n : Nat) : Prop := ∀ i, i < n → ps i < S ∧ pg i < G ∧ pd i ≤ 7
theorem run_bounds {G S : Nat} {v : gV0} {ps pg pd : Nat → Nat} : ∀ j, rVal G S ps pg pd j → rFree v ps pd j → (∀ q, rT ps pg pd j q < 8) ∧ ∀ s, rcn ps j s ≤ 3 ∧ rld ps pd j s ≤ 7 ∧ (rcn ps j s = 0 → rld ps pd j s = 0)
  | 0, _, _ => ⟨fun _ => by show (0 : Nat) < 8; decide, fun _ => ⟨by show (0 : Nat) ≤ 3; decide, by show (0 : Nat) ≤ 7; decide, fun _ => rfl⟩⟩
  | j + 1, hv, hf => by
    obtain ⟨h1, h2⟩ := run_bounds (v := v) j (fun i hi => hv i (by omega)) (fun i hi => hf i (by omega))
    have nb := hf j (by omega)
    have vj := hv j (by omega)
    have h3 := (h2 (ps j)).1
    have hc : rcn ps j (ps j) < 3 := by
      have : ¬ rcn ps j (ps j) = 3 := fun h => nb (Or.inr h)
      omega
    refine ⟨fun q => ?_, fun s => ?_⟩
    · show uN (rT ps pg pd j) _ _ q < 8
      by_cases h : q = sp (ps j) (pg j) (pd j)
      · rw [h, uN_s]; exact (or_bit (h1 _) hc).2.1
      · rw [uN_n h]; exact h1 q
    · show uN (rcn ps j) _ _ s ≤ 3 ∧ uN (rld ps pd j) _ _ s ≤ 7 ∧ (uN (rcn ps j) _ _ s = 0 → uN (rld ps pd j) _ _ s = 0)
      by_cases h : s = ps j
      · rw [h, uN_s, uN_s]
        refine ⟨by omega, ?_, fun h => by omega⟩
        unfold lmax
        have := (h2 (ps j)).2.1
        by_cases q : rld ps pd j (ps j) < pd j
        · rw [if_pos q]; exact vj.2.2
        · rw [if_neg q]; exact this
      · rw [uN_n h, uN_n h]; exact h2 s
/-- the class's state after j passages -/
def RT (G S : Nat) (v : gV0) (ps pg pd : Nat → Nat) (σ : gS) (j : Nat) : Prop := (rFree v ps pd j ∧ σ.1 4 = (-9) ∧ ∃ (m : Nat) (bs bg bd : Nat → Nat), CI σ m (rcn ps j) (rld ps pd j) (rT ps pg pd j) bs bg bd ∧ NI G S v m j (rcn ps j) (rld ps pd j) (rT ps pg pd j) bs bg bd) ∨ (∃ j0, j0 < j ∧ rFree v ps pd j0 ∧ rBad v ps pd j0 ∧ σ.1 4 = nI j0)
theorem route_step {G S : Nat} {v : gV0} {ps pg pd : Nat → Nat} {σ : gS} {j : Nat} (hG : G ≤ 5) (hS : S ≤ 4) (h : RT G S v ps pg pd σ j) (hj : j < 12) (hv : rVal G S ps pg pd (j + 1)) : ∃ σ', fo_pass σ (nI j) (nI (ps j)) (nI (pg j)) (nI (pd j)) (bI (decide (v 5 (ps j) ≤ pd j))) = some ((), σ') ∧ FK σ σ' ∧ RT G S v ps pg pd σ' (j + 1) := by
  have vj := hv j (by omega)
  have g4 : gin (nI (ps j)) 4 = true := gin_of (by omega) (by decide)
  have hcl : (nI (ps j)).toNatClampNeg = ps j := nI_clamp (by omega)
  have w03 : wI (nI (ps j)) 0 3 = true := wI_nI (b := 3) (by omega) (by decide)
  rcases h with ⟨hf, h9, m, bs, bg, bd, hI, hN⟩ | ⟨j0, hj0, hf, hb, h4⟩
  · by_cases hb : rBad v ps pd j
    · refine ⟨sS σ 4 (nI j), ?_, FK.num σ 4 _ (Or.inr rfl), Or.inr ⟨j, by omega, hf, hb, sS_s⟩⟩
      unfold fo_pass
      rw [if_pos h9, cwithin_eq, w03]
      simp only [gB1_some, if_true, g4, hcl, (hI.2.2 (ps j) (by omega)).1]
      by_cases q : v 5 (ps j) ≤ pd j
      · have h3 : rcn ps j (ps j) = 3 := by
          rcases hb with hb | hb
          · omega
          · exact hb
        rw [decide_eq_true q, if_neg (by decide), h3, if_neg (by decide)]
        rfl
      · rw [decide_eq_false q, if_pos (by decide)]
        rfl
    · have hbd : v 5 (ps j) ≤ pd j := Nat.le_of_not_lt fun q => hb (Or.inl q)
      have h3 := (hN.2.2.1 (ps j)).1
      have hc : rcn ps j (ps j) < 3 := by
        have : ¬ rcn ps j (ps j) = 3 := fun h => hb (Or.inr h)
        omega
      obtain ⟨σ', m', bs', bg', bd', f1, f2, f3, f4, f5⟩ := pass_go (nI j) hG hS hI hN h9 hj vj.1 vj.2.1 vj.2.2 hbd hc
      refine ⟨σ', ?_, f2, Or.inl ⟨?_, f3, m', bs', bg', bd', f4, f5⟩⟩
      · rw [decide_eq_true hbd]; exact f1
      · intro i hi
        by_cases q : i = j
        · rw [q]; exact hb
        · exact hf i (by omega)
  · refine ⟨σ, ?_, FK.refl σ, Or.inr ⟨j0, by omega, hf, hb, h4⟩⟩
    unfold fo_pass
    rw [if_neg]
    rw [h4]
    intro h
    have : (-9 : Int32) < 0 := by decide
    rw [← h] at this
    exact nI_pos (n := j0) (by omega) this
theorem go_run {G S : Nat} {μ : gS} {v : gV0} {hm cnt n : Nat} {ps pg pd : Nat → Nat} (hB : RB G S v hm cnt) (hM : RM G S μ v hm cnt) (hL : LY μ n ps pg pd) (hn : n ≤ 12) (hv : rVal G S ps pg pd n) : ∀ j, j ≤ n → rFree v ps pd j → ∃ μ', mm_go μ = mm_go_b52 (1000 - j) (nI j) μ' ∧ GK μ μ' ∧ MI μ' (rcn ps j) (rld ps pd j) (rT ps pg pd j)
  | 0, _, _ => by
    obtain ⟨μ', h1, h2, h3⟩ := go_begin μ
    exact ⟨μ', h1, h2, h3⟩
  | j + 1, hj, hf => by
    obtain ⟨μ1, h1, h2, h3⟩ := go_run hB hM hL hn hv j (by omega) (fun i hi => hf i (by omega))
    obtain ⟨b1, b2⟩ := run_bounds (v := v) j (fun i hi => hv i (by omega)) (fun i hi => hf i (by omega))
    have nb := hf j (by omega)
    have vj := hv j (by omega)
    have c3 := (b2 (ps j)).1
    have hc : rcn ps j (ps j) < 3 := by
      have : ¬ rcn ps j (ps j) = 3 := fun h => nb (Or.inr h)
      omega
    have e : 1000 - j = (1000 - (j + 1)) + 1 := by omega
    obtain ⟨μ2, f1, f2, f3⟩ := go_on (N := 1000 - (j + 1)) hB (h2.MK.RM hM) (h2.LY hL) h3 hn (by omega) vj.1 vj.2.1 vj.2.2 (Nat.le_of_not_lt fun q => nb (Or.inl q)) hc b1 (fun s => (b2 s).2)
    exact ⟨μ2, by rw [h1, e]; exact f1, h2.trans f2, f3⟩
theorem go_nat {G S : Nat} {μ : gS} {v : gV0} {hm cnt n : Nat} {ps pg pd : Nat → Nat} (hB : RB G S v hm cnt) (hM : RM G S μ v hm cnt) (hL : LY μ n ps pg pd) (hn : n ≤ 12) (hv : rVal G S ps pg pd n) : (rFree v ps pd n → ∃ μ', mm_go μ = some ((-9), μ') ∧ GK μ μ' ∧ MI μ' (rcn ps n) (rld ps pd n) (rT ps pg pd n)) ∧ ∀ j0, j0 < n → rFree v ps pd j0 → rBad v ps pd j0 → ∃ μ', mm_go μ = some (nI j0, μ') ∧ GK μ μ' := by
  refine ⟨fun hf => ?_, fun j0 hj hf hb => ?_⟩
  · obtain ⟨μ1, h1, h2, h3⟩ := go_run hB hM hL hn hv n (Nat.le_refl _) hf
    refine ⟨μ1, ?_, h2, h3⟩
    have e : 1000 - n = (1000 - n - 1) + 1 := by omega
    rw [h1, e]
    unfold mm_go_b52
    rw [(h2.LY hL).1, if_pos (nI_le (by omega) (by omega))]
  · obtain ⟨μ1, h1, h2, h3⟩ := go_run hB hM hL hn hv j0 (by omega) hf
    obtain ⟨b1, b2⟩ := run_bounds (v := v) j0 (fun i hi => hv i (by omega)) hf
    have vj := hv j0 hj
    refine ⟨μ1, ?_, h2⟩
    have e : 1000 - j0 = (1000 - j0 - 1) + 1 := by omega
    rw [h1, e]
    exact go_stop hB (h2.MK.RM hM) (h2.LY hL) h3 hn hj vj.1 vj.2.2 (b2 (ps j0)).1 hb
