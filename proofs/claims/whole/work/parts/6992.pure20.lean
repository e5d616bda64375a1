/-! sizes, persons -/
theorem RC.sz3 {G S : Nat} {X : gC} {v : gV0} {hm cnt k : Nat} (h : RC G S X v hm cnt) (t : Nat) : RC G S (X.1, sA X.2 3 k (nI t)) (vset v 3 k t) hm cnt := by
  refine ⟨h.1, h.2.1, h.2.2.1, ?_, h.2.2.2.2.1, h.2.2.2.2.2⟩
  intro s hs
  have hh := h.2.2.2.1 s hs
  by_cases q : s = k
  · subst q
    refine ⟨?_, ?_, ?_⟩
    · rw [vset_s]; exact sA_s
    · exact hh.2.1
    · exact hh.2.2
  · refine ⟨?_, ?_, ?_⟩
    · rw [vset_j q]; exact (sA_i q).trans hh.1
    · exact hh.2.1
    · exact hh.2.2
theorem RM.sz3 {G S : Nat} {μ : gS} {v : gV0} {hm cnt k : Nat} (h : RM G S μ v hm cnt) (t : Nat) : RM G S (sA μ 11 k (nI t)) (vset v 3 k t) hm cnt := by
  refine ⟨h.1, h.2.1, h.2.2.1, h.2.2.2.1, h.2.2.2.2.1, h.2.2.2.2.2.1, ?_, h.2.2.2.2.2.2.2.1, h.2.2.2.2.2.2.2.2⟩
  intro s hs
  have hh := h.2.2.2.2.2.2.1 s hs
  by_cases q : s = k
  · subst q
    refine ⟨?_, ?_, ?_⟩
    · rw [vset_s]; exact sA_s
    · exact hh.2.1
    · exact hh.2.2
  · refine ⟨?_, ?_, ?_⟩
    · rw [vset_j q]; exact (sA_i q).trans hh.1
    · exact hh.2.1
    · exact hh.2.2
theorem RC.sz4 {G S : Nat} {X : gC} {v : gV0} {hm cnt k : Nat} (h : RC G S X v hm cnt) (t : Nat) : RC G S (X.1, sA X.2 4 k (nI t)) (vset v 4 k t) hm cnt := by
  refine ⟨h.1, h.2.1, h.2.2.1, ?_, h.2.2.2.2.1, h.2.2.2.2.2⟩
  intro s hs
  have hh := h.2.2.2.1 s hs
  by_cases q : s = k
  · subst q
    refine ⟨?_, ?_, ?_⟩
    · exact hh.1
    · rw [vset_s]; exact sA_s
    · exact hh.2.2
  · refine ⟨?_, ?_, ?_⟩
    · exact hh.1
    · rw [vset_j q]; exact (sA_i q).trans hh.2.1
    · exact hh.2.2
theorem RM.sz4 {G S : Nat} {μ : gS} {v : gV0} {hm cnt k : Nat} (h : RM G S μ v hm cnt) (t : Nat) : RM G S (sA μ 12 k (nI t)) (vset v 4 k t) hm cnt := by
  refine ⟨h.1, h.2.1, h.2.2.1, h.2.2.2.1, h.2.2.2.2.1, h.2.2.2.2.2.1, ?_, h.2.2.2.2.2.2.2.1, h.2.2.2.2.2.2.2.2⟩
  intro s hs
  have hh := h.2.2.2.2.2.2.1 s hs
  by_cases q : s = k
  · subst q
    refine ⟨?_, ?_, ?_⟩
    · exact hh.1
    · rw [vset_s]; exact sA_s
    · exact hh.2.2
  · refine ⟨?_, ?_, ?_⟩
    · exact hh.1
    · rw [vset_j q]; exact (sA_i q).trans hh.2.1
    · exact hh.2.2
theorem sizes_loop {G S : Nat} {v0 : gV0} {hm cnt n k : Nat} {ps pg pd : Nat → Nat} (hB0 : RB G S v0 hm cnt) (hk : k < S) (hn : n ≤ 12) (hV : rVal G S ps pg pd n) : ∀ (r t N : Nat) (w : Int32) (v : gV0) (X : gC) (μ : gS), t + r = 10 → 1 ≤ t → r < N → v 5 = v0 5 → (∀ x, vset v 3 k x = vset v0 3 k x) → RC G S X v hm cnt → RM G S μ v hm cnt → RX X μ v cnt → RT G S v0 ps pg pd X.1 n → LY μ n ps pg pd → ∃ (e : Int32) (X' : gC) (μ' : gS), cx_sizes_b55 G S N k (nI (v0 3 k)) w (nI t) X = some (e, X') ∧ mm_sizes_b39 N (nI k) (nI (v0 3 k)) w (nI t) μ = some (e, μ') ∧ RR G S X' μ' := by
  intro r
  have hS := hB0.2.1
  have hg : gin (nI k) 4 = true := gin_of (by omega) (by decide)
  have hcl : (nI k).toNatClampNeg = k := nI_clamp (by omega)
  have self : vset v0 3 k (v0 3 k) = v0 := by
    funext b i
    unfold vset
    by_cases q : b = 3 ∧ i = k
    · rw [if_pos q, q.1, q.2]
    · rw [if_neg q]
  induction r with
  | zero =>
    intro t N w v X μ ht hf hN h5 hv hC hM hX hT hL
    obtain ⟨N, rfl⟩ : ∃ q, N = q + 1 := ⟨N - 1, by omega⟩
    have : t = 10 := by omega
    subst this
    unfold cx_sizes_b55 mm_sizes_b39
    simp only [show (9 : Int32) < nI 10 by decide, if_true, hk, hg, hcl, gLet]
    have hC' := hC.sz3 (k := k) (v0 3 k)
    have hM' := hM.sz3 (k := k) (v0 3 k)
    have hX' : RX (X.1, sA X.2 3 k (nI (v0 3 k))) (sA μ 11 k (nI (v0 3 k))) (vset v 3 k (v0 3 k)) cnt := hX
    rw [hv, self] at hC' hM' hX'
    exact ⟨w, _, _, rfl, rfl, v0, hm, cnt, hB0, hC', hM', hX'⟩
  | succ r ih =>
    intro t N w v X μ ht hf hN h5 hv hC hM hX hT hL
    obtain ⟨N, rfl⟩ : ∃ q, N = q + 1 := ⟨N - 1, by omega⟩
    have hC' := hC.sz3 (k := k) t
    have hM' := hM.sz3 (k := k) t
    have hX' : RX (X.1, sA X.2 3 k (nI t)) (sA μ 11 k (nI t)) (vset v 3 k t) cnt := hX
    rw [hv] at hC' hM' hX'
    have hB' : RB G S (vset v0 3 k t) hm cnt := by
      refine ⟨hB0.1, hB0.2.1, hB0.2.2.1, hB0.2.2.2.1, hB0.2.2.2.2.1, hB0.2.2.2.2.2.1, ?_, hB0.2.2.2.2.2.2.2⟩
      intro s hs
      have hh := hB0.2.2.2.2.2.2.1 s hs
      by_cases q : s = k
      · subst q
        rw [vset_s]; exact ⟨by omega, by omega, hh.2.2⟩
      · rw [vset_j q]; exact hh
    have c5 : (vset v0 3 k t) 5 = v0 5 := rfl
    obtain ⟨b, X1, μ1, s1, s2, s3, s4, s5⟩ := so_nat hB' hC' hM' hX'.2.2.1 hn (RT.born c5 hT) hV (show LY (sA μ 11 k (nI t)) n ps pg pd from hL) (nI t)
    unfold cx_sizes_b55 mm_sizes_b39
    have n1 : ¬ (9 : Int32) < nI t := nI_nlt (a := 9) (b := t) (by omega) (by decide)
    have n2 : ¬ (9 : Int32) < nI t := nI_nlt (a := 9) (b := t) (by omega) (by decide)
    simp only [n1, n2, if_false, if_true, hk, hg, hcl, gLet, s1, s2, gB2_some, mm_sizes_b71, nI_1]
    have fin := fun w => ih (t + 1) N w (vset v0 3 k t) X1 μ1 (by omega) (by omega) (by omega) rfl (fun x => by funext b i; unfold vset; by_cases q : b = 3 ∧ i = k <;> simp [q]) (s3.CK.RC hC') (s4.RM hM') (hX'.keep s3.CK s4) (RT.keep s3 (show RT G S v0 ps pg pd (X.1, sA X.2 3 k (nI t)).1 n from hT)) s5
    cases b with
    | true =>
      simp only [if_true]
      exact fin _
    | false => exact fin _
theorem st_sizes : St_sizes := by
  intro G S X μ y1 y2 y3 y4 y5 hR
  obtain ⟨v, hm, cnt, hB, hC, hM, hX⟩ := id hR
  unfold cx_sizes mm_sizes
  simp only [gLet]
  rcases at_story G (sS X.1 0 0, X.2) hB.2.1 hM.2.1 y1 with ⟨k, hk, rfl, e1, e2⟩ | ⟨e1, e2⟩
  · have hS := hB.2.1
    rw [e1, e2]
    simp only [gB1_some, gN, show bI true = 1 from rfl]
    rcases lay_nat hR y2 y3 y4 y5 with ⟨e, X', μ', w1, w2, w3, w4, w5⟩ | ⟨v, hm, cnt, n, ps, pg, pd, X', μ', hB, hC, hM, hX, w3, w4, hn, hT, hV, hL⟩
    · rw [w3, w4]
      simp only [gB2_some, w1, w2, if_false]
      exact ⟨e, X', μ', rfl, rfl, w5⟩
    · rw [w3, w4]
      have z0 : (0 : Int32) ≤ 0 := by decide
      simp only [gB2_some, z0, if_true, hk, gin_of (show k < 4 by omega) (by decide), nI_clamp (show k < 2 ^ 31 by omega), (hC.2.2.2.1 k hk).1, (hM.2.2.2.2.2.2.1 k hk).1]
      exact sizes_loop hB hk hn hV 9 1 1000 0 v X' μ' (by omega) (by omega) (by omega) rfl (fun _ => rfl) hC hM hX hT hL
  · rw [e1, e2]
    exact ⟨-1, _, _, rfl, rfl, hR.fault 0⟩
theorem persons_loop {G S : Nat} {v0 : gV0} {hm cnt n k : Nat} {ps pg pd : Nat → Nat} (hB0 : RB G S v0 hm cnt) (hk : k < S) (hn : n ≤ 12) (hV : rVal G S ps pg pd n) : ∀ (r t N : Nat) (w : Int32) (v : gV0) (X : gC) (μ : gS), t + r = 6 → 0 ≤ t → r < N → v 5 = v0 5 → (∀ x, vset v 4 k x = vset v0 4 k x) → RC G S X v hm cnt → RM G S μ v hm cnt → RX X μ v cnt → RT G S v0 ps pg pd X.1 n → LY μ n ps pg pd → ∃ (e : Int32) (X' : gC) (μ' : gS), cx_persons_b55 G S N k (nI (v0 4 k)) w (nI t) X = some (e, X') ∧ mm_persons_b39 N (nI k) (nI (v0 4 k)) w (nI t) μ = some (e, μ') ∧ RR G S X' μ' := by
  intro r
  have hS := hB0.2.1
  have hg : gin (nI k) 4 = true := gin_of (by omega) (by decide)
  have hcl : (nI k).toNatClampNeg = k := nI_clamp (by omega)
  have self : vset v0 4 k (v0 4 k) = v0 := by
    funext b i
    unfold vset
    by_cases q : b = 4 ∧ i = k
    · rw [if_pos q, q.1, q.2]
    · rw [if_neg q]
  induction r with
  | zero =>
    intro t N w v X μ ht hf hN h5 hv hC hM hX hT hL
    obtain ⟨N, rfl⟩ : ∃ q, N = q + 1 := ⟨N - 1, by omega⟩
    have : t = 6 := by omega
    subst this
    unfold cx_persons_b55 mm_persons_b39
    simp only [show (5 : Int32) < nI 6 by decide, show (6 : Int32) ≤ nI 6 by decide, if_true, hk, hg, hcl, gLet]
    have hC' := hC.sz4 (k := k) (v0 4 k)
    have hM' := hM.sz4 (k := k) (v0 4 k)
    have hX' : RX (X.1, sA X.2 4 k (nI (v0 4 k))) (sA μ 12 k (nI (v0 4 k))) (vset v 4 k (v0 4 k)) cnt := hX
    rw [hv, self] at hC' hM' hX'
    exact ⟨w, _, _, rfl, rfl, v0, hm, cnt, hB0, hC', hM', hX'⟩
  | succ r ih =>
    intro t N w v X μ ht hf hN h5 hv hC hM hX hT hL
    obtain ⟨N, rfl⟩ : ∃ q, N = q + 1 := ⟨N - 1, by omega⟩
    have hC' := hC.sz4 (k := k) t
    have hM' := hM.sz4 (k := k) t
    have hX' : RX (X.1, sA X.2 4 k (nI t)) (sA μ 12 k (nI t)) (vset v 4 k t) cnt := hX
    rw [hv] at hC' hM' hX'
    have hB' : RB G S (vset v0 4 k t) hm cnt := by
      refine ⟨hB0.1, hB0.2.1, hB0.2.2.1, hB0.2.2.2.1, hB0.2.2.2.2.1, hB0.2.2.2.2.2.1, ?_, hB0.2.2.2.2.2.2.2⟩
      intro s hs
      have hh := hB0.2.2.2.2.2.2.1 s hs
      by_cases q : s = k
      · subst q
        exact ⟨hh.1, hh.2.1, by rw [vset_s]; omega, hh.2.2.2⟩
      · exact ⟨hh.1, hh.2.1, by rw [vset_j q]; exact hh.2.2.1, hh.2.2.2⟩
    have c5 : (vset v0 4 k t) 5 = v0 5 := rfl
    obtain ⟨b, X1, μ1, s1, s2, s3, s4, s5⟩ := so_nat hB' hC' hM' hX'.2.2.1 hn (RT.born c5 hT) hV (show LY (sA μ 12 k (nI t)) n ps pg pd from hL) (nI t)
    unfold cx_persons_b55 mm_persons_b39
    have n1 : ¬ (5 : Int32) < nI t := nI_nlt (a := 5) (b := t) (by omega) (by decide)
    have n2 : ¬ (6 : Int32) ≤ nI t := nI_ge (b := 6) (by omega) (by decide)
    simp only [n1, n2, if_false, if_true, hk, hg, hcl, gLet, s1, s2, gB2_some, mm_persons_b71, nI_1]
    have fin := fun w => ih (t + 1) N w (vset v0 4 k t) X1 μ1 (by omega) (by omega) (by omega) rfl (fun x => by funext b i; unfold vset; by_cases q : b = 4 ∧ i = k <;> simp [q]) (s3.CK.RC hC') (s4.RM hM') (hX'.keep s3.CK s4) (RT.keep s3 (show RT G S v0 ps pg pd (X.1, sA X.2 4 k (nI t)).1 n from hT)) s5
    cases b with
    | true =>
      simp only [if_true]
      exact fin _
    | false => exact fin _
theorem st_persons : St_persons := by
  intro G S X μ y1 y2 y3 y4 y5 hR
  obtain ⟨v, hm, cnt, hB, hC, hM, hX⟩ := id hR
  unfold cx_persons mm_persons
  simp only [gLet]
  rcases at_story G (sS X.1 0 0, X.2) hB.2.1 hM.2.1 y1 with ⟨k, hk, rfl, e1, e2⟩ | ⟨e1, e2⟩
  · have hS := hB.2.1
    rw [e1, e2]
    simp only [gB1_some, gN, show bI true = 1 from rfl]
    rcases lay_nat hR y2 y3 y4 y5 with ⟨e, X', μ', w1, w2, w3, w4, w5⟩ | ⟨v, hm, cnt, n, ps, pg, pd, X', μ', hB, hC, hM, hX, w3, w4, hn, hT, hV, hL⟩
    · rw [w3, w4]
      simp only [gB2_some, w1, w2, if_false]
      exact ⟨e, X', μ', rfl, rfl, w5⟩
    · rw [w3, w4]
      have z0 : (0 : Int32) ≤ 0 := by decide
      simp only [gB2_some, z0, if_true, hk, gin_of (show k < 4 by omega) (by decide), nI_clamp (show k < 2 ^ 31 by omega), (hC.2.2.2.1 k hk).2.1, (hM.2.2.2.2.2.2.1 k hk).2.1]
      exact persons_loop hB hk hn hV 6 0 1000 0 v X' μ' (by omega) (by omega) (by omega) rfl (fun _ => rfl) hC hM hX hT hL
  · rw [e1, e2]
    exact ⟨-1, _, _, rfl, rfl, hR.fault 0⟩
