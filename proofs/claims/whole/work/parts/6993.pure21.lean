/-! kinds -/
theorem RC.kd {G S : Nat} {Y Z : gS} {v : gV0} {hm cnt k : Nat} (h : RC G S (Y, Z) v hm cnt) (t : Nat) : RC G S (Y, sA Z 0 k (nI t)) (vset v 0 k t) hm cnt := by
  refine ⟨h.1, h.2.1, ?_, h.2.2.2.1, h.2.2.2.2.1, h.2.2.2.2.2⟩
  intro s hs
  have hh := h.2.2.1 s hs
  by_cases q : s = k
  · subst q
    exact ⟨by rw [vset_s]; exact sA_s, hh.2.1, hh.2.2⟩
  · exact ⟨by rw [vset_j q]; exact (sA_i q).trans hh.1, hh.2.1, hh.2.2⟩
theorem RM.kd {G S : Nat} {μ : gS} {v : gV0} {hm cnt k : Nat} (h : RM G S μ v hm cnt) (t : Nat) : RM G S (sA μ 8 k (nI t)) (vset v 0 k t) hm cnt := by
  refine ⟨h.1, h.2.1, h.2.2.1, h.2.2.2.1, h.2.2.2.2.1, ?_, h.2.2.2.2.2.2.1, h.2.2.2.2.2.2.2.1, h.2.2.2.2.2.2.2.2⟩
  intro s hs
  have hh := h.2.2.2.2.2.1 s hs
  by_cases q : s = k
  · subst q
    exact ⟨by rw [vset_s]; exact sA_s, hh.2.1, hh.2.2⟩
  · exact ⟨by rw [vset_j q]; exact (sA_i q).trans hh.1, hh.2.1, hh.2.2⟩
theorem kinds_step {G S : Nat} {v0 v : gV0} {hm cnt n k t : Nat} {ps pg pd : Nat → Nat} {Y Z μ : gS} (hB0 : RB G S v0 hm cnt) (hn : n ≤ 12) (hV : rVal G S ps pg pd n) (ht : t ≤ 2) (hv : ∀ x, vset v 0 k x = vset v0 0 k x) (hC : RC G S (Y, Z) v0 hm cnt) (hM : RM G S μ v hm cnt) (hX : RX (Y, Z) μ v0 cnt) (hT : RT G S v0 ps pg pd Y n) (hL : LY μ n ps pg pd) : ∃ (b : Bool) (Y' μ' : gS), cx_bitIfSo G S (Y, sA Z 0 k (nI t)) (nI t) = some (if b = true then (1 : Int32) <<< (nI t &&& 31) else 0, (Y', sA Z 0 k (nI t))) ∧ mm_areSo (sA μ 8 k (nI t)) = some (b, μ') ∧ RC G S (Y', Z) v0 hm cnt ∧ RM G S μ' (vset v0 0 k t) hm cnt ∧ RX (Y', Z) μ' v0 cnt ∧ RT G S v0 ps pg pd Y' n ∧ LY μ' n ps pg pd := by
  have hC' := hC.kd (k := k) t
  have hM' := hM.kd (k := k) t
  have hX' : RX (Y, sA Z 0 k (nI t)) (sA μ 8 k (nI t)) (vset v0 0 k t) cnt := hX
  rw [hv] at hM'
  have hB' : RB G S (vset v0 0 k t) hm cnt := by
    refine ⟨hB0.1, hB0.2.1, hB0.2.2.1, hB0.2.2.2.1, hB0.2.2.2.2.1, ?_, hB0.2.2.2.2.2.2⟩
    intro s hs
    have hh := hB0.2.2.2.2.2.1 s hs
    by_cases q : s = k
    · subst q
      exact ⟨by rw [vset_s]; exact ht, hh.2⟩
    · exact ⟨by rw [vset_j q]; exact hh.1, hh.2⟩
  have c5 : (vset v0 0 k t) 5 = v0 5 := rfl
  obtain ⟨b, X1, μ1, s1, s2, s3, s4, s5⟩ := so_nat hB' hC' hM' hX'.2.2.1 hn (RT.born c5 hT) hV (show LY (sA μ 8 k (nI t)) n ps pg pd from hL) (nI t)
  have e : X1 = (X1.1, sA Z 0 k (nI t)) := by
    have h2 : X1.2 = sA Z 0 k (nI t) := s3.2.1
    rw [← h2]
  have ck : CK (Y, Z) (X1.1, Z) := ⟨s3.CK.1, rfl, s3.CK.2.2⟩
  have mk : MK μ μ1 ∨ True := Or.inr trivial
  have hX1 := hX'.keep s3.CK s4
  refine ⟨b, X1.1, μ1, ?_, s2, ck.RC hC, s4.RM hM', ?_, ?_, s5⟩
  · rw [s1]; exact congrArg some (congrArg _ e)
  · exact hX1
  · exact RT.keep (X := (Y, sA Z 0 k (nI t))) s3 hT
theorem st_kinds : St_kinds := by
  intro G S X μ y1 y2 y3 y4 y5 hR
  obtain ⟨v, hm, cnt, hB, hC, hM, hX⟩ := id hR
  unfold cx_kinds mm_kinds
  simp only [gLet]
  rcases at_gate S (sS X.1 0 0, X.2) hB.1 hM.1 y1 with ⟨k, hk, rfl, e1, e2⟩ | ⟨e1, e2⟩
  · have hG := hB.1
    rw [e1, e2]
    simp only [gB1_some, gN, show bI true = 1 from rfl]
    rcases lay_nat hR y2 y3 y4 y5 with ⟨e, X', μ', w1, w2, w3, w4, w5⟩ | ⟨v, hm, cnt, n, ps, pg, pd, X', μ', hB, hC, hM, hX, w3, w4, hn, hT, hV, hL⟩
    · rw [w3, w4]
      simp only [gB2_some, w1, w2, if_false]
      exact ⟨e, X', μ', rfl, rfl, w5⟩
    · rw [w3, w4]
      have hg : gin (nI k) 5 = true := gin_of (by omega) (by decide)
      have hcl : (nI k).toNatClampNeg = k := nI_clamp (by omega)
      have z0 : (0 : Int32) ≤ 0 := by decide
      have vv : ∀ t x, vset (vset v 0 k t) 0 k x = vset v 0 k x := fun t x => by funext b i; unfold vset; by_cases q : b = 0 ∧ i = k <;> simp [q]
      obtain ⟨b0, Y0, μ0, a1, a2, a3, a4, a5, a6, a7⟩ := kinds_step (k := k) (t := 0) hB hn hV (by omega) (fun _ => rfl) (show RC G S (X'.1, X'.2) v hm cnt from hC) hM hX hT hL
      obtain ⟨b1, Y1, μ1, c1, c2, c3, c4, c5, c6, c7⟩ := kinds_step (k := k) (t := 1) hB hn hV (by omega) (vv 0) a3 a4 a5 a6 a7
      obtain ⟨b2, Y2, μ2, d1, d2, d3, d4, d5, d6, d7⟩ := kinds_step (k := k) (t := 2) hB hn hV (by omega) (vv 1) c3 c4 c5 c6 c7
      have hMe := d4.kd (k := k) (v 0 k)
      have self : vset v 0 k (v 0 k) = v := by
        funext b i
        unfold vset
        by_cases q : b = 0 ∧ i = k
        · rw [if_pos q, q.1, q.2]
        · rw [if_neg q]
      rw [vv, self] at hMe
      simp only [gB2_some, z0, if_true, hg, hcl, (hM.2.2.2.2.2.1 k hk).1]
      replace a1 : cx_bitIfSo G S (X'.1, sA X'.2 0 k 0) 0 = _ := a1
      replace c1 : cx_bitIfSo G S (Y0, sA X'.2 0 k 1) 1 = _ := c1
      replace d1 : cx_bitIfSo G S (Y1, sA X'.2 0 k 2) 2 = _ := d1
      replace a2 : mm_areSo (sA μ' 8 k 0) = _ := a2
      replace c2 : mm_areSo (sA μ0 8 k (0 + 1)) = _ := c2
      replace d2 : mm_areSo (sA μ1 8 k (0 + 1 + 1)) = _ := d2
      refine ⟨(((0 : Int32) ||| (if b0 = true then (1 : Int32) <<< (nI 0 &&& 31) else 0)) ||| (if b1 = true then (1 : Int32) <<< (nI 1 &&& 31) else 0)) ||| (if b2 = true then (1 : Int32) <<< (nI 2 &&& 31) else 0), (Y2, X'.2), sA μ2 8 k (nI (v 0 k)), ?_, ?_, v, hm, cnt, hB, d3, hMe, d5⟩
      · rw [a1]; simp only [gB2_some]; rw [c1]; simp only [gB2_some]; rw [d1]; rfl
      · unfold mm_kinds_b39; rw [if_neg (by decide), if_pos hg, hcl]; simp only [gLet, a2, gB2_some, mm_kinds_b70]
        cases b0 <;> cases b1 <;> cases b2 <;> (unfold mm_kinds_b39; simp only [hg, hcl, gLet, c2, gB2_some, mm_kinds_b70, show ¬ (3 : Int32) ≤ 0 + 1 by decide, if_true, if_false]; unfold mm_kinds_b39; simp only [hg, hcl, gLet, d2, gB2_some, mm_kinds_b70, show ¬ (3 : Int32) ≤ 0 + 1 + 1 by decide, if_true, if_false]; unfold mm_kinds_b39; simp only [hg, hcl, gLet, show (3 : Int32) ≤ 0 + 1 + 1 + 1 by decide, if_true]; rfl)
  · rw [e1, e2]
    exact ⟨-1, _, _, rfl, rfl, hR.fault 0⟩
