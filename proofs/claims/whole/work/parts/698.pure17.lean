/-! pure step: passages -/
theorem row_eq (x y : Int32) : mm_isRow x y = some (wI x 0 2 && wI y 0 12) := by
  unfold mm_isRow
  rw [sort_eq]
  simp only [gB1_some, within_eq]
  cases wI x 0 2 <;> cases wI y 0 12 <;> rfl
theorem asked_eq (x : Int32) : cx_isAskedOfPassages x = some (wI x 0 1 || (wI x 10 13 || wI x 20 24)) := by
  unfold cx_isAskedOfPassages cx_isAskedOfPassages_b31
  simp only [cwithin_eq, gB1_some]
  cases wI x 0 1 <;> cases wI x 10 13 <;> cases wI x 20 24 <;> rfl
theorem readRoute_no {G S k : Nat} {X : gC} {x1 x2 x3 x4 : Int32} (h : cx_rowAt G S X x1 = some (some k)) (h2 : (wI x2 0 2 && wI x4 0 12) = false) : cx_readRoute G S X x1 x2 x3 x4 = some ((-2), X) := by
  unfold cx_readRoute
  rw [h]
  simp only [gB1_some, gN, cwithin_eq]
  cases h5 : wI x2 0 2 with
  | false => rfl
  | true =>
    rw [h5] at h2
    have h6 : wI x4 0 12 = false := h2
    rw [h6]; rfl
theorem st_passages : St_passages := by
  intro G S X μ y1 y2 y3 y4 y5 hR
  have hR0 := hR.fault 0
  obtain ⟨v, hm, cnt, hB, hC, hM, hX⟩ := id hR0
  have hG := hB.1
  have hS := hB.2.1
  unfold cx_passages mm_passages
  simp only [gLet, sheet_eq, row_eq, asked_eq, within_eq, gB1_some]
  rcases at_row G S (sS X.1 0 0, X.2) y1 with ⟨k, hk, rfl, e1, e2⟩ | ⟨e1, e2⟩
  · rw [e2]
    simp only [e1, gB1_some, gN, if_true]
    cases hr : (wI y2 0 2 && wI y4 0 12) with
    | false =>
      rw [readRoute_no e1 hr]
      refine ⟨-2, (sS X.1 0 0, X.2), sS μ 0 0, ?_, rfl, hR0⟩
      cases (wI y5 0 1 || (wI y5 10 13 || wI y5 20 24)) <;> rfl
    | true =>
      have h2 : wI y2 0 2 = true := by cases h : wI y2 0 2 with
        | true => rfl
        | false => rw [h] at hr; cases hr
      have h4 : wI y4 0 12 = true := by rw [h2] at hr; exact hr
      obtain ⟨n, hn, rfl⟩ := wI_nat 12 (by decide) h4
      simp only [if_true]
      have em : (if wI y5 0 1 = true then mm_passages_b60 (nI k) y2 y3 (nI n) y5 (sS μ 0 0) else if wI y5 10 13 = true then mm_passages_b60 (nI k) y2 y3 (nI n) y5 (sS μ 0 0) else if wI y5 20 24 = true then mm_passages_b60 (nI k) y2 y3 (nI n) y5 (sS μ 0 0) else some ((-2), sS μ 0 0)) = if (wI y5 0 1 || (wI y5 10 13 || wI y5 20 24)) = true then mm_passages_b60 (nI k) y2 y3 (nI n) y5 (sS μ 0 0) else some ((-2), sS μ 0 0) := by
        cases wI y5 0 1 <;> cases wI y5 10 13 <;> cases wI y5 20 24 <;> rfl
      rw [em]
      cases ha : (wI y5 0 1 || (wI y5 10 13 || wI y5 20 24)) with
      | false => exact ⟨-2, _, _, rfl, rfl, hR0⟩
      | true =>
        have hy : ∃ y : Nat, y5 = nI y ∧ (y = 1 ∨ (y = 0 ∨ (10 ≤ y ∧ y ≤ 13) ∨ (20 ≤ y ∧ y ≤ 24))) := by
          cases q1 : wI y5 0 1 with
          | true =>
            obtain ⟨j, hj, rfl⟩ := wI_nat 1 (by decide) q1
            exact ⟨j, rfl, by omega⟩
          | false =>
            cases q2 : wI y5 10 13 with
            | true =>
              obtain ⟨j, h1, h2, rfl⟩ := wI_nat2 10 13 (by decide) (by decide) q2
              exact ⟨j, rfl, by omega⟩
            | false =>
              rw [q1, q2] at ha
              obtain ⟨j, h1, h2, rfl⟩ := wI_nat2 20 24 (by decide) (by decide) ha
              exact ⟨j, rfl, by omega⟩
        obtain ⟨y, rfl, hy⟩ := hy
        simp only [if_true, mm_passages_b60]
        rcases route_nat hB hC hM hX hk hn y2 y3 h2 with ⟨e, X', μ', w1, w2, w3, w4, w5⟩ | ⟨C, p, X', μ', w3, w4, ck, mk, hT, hV, hL⟩
        · rw [w3, w4]
          simp only [gB2_some, w1, w2, if_false]
          exact ⟨e, X', μ', rfl, rfl, w5⟩
        · rw [w3, w4]
          have z0 : (0 : Int32) ≤ 0 := by decide
          simp only [gB2_some, z0, if_true]
          obtain ⟨go1, go2⟩ := go_nat hB (mk.RM hM) hL hn hV
          have e1' : (nI y = 1) ↔ y = 1 := nI_eq (b := 1) (by omega) (by decide)
          rcases hT with ⟨hf, h9, m, bs, bg, bd, hI, hN⟩ | ⟨j0, hj0, hf, hb, h4'⟩
          · obtain ⟨μ2, z1, z2, z3⟩ := go1 hf
            rw [z1, h9]
            simp only [gB2_some, e1', if_true]
            by_cases q : y = 1
            · simp only [q, if_true]
              exact ⟨-9, X', μ2, rfl, rfl, hR0.keep ck (mk.trans z2.MK)⟩
            · simp only [q, if_false]
              obtain ⟨r, X2, μ3, t1, t2, t3, t4⟩ := tell_nat hB (ck.RC hC) ((mk.trans z2.MK).RM hM) hN (by have := hN.1; omega) hI z3 y (by omega)
              refine ⟨r, X2, μ3, t1, ?_, ?_⟩
              · rw [t2]; rfl
              exact (hR0.keep (ck.trans t3) ((mk.trans z2.MK).trans t4))
          · obtain ⟨μ2, z1, z2⟩ := go2 j0 hj0 hf hb
            rw [z1, h4']
            simp only [gB2_some, e1', neg9_nI (show j0 < 2 ^ 31 by omega), if_false]
            by_cases q : y = 1
            · simp only [q, if_true]
              exact ⟨_, X', μ2, rfl, rfl, hR0.keep ck (mk.trans z2.MK)⟩
            · simp only [q, if_false]
              exact ⟨_, X', μ2, rfl, rfl, hR0.keep ck (mk.trans z2.MK)⟩
  · rw [e1, e2]
    exact ⟨-1, _, _, rfl, rfl, hR0⟩
