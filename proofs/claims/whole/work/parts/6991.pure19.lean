/-! laying; limits -/
theorem lay_nat {G S : Nat} {X : gC} {μ : gS} (hR : RR G S X μ) (x1 x2 x3 x4 : Int32) : (∃ (e : Int32) (X' : gC) (μ' : gS), (¬ 0 ≤ e) ∧ (¬ e = 0) ∧ cx_readRoute G S (sS X.1 0 0, X.2) x1 x2 x3 x4 = some (e, X') ∧ mm_lay μ 1 x1 x2 x3 x4 = some (e, μ') ∧ RR G S X' μ') ∨ (∃ (v : gV0) (hm cnt n : Nat) (ps pg pd : Nat → Nat) (X' : gC) (μ' : gS), RB G S v hm cnt ∧ RC G S X' v hm cnt ∧ RM G S μ' v hm cnt ∧ RX X' μ' v cnt ∧ cx_readRoute G S (sS X.1 0 0, X.2) x1 x2 x3 x4 = some (0, X') ∧ mm_lay μ 1 x1 x2 x3 x4 = some (0, μ') ∧ n ≤ 12 ∧ RT G S v ps pg pd X'.1 n ∧ rVal G S ps pg pd n ∧ LY μ' n ps pg pd) := by
  have hR0 := hR.fault 0
  obtain ⟨v, hm, cnt, hB, hC, hM, hX⟩ := id hR0
  unfold mm_lay
  simp only [gLet, sheet_eq, row_eq, gB1_some, show ¬ (1 : Int32) = 0 by decide, if_false]
  rcases at_row G S (sS X.1 0 0, X.2) x1 with ⟨k, hk, rfl, e1, e2⟩ | ⟨e1, e2⟩
  · rw [e2]
    simp only [if_true]
    cases hr : (wI x2 0 2 && wI x4 0 12) with
    | false =>
      rw [readRoute_no e1 hr]
      exact Or.inl ⟨-2, _, _, by decide, by decide, rfl, rfl, hR0⟩
    | true =>
      have h2 : wI x2 0 2 = true := by cases h : wI x2 0 2 with
        | true => rfl
        | false => rw [h] at hr; cases hr
      have h4 : wI x4 0 12 = true := by rw [h2] at hr; exact hr
      obtain ⟨n, hn, rfl⟩ := wI_nat 12 (by decide) h4
      simp only [if_true]
      rcases route_nat hB hC hM hX hk hn x2 x3 h2 with ⟨e, X', μ', w1, w2, w3, w4, w5⟩ | ⟨C, p, X', μ', w3, w4, ck, mk, hT, hV, hL⟩
      · rw [w3, w4]
        exact Or.inl ⟨e, X', μ', w1, w2, rfl, rfl, w5⟩
      · rw [w3, w4]
        exact Or.inr ⟨v, hm, cnt, n, _, _, _, X', μ', hB, ck.RC hC, mk.RM hM, hX.keep ck mk, rfl, rfl, hn, hT, hV, hL⟩
  · rw [e2]
    have : cx_readRoute G S (sS X.1 0 0, X.2) x1 x2 x3 x4 = some ((-1), (sS X.1 0 0, X.2)) := by
      unfold cx_readRoute
      rw [e1]; rfl
    rw [this]
    exact Or.inl ⟨-1, _, _, by decide, by decide, rfl, rfl, hR0⟩
theorem RC.lim {G S : Nat} {X : gC} {v : gV0} {hm cnt : Nat} (h : RC G S X v hm cnt) (t : Nat) : RC G S (sS X.1 2 (nI t), X.2) v t cnt := ⟨sS_s, (sS_k (by decide)).trans h.2.1, h.2.2⟩
theorem RM.lim {G S : Nat} {μ : gS} {v : gV0} {hm cnt : Nat} (h : RM G S μ v hm cnt) (t : Nat) : RM G S (sS μ 7 (nI t)) v t cnt := ⟨(sS_k (by decide)).trans h.1, (sS_k (by decide)).trans h.2.1, sS_s, (sS_k (by decide)).trans h.2.2.2.1, (sS_k (by decide)).trans h.2.2.2.2.1, h.2.2.2.2.2⟩
theorem RX.lim {X : gC} {μ : gS} {v : gV0} {cnt : Nat} (h : RX X μ v cnt) (a b : Int32) : RX (sS X.1 2 a, X.2) (sS μ 7 b) v cnt := ⟨((sS_k (by decide)).trans h.1).trans (sS_k (by decide)).symm, ((sS_k (by decide)).trans h.2.1).trans (sS_k (by decide)).symm, h.2.2⟩
theorem limits_loop {G S : Nat} {v : gV0} {hm0 cnt n : Nat} {ps pg pd : Nat → Nat} (hh : hm0 ≤ 9) (hn : n ≤ 12) (hV : rVal G S ps pg pd n) : ∀ (r t N hm : Nat) (w : Int32) (X : gC) (μ : gS), t + r = 10 → r < N → RB G S v hm cnt → RC G S X v hm cnt → RM G S μ v hm cnt → RX X μ v cnt → RT G S v ps pg pd X.1 n → LY μ n ps pg pd → ∃ (e : Int32) (X' : gC) (μ' : gS), cx_limits_b39 G S N (nI hm0) w (nI t) X = some (e, X') ∧ mm_limits_b32 N (nI hm0) w (nI t) μ = some (e, μ') ∧ RR G S X' μ' := by
  intro r
  induction r with
  | zero =>
    intro t N hm w X μ ht hN hB hC hM hX hT hL
    obtain ⟨N, rfl⟩ : ∃ q, N = q + 1 := ⟨N - 1, by omega⟩
    have : t = 10 := by omega
    subst this
    unfold cx_limits_b39 mm_limits_b32
    rw [if_pos (by decide), if_pos (by decide)]
    exact ⟨w, _, _, rfl, rfl, v, hm0, cnt, ⟨hB.1, hB.2.1, hB.2.2.1, hh, hB.2.2.2.2⟩, hC.lim hm0, hM.lim hm0, hX.lim _ _⟩
  | succ r ih =>
    intro t N hm w X μ ht hN hB hC hM hX hT hL
    obtain ⟨N, rfl⟩ : ∃ q, N = q + 1 := ⟨N - 1, by omega⟩
    have a9 : (9 : Int32) = nI 9 := rfl
    have n9 : ¬ (9 : Int32) < nI t := by rw [a9]; exact nI_nlt (by omega) (by decide)
    have hB' : RB G S v t cnt := ⟨hB.1, hB.2.1, hB.2.2.1, by omega, hB.2.2.2.2⟩
    have hX' := hX.lim (nI t) (nI t)
    have hT' : RT G S v ps pg pd (sS X.1 2 (nI t)) n := by
      rcases hT with ⟨hf, h9, m, bs, bg, bd, hI, hNn⟩ | ⟨j0, a, b, c, d⟩
      · exact Or.inl ⟨hf, (sS_k (by decide)).trans h9, m, bs, bg, bd, ⟨(sS_k (by decide)).trans hI.1, hI.2⟩, hNn⟩
      · exact Or.inr ⟨j0, a, b, c, (sS_k (by decide)).trans d⟩
    have hL' : LY (sS μ 7 (nI t)) n ps pg pd := ⟨(sS_k (by decide)).trans hL.1, hL.2⟩
    obtain ⟨b, X1, μ1, s1, s2, s3, s4, s5⟩ := so_nat hB' (hC.lim t) (hM.lim t) hX'.2.2.1 hn hT' hV hL' (nI t)
    unfold cx_limits_b39 mm_limits_b32
    simp only [n9, if_false, gLet, s1, s2, gB2_some, mm_limits_b62, nI_1]
    have fin := fun w => ih (t + 1) N t w X1 μ1 (by omega) (by omega) hB' (s3.CK.RC (hC.lim t)) (s4.RM (hM.lim t)) (hX'.keep s3.CK s4) (RT.keep s3 hT') s5
    cases b with
    | true =>
      simp only [if_true]
      exact fin _
    | false => exact fin _
theorem st_limits : St_limits := by
  intro G S X μ y1 y2 y3 y4 hR
  unfold cx_limits mm_limits
  simp only [gLet]
  rcases lay_nat hR y1 y2 y3 y4 with ⟨e, X', μ', w1, w2, w3, w4, w5⟩ | ⟨v, hm, cnt, n, ps, pg, pd, X', μ', hB, hC, hM, hX, w3, w4, hn, hT, hV, hL⟩
  · rw [w3, w4]
    simp only [gB2_some, w1, w2, if_false]
    exact ⟨e, X', μ', rfl, rfl, w5⟩
  · rw [w3, w4]
    have z0 : (0 : Int32) ≤ 0 := by decide
    simp only [gB2_some, z0, if_true, hC.1, hM.2.2.1]
    exact limits_loop hB.2.2.2.1 hn hV 10 0 1000 hm 0 X' μ' (by omega) (by omega) hB hC hM hX hT hL
