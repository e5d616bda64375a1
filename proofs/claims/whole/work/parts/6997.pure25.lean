/-! least, free, worth -/
theorem zk_pence {y : Nat} (hy : y < 2 ^ 31) : ct_penceOf (nI y) = some (nI (y / 262144)) := by
  unfold ct_penceOf
  exact congrArg some (pk_shrN hy _ 18 (by decide))
theorem zk_spot0 {y : Nat} (hy : y < 2 ^ 31) : ct_spotOf (nI y) (nI 0) = some (nI (y / 4096 % 64)) := by
  unfold ct_spotOf ct_spotShift
  have e1 : nI y >>> (((6 : Int32) * ((2 : Int32) - nI 0)) &&& 31) = nI (y / 4096) := pk_shrN hy _ 12 (by decide)
  have e2 : nI (y / 4096) &&& 63 = nI (y / 4096 % 64) := pk_andN (by omega) 6 (by decide)
  simp only [gB1_some]
  rw [e1, e2]
theorem zk_spot1 {y : Nat} (hy : y < 2 ^ 31) : ct_spotOf (nI y) (nI 1) = some (nI (y / 64 % 64)) := by
  unfold ct_spotOf ct_spotShift
  have e1 : nI y >>> (((6 : Int32) * ((2 : Int32) - nI 1)) &&& 31) = nI (y / 64) := pk_shrN hy _ 6 (by decide)
  have e2 : nI (y / 64) &&& 63 = nI (y / 64 % 64) := pk_andN (by omega) 6 (by decide)
  simp only [gB1_some]
  rw [e1, e2]
theorem zk_spot2 {y : Nat} (hy : y < 2 ^ 31) : ct_spotOf (nI y) (nI 2) = some (nI (y % 64)) := by
  unfold ct_spotOf ct_spotShift
  have e1 : nI y >>> (((6 : Int32) * ((2 : Int32) - nI 2)) &&& 31) = nI (y / 2 ^ 0) := pk_shrN hy _ 0 (by decide)
  rw [Nat.pow_zero, Nat.div_one] at e1
  have e2 : nI y &&& 63 = nI (y % 64) := pk_andN (by omega) 6 (by decide)
  simp only [gB1_some]
  rw [e1, e2]
theorem wI_m1 {x : Int32} (h : wI x (-1) 2 = true) : x = (-1) ∨ x = nI 0 ∨ x = nI 1 ∨ x = nI 2 := by
  by_cases h0 : x < 0
  · have h1 := (wI_t h).1
    rw [Int32.lt_iff_toInt_lt] at h0 h1
    have e0 : (0 : Int32).toInt = 0 := by decide
    have e1 : (-1 : Int32).toInt = -1 := by decide
    rw [e0] at h0
    rw [e1] at h1
    exact Or.inl (Int32.toInt_inj.mp (by rw [e1]; omega))
  · obtain ⟨j, hj, rfl⟩ := wI_nat 2 (by decide) (wI_of (a := 0) (b := nI 2) h0 (wI_t h).2)
    rcases (show j = 0 ∨ j = 1 ∨ j = 2 by omega) with rfl | rfl | rfl
    · exact Or.inr (Or.inl rfl)
    · exact Or.inr (Or.inr (Or.inl rfl))
    · exact Or.inr (Or.inr (Or.inr rfl))
theorem zk_rn {G S : Nat} {μ : gS} {v : gV0} {hm cnt : Nat} (hM : RM G S μ v hm cnt) : RM G S (sS μ 14 (-9)) v hm cnt := ⟨hM.1, hM.2.1, hM.2.2.1, hM.2.2.2.1, rfl, hM.2.2.2.2.2⟩
theorem zk_rn2 {G S : Nat} {μ : gS} {v : gV0} {hm cnt : Nat} (x : Int32) (hM : RM G S μ v hm cnt) : RM G S (sS (sS μ 14 x) 14 (-9)) v hm cnt := ⟨hM.1, hM.2.1, hM.2.2.1, hM.2.2.2.1, rfl, hM.2.2.2.2.2⟩
theorem zk_m19 {G : Nat} (hG : G ≤ 5) : ∀ g, g < G → (nI g = (-1) ↔ nI g = (-9)) := fun g hg => ⟨fun h => absurd h (fun q => nI_pos (show g < 2 ^ 31 by omega) (by rw [q]; decide)), fun h => absurd h (nI_m9 (by omega))⟩
theorem zk_there {G S : Nat} {v : gV0} {hm cnt k d g : Nat} {mx : Int32} (hB : RB G S v hm cnt) (hg : g < G) (hd : d ≤ 7) (hbd : v 5 k ≤ d) (hx : ¬ nI g = mx) : zkOp G v k mx (d + 1) (10 * g + d) := by
  have e1 : (10 * g + d) / 10 = g := by omega
  have e2 : (10 * g + d) % 10 = d := by omega
  unfold zkOp
  rw [e1, e2]
  exact ⟨by omega, hbd, hg, hx⟩
theorem st_least : St_least := by
  intro G S X μ y1 y2 y3 hR
  obtain ⟨v, hm, cnt, hB, hC, hM, hX⟩ := id hR
  have hG := hB.1
  have hS := hB.2.1
  unfold cx_least mm_least
  simp only [cday_eq, day_eq, cwithin_eq, within_eq, gB1_some]
  rcases at_story G X hB.2.1 hM.2.1 y1 with ⟨k, hk, rfl, e1, e2⟩ | ⟨e1, e2⟩
  · have hG0 : ¬ G = 0 := fun h => by have := hB.2.2.1.mp h; omega
    have hb := hB.2.2.2.2.2.2.1 k hk
    rw [e1, e2]
    simp only [gB1_some, gN, if_true, hk]
    cases hd : wI y2 0 7 with
    | false => exact ⟨-2, X, μ, rfl, rfl, hR⟩
    | true =>
      obtain ⟨d, hd7, rfl⟩ := wI_nat 7 (by decide) hd
      simp only [if_true]
      cases h3 : wI y3 (-1) 2 with
      | false => exact ⟨-2, X, μ, rfl, rfl, hR⟩
      | true =>
        simp only [if_true, cs_isBornBy, hk, (hC.2.2.2.1 k hk).2.2]
        obtain ⟨r, σ', f1, f2, f3⟩ := zk_find hB hC (zk_rn hM) hk hd7
        rw [hM.2.2.2.2.1] at f3
        rw [f1]
        simp only [gB2_some]
        by_cases hbd : v 5 k ≤ d
        · have hb1 : ¬ nI d < nI (v 5 k) := nI_nlt hbd (by omega)
          obtain ⟨X', y, c1, c2, c3⟩ := zk_leastKey (-1) hB hC hM hk hd7 hbd
          obtain ⟨z1, z2, z3, z4, z5⟩ := zk_same hB hk hd7 (zk_m19 hG) c3 f3 (zk_there hB (show 0 < G by omega) hd7 hbd (nI_m9 (by decide)))
          have n9 : ¬ r = (-9) := by rw [z2]; exact nI_m9 (by omega)
          have hR' := hR.keep c2 f2.MK
          simp only [hb1, if_false, gB1_some, if_true, c1, gB2_some]
          rcases wI_m1 h3 with rfl | rfl | rfl | rfl
          · refine ⟨nI (y / 262144), X', σ', ?_, ?_, hR'⟩
            · rw [if_neg (by decide), zk_pence (by omega)]
              rfl
            · rw [if_pos rfl, z2]
          · refine ⟨nI (y / 4096 % 64), X', σ', ?_, ?_, hR'⟩
            · rw [if_pos (by decide), zk_spot0 (by omega)]
              rfl
            · rw [if_neg (by decide), if_neg n9, if_pos (by decide), z3]
          · refine ⟨nI (y / 64 % 64), X', σ', ?_, ?_, hR'⟩
            · rw [if_pos (by decide), zk_spot1 (by omega)]
              rfl
            · rw [if_neg (by decide), if_neg n9, if_neg (by decide), if_pos (by decide), z4]
          · refine ⟨nI (y % 64), X', σ', ?_, ?_, hR'⟩
            · rw [if_pos (by decide), zk_spot2 (by omega)]
              rfl
            · rw [if_neg (by decide), if_neg n9, if_neg (by decide), if_neg (by decide), z5]
        · have hb1 : nI d < nI (v 5 k) := nI_lt (by omega) (by omega)
          have r9 : r = (-9) := zk_none f3 (fun x hx => by obtain ⟨a, b, _⟩ := hx; omega)
          simp only [hb1, if_true, gB1_some, r9, Bool.false_eq_true, if_false]
          refine ⟨-9, X, σ', rfl, ?_, hR.keep (CK.refl X) f2.MK⟩
          by_cases h1 : y3 = (-1)
          · rw [if_pos h1]
          · rw [if_neg h1]
  · rw [e1, e2]
    exact ⟨-1, X, μ, rfl, rfl, hR⟩
theorem zk_free {G S : Nat} {v : gV0} {hm cnt k : Nat} (hB : RB G S v hm cnt) (hk : k < S) : ∀ (m d n n' : Nat) (X : gC) (K : Nat → Nat) (σ : gS), d + m = 8 → m < n → m < n' → v 5 k ≤ d → RC G S X v hm cnt → RM G S σ v hm cnt → (∀ j, j < 8 → X.1.2 8 j = nI (K j)) → ZKI (zkF v hm k) (zkOp G v k (-1) d) K → ∃ (r : Int32) (X' : gC) (σ' : gS), ct_freeDay_b9 G S n k (nI d) X = some (r, X') ∧ mm_free_b17 n' (nI k) (nI d) σ = some (r, σ') ∧ CK X X' ∧ MK σ σ' := by
  have hG := hB.1
  have hG0 : ¬ G = 0 := fun h => by have := hB.2.2.1.mp h; omega
  intro m
  induction m with
  | zero =>
    intro d n n' X K σ hd hn hn' hb hC hM h8 hI
    obtain ⟨n, rfl⟩ : ∃ q, n = q + 1 := ⟨n - 1, by omega⟩
    obtain ⟨n', rfl⟩ : ∃ q, n' = q + 1 := ⟨n' - 1, by omega⟩
    have : d = 8 := by omega
    subst this
    refine ⟨-9, X, σ, ?_, ?_, CK.refl X, MK.refl σ⟩
    · unfold ct_freeDay_b9
      rw [if_pos (by decide)]
    · unfold mm_free_b17
      rw [if_pos (by decide)]
  | succ m ih =>
    intro d n n' X K σ hd hn hn' hb hC hM h8 hI
    obtain ⟨n, rfl⟩ : ∃ q, n = q + 1 := ⟨n - 1, by omega⟩
    obtain ⟨n', rfl⟩ : ∃ q, n' = q + 1 := ⟨n' - 1, by omega⟩
    have hd7 : d ≤ 7 := by omega
    obtain ⟨X1, K1, a1, a2, a3, a4⟩ := zk_day hB hC hM hk hd7 hb h8 hI
    obtain ⟨r, σ1, f1, f2, f3⟩ := zk_find hB hC (zk_rn hM) hk hd7
    rw [hM.2.2.2.2.1] at f3
    obtain ⟨z1, z2, _⟩ := zk_same hB hk hd7 (zk_m19 hG) (a4.best hG hd7) f3 (zk_there hB (show 0 < G by omega) hd7 hb (nI_m9 (by decide)))
    have e7 : (7 : Int32).toNatClampNeg = 7 := by decide
    have c1 : ¬ (7 : Int32) < nI d := by rw [show (7 : Int32) = nI 7 from rfl]; exact nI_nlt hd7 (by decide)
    have c2 : ¬ (8 : Int32) ≤ nI d := by rw [show (8 : Int32) = nI 8 from rfl]; exact nI_ge (by omega) (by decide)
    unfold ct_freeDay_b9 mm_free_b17
    rw [if_neg c1, if_neg c2, a1, f1]
    simp only [gB2_some, e7, a3 7 (by decide), zk_pence (show K1 7 < 2 ^ 31 by omega), gB1_some, z2]
    by_cases h0 : nI (K1 7 / 262144) = 0
    · rw [if_pos h0, if_pos h0]
      exact ⟨nI d, X1, σ1, rfl, rfl, a2, f2.MK⟩
    · rw [if_neg h0, if_neg h0, nI_1]
      obtain ⟨r', X2, σ2, b1, b2, b3, b4⟩ := ih (d + 1) n n' X1 K1 σ1 (by omega) (by omega) (by omega) (by omega) (a2.RC hC) (f2.MK.RM hM) a3 a4
      exact ⟨r', X2, σ2, b1, b2, a2.trans b3, f2.MK.trans b4⟩
theorem st_free : St_free := by
  intro G S X μ y1 hR
  obtain ⟨v, hm, cnt, hB, hC, hM, hX⟩ := id hR
  have hS := hB.2.1
  unfold cx_free mm_free
  rcases at_story G X hB.2.1 hM.2.1 y1 with ⟨k, hk, rfl, e1, e2⟩ | ⟨e1, e2⟩
  · have hb := hB.2.2.2.2.2.2.1 k hk
    have hg : gin (nI k) 4 = true := gin_of (by omega) (by decide)
    have hcl : (nI k).toNatClampNeg = k := nI_clamp (by omega)
    obtain ⟨X1, a1, a2, a3⟩ := zk_forget G S X
    obtain ⟨r, X', σ', b1, b2, b3, b4⟩ := zk_free hB hk (8 - v 5 k) (v 5 k) 1000 1000 X1 (fun j => if j = 0 then 0 else 536870912) μ (by omega) (by omega) (by omega) (Nat.le_refl _) (a2.RC hC) hM a3 zk_first
    rw [e1, e2]
    unfold ct_freeDay
    rw [a1]
    simp only [gB1_some, gB2_some, gN, if_true, hk, hg, hcl, gLet, (hM.2.2.2.2.2.2.1 k hk).2.2, ((a2.RC hC).2.2.2.1 k hk).2.2]
    refine ⟨r, X', σ', ?_, b2, hR.keep (a2.trans b3) b4⟩
    rw [b1]
    rfl
  · rw [e1, e2]
    exact ⟨-1, X, μ, rfl, rfl, hR⟩
theorem st_worth : St_worth := by
  intro G S X μ y1 y2 y3 hR
  obtain ⟨v, hm, cnt, hB, hC, hM, hX⟩ := id hR
  have hG := hB.1
  have hS := hB.2.1
  unfold cx_worth mm_worth
  simp only [cday_eq, day_eq]
  rcases at_gate S X hB.1 hM.1 y1 with ⟨g, hg, rfl, e1, e2⟩ | ⟨e1, e2⟩ <;> rcases at_story G X hB.2.1 hM.2.1 y2 with ⟨k, hk, rfl, e3, e4⟩ | ⟨e3, e4⟩
  · have hb := hB.2.2.2.2.2.2.1 k hk
    rw [e1, e2, e3, e4]
    simp only [gB1_some, gN, if_true, hk]
    cases hd : wI y3 0 7 with
    | false => exact ⟨-2, X, μ, rfl, rfl, hR⟩
    | true =>
      obtain ⟨d, hd7, rfl⟩ := wI_nat 7 (by decide) hd
      obtain ⟨r, σ1, f1, f2, f3⟩ := zk_find hB hC (zk_rn hM) hk hd7
      have hM1 := f2.MK.RM hM
      obtain ⟨r', σ3, g1, g2, g3⟩ := zk_find (σ := sS σ1 14 (nI g)) hB hC (zk_rn2 (nI g) hM1) hk hd7
      rw [hM.2.2.2.2.1] at f3
      rw [sS_s] at g3
      have hK : MK μ (sS σ3 14 (-9)) := by
        refine ⟨fun b hb => ?_, fun b hb => ?_⟩
        · by_cases e : b = 14
          · rw [e, sS_s, hM.2.2.2.2.1]
          · rw [sS_k e, g2.2 b (by omega) (by omega) (by omega), sS_k e]
            exact f2.2 b (by omega) (by omega) (by omega)
        · show σ3.2 b = μ.2 b
          rw [g2.1]
          show σ1.2 b = μ.2 b
          rw [f2.1]
      simp only [if_true, f1, gB2_some, gLet, g1, mm_worth_b69, cs_isBornBy, hk, (hC.2.2.2.1 k hk).2.2]
      by_cases hbd : v 5 k ≤ d
      · have hb1 : ¬ nI d < nI (v 5 k) := nI_nlt hbd (by omega)
        obtain ⟨X1, y, c1, c2, c3⟩ := zk_leastKey (nI g) hB hC hM hk hd7 hbd
        obtain ⟨X2, y', d1, d2, d3⟩ := zk_leastKey (-1) hB (c2.RC hC) hM hk hd7 hbd
        obtain ⟨z1, z2, _⟩ := zk_same hB hk hd7 (zk_m19 hG) d3 f3 (zk_there hB (show 0 < G by omega) hd7 hbd (nI_m9 (by decide)))
        have n9 : ¬ r = (-9) := by rw [z2]; exact nI_m9 (by omega)
        rw [if_neg n9]
        by_cases h2 : G < 2
        · have r9 : r' = (-9) := zk_none g3 (fun x hx => by
            obtain ⟨a, b, c, e⟩ := hx
            exact e (congrArg nI (by omega)))
          rw [if_pos (show nI G < 2 from nI_lt (b := 2) h2 (by decide)), if_pos r9]
          exact ⟨-9, X, _, rfl, rfl, hR.keep (CK.refl X) hK⟩
        · rw [if_neg (show ¬ nI G < 2 from nI_nlt (b := 2) (by omega) (by omega))]
          obtain ⟨g', hg', hne⟩ : ∃ g', g' < G ∧ ¬ g' = g := by
            by_cases h : g = 0
            · exact ⟨1, by omega, by omega⟩
            · exact ⟨0, by omega, by omega⟩
          obtain ⟨w1, w2, _⟩ := zk_same hB hk hd7 (fun _ _ => Iff.rfl) c3 g3 (zk_there hB hg' hd7 hbd (fun q => hne ((nI_eq (by omega) (by omega)).mp q)))
          have n9' : ¬ r' = (-9) := by rw [w2]; exact nI_m9 (by omega)
          rw [if_neg n9']
          simp only [hb1, if_false, gB1_some, if_true, c1, gB2_some, zk_pence (show y < 2 ^ 31 by omega), d1, zk_pence (show y' < 2 ^ 31 by omega)]
          exact ⟨_, X2, _, rfl, by rw [z2, w2], hR.keep (c2.trans d2) hK⟩
      · have hb1 : nI d < nI (v 5 k) := nI_lt (by omega) (by omega)
        have r9 : r = (-9) := zk_none f3 (fun x hx => by obtain ⟨a, b, _⟩ := hx; omega)
        rw [if_pos r9]
        simp only [hb1, if_true, gB1_some, Bool.false_eq_true, if_false]
        refine ⟨-9, X, _, ?_, rfl, hR.keep (CK.refl X) hK⟩
        by_cases h2 : nI G < 2
        · rw [if_pos h2]
        · rw [if_neg h2]
  · rw [e1, e2, e3, e4]; exact ⟨-1, X, μ, rfl, rfl, hR⟩
  · rw [e1, e2, e3]; exact ⟨-1, X, μ, rfl, rfl, hR⟩
  · rw [e1, e2, e3]; exact ⟨-1, X, μ, rfl, rfl, hR⟩
