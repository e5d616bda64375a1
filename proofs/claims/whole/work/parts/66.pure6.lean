/-! what a call that only changes its working rows keeps; prices; odds -/
def CK (X X' : gC) : Prop := (∀ b, b < 3 ∨ b = 5 → X'.1.1 b = X.1.1 b) ∧ X'.2 = X.2 ∧ ∀ b, b < 6 ∨ b = 15 ∨ b = 16 → X'.1.2 b = X.1.2 b
def MK (μ μ' : gS) : Prop := (∀ b, b < 2 ∨ (5 ≤ b ∧ b < 8) ∨ b = 14 ∨ b = 31 → μ'.1 b = μ.1 b) ∧ ∀ b, (2 ≤ b ∧ b < 5) ∨ (8 ≤ b ∧ b < 14) ∨ b = 32 ∨ b = 33 → μ'.2 b = μ.2 b
theorem CK.refl (X : gC) : CK X X := ⟨fun _ _ => rfl, rfl, fun _ _ => rfl⟩
theorem MK.refl (μ : gS) : MK μ μ := ⟨fun _ _ => rfl, fun _ _ => rfl⟩
theorem CK.trans {X Y Z : gC} (h : CK X Y) (k : CK Y Z) : CK X Z := ⟨fun b hb => (k.1 b hb).trans (h.1 b hb), k.2.1.trans h.2.1, fun b hb => (k.2.2 b hb).trans (h.2.2 b hb)⟩
theorem MK.trans {X Y Z : gS} (h : MK X Y) (k : MK Y Z) : MK X Z := ⟨fun b hb => (k.1 b hb).trans (h.1 b hb), fun b hb => (k.2 b hb).trans (h.2 b hb)⟩
theorem CK.arr (X : gC) (k i : Nat) (x : Int32) (hk : ¬ (k < 6 ∨ k = 15 ∨ k = 16)) : CK X (sA X.1 k i x, X.2) := ⟨fun _ _ => rfl, rfl, fun b hb => sA_k (fun e => hk (e ▸ hb))⟩
theorem CK.num (X : gC) (k : Nat) (x : Int32) (hk : ¬ (k < 3 ∨ k = 5)) : CK X (sS X.1 k x, X.2) := ⟨fun b hb => sS_k (fun e => hk (e ▸ hb)), rfl, fun _ _ => rfl⟩
theorem CK.row (X : gC) (k : Nat) (f : Nat → Int32) (hk : ¬ (k < 6 ∨ k = 15 ∨ k = 16)) : CK X (sR X.1 k f, X.2) := ⟨fun _ _ => rfl, rfl, fun b hb => sR_k (fun e => hk (e ▸ hb))⟩
theorem MK.arr (μ : gS) (k i : Nat) (x : Int32) (hk : ¬ ((2 ≤ k ∧ k < 5) ∨ (8 ≤ k ∧ k < 14) ∨ k = 32 ∨ k = 33)) : MK μ (sA μ k i x) := ⟨fun _ _ => rfl, fun b hb => sA_k (fun e => hk (e ▸ hb))⟩
theorem MK.num (μ : gS) (k : Nat) (x : Int32) (hk : ¬ (k < 2 ∨ (5 ≤ k ∧ k < 8) ∨ k = 14 ∨ k = 31)) : MK μ (sS μ k x) := ⟨fun b hb => sS_k (fun e => hk (e ▸ hb)), fun _ _ => rfl⟩
theorem CK.RC {G S : Nat} {X X' : gC} {v : gV0} {hm cnt : Nat} (h : CK X X') (hC : RC G S X v hm cnt) : RC G S X' v hm cnt := by
  refine ⟨?_, ?_, ?_, ?_, ?_, ?_⟩
  · rw [h.1 2 (by decide)]; exact hC.1
  · rw [h.1 5 (by decide)]; exact hC.2.1
  · rw [h.2.1]; exact hC.2.2.1
  · rw [h.2.1]; exact hC.2.2.2.1
  · rw [h.2.2 15 (by decide)]; exact hC.2.2.2.2.1
  · rw [h.2.2 0 (by decide), h.2.2 1 (by decide)]; exact hC.2.2.2.2.2
theorem MK.RM {G S : Nat} {μ μ' : gS} {v : gV0} {hm cnt : Nat} (h : MK μ μ') (hM : RM G S μ v hm cnt) : RM G S μ' v hm cnt := by
  refine ⟨?_, ?_, ?_, ?_, ?_, ?_, ?_, ?_, ?_⟩
  · rw [h.1 5 (by decide)]; exact hM.1
  · rw [h.1 6 (by decide)]; exact hM.2.1
  · rw [h.1 7 (by decide)]; exact hM.2.2.1
  · rw [h.1 31 (by decide)]; exact hM.2.2.2.1
  · rw [h.1 14 (by decide)]; exact hM.2.2.2.2.1
  · rw [h.2 8 (by decide), h.2 9 (by decide), h.2 10 (by decide)]; exact hM.2.2.2.2.2.1
  · rw [h.2 11 (by decide), h.2 12 (by decide), h.2 13 (by decide)]; exact hM.2.2.2.2.2.2.1
  · rw [h.2 32 (by decide)]; exact hM.2.2.2.2.2.2.2.1
  · rw [h.2 2 (by decide), h.2 3 (by decide)]; exact hM.2.2.2.2.2.2.2.2
theorem RX.keep {X X' : gC} {μ μ' : gS} {v : gV0} {cnt : Nat} (hX : RX X μ v cnt) (h : CK X X') (k : MK μ μ') : RX X' μ' v cnt := by
  refine ⟨?_, ?_, ?_, ?_⟩
  · rw [h.1 0 (by decide), k.1 0 (by decide)]; exact hX.1
  · rw [h.1 1 (by decide), k.1 1 (by decide)]; exact hX.2.1
  · rw [h.2.2 16 (by decide), k.2 33 (by decide)]; exact hX.2.2.1
  · intro i hi
    rw [h.2.2 (2 + i) (by omega), k.2 4 (by decide)]
    exact hX.2.2.2 i hi
theorem RR.keep {G S : Nat} {X X' : gC} {μ μ' : gS} (h : RR G S X μ) (c : CK X X') (k : MK μ μ') : RR G S X' μ' := by
  obtain ⟨v, hm, cnt, hB, hC, hM, hX⟩ := h
  exact ⟨v, hm, cnt, hB, c.RC hC, k.RM hM, hX.keep c k⟩
/-- only row 7 changes -/
def PK (X X' : gC) : Prop := X'.1.1 = X.1.1 ∧ X'.2 = X.2 ∧ ∀ b, b ≠ 7 → X'.1.2 b = X.1.2 b
theorem PK.CK {X X' : gC} (h : PK X X') : CK X X' := ⟨fun _ _ => by rw [h.1], h.2.1, fun b hb => h.2.2 b (by omega)⟩
theorem prices_in {G S : Nat} {μ : gS} {v : gV0} {hm cnt k d g : Nat} (hB : RB G S v hm cnt) (hM : RM G S μ v hm cnt) (hk : k < S) (hd : d ≤ 7) (hbd : v 5 k ≤ d) (hg : g < G) (lp : Nat → Int32 → Int32 → Int32 → gC → Option (Unit × gC)) : ∀ (m T n : Nat) (X : gC), T + m = 8 → m < n → RC G S X v hm cnt → ∃ X', ct_setPrices_b28 G S lp n k (nI d) (nI G) (nI g) g (nI T) X = lp k (nI d) (nI G) (nI (g + 1)) X' ∧ PK X X' ∧ ∀ i, X'.1.2 7 i = if 8 * g + T ≤ i ∧ i < 8 * g + 8 then nI (nDuty v hm (i / 8) k d (i % 8)) else X.1.2 7 i := by
  intro m
  induction m with
  | zero =>
    intro T n X hT hn hC
    obtain ⟨n, rfl⟩ : ∃ q, n = q + 1 := ⟨n - 1, by omega⟩
    have : T = 8 := by omega
    subst this
    refine ⟨X, ?_, ⟨rfl, rfl, fun _ _ => rfl⟩, fun i => ?_⟩
    · unfold ct_setPrices_b28
      rw [if_pos (by decide), nI_1]
    · rw [if_neg (by omega)]
  | succ m ih =>
    intro T n X hT hn hC
    have hG := hB.1
    obtain ⟨n, rfl⟩ : ∃ q, n = q + 1 := ⟨n - 1, by omega⟩
    have hc1 : CK X (sA X.1 7 (8 * g + T) (nI (nDuty v hm g k d T)), X.2) := CK.arr X 7 _ _ (by decide)
    obtain ⟨X', h1, h2, h3⟩ := ih (T + 1) n (sA X.1 7 (8 * g + T) (nI (nDuty v hm g k d T)), X.2) (by omega) (by omega) (hc1.RC hC)
    refine ⟨X', ?_, ?_, ?_⟩
    · unfold ct_setPrices_b28
      have a8 : (8 : Int32) = nI 8 := rfl
      have e : nI g * 8 + nI T = nI (8 * g + T) := by rw [a8, pk_mul, nI_add, Nat.mul_comm]
      rw [if_neg (by rw [a8]; exact nI_ge (by omega) (by omega)), if_pos hg, (duty_nat hB hC hM hg hk (by omega) hd hbd).1]
      simp only [gB1_some, e, gin_of (show 8 * g + T < 40 by omega) (by decide), if_true, nI_clamp (show 8 * g + T < 2 ^ 31 by omega), gLet, nI_1]
      exact h1
    · refine ⟨h2.1, h2.2.1, fun b hb => ?_⟩
      rw [h2.2.2 b hb]
      exact sA_k hb
    · intro i
      rw [h3 i]
      by_cases hi : i = 8 * g + T
      · rw [if_neg (by omega), if_pos (by omega), hi]
        refine sA_s.trans ?_
        have e1 : (8 * g + T) / 8 = g := by omega
        have e2 : (8 * g + T) % 8 = T := by omega
        rw [e1, e2]
      · by_cases hcc : 8 * g + (T + 1) ≤ i ∧ i < 8 * g + 8
        · rw [if_pos hcc, if_pos (by omega)]
        · rw [if_neg hcc, if_neg (by omega)]
          exact sA_i hi
theorem prices_out {G S : Nat} {μ : gS} {v : gV0} {hm cnt k d : Nat} (hB : RB G S v hm cnt) (hM : RM G S μ v hm cnt) (hk : k < S) (hd : d ≤ 7) (hbd : v 5 k ≤ d) : ∀ (m g n : Nat) (X : gC), g + m = G → m < n → RC G S X v hm cnt → ∃ X', ct_setPrices_b12 G S n k (nI d) (nI G) (nI g) X = some ((), X') ∧ PK X X' ∧ ∀ i, X'.1.2 7 i = if 8 * g ≤ i ∧ i < 8 * G then nI (nDuty v hm (i / 8) k d (i % 8)) else X.1.2 7 i := by
  intro m
  have hG := hB.1
  induction m with
  | zero =>
    intro g n X hT hn hC
    obtain ⟨n, rfl⟩ : ∃ q, n = q + 1 := ⟨n - 1, by omega⟩
    have : g = G := by omega
    subst this
    refine ⟨X, ?_, ⟨rfl, rfl, fun _ _ => rfl⟩, fun i => ?_⟩
    · unfold ct_setPrices_b12
      rw [if_pos (nI_le (by omega) (by omega))]
    · rw [if_neg (by omega)]
  | succ m ih =>
    intro g n X hT hn hC
    obtain ⟨n, rfl⟩ : ∃ q, n = q + 1 := ⟨n - 1, by omega⟩
    obtain ⟨X1, h1, h2, h3⟩ := prices_in hB hM hk hd hbd (show g < G by omega) (ct_setPrices_b12 G S n) 8 0 1000 X (by omega) (by omega) hC
    obtain ⟨X2, g1, g2, g3⟩ := ih (g + 1) n X1 (by omega) (by omega) (h2.CK.RC hC)
    refine ⟨X2, ?_, ⟨g2.1.trans h2.1, g2.2.1.trans h2.2.1, fun b hb => (g2.2.2 b hb).trans (h2.2.2 b hb)⟩, ?_⟩
    · unfold ct_setPrices_b12
      rw [if_neg (nI_ge (by omega) (by omega)), if_pos (gin_of (by omega) (by omega)), nI_clamp (by omega)]
      exact h1.trans g1
    · intro i
      rw [g3 i]
      by_cases hc1 : 8 * (g + 1) ≤ i ∧ i < 8 * G
      · rw [if_pos hc1, if_pos (by omega)]
      · rw [if_neg hc1, h3 i]
        by_cases hc2 : 8 * g + 0 ≤ i ∧ i < 8 * g + 8
        · rw [if_pos hc2, if_pos (by omega)]
        · rw [if_neg hc2, if_neg (by omega)]
theorem prices_nat {G S : Nat} {X : gC} {μ : gS} {v : gV0} {hm cnt k d : Nat} (hB : RB G S v hm cnt) (hC : RC G S X v hm cnt) (hM : RM G S μ v hm cnt) (hk : k < S) (hd : d ≤ 7) (hbd : v 5 k ≤ d) : ∃ X', ct_setPrices G S X k (nI d) = some ((), X') ∧ PK X X' ∧ ∀ g T, g < G → T < 8 → X'.1.2 7 (8 * g + T) = nI (nDuty v hm g k d T) := by
  obtain ⟨X', h1, h2, h3⟩ := prices_out hB hM hk hd hbd G 0 1000 X (by omega) (by have := hB.1; omega) hC
  refine ⟨X', h1, h2, fun g T hg hT => ?_⟩
  rw [h3, if_pos (by omega)]
  have e1 : (8 * g + T) / 8 = g := by omega
  have e2 : (8 * g + T) % 8 = T := by omega
  rw [e1, e2]
