/-! what three spots pay; odds -/
def nPaid (v : gV0) (hm k P Q R : Nat) : Nat := nDuty v hm (P / 10) k (P % 10) (1 + (if Q = P then 2 else 0) + (if R = P then 4 else 0)) + (if Q = P then 0 else nDuty v hm (Q / 10) k (Q % 10) (if R = Q then 6 else 2)) + (if R = P then 0 else if R = Q then 0 else nDuty v hm (R / 10) k (R % 10) 4)
def spOK (G : Nat) (v : gV0) (k P : Nat) : Prop := P / 10 < G ∧ P % 10 ≤ 7 ∧ v 5 k ≤ P % 10
theorem paid_duty {G S : Nat} {X : gC} {μ : gS} {v : gV0} {hm cnt k P T : Nat} (hB : RB G S v hm cnt) (hC : RC G S X v hm cnt) (hM : RM G S μ v hm cnt) (hk : k < S) (hP : spOK G v k P) (hT : T < 8) : mm_dutyOf μ (nI P / 10) (nI k) (nI P - nI P / 10 * 10) (nI T) = some (nI (nDuty v hm (P / 10) k (P % 10) T)) := by
  have hG := hB.1
  have h1 := hP.1
  have a10 : (10 : Int32) = nI 10 := rfl
  rw [a10, pk_rem (by omega) (by decide) (by decide), pk_div (by omega) (by decide) (by decide)]
  exact (duty_nat hB hC hM hP.1 hk hT hP.2.1 hP.2.2).2
theorem paid_nat {G S : Nat} {X : gC} {μ : gS} {v : gV0} {hm cnt k P Q R : Nat} (hB : RB G S v hm cnt) (hC : RC G S X v hm cnt) (hM : RM G S μ v hm cnt) (hk : k < S) (hP : spOK G v k P) (hQ : spOK G v k Q) (hR : spOK G v k R) : mm_paid μ (nI k) (nI P) (nI Q) (nI R) = some (nI (nPaid v hm k P Q R)) := by
  have hG := hB.1
  have h1 := hP.1
  have h2 := hQ.1
  have h3 := hR.1
  have eQP : (nI Q = nI P) ↔ Q = P := nI_eq (by omega) (by omega)
  have eRP : (nI R = nI P) ↔ R = P := nI_eq (by omega) (by omega)
  have eRQ : (nI R = nI Q) ↔ R = Q := nI_eq (by omega) (by omega)
  have dP := fun T (h : T < 8) => paid_duty (T := T) hB hC hM hk hP h
  have dQ := fun T (h : T < 8) => paid_duty (T := T) hB hC hM hk hQ h
  have dR := fun T (h : T < 8) => paid_duty (T := T) hB hC hM hk hR h
  have o1 : ((1 : Int32) ||| 2 ||| 4) = nI 7 := by decide
  have o2 : ((1 : Int32) ||| 2 ||| 0) = nI 3 := by decide
  have o3 : ((1 : Int32) ||| 0 ||| 4) = nI 5 := by decide
  have o4 : ((1 : Int32) ||| 0 ||| 0) = nI 1 := by decide
  have a4 : (4 : Int32) = nI 4 := rfl
  have a6 : (6 : Int32) = nI 6 := rfl
  have a2 : (2 : Int32) = nI 2 := rfl
  unfold mm_paid nPaid
  simp only [mm_paid_b11, mm_paid_b23, mm_paid_b72, mm_paid_b78, mm_paid_b90, eQP, eRP, eRQ]
  by_cases c1 : Q = P
  · subst c1
    by_cases c2 : R = Q
    · subst c2
      simp only [if_true, o1, dP 7 (by decide), gB1_some, Nat.add_zero]
    · simp only [c2, if_true, if_false, o2, dP 3 (by decide), gB1_some, Nat.add_zero]
      rw [a4, dR 4 (by decide)]
      simp only [gB1_some, nI_add]
  · by_cases c2 : R = P
    · subst c2
      have c3 : ¬ R = Q := fun h => c1 h.symm
      simp only [c1, c3, if_true, if_false, o3, dP 5 (by decide), gB1_some, Nat.add_zero]
      rw [a2, dQ 2 (by decide)]
      simp only [gB1_some, nI_add]
    · by_cases c3 : R = Q
      · subst c3
        simp only [c1, if_true, if_false, o4, dP 1 (by decide), gB1_some, Nat.add_zero]
        rw [a6, dQ 6 (by decide)]
        simp only [gB1_some, nI_add]
      · simp only [c1, c2, c3, if_true, if_false, o4, dP 1 (by decide), gB1_some, Nat.add_zero]
        rw [a2, dQ 2 (by decide), a4]
        simp only [gB1_some, nI_add, dR 4 (by decide)]
def nT (a b c g : Nat) : Nat := (if a = g then 1 else 0) + (if b = g then 2 else 0) + (if c = g then 4 else 0)
def sumTo (F : Nat → Nat) : Nat → Nat → Nat
  | 0, _ => 0
  | m + 1, g => F g + sumTo F m (g + 1)
theorem sumTo_add (F H : Nat → Nat) : ∀ m g, sumTo (fun x => F x + H x) m g = sumTo F m g + sumTo H m g
  | 0, _ => rfl
  | m + 1, g => by unfold sumTo; rw [sumTo_add F H m (g + 1)]; omega
theorem sumTo_congr {F H : Nat → Nat} (h : ∀ x, F x = H x) : ∀ m g, sumTo F m g = sumTo H m g
  | 0, _ => rfl
  | m + 1, g => by unfold sumTo; rw [sumTo_congr h m (g + 1), h]
theorem sumTo_one (a y : Nat) : ∀ m g, sumTo (fun x => if x = a then y else 0) m g = if g ≤ a ∧ a < g + m then y else 0
  | 0, g => by unfold sumTo; rw [if_neg (by omega)]
  | m + 1, g => by
    unfold sumTo
    rw [sumTo_one a y m (g + 1)]
    by_cases h : g = a
    · subst h
      rw [if_pos rfl, if_neg (by omega), if_pos (by omega)]; rfl
    · rw [if_neg h]
      by_cases h2 : g + 1 ≤ a ∧ a < g + 1 + m
      · rw [if_pos h2, if_pos (by omega)]; omega
      · rw [if_neg h2, if_neg (by omega)]
theorem sum_three (f : Nat → Nat → Nat) (h0 : ∀ g, f g 0 = 0) {a b c G : Nat} (ha : a < G) (hb : b < G) (hc : c < G) : sumTo (fun g => f g (nT a b c g)) G 0 = f a (1 + (if b = a then 2 else 0) + (if c = a then 4 else 0)) + (if b = a then 0 else f b (if c = b then 6 else 2)) + (if c = a then 0 else if c = b then 0 else f c 4) := by
  have e : ∀ g, f g (nT a b c g) = (fun g => (fun g => (if g = a then f a (1 + (if b = a then 2 else 0) + (if c = a then 4 else 0)) else 0)) g + (fun g => (if g = b then (if b = a then 0 else f b (if c = b then 6 else 2)) else 0)) g) g + (fun g => (if g = c then (if c = a then 0 else if c = b then 0 else f c 4) else 0)) g := by
    intro g
    unfold nT
    by_cases q1 : a = g
    · subst q1
      by_cases q2 : b = a
      · subst q2
        by_cases q3 : c = b
        · subst q3; simp
        · have q3' : ¬ b = c := fun h => q3 h.symm
          simp [q3, q3']
      · have q2' : ¬ a = b := fun h => q2 h.symm
        by_cases q3 : c = a
        · subst q3; simp [q2, q2']
        · have q3' : ¬ a = c := fun h => q3 h.symm
          simp [q2, q2', q3, q3']
    · have q1' : ¬ g = a := fun h => q1 h.symm
      by_cases q2 : b = g
      · subst q2
        by_cases q3 : c = b
        · subst q3; simp [q1, q1']
        · have q3' : ¬ b = c := fun h => q3 h.symm
          simp [q1, q1', q3, q3']
      · have q2' : ¬ g = b := fun h => q2 h.symm
        by_cases q3 : c = g
        · subst q3; simp [q1, q1', q2, q2']
        · have q3' : ¬ g = c := fun h => q3 h.symm
          simp [q1, q1', q2, q2', q3, q3', h0]
  rw [sumTo_congr e, sumTo_add, sumTo_add, sumTo_one, sumTo_one, sumTo_one, if_pos (show 0 ≤ a ∧ a < 0 + G by omega), if_pos (show 0 ≤ b ∧ b < 0 + G by omega), if_pos (show 0 ≤ c ∧ c < 0 + G by omega)]
theorem nSize_0 (L : Nat) : nSize L 0 = 0 := by
  have h : ∀ t, nPart L 0 t = 0 := fun t => by unfold nPart nBit; simp
  unfold nSize
  rw [h, h, h]
theorem nDuty_0 (v : gV0) (hm g k d : Nat) : nDuty v hm g k d 0 = 0 := by
  unfold nDuty
  rw [nSize_0, if_pos (Nat.zero_le _)]
theorem priced_step {G S : Nat} {X : gC} {v : gV0} {hm k d a b c g n : Nat} (w : Nat) (hG : G ≤ 5) (hP : ∀ g T, g < G → T < 8 → X.1.2 7 (8 * g + T) = nI (nDuty v hm g k d T)) (ha : a < G) (hb : b < G) (hc : c < G) (hg : g < G) : ct_pricedBy_b6 G S X (n + 1) (nI a) (nI b) (nI c) (nI w) (nI g) = ct_pricedBy_b6 G S X n (nI a) (nI b) (nI c) (nI (w + nDuty v hm g k d (nT a b c g))) (nI (g + 1)) := by
  have e1 : (nI a = nI g) ↔ a = g := nI_eq (by omega) (by omega)
  have e2 : (nI b = nI g) ↔ b = g := nI_eq (by omega) (by omega)
  have e3 : (nI c = nI g) ↔ c = g := nI_eq (by omega) (by omega)
  have fin : ∀ T, T < 8 → ∀ s0 s1 : Int32, (s0 ||| s1) = nI T → ct_pricedBy_b50 G S X (ct_pricedBy_b6 G S X n) (nI a) (nI b) (nI c) (nI w) (nI g) s0 s1 = ct_pricedBy_b6 G S X n (nI a) (nI b) (nI c) (nI (w + nDuty v hm g k d T)) (nI (g + 1)) := by
    intro T hT s0 s1 hs
    unfold ct_pricedBy_b50
    have a8 : (8 : Int32) = nI 8 := rfl
    have e : nI g * 8 + nI T = nI (8 * g + T) := by rw [a8, pk_mul, nI_add, Nat.mul_comm]
    rw [hs, e, if_pos (gin_of (by omega) (by decide)), nI_clamp (by omega), hP g T hg hT, nI_add]
    simp only [gLet, nI_1]
  unfold nT
  conv => lhs; unfold ct_pricedBy_b6
  rw [if_neg (nI_ge hg (by omega))]
  simp only [ct_pricedBy_b27, ct_pricedBy_b38, e1, e2, e3]
  by_cases q1 : a = g <;> by_cases q2 : b = g <;> by_cases q3 : c = g
  · simp only [if_pos q1, if_pos q2, if_pos q3]
    refine fin 7 (by decide) _ _ ?_
    decide
  · simp only [if_pos q1, if_pos q2, if_neg q3]
    refine fin 3 (by decide) _ _ ?_
    decide
  · simp only [if_pos q1, if_neg q2, if_pos q3]
    refine fin 5 (by decide) _ _ ?_
    decide
  · simp only [if_pos q1, if_neg q2, if_neg q3]
    refine fin 1 (by decide) _ _ ?_
    decide
  · simp only [if_neg q1, if_pos q2, if_pos q3]
    refine fin 6 (by decide) _ _ ?_
    decide
  · simp only [if_neg q1, if_pos q2, if_neg q3]
    refine fin 2 (by decide) _ _ ?_
    decide
  · simp only [if_neg q1, if_neg q2, if_pos q3]
    refine fin 4 (by decide) _ _ ?_
    decide
  · simp only [if_neg q1, if_neg q2, if_neg q3]
    refine fin 0 (by decide) _ _ ?_
    decide
theorem priced_loop {G S : Nat} {X : gC} {v : gV0} {hm k d a b c : Nat} (hG : G ≤ 5) (hP : ∀ g T, g < G → T < 8 → X.1.2 7 (8 * g + T) = nI (nDuty v hm g k d T)) (ha : a < G) (hb : b < G) (hc : c < G) : ∀ m g n w, g + m = G → m < n → ct_pricedBy_b6 G S X n (nI a) (nI b) (nI c) (nI w) (nI g) = some (nI (w + sumTo (fun g => nDuty v hm g k d (nT a b c g)) m g)) := by
  intro m
  induction m with
  | zero =>
    intro g n w hg hn
    obtain ⟨n, rfl⟩ : ∃ q, n = q + 1 := ⟨n - 1, by omega⟩
    have : g = G := by omega
    subst this
    unfold ct_pricedBy_b6
    rw [if_pos (nI_le (by omega) (by omega))]
    rfl
  | succ m ih =>
    intro g n w hg hn
    obtain ⟨n, rfl⟩ : ∃ q, n = q + 1 := ⟨n - 1, by omega⟩
    rw [priced_step w hG hP ha hb hc (by omega), ih (g + 1) n _ (by omega) (by omega)]
    conv => rhs; unfold sumTo
    rw [Nat.add_assoc]
theorem priced_nat {G S : Nat} {X : gC} {v : gV0} {hm k d a b c : Nat} (hG : G ≤ 5) (hd : d ≤ 7) (hP : ∀ g T, g < G → T < 8 → X.1.2 7 (8 * g + T) = nI (nDuty v hm g k d T)) (ha : a < G) (hb : b < G) (hc : c < G) : ct_pricedBy G S X (nI a) (nI b) (nI c) = some (nI (nPaid v hm k (10 * a + d) (10 * b + d) (10 * c + d))) := by
  refine (priced_loop hG hP ha hb hc G 0 1000 0 (by omega) (by omega)).trans ?_
  rw [sum_three (fun g T => nDuty v hm g k d T) (fun g => nDuty_0 v hm g k d) ha hb hc, Nat.zero_add]
  unfold nPaid
  have d1 : ∀ x, (10 * x + d) / 10 = x := fun x => by omega
  have d2 : ∀ x, (10 * x + d) % 10 = d := fun x => by omega
  have d3 : ∀ x y, (10 * x + d = 10 * y + d) = (x = y) := fun x y => propext ⟨fun h => by omega, fun h => by rw [h]⟩
  simp only [d1, d2, d3]
