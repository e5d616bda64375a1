/-! odds -/
def nF (y : Int32) (v : gV0) (hm k d a b c : Nat) : Nat := if y < nI (nPaid v hm k (10 * a + d) (10 * b + d) (10 * c + d)) then 0 else 1
theorem sumTo_le {F : Nat → Nat} {B : Nat} (h : ∀ x, F x ≤ B) : ∀ m g, sumTo F m g ≤ m * B
  | 0, _ => by unfold sumTo; omega
  | m + 1, g => by
    unfold sumTo
    have h1 := sumTo_le h m (g + 1)
    have h2 := h g
    rw [Nat.succ_mul]
    omega
theorem ways1 {G S : Nat} {X : gC} {v : gV0} {hm k d a b : Nat} {y : Int32} (hG : G ≤ 5) (hd : d ≤ 7) (hP : ∀ g T, g < G → T < 8 → X.1.2 7 (8 * g + T) = nI (nDuty v hm g k d T)) (ha : a < G) (hb : b < G) (lp12 : Int32 → Int32 → Int32 → gC → Option (Int32 × gC)) (lp25 : Int32 → Int32 → Int32 → Int32 → gC → Option (Int32 × gC)) : ∀ m c n w, c + m = G → m < n → ct_waysWithin_b38 G S lp12 lp25 n y (nI w) (nI a) (nI b) (nI c) X = lp25 y (nI (w + sumTo (nF y v hm k d a b) m c)) (nI a) (nI (b + 1)) X := by
  intro m
  induction m with
  | zero =>
    intro c n w hc hn
    obtain ⟨n, rfl⟩ : ∃ q, n = q + 1 := ⟨n - 1, by omega⟩
    have : c = G := by omega
    subst this
    unfold ct_waysWithin_b38
    rw [if_pos (nI_le (by omega) (by omega)), nI_1]
    rfl
  | succ m ih =>
    intro c n w hc hn
    obtain ⟨n, rfl⟩ : ∃ q, n = q + 1 := ⟨n - 1, by omega⟩
    unfold ct_waysWithin_b38
    rw [if_neg (nI_ge (by omega) (by omega)), priced_nat hG hd hP ha hb (by omega)]
    unfold sumTo
    simp only [gB1_some, ct_waysWithin_b65, nI_1]
    by_cases h : y < nI (nPaid v hm k (10 * a + d) (10 * b + d) (10 * c + d))
    · rw [if_pos h, ih (c + 1) n w (by omega) (by omega)]
      have : nF y v hm k d a b c = 0 := if_pos h
      rw [this, Nat.zero_add]
    · rw [if_neg h, ih (c + 1) n (w + 1) (by omega) (by omega)]
      have : nF y v hm k d a b c = 1 := if_neg h
      rw [this, Nat.add_assoc]
theorem ways2 {G S : Nat} {X : gC} {v : gV0} {hm k d a : Nat} {y : Int32} (hG : G ≤ 5) (hd : d ≤ 7) (hP : ∀ g T, g < G → T < 8 → X.1.2 7 (8 * g + T) = nI (nDuty v hm g k d T)) (ha : a < G) (lp12 : Int32 → Int32 → Int32 → gC → Option (Int32 × gC)) : ∀ m b n w, b + m = G → m < n → ct_waysWithin_b25 G S lp12 n y (nI w) (nI a) (nI b) X = lp12 y (nI (w + sumTo (fun b => sumTo (nF y v hm k d a b) G 0) m b)) (nI (a + 1)) X := by
  intro m
  induction m with
  | zero =>
    intro c n w hc hn
    obtain ⟨n, rfl⟩ : ∃ q, n = q + 1 := ⟨n - 1, by omega⟩
    have : c = G := by omega
    subst this
    unfold ct_waysWithin_b25
    rw [if_pos (nI_le (by omega) (by omega)), nI_1]
    rfl
  | succ m ih =>
    intro c n w hc hn
    obtain ⟨n, rfl⟩ : ∃ q, n = q + 1 := ⟨n - 1, by omega⟩
    unfold ct_waysWithin_b25
    rw [if_neg (nI_ge (by omega) (by omega))]
    refine (ways1 hG hd hP ha (show c < G by omega) lp12 (ct_waysWithin_b25 G S lp12 n) G 0 1000 w (by omega) (by omega)).trans ?_
    rw [ih (c + 1) n _ (by omega) (by omega)]
    conv => rhs; unfold sumTo
    rw [Nat.add_assoc]
theorem ways3 {G S : Nat} {X : gC} {v : gV0} {hm k d : Nat} {y : Int32} (hG : G ≤ 5) (hd : d ≤ 7) (hP : ∀ g T, g < G → T < 8 → X.1.2 7 (8 * g + T) = nI (nDuty v hm g k d T)) : ∀ m a n w, a + m = G → m < n → ct_waysWithin_b12 G S n y (nI w) (nI a) X = some (nI (w + sumTo (fun a => sumTo (fun b => sumTo (nF y v hm k d a b) G 0) G 0) m a), X) := by
  intro m
  induction m with
  | zero =>
    intro c n w hc hn
    obtain ⟨n, rfl⟩ : ∃ q, n = q + 1 := ⟨n - 1, by omega⟩
    have : c = G := by omega
    subst this
    unfold ct_waysWithin_b12
    rw [if_pos (nI_le (by omega) (by omega))]
    rfl
  | succ m ih =>
    intro c n w hc hn
    obtain ⟨n, rfl⟩ : ∃ q, n = q + 1 := ⟨n - 1, by omega⟩
    unfold ct_waysWithin_b12
    rw [if_neg (nI_ge (by omega) (by omega))]
    refine (ways2 hG hd hP (show c < G by omega) (ct_waysWithin_b12 G S n) G 0 1000 w (by omega) (by omega)).trans ?_
    rw [ih (c + 1) n _ (by omega) (by omega)]
    conv => rhs; unfold sumTo
    rw [Nat.add_assoc]
theorem ix10 (a d : Nat) : (10 : Int32) * nI a + nI d = nI (10 * a + d) := by
  have : (10 : Int32) = nI 10 := rfl
  rw [this, pk_mul, nI_add]
theorem spOK_of {G : Nat} {v : gV0} {k a d : Nat} (ha : a < G) (hd : d ≤ 7) (hb : v 5 k ≤ d) : spOK G v k (10 * a + d) := ⟨by omega, by omega, by omega⟩
theorem odds1 {G S : Nat} {X : gC} {μ : gS} {v : gV0} {hm cnt k d a b : Nat} {y z : Int32} (hB : RB G S v hm cnt) (hC : RC G S X v hm cnt) (hM : RM G S μ v hm cnt) (hk : k < S) (hd : d ≤ 7) (hbd : v 5 k ≤ d) (ha : a < G) (hb : b < G) (lp56 : Int32 → Int32 → Int32 → Int32 → Int32 → Int32 → Option Int64) (lp68 : Int32 → Int32 → Int32 → Int32 → Int32 → Int32 → Int32 → Option Int64) : ∀ m c n w, c + m = G → m < n → mm_odds_b80 μ lp56 lp68 n (nI k) (nI d) y z (nI w) (nI a) (nI b) (nI c) = lp68 (nI k) (nI d) y z (nI (w + sumTo (nF y v hm k d a b) m c)) (nI a) (nI (b + 1)) := by
  intro m
  have hG := hB.1
  induction m with
  | zero =>
    intro c n w hc hn
    obtain ⟨n, rfl⟩ : ∃ q, n = q + 1 := ⟨n - 1, by omega⟩
    have : c = G := by omega
    subst this
    unfold mm_odds_b80
    rw [hM.1, if_pos (nI_le (by omega) (by omega)), nI_1]
    rfl
  | succ m ih =>
    intro c n w hc hn
    obtain ⟨n, rfl⟩ : ∃ q, n = q + 1 := ⟨n - 1, by omega⟩
    unfold mm_odds_b80
    rw [hM.1, if_neg (nI_ge (by omega) (by omega)), ix10, ix10, ix10, paid_nat hB hC hM hk (spOK_of ha hd hbd) (spOK_of hb hd hbd) (spOK_of (show c < G by omega) hd hbd)]
    unfold sumTo
    simp only [gB1_some, mm_odds_b126, nI_1, Int32.add_zero]
    by_cases h : y < nI (nPaid v hm k (10 * a + d) (10 * b + d) (10 * c + d))
    · rw [if_pos h, ih (c + 1) n w (by omega) (by omega)]
      have : nF y v hm k d a b c = 0 := if_pos h
      rw [this, Nat.zero_add]
    · rw [if_neg h, ih (c + 1) n (w + 1) (by omega) (by omega)]
      have : nF y v hm k d a b c = 1 := if_neg h
      rw [this, Nat.add_assoc]
theorem odds2 {G S : Nat} {X : gC} {μ : gS} {v : gV0} {hm cnt k d a : Nat} {y z : Int32} (hB : RB G S v hm cnt) (hC : RC G S X v hm cnt) (hM : RM G S μ v hm cnt) (hk : k < S) (hd : d ≤ 7) (hbd : v 5 k ≤ d) (ha : a < G) (lp56 : Int32 → Int32 → Int32 → Int32 → Int32 → Int32 → Option Int64) : ∀ m b n w, b + m = G → m < n → mm_odds_b68 μ lp56 n (nI k) (nI d) y z (nI w) (nI a) (nI b) = lp56 (nI k) (nI d) y z (nI (w + sumTo (fun b => sumTo (nF y v hm k d a b) G 0) m b)) (nI (a + 1)) := by
  intro m
  have hG := hB.1
  induction m with
  | zero =>
    intro c n w hc hn
    obtain ⟨n, rfl⟩ : ∃ q, n = q + 1 := ⟨n - 1, by omega⟩
    have : c = G := by omega
    subst this
    unfold mm_odds_b68
    rw [hM.1, if_pos (nI_le (by omega) (by omega)), nI_1]
    rfl
  | succ m ih =>
    intro c n w hc hn
    obtain ⟨n, rfl⟩ : ∃ q, n = q + 1 := ⟨n - 1, by omega⟩
    unfold mm_odds_b68
    rw [hM.1, if_neg (nI_ge (by omega) (by omega))]
    refine (odds1 hB hC hM hk hd hbd ha (show c < G by omega) lp56 (mm_odds_b68 μ lp56 n) G 0 1000 w (by omega) (by omega)).trans ?_
    rw [ih (c + 1) n _ (by omega) (by omega)]
    conv => rhs; unfold sumTo
    rw [Nat.add_assoc]
theorem odds3 {G S : Nat} {X : gC} {μ : gS} {v : gV0} {hm cnt k d : Nat} {y z : Int32} (hB : RB G S v hm cnt) (hC : RC G S X v hm cnt) (hM : RM G S μ v hm cnt) (hk : k < S) (hd : d ≤ 7) (hbd : v 5 k ≤ d) : ∀ m a n w, a + m = G → m < n → mm_odds_b56 μ n (nI k) (nI d) y z (nI w) (nI a) = mm_inLeastTerms (nI (w + sumTo (fun a => sumTo (fun b => sumTo (nF y v hm k d a b) G 0) G 0) m a)).toInt64 (nI (G * G * G)).toInt64 z := by
  intro m
  have hG := hB.1
  induction m with
  | zero =>
    intro c n w hc hn
    obtain ⟨n, rfl⟩ : ∃ q, n = q + 1 := ⟨n - 1, by omega⟩
    have : c = G := by omega
    subst this
    unfold mm_odds_b56
    rw [hM.1, if_pos (nI_le (by omega) (by omega)), pk_mul, pk_mul]
    unfold sumTo
    rw [Nat.add_zero]
    cases mm_inLeastTerms (nI w).toInt64 (nI (c * c * c)).toInt64 z <;> rfl
  | succ m ih =>
    intro c n w hc hn
    obtain ⟨n, rfl⟩ : ∃ q, n = q + 1 := ⟨n - 1, by omega⟩
    unfold mm_odds_b56
    rw [hM.1, if_neg (nI_ge (by omega) (by omega))]
    refine (odds2 hB hC hM hk hd hbd (show c < G by omega) (mm_odds_b56 μ n) G 0 1000 w (by omega) (by omega)).trans ?_
    rw [ih (c + 1) n _ (by omega) (by omega)]
    conv => rhs; unfold sumTo
    rw [Nat.add_assoc]
theorem gcd_step (p q : Nat) : Nat.gcd p q = Nat.gcd q (p % q) := by rw [Nat.gcd_comm p q, Nat.gcd_rec q p, Nat.gcd_comm]
theorem cd_end {p n i : Nat} (hp : 0 < p) (hp2 : p < 2 ^ 31) : cx_commonDivisor_b7 (n + 1) (nI p) (nI 0) (nI i) = some (nI p) := by
  have e : cx_commonDivisor_b34 (nI p) = some (nI p) := by unfold cx_commonDivisor_b34; rw [if_neg (nI_nle hp hp2)]
  unfold cx_commonDivisor_b7
  rw [e]
  by_cases h : 64 ≤ nI i
  · rw [if_pos h]
  · rw [if_neg h, if_pos (show nI 0 = 0 from rfl)]
theorem cd_step {p q n i : Nat} (hq : 0 < q) (hp2 : p < 2 ^ 31) (hq2 : q < 2 ^ 31) (hi : i < 64) : cx_commonDivisor_b7 (n + 1) (nI p) (nI q) (nI i) = cx_commonDivisor_b7 n (nI q) (nI (p % q)) (nI (i + 1)) := by
  conv => lhs; unfold cx_commonDivisor_b7
  have a64 : (64 : Int32) = nI 64 := rfl
  have h0 := nI_ne0 hq hq2
  rw [if_neg (by rw [a64]; exact nI_ge hi (by omega)), if_neg h0, if_pos h0, pk_rem hp2 hq hq2, nI_1]
  rfl
theorem cd_nat : ∀ (e p q n i : Nat), 0 < p → p < 2 ^ 31 → q < 2 ^ e → q < 2 ^ 31 → i + 2 * e + 1 ≤ 64 → 2 * e + 1 < n → cx_commonDivisor_b7 n (nI p) (nI q) (nI i) = some (nI (Nat.gcd p q)) := by
  intro e
  induction e with
  | zero =>
    intro p q n i hp hp2 hq hq2 hi hn
    obtain ⟨n, rfl⟩ : ∃ q, n = q + 1 := ⟨n - 1, by omega⟩
    have : q = 0 := by simp at hq; exact hq
    subst this
    rw [cd_end hp hp2, Nat.gcd_zero_right]
  | succ e ih =>
    intro p q n i hp hp2 hq hq2 hi hn
    obtain ⟨n, rfl⟩ : ∃ q, n = q + 2 := ⟨n - 2, by omega⟩
    by_cases h0 : q = 0
    · subst h0
      rw [cd_end hp hp2, Nat.gcd_zero_right]
    · have hr := Nat.mod_lt p (show q > 0 by omega)
      rw [cd_step (by omega) hp2 hq2 (by omega), gcd_step p q]
      by_cases h1 : p % q = 0
      · rw [h1, cd_end (by omega) hq2, Nat.gcd_zero_right]
      · have hr2 := Nat.mod_lt q (show p % q > 0 by omega)
        have hr3 : q % (p % q) + (p % q) ≤ q := by
          have := Nat.div_add_mod q (p % q)
          have h3 : 1 ≤ q / (p % q) := (Nat.le_div_iff_mul_le (by omega)).mpr (by omega)
          have h4 : (p % q) * 1 ≤ (p % q) * (q / (p % q)) := Nat.mul_le_mul_left _ h3
          omega
        rw [cd_step (by omega) hq2 (by omega) (by omega), gcd_step q (p % q)]
        have h5 : 2 ^ (e + 1) = 2 * 2 ^ e := by rw [Nat.pow_succ]; omega
        exact ih _ _ n _ (by omega) (by omega) (by omega) (by omega) (by omega) (by omega)
theorem lt_nat (z : Int32) (V0 V2 : Int64) : ∀ (n p q : Nat), q < n → 0 < p ∨ 0 < q → p < 2 ^ 31 → q < 2 ^ 31 → mm_inLeastTerms_b6 n V0 V2 z (lN p) (lN q) = if z = 0 then some (V0 / lN (Nat.gcd p q)) else some (V2 / lN (Nat.gcd p q)) := by
  intro n
  induction n with
  | zero => intro p q h; omega
  | succ n ih =>
    intro p q hn hpq hp hq
    unfold mm_inLeastTerms_b6
    by_cases h0 : q = 0
    · subst h0
      have : ¬ lN p = 0 := fun h => by
        have := (lN_eq (b := 0) hp (by omega)).mp h
        omega
      rw [if_pos (show lN 0 = 0 from rfl), if_pos this, if_pos this, Nat.gcd_zero_right]
    · have : ¬ lN q = 0 := fun h => by
        have := (lN_eq (b := 0) hq (by omega)).mp h
        omega
      have hr := Nat.mod_lt p (show q > 0 by omega)
      rw [if_neg this, pk_lRem (by omega) (by omega) (by omega), ih q (p % q) (by omega) (by omega) (by omega) (by omega), ← gcd_step]
theorem st_odds : St_odds := by
  intro G S X μ y1 y2 y3 y4 hR
  obtain ⟨v, hm, cnt, hB, hC, hM, hX⟩ := id hR
  have hG := hB.1
  have hS := hB.2.1
  unfold cx_odds mm_odds
  simp only [cday_eq, day_eq, cwithin_eq, within_eq, gB1_some]
  rcases at_story G X hB.2.1 hM.2.1 y1 with ⟨k, hk, rfl, e1, e2⟩ | ⟨e1, e2⟩
  · have hg : gin (nI k) 4 = true := gin_of (by omega) (by decide)
    have hcl : (nI k).toNatClampNeg = k := nI_clamp (by omega)
    have hG0 : ¬ G = 0 := fun h => by have := hB.2.2.1.mp h; omega
    have hb := hB.2.2.2.2.2.2.1 k hk
    rw [e1, e2]
    simp only [gB1_some, gN, if_true, hk, hg, hcl]
    cases hd : wI y2 0 7 with
    | false => exact ⟨_, X, rfl, rfl, hR⟩
    | true =>
      obtain ⟨d, hd7, rfl⟩ := wI_nat 7 (by decide) hd
      simp only [if_true]
      cases h3 : wI y3 0 9999 with
      | false => exact ⟨_, X, rfl, rfl, hR⟩
      | true =>
        simp only [if_true]
        cases h4 : wI y4 0 1 with
        | false => exact ⟨_, X, rfl, rfl, hR⟩
        | true =>
          simp only [if_true, cs_isBornBy, hk, (hC.2.2.2.1 k hk).2.2, (hM.2.2.2.2.2.2.1 k hk).2.2]
          by_cases hbd : v 5 k ≤ d
          · have hb1 : ¬ nI d < nI (v 5 k) := nI_nlt hbd (by omega)
            have hb2 : nI (v 5 k) ≤ nI d := nI_le hbd (by omega)
            simp only [hb1, hb2, if_true, if_false, gB1_some, gLet, pk_mul]
            obtain ⟨X', p1, p2, p3⟩ := prices_nat hB hC hM hk hd7 hbd
            have w := ways3 (S := S) (X := X') (y := y3) hG hd7 p3 G 0 1000 0 (by omega) (by omega)
            have o := odds3 (y := y3) (z := y4) hB hC hM hk hd7 hbd G 0 1000 0 (by omega) (by omega)
            have hw : sumTo (fun a => sumTo (fun b => sumTo (nF y3 v hm k d a b) G 0) G 0) G 0 ≤ 125 := by
              have b1 : ∀ a b c, nF y3 v hm k d a b c ≤ 1 := fun a b c => by unfold nF; by_cases h : y3 < nI (nPaid v hm k (10 * a + d) (10 * b + d) (10 * c + d)) <;> simp [h]
              have b2 : ∀ a b, sumTo (nF y3 v hm k d a b) G 0 ≤ 5 := fun a b => by have := sumTo_le (b1 a b) G 0; omega
              have b3 : ∀ a, sumTo (fun b => sumTo (nF y3 v hm k d a b) G 0) G 0 ≤ 25 := fun a => by have := sumTo_le (b2 a) G 0; omega
              have := sumTo_le b3 G 0
              omega
            rw [Nat.zero_add] at w o
            generalize sumTo (fun a => sumTo (fun b => sumTo (nF y3 v hm k d a b) G 0) G 0) G 0 = W at w o hw
            have hGG : G * G * G ≤ 125 := by
              have h1 : G * G ≤ 5 * 5 := Nat.mul_le_mul hG hG
              exact Nat.mul_le_mul h1 hG
            have hG1 : 0 < G * G * G := Nat.mul_pos (Nat.mul_pos (by omega) (by omega)) (by omega)
            have hg0 : 0 < Nat.gcd (G * G * G) W := Nat.gcd_pos_of_pos_left _ hG1
            have hg1 : Nat.gcd (G * G * G) W ≤ G * G * G := Nat.gcd_le_left _ hG1
            have wd : ct_waysWithin G S X k (nI d) y3 = some (nI W, X') := by
              unfold ct_waysWithin
              rw [p1]
              exact w
            have cd : cx_commonDivisor (nI (G * G * G)) (nI W) = some (nI (Nat.gcd (G * G * G) W)) := cd_nat 7 _ _ 1000 0 hG1 (by omega) (by omega) (by omega) (by omega) (by omega)
            have lt : mm_inLeastTerms (nI W).toInt64 (nI (G * G * G)).toInt64 y4 = if y4 = 0 then some (lN (W / Nat.gcd (G * G * G) W)) else some (lN (G * G * G / Nat.gcd (G * G * G) W)) := by
              unfold mm_inLeastTerms
              rw [nI_l (by omega), nI_l (by omega), lt_nat y4 _ _ 1000 _ _ (by omega) (Or.inr hG1) (by omega) (by omega), Nat.gcd_comm W, pk_lDiv (by omega) hg0 (by omega), pk_lDiv (by omega) hg0 (by omega)]
            have q1 : W / Nat.gcd (G * G * G) W ≤ W := Nat.div_le_self _ _
            have q2 : G * G * G / Nat.gcd (G * G * G) W ≤ G * G * G := Nat.div_le_self _ _
            rw [wd]
            refine ⟨if y4 = 0 then lN (W / Nat.gcd (G * G * G) W) else lN (G * G * G / Nat.gcd (G * G * G) W), X', ?_, ?_, hR.keep p2.CK (MK.refl μ)⟩
            · simp only [gB2_some, cd, gB1_some, nI_ne0 hg0 (by omega), not_false_eq_true, if_true]
              rw [pk_div (by omega) hg0 (by omega), pk_div (by omega) hg0 (by omega), nI_l (by omega), nI_l (by omega)]
              by_cases hz : y4 = 0
              · simp only [hz, if_true]
              · simp only [hz, if_false]
            · refine o.trans (lt.trans ?_)
              by_cases hz : y4 = 0
              · simp only [hz, if_true]
              · simp only [hz, if_false]
          · have hb1 : nI d < nI (v 5 k) := nI_lt (by omega) (by omega)
            have hb2 : ¬ nI (v 5 k) ≤ nI d := nI_ge (by omega) (by omega)
            simp only [hb1, hb2, if_true, if_false, gB1_some]
            exact ⟨_, X, rfl, rfl, hR⟩
  · rw [e1, e2]
    exact ⟨_, X, rfl, rfl, hR⟩
