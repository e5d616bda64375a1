/-! LEAST: what the reference finds -/
def ZMQ (σ σ' : gS) : Prop := σ'.2 = σ.2 ∧ ∀ b, b ≠ 28 → b ≠ 29 → b ≠ 30 → σ'.1 b = σ.1 b
theorem ZMQ.refl (σ : gS) : ZMQ σ σ := ⟨rfl, fun _ _ _ _ => rfl⟩
theorem ZMQ.trans {a b c : gS} (h : ZMQ a b) (k : ZMQ b c) : ZMQ a c := ⟨k.1.trans h.1, fun x h1 h2 h3 => (k.2 x h1 h2 h3).trans (h.2 x h1 h2 h3)⟩
theorem ZMQ.MK {σ σ' : gS} (h : ZMQ σ σ') : MK σ σ' := ⟨fun b hb => h.2 b (by omega) (by omega) (by omega), fun b _ => by rw [h.1]⟩
theorem ZMQ.set (σ : gS) (a b c : Int32) : ZMQ σ (sS (sS (sS σ 28 a) 29 b) 30 c) := ⟨rfl, fun x h1 h2 h3 => by rw [sS_k h3, sS_k h2, sS_k h1]⟩
theorem ZMQ.RN {G S : Nat} {σ σ' : gS} {v : gV0} {hm cnt : Nat} (h : ZMQ σ σ') (hM : RM G S (sS σ 14 (-9)) v hm cnt) : RM G S (sS σ' 14 (-9)) v hm cnt := by
  refine MK.RM (μ := sS σ 14 (-9)) ⟨fun b hb => ?_, fun b _ => ?_⟩ hM
  · by_cases e : b = 14
    · rw [e, sS_s, sS_s]
    · rw [sS_k e, sS_k e]
      exact h.2 b (by omega) (by omega) (by omega)
  · show σ'.2 b = σ.2 b
    rw [h.1]
theorem zk_size14 (σ : gS) (x : Int32) : ∀ (n : Nat) (a b c d : Int32), mm_sizeOf_b5 (sS σ 14 x) n a b c d = mm_sizeOf_b5 σ n a b c d := by
  intro n
  induction n with
  | zero => intro a b c d; rfl
  | succ n ih =>
    intro a b c d
    have e3 : ∀ p q, mm_third (sS σ 14 x) p q = mm_third σ p q := fun _ _ => rfl
    unfold mm_sizeOf_b5
    simp only [e3, mm_sizeOf_b33, ih]
theorem zk_duty14 (σ : gS) (x a b c d : Int32) : mm_dutyOf (sS σ 14 x) a b c d = mm_dutyOf σ a b c d := by
  have e1 : (sS σ 14 x).1 7 = σ.1 7 := sS_k (by decide)
  have e2 : ∀ p q r s t, mm_dutyOf_b62 (sS σ 14 x) p q r s t = mm_dutyOf_b62 σ p q r s t := fun _ _ _ _ _ => rfl
  unfold mm_dutyOf mm_sizeOf
  simp only [zk_size14, e1, e2, sS_2]
theorem zk_paid14 (σ : gS) (x a b c d : Int32) : mm_paid (sS σ 14 x) a b c d = mm_paid σ a b c d := by
  unfold mm_paid
  simp only [mm_paid_b11, mm_paid_b23, mm_paid_b72, mm_paid_b78, mm_paid_b90, zk_duty14]
theorem zkPaid_le {G S : Nat} {v : gV0} {hm cnt k P Q R : Nat} (hB : RB G S v hm cnt) (hk : k < S) (hP : P / 10 < G) (hQ : Q / 10 < G) (hR : R / 10 < G) : nPaid v hm k P Q R ≤ 1440 := by
  have a := fun T => nDuty_le (d := P % 10) (T := T) hB hP hk
  have b := fun T => nDuty_le (d := Q % 10) (T := T) hB hQ hk
  have c := fun T => nDuty_le (d := R % 10) (T := T) hB hR hk
  unfold nPaid
  have a1 := a (1 + (if Q = P then 2 else 0) + (if R = P then 4 else 0))
  have b1 : (if Q = P then 0 else nDuty v hm (Q / 10) k (Q % 10) (if R = Q then 6 else 2)) ≤ 480 := by
    by_cases h : Q = P
    · rw [if_pos h]; omega
    · rw [if_neg h]; exact b _
  have c1 : (if R = P then 0 else if R = Q then 0 else nDuty v hm (R / 10) k (R % 10) 4) ≤ 480 := by
    by_cases h : R = P
    · rw [if_pos h]; omega
    · rw [if_neg h]
      by_cases h2 : R = Q
      · rw [if_pos h2]; omega
      · rw [if_neg h2]; exact c _
  omega
theorem zk_place {G S : Nat} {σ : gS} {v : gV0} {hm cnt k D x : Nat} (hB : RB G S v hm cnt) (hM : RM G S (sS σ 14 (-9)) v hm cnt) (hk : k < S) (hD : D ≤ 7) (hx : x < 10 * G) : (zkOp G v k (σ.1 14) (D + 1) x ∧ mm_isPlace σ (nI k) (nI D) (nI x) = some true) ∨ (¬ zkOp G v k (σ.1 14) (D + 1) x ∧ mm_isPlace σ (nI k) (nI D) (nI x) = some false) := by
  have hG := hB.1
  have hS := hB.2.1
  have hb := hB.2.2.2.2.2.2.1 k hk
  have a10 : (10 : Int32) = nI 10 := rfl
  have hg : gin (nI k) 4 = true := gin_of (by omega) (by decide)
  have hcl : (nI k).toNatClampNeg = k := nI_clamp (by omega)
  have h13 : σ.2 13 k = nI (v 5 k) := (hM.2.2.2.2.2.2.1 k hk).2.2
  unfold mm_isPlace
  rw [a10, pk_rem (by omega) (by decide) (by decide), pk_div (by omega) (by decide) (by decide), hcl, h13, within_eq]
  by_cases h1 : nI (x / 10) = σ.1 14
  · exact Or.inr ⟨fun h => h.2.2.2 h1, if_pos h1⟩
  · rw [if_neg h1, if_pos hg]
    simp only [gB1_some]
    by_cases h2 : v 5 k ≤ x % 10
    · by_cases h3 : x % 10 ≤ D
      · refine Or.inl ⟨⟨by omega, h2, by omega, h1⟩, ?_⟩
        rw [wI_of (nI_nlt h2 (by omega)) (nI_nlt h3 (by omega)), if_pos rfl]
      · refine Or.inr ⟨fun h => h3 (by have := h.1; omega), ?_⟩
        have : wI (nI (x % 10)) (nI (v 5 k)) (nI D) = false := by
          unfold wI
          rw [if_neg (nI_nlt h2 (by omega)), if_pos (nI_lt (by omega) (by omega))]
        rw [this]
        rfl
    · refine Or.inr ⟨fun h => h2 h.2.1, ?_⟩
      have : wI (nI (x % 10)) (nI (v 5 k)) (nI D) = false := by
        unfold wI
        rw [if_pos (nI_lt (by omega) (by omega))]
      rw [this]
      rfl
/-- what is found so far: the best of all triples of places whose code is below c -/
def ZLI (v : gV0) (hm k : Nat) (O : Nat → Prop) (c : Nat) (r : Int32) (σ : gS) : Prop := (r = (-9) ∧ ∀ P Q R, O P → O Q → O R → ¬ P * 4096 + Q * 64 + R < c) ∨ ∃ P Q R, O P ∧ O Q ∧ O R ∧ r = nI (nPaid v hm k P Q R) ∧ σ.1 28 = nI P ∧ σ.1 29 = nI Q ∧ σ.1 30 = nI R ∧ P * 4096 + Q * 64 + R < c ∧ ∀ P' Q' R', O P' → O Q' → O R' → P' * 4096 + Q' * 64 + R' < c → zkKey v hm k P Q R ≤ zkKey v hm k P' Q' R'
theorem ZLI.move {v : gV0} {hm k : Nat} {O : Nat → Prop} {c c' : Nat} {r : Int32} {σ : gS} (h : ZLI v hm k O c r σ) (hc : c ≤ c') (hn : ∀ P Q R, O P → O Q → O R → P * 4096 + Q * 64 + R < c' → P * 4096 + Q * 64 + R < c) : ZLI v hm k O c' r σ := by
  rcases h with ⟨h1, h2⟩ | ⟨P, Q, R, a, b, d, e, f, g, i, j, l⟩
  · exact Or.inl ⟨h1, fun P Q R a b d q => h2 P Q R a b d (hn P Q R a b d q)⟩
  · exact Or.inr ⟨P, Q, R, a, b, d, e, f, g, i, by omega, fun P' Q' R' a' b' d' q => l P' Q' R' a' b' d' (hn P' Q' R' a' b' d' q)⟩
theorem zk_low {G : Nat} {v : gV0} {k D : Nat} {mx : Int32} (hG : G ≤ 5) (hD : D ≤ 7) {x : Nat} (h : zkOp G v k mx (D + 1) x) : x < 50 ∧ x < 10 * G ∧ x / 10 < G ∧ spOK G v k x := by
  obtain ⟨a, b, c, e⟩ := h
  exact ⟨by omega, by omega, c, c, by omega, b⟩
theorem nI_m9 {n : Nat} (h : n < 2 ^ 31) : ¬ nI n = (-9) := fun q => nI_pos h (by rw [q]; decide)
set_option maxRecDepth 20000 in
theorem zk_find3 {G S : Nat} {X : gC} {v : gV0} {hm cnt k D P Q : Nat} {mx : Int32} (hB : RB G S v hm cnt) (hC : RC G S X v hm cnt) (hk : k < S) (hD : D ≤ 7) (hP : zkOp G v k mx (D + 1) P) (hQ : Q < 10 * G) (lp6 : Int32 → Int32 → Int32 → Int32 → gS → Option (Int32 × gS)) (lp21 : Int32 → Int32 → Int32 → Int32 → Int32 → gS → Option (Int32 × gS)) : ∀ (m R n : Nat) (r : Int32) (σ : gS), R + m = 10 * G → m < n → RM G S (sS σ 14 (-9)) v hm cnt → σ.1 14 = mx → ZLI v hm k (zkOp G v k mx (D + 1)) (P * 4096 + Q * 64 + R) r σ → ∃ (r' : Int32) (σ' : gS), mm_findLeast_b47 lp6 lp21 n (nI k) (nI D) r (nI P) (nI Q) (nI R) σ = lp21 (nI k) (nI D) r' (nI P) (nI (Q + 1)) σ' ∧ ZMQ σ σ' ∧ ZLI v hm k (zkOp G v k mx (D + 1)) (P * 4096 + (Q + 1) * 64) r' σ' := by
  have hG := hB.1
  have hPl := zk_low hG hD hP
  have low : ∀ x, zkOp G v k mx (D + 1) x → x < 50 ∧ x < 10 * G ∧ x / 10 < G ∧ spOK G v k x := fun x h => zk_low hG hD h
  intro m
  induction m with
  | zero =>
    intro R n r σ hR hn hM h14 hL
    obtain ⟨n, rfl⟩ : ∃ q, n = q + 1 := ⟨n - 1, by omega⟩
    refine ⟨r, σ, ?_, ZMQ.refl σ, hL.move (by omega) (fun P' Q' R' a b c h => ?_)⟩
    · unfold mm_findLeast_b47
      have h5 : σ.1 5 = nI G := hM.1
      rw [h5, show (10 : Int32) = nI 10 from rfl, pk_mul, if_pos (nI_le (by omega) (by omega))]
      simp only [mm_findLeast_b133, nI_1]
    · have := (low _ b).1
      have := (low _ c).2.1
      omega
  | succ m ih =>
    intro R n r σ hR hn hM h14 hL
    obtain ⟨n, rfl⟩ : ∃ q, n = q + 1 := ⟨n - 1, by omega⟩
    have h5 : σ.1 5 = nI G := hM.1
    have hf : ∀ x, mm_findLeast_b47 lp6 lp21 (n + 1) (nI k) (nI D) r (nI P) (nI Q) (nI R) σ = x ↔ (gB1 (mm_isPlace σ (nI k) (nI D) (nI Q)) fun r6 => if r6 = true then gB1 (mm_isPlace σ (nI k) (nI D) (nI R)) fun r9 => if r9 = true then gB1 (mm_paid σ (nI k) (nI P) (nI Q) (nI R)) fun r12 => if r = (-9) then mm_findLeast_b106 lp6 lp21 (mm_findLeast_b47 lp6 lp21 n) (nI k) (nI D) (nI P) (nI Q) (nI R) r12 σ else if r ≤ r12 then mm_findLeast_b127 lp6 lp21 (mm_findLeast_b47 lp6 lp21 n) (nI k) (nI D) r (nI P) (nI Q) (nI R) σ else mm_findLeast_b106 lp6 lp21 (mm_findLeast_b47 lp6 lp21 n) (nI k) (nI D) (nI P) (nI Q) (nI R) r12 σ else mm_findLeast_b127 lp6 lp21 (mm_findLeast_b47 lp6 lp21 n) (nI k) (nI D) r (nI P) (nI Q) (nI R) σ else mm_findLeast_b133 lp6 lp21 (nI k) (nI D) r (nI P) (nI Q) σ) = x := by
      intro x
      conv => lhs; lhs; unfold mm_findLeast_b47
      rw [h5, show (10 : Int32) = nI 10 from rfl, pk_mul, if_neg (nI_ge (by omega) (by omega))]
    rcases zk_place hB hM hk hD hQ with ⟨oQ, eQ⟩ | ⟨oQ, eQ⟩
    · rw [h14] at oQ
      rcases zk_place (x := R) hB hM hk hD (by omega) with ⟨oR, eR⟩ | ⟨oR, eR⟩
      · rw [h14] at oR
        have sP := low _ hP
        have sQ := low _ oQ
        have sR := low _ oR
        have ep : mm_paid σ (nI k) (nI P) (nI Q) (nI R) = some (nI (nPaid v hm k P Q R)) := by
          rw [← zk_paid14 σ (-9)]
          exact paid_nat hB hC hM hk sP.2.2.2 sQ.2.2.2 sR.2.2.2
        have hp := zkPaid_le hB hk sP.2.2.1 sQ.2.2.1 sR.2.2.1
        have better : (∀ P' Q' R', zkOp G v k mx (D + 1) P' → zkOp G v k mx (D + 1) Q' → zkOp G v k mx (D + 1) R' → P' * 4096 + Q' * 64 + R' < P * 4096 + Q * 64 + R → zkKey v hm k P Q R ≤ zkKey v hm k P' Q' R') → ∃ (r' : Int32) (σ' : gS), mm_findLeast_b106 lp6 lp21 (mm_findLeast_b47 lp6 lp21 n) (nI k) (nI D) (nI P) (nI Q) (nI R) (nI (nPaid v hm k P Q R)) σ = lp21 (nI k) (nI D) r' (nI P) (nI (Q + 1)) σ' ∧ ZMQ σ σ' ∧ ZLI v hm k (zkOp G v k mx (D + 1)) (P * 4096 + (Q + 1) * 64) r' σ' := by
          intro hb
          have hz := ZMQ.set σ (nI P) (nI Q) (nI R)
          obtain ⟨r', σ', a1, a2, a3⟩ := ih (R + 1) n (nI (nPaid v hm k P Q R)) (sS (sS (sS σ 28 (nI P)) 29 (nI Q)) 30 (nI R)) (by omega) (by omega) (hz.RN hM) ((hz.2 14 (by decide) (by decide) (by decide)).trans h14) (Or.inr ⟨P, Q, R, hP, oQ, oR, rfl, by rw [sS_k (by decide), sS_k (by decide), sS_s], by rw [sS_k (by decide), sS_s], sS_s, by omega, fun P' Q' R' a b c h => by
            by_cases e : P' * 4096 + Q' * 64 + R' < P * 4096 + Q * 64 + R
            · exact hb P' Q' R' a b c e
            · have h1 := (low _ a).1
              have h2 := (low _ b).1
              have h3 := (low _ c).1
              have e1 : P' = P := by omega
              have e2 : Q' = Q := by omega
              have e3 : R' = R := by omega
              rw [e1, e2, e3]
              exact Nat.le_refl _⟩)
          refine ⟨r', σ', ?_, hz.trans a2, a3⟩
          simp only [mm_findLeast_b106, mm_findLeast_b127, gLet, nI_1]
          exact a1
        rcases hL with ⟨h1, h2⟩ | ⟨P1, Q1, R1, a, b, c, d, e, f, g, i, j⟩
        · obtain ⟨r', σ', a1, a2, a3⟩ := better (fun P' Q' R' a b c h => absurd h (h2 P' Q' R' a b c))
          refine ⟨r', σ', (hf _).mpr ?_, a2, a3⟩
          rw [eQ, eR, ep]
          simp only [gB1_some, if_true, h1]
          exact a1
        · have s1 := low _ a
          have s2 := low _ b
          have s3 := low _ c
          have hp1 := zkPaid_le hB hk s1.2.2.1 s2.2.2.1 s3.2.2.1
          have n9 : ¬ r = (-9) := by rw [d]; exact nI_m9 (by omega)
          by_cases hle : nPaid v hm k P1 Q1 R1 ≤ nPaid v hm k P Q R
          · obtain ⟨r', σ', a1, a2, a3⟩ := ih (R + 1) n r σ (by omega) (by omega) hM h14 (Or.inr ⟨P1, Q1, R1, a, b, c, d, e, f, g, by omega, fun P' Q' R' a' b' c' h => by
              by_cases q : P' * 4096 + Q' * 64 + R' < P * 4096 + Q * 64 + R
              · exact j P' Q' R' a' b' c' q
              · have h1 := (low _ a').1
                have h2 := (low _ b').1
                have h3 := (low _ c').1
                have e1 : P' = P := by omega
                have e2 : Q' = Q := by omega
                have e3 : R' = R := by omega
                rw [e1, e2, e3]
                unfold zkKey
                omega⟩)
            refine ⟨r', σ', (hf _).mpr ?_, a2, a3⟩
            rw [eQ, eR, ep]
            simp only [gB1_some, if_true, n9, if_false]
            rw [if_pos (by rw [d]; exact nI_le hle (by omega))]
            simp only [mm_findLeast_b127, nI_1]
            exact a1
          · obtain ⟨r', σ', a1, a2, a3⟩ := better (fun P' Q' R' a' b' c' h => by
              refine Nat.le_trans ?_ (j P' Q' R' a' b' c' h)
              have h1 := sP.1
              have h2 := sQ.1
              have h3 := sR.1
              unfold zkKey
              omega)
            refine ⟨r', σ', (hf _).mpr ?_, a2, a3⟩
            rw [eQ, eR, ep]
            simp only [gB1_some, if_true, n9, if_false]
            rw [if_neg (by rw [d]; exact nI_ge (by omega) (by omega))]
            exact a1
      · rw [h14] at oR
        obtain ⟨r', σ', a1, a2, a3⟩ := ih (R + 1) n r σ (by omega) (by omega) hM h14 (hL.move (by omega) (fun P' Q' R' a b c h => by
          have h1 := (low _ a).1
          have h2 := (low _ b).1
          have h3 := (low _ c).1
          have e3 : R' ≠ R := fun e => oR (e ▸ c)
          omega))
        refine ⟨r', σ', (hf _).mpr ?_, a2, a3⟩
        rw [eQ, eR]
        simp only [gB1_some, if_true, if_false, Bool.false_eq_true, mm_findLeast_b127, nI_1]
        exact a1
    · rw [h14] at oQ
      refine ⟨r, σ, (hf _).mpr ?_, ZMQ.refl σ, hL.move (by omega) (fun P' Q' R' a b c h => ?_)⟩
      · rw [eQ]
        simp only [gB1_some, if_false, Bool.false_eq_true, mm_findLeast_b133, nI_1]
      · have h1 := (low _ a).1
        have h2 := (low _ b).1
        have h3 := (low _ c).1
        have e3 : Q' ≠ Q := fun e => oQ (e ▸ b)
        omega
set_option maxRecDepth 20000 in
theorem zk_find2 {G S : Nat} {X : gC} {v : gV0} {hm cnt k D P : Nat} {mx : Int32} (hB : RB G S v hm cnt) (hC : RC G S X v hm cnt) (hk : k < S) (hD : D ≤ 7) (hP : P < 10 * G) (lp6 : Int32 → Int32 → Int32 → Int32 → gS → Option (Int32 × gS)) : ∀ (m Q n : Nat) (r : Int32) (σ : gS), Q + m = 10 * G → m < n → RM G S (sS σ 14 (-9)) v hm cnt → σ.1 14 = mx → ZLI v hm k (zkOp G v k mx (D + 1)) (P * 4096 + Q * 64) r σ → ∃ (r' : Int32) (σ' : gS), mm_findLeast_b21 lp6 n (nI k) (nI D) r (nI P) (nI Q) σ = lp6 (nI k) (nI D) r' (nI (P + 1)) σ' ∧ ZMQ σ σ' ∧ ZLI v hm k (zkOp G v k mx (D + 1)) ((P + 1) * 4096) r' σ' := by
  have hG := hB.1
  have low : ∀ x, zkOp G v k mx (D + 1) x → x < 50 ∧ x < 10 * G ∧ x / 10 < G ∧ spOK G v k x := fun x h => zk_low hG hD h
  intro m
  induction m with
  | zero =>
    intro Q n r σ hQ hn hM h14 hL
    obtain ⟨n, rfl⟩ : ∃ q, n = q + 1 := ⟨n - 1, by omega⟩
    refine ⟨r, σ, ?_, ZMQ.refl σ, hL.move (by omega) (fun P' Q' R' a b c h => ?_)⟩
    · unfold mm_findLeast_b21
      have h5 : σ.1 5 = nI G := hM.1
      rw [h5, show (10 : Int32) = nI 10 from rfl, pk_mul, if_pos (nI_le (by omega) (by omega))]
      simp only [mm_findLeast_b139, nI_1]
    · have := (low _ a).1
      have := (low _ b).2.1
      have := (low _ c).1
      omega
  | succ m ih =>
    intro Q n r σ hQ hn hM h14 hL
    obtain ⟨n, rfl⟩ : ∃ q, n = q + 1 := ⟨n - 1, by omega⟩
    have h5 : σ.1 5 = nI G := hM.1
    rcases zk_place hB hM hk hD hP with ⟨oP, eP⟩ | ⟨oP, eP⟩
    · rw [h14] at oP
      obtain ⟨r1, σ1, a1, a2, a3⟩ := zk_find3 hB hC hk hD oP (show Q < 10 * G by omega) lp6 (mm_findLeast_b21 lp6 n) (10 * G) 0 1000 r σ (by omega) (by omega) hM h14 (by rw [Nat.add_zero]; exact hL)
      obtain ⟨r', σ', b1, b2, b3⟩ := ih (Q + 1) n r1 σ1 (by omega) (by omega) (a2.RN hM) ((a2.2 14 (by decide) (by decide) (by decide)).trans h14) a3
      refine ⟨r', σ', ?_, a2.trans b2, b3⟩
      unfold mm_findLeast_b21
      rw [h5, show (10 : Int32) = nI 10 from rfl, pk_mul, if_neg (nI_ge (by omega) (by omega)), eP]
      simp only [gB1_some, if_true]
      exact a1.trans b1
    · rw [h14] at oP
      refine ⟨r, σ, ?_, ZMQ.refl σ, hL.move (by omega) (fun P' Q' R' a b c h => ?_)⟩
      · unfold mm_findLeast_b21
        rw [h5, show (10 : Int32) = nI 10 from rfl, pk_mul, if_neg (nI_ge (by omega) (by omega)), eP]
        simp only [gB1_some, if_false, Bool.false_eq_true, mm_findLeast_b139, nI_1]
      · have h1 := (low _ a).1
        have h2 := (low _ b).1
        have h3 := (low _ c).1
        have e3 : P' ≠ P := fun e => oP (e ▸ a)
        omega
set_option maxRecDepth 20000 in
theorem zk_find1 {G S : Nat} {X : gC} {v : gV0} {hm cnt k D : Nat} {mx : Int32} (hB : RB G S v hm cnt) (hC : RC G S X v hm cnt) (hk : k < S) (hD : D ≤ 7) : ∀ (m P n : Nat) (r : Int32) (σ : gS), P + m = 10 * G → m < n → RM G S (sS σ 14 (-9)) v hm cnt → σ.1 14 = mx → ZLI v hm k (zkOp G v k mx (D + 1)) (P * 4096) r σ → ∃ (r' : Int32) (σ' : gS), mm_findLeast_b6 n (nI k) (nI D) r (nI P) σ = some (r', σ') ∧ ZMQ σ σ' ∧ ZLI v hm k (zkOp G v k mx (D + 1)) (10 * G * 4096) r' σ' := by
  have hG := hB.1
  intro m
  induction m with
  | zero =>
    intro P n r σ hP hn hM h14 hL
    obtain ⟨n, rfl⟩ : ∃ q, n = q + 1 := ⟨n - 1, by omega⟩
    have : P = 10 * G := by omega
    subst this
    refine ⟨r, σ, ?_, ZMQ.refl σ, hL⟩
    unfold mm_findLeast_b6
    have h5 : σ.1 5 = nI G := hM.1
    rw [h5, show (10 : Int32) = nI 10 from rfl, pk_mul, if_pos (nI_le (by omega) (by omega))]
  | succ m ih =>
    intro P n r σ hP hn hM h14 hL
    obtain ⟨n, rfl⟩ : ∃ q, n = q + 1 := ⟨n - 1, by omega⟩
    have h5 : σ.1 5 = nI G := hM.1
    obtain ⟨r1, σ1, a1, a2, a3⟩ := zk_find2 hB hC hk hD (show P < 10 * G by omega) (mm_findLeast_b6 n) (10 * G) 0 1000 r σ (by omega) (by omega) hM h14 (by rw [Nat.zero_mul, Nat.add_zero]; exact hL)
    obtain ⟨r', σ', b1, b2, b3⟩ := ih (P + 1) n r1 σ1 (by omega) (by omega) (a2.RN hM) ((a2.2 14 (by decide) (by decide) (by decide)).trans h14) a3
    refine ⟨r', σ', ?_, a2.trans b2, b3⟩
    unfold mm_findLeast_b6
    rw [h5, show (10 : Int32) = nI 10 from rfl, pk_mul, if_neg (nI_ge (by omega) (by omega))]
    exact a1.trans b1
theorem zk_find {G S : Nat} {X : gC} {σ : gS} {v : gV0} {hm cnt k D : Nat} (hB : RB G S v hm cnt) (hC : RC G S X v hm cnt) (hM : RM G S (sS σ 14 (-9)) v hm cnt) (hk : k < S) (hD : D ≤ 7) : ∃ (r : Int32) (σ' : gS), mm_findLeast σ (nI k) (nI D) = some (r, σ') ∧ ZMQ σ σ' ∧ ZLI v hm k (zkOp G v k (σ.1 14) (D + 1)) (10 * G * 4096) r σ' := by
  have hG := hB.1
  exact zk_find1 hB hC hk hD (10 * G) 0 1000 (-9) σ (by omega) (by omega) hM rfl (Or.inl ⟨rfl, fun P Q R _ _ _ h => by omega⟩)
set_option maxRecDepth 20000 in
theorem zk_dec {a P Q R : Nat} (hP : P < 64) (hQ : Q < 64) (hR : R < 64) : (a * 262144 + (P * 4096 + Q * 64 + R)) / 262144 = a ∧ (a * 262144 + (P * 4096 + Q * 64 + R)) / 4096 % 64 = P ∧ (a * 262144 + (P * 4096 + Q * 64 + R)) / 64 % 64 = Q ∧ (a * 262144 + (P * 4096 + Q * 64 + R)) % 64 = R := by
  have h1 : (a * 262144 + (P * 4096 + Q * 64 + R)) / 4096 = a * 64 + P := by omega
  have h2 : (a * 262144 + (P * 4096 + Q * 64 + R)) / 64 = a * 4096 + P * 64 + Q := by omega
  rw [h1, h2]
  exact ⟨by omega, by omega, by omega, by omega⟩
set_option maxRecDepth 20000 in
/-- class and reference find the same -/
theorem zk_same {G S : Nat} {σ : gS} {v : gV0} {hm cnt k D y x0 : Nat} {r sx mx : Int32} (hB : RB G S v hm cnt) (hk : k < S) (hD : D ≤ 7) (hs : ∀ g, g < G → (nI g = sx ↔ nI g = mx)) (hb : zkBest G v hm k sx D y) (hL : ZLI v hm k (zkOp G v k mx (D + 1)) (10 * G * 4096) r σ) (h0 : zkOp G v k mx (D + 1) x0) : y < 536870912 ∧ r = nI (y / 262144) ∧ σ.1 28 = nI (y / 4096 % 64) ∧ σ.1 29 = nI (y / 64 % 64) ∧ σ.1 30 = nI (y % 64) := by
  have hG := hB.1
  have low : ∀ x, zkOp G v k mx (D + 1) x → x < 50 ∧ x < 10 * G ∧ x / 10 < G ∧ spOK G v k x := fun x h => zk_low hG hD h
  have hO : ∀ x, zkOp G v k sx (D + 1) x ↔ zkOp G v k mx (D + 1) x := fun x => ⟨fun ⟨a, b, c, e⟩ => ⟨a, b, c, fun q => e ((hs _ c).mpr q)⟩, fun ⟨a, b, c, e⟩ => ⟨a, b, c, fun q => e ((hs _ c).mp q)⟩⟩
  rcases hL with ⟨_, h2⟩ | ⟨P, Q, R, a, b, c, d, e, f, g, i, j⟩
  · have := (low _ h0).2.1
    have := (low _ h0).1
    exact absurd (show x0 * 4096 + x0 * 64 + x0 < 10 * G * 4096 by omega) (h2 x0 x0 x0 h0 h0 h0)
  · have l1 := low _ a
    have l2 := low _ b
    have l3 := low _ c
    have hp := zkPaid_le hB hk l1.2.2.1 l2.2.2.1 l3.2.2.1
    have hle := hb.2.1 P Q R ((hO P).mpr a) ((hO Q).mpr b) ((hO R).mpr c)
    have hkb : zkKey v hm k P Q R < 536870912 := by
      have := l1.1
      have := l2.1
      have := l3.1
      unfold zkKey
      omega
    have ey : y = zkKey v hm k P Q R := by
      rcases hb.2.2 with q | ⟨P', Q', R', a', b', c', q⟩
      · omega
      · have a' := (hO _).mp a'
        have b' := (hO _).mp b'
        have c' := (hO _).mp c'
        have m1 := low _ a'
        have m2 := low _ b'
        have m3 := low _ c'
        have := j P' Q' R' a' b' c' (by have := m1.2.1; have := m2.1; have := m3.1; omega)
        omega
    obtain ⟨e1, e2, e3, e4⟩ := zk_dec (a := nPaid v hm k P Q R) (P := P) (Q := Q) (R := R) (by have := l1.1; omega) (by have := l2.1; omega) (by have := l3.1; omega)
    have eu : nPaid v hm k P Q R * 262144 + (P * 4096 + Q * 64 + R) = y := ey.symm
    rw [eu] at e1 e2 e3 e4
    rw [e1, e2, e3, e4]
    exact ⟨by omega, d, e, f, g⟩
theorem zk_none {G : Nat} {σ : gS} {v : gV0} {hm k D : Nat} {r mx : Int32} (hL : ZLI v hm k (zkOp G v k mx (D + 1)) (10 * G * 4096) r σ) (h0 : ∀ x, ¬ zkOp G v k mx (D + 1) x) : r = (-9) := by
  rcases hL with ⟨h, _⟩ | ⟨P, Q, R, a, _⟩
  · exact h
  · exact absurd a (h0 P)
