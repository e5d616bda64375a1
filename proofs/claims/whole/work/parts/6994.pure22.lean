/-! LEAST: keys of sets of thirds over the spots that are opened -/
def zkC (f : Nat → Nat → Nat) (P Q R : Nat) : Nat := sumTo (fun x => f x (nT P Q R x)) 64 0
def zkM (P Q R : Nat) : Nat := (if P = 64 then 0 else 1) + (if Q = 64 then 0 else 2) + (if R = 64 then 0 else 4)
def zkO (O : Nat → Prop) (x : Nat) : Prop := x = 64 ∨ O x
def ZKI (f : Nat → Nat → Nat) (O : Nat → Prop) (K : Nat → Nat) : Prop := (∀ P Q R, zkO O P → zkO O Q → zkO O R → K (zkM P Q R) ≤ zkC f P Q R) ∧ (∀ M, M < 8 → K M ≤ 536870912) ∧ ∀ M, M < 8 → K M = 536870912 ∨ ∃ P Q R, zkO O P ∧ zkO O Q ∧ zkO O R ∧ zkM P Q R = M ∧ K M = zkC f P Q R
theorem zkC_split (f : Nat → Nat → Nat) (h0 : ∀ x, f x 0 = 0) (h64 : ∀ T, f 64 T = 0) {q : Nat} (hq : q < 64) (P Q R : Nat) : zkC f P Q R = f q (nT P Q R q) + zkC f (if P = q then 64 else P) (if Q = q then 64 else Q) (if R = q then 64 else R) := by
  have e : ∀ x, f x (nT P Q R x) = (fun x => (fun x => (if x = q then f q (nT P Q R q) else 0)) x + (fun x => f x (nT (if P = q then 64 else P) (if Q = q then 64 else Q) (if R = q then 64 else R) x)) x) x := by
    intro x
    show f x (nT P Q R x) = (if x = q then f q (nT P Q R q) else 0) + f x (nT (if P = q then 64 else P) (if Q = q then 64 else Q) (if R = q then 64 else R) x)
    by_cases hx : x = q
    · subst hx
      have z : ∀ A : Nat, ¬ (if A = x then 64 else A) = x := fun A => by
        by_cases h : A = x
        · rw [if_pos h]; omega
        · rw [if_neg h]; exact h
      have e0 : nT (if P = x then 64 else P) (if Q = x then 64 else Q) (if R = x then 64 else R) x = 0 := by
        unfold nT
        rw [if_neg (z P), if_neg (z Q), if_neg (z R)]
      rw [if_pos rfl, e0, h0, Nat.add_zero]
    · by_cases h6 : x = 64
      · subst h6
        rw [if_neg hx, h64, h64]
      · have z : ∀ A : Nat, ((if A = q then 64 else A) = x) = (A = x) := fun A => by
          by_cases h : A = q
          · rw [if_pos h]
            exact propext ⟨fun h2 => absurd h2.symm h6, fun h2 => absurd (h2.symm.trans h) hx⟩
          · rw [if_neg h]
        have e1 : nT (if P = q then 64 else P) (if Q = q then 64 else Q) (if R = q then 64 else R) x = nT P Q R x := by
          unfold nT
          simp only [z]
        rw [if_neg hx, e1, Nat.zero_add]
  unfold zkC
  rw [sumTo_congr e, sumTo_add, sumTo_one, if_pos (show 0 ≤ q ∧ q < 0 + 64 by omega)]
theorem zkC_none (f : Nat → Nat → Nat) (h0 : ∀ x, f x 0 = 0) (h64 : ∀ T, f 64 T = 0) : zkC f 64 64 64 = 0 := by
  have e : ∀ x, f x (nT 64 64 64 x) = (fun x => (if x = 64 then 0 else 0)) x := by
    intro x
    show f x (nT 64 64 64 x) = (if x = 64 then 0 else 0)
    by_cases hx : x = 64
    · subst hx; rw [h64, if_pos rfl]
    · have hx' : ¬ 64 = x := fun h => hx h.symm
      rw [if_neg hx]
      unfold nT
      rw [if_neg hx', if_neg hx', if_neg hx']
      exact h0 x
  unfold zkC
  rw [sumTo_congr e, sumTo_one, if_neg (by decide)]
theorem zk3 {q : Nat} (hq : q < 64) (A : Nat) : ∃ i : Fin 3, ∀ w : Nat, (if A = 64 then 0 else w) = (if i = 0 then 0 else w) ∧ (if A = q then w else 0) = (if i = 1 then w else 0) ∧ (if (if A = q then 64 else A) = 64 then 0 else w) = (if i = 2 then w else 0) := by
  by_cases h1 : A = 64
  · have h2 : ¬ A = q := by omega
    exact ⟨0, fun w => ⟨by rw [if_pos h1, if_pos rfl], by rw [if_neg h2, if_neg (by decide)], by rw [if_neg h2, if_pos h1, if_neg (by decide)]⟩⟩
  · by_cases h2 : A = q
    · exact ⟨1, fun w => ⟨by rw [if_neg h1, if_neg (by decide)], by rw [if_pos h2, if_pos rfl], by rw [if_pos h2, if_pos rfl, if_neg (by decide)]⟩⟩
    · exact ⟨2, fun w => ⟨by rw [if_neg h1, if_neg (by decide)], by rw [if_neg h2, if_neg (by decide)], by rw [if_neg h2, if_neg h1, if_pos rfl]⟩⟩
theorem zkd1 : ∀ i j l : Fin 3, (((if i = 1 then 1 else 0) + (if j = 1 then 2 else 0) + (if l = 1 then 4 else 0) : Nat) &&& ((if i = 0 then 0 else 1) + (if j = 0 then 0 else 2) + (if l = 0 then 0 else 4)) = ((if i = 1 then 1 else 0) + (if j = 1 then 2 else 0) + (if l = 1 then 4 else 0))) ∧ (((if i = 0 then 0 else 1) + (if j = 0 then 0 else 2) + (if l = 0 then 0 else 4) : Nat) ^^^ ((if i = 1 then 1 else 0) + (if j = 1 then 2 else 0) + (if l = 1 then 4 else 0)) = ((if i = 2 then 1 else 0) + (if j = 2 then 2 else 0) + (if l = 2 then 4 else 0))) ∧ ((if i = 1 then 1 else 0) + (if j = 1 then 2 else 0) + (if l = 1 then 4 else 0) : Nat) < 8 ∧ ((if i = 0 then 0 else 1) + (if j = 0 then 0 else 2) + (if l = 0 then 0 else 4) : Nat) < 8 := by decide +kernel
theorem zk_parts {q : Nat} (hq : q < 64) (P Q R : Nat) : nT P Q R q &&& zkM P Q R = nT P Q R q ∧ zkM P Q R ^^^ nT P Q R q = zkM (if P = q then 64 else P) (if Q = q then 64 else Q) (if R = q then 64 else R) ∧ nT P Q R q < 8 ∧ zkM P Q R < 8 := by
  obtain ⟨i, hi⟩ := zk3 hq P
  obtain ⟨j, hj⟩ := zk3 hq Q
  obtain ⟨l, hl⟩ := zk3 hq R
  unfold nT zkM
  rw [(hi 1).1, (hi 1).2.1, (hi 1).2.2, (hj 2).1, (hj 2).2.1, (hj 2).2.2, (hl 4).1, (hl 4).2.1, (hl 4).2.2]
  exact zkd1 i j l
theorem zkd2 : ∀ (a b c : Bool) (T M : Fin 8), ((if a then 1 else 0) + (if b then 2 else 0) + (if c then 4 else 0) : Nat) = M.val ^^^ T.val → T.val &&& M.val = T.val → (nBit T.val 0 = true → a = false) ∧ (nBit T.val 1 = true → b = false) ∧ (nBit T.val 2 = true → c = false) ∧ ((if nBit T.val 0 || a then 1 else 0) + (if nBit T.val 1 || b then 2 else 0) + (if nBit T.val 2 || c then 4 else 0) : Nat) = M.val := by
  intro a b c
  cases a <;> cases b <;> cases c <;> decide +kernel
theorem zkd3 : ∀ T : Fin 8, ((if nBit T.val 0 = true then 1 else 0) + (if nBit T.val 1 = true then 2 else 0) + (if nBit T.val 2 = true then 4 else 0) : Nat) = T.val := by decide +kernel
theorem zk_join {O : Nat → Prop} {q P : Nat} {b : Bool} (hq : q < 64) (hO : ¬ O q) (hP : zkO O P) (hb : b = true → P = 64) : zkO (fun x => O x ∨ x = q) (if b = true then q else P) ∧ (if (if b = true then q else P) = q then 64 else (if b = true then q else P)) = P ∧ (∀ w : Nat, (if (if b = true then q else P) = q then w else 0) = (if b = true then w else 0)) ∧ ∀ w : Nat, (if (if b = true then q else P) = 64 then 0 else w) = (if b || !decide (P = 64) then w else 0) := by
  have hPq : ¬ P = q := fun h => by
    rcases hP with h2 | h2
    · omega
    · rw [h] at h2; exact hO h2
  cases b with
  | true =>
    have h := hb rfl
    refine ⟨Or.inr (Or.inr rfl), ?_, ?_, ?_⟩
    · simp [h]
    · intro w; simp
    · intro w
      have : ¬ q = 64 := by omega
      simp [this]
  | false =>
    refine ⟨?_, ?_, ?_, ?_⟩
    · rcases hP with h | h
      · exact Or.inl h
      · exact Or.inr (Or.inl h)
    · simp [hPq]
    · intro w; simp [hPq]
    · intro w
      by_cases h : P = 64
      · simp [h]
      · simp [h]
theorem ZKI.step {f : Nat → Nat → Nat} {O : Nat → Prop} {K K' : Nat → Nat} {q : Nat} (h0 : ∀ x, f x 0 = 0) (h64 : ∀ T, f 64 T = 0) (hq : q < 64) (hO : ¬ O q) (hk : ZKI f O K) (h1 : ∀ M, M < 8 → K' M ≤ K M) (h2 : ∀ M T, M < 8 → T < 8 → 0 < T → T &&& M = T → K' M ≤ K (M ^^^ T) + f q T) (h3 : ∀ M, M < 8 → K' M = K M ∨ ∃ T, T < 8 ∧ 0 < T ∧ T &&& M = T ∧ K' M = K (M ^^^ T) + f q T) : ZKI f (fun x => O x ∨ x = q) K' := by
  refine ⟨?_, fun M hM => Nat.le_trans (h1 M hM) (hk.2.1 M hM), ?_⟩
  · intro P Q R hP hQ hR
    obtain ⟨p1, p2, p3, p4⟩ := zk_parts hq P Q R
    have w : ∀ A, zkO (fun x => O x ∨ x = q) A → zkO O (if A = q then 64 else A) := fun A hA => by
      by_cases h : A = q
      · rw [if_pos h]; exact Or.inl rfl
      · rw [if_neg h]
        rcases hA with h5 | h5 | h5
        · exact Or.inl h5
        · exact Or.inr h5
        · exact absurd h5 h
    have hl := hk.1 _ _ _ (w P hP) (w Q hQ) (w R hR)
    rw [zkC_split f h0 h64 hq P Q R]
    by_cases hT : nT P Q R q = 0
    · rw [hT, Nat.xor_zero] at p2
      rw [hT, h0, Nat.zero_add, p2]
      exact Nat.le_trans (h1 _ (p2 ▸ p4)) hl
    · have := h2 _ _ p4 p3 (Nat.pos_of_ne_zero hT) p1
      rw [p2] at this
      omega
  · intro M hM
    rcases h3 M hM with e | ⟨T, hT, hT0, hs, e⟩
    · rcases hk.2.2 M hM with g | ⟨P, Q, R, a, b, c, d, g⟩
      · exact Or.inl (e.trans g)
      · have w : ∀ A, zkO O A → zkO (fun x => O x ∨ x = q) A := fun A hA => hA.elim Or.inl (fun h => Or.inr (Or.inl h))
        exact Or.inr ⟨P, Q, R, w P a, w Q b, w R c, d, e.trans g⟩
    · have hx : M ^^^ T < 8 := Nat.xor_lt_two_pow (n := 3) hM hT
      rcases hk.2.2 (M ^^^ T) hx with g | ⟨P, Q, R, a, b, c, d, g⟩
      · have := h1 M hM
        have := hk.2.1 M hM
        exact Or.inl (by omega)
      · have hd := zkd2 (!decide (P = 64)) (!decide (Q = 64)) (!decide (R = 64)) ⟨T, hT⟩ ⟨M, hM⟩
        have hm : ((if (!decide (P = 64)) then 1 else 0) + (if (!decide (Q = 64)) then 2 else 0) + (if (!decide (R = 64)) then 4 else 0) : Nat) = M ^^^ T := by
          rw [← d]
          unfold zkM
          have w : ∀ A y : Nat, (if (!decide (A = 64)) = true then y else 0) = (if A = 64 then 0 else y) := fun A y => by by_cases h : A = 64 <;> simp [h]
          rw [w, w, w]
        obtain ⟨d1, d2, d3, d4⟩ := hd hm hs
        have u : ∀ A : Nat, (!decide (A = 64)) = false → A = 64 := fun A h => by simpa using h
        obtain ⟨a1, a2, a3, a4⟩ := zk_join (b := nBit T 0) hq hO a (fun h => u P (d1 h))
        obtain ⟨b1, b2, b3, b4⟩ := zk_join (b := nBit T 1) hq hO b (fun h => u Q (d2 h))
        obtain ⟨c1, c2, c3, c4⟩ := zk_join (b := nBit T 2) hq hO c (fun h => u R (d3 h))
        refine Or.inr ⟨_, _, _, a1, b1, c1, ?_, ?_⟩
        · unfold zkM
          rw [a4, b4, c4]
          exact d4
        · rw [zkC_split f h0 h64 hq, a2, b2, c2]
          unfold nT
          rw [a3, b3, c3, zkd3 ⟨T, hT⟩, e, g]
          exact Nat.add_comm _ _
theorem ZKI.first {f : Nat → Nat → Nat} {K : Nat → Nat} (h0 : ∀ x, f x 0 = 0) (h64 : ∀ T, f 64 T = 0) (k0 : K 0 = 0) (k1 : ∀ M, 0 < M → M < 8 → K M = 536870912) : ZKI f (fun _ => False) K := by
  refine ⟨?_, ?_, ?_⟩
  · intro P Q R hP hQ hR
    rcases hP with rfl | h
    · rcases hQ with rfl | h
      · rcases hR with rfl | h
        · have : zkM 64 64 64 = 0 := rfl
          rw [this, k0]
          exact Nat.zero_le _
        · exact h.elim
      · exact h.elim
    · exact h.elim
  · intro M hM
    by_cases h : M = 0
    · rw [h, k0]; exact Nat.zero_le _
    · rw [k1 M (by omega) hM]; exact Nat.le_refl _
  · intro M hM
    by_cases h : M = 0
    · refine Or.inr ⟨64, 64, 64, Or.inl rfl, Or.inl rfl, Or.inl rfl, ?_, ?_⟩
      · rw [h]; rfl
      · rw [h, k0, zkC_none f h0 h64]
    · exact Or.inl (k1 M (by omega) hM)
theorem ZKI.cong {f : Nat → Nat → Nat} {O O' : Nat → Prop} {K : Nat → Nat} (h : ∀ x, O x ↔ O' x) (hk : ZKI f O K) : ZKI f O' K := by
  have : O = O' := funext fun x => propext (h x)
  exact this ▸ hk
theorem ZKI.cong2 {f : Nat → Nat → Nat} {O : Nat → Prop} {K K' : Nat → Nat} (h : ∀ M, M < 8 → K' M = K M) (hk : ZKI f O K) : ZKI f O K' := by
  have hm : ∀ P Q R, zkM P Q R < 8 := fun P Q R => (zk_parts (q := 0) (by decide) P Q R).2.2.2
  refine ⟨fun P Q R a b c => ?_, fun M hM => ?_, fun M hM => ?_⟩
  · rw [h _ (hm P Q R)]; exact hk.1 P Q R a b c
  · rw [h M hM]; exact hk.2.1 M hM
  · rw [h M hM]; exact hk.2.2 M hM
/-- the weight of a set's spots in a key, and what a set pays at a spot, as a key -/
def nW (T : Nat) : Nat := (if nBit T 0 = true then 4096 else 0) + (if nBit T 1 = true then 64 else 0) + (if nBit T 2 = true then 1 else 0)
def zkF (v : gV0) (hm k x T : Nat) : Nat := if x = 64 then 0 else nDuty v hm (x / 10) k (x % 10) T * 262144 + x * nW T
theorem zkF_0 (v : gV0) (hm k x : Nat) : zkF v hm k x 0 = 0 := by
  have : nW 0 = 0 := by decide
  unfold zkF
  rw [nDuty_0, this]
  by_cases h : x = 64
  · rw [if_pos h]
  · rw [if_neg h]; omega
theorem zkF_64 (v : gV0) (hm k T : Nat) : zkF v hm k 64 T = 0 := if_pos rfl
def zkKey (v : gV0) (hm k P Q R : Nat) : Nat := nPaid v hm k P Q R * 262144 + (P * 4096 + Q * 64 + R)
theorem zkC_key (v : gV0) (hm k : Nat) {P Q R : Nat} (hP : P < 64) (hQ : Q < 64) (hR : R < 64) : zkC (zkF v hm k) P Q R = zkKey v hm k P Q R := by
  have h1 : ¬ P = 64 := by omega
  have h2 : ¬ Q = 64 := by omega
  have h3 : ¬ R = 64 := by omega
  have w1 : nW 1 = 4096 := by decide
  have w2 : nW 2 = 64 := by decide
  have w3 : nW 3 = 4160 := by decide
  have w4 : nW 4 = 1 := by decide
  have w5 : nW 5 = 4097 := by decide
  have w6 : nW 6 = 65 := by decide
  have w7 : nW 7 = 4161 := by decide
  unfold zkC
  rw [sum_three (fun x T => zkF v hm k x T) (fun x => zkF_0 v hm k x) hP hQ hR]
  unfold zkKey nPaid zkF
  rw [if_neg h1, if_neg h2, if_neg h3]
  by_cases c1 : Q = P
  · subst c1
    by_cases c2 : R = Q
    · subst c2
      simp only [if_true, Nat.reduceAdd, w7]
      omega
    · simp only [c2, if_true, if_false, Nat.reduceAdd, w3, w4]
      omega
  · by_cases c2 : R = P
    · subst c2
      have c3 : ¬ R = Q := fun h => c1 h.symm
      simp only [c1, c3, if_true, if_false, Nat.reduceAdd, w5, w2]
      omega
    · by_cases c3 : R = Q
      · subst c3
        simp only [c1, if_true, if_false, Nat.reduceAdd, w1, w6]
        omega
      · simp only [c1, c2, c3, if_true, if_false, Nat.reduceAdd, w1, w2, w4]
        omega
