/-! LEAST: what the class holds -/
theorem zkW : ∀ T : Fin 8, nW T.val ≤ 4161 := by decide +kernel
theorem zk_keyOf_step {T t n q : Nat} (a : Nat) (hT : T < 8) (ht : t < 3) (hq : q < 64) : ct_keyOf_b8 (n + 1) (nI T) (nI q) (nI a) (nI t) = ct_keyOf_b8 n (nI T) (nI q) (nI (a + if nBit T t = true then q * 2 ^ (6 * (2 - t)) else 0)) (nI (t + 1)) := by
  rw [ct_keyOf_b8]
  have e3 : ¬ (3 : Int32) ≤ nI t := by have : (3 : Int32) = nI 3 := rfl; rw [this]; exact nI_ge ht (by decide)
  rw [if_neg e3]
  have hb := bit_c ⟨T, hT⟩ ⟨t, ht⟩
  by_cases h : nBit T t = true
  · rw [if_neg (fun q => (hb.mp q) h), if_pos h]
    have es : nI q <<< (((6 : Int32) * ((2 : Int32) - nI t)) &&& 31) = nI (q * 2 ^ (6 * (2 - t))) := by
      rcases (show t = 0 ∨ t = 1 ∨ t = 2 by omega) with rfl | rfl | rfl
      · exact pk_shlN _ 12 (by decide) (by omega)
      · exact pk_shlN _ 6 (by decide) (by omega)
      · exact pk_shlN _ 0 (by decide) (by omega)
    simp only [ct_spotShift, gB1_some, gLet, ct_keyOf_b33, es, nI_add, nI_1]
  · rw [if_pos (hb.mpr h), if_neg h]
    simp only [ct_keyOf_b33, nI_1, Nat.add_zero]
theorem zk_keyOf {p T q : Nat} (hp : p ≤ 480) (hT : T < 8) (hq : q < 64) : ct_keyOf (nI p) (nI T) (nI q) = some (nI (p * 262144 + q * nW T)) := by
  have es : nI p <<< ((18 : Int32) &&& 31) = nI (p * 2 ^ 18) := pk_shlN _ 18 (by decide) (by omega)
  unfold ct_keyOf
  have e0 : (0 : Int32) = nI 0 := rfl
  simp only [gLet]
  rw [es, e0, show (1000 : Nat) = 996 + 1 + 1 + 1 + 1 from rfl, zk_keyOf_step _ hT (by decide) hq, zk_keyOf_step _ hT (by decide) hq, zk_keyOf_step _ hT (by decide) hq, ct_keyOf_b8, if_pos (by decide)]
  refine congrArg (fun z => some (nI z)) ?_
  unfold nW
  simp only [Nat.zero_add, Nat.reduceAdd, Nat.reduceSub, Nat.reduceMul, Nat.reducePow]
  by_cases b0 : nBit T 0 = true <;> by_cases b1 : nBit T 1 = true <;> by_cases b2 : nBit T 2 = true <;> simp only [b0, b1, b2, if_true, if_false, Bool.false_eq_true] <;> omega
def ZP8 (X X' : gC) : Prop := X'.1.1 = X.1.1 ∧ X'.2 = X.2 ∧ ∀ b, b ≠ 8 → X'.1.2 b = X.1.2 b
theorem ZP8.refl (X : gC) : ZP8 X X := ⟨rfl, rfl, fun _ _ => rfl⟩
theorem ZP8.trans {X Y Z : gC} (h : ZP8 X Y) (k : ZP8 Y Z) : ZP8 X Z := ⟨k.1.trans h.1, k.2.1.trans h.2.1, fun b hb => (k.2.2 b hb).trans (h.2.2 b hb)⟩
theorem ZP8.CK {X X' : gC} (h : ZP8 X X') : CK X X' := ⟨fun _ _ => by rw [h.1], h.2.1, fun b hb => h.2.2 b (by omega)⟩
theorem zkx : ∀ M T : Fin 8, ((nI T.val &&& nI M.val) = nI T.val ↔ T.val &&& M.val = T.val) ∧ nI M.val ^^^ nI T.val = nI (M.val ^^^ T.val) ∧ (0 < T.val → T.val &&& M.val = T.val → M.val ^^^ T.val < M.val ∧ T.val ≤ M.val) := by decide +kernel
theorem zk_inner {G S g q M : Nat} {c K : Nat → Nat} (hg : g < 5) (hq : q < 64) (hM : M < 8) (hc : ∀ T, T < 8 → c T ≤ 480) (hK : ∀ j, j < M → K j ≤ 536870912) (lp3 : Int32 → Int32 → Int32 → gC → Option (Unit × gC)) : ∀ (m T n a : Nat) (X : gC), T + m = M + 1 → 0 < T → m < n → a ≤ 536870912 → (∀ T, T < 8 → X.1.2 7 (8 * g + T) = nI (c T)) → (∀ j, j < M → X.1.2 8 j = nI (K j)) → X.1.2 8 M = nI a → ∃ (X' : gC) (y : Nat), ct_openSpot_b10 G S lp3 n (nI g) (nI q) (nI M) (nI T) X = lp3 (nI g) (nI q) (nI M + (-1)) X' ∧ ZP8 X X' ∧ (∀ j, j ≠ M → X'.1.2 8 j = X.1.2 8 j) ∧ X'.1.2 8 M = nI y ∧ y ≤ a ∧ (∀ U, T ≤ U → U < 8 → U &&& M = U → y ≤ K (M ^^^ U) + (c U * 262144 + q * nW U)) ∧ (y = a ∨ ∃ U, T ≤ U ∧ U < 8 ∧ U &&& M = U ∧ y = K (M ^^^ U) + (c U * 262144 + q * nW U)) := by
  intro m
  induction m with
  | zero =>
    intro T n a X hT hT0 hn ha h7 h8 hM8
    obtain ⟨n, rfl⟩ : ∃ q, n = q + 1 := ⟨n - 1, by omega⟩
    refine ⟨X, a, ?_, ZP8.refl X, fun _ _ => rfl, hM8, Nat.le_refl _, fun U h1 h2 h3 => ?_, Or.inl rfl⟩
    · unfold ct_openSpot_b10
      rw [if_pos (nI_lt (by omega) (by omega))]
    · have h5 : U ≤ M := ((zkx ⟨M, hM⟩ ⟨U, h2⟩).2.2 (show 0 < U by omega) h3).2
      omega
  | succ m ih =>
    intro T n a X hT hT0 hn ha h7 h8 hM8
    obtain ⟨n, rfl⟩ : ∃ q, n = q + 1 := ⟨n - 1, by omega⟩
    have hT8 : T < 8 := by omega
    have z1 : (nI T &&& nI M) = nI T ↔ T &&& M = T := (zkx ⟨M, hM⟩ ⟨T, hT8⟩).1
    have z2 : nI M ^^^ nI T = nI (M ^^^ T) := (zkx ⟨M, hM⟩ ⟨T, hT8⟩).2.1
    have e8 : nI g * 8 + nI T = nI (8 * g + T) := by rw [show (8 : Int32) = nI 8 from rfl, pk_mul, nI_add, Nat.mul_comm]
    by_cases hs : T &&& M = T
    · have hlt : M ^^^ T < M := ((zkx ⟨M, hM⟩ ⟨T, hT8⟩).2.2 hT0 hs).1
      have hkb := hK _ hlt
      have hcb := hc T hT8
      have hwb : nW T ≤ 4161 := zkW ⟨T, hT8⟩
      have hqw : q * nW T ≤ 63 * 4161 := Nat.mul_le_mul (by omega) hwb
      obtain ⟨y0, hy0⟩ : ∃ y0, y0 = K (M ^^^ T) + (c T * 262144 + q * nW T) := ⟨_, rfl⟩
      have hyb : y0 < 2 ^ 31 := by omega
      obtain ⟨a', ha'⟩ : ∃ a', a' = if y0 < a then y0 else a := ⟨_, rfl⟩
      have haa : a' ≤ a ∧ a' ≤ y0 ∧ (a' = a ∨ a' = y0) := by
        rw [ha']
        by_cases h : y0 < a
        · rw [if_pos h]; omega
        · rw [if_neg h]; omega
      obtain ⟨X', y, g1, g2, g3, g4, g5, g6, g7⟩ := ih (T + 1) n a' (sA X.1 8 M (nI a'), X.2) (by omega) (by omega) (by omega) (by omega) (fun U hU => by rw [show (sA X.1 8 M (nI a'), X.2).1.2 7 = X.1.2 7 from sA_k (by decide)]; exact h7 U hU) (fun j hj => by rw [show (sA X.1 8 M (nI a'), X.2).1.2 8 j = X.1.2 8 j from sA_i (by omega)]; exact h8 j hj) sA_s
      refine ⟨X', y, ?_, ⟨g2.1, g2.2.1, fun b hb => (g2.2.2 b hb).trans (sA_k hb)⟩, fun j hj => (g3 j hj).trans (sA_i hj), g4, by omega, ?_, ?_⟩
      · unfold ct_openSpot_b10
        rw [if_neg (nI_nlt (by omega) (by omega)), if_pos (z1.mpr hs)]
        have ek := zk_keyOf hcb hT8 hq
        have em : (if nI y0 < nI a then nI y0 else nI a) = nI a' := by
          rw [ha']
          by_cases h : y0 < a
          · rw [if_pos h, if_pos (nI_lt h (by omega))]
          · rw [if_neg h, if_neg (nI_nlt (by omega) (by omega))]
        simp only [z2, e8, gin_of (show M ^^^ T < 8 by omega) (by decide), gin_of (show 8 * g + T < 40 by omega) (by decide), gin_of hM (by decide), if_true, nI_clamp (show 8 * g + T < 2 ^ 31 by omega), nI_clamp (show M ^^^ T < 2 ^ 31 by omega), nI_clamp (show M < 2 ^ 31 by omega), h7 T hT8, ek, gB1_some, gLet, h8 _ hlt, nI_add, ← hy0, hM8, em, ct_openSpot_b72, nI_1]
        exact g1
      · intro U u1 u2 u3
        by_cases hu : U = T
        · rw [hu]; omega
        · exact g6 U (by omega) u2 u3
      · rcases g7 with h | ⟨U, u1, u2, u3, u4⟩
        · rcases haa.2.2 with h5 | h5
          · exact Or.inl (h.trans h5)
          · exact Or.inr ⟨T, Nat.le_refl _, hT8, hs, by omega⟩
        · exact Or.inr ⟨U, by omega, u2, u3, u4⟩
    · obtain ⟨X', y, g1, g2, g3, g4, g5, g6, g7⟩ := ih (T + 1) n a X (by omega) (by omega) (by omega) ha h7 h8 hM8
      refine ⟨X', y, ?_, g2, g3, g4, g5, ?_, ?_⟩
      · unfold ct_openSpot_b10
        rw [if_neg (nI_nlt (by omega) (by omega)), if_neg (fun h => hs (z1.mp h))]
        simp only [ct_openSpot_b72, nI_1]
        exact g1
      · intro U u1 u2 u3
        by_cases hu : U = T
        · rw [hu] at u3; exact absurd u3 hs
        · exact g6 U (by omega) u2 u3
      · rcases g7 with h | ⟨U, u1, u2, u3, u4⟩
        · exact Or.inl h
        · exact Or.inr ⟨U, by omega, u2, u3, u4⟩
theorem zk_outer {G S g q : Nat} {c K : Nat → Nat} (hg : g < 5) (hq : q < 64) (hc : ∀ T, T < 8 → c T ≤ 480) (hK : ∀ j, j < 8 → K j ≤ 536870912) : ∀ (M n : Nat) (X : gC), M < 8 → M < n → (∀ T, T < 8 → X.1.2 7 (8 * g + T) = nI (c T)) → (∀ j, j ≤ M → X.1.2 8 j = nI (K j)) → ∃ (X' : gC) (K' : Nat → Nat), ct_openSpot_b3 G S n (nI g) (nI q) (nI M) X = some ((), X') ∧ ZP8 X X' ∧ (∀ j, M < j → X'.1.2 8 j = X.1.2 8 j) ∧ ∀ j, j ≤ M → X'.1.2 8 j = nI (K' j) ∧ K' j ≤ K j ∧ (∀ T, T < 8 → 0 < T → T &&& j = T → K' j ≤ K (j ^^^ T) + (c T * 262144 + q * nW T)) ∧ (K' j = K j ∨ ∃ T, T < 8 ∧ 0 < T ∧ T &&& j = T ∧ K' j = K (j ^^^ T) + (c T * 262144 + q * nW T)) := by
  intro M
  induction M with
  | zero =>
    intro n X hM hn h7 h8
    obtain ⟨n, rfl⟩ : ∃ q, n = q + 1 := ⟨n - 1, by omega⟩
    refine ⟨X, K, ?_, ZP8.refl X, fun _ _ => rfl, fun j hj => ⟨h8 j hj, Nat.le_refl _, fun T hT hT0 hs => ?_, Or.inl rfl⟩⟩
    · unfold ct_openSpot_b3
      rw [if_pos (by decide)]
    · have : j = 0 := by omega
      rw [this, Nat.and_zero] at hs
      omega
  | succ M ih =>
    intro n X hM hn h7 h8
    obtain ⟨n, rfl⟩ : ∃ q, n = q + 1 := ⟨n - 1, by omega⟩
    obtain ⟨X1, y, a1, a2, a3, a4, a5, a6, a7⟩ := zk_inner (G := G) (S := S) (c := c) (K := K) hg hq hM hc (fun j hj => hK j (by omega)) (ct_openSpot_b3 G S n) (M + 1) 1 1000 (K (M + 1)) X (by omega) (by decide) (by omega) (hK _ hM) h7 (fun j hj => h8 j (by omega)) (h8 _ (Nat.le_refl _))
    obtain ⟨X2, K', b1, b2, b3, b4⟩ := ih n X1 (by omega) (by omega) (fun T hT => by rw [a2.2.2 7 (by decide)]; exact h7 T hT) (fun j hj => by rw [a3 j (by omega)]; exact h8 j (by omega))
    refine ⟨X2, fun j => if j = M + 1 then y else K' j, ?_, a2.trans b2, fun j hj => (b3 j (by omega)).trans (a3 j (by omega)), fun j hj => ?_⟩
    · unfold ct_openSpot_b3
      rw [if_neg (nI_nle (by omega) (by omega))]
      refine a1.trans ?_
      rw [pk_m1]
      exact b1
    · by_cases e : j = M + 1
      · simp only [e, if_true]
        exact ⟨(b3 _ (by omega)).trans a4, a5, fun T hT hT0 hs => a6 T (by omega) hT hs, a7.elim Or.inl (fun ⟨U, u1, u2, u3, u4⟩ => Or.inr ⟨U, u2, by omega, u3, u4⟩)⟩
      · simp only [e, if_false]
        exact b4 j (by omega)
def zkOp (G : Nat) (v : gV0) (k : Nat) (sx : Int32) (d x : Nat) : Prop := x % 10 < d ∧ v 5 k ≤ x % 10 ∧ x / 10 < G ∧ ¬ nI (x / 10) = sx
def zkOg (G : Nat) (v : gV0) (k : Nat) (sx : Int32) (d g x : Nat) : Prop := zkOp G v k sx d x ∨ (x % 10 = d ∧ x / 10 < g ∧ ¬ nI (x / 10) = sx)
theorem zkOg_skip {G : Nat} {v : gV0} {k d g : Nat} {sx : Int32} (hs : nI g = sx) (x : Nat) : zkOg G v k sx d g x ↔ zkOg G v k sx d (g + 1) x := by
  unfold zkOg
  constructor
  · rintro (h | ⟨a, b, c⟩)
    · exact Or.inl h
    · exact Or.inr ⟨a, by omega, c⟩
  · rintro (h | ⟨a, b, c⟩)
    · exact Or.inl h
    · have : x / 10 ≠ g := fun h => c (by rw [h]; exact hs)
      exact Or.inr ⟨a, by omega, c⟩
theorem zkOg_open {G : Nat} {v : gV0} {k d g : Nat} {sx : Int32} (hd : d ≤ 7) (hs : ¬ nI g = sx) (x : Nat) : (zkOg G v k sx d g x ∨ x = 10 * g + d) ↔ zkOg G v k sx d (g + 1) x := by
  unfold zkOg
  constructor
  · rintro ((h | ⟨a, b, c⟩) | h)
    · exact Or.inl h
    · exact Or.inr ⟨a, by omega, c⟩
    · have : x / 10 = g := by omega
      exact Or.inr ⟨by omega, by omega, by rw [this]; exact hs⟩
  · rintro (h | ⟨a, b, c⟩)
    · exact Or.inl (Or.inl h)
    · by_cases h : x / 10 = g
      · exact Or.inr (by omega)
      · exact Or.inl (Or.inr ⟨a, by omega, c⟩)
theorem zkOg_new {G : Nat} {v : gV0} {k d g : Nat} {sx : Int32} (hd : d ≤ 7) : ¬ zkOg G v k sx d g (10 * g + d) := by
  rintro (⟨h, _⟩ | ⟨_, h, _⟩) <;> omega
theorem zkOg_0 {G : Nat} {v : gV0} {k d : Nat} {sx : Int32} (x : Nat) : zkOp G v k sx d x ↔ zkOg G v k sx d 0 x := by
  unfold zkOg
  exact ⟨Or.inl, fun h => h.elim id (fun h => absurd h.2.1 (Nat.not_lt_zero _))⟩
theorem zkOg_G {G : Nat} {v : gV0} {k d : Nat} {sx : Int32} (hbd : v 5 k ≤ d) (x : Nat) : zkOg G v k sx d G x ↔ zkOp G v k sx (d + 1) x := by
  unfold zkOg zkOp
  constructor
  · rintro (⟨a, b, c, e⟩ | ⟨a, b, c⟩)
    · exact ⟨by omega, b, c, e⟩
    · exact ⟨by omega, by omega, b, c⟩
  · rintro ⟨a, b, c, e⟩
    by_cases h : x % 10 = d
    · exact Or.inr ⟨h, c, e⟩
    · exact Or.inl ⟨by omega, b, c, e⟩
theorem zkOp_lt {G : Nat} {v : gV0} {k d x : Nat} {sx : Int32} (hG : G ≤ 5) (hd : d ≤ 8) (h : zkOp G v k sx d x) : x < 50 := by
  obtain ⟨a, b, c, e⟩ := h
  omega
theorem zk_gates {G S : Nat} {v : gV0} {hm cnt k d : Nat} {sx : Int32} (hB : RB G S v hm cnt) (hk : k < S) (hd : d ≤ 7) : ∀ (m g n : Nat) (X : gC) (K : Nat → Nat), g + m = G → m < n → (∀ g T, g < G → T < 8 → X.1.2 7 (8 * g + T) = nI (nDuty v hm g k d T)) → (∀ j, j < 8 → X.1.2 8 j = nI (K j)) → ZKI (zkF v hm k) (zkOg G v k sx d g) K → ∃ (X' : gC) (K' : Nat → Nat), ct_openDay_b9 G S n (nI d) sx (nI g) X = some ((), X') ∧ ZP8 X X' ∧ (∀ j, j < 8 → X'.1.2 8 j = nI (K' j)) ∧ ZKI (zkF v hm k) (zkOg G v k sx d G) K' := by
  have hG := hB.1
  intro m
  induction m with
  | zero =>
    intro g n X K hg hn h7 h8 hI
    obtain ⟨n, rfl⟩ : ∃ q, n = q + 1 := ⟨n - 1, by omega⟩
    have : g = G := by omega
    subst this
    refine ⟨X, K, ?_, ZP8.refl X, h8, hI⟩
    unfold ct_openDay_b9
    rw [if_pos (nI_le (by omega) (by omega))]
  | succ m ih =>
    intro g n X K hg hn h7 h8 hI
    obtain ⟨n, rfl⟩ : ∃ q, n = q + 1 := ⟨n - 1, by omega⟩
    by_cases hs : nI g = sx
    · obtain ⟨X', K', a1, a2, a3, a4⟩ := ih (g + 1) n X K (by omega) (by omega) h7 h8 (hI.cong (zkOg_skip hs))
      refine ⟨X', K', ?_, a2, a3, a4⟩
      unfold ct_openDay_b9
      rw [if_neg (nI_ge (by omega) (by omega)), if_pos hs]
      simp only [ct_openDay_b38, nI_1]
      exact a1
    · obtain ⟨X1, K1, b1, b2, b3, b4⟩ := zk_outer (G := G) (S := S) (g := g) (q := 10 * g + d) (c := fun T => nDuty v hm g k d T) (K := K) (by omega) (by omega) (fun T hT => nDuty_le hB (by omega) hk) (fun j hj => hI.2.1 j hj) 7 1000 X (by decide) (by decide) (fun T hT => h7 g T (by omega) hT) (fun j hj => h8 j (by omega))
      have eF : ∀ T, nDuty v hm g k d T * 262144 + (10 * g + d) * nW T = zkF v hm k (10 * g + d) T := fun T => by
        unfold zkF
        have e1 : (10 * g + d) / 10 = g := by omega
        have e2 : (10 * g + d) % 10 = d := by omega
        rw [if_neg (by omega), e1, e2]
      have hI1 : ZKI (zkF v hm k) (zkOg G v k sx d (g + 1)) K1 := by
        refine (ZKI.step (zkF_0 v hm k) (zkF_64 v hm k) (q := 10 * g + d) (by omega) (zkOg_new hd) hI (fun M hM => (b4 M (by omega)).2.1) (fun M T hM hT hT0 hs => ?_) (fun M hM => ?_)).cong (zkOg_open hd hs)
        · rw [← eF]
          exact (b4 M (by omega)).2.2.1 T hT hT0 hs
        · rcases (b4 M (by omega)).2.2.2 with h | ⟨T, t1, t2, t3, t4⟩
          · exact Or.inl h
          · exact Or.inr ⟨T, t1, t2, t3, by rw [← eF]; exact t4⟩
      obtain ⟨X', K', a1, a2, a3, a4⟩ := ih (g + 1) n X1 K1 (by omega) (by omega) (fun g T hg hT => by rw [b2.2.2 7 (by decide)]; exact h7 g T hg hT) (fun j hj => (b4 j (by omega)).1) hI1
      refine ⟨X', K', ?_, b2.trans a2, a3, a4⟩
      unfold ct_openDay_b9
      have bb : ct_openSpot G S X (nI g) (nI (10 * g + d)) = some ((), X1) := b1
      rw [if_neg (nI_ge (by omega) (by omega)), if_neg hs, ix10, bb]
      simp only [gB2_some, ct_openDay_b38, nI_1]
      exact a1
theorem zk_day {G S : Nat} {X : gC} {μ : gS} {v : gV0} {hm cnt k d : Nat} {sx : Int32} {K : Nat → Nat} (hB : RB G S v hm cnt) (hC : RC G S X v hm cnt) (hM : RM G S μ v hm cnt) (hk : k < S) (hd : d ≤ 7) (hbd : v 5 k ≤ d) (h8 : ∀ j, j < 8 → X.1.2 8 j = nI (K j)) (hI : ZKI (zkF v hm k) (zkOp G v k sx d) K) : ∃ (X' : gC) (K' : Nat → Nat), ct_openDay G S X k (nI d) sx = some ((), X') ∧ CK X X' ∧ (∀ j, j < 8 → X'.1.2 8 j = nI (K' j)) ∧ ZKI (zkF v hm k) (zkOp G v k sx (d + 1)) K' := by
  have hG := hB.1
  obtain ⟨X1, p1, p2, p3⟩ := prices_nat hB hC hM hk hd hbd
  obtain ⟨X2, K', a1, a2, a3, a4⟩ := zk_gates (sx := sx) hB hk hd G 0 1000 X1 K (by omega) (by omega) p3 (fun j hj => by rw [p2.2.2 8 (by decide)]; exact h8 j hj) (hI.cong zkOg_0)
  refine ⟨X2, K', ?_, p2.CK.trans a2.CK, a3, a4.cong (zkOg_G hbd)⟩
  unfold ct_openDay
  rw [p1]
  exact a1
theorem zk_forget (G S : Nat) (X : gC) : ∃ X', ct_forgetKeys G S X = some ((), X') ∧ CK X X' ∧ ∀ j, j < 8 → X'.1.2 8 j = nI (if j = 0 then 0 else 536870912) := by
  refine ⟨(sA (sR X.1 8 (fun j => if j < 8 then (536870912 : Int32) else X.1.2 8 j)) 8 0 0, X.2), rfl, ?_, ?_⟩
  · exact (CK.row X 8 _ (by decide)).trans (CK.arr (sR X.1 8 (fun j => if j < 8 then (536870912 : Int32) else X.1.2 8 j), X.2) 8 0 0 (by decide))
  · intro j hj
    by_cases h : j = 0
    · rw [if_pos h, h]
      exact sA_s
    · refine (sA_i h).trans ?_
      rw [sR_s, if_neg h]
      show (if j < 8 then (536870912 : Int32) else X.1.2 8 j) = _
      rw [if_pos hj]
      rfl
theorem zk_first {G : Nat} {v : gV0} {hm k : Nat} {sx : Int32} : ZKI (zkF v hm k) (zkOp G v k sx (v 5 k)) (fun j => if j = 0 then 0 else 536870912) := by
  have h1 : ZKI (zkF v hm k) (fun _ => False) (fun j => if j = 0 then 0 else 536870912) := ZKI.first (zkF_0 v hm k) (zkF_64 v hm k) (if_pos rfl) (fun M h _ => by
    show (if M = 0 then 0 else 536870912) = 536870912
    rw [if_neg (by omega)])
  refine h1.cong fun x => ⟨fun h => False.elim h, fun h => ?_⟩
  obtain ⟨a, b, _⟩ := h
  omega
def zkBest (G : Nat) (v : gV0) (hm k : Nat) (sx : Int32) (D y : Nat) : Prop := y ≤ 536870912 ∧ (∀ P Q R, zkOp G v k sx (D + 1) P → zkOp G v k sx (D + 1) Q → zkOp G v k sx (D + 1) R → y ≤ zkKey v hm k P Q R) ∧ (y = 536870912 ∨ ∃ P Q R, zkOp G v k sx (D + 1) P ∧ zkOp G v k sx (D + 1) Q ∧ zkOp G v k sx (D + 1) R ∧ y = zkKey v hm k P Q R)
theorem zkM_7 {P Q R : Nat} (hP : ¬ P = 64) (hQ : ¬ Q = 64) (hR : ¬ R = 64) : zkM P Q R = 7 := by
  unfold zkM
  rw [if_neg hP, if_neg hQ, if_neg hR]
theorem zkM_7' {P Q R : Nat} (h : zkM P Q R = 7) : ¬ P = 64 ∧ ¬ Q = 64 ∧ ¬ R = 64 := by
  unfold zkM at h
  by_cases a : P = 64
  · rw [if_pos a] at h
    split at h <;> split at h <;> omega
  · by_cases b : Q = 64
    · rw [if_pos b] at h
      split at h <;> split at h <;> omega
    · by_cases c : R = 64
      · rw [if_neg a, if_neg b, if_pos c] at h
        omega
      · exact ⟨a, b, c⟩
theorem ZKI.best {G : Nat} {v : gV0} {hm k D : Nat} {sx : Int32} {K : Nat → Nat} (hG : G ≤ 5) (hD : D ≤ 7) (h : ZKI (zkF v hm k) (zkOp G v k sx (D + 1)) K) : zkBest G v hm k sx D (K 7) := by
  refine ⟨h.2.1 7 (by decide), fun P Q R hP hQ hR => ?_, ?_⟩
  · have lP := zkOp_lt hG (by omega) hP
    have lQ := zkOp_lt hG (by omega) hQ
    have lR := zkOp_lt hG (by omega) hR
    have := h.1 P Q R (Or.inr hP) (Or.inr hQ) (Or.inr hR)
    rw [zkM_7 (by omega) (by omega) (by omega), zkC_key v hm k (by omega) (by omega) (by omega)] at this
    exact this
  · rcases h.2.2 7 (by decide) with e | ⟨P, Q, R, hP, hQ, hR, hm7, e⟩
    · exact Or.inl e
    · obtain ⟨a, b, c⟩ := zkM_7' hm7
      have hP := hP.resolve_left a
      have hQ := hQ.resolve_left b
      have hR := hR.resolve_left c
      have lP := zkOp_lt hG (by omega) hP
      have lQ := zkOp_lt hG (by omega) hQ
      have lR := zkOp_lt hG (by omega) hR
      rw [zkC_key v hm k (by omega) (by omega) (by omega)] at e
      exact Or.inr ⟨P, Q, R, hP, hQ, hR, e⟩
theorem zk_days {G S : Nat} {μ : gS} {v : gV0} {hm cnt k D : Nat} {sx : Int32} (hB : RB G S v hm cnt) (hM : RM G S μ v hm cnt) (hk : k < S) (hD : D ≤ 7) : ∀ (m d n : Nat) (X : gC) (K : Nat → Nat), d + m = D + 1 → m < n → v 5 k ≤ d → RC G S X v hm cnt → (∀ j, j < 8 → X.1.2 8 j = nI (K j)) → ZKI (zkF v hm k) (zkOp G v k sx d) K → ∃ (X' : gC) (K' : Nat → Nat), ct_leastKey_b10 G S n k (nI D) sx (nI d) X = some (nI (K' 7), X') ∧ CK X X' ∧ ZKI (zkF v hm k) (zkOp G v k sx (D + 1)) K' := by
  intro m
  induction m with
  | zero =>
    intro d n X K hd hn hb hC h8 hI
    obtain ⟨n, rfl⟩ : ∃ q, n = q + 1 := ⟨n - 1, by omega⟩
    have : d = D + 1 := by omega
    subst this
    refine ⟨X, K, ?_, CK.refl X, hI⟩
    unfold ct_leastKey_b10
    have e7 : (7 : Int32).toNatClampNeg = 7 := by decide
    rw [if_pos (nI_lt (by omega) (by omega)), e7, h8 7 (by decide)]
  | succ m ih =>
    intro d n X K hd hn hb hC h8 hI
    obtain ⟨n, rfl⟩ : ∃ q, n = q + 1 := ⟨n - 1, by omega⟩
    obtain ⟨X1, K1, a1, a2, a3, a4⟩ := zk_day hB hC hM hk (show d ≤ 7 by omega) hb h8 hI
    obtain ⟨X2, K2, b1, b2, b3⟩ := ih (d + 1) n X1 K1 (by omega) (by omega) (by omega) (a2.RC hC) a3 a4
    refine ⟨X2, K2, ?_, a2.trans b2, b3⟩
    unfold ct_leastKey_b10
    rw [if_neg (nI_nlt (by omega) (by omega)), a1]
    simp only [gB2_some, nI_1]
    exact b1
theorem zk_leastKey {G S : Nat} {X : gC} {μ : gS} {v : gV0} {hm cnt k D : Nat} (sx : Int32) (hB : RB G S v hm cnt) (hC : RC G S X v hm cnt) (hM : RM G S μ v hm cnt) (hk : k < S) (hD : D ≤ 7) (hbd : v 5 k ≤ D) : ∃ (X' : gC) (y : Nat), ct_leastKey G S X k (nI D) sx = some (nI y, X') ∧ CK X X' ∧ zkBest G v hm k sx D y := by
  obtain ⟨X1, a1, a2, a3⟩ := zk_forget G S X
  obtain ⟨X2, K, b1, b2, b3⟩ := zk_days (sx := sx) hB hM hk hD (D + 1 - v 5 k) (v 5 k) 1000 X1 (fun j => if j = 0 then 0 else 536870912) (by omega) (by omega) (Nat.le_refl _) (a2.RC hC) a3 zk_first
  refine ⟨X2, K 7, ?_, a2.trans b2, b3.best hB.1 hD⟩
  unfold ct_leastKey
  rw [a1]
  simp only [gB2_some, hk, if_true, ((a2.RC hC).2.2.2.1 k hk).2.2]
  exact b1
