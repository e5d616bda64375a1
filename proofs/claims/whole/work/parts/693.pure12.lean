/-! routes: what the class takes, and that it is the same -/
theorem sumTo_congrR {F H : Nat → Nat} : ∀ m g, (∀ x, g ≤ x → x < g + m → F x = H x) → sumTo F m g = sumTo H m g
  | 0, _, _ => rfl
  | m + 1, g, h => by
    unfold sumTo
    rw [sumTo_congrR m (g + 1) (fun x h1 h2 => h x (by omega) (by omega)), h g (by omega) (by omega)]
theorem sumTo_zero : ∀ m g, sumTo (fun _ => 0) m g = 0
  | 0, _ => rfl
  | m + 1, g => by unfold sumTo; rw [sumTo_zero m (g + 1)]
theorem sumTo_swap (H : Nat → Nat → Nat) (n b : Nat) : ∀ m a, sumTo (fun i => sumTo (fun s => H i s) n b) m a = sumTo (fun s => sumTo (fun i => H i s) m a) n b
  | 0, _ => (sumTo_zero n b).symm
  | m + 1, a => by
    conv => lhs; unfold sumTo
    rw [sumTo_swap H n b m (a + 1), ← sumTo_add]
    rfl
def cG (v : gV0) (hm m : Nat) (T bs bg bd : Nat → Nat) (g : Nat) : Nat := sumTo (fun i => if bg i = g then nDuty v hm g (bs i) (bd i) (T (sp (bs i) (bg i) (bd i))) else 0) m 0
theorem taken_same {G S : Nat} {v : gV0} {hm m j g : Nat} {cn ld T bs bg bd : Nat → Nat} (hN : NI G S v m j cn ld T bs bg bd) (hb6 : ∀ s, s < S → v 5 s ≤ 6) (hg : g < G) : cG v hm m T bs bg bd g = mG v hm S T g := by
  unfold cG mG
  have e1 : ∀ i, 0 ≤ i → i < 0 + m → (fun i => if bg i = g then nDuty v hm g (bs i) (bd i) (T (sp (bs i) (bg i) (bd i))) else 0) i = (fun i => sumTo (fun s => sumTo (fun d => if bg i = g ∧ bs i = s ∧ bd i = d then nDuty v hm g s d (T (sp s g d)) else 0) (8 - v 5 s) (v 5 s)) S 0) i := by
    intro i _ hi
    have hi' : i < m := by omega
    have nb := hN.2.2.2.1 i hi'
    have b6 := hb6 (bs i) nb.1
    show (if bg i = g then nDuty v hm g (bs i) (bd i) (T (sp (bs i) (bg i) (bd i))) else 0) = sumTo (fun s => sumTo (fun d => if bg i = g ∧ bs i = s ∧ bd i = d then nDuty v hm g s d (T (sp s g d)) else 0) (8 - v 5 s) (v 5 s)) S 0
    by_cases q : bg i = g
    · have e2 : ∀ s, (fun s => sumTo (fun d => if bg i = g ∧ bs i = s ∧ bd i = d then nDuty v hm g s d (T (sp s g d)) else 0) (8 - v 5 s) (v 5 s)) s = (fun s => if s = bs i then nDuty v hm g (bs i) (bd i) (T (sp (bs i) (bg i) (bd i))) else 0) s := by
        intro s
        show sumTo (fun d => if bg i = g ∧ bs i = s ∧ bd i = d then nDuty v hm g s d (T (sp s g d)) else 0) (8 - v 5 s) (v 5 s) = if s = bs i then nDuty v hm g (bs i) (bd i) (T (sp (bs i) (bg i) (bd i))) else 0
        by_cases qs : s = bs i
        · subst qs
          rw [if_pos rfl]
          have e3 : ∀ d, (fun d => if bg i = g ∧ bs i = bs i ∧ bd i = d then nDuty v hm g (bs i) d (T (sp (bs i) g d)) else 0) d = (fun d => if d = bd i then nDuty v hm g (bs i) (bd i) (T (sp (bs i) (bg i) (bd i))) else 0) d := by
            intro d
            show (if bg i = g ∧ bs i = bs i ∧ bd i = d then nDuty v hm g (bs i) d (T (sp (bs i) g d)) else 0) = if d = bd i then nDuty v hm g (bs i) (bd i) (T (sp (bs i) (bg i) (bd i))) else 0
            by_cases qd : d = bd i
            · rw [if_pos ⟨q, rfl, qd.symm⟩, if_pos qd, qd, q]
            · rw [if_neg (fun h => qd h.2.2.symm), if_neg qd]
          rw [sumTo_congr e3, sumTo_one, if_pos (by omega)]
        · rw [if_neg qs]
          have e3 : ∀ d, (fun d => if bg i = g ∧ bs i = s ∧ bd i = d then nDuty v hm g s d (T (sp s g d)) else 0) d = (fun _ => 0) d := fun d => if_neg (fun h => qs h.2.1.symm)
          rw [sumTo_congr e3, sumTo_zero]
      rw [sumTo_congr e2, sumTo_one, if_pos q, if_pos (by omega)]
    · rw [if_neg q]
      have e2 : ∀ s, (fun s => sumTo (fun d => if bg i = g ∧ bs i = s ∧ bd i = d then nDuty v hm g s d (T (sp s g d)) else 0) (8 - v 5 s) (v 5 s)) s = (fun _ => 0) s := by
        intro s
        have e3 : ∀ d, (fun d => if bg i = g ∧ bs i = s ∧ bd i = d then nDuty v hm g s d (T (sp s g d)) else 0) d = (fun _ => 0) d := fun d => if_neg (fun h => q h.1)
        show sumTo (fun d => if bg i = g ∧ bs i = s ∧ bd i = d then nDuty v hm g s d (T (sp s g d)) else 0) (8 - v 5 s) (v 5 s) = 0
        rw [sumTo_congr e3, sumTo_zero]
      rw [sumTo_congr e2, sumTo_zero]
  rw [sumTo_congrR m 0 e1, sumTo_swap]
  refine sumTo_congrR S 0 fun s _ hs => ?_
  rw [sumTo_swap (fun i d => if bg i = g ∧ bs i = s ∧ bd i = d then nDuty v hm g s d (T (sp s g d)) else 0)]
  refine sumTo_congrR _ _ fun d hd1 hd2 => ?_
  by_cases q : nDuty v hm g s d (T (sp s g d)) = 0
  · have e3 : ∀ i, (fun i => if bg i = g ∧ bs i = s ∧ bd i = d then nDuty v hm g s d (T (sp s g d)) else 0) i = (fun _ => 0) i := fun i => by
      show (if bg i = g ∧ bs i = s ∧ bd i = d then nDuty v hm g s d (T (sp s g d)) else 0) = 0
      rw [q]
      by_cases h : bg i = g ∧ bs i = s ∧ bd i = d
      · rw [if_pos h]
      · rw [if_neg h]
    rw [sumTo_congr e3, sumTo_zero, q]
  · have hT0 : T (sp s g d) ≠ 0 := fun h => q (by rw [h, nDuty_0])
    have b6 := hb6 s (by omega)
    obtain ⟨i0, hi0, c1, c2, c3⟩ := hN.2.2.2.2.2 s g d (by omega) hg (by omega) hT0
    have e3 : ∀ i, 0 ≤ i → i < 0 + m → (fun i => if bg i = g ∧ bs i = s ∧ bd i = d then nDuty v hm g s d (T (sp s g d)) else 0) i = (fun i => if i = i0 then nDuty v hm g s d (T (sp s g d)) else 0) i := by
      intro i _ hi
      show (if bg i = g ∧ bs i = s ∧ bd i = d then nDuty v hm g s d (T (sp s g d)) else 0) = if i = i0 then nDuty v hm g s d (T (sp s g d)) else 0
      by_cases h : i = i0
      · rw [if_pos h, h, if_pos ⟨c2, c1, c3⟩]
      · rw [if_neg h, if_neg]
        intro k
        exact h (hN.2.2.2.2.1 i i0 (by omega) hi0 (by rw [k.2.1, c1]) (by rw [k.1, c2]) (by rw [k.2.2, c3]))
    rw [sumTo_congrR m 0 e3, sumTo_one, if_pos (by omega)]
/-- only row 6 changes -/
def SK (X X' : gC) : Prop := X'.1.1 = X.1.1 ∧ X'.2 = X.2 ∧ ∀ b, b ≠ 6 → X'.1.2 b = X.1.2 b
theorem SK.CK {X X' : gC} (h : SK X X') : CK X X' := ⟨fun _ _ => by rw [h.1], h.2.1, fun b hb => h.2.2 b (by omega)⟩
theorem SK.CI {X X' : gC} {m : Nat} {cn ld T bs bg bd : Nat → Nat} (h : SK X X') (k : CI X.1 m cn ld T bs bg bd) : CI X'.1 m cn ld T bs bg bd := ⟨by rw [h.1]; exact k.1, by rw [h.2.2 9 (by decide), h.2.2 10 (by decide), h.2.2 11 (by decide), h.2.2 12 (by decide)]; exact k.2.1, by rw [h.2.2 13 (by decide), h.2.2 14 (by decide)]; exact k.2.2⟩
theorem storyAt_nI {G S k : Nat} {X : gC} (h : k < S) (hS : S ≤ 4) : ct_storyAt G S X (nI k) = some (some k) := by
  unfold ct_storyAt
  rw [if_neg (nI_pos (by omega)), if_neg (nI_ge h (by omega)), if_pos (gin_of h (by omega)), nI_clamp (by omega)]
theorem collect1 {G S : Nat} {μ : gS} {v : gV0} {hm cnt m j : Nat} {cn ld T bs bg bd : Nat → Nat} (hB : RB G S v hm cnt) (hM : RM G S μ v hm cnt) (hN : NI G S v m j cn ld T bs bg bd) (hm12 : m ≤ 12) : ∀ (r i N : Nat) (A : Nat → Nat) (X : gC), i + r = m → r < N → RC G S X v hm cnt → CI X.1 m cn ld T bs bg bd → (∀ g, g < 5 → X.1.2 6 g = nI (A g)) → ∃ X', ct_collect_b10 G S N (nI i) X = some ((), X') ∧ SK X X' ∧ ∀ g, g < 5 → X'.1.2 6 g = nI (A g + sumTo (fun i => if bg i = g then nDuty v hm g (bs i) (bd i) (T (sp (bs i) (bg i) (bd i))) else 0) r i) := by
  intro r
  have hG := hB.1
  have hS := hB.2.1
  induction r with
  | zero =>
    intro i N A X hi hN' hC hI hA
    obtain ⟨N, rfl⟩ : ∃ q, N = q + 1 := ⟨N - 1, by omega⟩
    have : i = m := by omega
    subst this
    refine ⟨X, ?_, ⟨rfl, rfl, fun _ _ => rfl⟩, hA⟩
    unfold ct_collect_b10
    rw [hI.1, if_pos (nI_le (by omega) (by omega))]
  | succ r ih =>
    intro i N A X hi hN' hC hI hA
    obtain ⟨N, rfl⟩ : ∃ q, N = q + 1 := ⟨N - 1, by omega⟩
    have him : i < m := by omega
    have nb := hN.2.2.2.1 i him
    have hr := hI.2.1 i him
    have t1 : SK X (sA X.1 6 (bg i) (nI (A (bg i) + nDuty v hm (bg i) (bs i) (bd i) (T (sp (bs i) (bg i) (bd i))))), X.2) := ⟨rfl, rfl, fun b hb => sA_k hb⟩
    obtain ⟨X', h1, h2, h3⟩ := ih (i + 1) N (uN A (bg i) (A (bg i) + nDuty v hm (bg i) (bs i) (bd i) (T (sp (bs i) (bg i) (bd i))))) _ (by omega) (by omega) (t1.CK.RC hC) (t1.CI hI) (by
      intro g hg
      by_cases q : g = bg i
      · rw [q, uN_s]; exact sA_s
      · rw [uN_n q]; exact (sA_i q).trans (hA g hg))
    refine ⟨X', ?_, ⟨h2.1, h2.2.1, fun b hb => (h2.2.2 b hb).trans (t1.2.2 b hb)⟩, ?_⟩
    · conv => lhs; unfold ct_collect_b10
      rw [hI.1, if_neg (nI_ge him (by omega)), if_pos (gin_of (by omega) (by decide)), nI_clamp (by omega), hr.1, hr.2.1, hr.2.2.1, hr.2.2.2]
      simp only [ct_gateAt_nI nb.2.1 (show G ≤ 100 by omega), storyAt_nI nb.1 hS, gB1_some, gN, nb.2.1, if_true, gin_of (show bg i < 5 by omega) (by decide), nI_clamp (show bg i < 2 ^ 31 by omega), (duty_nat hB hC hM nb.2.1 nb.1 (hN.2.1 _) nb.2.2.1 nb.2.2.2).1, hA (bg i) (by omega), nI_add, gLet, ct_collect_b81, nI_1]
      exact h1
    · intro g hg
      rw [h3 g hg]
      conv => rhs; unfold sumTo
      by_cases q : bg i = g
      · subst q
        rw [uN_s, if_pos rfl, Nat.add_assoc]
      · rw [uN_n (fun h => q h.symm), if_neg q, Nat.zero_add]
theorem collect_nat {G S : Nat} {X : gC} {μ : gS} {v : gV0} {hm cnt m j : Nat} {cn ld T bs bg bd : Nat → Nat} (hB : RB G S v hm cnt) (hC : RC G S X v hm cnt) (hM : RM G S μ v hm cnt) (hN : NI G S v m j cn ld T bs bg bd) (hm12 : m ≤ 12) (hI : CI X.1 m cn ld T bs bg bd) : ∃ X', ct_collect G S X = some ((), X') ∧ SK X X' ∧ (∀ g, g < G → X'.1.2 6 g = nI (mG v hm S T g)) ∧ ∀ g, G ≤ g → g < 5 → X'.1.2 6 g = nI 0 := by
  have t1 : SK X (sR X.1 6 (fun j => if j < 5 then (0 : Int32) else X.1.2 6 j), X.2) := ⟨rfl, rfl, fun b hb => sR_k hb⟩
  obtain ⟨X', h1, h2, h3⟩ := collect1 hB hM hN hm12 m 0 1000 n0 _ (by omega) (by omega) (t1.CK.RC hC) (t1.CI hI) (by
    intro g hg
    show (sR X.1 6 _).2 6 g = _
    rw [sR_s, if_pos hg]; rfl)
  refine ⟨X', h1, ⟨h2.1, h2.2.1, fun b hb => (h2.2.2 b hb).trans (t1.2.2 b hb)⟩, ?_, ?_⟩
  · intro g hg
    rw [h3 g (by have := hB.1; omega), ← taken_same hN (fun s hs => (hB.2.2.2.2.2.2.1 s hs).2.2.2) hg]
    show nI (0 + _) = _
    rw [Nat.zero_add]; rfl
  · intro g hg hg5
    rw [h3 g hg5]
    have e : ∀ i, 0 ≤ i → i < 0 + m → (fun i => if bg i = g then nDuty v hm g (bs i) (bd i) (T (sp (bs i) (bg i) (bd i))) else 0) i = (fun _ => 0) i := fun i _ hi => if_neg (by have := (hN.2.2.2.1 i (by omega)).2.1; omega)
    rw [sumTo_congrR m 0 e, sumTo_zero]; rfl
