/-! town: gates and stories, one by one -/
theorem fs1 {c : Int32} {b : Bool} (h : wI c (nI 49) (nI 57) = b) : tt_fitsStory (nI 1) c = some b := by
  unfold tt_fitsStory
  rw [if_pos (show nI 1 = 1 from rfl), cwithin_eq]
  exact congrArg some h
theorem fs2 {c : Int32} {b : Bool} (h : wI c (nI 48) (nI 53) = b) : tt_fitsStory (nI 2) c = some b := by
  unfold tt_fitsStory
  rw [if_neg (show ¬ nI 2 = 1 by decide), if_pos (show nI 2 = 2 from rfl), cwithin_eq]
  exact congrArg some h
theorem fs3 {c : Int32} {b : Bool} (h : wI c (nI 48) (nI 54) = b) : tt_fitsStory (nI 3) c = some b := by
  unfold tt_fitsStory
  rw [if_neg (show ¬ nI 3 = 1 by decide), if_neg (show ¬ nI 3 = 2 by decide), cwithin_eq]
  exact congrArg some h
theorem fg1t {c : Int32} {kd : Nat} (hk : kd ≤ 2) (h : tt_kindOf c = some (nI kd)) : tt_fitsGate (nI 1) c = some true := by
  unfold tt_fitsGate
  rw [if_pos (show nI 1 = 1 from rfl), h]
  simp only [gB1_some]
  rw [if_neg (nI_m9 (by omega))]
theorem fg1f {c : Int32} (h : tt_kindOf c = some (-9)) : tt_fitsGate (nI 1) c = some false := by
  unfold tt_fitsGate
  rw [if_pos (show nI 1 = 1 from rfl), h]
  simp only [gB1_some, if_true]
theorem fg2 {c : Int32} {b : Bool} (h : wI c (nI 49) (nI 57) = b) : tt_fitsGate (nI 2) c = some b := by
  unfold tt_fitsGate
  rw [if_neg (show ¬ nI 2 = 1 by decide), if_pos (show nI 2 = 2 from rfl), cwithin_eq]
  exact congrArg some h
theorem fg3 {c : Int32} {b : Bool} (h : wI c (nI 48) (nI 54) = b) : tt_fitsGate (nI 3) c = some b := by
  unfold tt_fitsGate
  rw [if_neg (show ¬ nI 3 = 1 by decide), if_neg (show ¬ nI 3 = 2 by decide), cwithin_eq]
  exact congrArg some h
theorem tw_sgo {σc τ : gS} {k p n gc sc i t q N : Nat} {C : Nat → Int32} (h : TWH σc k p n C) (hτ : TWC τ p n gc sc) (hs : 0 < sc) (hs4 : sc ≤ 4) (hq : q = 1 + 4 * i + t) (hn : q < n) (ht : 0 < t) (ht4 : t < 4) (hf : tt_fitsStory (nI t) (C (p + q)) = some true) : tt_firstFault_b2 σc k (N + 1) (nI q) τ = tt_firstFault_b2 σc k N (nI (q + 1)) τ := by
  have h60 := tw_n h
  subst hq
  rw [tw_step hτ (by omega) hn ((tw_goesS h hτ hs hs4 hn ht ht4).trans (by rw [hf]; rfl)), if_pos rfl]
theorem tw_sstop {σc τ : gS} {k p n gc sc i t q N : Nat} {C : Nat → Int32} (h : TWH σc k p n C) (hτ : TWC τ p n gc sc) (hs : 0 < sc) (hs4 : sc ≤ 4) (hq : q = 1 + 4 * i + t) (ht : 0 < t) (ht4 : t < 4) (hf : q = n ∨ (q < n ∧ tt_fitsStory (nI t) (C (p + q)) = some false)) : tt_firstFault_b2 σc k (N + 1) (nI q) τ = some (nI q, τ) := by
  have h60 := tw_n h
  rcases hf with e | ⟨hn, hf⟩
  · rw [e, tw_end hτ (by omega) hs4, if_neg (by omega)]
  · subst hq
    rw [tw_step hτ (by omega) hn ((tw_goesS h hτ hs hs4 hn ht ht4).trans (by rw [hf]; rfl)), if_neg (by decide)]
theorem tw_ggo {σc τ : gS} {k p n gc i t q N : Nat} {C : Nat → Int32} (h : TWH σc k p n C) (hτ : TWC τ p n gc 0) (hq : q = 1 + 4 * i + t) (hn : q < n) (ht : 0 < t) (ht4 : t < 4) (hf : tt_fitsGate (nI t) (C (p + q)) = some true) : tt_firstFault_b2 σc k (N + 1) (nI q) τ = tt_firstFault_b2 σc k N (nI (q + 1)) τ := by
  have h60 := tw_n h
  subst hq
  rw [tw_step hτ (by omega) hn ((tw_goesG h hτ hn ht ht4).trans (by rw [hf]; rfl)), if_pos rfl]
theorem tw_gstop {σc τ : gS} {k p n gc i t q N : Nat} {C : Nat → Int32} (h : TWH σc k p n C) (hτ : TWC τ p n gc 0) (hq : q = 1 + 4 * i + t) (ht : 0 < t) (ht4 : t < 4) (hf : q = n ∨ (q < n ∧ tt_fitsGate (nI t) (C (p + q)) = some false)) : tt_firstFault_b2 σc k (N + 1) (nI q) τ = some (nI q, τ) := by
  have h60 := tw_n h
  rcases hf with e | ⟨hn, hf⟩
  · rw [e, tw_end hτ (by omega) (by decide), if_neg (by omega)]
  · subst hq
    rw [tw_step hτ (by omega) hn ((tw_goesG h hτ hn ht ht4).trans (by rw [hf]; rfl)), if_neg (by decide)]
theorem sA19_18 {σ : gS} {i : Nat} {x : Int32} : (sA σ 19 i x).2 18 = σ.2 18 := sA_k (by decide)
theorem sA18_19 {σ : gS} {i : Nat} {x : Int32} : (sA σ 18 i x).2 19 = σ.2 19 := sA_k (by decide)
def ZGF (C : Nat → Int32) (p g : Nat) (σ : gS) : Prop := ∃ kd rt df : Nat, kd ≤ 2 ∧ 1 ≤ rt ∧ rt ≤ 9 ∧ df ≤ 6 ∧ tt_kindOf (C (p + (2 + 4 * g))) = some (nI kd) ∧ C (p + (2 + 4 * g + 1)) = nI (48 + rt) ∧ C (p + (2 + 4 * g + 1 + 1)) = nI (48 + df) ∧ σ.2 18 (3 * g) = nI kd ∧ σ.2 18 (3 * g + 1) = nI rt ∧ σ.2 18 (3 * g + 2) = nI df
def ZSF (C : Nat → Int32) (p gc s : Nat) (σ : gS) : Prop := ∃ la pe bo : Nat, 1 ≤ la ∧ la ≤ 9 ∧ pe ≤ 5 ∧ bo ≤ 6 ∧ C (p + (2 + 4 * (gc + s))) = nI (48 + la) ∧ C (p + (2 + 4 * (gc + s) + 1)) = nI (48 + pe) ∧ C (p + (2 + 4 * (gc + s) + 1 + 1)) = nI (48 + bo) ∧ σ.2 19 (3 * s) = nI la ∧ σ.2 19 (3 * s + 1) = nI pe ∧ σ.2 19 (3 * s + 2) = nI bo
theorem pl2 (w : Nat) : nI w + (2 : Int32) = nI (w + 2) := by rw [show (2 : Int32) = nI 2 from rfl, nI_add]
theorem ti3 (w : Nat) : (3 : Int32) * nI w = nI (3 * w) := by rw [show (3 : Int32) = nI 3 from rfl, pk_mul]
theorem tm_story {σ : gS} {sc : Nat} (e : Int32) (hs : sc < 4) (h17 : σ.1 17 = nI sc) : mm_readOneStory σ e = (gB2 (mm_digit σ e 1 9) fun r3 σ4 => if r3 = (-9) then some (false, sA σ4 19 (3 * sc) r3) else gB2 (mm_digit (sA σ4 19 (3 * sc) r3) e 0 5) fun r9 σ10 => if r9 = (-9) then some (false, sA σ10 19 (3 * sc + 1) r9) else gB2 (mm_digit (sA σ10 19 (3 * sc + 1) r9) e 0 6) fun r15 σ16 => if r15 = (-9) then some (false, sS (sA σ16 19 (3 * sc + 2) r15) 17 (σ16.1 17 + 1)) else some (true, sS (sA σ16 19 (3 * sc + 2) r15) 17 (σ16.1 17 + 1))) := by
  unfold mm_readOneStory
  rw [h17, ti3]
  simp only [gLet, nI_1, pl2, gin_of (show 3 * sc < 12 by omega) (by decide), gin_of (show 3 * sc + 1 < 12 by omega) (by decide), gin_of (show 3 * sc + 2 < 12 by omega) (by decide), nI_clamp (show 3 * sc < 2 ^ 31 by omega), nI_clamp (show 3 * sc + 1 < 2 ^ 31 by omega), nI_clamp (show 3 * sc + 2 < 2 ^ 31 by omega), if_true, sS_2, sA_s, sA_1]
theorem tw_story {σc τ σ0 σ : gS} {k b p n gc sc q N : Nat} {C : Nat → Int32} (h : TWH σc k p n C) (hd : TWD σ0 b p n C) (hτ : TWC τ p n gc (sc + 1)) (hs : sc < 4) (hm : TWM σ0 σ b q gc sc) (hq : q = 2 + 4 * (gc + sc)) (hqn : q ≤ n) : (∃ (q' : Nat) (σ' : gS), q' ≤ n ∧ tt_firstFault_b2 σc k (N + 4) (nI q) τ = some (nI q', τ) ∧ mm_readOneStory σ (nI (b + n)) = some (false, σ') ∧ σ'.1 15 = nI (b + q') ∧ MK σ0 σ') ∨ (∃ σ' : gS, q + 3 ≤ n ∧ tt_firstFault_b2 σc k (N + 4) (nI q) τ = tt_firstFault_b2 σc k (N + 1) (nI (q + 3)) τ ∧ mm_readOneStory σ (nI (b + n)) = some (true, σ') ∧ TWM σ0 σ' b (q + 3) gc (sc + 1) ∧ σ'.2 18 = σ.2 18 ∧ (∀ j, j < 3 * sc → σ'.2 19 j = σ.2 19 j) ∧ ZSF C p gc sc σ') := by
  rw [tm_story (nI (b + n)) hs hm.2.2.2]
  rcases tm_digit hd hqn hm 1 9 (x := 1) (y := 9) rfl rfl (by decide) (by decide) with ⟨l1, d, d1, d2, d3, d4, d5⟩ | ⟨s1, d5⟩
  · have hm1 := hm.go.arr 19 (3 * sc) (nI d) (Or.inr rfl)
    have c1 := tw_sgo (N := N + 3) h hτ (by omega) (by omega) (show q = 1 + 4 * (gc + sc) + 1 by omega) l1 (by decide) (by decide) (fs1 d4)
    rcases tm_digit hd (by omega) hm1 0 5 (x := 0) (y := 5) rfl rfl (by decide) (by decide) with ⟨l2, e, e1, e2, e3, e4, e5⟩ | ⟨s2, e5⟩
    · have hm2 := hm1.go.arr 19 (3 * sc + 1) (nI e) (Or.inr rfl)
      have c2 := tw_sgo (N := N + 2) h hτ (by omega) (by omega) (show q + 1 = 1 + 4 * (gc + sc) + 2 by omega) l2 (by decide) (by decide) (fs2 e4)
      rcases tm_digit hd (by omega) hm2 0 6 (x := 0) (y := 6) rfl rfl (by decide) (by decide) with ⟨l3, f, f1, f2, f3, f4, f5⟩ | ⟨s3, f5⟩
      · have hm3 := hm2.go.arr 19 (3 * sc + 2) (nI f) (Or.inr rfl)
        have c3 := tw_sgo (N := N + 1) h hτ (by omega) (by omega) (show q + 1 + 1 = 1 + 4 * (gc + sc) + 3 by omega) l3 (by decide) (by decide) (fs3 f4)
        refine Or.inr ⟨_, by omega, c1.trans (c2.trans c3), ?_, ⟨hm3.1.trans (MK.num _ 17 (nI (sc + 1)) (by decide)), hm3.2.1, hm3.2.2.1, rfl⟩, ?_, ?_, ?_⟩
        · rw [d5]
          simp only [gB2_some]
          rw [if_neg (nI_m9 (by omega)), e5]
          simp only [gB2_some]
          rw [if_neg (nI_m9 (by omega)), f5]
          simp only [gB2_some]
          rw [if_neg (nI_m9 (by omega))]
          have e17 := hm2.go.2.2.2
          rw [e17, nI_1]
        · rw [sS_2, sA19_18, sS_2, sA19_18, sS_2, sA19_18, sS_2]
        · intro j hj
          rw [sS_2, sA_i (by omega), sS_2, sA_i (by omega), sS_2, sA_i (by omega), sS_2]
        · subst hq
          refine ⟨d, e, f, d1, d2, e2, f2, d3, e3, f3, ?_, ?_, ?_⟩
          · rw [sS_2, sA_i (by omega), sS_2, sA_i (by omega), sS_2, sA_s]
          · rw [sS_2, sA_i (by omega), sS_2, sA_s]
          · rw [sS_2, sA_s]
      · have c3 := tw_sstop (N := N + 1) (t := 3) h hτ (by omega) (by omega) (show q + 1 + 1 = 1 + 4 * (gc + sc) + 3 by omega) (by decide) (by decide) (s3.imp id (fun z => ⟨z.1, fs3 z.2⟩))
        have hm4 := hm2.arr 19 (3 * sc + 2) (-9) (Or.inr rfl)
        refine Or.inl ⟨q + 1 + 1, _, by omega, c1.trans (c2.trans c3), ?_, ?_, hm4.1.trans (MK.num _ 17 (nI (sc + 1)) (by decide))⟩
        rotate_left
        · exact hm4.2.1
        · rw [d5]
          simp only [gB2_some]
          rw [if_neg (nI_m9 (by omega)), e5]
          simp only [gB2_some]
          rw [if_neg (nI_m9 (by omega)), f5]
          simp only [gB2_some, if_true]
          have e17 := hm2.2.2.2
          rw [e17, nI_1]
    · have c2 := tw_sstop (N := N + 2) (t := 2) h hτ (by omega) (by omega) (show q + 1 = 1 + 4 * (gc + sc) + 2 by omega) (by decide) (by decide) (s2.imp id (fun z => ⟨z.1, fs2 z.2⟩))
      refine Or.inl ⟨q + 1, _, by omega, c1.trans c2, ?_, (hm1.arr 19 (3 * sc + 1) (-9) (Or.inr rfl)).2.1, (hm1.arr 19 (3 * sc + 1) (-9) (Or.inr rfl)).1⟩
      rw [d5]
      simp only [gB2_some]
      rw [if_neg (nI_m9 (by omega)), e5]
      simp only [gB2_some, if_true]
  · have c1 := tw_sstop (N := N + 3) (t := 1) h hτ (by omega) (by omega) (show q = 1 + 4 * (gc + sc) + 1 by omega) (by decide) (by decide) (s1.imp id (fun z => ⟨z.1, fs1 z.2⟩))
    refine Or.inl ⟨q, _, by omega, c1, ?_, (hm.arr 19 (3 * sc) (-9) (Or.inr rfl)).2.1, (hm.arr 19 (3 * sc) (-9) (Or.inr rfl)).1⟩
    rw [d5]
    simp only [gB2_some, if_true]
theorem tm_gate {σ : gS} {gc : Nat} (e s2 : Int32) (hg : gc < 5) : mm_readOneGate_b66 e (nI (3 * gc)) (nI (3 * gc)) s2 σ = (if s2 = (-9) then some (false, sA σ 18 (3 * gc) s2) else gB2 (mm_digit (sS (sA σ 18 (3 * gc) s2) 15 (σ.1 15 + 1)) e 1 9) fun r7 σ8 => if r7 = (-9) then some (false, sA σ8 18 (3 * gc + 1) r7) else gB2 (mm_digit (sA σ8 18 (3 * gc + 1) r7) e 0 6) fun r13 σ14 => if r13 = (-9) then some (false, sS (sA σ14 18 (3 * gc + 2) r13) 16 (σ14.1 16 + 1)) else some (true, sS (sA σ14 18 (3 * gc + 2) r13) 16 (σ14.1 16 + 1))) := by
  unfold mm_readOneGate_b66
  simp only [gLet, nI_1, pl2, gin_of (show 3 * gc < 15 by omega) (by decide), gin_of (show 3 * gc + 1 < 15 by omega) (by decide), gin_of (show 3 * gc + 2 < 15 by omega) (by decide), nI_clamp (show 3 * gc < 2 ^ 31 by omega), nI_clamp (show 3 * gc + 1 < 2 ^ 31 by omega), nI_clamp (show 3 * gc + 2 < 2 ^ 31 by omega), if_true, sS_2, sA_s, sA_1]
theorem tw_gate {σc τ σ0 σ : gS} {k b p n gc q N : Nat} {C : Nat → Int32} (h : TWH σc k p n C) (hd : TWD σ0 b p n C) (hτ : TWC τ p n (gc + 1) 0) (hg : gc < 5) (hm : TWM σ0 σ b q gc 0) (hq : q = 2 + 4 * gc) (hqn : q ≤ n) : (∃ (q' : Nat) (σ' : gS), q' ≤ n ∧ tt_firstFault_b2 σc k (N + 4) (nI q) τ = some (nI q', τ) ∧ mm_readOneGate σ (nI (b + n)) = some (false, σ') ∧ σ'.1 15 = nI (b + q') ∧ MK σ0 σ') ∨ (∃ σ' : gS, q + 3 ≤ n ∧ tt_firstFault_b2 σc k (N + 4) (nI q) τ = tt_firstFault_b2 σc k (N + 1) (nI (q + 3)) τ ∧ mm_readOneGate σ (nI (b + n)) = some (true, σ') ∧ TWM σ0 σ' b (q + 3) (gc + 1) 0 ∧ (∀ j, j < 3 * gc → σ'.2 18 j = σ.2 18 j) ∧ ZGF C p gc σ') := by
  have hb := hd.1
  have bad : (q = n ∨ (q < n ∧ tt_kindOf (C (p + q)) = some (-9))) → mm_readOneGate σ (nI (b + n)) = mm_readOneGate_b66 (nI (b + n)) (nI (3 * gc)) (nI (3 * gc)) (-9) σ → ∃ (q' : Nat) (σ' : gS), q' ≤ n ∧ tt_firstFault_b2 σc k (N + 4) (nI q) τ = some (nI q', τ) ∧ mm_readOneGate σ (nI (b + n)) = some (false, σ') ∧ σ'.1 15 = nI (b + q') ∧ MK σ0 σ' := by
    intro s1 e
    have c1 := tw_gstop (N := N + 3) (t := 1) h hτ (show q = 1 + 4 * gc + 1 by omega) (by decide) (by decide) (s1.imp id (fun z => ⟨z.1, fg1f z.2⟩))
    refine ⟨q, _, hqn, c1, ?_, (hm.arr 18 (3 * gc) (-9) (Or.inl rfl)).2.1, (hm.arr 18 (3 * gc) (-9) (Or.inl rfl)).1⟩
    rw [e, tm_gate (nI (b + n)) (-9) hg, if_pos rfl]
  by_cases hqe : q = n
  · refine Or.inl (bad (Or.inl hqe) ?_)
    unfold mm_readOneGate mm_readOneGate_b28
    rw [hm.2.1, hm.2.2.1, ti3]
    simp only [gLet]
    rw [if_pos (nI_le (by omega) (by omega)), if_neg (by decide), if_neg (by decide), if_neg (by decide)]
  · have hl : q < n := by omega
    have e : σ.2 4 (b + q) = C (p + q) := by rw [hm.1.2 4 (by decide)]; exact hd.2 q hl
    have eu : mm_readOneGate σ (nI (b + n)) = mm_readOneGate_b28 (nI (b + n)) (nI (3 * gc)) (C (p + q)) σ := by
      unfold mm_readOneGate
      rw [hm.2.1, hm.2.2.1, ti3]
      simp only [gLet]
      rw [if_neg (nI_ge (by omega) (by omega)), if_pos (gin_of (by omega) (by decide)), nI_clamp (by omega), e]
    rcases tw_kind (C (p + q)) with ⟨kd, k1, k2, k3⟩ | ⟨k2, k3⟩
    · have hm1 := (hm.arr 18 (3 * gc) (nI kd) (Or.inl rfl)).go
      have c1 := tw_ggo (N := N + 3) h hτ (show q = 1 + 4 * gc + 1 by omega) hl (by decide) (by decide) (fg1t k1 k2)
      have eg : mm_readOneGate σ (nI (b + n)) = (gB2 (mm_digit (sS (sA σ 18 (3 * gc) (nI kd)) 15 (nI (b + q + 1))) (nI (b + n)) 1 9) fun r7 σ8 => if r7 = (-9) then some (false, sA σ8 18 (3 * gc + 1) r7) else gB2 (mm_digit (sA σ8 18 (3 * gc + 1) r7) (nI (b + n)) 0 6) fun r13 σ14 => if r13 = (-9) then some (false, sS (sA σ14 18 (3 * gc + 2) r13) 16 (σ14.1 16 + 1)) else some (true, sS (sA σ14 18 (3 * gc + 2) r13) 16 (σ14.1 16 + 1))) := by
        rw [eu, k3, tm_gate (nI (b + n)) (nI kd) hg, if_neg (nI_m9 (by omega)), hm.2.1, nI_1]
      rw [eg]
      rcases tm_digit hd (by omega) hm1 1 9 (x := 1) (y := 9) rfl rfl (by decide) (by decide) with ⟨l2, d, d1, d2, d3, d4, d5⟩ | ⟨s2, d5⟩
      · have hm2 := hm1.go.arr 18 (3 * gc + 1) (nI d) (Or.inl rfl)
        have c2 := tw_ggo (N := N + 2) h hτ (show q + 1 = 1 + 4 * gc + 2 by omega) l2 (by decide) (by decide) (fg2 d4)
        rcases tm_digit hd (by omega) hm2 0 6 (x := 0) (y := 6) rfl rfl (by decide) (by decide) with ⟨l3, f, f1, f2, f3, f4, f5⟩ | ⟨s3, f5⟩
        · have hm3 := hm2.go.arr 18 (3 * gc + 2) (nI f) (Or.inl rfl)
          have c3 := tw_ggo (N := N + 1) h hτ (show q + 1 + 1 = 1 + 4 * gc + 3 by omega) l3 (by decide) (by decide) (fg3 f4)
          refine Or.inr ⟨_, by omega, c1.trans (c2.trans c3), ?_, ⟨hm3.1.trans (MK.num _ 16 (nI (gc + 1)) (by decide)), hm3.2.1, rfl, hm3.2.2.2⟩, ?_, ?_⟩
          · rw [d5]
            simp only [gB2_some]
            rw [if_neg (nI_m9 (by omega)), f5]
            simp only [gB2_some]
            rw [if_neg (nI_m9 (by omega))]
            have e16 := hm2.go.2.2.1
            rw [e16, nI_1]
          · intro j hj
            rw [sS_2, sA_i (by omega), sS_2, sA_i (by omega), sS_2, sS_2, sA_i (by omega)]
          · subst hq
            refine ⟨kd, d, f, k1, d1, d2, f2, k2, d3, f3, ?_, ?_, ?_⟩
            · rw [sS_2, sA_i (by omega), sS_2, sA_i (by omega), sS_2, sS_2, sA_s]
            · rw [sS_2, sA_i (by omega), sS_2, sA_s]
            · rw [sS_2, sA_s]
        · have c3 := tw_gstop (N := N + 1) (t := 3) h hτ (show q + 1 + 1 = 1 + 4 * gc + 3 by omega) (by decide) (by decide) (s3.imp id (fun z => ⟨z.1, fg3 z.2⟩))
          have hm4 := hm2.arr 18 (3 * gc + 2) (-9) (Or.inl rfl)
          refine Or.inl ⟨q + 1 + 1, _, by omega, c1.trans (c2.trans c3), ?_, ?_, hm4.1.trans (MK.num _ 16 (nI (gc + 1)) (by decide))⟩
          rotate_left
          · exact hm4.2.1
          · rw [d5]
            simp only [gB2_some]
            rw [if_neg (nI_m9 (by omega)), f5]
            simp only [gB2_some, if_true]
            have e16 := hm2.2.2.1
            rw [e16, nI_1]
      · have c2 := tw_gstop (N := N + 2) (t := 2) h hτ (show q + 1 = 1 + 4 * gc + 2 by omega) (by decide) (by decide) (s2.imp id (fun z => ⟨z.1, fg2 z.2⟩))
        refine Or.inl ⟨q + 1, _, by omega, c1.trans c2, ?_, (hm1.arr 18 (3 * gc + 1) (-9) (Or.inl rfl)).2.1, (hm1.arr 18 (3 * gc + 1) (-9) (Or.inl rfl)).1⟩
        rw [d5]
        simp only [gB2_some, if_true]
    · exact Or.inl (bad (Or.inr ⟨hl, k2⟩) (eu.trans (k3 _ _ _)))
