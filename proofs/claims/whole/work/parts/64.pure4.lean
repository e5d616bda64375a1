/-! what a duty is, in numbers; duty -/
def nThird (L t : Nat) : Nat := L / 3 + if t < L % 3 then 1 else 0
def nBit (T t : Nat) : Bool := T / 2 ^ t % 2 == 1
def nPart (L T t : Nat) : Nat := if nBit T t = true then nThird L t else 0
def nSize (L T : Nat) : Nat := nPart L T 0 + nPart L T 1 + nPart L T 2
def nFresh (b d : Nat) : Nat := 4 - (d - b)
/-- what a gate of a kind takes -/
def nTake (kd rt z f : Nat) : Nat := if kd = 1 then z * (rt + 1) * f else if kd = 2 then z * rt * f / 2 else z * rt * f
def nDuty (v : gV0) (hm g s d T : Nat) : Nat := if nSize (v 3 s) T ≤ hm then 0 else if v 2 g = v 4 s then 0 else nTake (v 0 g) (v 1 g) (nSize (v 3 s) T) (nFresh (v 5 s) d)
theorem nThird_le {L t : Nat} (h : L ≤ 9) : nThird L t ≤ 4 := by
  unfold nThird
  split <;> omega
theorem nPart_le {L T t : Nat} (h : L ≤ 9) : nPart L T t ≤ 4 := by
  unfold nPart
  split
  · exact nThird_le h
  · omega
theorem nSize_le {L T : Nat} (h : L ≤ 9) : nSize L T ≤ 12 := by
  unfold nSize
  have := nPart_le (T := T) (t := 0) h
  have := nPart_le (T := T) (t := 1) h
  have := nPart_le (T := T) (t := 2) h
  omega
theorem nFresh_le (b d : Nat) : nFresh b d ≤ 4 := by unfold nFresh; omega
theorem nTake_le {kd rt z f : Nat} (hr : rt ≤ 9) (hz : z ≤ 12) (hf : f ≤ 4) : nTake kd rt z f ≤ 480 := by
  have h1 : z * (rt + 1) ≤ 12 * 10 := Nat.mul_le_mul hz (by omega)
  have h2 : z * (rt + 1) * f ≤ 12 * 10 * 4 := Nat.mul_le_mul h1 hf
  have h3 : z * rt ≤ 12 * 10 := Nat.mul_le_mul hz (by omega)
  have h4 : z * rt * f ≤ 12 * 10 * 4 := Nat.mul_le_mul h3 hf
  unfold nTake
  split
  · omega
  · split <;> omega
theorem nDuty_le {G S : Nat} {v : gV0} {hm cnt g s d T : Nat} (hB : RB G S v hm cnt) (hg : g < G) (hs : s < S) : nDuty v hm g s d T ≤ 480 := by
  have h1 := hB.2.2.2.2.2.1 g hg
  have h2 := hB.2.2.2.2.2.2.1 s hs
  unfold nDuty
  split
  · omega
  · split
    · omega
    · exact nTake_le h1.2.2.1 (nSize_le h2.2.1) (nFresh_le _ _)
theorem bit_c : ∀ T : Fin 8, ∀ t : Fin 3, (nI T.val &&& ((1 : Int32) <<< (nI t.val &&& 31)) = 0) ↔ ¬ nBit T.val t.val = true := by decide
theorem bit_m : ∀ T : Fin 8, ∀ t : Fin 3, (((nI T.val >>> (nI t.val &&& 31)) &&& 1) = 1) ↔ nBit T.val t.val = true := by decide
theorem third_nat {G S : Nat} {X : gC} {μ : gS} {v : gV0} {hm cnt k t : Nat} (hB : RB G S v hm cnt) (hC : RC G S X v hm cnt) (hM : RM G S μ v hm cnt) (hk : k < S) (ht : t < 3) : cs_sizeOfThird G S k X (nI t) = some (nI (nThird (v 3 k) t)) ∧ mm_third μ (nI k) (nI t) = some (nI (nThird (v 3 k) t)) := by
  have hS := hB.2.1
  have hb := hB.2.2.2.2.2.2.1 k hk
  have hc := (hC.2.2.2.1 k hk).1
  have hmm := (hM.2.2.2.2.2.2.1 k hk).1
  have hg : gin (nI k) 4 = true := gin_of (by omega) (by decide)
  have hcl : (nI k).toNatClampNeg = k := nI_clamp (by omega)
  have e3 : (3 : Int32) = nI 3 := rfl
  have er : nI (v 3 k) - nI (v 3 k) / 3 * 3 = nI (v 3 k % 3) := by rw [e3]; exact pk_rem (by omega) (by decide) (by decide)
  have ed : nI (v 3 k) / 3 = nI (v 3 k / 3) := by rw [e3]; exact pk_div (by omega) (by decide) (by decide)
  unfold cs_sizeOfThird mm_third
  rw [if_pos hk, if_pos hg, hcl, hc, hmm, er, ed]
  unfold nThird
  by_cases h : t < v 3 k % 3
  · rw [if_neg (nI_ge h (by omega)), if_pos h, nI_1]
    exact ⟨rfl, rfl⟩
  · rw [if_pos (nI_le (by omega) (by omega)), if_neg h]
    have e0 : (0 : Int32) = nI 0 := rfl
    rw [e0, nI_add]
    exact ⟨rfl, rfl⟩
theorem size_cstep {G S : Nat} {X : gC} {μ : gS} {v : gV0} {hm cnt k T t n : Nat} (a : Nat) (hB : RB G S v hm cnt) (hC : RC G S X v hm cnt) (hM : RM G S μ v hm cnt) (hk : k < S) (hT : T < 8) (ht : t < 3) : cs_sizeOf_b4 G S k X (n + 1) (nI T) (nI a) (nI t) = cs_sizeOf_b4 G S k X n (nI T) (nI (a + nPart (v 3 k) T t)) (nI (t + 1)) := by
  rw [cs_sizeOf_b4]
  have e3 : ¬ (3 : Int32) ≤ nI t := by have : (3 : Int32) = nI 3 := rfl; rw [this]; exact nI_ge ht (by decide)
  rw [if_neg e3]
  have hb := bit_c ⟨T, hT⟩ ⟨t, ht⟩
  unfold nPart
  by_cases h : nBit T t = true
  · rw [if_neg (fun q => (hb.mp q) h), if_pos hk, (third_nat hB hC hM hk ht).1, if_pos h]
    simp only [gB1_some, cs_sizeOf_b25, nI_add, nI_1]
  · rw [if_pos (hb.mpr h), if_neg h]
    simp only [cs_sizeOf_b25, nI_1, Nat.add_zero]
theorem size_mstep {G S : Nat} {X : gC} {μ : gS} {v : gV0} {hm cnt k T t n : Nat} (a : Nat) (hB : RB G S v hm cnt) (hC : RC G S X v hm cnt) (hM : RM G S μ v hm cnt) (hk : k < S) (hT : T < 8) (ht : t < 3) : mm_sizeOf_b5 μ (n + 1) (nI k) (nI T) (nI a) (nI t) = mm_sizeOf_b5 μ n (nI k) (nI T) (nI (a + nPart (v 3 k) T t)) (nI (t + 1)) := by
  rw [mm_sizeOf_b5]
  have e3 : ¬ (3 : Int32) ≤ nI t := by have : (3 : Int32) = nI 3 := rfl; rw [this]; exact nI_ge ht (by decide)
  rw [if_neg e3]
  have hb := bit_m ⟨T, hT⟩ ⟨t, ht⟩
  unfold nPart
  by_cases h : nBit T t = true
  · rw [if_pos (hb.mpr h), (third_nat hB hC hM hk ht).2, if_pos h]
    simp only [gB1_some, mm_sizeOf_b33, nI_add, nI_1]
  · rw [if_neg (fun q => h (hb.mp q)), if_neg h]
    have e0 : (0 : Int32) = nI 0 := rfl
    simp only [mm_sizeOf_b33, nI_1, e0, nI_add, Nat.add_zero]
theorem size_nat {G S : Nat} {X : gC} {μ : gS} {v : gV0} {hm cnt k T : Nat} (hB : RB G S v hm cnt) (hC : RC G S X v hm cnt) (hM : RM G S μ v hm cnt) (hk : k < S) (hT : T < 8) : cs_sizeOf G S k X (nI T) = some (nI (nSize (v 3 k) T)) ∧ mm_sizeOf μ (nI k) (nI T) = some (nI (nSize (v 3 k) T)) := by
  unfold cs_sizeOf mm_sizeOf
  have e0 : (0 : Int32) = nI 0 := rfl
  rw [e0, show (1000 : Nat) = 996 + 1 + 1 + 1 + 1 from rfl]
  rw [size_cstep 0 hB hC hM hk hT (by decide), size_cstep _ hB hC hM hk hT (by decide), size_cstep _ hB hC hM hk hT (by decide), size_mstep 0 hB hC hM hk hT (by decide), size_mstep _ hB hC hM hk hT (by decide), size_mstep _ hB hC hM hk hT (by decide)]
  rw [cs_sizeOf_b4, mm_sizeOf_b5, if_pos (by decide), if_pos (by decide)]
  unfold nSize
  simp only [Nat.zero_add, and_self]
theorem fresh_nat {G S : Nat} {X : gC} {μ : gS} {v : gV0} {hm cnt k d : Nat} (hB : RB G S v hm cnt) (hC : RC G S X v hm cnt) (hM : RM G S μ v hm cnt) (hk : k < S) (hd : d ≤ 7) (hbd : v 5 k ≤ d) : cs_freshness G S k X (nI d) = some (nI (nFresh (v 5 k) d)) ∧ mm_freshOf μ (nI k) (nI d) = some (nI (nFresh (v 5 k) d)) := by
  have hb := hB.2.2.2.2.2.2.1 k hk
  rcases fresh_eq hB hC hM hk (nI d) with ⟨h, _⟩ | ⟨_, _, r, h1, h2⟩
  · exact absurd h (nI_nlt hbd (by omega))
  · have hr : r = nI (nFresh (v 5 k) d) := by
      unfold cs_freshness at h1
      rw [if_pos hk, (hC.2.2.2.1 k hk).2.2, pk_sub hbd] at h1
      have e4 : (4 : Int32) = nI 4 := rfl
      have e0 : (0 : Int32) = nI 0 := rfl
      rw [e4, e0] at h1
      unfold nFresh
      by_cases h : d - v 5 k ≤ 4
      · rw [pk_sub h] at h1
        by_cases h3 : 0 < 4 - (d - v 5 k)
        · rw [if_pos (nI_lt h3 (by omega))] at h1
          exact (Option.some.inj h1).symm
        · rw [if_neg (nI_nlt (by omega) (by decide))] at h1
          rw [← Option.some.inj h1]
          congr 1
          omega
      · have hneg : nI 4 - nI (d - v 5 k) < nI 0 := pk_sneg (a := 4) (b := d - v 5 k) (by omega) (by omega)
        rw [if_neg (fun q => Int32.lt_irrefl (Int32.lt_trans q hneg))] at h1
        rw [← Option.some.inj h1]
        congr 1
        omega
    rw [hr] at h1 h2
    exact ⟨h1, h2⟩
theorem duty_nat {G S : Nat} {X : gC} {μ : gS} {v : gV0} {hm cnt g k d T : Nat} (hB : RB G S v hm cnt) (hC : RC G S X v hm cnt) (hM : RM G S μ v hm cnt) (hg : g < G) (hk : k < S) (hT : T < 8) (hd : d ≤ 7) (hbd : v 5 k ≤ d) : ct_dutyOf G S X g k (nI d) (nI T) = some (nI (nDuty v hm g k d T)) ∧ mm_dutyOf μ (nI g) (nI k) (nI d) (nI T) = some (nI (nDuty v hm g k d T)) := by
  have hG := hB.1
  have hS := hB.2.1
  have hb := hB.2.2.2.2.2.1 g hg
  have hs := hB.2.2.2.2.2.2.1 k hk
  have h9 := hB.2.2.2.1
  have hc := hC.2.2.1 g hg
  have hmm := hM.2.2.2.2.2.1 g hg
  have hcs := hC.2.2.2.1 k hk
  have hms := hM.2.2.2.2.2.2.1 k hk
  have hg5 : gin (nI g) 5 = true := gin_of (by omega) (by decide)
  have hk4 : gin (nI k) 4 = true := gin_of (by omega) (by decide)
  have hgl : (nI g).toNatClampNeg = g := nI_clamp (by omega)
  have hkl : (nI k).toNatClampNeg = k := nI_clamp (by omega)
  have hz : nSize (v 3 k) T ≤ 12 := nSize_le hs.2.1
  have hf := nFresh_le (v 5 k) d
  unfold ct_dutyOf mm_dutyOf nDuty
  rw [if_pos hk, (size_nat hB hC hM hk hT).1, (size_nat hB hC hM hk hT).2]
  simp only [gB1_some, hg, hg5, hk4, hgl, hkl, if_true, hC.1, hM.2.2.1, hc.1, hc.2.1, hc.2.2, hmm.1, hmm.2.1, hmm.2.2, hcs.2.1, hms.2.1, (fresh_nat hB hC hM hk hd hbd).1, (fresh_nat hB hC hM hk hd hbd).2, mm_dutyOf_b62, ch_takes, ci_takes, cg_takes, cg_plainTakes]
  by_cases h1 : nSize (v 3 k) T ≤ hm
  · have h1' : nI (nSize (v 3 k) T) ≤ nI hm := nI_le h1 (by omega)
    simp only [h1, h1', if_true]
    exact ⟨rfl, rfl⟩
  have h1' : ¬ nI (nSize (v 3 k) T) ≤ nI hm := nI_ge (Nat.lt_of_not_le h1) (by omega)
  simp only [h1, h1', if_false]
  by_cases h2 : v 2 g = v 4 k
  · simp only [h2, if_true]
    exact ⟨rfl, rfl⟩
  have h2' : ¬ nI (v 2 g) = nI (v 4 k) := fun q => h2 ((nI_eq (by omega) (by omega)).mp q)
  simp only [h2, h2', if_false]
  unfold nTake
  have e2 : (2 : Int32) = nI 2 := rfl
  have hmul : nSize (v 3 k) T * v 1 g * nFresh (v 5 k) d ≤ 12 * 9 * 4 := Nat.mul_le_mul (Nat.mul_le_mul hz hb.2.2.1) hf
  have hv : v 0 g = 0 ∨ v 0 g = 1 ∨ v 0 g = 2 := by omega
  have a01 : ¬ nI 0 = 1 := by decide
  have a02 : ¬ nI 0 = 2 := by decide
  have a11 : nI 1 = 1 := by decide
  have a12 : ¬ nI 1 = 2 := by decide
  have a21 : ¬ nI 2 = 1 := by decide
  have a22 : nI 2 = 2 := by decide
  have b01 : ¬ (0 : Nat) = 1 := by decide
  have b02 : ¬ (0 : Nat) = 2 := by decide
  have b21 : ¬ (2 : Nat) = 1 := by decide
  rcases hv with h | h | h
  · simp only [h, a01, a02, b01, b02, if_false, pk_mul, gB1_some, and_self]
  · simp only [h, if_pos a11, if_neg a12, if_true, pk_mul, nI_1, and_self]
  · simp only [h, if_neg a21, if_pos a22, if_neg b21, if_true, pk_mul]
    rw [e2, pk_div (by omega) (by decide) (by decide)]
    exact ⟨rfl, rfl⟩
theorem st_duty : St_duty := by
  intro G S X μ y1 y2 y3 y4 hR
  obtain ⟨v, hm, cnt, hB, hC, hM, hX⟩ := id hR
  have hS := hB.2.1
  unfold cx_duty mm_duty
  rcases at_gate S X hB.1 hM.1 y1 with ⟨g, hg, rfl, e1, e2⟩ | ⟨e1, e2⟩ <;> rcases at_story G X hB.2.1 hM.2.1 y2 with ⟨k, hk, rfl, e3, e4⟩ | ⟨e3, e4⟩
  · rw [e1, e2, e3, e4, cday_eq, day_eq, cwithin_eq, within_eq]
    have hk4 : gin (nI k) 4 = true := gin_of (by omega) (by decide)
    have hkl : (nI k).toNatClampNeg = k := nI_clamp (by omega)
    simp only [gB1_some, gN, if_true, hk, hk4, hkl, (hM.2.2.2.2.2.2.1 k hk).2.2]
    cases hw : wI y3 0 7 with
    | false => exact ⟨-2, rfl, rfl, hR⟩
    | true =>
      obtain ⟨d, hd, rfl⟩ := wI_nat 7 (by decide) hw
      cases hw2 : wI y4 0 7 with
      | false => exact ⟨-2, rfl, rfl, hR⟩
      | true =>
        obtain ⟨T, hT, rfl⟩ := wI_nat 7 (by decide) hw2
        simp only [if_true]
        have hb := hB.2.2.2.2.2.2.1 k hk
        rcases fresh_eq hB hC hM hk (nI d) with ⟨h, h1, _⟩ | ⟨h, h1, _⟩
        · rw [h1, if_neg (Int32.not_le.mpr h)]
          exact ⟨-9, rfl, rfl, hR⟩
        · have hbd : v 5 k ≤ d := Nat.le_of_not_lt fun q => h (nI_lt q (by omega))
          have hdu := duty_nat (T := T) hB hC hM hg hk (by omega) hd hbd
          rw [h1, if_pos (Int32.not_lt.mp h), hdu.1, hdu.2]
          exact ⟨_, rfl, rfl, hR⟩
  · rw [e1, e2, e3, e4]; exact ⟨-1, rfl, rfl, hR⟩
  · rw [e1, e2, e3]; exact ⟨-1, rfl, rfl, hR⟩
  · rw [e1, e2, e3]; exact ⟨-1, rfl, rfl, hR⟩
