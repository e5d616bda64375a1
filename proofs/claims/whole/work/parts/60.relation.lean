/-! THE RELATION of the class's state and the reference's, and the steps that are owed -/
abbrev gV0 : Type := Nat → Nat → Nat
/-- bounds: v 0 kind, 1 RATE, 2 DEAF (by gate); 3 LARGE, 4 PERSON, 5 BORN (by story); 6 gate of a reading; 7 lane and 1 (0: nothing), 8 length (by sheet) -/
def RB (G S : Nat) (v : gV0) (hm cnt : Nat) : Prop := G ≤ 5 ∧ S ≤ 4 ∧ (G = 0 ↔ S = 0) ∧ hm ≤ 9 ∧ cnt ≤ 8 ∧ (∀ g, g < G → v 0 g ≤ 2 ∧ 1 ≤ v 1 g ∧ v 1 g ≤ 9 ∧ v 2 g ≤ 6) ∧ (∀ k, k < S → 1 ≤ v 3 k ∧ v 3 k ≤ 9 ∧ v 4 k ≤ 5 ∧ v 5 k ≤ 6) ∧ (∀ j, j < cnt → v 6 j < G) ∧ ∀ k, k < 4 → v 7 k ≤ 3 ∧ v 8 k ≤ 60 ∧ (v 7 k = 0 → v 8 k = 0)
def RC (G S : Nat) (X : gC) (v : gV0) (hm cnt : Nat) : Prop := X.1.1 2 = nI hm ∧ X.1.1 5 = nI cnt ∧ (∀ g, g < G → X.2.2 0 g = nI (v 0 g) ∧ X.2.2 1 g = nI (v 1 g) ∧ X.2.2 2 g = nI (v 2 g)) ∧ (∀ k, k < S → X.2.2 3 k = nI (v 3 k) ∧ X.2.2 4 k = nI (v 4 k) ∧ X.2.2 5 k = nI (v 5 k)) ∧ (∀ j, j < cnt → X.1.2 15 j = nI (v 6 j)) ∧ ∀ k, k < 4 → X.1.2 0 k = nI (v 7 k) - 1 ∧ X.1.2 1 k = nI (v 8 k)
def RM (G S : Nat) (μ : gS) (v : gV0) (hm cnt : Nat) : Prop := μ.1 5 = nI G ∧ μ.1 6 = nI S ∧ μ.1 7 = nI hm ∧ μ.1 31 = nI cnt ∧ μ.1 14 = (-9) ∧ (∀ g, g < G → μ.2 8 g = nI (v 0 g) ∧ μ.2 9 g = nI (v 1 g) ∧ μ.2 10 g = nI (v 2 g)) ∧ (∀ k, k < S → μ.2 11 k = nI (v 3 k) ∧ μ.2 12 k = nI (v 4 k) ∧ μ.2 13 k = nI (v 5 k)) ∧ (∀ j, j < cnt → μ.2 32 j = nI (v 6 j)) ∧ ∀ k, k < 4 → μ.2 2 k = (if v 7 k = 0 then (-9) else nI (v 7 k - 1)) ∧ (v 7 k ≠ 0 → μ.2 3 k = nI (v 8 k))
def RX (X : gC) (μ : gS) (v : gV0) (cnt : Nat) : Prop := X.1.1 0 = μ.1 0 ∧ X.1.1 1 = μ.1 1 ∧ (∀ j, j < cnt → X.1.2 16 j = μ.2 33 j) ∧ ∀ k, k < 4 → v 7 k ≠ 0 → ∀ j, j < 60 → X.1.2 (2 + k) j = μ.2 4 (60 * k + j)
def RR (G S : Nat) (X : gC) (μ : gS) : Prop := ∃ (v : gV0) (hm cnt : Nat), RB G S v hm cnt ∧ RC G S X v hm cnt ∧ RM G S μ v hm cnt ∧ RX X μ v cnt
theorem RR.G5 {G S : Nat} {X : gC} {μ : gS} (h : RR G S X μ) : G ≤ 5 := by
  obtain ⟨v, hm, cnt, hb, _⟩ := h
  exact hb.1
def St_town : Prop := ∀ (G S : Nat) (X : gC) (μ : gS) (y1 y2 y3 y4 : Int32), RR G S X μ → ∃ (r : Int32) (G' S' : Nat) (X' : gC) (μ' : gS), cx_town G S X y1 y2 y3 y4 = some (r, (G', S', X')) ∧ mm_town μ y1 y2 y3 y4 = some (r, μ') ∧ RR G' S' X' μ'
def St_ofGate : Prop := ∀ (G S : Nat) (X : gC) (μ : gS) (y1 y2 : Int32) , RR G S X μ → ∃ (r : Int32), cx_ofGate G S X y1 y2 = some r ∧ mm_ofGate μ y1 y2 = some r ∧ RR G S X μ
def St_ofStory : Prop := ∀ (G S : Nat) (X : gC) (μ : gS) (y1 y2 : Int32) , RR G S X μ → ∃ (r : Int32), cx_ofStory G S X y1 y2 = some r ∧ mm_ofStory μ y1 y2 = some r ∧ RR G S X μ
def St_harmless : Prop := ∀ (G S : Nat) (X : gC) (μ : gS) (y1 : Int32) , RR G S X μ → ∃ (r : Int32) (X' : gC) (μ' : gS), cx_harmless G S X y1 = some (r, X') ∧ mm_harmless μ y1 = some (r, μ') ∧ RR G S X' μ'
def St_rate : Prop := ∀ (G S : Nat) (X : gC) (μ : gS) (y1 y2 : Int32) , RR G S X μ → ∃ (r : Int32) (X' : gC) (μ' : gS), cx_rate G S X y1 y2 = some (r, X') ∧ mm_rate μ y1 y2 = some (r, μ') ∧ RR G S X' μ'
def St_fresh : Prop := ∀ (G S : Nat) (X : gC) (μ : gS) (y1 y2 : Int32) , RR G S X μ → ∃ (r : Int32), cx_fresh G S X y1 y2 = some r ∧ mm_fresh μ y1 y2 = some r ∧ RR G S X μ
def St_duty : Prop := ∀ (G S : Nat) (X : gC) (μ : gS) (y1 y2 y3 y4 : Int32) , RR G S X μ → ∃ (r : Int32), cx_duty G S X y1 y2 y3 y4 = some r ∧ mm_duty μ y1 y2 y3 y4 = some r ∧ RR G S X μ
def St_passages : Prop := ∀ (G S : Nat) (X : gC) (μ : gS) (y1 y2 y3 y4 y5 : Int32) , RR G S X μ → ∃ (r : Int32) (X' : gC) (μ' : gS), cx_passages G S X y1 y2 y3 y4 y5 = some (r, X') ∧ mm_passages μ y1 y2 y3 y4 y5 = some (r, μ') ∧ RR G S X' μ'
def St_least : Prop := ∀ (G S : Nat) (X : gC) (μ : gS) (y1 y2 y3 : Int32) , RR G S X μ → ∃ (r : Int32) (X' : gC) (μ' : gS), cx_least G S X y1 y2 y3 = some (r, X') ∧ mm_least μ y1 y2 y3 = some (r, μ') ∧ RR G S X' μ'
def St_free : Prop := ∀ (G S : Nat) (X : gC) (μ : gS) (y1 : Int32) , RR G S X μ → ∃ (r : Int32) (X' : gC) (μ' : gS), cx_free G S X y1 = some (r, X') ∧ mm_free μ y1 = some (r, μ') ∧ RR G S X' μ'
def St_worth : Prop := ∀ (G S : Nat) (X : gC) (μ : gS) (y1 y2 y3 : Int32) , RR G S X μ → ∃ (r : Int32) (X' : gC) (μ' : gS), cx_worth G S X y1 y2 y3 = some (r, X') ∧ mm_worth μ y1 y2 y3 = some (r, μ') ∧ RR G S X' μ'
def St_reading : Prop := ∀ (G S : Nat) (X : gC) (μ : gS) (y1 y2 : Int32) , RR G S X μ → ∃ (r : Int32) (X' : gC) (μ' : gS), cx_reading G S X y1 y2 = some (r, X') ∧ mm_reading μ y1 y2 = some (r, μ') ∧ RR G S X' μ'
def St_back : Prop := ∀ (G S : Nat) (X : gC) (μ : gS) (y1 : Int32) , RR G S X μ → ∃ (r : Int32) (X' : gC) (μ' : gS), cx_back G S X y1 = some (r, X') ∧ mm_back μ y1 = some (r, μ') ∧ RR G S X' μ'
def St_sizes : Prop := ∀ (G S : Nat) (X : gC) (μ : gS) (y1 y2 y3 y4 y5 : Int32) , RR G S X μ → ∃ (r : Int32) (X' : gC) (μ' : gS), cx_sizes G S X y1 y2 y3 y4 y5 = some (r, X') ∧ mm_sizes μ y1 y2 y3 y4 y5 = some (r, μ') ∧ RR G S X' μ'
def St_persons : Prop := ∀ (G S : Nat) (X : gC) (μ : gS) (y1 y2 y3 y4 y5 : Int32) , RR G S X μ → ∃ (r : Int32) (X' : gC) (μ' : gS), cx_persons G S X y1 y2 y3 y4 y5 = some (r, X') ∧ mm_persons μ y1 y2 y3 y4 y5 = some (r, μ') ∧ RR G S X' μ'
def St_kinds : Prop := ∀ (G S : Nat) (X : gC) (μ : gS) (y1 y2 y3 y4 y5 : Int32) , RR G S X μ → ∃ (r : Int32) (X' : gC) (μ' : gS), cx_kinds G S X y1 y2 y3 y4 y5 = some (r, X') ∧ mm_kinds μ y1 y2 y3 y4 y5 = some (r, μ') ∧ RR G S X' μ'
def St_limits : Prop := ∀ (G S : Nat) (X : gC) (μ : gS) (y1 y2 y3 y4 : Int32) , RR G S X μ → ∃ (r : Int32) (X' : gC) (μ' : gS), cx_limits G S X y1 y2 y3 y4 = some (r, X') ∧ mm_limits μ y1 y2 y3 y4 = some (r, μ') ∧ RR G S X' μ'
def St_odds : Prop := ∀ (G S : Nat) (X : gC) (μ : gS) (y1 y2 y3 y4 : Int32) , RR G S X μ → ∃ (r : Int64) (X' : gC), cx_odds G S X y1 y2 y3 y4 = some (r, X') ∧ mm_odds μ y1 y2 y3 y4 = some r ∧ RR G S X' μ
def St_sheet : Prop := ∀ (G S : Nat) (X : gC) (μ : gS) (y1 y2 y3 : Int32) , RR G S X μ → ∃ (r : Int32) (X' : gC) (μ' : gS), cx_sheet G S X y1 y2 y3 = some (r, X') ∧ mm_sheet μ y1 y2 y3 = some (r, μ') ∧ RR G S X' μ'
def St_lose : Prop := ∀ (G S : Nat) (X : gC) (μ : gS) (y1 : Int32) , RR G S X μ → ∃ (r : Int32) (X' : gC) (μ' : gS), cx_lose G S X y1 = some (r, X') ∧ mm_lose μ y1 = some (r, μ') ∧ RR G S X' μ'
def St_put : Prop := ∀ (G S : Nat) (X : gC) (μ : gS) (y1 y2 y3 : Int32) , RR G S X μ → ∃ (r : Int32) (X' : gC) (μ' : gS), cx_put G S X y1 y2 y3 = some (r, X') ∧ mm_put μ y1 y2 y3 = some (r, μ') ∧ RR G S X' μ'
def St_cell : Prop := ∀ (G S : Nat) (X : gC) (μ : gS) (y1 y2 y3 : Int32) , RR G S X μ → ∃ (r : Int64) (X' : gC) (μ' : gS), cx_cell G S X y1 y2 y3 = some (r, X') ∧ mm_cell μ y1 y2 y3 = some (r, μ') ∧ RR G S X' μ'
def St_copy : Prop := ∀ (G S : Nat) (X : gC) (μ : gS) (y1 y2 y3 y4 y5 : Int32) , RR G S X μ → ∃ (r : Int32) (X' : gC) (μ' : gS), cx_copy G S X y1 y2 y3 y4 y5 = some (r, X') ∧ mm_copy μ y1 y2 y3 y4 y5 = some (r, μ') ∧ RR G S X' μ'
def St_tell : Prop := ∀ (G S : Nat) (X : gC) (μ : gS) (y1 : Int32) , RR G S X μ → ∃ (r : Int32) (X' : gC) (μ' : gS), cx_tell G S X y1 = some (r, X') ∧ mm_tell μ y1 = some (r, μ') ∧ RR G S X' μ'
def St_knock : Prop := ∀ (G S : Nat) (X : gC) (μ : gS) (y1 : Int32) , RR G S X μ → ∃ (r : Int32) (X' : gC) (μ' : gS), cx_knock G S X y1 = some (r, X') ∧ mm_knock μ y1 = some (r, μ') ∧ RR G S X' μ'
def St_as : Prop := ∀ (G S : Nat) (X : gC) (μ : gS) (y1 y2 : Int32) , RR G S X μ → ∃ (r : Int32) (X' : gC) (μ' : gS), cx_as G S X y1 y2 = some (r, X') ∧ mm_as μ y1 y2 = some (r, μ') ∧ RR G S X' μ'
def St_trace : Prop := ∀ (G S : Nat) (X : gC) (μ : gS) , RR G S X μ → ∃ (r : Int32), cx_trace G S X  = some r ∧ mm_trace μ  = some r ∧ RR G S X μ
def St_fault : Prop := ∀ (G S : Nat) (X : gC) (μ : gS) , RR G S X μ → ∃ (r : Int32), cx_fault G S X  = some r ∧ mm_fault μ  = some r ∧ RR G S X μ
def St_many : Prop := ∀ (G S : Nat) (X : gC) (μ : gS) (y1 : Int32) , RR G S X μ → ∃ (r : Int32), cx_many G S X y1 = some r ∧ mm_many μ y1 = some r ∧ RR G S X μ
