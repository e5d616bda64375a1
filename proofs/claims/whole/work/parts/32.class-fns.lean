/-! the landed class, method by method, as pure functions (printed by wip/gen/cls.py) -/
def cg_kind (G : Nat) (S : Nat) (kg : Nat) (X : gC) : Option Int32 := 
    some 0

def cg_plainTakes (G : Nat) (S : Nat) (kg : Nat) (X : gC) (x1 : Int32) (x2 : Int32) : Option Int32 := 
    if kg < G then
    some ((x1 * (X.2.2 1 kg)) * x2)
    else none

def cg_takes (G : Nat) (S : Nat) (kg : Nat) (X : gC) (x1 : Int32) (x2 : Int32) : Option Int32 := 
    if kg < G then
    if X.2.2 0 kg = 1 then
    gB1 (cg_plainTakes G S kg X x1 x2) fun r5 =>
    some r5
    else if X.2.2 0 kg = 2 then
    gB1 (cg_plainTakes G S kg X x1 x2) fun r7 =>
    some r7
    else
    gB1 (cg_plainTakes G S kg X x1 x2) fun r9 =>
    some r9
    else none

def ft_leave (σ : gS) (x1 : Int32) : Option (Unit × gS) := 
    gLet (sS σ 1 (((31 : Int32) * (σ.1 1)) + x1)) fun σ1 =>
    some ((), σ1)

def cg_plainTelling (G : Nat) (S : Nat) (kg : Nat) (X : gC) : Option (Int32 × gC) := 
    gB2 (ft_leave X.1 1) fun r2 X3 =>
    gLet (X3, X.2) fun X4 =>
    if kg < G then
    some (X4.2.2 1 kg, X4)
    else none

def cg_telling (G : Nat) (S : Nat) (kg : Nat) (X : gC) : Option (Int32 × gC) := 
    if kg < G then
    if X.2.2 0 kg = 1 then
    gB2 (cg_plainTelling G S kg X ) fun r5 X6 =>
    some (r5, X6)
    else if X.2.2 0 kg = 2 then
    gB2 (cg_plainTelling G S kg X ) fun r8 X9 =>
    some (r8, X9)
    else
    gB2 (cg_plainTelling G S kg X ) fun r11 X12 =>
    some (r11, X12)
    else none

def cg_knocking (G : Nat) (S : Nat) (kg : Nat) (X : gC) : Option (Int32 × gC) := 
    gB2 (ft_leave X.1 4) fun r2 X3 =>
    gLet (X3, X.2) fun X4 =>
    if kg < G then
    some (nI kg, X4)
    else none

def ci_kind (G : Nat) (S : Nat) (kg : Nat) (X : gC) : Option Int32 := 
    some 2

def ci_takes (G : Nat) (S : Nat) (kg : Nat) (X : gC) (x1 : Int32) (x2 : Int32) : Option Int32 := 
    if kg < G then
    if X.2.2 0 kg = 1 then
    none
    else if X.2.2 0 kg = 2 then
    gB1 (cg_plainTakes G S kg X x1 x2) fun r5 =>
    some (r5 / 2)
    else
    none
    else none

def ch_telling (G : Nat) (S : Nat) (kg : Nat) (X : gC) : Option (Int32 × gC) := 
    gB2 (ft_leave X.1 2) fun r2 X3 =>
    gLet (X3, X.2) fun X4 =>
    if kg < G then
    if X4.2.2 0 kg = 1 then
    gB2 (cg_telling G S kg X4 ) fun r9 X10 =>
    some (r9 + 100, X10)
    else if X4.2.2 0 kg = 2 then
    gB2 (cg_telling G S kg X4 ) fun r12 X13 =>
    some (r12 + 100, X13)
    else
    gB2 (cg_telling G S kg X4 ) fun r15 X16 =>
    some (r15 + 100, X16)
    else none

def ci_telling (G : Nat) (S : Nat) (kg : Nat) (X : gC) : Option (Int32 × gC) := 
    gB2 (ft_leave X.1 3) fun r2 X3 =>
    gLet (X3, X.2) fun X4 =>
    if kg < G then
    if X4.2.2 0 kg = 1 then
    gB2 (ch_telling G S kg X4 ) fun r9 X10 =>
    if X10.2.2 0 kg = 1 then
    none
    else if X10.2.2 0 kg = 2 then
    gB2 (cg_plainTelling G S kg X10 ) fun r14 X15 =>
    some (r9 + r14, X15)
    else
    none
    else if X4.2.2 0 kg = 2 then
    gB2 (ch_telling G S kg X4 ) fun r17 X18 =>
    if X18.2.2 0 kg = 1 then
    none
    else if X18.2.2 0 kg = 2 then
    gB2 (cg_plainTelling G S kg X18 ) fun r22 X23 =>
    some (r17 + r22, X23)
    else
    none
    else
    gB2 (ch_telling G S kg X4 ) fun r25 X26 =>
    if X26.2.2 0 kg = 1 then
    none
    else if X26.2.2 0 kg = 2 then
    gB2 (cg_plainTelling G S kg X26 ) fun r30 X31 =>
    some (r25 + r30, X31)
    else
    none
    else none

def ci_knocking (G : Nat) (S : Nat) (kg : Nat) (X : gC) : Option (Int32 × gC) := 
    gB2 (ft_leave X.1 5) fun r2 X3 =>
    gLet (X3, X.2) fun X4 =>
    some (90, X4)

def fd_note (σ : gS) (x1 : Int32) (x2 : Int32) : Option (Int32 × gS) := 
    if (σ.1 5) < 8 then
    if gin (σ.1 5) 8 = true then
    gLet (sA σ 15 ((σ.1 5).toNatClampNeg) x1) fun σ3 =>
    if gin (σ3.1 5) 8 = true then
    gLet (sA σ3 16 ((σ3.1 5).toNatClampNeg) x2) fun σ5 =>
    gLet (sS σ5 5 ((σ5.1 5) + 1)) fun σ6 =>
    some ((σ6.1 5) - 1, σ6)
    else none
    else none
    else
    some ((-4), σ)

def fo_begin (σ : gS) : Option (Unit × gS) := 
    gLet (sS σ 3 0) fun σ1 =>
    gLet (sS σ1 4 (-9)) fun σ2 =>
    gLet (sR σ2 13 (fun j => if j < 4 then (0 : Int32) else σ2.2 13 j)) fun σ3 =>
    gLet (sR σ3 14 (fun j => if j < 4 then (0 : Int32) else σ3.2 14 j)) fun σ4 =>
    some ((), σ4)

def cx_isWithin (x1 : Int32) (x2 : Int32) (x3 : Int32) : Option Bool := 
    if x1 < x2 then
    some false
    else
    if x3 < x1 then
    some false
    else
    some true

def fo_bundleOf_b48 (lp3 : Int32 → Int32 → Int32 → Int32 → gS → Option (Int32 × gS)) (v1 : Int32) (v2 : Int32) (v3 : Int32) (v4 : Int32) (σ : gS) : Option (Int32 × gS) := 
    lp3 v1 v2 v3 (v4 + 1) σ
def fo_bundleOf_b3  : Nat → Int32 → Int32 → Int32 → Int32 → gS → Option (Int32 × gS)
  | 0, _, _, _, _, _ => none
  | n + 1, v1, v2, v3, v4, σ => 
    if (σ.1 3) ≤ v4 then
    if (σ.1 3) < 12 then
    if gin (σ.1 3) 12 = true then
    gLet (sA σ 9 ((σ.1 3).toNatClampNeg) v1) fun σ4 =>
    if gin (σ4.1 3) 12 = true then
    gLet (sA σ4 10 ((σ4.1 3).toNatClampNeg) v2) fun σ6 =>
    if gin (σ6.1 3) 12 = true then
    gLet (sA σ6 11 ((σ6.1 3).toNatClampNeg) v3) fun σ8 =>
    if gin (σ8.1 3) 12 = true then
    gLet (sA σ8 12 ((σ8.1 3).toNatClampNeg) 0) fun σ10 =>
    gLet (sS σ10 3 ((σ10.1 3) + 1)) fun σ11 =>
    some ((σ11.1 3) - 1, σ11)
    else none
    else none
    else none
    else none
    else
    some (12, σ)
    else
    if gin v4 12 = true then
    if (σ.2 9 v4.toNatClampNeg) = v1 then
    if (σ.2 10 v4.toNatClampNeg) = v2 then
    if (σ.2 11 v4.toNatClampNeg) = v3 then
    some (v4, σ)
    else
    fo_bundleOf_b48 (fo_bundleOf_b3 n) v1 v2 v3 v4 σ
    else
    fo_bundleOf_b48 (fo_bundleOf_b3 n) v1 v2 v3 v4 σ
    else
    fo_bundleOf_b48 (fo_bundleOf_b3 n) v1 v2 v3 v4 σ
    else none
def fo_bundleOf (σ : gS) (x1 : Int32) (x2 : Int32) (x3 : Int32) : Option (Int32 × gS) := 
    fo_bundleOf_b3 1000 x1 x2 x3 0 σ

def fo_pass_b75  (v2 : Int32) (v4 : Int32) (σ : gS) : Option (Unit × gS) := 
    if gin v2 4 = true then
    gLet (sA σ 13 v2.toNatClampNeg ((σ.2 13 v2.toNatClampNeg) + 1)) fun σ2 =>
    gLet (sA σ2 14 v2.toNatClampNeg (if (σ2.2 14 v2.toNatClampNeg) < v4 then v4 else (σ2.2 14 v2.toNatClampNeg))) fun σ3 =>
    some ((), σ3)
    else none
def fo_pass (σ : gS) (x1 : Int32) (x2 : Int32) (x3 : Int32) (x4 : Int32) (x5 : Int32) : Option (Unit × gS) := 
    if (σ.1 4) = (-9) then
    gB1 (cx_isWithin x2 0 3) fun r6 =>
    if r6 = true then
    if x5 = 0 then
    gLet (sS σ 4 x1) fun σ9 =>
    some ((), σ9)
    else
    if gin x2 4 = true then
    if (σ.2 13 x2.toNatClampNeg) < 3 then
    gB2 (fo_bundleOf σ x2 x3 x4) fun r13 σ14 =>
    if 12 ≤ r13 then
    fo_pass_b75 x2 x4 σ14
    else
    if gin r13 12 = true then
    gLet (sA σ14 12 r13.toNatClampNeg ((σ14.2 12 r13.toNatClampNeg) ||| ((1 : Int32) <<< ((σ14.2 13 x2.toNatClampNeg) &&& 31)))) fun σ17 =>
    fo_pass_b75 x2 x4 σ17
    else none
    else
    gLet (sS σ 4 x1) fun σ18 =>
    some ((), σ18)
    else none
    else
    some ((), σ)
    else
    some ((), σ)

def fo_wholeDay_b24 (σ : gS)  (v1 : Int32) (s0 : Int32) : Option Int32 := 
    if s0 = 0 then
    some (-9)
    else
    if gin v1 4 = true then
    some (σ.2 14 v1.toNatClampNeg)
    else none
def fo_wholeDay_b23 (σ : gS)  (v1 : Int32) : Option Int32 := 
    fo_wholeDay_b24 σ v1 0
def fo_wholeDay (σ : gS) (x1 : Int32) : Option Int32 := 
    gB1 (cx_isWithin x1 0 3) fun r4 =>
    if r4 = true then
    if gin x1 4 = true then
    if (σ.2 13 x1.toNatClampNeg) = 3 then
    fo_wholeDay_b24 σ x1 1
    else
    fo_wholeDay_b23 σ x1
    else none
    else
    fo_wholeDay_b23 σ x1

def fr_isThere (kr : Nat) (σ : gS) : Option Bool := 
    if kr < 4 then
    if (σ.2 0 kr) = (-1) then
    some false
    else
    some true
    else none

def fr_begin (kr : Nat) (σ : gS) (x1 : Int32) (x2 : Int32) : Option (Unit × gS) := 
    if kr < 4 then
    gLet (sR σ (2 + kr) (fun j => if j < 60 then (0 : Int32) else σ.2 (2 + kr) j)) fun σ2 =>
    gLet (sA σ2 0 kr x1) fun σ3 =>
    gLet (sA σ3 1 kr x2) fun σ4 =>
    some ((), σ4)
    else none

def fr_drop (kr : Nat) (σ : gS) : Option (Unit × gS) := 
    if kr < 4 then
    gLet (sA σ 0 kr (-1)) fun σ2 =>
    gLet (sA σ2 1 kr 0) fun σ3 =>
    some ((), σ3)
    else none

def fr_hasCell (kr : Nat) (σ : gS) (x1 : Int32) : Option Bool := 
    if x1 < 0 then
    some false
    else
    if kr < 4 then
    if (σ.2 1 kr) ≤ x1 then
    some false
    else
    some true
    else none

def fr_hasCells (kr : Nat) (σ : gS) (x1 : Int32) (x2 : Int32) : Option Bool := 
    if x1 < 0 then
    some false
    else
    if kr < 4 then
    if (σ.2 1 kr) < x1 then
    some false
    else
    if x2 < 0 then
    some false
    else
    if ((σ.2 1 kr) - x1) < x2 then
    some false
    else
    some true
    else none

def fr_faultTakenAs (kr : Nat) (σ : gS) (x1 : Int32) : Option Int32 := 
    if kr < 4 then
    gB1 (fr_isThere kr σ ) fun r3 =>
    if r3 = true then
    if (σ.2 0 kr) = x1 then
    some 0
    else
    some 2
    else
    some 1
    else none

def fr_read (kr : Nat) (σ : gS) (x1 : Int32) : Option Int32 := 
    if kr < 4 then
    gB1 (fr_hasCell kr σ x1) fun r3 =>
    if r3 = true then
    if gin x1 60 = true then
    some (σ.2 (2 + kr) x1.toNatClampNeg)
    else none
    else
    some 0
    else none

def fr_cutToLane (kr : Nat) (σ : gS) (x1 : Int32) : Option Int32 := 
    if kr < 4 then
    if (σ.2 0 kr) = 0 then
    some x1.toInt8.toInt32
    else
    if (σ.2 0 kr) = 1 then
    some x1.toInt16.toInt32
    else
    some x1
    else none

def fr_write (kr : Nat) (σ : gS) (x1 : Int32) (x2 : Int32) : Option (Unit × gS) := 
    if kr < 4 then
    gB1 (fr_hasCell kr σ x1) fun r3 =>
    if r3 = true then
    gB1 (fr_cutToLane kr σ x2) fun r6 =>
    if gin x1 60 = true then
    gLet (sA σ (2 + kr) x1.toNatClampNeg r6) fun σ8 =>
    some ((), σ8)
    else none
    else
    some ((), σ)
    else none

def cs_isBornBy (G : Nat) (S : Nat) (kg : Nat) (X : gC) (x1 : Int32) : Option Bool := 
    if kg < S then
    if x1 < (X.2.2 5 kg) then
    some false
    else
    some true
    else none

def cs_freshness (G : Nat) (S : Nat) (kg : Nat) (X : gC) (x1 : Int32) : Option Int32 := 
    if kg < S then
    some (if (0 : Int32) < ((4 : Int32) - (x1 - (X.2.2 5 kg))) then ((4 : Int32) - (x1 - (X.2.2 5 kg))) else (0 : Int32))
    else none

def cs_sizeOfThird (G : Nat) (S : Nat) (kg : Nat) (X : gC) (x1 : Int32) : Option Int32 := 
    if kg < S then
    if ((X.2.2 3 kg) - (X.2.2 3 kg) / 3 * 3) ≤ x1 then
    some (((X.2.2 3 kg) / 3) + 0)
    else
    some (((X.2.2 3 kg) / 3) + 1)
    else none

def cs_sizeOf_b25 (G : Nat) (S : Nat) (kg : Nat) (X : gC) (lp4 : Int32 → Int32 → Int32 → Option Int32) (v1 : Int32) (v2 : Int32) (v3 : Int32) : Option Int32 := 
    lp4 v1 v2 (v3 + 1)
def cs_sizeOf_b4 (G : Nat) (S : Nat) (kg : Nat) (X : gC)  : Nat → Int32 → Int32 → Int32 → Option Int32
  | 0, _, _, _ => none
  | n + 1, v1, v2, v3 => 
    if 3 ≤ v3 then
    some v2
    else
    if (v1 &&& ((1 : Int32) <<< (v3 &&& 31))) = 0 then
    cs_sizeOf_b25 G S kg X (cs_sizeOf_b4 G S kg X n) v1 v2 v3
    else
    if kg < S then
    gB1 (cs_sizeOfThird G S kg X v3) fun r5 =>
    cs_sizeOf_b25 G S kg X (cs_sizeOf_b4 G S kg X n) v1 (v2 + r5) v3
    else none
def cs_sizeOf (G : Nat) (S : Nat) (kg : Nat) (X : gC) (x1 : Int32) : Option Int32 := 
    cs_sizeOf_b4 G S kg X 1000 x1 0 0

def ch_kind (G : Nat) (S : Nat) (kg : Nat) (X : gC) : Option Int32 := 
    some 1

def ch_takes (G : Nat) (S : Nat) (kg : Nat) (X : gC) (x1 : Int32) (x2 : Int32) : Option Int32 := 
    if kg < G then
    some ((x1 * ((X.2.2 1 kg) + 1)) * x2)
    else none

def tt_beginsItem_b33 (σ : gS) (kr : Nat)  (v1 : Int32) (τ : gS) : Option (Bool × gS) := 
    if v1 = 59 then
    if (τ.1 2) ≤ 0 then
    some (false, τ)
    else
    if 4 ≤ (τ.1 3) then
    some (false, τ)
    else
    gLet (sS τ 3 ((τ.1 3) + 1)) fun τ4 =>
    some (true, τ4)
    else
    some (false, τ)
def tt_beginsItem (σ : gS) (kr : Nat) (τ : gS) (x1 : Int32) : Option (Bool × gS) := 
    if x1 = 44 then
    if (τ.1 3) = 0 then
    if 5 ≤ (τ.1 2) then
    tt_beginsItem_b33 σ kr x1 τ
    else
    gLet (sS τ 2 ((τ.1 2) + 1)) fun τ8 =>
    some (true, τ8)
    else
    tt_beginsItem_b33 σ kr x1 τ
    else
    tt_beginsItem_b33 σ kr x1 τ

def tt_codeAt (σ : gS) (kr : Nat) (τ : gS) (x1 : Int32) : Option Int32 := 
    if kr < 4 then
    gB1 (fr_read kr σ ((τ.1 0) + x1)) fun r3 =>
    some r3
    else none

def tt_kindOf (x1 : Int32) : Option Int32 := 
    if x1 = 103 then
    some 0
    else
    if x1 = 108 then
    some 2
    else
    if x1 = 115 then
    some 1
    else
    some (-9)

def tt_fitsGate (x1 : Int32) (x2 : Int32) : Option Bool := 
    if x1 = 1 then
    gB1 (tt_kindOf x2) fun r3 =>
    if r3 = (-9) then
    some false
    else
    some true
    else
    if x1 = 2 then
    gB1 (cx_isWithin x2 49 57) fun r7 =>
    some r7
    else
    gB1 (cx_isWithin x2 48 54) fun r9 =>
    some r9

def tt_fitsStory (x1 : Int32) (x2 : Int32) : Option Bool := 
    if x1 = 1 then
    gB1 (cx_isWithin x2 49 57) fun r3 =>
    some r3
    else
    if x1 = 2 then
    gB1 (cx_isWithin x2 48 53) fun r6 =>
    some r6
    else
    gB1 (cx_isWithin x2 48 54) fun r8 =>
    some r8

def tt_goesOn (σ : gS) (kr : Nat) (τ : gS) (x1 : Int32) : Option (Bool × gS) := 
    gB1 (tt_codeAt σ kr τ x1) fun r2 =>
    if x1 = 0 then
    if r2 = 106 then
    some (true, τ)
    else
    some (false, τ)
    else
    gLet ((x1 - 1) - (x1 - 1) / 4 * 4) fun y4 =>
    if y4 = 0 then
    gB2 (tt_beginsItem σ kr τ r2) fun r12 τ13 =>
    some (r12, τ13)
    else
    if (τ.1 3) = 0 then
    gB1 (tt_fitsGate y4 r2) fun r10 =>
    some (r10, τ)
    else
    gB1 (tt_fitsStory y4 r2) fun r8 =>
    some (r8, τ)

def tt_firstFault_b48 (σ : gS) (kr : Nat)  (s0 : Int32) (τ : gS) : Option (Int32 × gS) := 
    if s0 = 0 then
    some (τ.1 1, τ)
    else
    some ((-9), τ)
def tt_firstFault_b47 (σ : gS) (kr : Nat)   (τ : gS) : Option (Int32 × gS) := 
    tt_firstFault_b48 σ kr 0 τ
def tt_firstFault_b2 (σ : gS) (kr : Nat)  : Nat → Int32 → gS → Option (Int32 × gS)
  | 0, _, _ => none
  | n + 1, v1, τ => 
    if (τ.1 1) ≤ v1 then
    if (τ.1 3) ≤ 0 then
    tt_firstFault_b47 σ kr τ
    else
    if ((τ.1 1) - (τ.1 1) / 4 * 4) = 1 then
    tt_firstFault_b48 σ kr 1 τ
    else
    tt_firstFault_b47 σ kr τ
    else
    gB2 (tt_goesOn σ kr τ v1) fun r6 τ7 =>
    if r6 = true then
    (tt_firstFault_b2 σ kr n) (v1 + 1) τ7
    else
    some (v1, τ7)
def tt_firstFault (σ : gS) (kr : Nat) (τ : gS) : Option (Int32 × gS) := 
    tt_firstFault_b2 σ kr 1000 0 τ

def tt_gateKind (σ : gS) (kr : Nat) (τ : gS) (x1 : Int32) : Option Int32 := 
    gB1 (tt_codeAt σ kr τ (((1 : Int32) + ((4 : Int32) * x1)) + 1)) fun r2 =>
    gB1 (tt_kindOf r2) fun r4 =>
    some r4

def tt_gateDigit (σ : gS) (kr : Nat) (τ : gS) (x1 : Int32) (x2 : Int32) : Option Int32 := 
    gB1 (tt_codeAt σ kr τ (((1 : Int32) + ((4 : Int32) * x1)) + x2)) fun r2 =>
    some (r2 - 48)

def tt_storyDigit (σ : gS) (kr : Nat) (τ : gS) (x1 : Int32) (x2 : Int32) : Option Int32 := 
    gB1 (tt_gateDigit σ kr τ ((τ.1 2) + x1) x2) fun r2 =>
    some r2

def ct_penceOf (x1 : Int32) : Option Int32 := 
    some (x1 >>> (18 &&& 31))

def ct_spotShift (x1 : Int32) : Option Int32 := 
    some ((6 : Int32) * ((2 : Int32) - x1))

def ct_spotOf (x1 : Int32) (x2 : Int32) : Option Int32 := 
    gB1 (ct_spotShift x2) fun r2 =>
    some ((x1 >>> (r2 &&& 31)) &&& 63)

def ct_stands (G : Nat) (S : Nat) (X : gC) : Option Bool := 
    if (nI S) ≤ 0 then
    some false
    else
    some true

def ct_gateAt (G : Nat) (S : Nat) (X : gC) (x1 : Int32) : Option (Option Nat) := 
    if x1 < 0 then
    some none
    else
    if (nI G) ≤ x1 then
    some none
    else
    if gin x1 G = true then
    some (some x1.toNatClampNeg)
    else none

def ct_storyAt (G : Nat) (S : Nat) (X : gC) (x1 : Int32) : Option (Option Nat) := 
    if x1 < 0 then
    some none
    else
    if (nI S) ≤ x1 then
    some none
    else
    if gin x1 S = true then
    some (some x1.toNatClampNeg)
    else none

def ct_dutyOf (G : Nat) (S : Nat) (X : gC) (x1 : Nat) (x2 : Nat) (x3 : Int32) (x4 : Int32) : Option Int32 := 
    if x2 < S then
    gB1 (cs_sizeOf G S x2 X x4) fun r3 =>
    if r3 ≤ (X.1.1 2) then
    some 0
    else
    if x1 < G then
    if (X.2.2 2 x1) = (X.2.2 4 x2) then
    some 0
    else
    gB1 (cs_freshness G S x2 X x3) fun r8 =>
    if X.2.2 0 x1 = 1 then
    gB1 (ch_takes G S x1 X r3 r8) fun r12 =>
    some r12
    else if X.2.2 0 x1 = 2 then
    gB1 (ci_takes G S x1 X r3 r8) fun r14 =>
    some r14
    else
    gB1 (cg_takes G S x1 X r3 r8) fun r16 =>
    some r16
    else none
    else none

def ct_collect_b81 (G : Nat) (S : Nat) (lp10 : Int32 → gC → Option (Unit × gC)) (v2 : Int32) (X : gC) : Option (Unit × gC) := 
    lp10 (v2 + 1) X
def ct_collect_b10 (G : Nat) (S : Nat)  : Nat → Int32 → gC → Option (Unit × gC)
  | 0, _, _ => none
  | n + 1, v2, X => 
    if (X.1.1 3) ≤ v2 then
    some ((), X)
    else
    if gin v2 12 = true then
    gB1 (ct_gateAt G S X (X.1.2 10 v2.toNatClampNeg)) fun r4 =>
    gN r4 (
    gB1 (ct_storyAt G S X (X.1.2 9 v2.toNatClampNeg)) fun r7 =>
    gN r7 (
    ct_collect_b81 G S (ct_collect_b10 G S n) v2 X) fun k8 =>
    ct_collect_b81 G S (ct_collect_b10 G S n) v2 X) fun k5 =>
    gB1 (ct_storyAt G S X (X.1.2 9 v2.toNatClampNeg)) fun r10 =>
    gN r10 (
    ct_collect_b81 G S (ct_collect_b10 G S n) v2 X) fun k11 =>
    if k5 < G then
    if gin (nI k5) 5 = true then
    gB1 (ct_dutyOf G S X k5 k11 (X.1.2 11 v2.toNatClampNeg) (X.1.2 12 v2.toNatClampNeg)) fun r15 =>
    gLet ((sA X.1 6 ((nI k5).toNatClampNeg) ((X.1.2 6 ((nI k5).toNatClampNeg)) + r15), X.2)) fun X16 =>
    ct_collect_b81 G S (ct_collect_b10 G S n) v2 X16
    else none
    else none
    else none
def ct_collect (G : Nat) (S : Nat) (X : gC) : Option (Unit × gC) := 
    gLet ((sR X.1 6 (fun j => if j < 5 then (0 : Int32) else X.1.2 6 j), X.2)) fun X17 =>
    ct_collect_b10 G S 1000 0 X17

def ct_takenAt (G : Nat) (S : Nat) (X : gC) (x1 : Int32) : Option Int32 := 
    gB1 (cx_isWithin x1 0 4) fun r2 =>
    if r2 = true then
    if gin x1 5 = true then
    some (X.1.2 6 x1.toNatClampNeg)
    else none
    else
    some 0

def ct_takenInAll_b13 (G : Nat) (S : Nat) (X : gC)  : Nat → Int32 → Int32 → Int32 → Option Int32
  | 0, _, _, _ => none
  | n + 1, v1, v3, v4 => 
    if v3 ≤ v4 then
    some v1
    else
    if gin v4 5 = true then
    gLet (X.1.2 6 v4.toNatClampNeg) fun y3 =>
    (ct_takenInAll_b13 G S X n) (v1 + y3) v3 (v4 + 1)
    else none
def ct_takenInAll (G : Nat) (S : Nat) (X : gC) : Option Int32 := 
    ct_takenInAll_b13 G S X 1000 0 5 0

def ct_forgetKeys (G : Nat) (S : Nat) (X : gC) : Option (Unit × gC) := 
    gLet ((sR X.1 8 (fun j => if j < 8 then (536870912 : Int32) else X.1.2 8 j), X.2)) fun X1 =>
    gLet ((sA X1.1 8 ((0 : Int32).toNatClampNeg) 0, X1.2)) fun X2 =>
    some ((), X2)

def ct_keyOf_b33 (lp8 : Int32 → Int32 → Int32 → Int32 → Option Int32) (v1 : Int32) (v2 : Int32) (v3 : Int32) (v4 : Int32) : Option Int32 := 
    lp8 v1 v2 v3 (v4 + 1)
def ct_keyOf_b8  : Nat → Int32 → Int32 → Int32 → Int32 → Option Int32
  | 0, _, _, _, _ => none
  | n + 1, v1, v2, v3, v4 => 
    if 3 ≤ v4 then
    some v3
    else
    if (v1 &&& ((1 : Int32) <<< (v4 &&& 31))) = 0 then
    ct_keyOf_b33 (ct_keyOf_b8 n) v1 v2 v3 v4
    else
    gB1 (ct_spotShift v4) fun r4 =>
    gLet (v3 + (v2 <<< (r4 &&& 31))) fun y5 =>
    ct_keyOf_b33 (ct_keyOf_b8 n) v1 v2 y5 v4
def ct_keyOf (x1 : Int32) (x2 : Int32) (x3 : Int32) : Option Int32 := 
    gLet (x1 <<< (18 &&& 31)) fun y6 =>
    ct_keyOf_b8 1000 x2 x3 y6 0

def ct_openSpot_b72 (G : Nat) (S : Nat) (lp3 : Int32 → Int32 → Int32 → gC → Option (Unit × gC)) (lp10 : Int32 → Int32 → Int32 → Int32 → gC → Option (Unit × gC)) (v1 : Int32) (v2 : Int32) (v3 : Int32) (v4 : Int32) (X : gC) : Option (Unit × gC) := 
    lp10 v1 v2 v3 (v4 + 1) X
def ct_openSpot_b10 (G : Nat) (S : Nat) (lp3 : Int32 → Int32 → Int32 → gC → Option (Unit × gC)) : Nat → Int32 → Int32 → Int32 → Int32 → gC → Option (Unit × gC)
  | 0, _, _, _, _, _ => none
  | n + 1, v1, v2, v3, v4, X => 
    if v3 < v4 then
    lp3 v1 v2 (v3 + (-1)) X
    else
    if (v4 &&& v3) = v4 then
    if gin (v3 ^^^ v4) 8 = true then
    if gin ((v1 * 8) + v4) 40 = true then
    gB1 (ct_keyOf (X.1.2 7 (((v1 * 8) + v4).toNatClampNeg)) v4 v2) fun r6 =>
    gLet ((X.1.2 8 ((v3 ^^^ v4).toNatClampNeg)) + r6) fun y7 =>
    if gin v3 8 = true then
    gLet ((sA X.1 8 v3.toNatClampNeg (if y7 < (X.1.2 8 v3.toNatClampNeg) then y7 else (X.1.2 8 v3.toNatClampNeg)), X.2)) fun X9 =>
    ct_openSpot_b72 G S lp3 (ct_openSpot_b10 G S lp3 n) v1 v2 v3 v4 X9
    else none
    else none
    else none
    else
    ct_openSpot_b72 G S lp3 (ct_openSpot_b10 G S lp3 n) v1 v2 v3 v4 X
def ct_openSpot_b3 (G : Nat) (S : Nat)  : Nat → Int32 → Int32 → Int32 → gC → Option (Unit × gC)
  | 0, _, _, _, _ => none
  | n + 1, v1, v2, v3, X => 
    if v3 ≤ 0 then
    some ((), X)
    else
    ct_openSpot_b10 G S (ct_openSpot_b3 G S n) 1000 v1 v2 v3 1 X
def ct_openSpot (G : Nat) (S : Nat) (X : gC) (x1 : Int32) (x2 : Int32) : Option (Unit × gC) := 
    ct_openSpot_b3 G S 1000 x1 x2 7 X

def ct_setPrices_b28 (G : Nat) (S : Nat) (lp12 : Nat → Int32 → Int32 → Int32 → gC → Option (Unit × gC)) : Nat → Nat → Int32 → Int32 → Int32 → Nat → Int32 → gC → Option (Unit × gC)
  | 0, _, _, _, _, _, _, _ => none
  | n + 1, v1, v2, v4, v5, v6, v7, X => 
    if 8 ≤ v7 then
    lp12 v1 v2 v4 (v5 + 1) X
    else
    if v6 < G then
    gB1 (ct_dutyOf G S X v6 v1 v2 v7) fun r4 =>
    if gin (((nI v6) * 8) + v7) 40 = true then
    gLet ((sA X.1 7 ((((nI v6) * 8) + v7).toNatClampNeg) r4, X.2)) fun X6 =>
    (ct_setPrices_b28 G S lp12 n) v1 v2 v4 v5 v6 (v7 + 1) X6
    else none
    else none
def ct_setPrices_b12 (G : Nat) (S : Nat)  : Nat → Nat → Int32 → Int32 → Int32 → gC → Option (Unit × gC)
  | 0, _, _, _, _, _ => none
  | n + 1, v1, v2, v4, v5, X => 
    if v4 ≤ v5 then
    some ((), X)
    else
    if gin v5 G = true then
    ct_setPrices_b28 G S (ct_setPrices_b12 G S n) 1000 v1 v2 v4 v5 v5.toNatClampNeg 0 X
    else none
def ct_setPrices (G : Nat) (S : Nat) (X : gC) (x1 : Nat) (x2 : Int32) : Option (Unit × gC) := 
    ct_setPrices_b12 G S 1000 x1 x2 (nI G) 0 X

def ct_openDay_b38 (G : Nat) (S : Nat) (lp9 : Int32 → Int32 → Int32 → gC → Option (Unit × gC)) (v2 : Int32) (v3 : Int32) (v4 : Int32) (X : gC) : Option (Unit × gC) := 
    lp9 v2 v3 (v4 + 1) X
def ct_openDay_b9 (G : Nat) (S : Nat)  : Nat → Int32 → Int32 → Int32 → gC → Option (Unit × gC)
  | 0, _, _, _, _ => none
  | n + 1, v2, v3, v4, X => 
    if (nI G) ≤ v4 then
    some ((), X)
    else
    if v4 = v3 then
    ct_openDay_b38 G S (ct_openDay_b9 G S n) v2 v3 v4 X
    else
    gB2 (ct_openSpot G S X v4 (((10 : Int32) * v4) + v2)) fun r4 X5 =>
    ct_openDay_b38 G S (ct_openDay_b9 G S n) v2 v3 v4 X5
def ct_openDay (G : Nat) (S : Nat) (X : gC) (x1 : Nat) (x2 : Int32) (x3 : Int32) : Option (Unit × gC) := 
    gB2 (ct_setPrices G S X x1 x2) fun r7 X8 =>
    ct_openDay_b9 G S 1000 x2 x3 0 X8

def ct_leastKey_b10 (G : Nat) (S : Nat)  : Nat → Nat → Int32 → Int32 → Int32 → gC → Option (Int32 × gC)
  | 0, _, _, _, _, _ => none
  | n + 1, v1, v2, v3, v4, X => 
    if v2 < v4 then
    some (X.1.2 8 ((7 : Int32).toNatClampNeg), X)
    else
    gB2 (ct_openDay G S X v1 v4 v3) fun r3 X4 =>
    (ct_leastKey_b10 G S n) v1 v2 v3 (v4 + 1) X4
def ct_leastKey (G : Nat) (S : Nat) (X : gC) (x1 : Nat) (x2 : Int32) (x3 : Int32) : Option (Int32 × gC) := 
    gB2 (ct_forgetKeys G S X ) fun r6 X7 =>
    if x1 < S then
    ct_leastKey_b10 G S 1000 x1 x2 x3 (X7.2.2 5 x1) X7
    else none

def ct_freeDay_b9 (G : Nat) (S : Nat)  : Nat → Nat → Int32 → gC → Option (Int32 × gC)
  | 0, _, _, _ => none
  | n + 1, v1, v2, X => 
    if 7 < v2 then
    some ((-9), X)
    else
    gB2 (ct_openDay G S X v1 v2 (-1)) fun r3 X4 =>
    gB1 (ct_penceOf (X4.1.2 8 ((7 : Int32).toNatClampNeg))) fun r6 =>
    if r6 = 0 then
    some (v2, X4)
    else
    (ct_freeDay_b9 G S n) v1 (v2 + 1) X4
def ct_freeDay (G : Nat) (S : Nat) (X : gC) (x1 : Nat) : Option (Int32 × gC) := 
    gB2 (ct_forgetKeys G S X ) fun r9 X10 =>
    if x1 < S then
    ct_freeDay_b9 G S 1000 x1 (X10.2.2 5 x1) X10
    else none

def ct_pricedBy_b50 (G : Nat) (S : Nat) (X : gC) (lp6 : Int32 → Int32 → Int32 → Int32 → Int32 → Option Int32) (v1 : Int32) (v2 : Int32) (v3 : Int32) (v4 : Int32) (v5 : Int32) (s0 : Int32) (s1 : Int32) : Option Int32 := 
    if gin ((v5 * 8) + (s0 ||| s1)) 40 = true then
    gLet (v4 + (X.1.2 7 (((v5 * 8) + (s0 ||| s1)).toNatClampNeg))) fun y2 =>
    lp6 v1 v2 v3 y2 (v5 + 1)
    else none
def ct_pricedBy_b38 (G : Nat) (S : Nat) (X : gC) (lp6 : Int32 → Int32 → Int32 → Int32 → Int32 → Option Int32) (v1 : Int32) (v2 : Int32) (v3 : Int32) (v4 : Int32) (v5 : Int32) (s0 : Int32) (s1 : Int32) : Option Int32 := 
    if v3 = v5 then
    ct_pricedBy_b50 G S X lp6 v1 v2 v3 v4 v5 (s0 ||| s1) 4
    else
    ct_pricedBy_b50 G S X lp6 v1 v2 v3 v4 v5 (s0 ||| s1) 0
def ct_pricedBy_b27 (G : Nat) (S : Nat) (X : gC) (lp6 : Int32 → Int32 → Int32 → Int32 → Int32 → Option Int32) (v1 : Int32) (v2 : Int32) (v3 : Int32) (v4 : Int32) (v5 : Int32) (s0 : Int32) : Option Int32 := 
    if v2 = v5 then
    ct_pricedBy_b38 G S X lp6 v1 v2 v3 v4 v5 s0 2
    else
    ct_pricedBy_b38 G S X lp6 v1 v2 v3 v4 v5 s0 0
def ct_pricedBy_b6 (G : Nat) (S : Nat) (X : gC)  : Nat → Int32 → Int32 → Int32 → Int32 → Int32 → Option Int32
  | 0, _, _, _, _, _ => none
  | n + 1, v1, v2, v3, v4, v5 => 
    if (nI G) ≤ v5 then
    some v4
    else
    if v1 = v5 then
    ct_pricedBy_b27 G S X (ct_pricedBy_b6 G S X n) v1 v2 v3 v4 v5 1
    else
    ct_pricedBy_b27 G S X (ct_pricedBy_b6 G S X n) v1 v2 v3 v4 v5 0
def ct_pricedBy (G : Nat) (S : Nat) (X : gC) (x1 : Int32) (x2 : Int32) (x3 : Int32) : Option Int32 := 
    ct_pricedBy_b6 G S X 1000 x1 x2 x3 0 0

def ct_waysWithin_b65 (G : Nat) (S : Nat) (lp12 : Int32 → Int32 → Int32 → gC → Option (Int32 × gC)) (lp25 : Int32 → Int32 → Int32 → Int32 → gC → Option (Int32 × gC)) (lp38 : Int32 → Int32 → Int32 → Int32 → Int32 → gC → Option (Int32 × gC)) (v3 : Int32) (v4 : Int32) (v5 : Int32) (v6 : Int32) (v7 : Int32) (X : gC) : Option (Int32 × gC) := 
    lp38 v3 v4 v5 v6 (v7 + 1) X
def ct_waysWithin_b38 (G : Nat) (S : Nat) (lp12 : Int32 → Int32 → Int32 → gC → Option (Int32 × gC)) (lp25 : Int32 → Int32 → Int32 → Int32 → gC → Option (Int32 × gC)) : Nat → Int32 → Int32 → Int32 → Int32 → Int32 → gC → Option (Int32 × gC)
  | 0, _, _, _, _, _, _ => none
  | n + 1, v3, v4, v5, v6, v7, X => 
    if (nI G) ≤ v7 then
    lp25 v3 v4 v5 (v6 + 1) X
    else
    gB1 (ct_pricedBy G S X v5 v6 v7) fun r3 =>
    if v3 < r3 then
    ct_waysWithin_b65 G S lp12 lp25 (ct_waysWithin_b38 G S lp12 lp25 n) v3 v4 v5 v6 v7 X
    else
    ct_waysWithin_b65 G S lp12 lp25 (ct_waysWithin_b38 G S lp12 lp25 n) v3 (v4 + 1) v5 v6 v7 X
def ct_waysWithin_b25 (G : Nat) (S : Nat) (lp12 : Int32 → Int32 → Int32 → gC → Option (Int32 × gC)) : Nat → Int32 → Int32 → Int32 → Int32 → gC → Option (Int32 × gC)
  | 0, _, _, _, _, _ => none
  | n + 1, v3, v4, v5, v6, X => 
    if (nI G) ≤ v6 then
    lp12 v3 v4 (v5 + 1) X
    else
    ct_waysWithin_b38 G S lp12 (ct_waysWithin_b25 G S lp12 n) 1000 v3 v4 v5 v6 0 X
def ct_waysWithin_b12 (G : Nat) (S : Nat)  : Nat → Int32 → Int32 → Int32 → gC → Option (Int32 × gC)
  | 0, _, _, _, _ => none
  | n + 1, v3, v4, v5, X => 
    if (nI G) ≤ v5 then
    some (v4, X)
    else
    ct_waysWithin_b25 G S (ct_waysWithin_b12 G S n) 1000 v3 v4 v5 0 X
def ct_waysWithin (G : Nat) (S : Nat) (X : gC) (x1 : Nat) (x2 : Int32) (x3 : Int32) : Option (Int32 × gC) := 
    gB2 (ct_setPrices G S X x1 x2) fun r8 X9 =>
    ct_waysWithin_b12 G S 1000 x3 0 0 X9

def cx_ofGate (G : Nat) (S : Nat) (X : gC) (x1 : Int32) (x2 : Int32) : Option Int32 := 
    gB1 (ct_gateAt G S X x1) fun r2 =>
    gN r2 (
    some (-1)) fun k3 =>
    if x2 = 0 then
    if k3 < G then
    if X.2.2 0 k3 = 1 then
    gB1 (ch_kind G S k3 X ) fun r9 =>
    some r9
    else if X.2.2 0 k3 = 2 then
    gB1 (ci_kind G S k3 X ) fun r11 =>
    some r11
    else
    gB1 (cg_kind G S k3 X ) fun r13 =>
    some r13
    else none
    else
    if x2 = 1 then
    if k3 < G then
    some (X.2.2 1 k3)
    else none
    else
    if x2 = 2 then
    if k3 < G then
    some (X.2.2 2 k3)
    else none
    else
    some (-2)

def cx_ofStory_b71 (G : Nat) (S : Nat) (X : gC)  (v2 : Int32) (v3 : Nat) : Option Int32 := 
    if v3 < S then
    gB1 (cs_sizeOfThird G S v3 X (v2 - 3)) fun r3 =>
    some r3
    else none
def cx_ofStory (G : Nat) (S : Nat) (X : gC) (x1 : Int32) (x2 : Int32) : Option Int32 := 
    gB1 (ct_storyAt G S X x1) fun r5 =>
    gN r5 (
    some (-1)) fun k6 =>
    if x2 = 0 then
    if k6 < S then
    some (X.2.2 3 k6)
    else none
    else
    if x2 = 1 then
    if k6 < S then
    some (X.2.2 4 k6)
    else none
    else
    if x2 = 2 then
    if k6 < S then
    some (X.2.2 5 k6)
    else none
    else
    if x2 = 3 then
    cx_ofStory_b71 G S X x2 k6
    else
    if x2 = 4 then
    cx_ofStory_b71 G S X x2 k6
    else
    if x2 = 5 then
    cx_ofStory_b71 G S X x2 k6
    else
    some (-2)

def cx_harmless (G : Nat) (S : Nat) (X : gC) (x1 : Int32) : Option (Int32 × gC) := 
    gB1 (cx_isWithin x1 0 9) fun r2 =>
    if r2 = true then
    gB1 (ct_stands G S X ) fun r5 =>
    if r5 = true then
    gLet ((sS X.1 2 x1, X.2)) fun X7 =>
    some (X.1.1 2, X7)
    else
    some ((-3), X)
    else
    some ((-2), X)

def cx_rate (G : Nat) (S : Nat) (X : gC) (x1 : Int32) (x2 : Int32) : Option (Int32 × gC) := 
    gB1 (ct_gateAt G S X x1) fun r2 =>
    gN r2 (
    some ((-1), X)) fun k3 =>
    gB1 (cx_isWithin x2 1 9) fun r5 =>
    if r5 = true then
    if k3 < G then
    gLet ((X.1, sA X.2 1 k3 x2)) fun X8 =>
    some (X.2.2 1 k3, X8)
    else none
    else
    some ((-2), X)

def cx_isDay (x1 : Int32) : Option Bool := 
    gB1 (cx_isWithin x1 0 7) fun r2 =>
    some r2

def cx_fresh (G : Nat) (S : Nat) (X : gC) (x1 : Int32) (x2 : Int32) : Option Int32 := 
    gB1 (ct_storyAt G S X x1) fun r2 =>
    gN r2 (
    some (-1)) fun k3 =>
    gB1 (cx_isDay x2) fun r5 =>
    if r5 = true then
    if k3 < S then
    gB1 (cs_isBornBy G S k3 X x2) fun r9 =>
    if r9 = true then
    gB1 (cs_freshness G S k3 X x2) fun r12 =>
    some r12
    else
    some (-9)
    else none
    else
    some (-2)

def cx_duty (G : Nat) (S : Nat) (X : gC) (x1 : Int32) (x2 : Int32) (x3 : Int32) (x4 : Int32) : Option Int32 := 
    gB1 (ct_gateAt G S X x1) fun r2 =>
    gN r2 (
    gB1 (ct_storyAt G S X x2) fun r5 =>
    gN r5 (
    some (-1)) fun k6 =>
    some (-1)) fun k3 =>
    gB1 (ct_storyAt G S X x2) fun r8 =>
    gN r8 (
    some (-1)) fun k9 =>
    gB1 (cx_isDay x3) fun r11 =>
    if r11 = true then
    gB1 (cx_isWithin x4 0 7) fun r14 =>
    if r14 = true then
    if k9 < S then
    gB1 (cs_isBornBy G S k9 X x3) fun r18 =>
    if r18 = true then
    gB1 (ct_dutyOf G S X k3 k9 x3 x4) fun r21 =>
    some r21
    else
    some (-9)
    else none
    else
    some (-2)
    else
    some (-2)

def cx_isAskedOfPassages_b31   : Option Bool := 
    some true
def cx_isAskedOfPassages (x1 : Int32) : Option Bool := 
    gB1 (cx_isWithin x1 0 1) fun r2 =>
    if r2 = true then
    cx_isAskedOfPassages_b31
    else
    gB1 (cx_isWithin x1 10 13) fun r5 =>
    if r5 = true then
    cx_isAskedOfPassages_b31
    else
    gB1 (cx_isWithin x1 20 24) fun r8 =>
    if r8 = true then
    cx_isAskedOfPassages_b31
    else
    some false

def cx_failBy (G : Nat) (S : Nat) (X : gC) (x1 : Int32) : Option (Int32 × gC) := 
    gLet ((sS X.1 0 x1, X.2)) fun X1 =>
    some (((-10) : Int32) - x1, X1)

def cx_rowAt (G : Nat) (S : Nat) (X : gC) (x1 : Int32) : Option (Option Nat) := 
    gB1 (cx_isWithin x1 0 3) fun r2 =>
    if r2 = true then
    if gin x1 4 = true then
    some (some x1.toNatClampNeg)
    else none
    else
    some none

def cx_readRoute_b101 (G : Nat) (S : Nat)  : Nat → Int32 → Int32 → Nat → Int32 → gC → Option (Int32 × gC)
  | 0, _, _, _, _, _ => none
  | n + 1, v3, v4, v5, v7, X => 
    if v4 ≤ v7 then
    some (0, X)
    else
    if v5 < 4 then
    gB1 (fr_read v5 X.1 (v3 + ((3 : Int32) * v7))) fun r4 =>
    gB1 (fr_read v5 X.1 ((v3 + ((3 : Int32) * v7)) + 1)) fun r6 =>
    gB1 (fr_read v5 X.1 ((v3 + ((3 : Int32) * v7)) + 2)) fun r8 =>
    gB1 (ct_storyAt G S X r4) fun r10 =>
    gN r10 (
    some ((-1), X)) fun k11 =>
    gB1 (ct_gateAt G S X r6) fun r13 =>
    gN r13 (
    some ((-1), X)) fun k14 =>
    gB1 (cx_isDay r8) fun r16 =>
    if r16 = true then
    if k11 < S then
    gB1 (cs_isBornBy G S k11 X r8) fun r20 =>
    gB2 (fo_pass X.1 v7 r4 r6 r8 (bI r20)) fun r22 X23 =>
    gLet (X23, X.2) fun X24 =>
    (cx_readRoute_b101 G S n) v3 v4 v5 (v7 + 1) X24
    else none
    else
    some ((-2), X)
    else none
def cx_readRoute_b66 (G : Nat) (S : Nat)  (v3 : Int32) (v4 : Int32) (v5 : Nat) (v6 : Int32) (X : gC) : Option (Int32 × gC) := 
    if v6 = 0 then
    gB1 (ct_stands G S X ) fun r27 =>
    if r27 = true then
    gB2 (fo_begin X.1 ) fun r30 X31 =>
    gLet (X31, X.2) fun X32 =>
    cx_readRoute_b101 G S 1000 v3 v4 v5 0 X32
    else
    some ((-3), X)
    else
    gB2 (cx_failBy G S X v6) fun r34 X35 =>
    some (r34, X35)
def cx_readRoute (G : Nat) (S : Nat) (X : gC) (x1 : Int32) (x2 : Int32) (x3 : Int32) (x4 : Int32) : Option (Int32 × gC) := 
    gB1 (cx_rowAt G S X x1) fun r37 =>
    gN r37 (
    some ((-1), X)) fun k38 =>
    gB1 (cx_isWithin x2 0 2) fun r40 =>
    if r40 = true then
    gB1 (cx_isWithin x4 0 12) fun r43 =>
    if r43 = true then
    if k38 < 4 then
    gB1 (fr_faultTakenAs k38 X.1 x2) fun r47 =>
    if r47 = 0 then
    gB1 (fr_hasCells k38 X.1 x3 ((3 : Int32) * x4)) fun r50 =>
    if r50 = true then
    cx_readRoute_b66 G S x3 x4 k38 r47 X
    else
    cx_readRoute_b66 G S x3 x4 k38 3 X
    else
    cx_readRoute_b66 G S x3 x4 k38 r47 X
    else none
    else
    some ((-2), X)
    else
    some ((-2), X)

def cx_passages_b129 (G : Nat) (S : Nat)  (v5 : Int32) (X : gC) : Option (Int32 × gC) := 
    gB2 (ct_collect G S X ) fun r2 X3 =>
    if v5 = 0 then
    gB1 (ct_takenInAll G S X3 ) fun r11 =>
    some (r11, X3)
    else
    gB1 (ct_gateAt G S X3 (v5 - 20)) fun r6 =>
    gN r6 (
    some ((-9), X3)) fun k7 =>
    gB1 (ct_takenAt G S X3 (v5 - 20)) fun r9 =>
    some (r9, X3)
def cx_passages (G : Nat) (S : Nat) (X : gC) (x1 : Int32) (x2 : Int32) (x3 : Int32) (x4 : Int32) (x5 : Int32) : Option (Int32 × gC) := 
    gLet ((sS X.1 0 0, X.2)) fun X12 =>
    gB1 (cx_rowAt G S X12 x1) fun r14 =>
    gN r14 (
    some ((-1), X12)) fun k15 =>
    gB1 (cx_isAskedOfPassages x5) fun r17 =>
    if r17 = true then
    gB2 (cx_readRoute G S X12 x1 x2 x3 x4) fun r20 X21 =>
    if 0 ≤ r20 then
    if x5 = 1 then
    some (X21.1.1 4, X21)
    else
    if (X21.1.1 4) = (-9) then
    if x5 < 10 then
    cx_passages_b129 G S x5 X21
    else
    if 20 ≤ x5 then
    cx_passages_b129 G S x5 X21
    else
    gB1 (ct_storyAt G S X21 (x5 - 10)) fun r28 =>
    gN r28 (
    some ((-9), X21)) fun k29 =>
    gB1 (fo_wholeDay X21.1 (x5 - 10)) fun r31 =>
    some (r31, X21)
    else
    some (((-100) : Int32) - (X21.1.1 4), X21)
    else
    some (r20, X21)
    else
    some ((-2), X12)

def cx_least (G : Nat) (S : Nat) (X : gC) (x1 : Int32) (x2 : Int32) (x3 : Int32) : Option (Int32 × gC) := 
    gB1 (ct_storyAt G S X x1) fun r2 =>
    gN r2 (
    some ((-1), X)) fun k3 =>
    gB1 (cx_isDay x2) fun r5 =>
    if r5 = true then
    gB1 (cx_isWithin x3 (-1) 2) fun r8 =>
    if r8 = true then
    if k3 < S then
    gB1 (cs_isBornBy G S k3 X x2) fun r12 =>
    if r12 = true then
    gB2 (ct_leastKey G S X k3 x2 (-1)) fun r15 X16 =>
    if 0 ≤ x3 then
    gB1 (ct_spotOf r15 x3) fun r19 =>
    some (r19, X16)
    else
    gB1 (ct_penceOf r15) fun r21 =>
    some (r21, X16)
    else
    some ((-9), X)
    else none
    else
    some ((-2), X)
    else
    some ((-2), X)

def cx_free (G : Nat) (S : Nat) (X : gC) (x1 : Int32) : Option (Int32 × gC) := 
    gB1 (ct_storyAt G S X x1) fun r2 =>
    gN r2 (
    some ((-1), X)) fun k3 =>
    gB2 (ct_freeDay G S X k3) fun r5 X6 =>
    some (r5, X6)

def cx_worth (G : Nat) (S : Nat) (X : gC) (x1 : Int32) (x2 : Int32) (x3 : Int32) : Option (Int32 × gC) := 
    gB1 (ct_gateAt G S X x1) fun r2 =>
    gN r2 (
    gB1 (ct_storyAt G S X x2) fun r5 =>
    gN r5 (
    some ((-1), X)) fun k6 =>
    some ((-1), X)) fun k3 =>
    gB1 (ct_storyAt G S X x2) fun r8 =>
    gN r8 (
    some ((-1), X)) fun k9 =>
    gB1 (cx_isDay x3) fun r11 =>
    if r11 = true then
    if (nI G) < 2 then
    some ((-9), X)
    else
    if k9 < S then
    gB1 (cs_isBornBy G S k9 X x3) fun r16 =>
    if r16 = true then
    gB2 (ct_leastKey G S X k9 x3 x1) fun r19 X20 =>
    gB1 (ct_penceOf r19) fun r22 =>
    gB2 (ct_leastKey G S X20 k9 x3 (-1)) fun r24 X25 =>
    gB1 (ct_penceOf r24) fun r27 =>
    some (r22 - r27, X25)
    else
    some ((-9), X)
    else none
    else
    some ((-2), X)

def cx_reading (G : Nat) (S : Nat) (X : gC) (x1 : Int32) (x2 : Int32) : Option (Int32 × gC) := 
    gB1 (ct_gateAt G S X x1) fun r2 =>
    gN r2 (
    some ((-1), X)) fun k3 =>
    gB1 (cx_isWithin x2 0 9999) fun r5 =>
    if r5 = true then
    gB2 (fd_note X.1 x1 x2) fun r8 X9 =>
    gLet (X9, X.2) fun X10 =>
    some (r8, X10)
    else
    some ((-2), X)

def cx_back (G : Nat) (S : Nat) (X : gC) (x1 : Int32) : Option (Int32 × gC) := 
    gB1 (cx_isWithin x1 0 (X.1.1 5)) fun r2 =>
    if r2 = true then
    gLet ((sS X.1 5 ((X.1.1 5) - x1), X.2)) fun X4 =>
    some (X4.1.1 5, X4)
    else
    some ((-2), X)

def cx_bitIfSo_b27 (G : Nat) (S : Nat)  : Nat → Int32 → Int32 → gC → Option (Int32 × gC)
  | 0, _, _, _ => none
  | n + 1, v1, v2, X => 
    if (X.1.1 5) ≤ v2 then
    some ((1 : Int32) <<< (v1 &&& 31), X)
    else
    if gin v2 8 = true then
    gB1 (ct_takenAt G S X (X.1.2 15 v2.toNatClampNeg)) fun r4 =>
    if r4 = (X.1.2 16 v2.toNatClampNeg) then
    (cx_bitIfSo_b27 G S n) v1 (v2 + 1) X
    else
    some (0, X)
    else none
def cx_bitIfSo (G : Nat) (S : Nat) (X : gC) (x1 : Int32) : Option (Int32 × gC) := 
    if (X.1.1 4) = (-9) then
    gB2 (ct_collect G S X ) fun r8 X9 =>
    cx_bitIfSo_b27 G S 1000 x1 0 X9
    else
    some (0, X)

def cx_sizes_b55 (G : Nat) (S : Nat)  : Nat → Nat → Int32 → Int32 → Int32 → gC → Option (Int32 × gC)
  | 0, _, _, _, _, _ => none
  | n + 1, v6, v8, v9, v10, X => 
    if 9 < v10 then
    if v6 < S then
    gLet ((X.1, sA X.2 3 v6 v8)) fun X3 =>
    some (v9, X3)
    else none
    else
    if v6 < S then
    gLet ((X.1, sA X.2 3 v6 v10)) fun X5 =>
    gB2 (cx_bitIfSo G S X5 v10) fun r7 X8 =>
    (cx_sizes_b55 G S n) v6 v8 (v9 ||| r7) (v10 + 1) X8
    else none
def cx_sizes (G : Nat) (S : Nat) (X : gC) (x1 : Int32) (x2 : Int32) (x3 : Int32) (x4 : Int32) (x5 : Int32) : Option (Int32 × gC) := 
    gLet ((sS X.1 0 0, X.2)) fun X9 =>
    gB1 (ct_storyAt G S X9 x1) fun r11 =>
    gN r11 (
    some ((-1), X9)) fun k12 =>
    gB2 (cx_readRoute G S X9 x2 x3 x4 x5) fun r14 X15 =>
    if 0 ≤ r14 then
    if k12 < S then
    cx_sizes_b55 G S 1000 k12 (X15.2.2 3 k12) 0 1 X15
    else none
    else
    some (r14, X15)

def cx_persons_b55 (G : Nat) (S : Nat)  : Nat → Nat → Int32 → Int32 → Int32 → gC → Option (Int32 × gC)
  | 0, _, _, _, _, _ => none
  | n + 1, v6, v8, v9, v10, X => 
    if 5 < v10 then
    if v6 < S then
    gLet ((X.1, sA X.2 4 v6 v8)) fun X3 =>
    some (v9, X3)
    else none
    else
    if v6 < S then
    gLet ((X.1, sA X.2 4 v6 v10)) fun X5 =>
    gB2 (cx_bitIfSo G S X5 v10) fun r7 X8 =>
    (cx_persons_b55 G S n) v6 v8 (v9 ||| r7) (v10 + 1) X8
    else none
def cx_persons (G : Nat) (S : Nat) (X : gC) (x1 : Int32) (x2 : Int32) (x3 : Int32) (x4 : Int32) (x5 : Int32) : Option (Int32 × gC) := 
    gLet ((sS X.1 0 0, X.2)) fun X9 =>
    gB1 (ct_storyAt G S X9 x1) fun r11 =>
    gN r11 (
    some ((-1), X9)) fun k12 =>
    gB2 (cx_readRoute G S X9 x2 x3 x4 x5) fun r14 X15 =>
    if 0 ≤ r14 then
    if k12 < S then
    cx_persons_b55 G S 1000 k12 (X15.2.2 4 k12) 0 0 X15
    else none
    else
    some (r14, X15)

def cx_limits_b39 (G : Nat) (S : Nat)  : Nat → Int32 → Int32 → Int32 → gC → Option (Int32 × gC)
  | 0, _, _, _, _ => none
  | n + 1, v6, v7, v8, X => 
    if 9 < v8 then
    gLet ((sS X.1 2 v6, X.2)) fun X2 =>
    some (v7, X2)
    else
    gLet ((sS X.1 2 v8, X.2)) fun X3 =>
    gB2 (cx_bitIfSo G S X3 v8) fun r5 X6 =>
    (cx_limits_b39 G S n) v6 (v7 ||| r5) (v8 + 1) X6
def cx_limits (G : Nat) (S : Nat) (X : gC) (x1 : Int32) (x2 : Int32) (x3 : Int32) (x4 : Int32) : Option (Int32 × gC) := 
    gLet ((sS X.1 0 0, X.2)) fun X7 =>
    gB2 (cx_readRoute G S X7 x1 x2 x3 x4) fun r9 X10 =>
    if 0 ≤ r9 then
    cx_limits_b39 G S 1000 (X10.1.1 2) 0 0 X10
    else
    some (r9, X10)

def cx_commonDivisor_b34  (v2 : Int32) : Option Int32 := 
    if v2 ≤ 0 then
    some 1
    else
    some v2
def cx_commonDivisor_b7  : Nat → Int32 → Int32 → Int32 → Option Int32
  | 0, _, _, _ => none
  | n + 1, v2, v3, v4 => 
    if 64 ≤ v4 then
    cx_commonDivisor_b34 v2
    else
    if v3 = 0 then
    cx_commonDivisor_b34 v2
    else
    if ¬ v3 = 0 then
    gLet (v2 - v2 / v3 * v3) fun y5 =>
    (cx_commonDivisor_b7 n) v3 y5 (v4 + 1)
    else none
def cx_commonDivisor (x1 : Int32) (x2 : Int32) : Option Int32 := 
    cx_commonDivisor_b7 1000 x1 x2 0

def cx_odds (G : Nat) (S : Nat) (X : gC) (x1 : Int32) (x2 : Int32) (x3 : Int32) (x4 : Int32) : Option (Int64 × gC) := 
    gB1 (ct_storyAt G S X x1) fun r2 =>
    gN r2 (
    some ((-9223372036854775808), X)) fun k3 =>
    gB1 (cx_isDay x2) fun r5 =>
    if r5 = true then
    gB1 (cx_isWithin x3 0 9999) fun r8 =>
    if r8 = true then
    gB1 (cx_isWithin x4 0 1) fun r11 =>
    if r11 = true then
    if k3 < S then
    gB1 (cs_isBornBy G S k3 X x2) fun r15 =>
    if r15 = true then
    gLet (((nI G) * (nI G)) * (nI G)) fun y17 =>
    gB2 (ct_waysWithin G S X k3 x2 x3) fun r19 X20 =>
    gB1 (cx_commonDivisor y17 r19) fun r22 =>
    if x4 = 0 then
    if ¬ r22 = 0 then
    some ((r19 / r22).toInt64, X20)
    else none
    else
    if ¬ r22 = 0 then
    some ((y17 / r22).toInt64, X20)
    else none
    else
    some ((-9223372036854775808), X)
    else none
    else
    some ((-9223372036854775808), X)
    else
    some ((-9223372036854775808), X)
    else
    some ((-9223372036854775808), X)

def cx_sheet (G : Nat) (S : Nat) (X : gC) (x1 : Int32) (x2 : Int32) (x3 : Int32) : Option (Int32 × gC) := 
    gLet ((sS X.1 0 0, X.2)) fun X1 =>
    gB1 (cx_rowAt G S X1 x1) fun r3 =>
    gN r3 (
    some ((-1), X1)) fun k4 =>
    gB1 (cx_isWithin x2 0 2) fun r6 =>
    if r6 = true then
    if x3 ≤ 60 then
    if 0 ≤ x3 then
    if k4 < 4 then
    gB2 (fr_begin k4 X1.1 x2 x3) fun r12 X13 =>
    gLet (X13, X1.2) fun X14 =>
    some (1, X14)
    else none
    else
    gB2 (cx_failBy G S X1 4) fun r16 X17 =>
    some (r16, X17)
    else
    some ((-2), X1)
    else
    some ((-2), X1)

def cx_lose_b24 (G : Nat) (S : Nat)  (v2 : Nat) (s0 : Int32) (X : gC) : Option (Int32 × gC) := 
    if v2 < 4 then
    gB2 (fr_drop v2 X.1 ) fun r3 X4 =>
    gLet (X4, X.2) fun X5 =>
    some (s0, X5)
    else none
def cx_lose (G : Nat) (S : Nat) (X : gC) (x1 : Int32) : Option (Int32 × gC) := 
    gB1 (cx_rowAt G S X x1) fun r7 =>
    gN r7 (
    some ((-1), X)) fun k8 =>
    if k8 < 4 then
    gB1 (fr_isThere k8 X.1 ) fun r11 =>
    if r11 = true then
    cx_lose_b24 G S k8 1 X
    else
    cx_lose_b24 G S k8 0 X
    else none

def cx_put (G : Nat) (S : Nat) (X : gC) (x1 : Int32) (x2 : Int32) (x3 : Int32) : Option (Int32 × gC) := 
    gLet ((sS X.1 0 0, X.2)) fun X1 =>
    gB1 (cx_rowAt G S X1 x1) fun r3 =>
    gN r3 (
    some ((-1), X1)) fun k4 =>
    if k4 < 4 then
    gB1 (fr_isThere k4 X1.1 ) fun r7 =>
    if r7 = true then
    gB1 (fr_hasCell k4 X1.1 x2) fun r10 =>
    if r10 = true then
    gB2 (fr_write k4 X1.1 x2 x3) fun r13 X14 =>
    gLet (X14, X1.2) fun X15 =>
    some (1, X15)
    else
    gB2 (cx_failBy G S X1 3) fun r17 X18 =>
    some (r17, X18)
    else
    gB2 (cx_failBy G S X1 1) fun r20 X21 =>
    some (r20, X21)
    else none

def cx_cell_b55 (G : Nat) (S : Nat)  (v2 : Int32) (v4 : Nat) (v5 : Int32) (X : gC) : Option (Int64 × gC) := 
    if v5 = 0 then
    if v4 < 4 then
    gB1 (fr_read v4 X.1 v2) fun r4 =>
    some (r4.toInt64, X)
    else none
    else
    gLet ((sS X.1 0 v5, X.2)) fun X5 =>
    some ((-9223372036854775808), X5)
def cx_cell (G : Nat) (S : Nat) (X : gC) (x1 : Int32) (x2 : Int32) (x3 : Int32) : Option (Int64 × gC) := 
    gLet ((sS X.1 0 0, X.2)) fun X6 =>
    gB1 (cx_rowAt G S X6 x1) fun r8 =>
    gN r8 (
    some ((-9223372036854775808), X6)) fun k9 =>
    gB1 (cx_isWithin x3 0 2) fun r11 =>
    if r11 = true then
    if k9 < 4 then
    gB1 (fr_faultTakenAs k9 X6.1 x3) fun r15 =>
    if r15 = 0 then
    gB1 (fr_hasCell k9 X6.1 x2) fun r18 =>
    if r18 = true then
    cx_cell_b55 G S x2 k9 r15 X6
    else
    cx_cell_b55 G S x2 k9 3 X6
    else
    cx_cell_b55 G S x2 k9 r15 X6
    else none
    else
    some ((-9223372036854775808), X6)

def cx_copy_b47 (G : Nat) (S : Nat)   (X : gC) : Option (Int32 × gC) := 
    gB2 (cx_failBy G S X 1) fun r2 X3 =>
    some (r2, X3)
def cx_copy_b95 (G : Nat) (S : Nat)   (X : gC) : Option (Int32 × gC) := 
    gB2 (cx_failBy G S X 3) fun r5 X6 =>
    some (r5, X6)
def cx_copy (G : Nat) (S : Nat) (X : gC) (x1 : Int32) (x2 : Int32) (x3 : Int32) (x4 : Int32) (x5 : Int32) : Option (Int32 × gC) := 
    gLet ((sS X.1 0 0, X.2)) fun X7 =>
    gB1 (cx_rowAt G S X7 x1) fun r9 =>
    gN r9 (
    gB1 (cx_rowAt G S X7 x3) fun r12 =>
    gN r12 (
    some ((-1), X7)) fun k13 =>
    some ((-1), X7)) fun k10 =>
    gB1 (cx_rowAt G S X7 x3) fun r15 =>
    gN r15 (
    some ((-1), X7)) fun k16 =>
    if k10 < 4 then
    gB1 (fr_isThere k10 X7.1 ) fun r19 =>
    if r19 = true then
    if k16 < 4 then
    gB1 (fr_isThere k16 X7.1 ) fun r23 =>
    if r23 = true then
    if (X7.1.2 0 k10) = (X7.1.2 0 k16) then
    gB1 (fr_hasCells k10 X7.1 x2 x5) fun r27 =>
    if r27 = true then
    gB1 (fr_hasCells k16 X7.1 x4 x5) fun r30 =>
    if r30 = true then
    if cpOK x2 x4 x5 = true then
    gLet ((sR X7.1 (2 + k16) (va_cpy (X7.1.2 (2 + k10)) (X7.1.2 (2 + k16)) x2.toNatClampNeg x4.toNatClampNeg x5.toNatClampNeg), X7.2)) fun X33 =>
    some (x5, X33)
    else none
    else
    cx_copy_b95 G S X7
    else
    cx_copy_b95 G S X7
    else
    gB2 (cx_failBy G S X7 2) fun r35 X36 =>
    some (r35, X36)
    else
    cx_copy_b47 G S X7
    else none
    else
    cx_copy_b47 G S X7
    else none

def cx_tell (G : Nat) (S : Nat) (X : gC) (x1 : Int32) : Option (Int32 × gC) := 
    gB1 (ct_gateAt G S X x1) fun r2 =>
    gN r2 (
    some ((-1), X)) fun k3 =>
    if k3 < G then
    if X.2.2 0 k3 = 1 then
    gB2 (ch_telling G S k3 X ) fun r8 X9 =>
    some (r8, X9)
    else if X.2.2 0 k3 = 2 then
    gB2 (ci_telling G S k3 X ) fun r11 X12 =>
    some (r11, X12)
    else
    gB2 (cg_telling G S k3 X ) fun r14 X15 =>
    some (r14, X15)
    else none

def cx_knock (G : Nat) (S : Nat) (X : gC) (x1 : Int32) : Option (Int32 × gC) := 
    gB1 (ct_gateAt G S X x1) fun r2 =>
    gN r2 (
    some ((-1), X)) fun k3 =>
    if k3 < G then
    if X.2.2 0 k3 = 1 then
    gB2 (cg_knocking G S k3 X ) fun r8 X9 =>
    some (r8, X9)
    else if X.2.2 0 k3 = 2 then
    gB2 (ci_knocking G S k3 X ) fun r11 X12 =>
    some (r11, X12)
    else
    gB2 (cg_knocking G S k3 X ) fun r14 X15 =>
    some (r14, X15)
    else none

def cx_as_b65 (G : Nat) (S : Nat)  (s0 : Int32) (X : gC) : Option (Int32 × gC) := 
    if s0 = 0 then
    gB2 (cx_failBy G S X 2) fun r3 X4 =>
    some (r3, X4)
    else
    some (1, X)
def cx_as_b60 (G : Nat) (S : Nat)   (X : gC) : Option (Int32 × gC) := 
    cx_as_b65 G S 1 X
def cx_as_b64 (G : Nat) (S : Nat)   (X : gC) : Option (Int32 × gC) := 
    cx_as_b65 G S 0 X
def cx_as_b48 (G : Nat) (S : Nat)  (v2 : Int32) (v3 : Nat) (X : gC) : Option (Int32 × gC) := 
    if v2 = 2 then
    if v3 < G then
    if X.2.2 0 v3 = 1 then
    if (0 : Int32) = 0 then
    cx_as_b64 G S X
    else
    cx_as_b60 G S X
    else if X.2.2 0 v3 = 2 then
    if (1 : Int32) = 0 then
    cx_as_b64 G S X
    else
    cx_as_b60 G S X
    else
    if (0 : Int32) = 0 then
    cx_as_b64 G S X
    else
    cx_as_b60 G S X
    else none
    else
    cx_as_b64 G S X
def cx_as (G : Nat) (S : Nat) (X : gC) (x1 : Int32) (x2 : Int32) : Option (Int32 × gC) := 
    gLet ((sS X.1 0 0, X.2)) fun X12 =>
    gB1 (ct_gateAt G S X12 x1) fun r14 =>
    gN r14 (
    some ((-1), X12)) fun k15 =>
    gB1 (cx_isWithin x2 0 2) fun r17 =>
    if r17 = true then
    if x2 = 0 then
    cx_as_b60 G S X12
    else
    if x2 = 1 then
    if k15 < G then
    if X12.2.2 0 k15 = 1 then
    if (1 : Int32) = 0 then
    cx_as_b48 G S x2 k15 X12
    else
    cx_as_b60 G S X12
    else if X12.2.2 0 k15 = 2 then
    if (1 : Int32) = 0 then
    cx_as_b48 G S x2 k15 X12
    else
    cx_as_b60 G S X12
    else
    if (0 : Int32) = 0 then
    cx_as_b48 G S x2 k15 X12
    else
    cx_as_b60 G S X12
    else none
    else
    cx_as_b48 G S x2 k15 X12
    else
    some ((-2), X12)

def cx_trace (G : Nat) (S : Nat) (X : gC) : Option Int32 := 
    some (X.1.1 1)

def cx_fault (G : Nat) (S : Nat) (X : gC) : Option Int32 := 
    some (X.1.1 0)

def cx_many (G : Nat) (S : Nat) (X : gC) (x1 : Int32) : Option Int32 := 
    if x1 = 0 then
    some (nI S)
    else
    if x1 = 1 then
    some (nI G)
    else
    if x1 = 2 then
    some (X.1.1 2)
    else
    if x1 = 3 then
    some (X.1.1 5)
    else
    some (-2)
