/-! the reference, method by method, as pure functions (printed by wip/gen/model.py) -/
def mm_fails (σ : gS) (x1 : Int32) : Option (Int32 × gS) := 
    gLet (sS σ 0 x1) fun σ1 =>
    some (((-10) : Int32) - x1, σ1)

def mm_lost (σ : gS) (x1 : Int32) : Option (Int64 × gS) := 
    gLet (sS σ 0 x1) fun σ1 =>
    some ((-9223372036854775808), σ1)

def mm_within (x1 : Int32) (x2 : Int32) (x3 : Int32) : Option Bool := 
    if x1 < x2 then
    some false
    else
    if x3 < x1 then
    some false
    else
    some true

def mm_isSheet (x1 : Int32) : Option Bool := 
    gB1 (mm_within x1 0 3) fun r2 =>
    some r2

def mm_isSort (x1 : Int32) : Option Bool := 
    gB1 (mm_within x1 0 2) fun r2 =>
    some r2

def mm_against_b70 (σ : gS)   : Option Int32 := 
    some 3
def mm_against_b23 (σ : gS)  (v1 : Int32) (v3 : Int32) (v4 : Int32) : Option Int32 := 
    if gin v1 4 = true then
    if (σ.2 2 v1.toNatClampNeg) = (-9) then
    some 1
    else
    if 0 ≤ v4 then
    if v3 < 0 then
    mm_against_b70 σ
    else
    if (σ.2 3 v1.toNatClampNeg) < v3 then
    mm_against_b70 σ
    else
    if v4 ≤ ((σ.2 3 v1.toNatClampNeg) - v3) then
    some 0
    else
    mm_against_b70 σ
    else
    some 4
    else none
def mm_against (σ : gS) (x1 : Int32) (x2 : Int32) (x3 : Int32) (x4 : Int32) : Option Int32 := 
    if gin x1 4 = true then
    if (σ.2 2 x1.toNatClampNeg) = (-9) then
    mm_against_b23 σ x1 x3 x4
    else
    if (σ.2 2 x1.toNatClampNeg) = x2 then
    mm_against_b23 σ x1 x3 x4
    else
    some 2
    else none

def mm_isGate (σ : gS) (x1 : Int32) : Option Bool := 
    if x1 < 0 then
    some false
    else
    if (σ.1 5) ≤ x1 then
    some false
    else
    some true

def mm_isStory (σ : gS) (x1 : Int32) : Option Bool := 
    if x1 < 0 then
    some false
    else
    if (σ.1 6) ≤ x1 then
    some false
    else
    some true

def mm_isDay (x1 : Int32) : Option Bool := 
    gB1 (mm_within x1 0 7) fun r2 =>
    some r2

def mm_digit (σ : gS) (x1 : Int32) (x2 : Int32) (x3 : Int32) : Option (Int32 × gS) := 
    if x1 ≤ (σ.1 15) then
    some ((-9), σ)
    else
    if gin (σ.1 15) 240 = true then
    gB1 (mm_within (σ.2 4 ((σ.1 15).toNatClampNeg)) ((48 : Int32) + x2) ((48 : Int32) + x3)) fun r4 =>
    if r4 = true then
    gLet (sS σ 15 ((σ.1 15) + 1)) fun σ6 =>
    if gin ((σ6.1 15) - 1) 240 = true then
    some ((σ6.2 4 (((σ6.1 15) - 1).toNatClampNeg)) - 48, σ6)
    else none
    else
    some ((-9), σ)
    else none

def mm_isSign (σ : gS) (x1 : Int32) (x2 : Int32) : Option (Bool × gS) := 
    if x1 ≤ (σ.1 15) then
    some (false, σ)
    else
    if gin (σ.1 15) 240 = true then
    if (σ.2 4 ((σ.1 15).toNatClampNeg)) = x2 then
    gLet (sS σ 15 ((σ.1 15) + 1)) fun σ4 =>
    some (true, σ4)
    else
    some (false, σ)
    else none

def mm_readOneGate_b66  (v1 : Int32) (v2 : Int32) (s1 : Int32) (s2 : Int32) (σ : gS) : Option (Bool × gS) := 
    if gin s1 15 = true then
    gLet (sA σ 18 s1.toNatClampNeg s2) fun σ2 =>
    if gin v2 15 = true then
    if (σ2.2 18 v2.toNatClampNeg) = (-9) then
    some (false, σ2)
    else
    gLet (sS σ2 15 ((σ2.1 15) + 1)) fun σ5 =>
    gB2 (mm_digit σ5 v1 1 9) fun r7 σ8 =>
    if gin (v2 + 1) 15 = true then
    gLet (sA σ8 18 ((v2 + 1).toNatClampNeg) r7) fun σ10 =>
    if (σ10.2 18 ((v2 + 1).toNatClampNeg)) = (-9) then
    some (false, σ10)
    else
    gB2 (mm_digit σ10 v1 0 6) fun r13 σ14 =>
    if gin (v2 + 2) 15 = true then
    gLet (sA σ14 18 ((v2 + 2).toNatClampNeg) r13) fun σ16 =>
    gLet (sS σ16 16 ((σ16.1 16) + 1)) fun σ17 =>
    if (σ17.2 18 ((v2 + 2).toNatClampNeg)) = (-9) then
    some (false, σ17)
    else
    some (true, σ17)
    else none
    else none
    else none
    else none
def mm_readOneGate_b28  (v1 : Int32) (v2 : Int32) (s0 : Int32) (σ : gS) : Option (Bool × gS) := 
    if s0 = 103 then
    mm_readOneGate_b66 v1 v2 v2 0 σ
    else
    if s0 = 115 then
    mm_readOneGate_b66 v1 v2 v2 1 σ
    else
    if s0 = 108 then
    mm_readOneGate_b66 v1 v2 v2 2 σ
    else
    mm_readOneGate_b66 v1 v2 v2 (-9) σ
def mm_readOneGate (σ : gS) (x1 : Int32) : Option (Bool × gS) := 
    gLet ((3 : Int32) * (σ.1 16)) fun y22 =>
    if x1 ≤ (σ.1 15) then
    mm_readOneGate_b28 x1 y22 0 σ
    else
    if gin (σ.1 15) 240 = true then
    mm_readOneGate_b28 x1 y22 (σ.2 4 ((σ.1 15).toNatClampNeg)) σ
    else none

def mm_readOneStory (σ : gS) (x1 : Int32) : Option (Bool × gS) := 
    gLet ((3 : Int32) * (σ.1 17)) fun y1 =>
    gB2 (mm_digit σ x1 1 9) fun r3 σ4 =>
    if gin y1 12 = true then
    gLet (sA σ4 19 y1.toNatClampNeg r3) fun σ6 =>
    if (σ6.2 19 y1.toNatClampNeg) = (-9) then
    some (false, σ6)
    else
    gB2 (mm_digit σ6 x1 0 5) fun r9 σ10 =>
    if gin (y1 + 1) 12 = true then
    gLet (sA σ10 19 ((y1 + 1).toNatClampNeg) r9) fun σ12 =>
    if (σ12.2 19 ((y1 + 1).toNatClampNeg)) = (-9) then
    some (false, σ12)
    else
    gB2 (mm_digit σ12 x1 0 6) fun r15 σ16 =>
    if gin (y1 + 2) 12 = true then
    gLet (sA σ16 19 ((y1 + 2).toNatClampNeg) r15) fun σ18 =>
    gLet (sS σ18 17 ((σ18.1 17) + 1)) fun σ19 =>
    if (σ19.2 19 ((y1 + 2).toNatClampNeg)) = (-9) then
    some (false, σ19)
    else
    some (true, σ19)
    else none
    else none
    else none

def mm_readTown_b116  (v1 : Int32) (σ : gS) : Option (Bool × gS) := 
    if (σ.1 15) = v1 then
    some (true, σ)
    else
    some (false, σ)
def mm_readTown_b88  : Nat → Int32 → gS → Option (Bool × gS)
  | 0, _, _ => none
  | n + 1, v1, σ => 
    if 4 ≤ (σ.1 17) then
    mm_readTown_b116 v1 σ
    else
    gB2 (mm_isSign σ v1 59) fun r4 σ5 =>
    if r4 = true then
    gB2 (mm_readOneStory σ5 v1) fun r8 σ9 =>
    if r8 = true then
    (mm_readTown_b88 n) v1 σ9
    else
    some (false, σ9)
    else
    mm_readTown_b116 v1 σ5
def mm_readTown_b68  (v1 : Int32) (σ : gS) : Option (Bool × gS) := 
    gB2 (mm_isSign σ v1 59) fun r12 σ13 =>
    if r12 = true then
    gB2 (mm_readOneStory σ13 v1) fun r16 σ17 =>
    if r16 = true then
    mm_readTown_b88 1000 v1 σ17
    else
    some (false, σ17)
    else
    some (false, σ13)
def mm_readTown_b40  : Nat → Int32 → gS → Option (Bool × gS)
  | 0, _, _ => none
  | n + 1, v1, σ => 
    if 5 ≤ (σ.1 16) then
    mm_readTown_b68 v1 σ
    else
    gB2 (mm_isSign σ v1 44) fun r21 σ22 =>
    if r21 = true then
    gB2 (mm_readOneGate σ22 v1) fun r25 σ26 =>
    if r25 = true then
    (mm_readTown_b40 n) v1 σ26
    else
    some (false, σ26)
    else
    mm_readTown_b68 v1 σ22
def mm_readTown (σ : gS) (x1 : Int32) : Option (Bool × gS) := 
    gLet (sS σ 16 0) fun σ28 =>
    gLet (sS σ28 17 0) fun σ29 =>
    gB2 (mm_isSign σ29 x1 106) fun r31 σ32 =>
    if r31 = true then
    gB2 (mm_isSign σ32 x1 44) fun r35 σ36 =>
    if r35 = true then
    gB2 (mm_readOneGate σ36 x1) fun r39 σ40 =>
    if r39 = true then
    mm_readTown_b40 1000 x1 σ40
    else
    some (false, σ40)
    else
    some (false, σ36)
    else
    some (false, σ32)

def mm_town_b178  : Nat → Int32 → gS → Option (Int32 × gS)
  | 0, _, _ => none
  | n + 1, v7, σ => 
    if (σ.1 6) ≤ v7 then
    gLet (sS σ 31 0) fun σ2 =>
    some (σ2.1 6, σ2)
    else
    if gin ((3 : Int32) * v7) 12 = true then
    if gin v7 4 = true then
    gLet (sA σ 11 v7.toNatClampNeg (σ.2 19 (((3 : Int32) * v7).toNatClampNeg))) fun σ5 =>
    if gin (((3 : Int32) * v7) + 1) 12 = true then
    gLet (sA σ5 12 v7.toNatClampNeg (σ5.2 19 ((((3 : Int32) * v7) + 1).toNatClampNeg))) fun σ7 =>
    if gin (((3 : Int32) * v7) + 2) 12 = true then
    gLet (sA σ7 13 v7.toNatClampNeg (σ7.2 19 ((((3 : Int32) * v7) + 2).toNatClampNeg))) fun σ9 =>
    (mm_town_b178 n) (v7 + 1) σ9
    else none
    else none
    else none
    else none
def mm_town_b108  : Nat → Int32 → gS → Option (Int32 × gS)
  | 0, _, _ => none
  | n + 1, v7, σ => 
    if (σ.1 5) ≤ v7 then
    mm_town_b178 1000 0 σ
    else
    if gin ((3 : Int32) * v7) 15 = true then
    if gin v7 5 = true then
    gLet (sA σ 8 v7.toNatClampNeg (σ.2 18 (((3 : Int32) * v7).toNatClampNeg))) fun σ13 =>
    if gin (((3 : Int32) * v7) + 1) 15 = true then
    gLet (sA σ13 9 v7.toNatClampNeg (σ13.2 18 ((((3 : Int32) * v7) + 1).toNatClampNeg))) fun σ15 =>
    if gin (((3 : Int32) * v7) + 2) 15 = true then
    gLet (sA σ15 10 v7.toNatClampNeg (σ15.2 18 ((((3 : Int32) * v7) + 2).toNatClampNeg))) fun σ17 =>
    (mm_town_b108 n) (v7 + 1) σ17
    else none
    else none
    else none
    else none
def mm_town (σ : gS) (x1 : Int32) (x2 : Int32) (x3 : Int32) (x4 : Int32) : Option (Int32 × gS) := 
    gLet (sS σ 0 0) fun σ18 =>
    gB1 (mm_isSheet x1) fun r20 =>
    if r20 = true then
    gB1 (mm_isSort x2) fun r23 =>
    if r23 = true then
    gB1 (mm_against σ18 x1 x2 x3 x4) fun r26 =>
    if r26 = 0 then
    gLet (((60 : Int32) * x1) + x3) fun y28 =>
    gLet (sS σ18 15 y28) fun σ29 =>
    gB2 (mm_readTown σ29 (y28 + x4)) fun r31 σ32 =>
    if r31 = true then
    gLet (sS σ32 5 (σ32.1 16)) fun σ34 =>
    gLet (sS σ34 6 (σ34.1 17)) fun σ35 =>
    gLet (sS σ35 7 0) fun σ36 =>
    mm_town_b108 1000 0 σ36
    else
    some (((-100) : Int32) - ((σ32.1 15) - y28), σ32)
    else
    gB2 (mm_fails σ18 r26) fun r38 σ39 =>
    some (r38, σ39)
    else
    some ((-2), σ18)
    else
    some ((-1), σ18)

def mm_ofGate (σ : gS) (x1 : Int32) (x2 : Int32) : Option Int32 := 
    gB1 (mm_isGate σ x1) fun r2 =>
    if r2 = true then
    if x2 = 0 then
    if gin x1 5 = true then
    some (σ.2 8 x1.toNatClampNeg)
    else none
    else
    if x2 = 1 then
    if gin x1 5 = true then
    some (σ.2 9 x1.toNatClampNeg)
    else none
    else
    if x2 = 2 then
    if gin x1 5 = true then
    some (σ.2 10 x1.toNatClampNeg)
    else none
    else
    some (-2)
    else
    some (-1)

def mm_third (σ : gS) (x1 : Int32) (x2 : Int32) : Option Int32 := 
    if gin x1 4 = true then
    if ((σ.2 11 x1.toNatClampNeg) - (σ.2 11 x1.toNatClampNeg) / 3 * 3) ≤ x2 then
    some (((σ.2 11 x1.toNatClampNeg) / 3) + 0)
    else
    some (((σ.2 11 x1.toNatClampNeg) / 3) + 1)
    else none

def mm_ofStory_b69 (σ : gS)  (v1 : Int32) (v2 : Int32) : Option Int32 := 
    gB1 (mm_third σ v1 (v2 - 3)) fun r2 =>
    some r2
def mm_ofStory (σ : gS) (x1 : Int32) (x2 : Int32) : Option Int32 := 
    gB1 (mm_isStory σ x1) fun r4 =>
    if r4 = true then
    if x2 = 0 then
    if gin x1 4 = true then
    some (σ.2 11 x1.toNatClampNeg)
    else none
    else
    if x2 = 1 then
    if gin x1 4 = true then
    some (σ.2 12 x1.toNatClampNeg)
    else none
    else
    if x2 = 2 then
    if gin x1 4 = true then
    some (σ.2 13 x1.toNatClampNeg)
    else none
    else
    if x2 = 3 then
    mm_ofStory_b69 σ x1 x2
    else
    if x2 = 4 then
    mm_ofStory_b69 σ x1 x2
    else
    if x2 = 5 then
    mm_ofStory_b69 σ x1 x2
    else
    some (-2)
    else
    some (-1)

def mm_harmless (σ : gS) (x1 : Int32) : Option (Int32 × gS) := 
    gB1 (mm_within x1 0 9) fun r2 =>
    if r2 = true then
    if (σ.1 5) = 0 then
    some ((-3), σ)
    else
    gLet (sS σ 7 x1) fun σ5 =>
    some (σ.1 7, σ5)
    else
    some ((-2), σ)

def mm_rate (σ : gS) (x1 : Int32) (x2 : Int32) : Option (Int32 × gS) := 
    gB1 (mm_isGate σ x1) fun r2 =>
    if r2 = true then
    gB1 (mm_within x2 1 9) fun r5 =>
    if r5 = true then
    if gin x1 5 = true then
    gLet (σ.2 9 x1.toNatClampNeg) fun y8 =>
    gLet (sA σ 9 x1.toNatClampNeg x2) fun σ9 =>
    some (y8, σ9)
    else none
    else
    some ((-2), σ)
    else
    some ((-1), σ)

def mm_freshOf (σ : gS) (x1 : Int32) (x2 : Int32) : Option Int32 := 
    if gin x1 4 = true then
    gLet ((4 : Int32) - (x2 - (σ.2 13 x1.toNatClampNeg))) fun y2 =>
    if (σ.2 13 x1.toNatClampNeg) ≤ x2 then
    if 0 ≤ y2 then
    some y2
    else
    some 0
    else
    some (-9)
    else none

def mm_fresh (σ : gS) (x1 : Int32) (x2 : Int32) : Option Int32 := 
    gB1 (mm_isStory σ x1) fun r2 =>
    if r2 = true then
    gB1 (mm_isDay x2) fun r5 =>
    if r5 = true then
    gB1 (mm_freshOf σ x1 x2) fun r8 =>
    some r8
    else
    some (-2)
    else
    some (-1)

def mm_sizeOf_b33 (σ : gS) (lp5 : Int32 → Int32 → Int32 → Int32 → Option Int32) (v1 : Int32) (v2 : Int32) (v4 : Int32) (s0 : Int32) (s1 : Int32) : Option Int32 := 
    lp5 v1 v2 (s0 + s1) (v4 + 1)
def mm_sizeOf_b5 (σ : gS)  : Nat → Int32 → Int32 → Int32 → Int32 → Option Int32
  | 0, _, _, _, _ => none
  | n + 1, v1, v2, v3, v4 => 
    if 3 ≤ v4 then
    some v3
    else
    if ((v2 >>> (v4 &&& 31)) &&& 1) = 1 then
    gB1 (mm_third σ v1 v4) fun r4 =>
    mm_sizeOf_b33 σ (mm_sizeOf_b5 σ n) v1 v2 v4 v3 r4
    else
    mm_sizeOf_b33 σ (mm_sizeOf_b5 σ n) v1 v2 v4 v3 0
def mm_sizeOf (σ : gS) (x1 : Int32) (x2 : Int32) : Option Int32 := 
    mm_sizeOf_b5 σ 1000 x1 x2 0 0

def mm_dutyOf_b62 (σ : gS)  (v1 : Int32) (v2 : Int32) (v3 : Int32) (v5 : Int32) (s0 : Int32) : Option Int32 := 
    gB1 (mm_freshOf σ v2 v3) fun r2 =>
    if gin v1 5 = true then
    if (σ.2 8 v1.toNatClampNeg) = 2 then
    some (((v5 * s0) * r2) / 2)
    else
    some ((v5 * s0) * r2)
    else none
def mm_dutyOf (σ : gS) (x1 : Int32) (x2 : Int32) (x3 : Int32) (x4 : Int32) : Option Int32 := 
    gB1 (mm_sizeOf σ x2 x4) fun r6 =>
    if r6 ≤ (σ.1 7) then
    some 0
    else
    if gin x1 5 = true then
    if gin x2 4 = true then
    if (σ.2 10 x1.toNatClampNeg) = (σ.2 12 x2.toNatClampNeg) then
    some 0
    else
    if (σ.2 8 x1.toNatClampNeg) = 1 then
    mm_dutyOf_b62 σ x1 x2 x3 r6 ((σ.2 9 x1.toNatClampNeg) + 1)
    else
    mm_dutyOf_b62 σ x1 x2 x3 r6 (σ.2 9 x1.toNatClampNeg)
    else none
    else none

def mm_duty (σ : gS) (x1 : Int32) (x2 : Int32) (x3 : Int32) (x4 : Int32) : Option Int32 := 
    gB1 (mm_isGate σ x1) fun r2 =>
    if r2 = true then
    gB1 (mm_isStory σ x2) fun r5 =>
    if r5 = true then
    gB1 (mm_isDay x3) fun r8 =>
    if r8 = true then
    gB1 (mm_within x4 0 7) fun r11 =>
    if r11 = true then
    if gin x2 4 = true then
    if (σ.2 13 x2.toNatClampNeg) ≤ x3 then
    gB1 (mm_dutyOf σ x1 x2 x3 x4) fun r16 =>
    some r16
    else
    some (-9)
    else none
    else
    some (-2)
    else
    some (-2)
    else
    some (-1)
    else
    some (-1)

def mm_isRow (x1 : Int32) (x2 : Int32) : Option Bool := 
    gB1 (mm_isSort x1) fun r2 =>
    if r2 = true then
    gB1 (mm_within x2 0 12) fun r5 =>
    if r5 = true then
    some true
    else
    some false
    else
    some false

def mm_layPassages_b46  : Nat → Int32 → Int32 → Int32 → gS → Option (Int32 × gS)
  | 0, _, _, _, _ => none
  | n + 1, v4, v6, v7, σ => 
    if v4 ≤ v7 then
    gLet (sS σ 20 v4) fun σ2 =>
    some (0, σ2)
    else
    if gin (v6 + ((3 : Int32) * v7)) 240 = true then
    if gin v7 12 = true then
    gLet (sA σ 21 v7.toNatClampNeg (σ.2 4 ((v6 + ((3 : Int32) * v7)).toNatClampNeg))) fun σ5 =>
    if gin ((v6 + ((3 : Int32) * v7)) + 1) 240 = true then
    gLet (sA σ5 22 v7.toNatClampNeg (σ5.2 4 (((v6 + ((3 : Int32) * v7)) + 1).toNatClampNeg))) fun σ7 =>
    if gin ((v6 + ((3 : Int32) * v7)) + 2) 240 = true then
    gLet (sA σ7 23 v7.toNatClampNeg (σ7.2 4 (((v6 + ((3 : Int32) * v7)) + 2).toNatClampNeg))) fun σ9 =>
    gB1 (mm_isStory σ9 (σ9.2 21 v7.toNatClampNeg)) fun r11 =>
    if r11 = true then
    gB1 (mm_isGate σ9 (σ9.2 22 v7.toNatClampNeg)) fun r14 =>
    if r14 = true then
    gB1 (mm_isDay (σ9.2 23 v7.toNatClampNeg)) fun r17 =>
    if r17 = true then
    (mm_layPassages_b46 n) v4 v6 (v7 + 1) σ9
    else
    some ((-2), σ9)
    else
    some ((-1), σ9)
    else
    some ((-1), σ9)
    else none
    else none
    else none
    else none
def mm_layPassages (σ : gS) (x1 : Int32) (x2 : Int32) (x3 : Int32) (x4 : Int32) : Option (Int32 × gS) := 
    gB1 (mm_against σ x1 x2 x3 ((3 : Int32) * x4)) fun r20 =>
    if r20 = 0 then
    if (σ.1 5) = 0 then
    some ((-3), σ)
    else
    gLet (((60 : Int32) * x1) + x3) fun y23 =>
    mm_layPassages_b46 1000 x4 y23 0 σ
    else
    gB2 (mm_fails σ r20) fun r25 σ26 =>
    some (r25, σ26)

def mm_spot (x1 : Int32) (x2 : Int32) (x3 : Int32) : Option Int32 := 
    some (((((5 : Int32) * x1) + x2) * 8) + x3)

def mm_go_b171 (lp52 : Int32 → gS → Option (Int32 × gS)) (v1 : Int32) (s1 : Int32) (s2 : Int32) (σ : gS) : Option (Int32 × gS) := 
    if gin s1 4 = true then
    gLet (sA σ 26 s1.toNatClampNeg s2) fun σ2 =>
    lp52 (v1 + 1) σ2
    else none
def mm_go_b52  : Nat → Int32 → gS → Option (Int32 × gS)
  | 0, _, _ => none
  | n + 1, v1, σ => 
    if (σ.1 20) ≤ v1 then
    some ((-9), σ)
    else
    if gin v1 12 = true then
    gLet (σ.2 21 v1.toNatClampNeg) fun y5 =>
    if gin y5 4 = true then
    if (σ.2 23 v1.toNatClampNeg) < (σ.2 13 y5.toNatClampNeg) then
    some (v1, σ)
    else
    if (σ.2 25 y5.toNatClampNeg) = 3 then
    some (v1, σ)
    else
    gB1 (mm_spot y5 (σ.2 22 v1.toNatClampNeg) (σ.2 23 v1.toNatClampNeg)) fun r10 =>
    if gin r10 160 = true then
    gLet (sA σ 24 r10.toNatClampNeg ((σ.2 24 r10.toNatClampNeg) ||| ((1 : Int32) <<< ((σ.2 25 y5.toNatClampNeg) &&& 31)))) fun σ12 =>
    gLet (sA σ12 25 y5.toNatClampNeg ((σ12.2 25 y5.toNatClampNeg) + 1)) fun σ13 =>
    if (σ13.2 23 v1.toNatClampNeg) ≤ (σ13.2 26 y5.toNatClampNeg) then
    mm_go_b171 (mm_go_b52 n) v1 y5 (σ13.2 26 y5.toNatClampNeg) σ13
    else
    mm_go_b171 (mm_go_b52 n) v1 y5 (σ13.2 23 v1.toNatClampNeg) σ13
    else none
    else none
    else none
def mm_go_b24  : Nat → Int32 → gS → Option (Int32 × gS)
  | 0, _, _ => none
  | n + 1, v1, σ => 
    if 4 ≤ v1 then
    mm_go_b52 1000 0 σ
    else
    if gin v1 4 = true then
    gLet (sA σ 25 v1.toNatClampNeg 0) fun σ17 =>
    gLet (sA σ17 26 v1.toNatClampNeg (-9)) fun σ18 =>
    (mm_go_b24 n) (v1 + 1) σ18
    else none
def mm_go_b2  : Nat → Int32 → gS → Option (Int32 × gS)
  | 0, _, _ => none
  | n + 1, v1, σ => 
    if 160 ≤ v1 then
    mm_go_b24 1000 0 σ
    else
    if gin v1 160 = true then
    gLet (sA σ 24 v1.toNatClampNeg 0) fun σ21 =>
    (mm_go_b2 n) (v1 + 1) σ21
    else none
def mm_go (σ : gS) : Option (Int32 × gS) := 
    mm_go_b2 1000 0 σ

def mm_takeAll_b37 (lp4 : Int32 → Int32 → gS → Option (Int32 × gS)) (lp21 : Int32 → Int32 → Int32 → gS → Option (Int32 × gS)) : Nat → Int32 → Int32 → Int32 → Int32 → gS → Option (Int32 × gS)
  | 0, _, _, _, _, _ => none
  | n + 1, v1, v2, v3, v4, σ => 
    if 8 ≤ v4 then
    lp21 v1 v2 (v3 + 1) σ
    else
    if gin v2 5 = true then
    gB1 (mm_spot v3 v2 v4) fun r4 =>
    if gin r4 160 = true then
    gB1 (mm_dutyOf σ v2 v3 v4 (σ.2 24 r4.toNatClampNeg)) fun r7 =>
    gLet (sA σ 27 v2.toNatClampNeg ((σ.2 27 v2.toNatClampNeg) + r7)) fun σ8 =>
    (mm_takeAll_b37 lp4 lp21 n) v1 v2 v3 (v4 + 1) σ8
    else none
    else none
def mm_takeAll_b21 (lp4 : Int32 → Int32 → gS → Option (Int32 × gS)) : Nat → Int32 → Int32 → Int32 → gS → Option (Int32 × gS)
  | 0, _, _, _, _ => none
  | n + 1, v1, v2, v3, σ => 
    if (σ.1 6) ≤ v3 then
    if gin v2 5 = true then
    gLet (v1 + (σ.2 27 v2.toNatClampNeg)) fun y11 =>
    lp4 y11 (v2 + 1) σ
    else none
    else
    if gin v3 4 = true then
    gLet (σ.2 13 v3.toNatClampNeg) fun y13 =>
    mm_takeAll_b37 lp4 (mm_takeAll_b21 lp4 n) 1000 v1 v2 v3 y13 σ
    else none
def mm_takeAll_b4  : Nat → Int32 → Int32 → gS → Option (Int32 × gS)
  | 0, _, _, _ => none
  | n + 1, v1, v2, σ => 
    if (σ.1 5) ≤ v2 then
    some (v1, σ)
    else
    if gin v2 5 = true then
    gLet (sA σ 27 v2.toNatClampNeg 0) fun σ16 =>
    mm_takeAll_b21 (mm_takeAll_b4 n) 1000 v1 v2 0 σ16
    else none
def mm_takeAll (σ : gS) : Option (Int32 × gS) := 
    mm_takeAll_b4 1000 0 0 σ

def mm_tellPassages (σ : gS) (x1 : Int32) : Option (Int32 × gS) := 
    gB2 (mm_takeAll σ ) fun r2 σ3 =>
    if x1 = 0 then
    some (r2, σ3)
    else
    if 20 ≤ x1 then
    gB1 (mm_isGate σ3 (x1 - 20)) fun r7 =>
    if r7 = true then
    if gin (x1 - 20) 5 = true then
    some (σ3.2 27 ((x1 - 20).toNatClampNeg), σ3)
    else none
    else
    some ((-9), σ3)
    else
    gB1 (mm_isStory σ3 (x1 - 10)) fun r11 =>
    if r11 = true then
    if gin (x1 - 10) 4 = true then
    if (σ3.2 25 ((x1 - 10).toNatClampNeg)) = 3 then
    some (σ3.2 26 ((x1 - 10).toNatClampNeg), σ3)
    else
    some ((-9), σ3)
    else none
    else
    some ((-9), σ3)

def mm_passages_b60  (v1 : Int32) (v2 : Int32) (v3 : Int32) (v4 : Int32) (v5 : Int32) (σ : gS) : Option (Int32 × gS) := 
    gB2 (mm_layPassages σ v1 v2 v3 v4) fun r2 σ3 =>
    if r2 = 0 then
    gB2 (mm_go σ3 ) fun r6 σ7 =>
    if v5 = 1 then
    some (r6, σ7)
    else
    if r6 = (-9) then
    gB2 (mm_tellPassages σ7 v5) fun r11 σ12 =>
    some (r11, σ12)
    else
    some (((-100) : Int32) - r6, σ7)
    else
    some (r2, σ3)
def mm_passages (σ : gS) (x1 : Int32) (x2 : Int32) (x3 : Int32) (x4 : Int32) (x5 : Int32) : Option (Int32 × gS) := 
    gLet (sS σ 0 0) fun σ13 =>
    gB1 (mm_isSheet x1) fun r15 =>
    if r15 = true then
    gB1 (mm_isRow x2 x4) fun r18 =>
    if r18 = true then
    gB1 (mm_within x5 0 1) fun r21 =>
    if r21 = true then
    mm_passages_b60 x1 x2 x3 x4 x5 σ13
    else
    gB1 (mm_within x5 10 13) fun r24 =>
    if r24 = true then
    mm_passages_b60 x1 x2 x3 x4 x5 σ13
    else
    gB1 (mm_within x5 20 24) fun r27 =>
    if r27 = true then
    mm_passages_b60 x1 x2 x3 x4 x5 σ13
    else
    some ((-2), σ13)
    else
    some ((-2), σ13)
    else
    some ((-1), σ13)

def mm_paid_b90 (σ : gS)  (v6 : Int32) : Option Int32 := 
    some v6
def mm_paid_b78 (σ : gS)  (v1 : Int32) (v2 : Int32) (v3 : Int32) (v4 : Int32) (v6 : Int32) : Option Int32 := 
    if v4 = v2 then
    mm_paid_b90 σ v6
    else
    if v4 = v3 then
    mm_paid_b90 σ v6
    else
    gB1 (mm_dutyOf σ (v4 / 10) v1 (v4 - v4 / 10 * 10) 4) fun r4 =>
    some (v6 + r4)
def mm_paid_b72 (σ : gS)  (v1 : Int32) (v2 : Int32) (v3 : Int32) (v4 : Int32) (s0 : Int32) (s2 : Int32) (s3 : Int32) (s4 : Int32) (s5 : Int32) : Option Int32 := 
    gB1 (mm_dutyOf σ s2 s3 s4 s5) fun r6 =>
    mm_paid_b78 σ v1 v2 v3 v4 (s0 + r6)
def mm_paid_b23 (σ : gS)  (v1 : Int32) (v2 : Int32) (v3 : Int32) (v4 : Int32) (s0 : Int32) (s1 : Int32) : Option Int32 := 
    gB1 (mm_dutyOf σ (v2 / 10) v1 (v2 - v2 / 10 * 10) (s0 ||| s1)) fun r8 =>
    if v3 = v2 then
    mm_paid_b78 σ v1 v2 v3 v4 r8
    else
    if v4 = v3 then
    mm_paid_b72 σ v1 v2 v3 v4 r8 (v3 / 10) v1 (v3 - v3 / 10 * 10) 6
    else
    mm_paid_b72 σ v1 v2 v3 v4 r8 (v3 / 10) v1 (v3 - v3 / 10 * 10) 2
def mm_paid_b11 (σ : gS)  (v1 : Int32) (v2 : Int32) (v3 : Int32) (v4 : Int32) (s0 : Int32) (s1 : Int32) : Option Int32 := 
    if v4 = v2 then
    mm_paid_b23 σ v1 v2 v3 v4 (s0 ||| s1) 4
    else
    mm_paid_b23 σ v1 v2 v3 v4 (s0 ||| s1) 0
def mm_paid (σ : gS) (x1 : Int32) (x2 : Int32) (x3 : Int32) (x4 : Int32) : Option Int32 := 
    if x3 = x2 then
    mm_paid_b11 σ x1 x2 x3 x4 1 2
    else
    mm_paid_b11 σ x1 x2 x3 x4 1 0

def mm_isPlace (σ : gS) (x1 : Int32) (x2 : Int32) (x3 : Int32) : Option Bool := 
    if (x3 / 10) = (σ.1 14) then
    some false
    else
    if gin x1 4 = true then
    gB1 (mm_within (x3 - x3 / 10 * 10) (σ.2 13 x1.toNatClampNeg) x2) fun r4 =>
    if r4 = true then
    some true
    else
    some false
    else none

def mm_findLeast_b139 (lp6 : Int32 → Int32 → Int32 → Int32 → gS → Option (Int32 × gS)) (v1 : Int32) (v2 : Int32) (v3 : Int32) (v4 : Int32) (σ : gS) : Option (Int32 × gS) := 
    lp6 v1 v2 v3 (v4 + 1) σ
def mm_findLeast_b133 (lp6 : Int32 → Int32 → Int32 → Int32 → gS → Option (Int32 × gS)) (lp21 : Int32 → Int32 → Int32 → Int32 → Int32 → gS → Option (Int32 × gS)) (v1 : Int32) (v2 : Int32) (v3 : Int32) (v4 : Int32) (v5 : Int32) (σ : gS) : Option (Int32 × gS) := 
    lp21 v1 v2 v3 v4 (v5 + 1) σ
def mm_findLeast_b127 (lp6 : Int32 → Int32 → Int32 → Int32 → gS → Option (Int32 × gS)) (lp21 : Int32 → Int32 → Int32 → Int32 → Int32 → gS → Option (Int32 × gS)) (lp47 : Int32 → Int32 → Int32 → Int32 → Int32 → Int32 → gS → Option (Int32 × gS)) (v1 : Int32) (v2 : Int32) (v3 : Int32) (v4 : Int32) (v5 : Int32) (v6 : Int32) (σ : gS) : Option (Int32 × gS) := 
    lp47 v1 v2 v3 v4 v5 (v6 + 1) σ
def mm_findLeast_b106 (lp6 : Int32 → Int32 → Int32 → Int32 → gS → Option (Int32 × gS)) (lp21 : Int32 → Int32 → Int32 → Int32 → Int32 → gS → Option (Int32 × gS)) (lp47 : Int32 → Int32 → Int32 → Int32 → Int32 → Int32 → gS → Option (Int32 × gS)) (v1 : Int32) (v2 : Int32) (v4 : Int32) (v5 : Int32) (v6 : Int32) (v7 : Int32) (σ : gS) : Option (Int32 × gS) := 
    gLet (sS σ 28 v4) fun σ1 =>
    gLet (sS σ1 29 v5) fun σ2 =>
    gLet (sS σ2 30 v6) fun σ3 =>
    mm_findLeast_b127 lp6 lp21 lp47 v1 v2 v7 v4 v5 v6 σ3
def mm_findLeast_b47 (lp6 : Int32 → Int32 → Int32 → Int32 → gS → Option (Int32 × gS)) (lp21 : Int32 → Int32 → Int32 → Int32 → Int32 → gS → Option (Int32 × gS)) : Nat → Int32 → Int32 → Int32 → Int32 → Int32 → Int32 → gS → Option (Int32 × gS)
  | 0, _, _, _, _, _, _, _ => none
  | n + 1, v1, v2, v3, v4, v5, v6, σ => 
    if ((10 : Int32) * (σ.1 5)) ≤ v6 then
    mm_findLeast_b133 lp6 lp21 v1 v2 v3 v4 v5 σ
    else
    gB1 (mm_isPlace σ v1 v2 v5) fun r6 =>
    if r6 = true then
    gB1 (mm_isPlace σ v1 v2 v6) fun r9 =>
    if r9 = true then
    gB1 (mm_paid σ v1 v4 v5 v6) fun r12 =>
    if v3 = (-9) then
    mm_findLeast_b106 lp6 lp21 (mm_findLeast_b47 lp6 lp21 n) v1 v2 v4 v5 v6 r12 σ
    else
    if v3 ≤ r12 then
    mm_findLeast_b127 lp6 lp21 (mm_findLeast_b47 lp6 lp21 n) v1 v2 v3 v4 v5 v6 σ
    else
    mm_findLeast_b106 lp6 lp21 (mm_findLeast_b47 lp6 lp21 n) v1 v2 v4 v5 v6 r12 σ
    else
    mm_findLeast_b127 lp6 lp21 (mm_findLeast_b47 lp6 lp21 n) v1 v2 v3 v4 v5 v6 σ
    else
    mm_findLeast_b133 lp6 lp21 v1 v2 v3 v4 v5 σ
def mm_findLeast_b21 (lp6 : Int32 → Int32 → Int32 → Int32 → gS → Option (Int32 × gS)) : Nat → Int32 → Int32 → Int32 → Int32 → Int32 → gS → Option (Int32 × gS)
  | 0, _, _, _, _, _, _ => none
  | n + 1, v1, v2, v3, v4, v5, σ => 
    if ((10 : Int32) * (σ.1 5)) ≤ v5 then
    mm_findLeast_b139 lp6 v1 v2 v3 v4 σ
    else
    gB1 (mm_isPlace σ v1 v2 v4) fun r17 =>
    if r17 = true then
    mm_findLeast_b47 lp6 (mm_findLeast_b21 lp6 n) 1000 v1 v2 v3 v4 v5 0 σ
    else
    mm_findLeast_b139 lp6 v1 v2 v3 v4 σ
def mm_findLeast_b6  : Nat → Int32 → Int32 → Int32 → Int32 → gS → Option (Int32 × gS)
  | 0, _, _, _, _, _ => none
  | n + 1, v1, v2, v3, v4, σ => 
    if ((10 : Int32) * (σ.1 5)) ≤ v4 then
    some (v3, σ)
    else
    mm_findLeast_b21 (mm_findLeast_b6 n) 1000 v1 v2 v3 v4 0 σ
def mm_findLeast (σ : gS) (x1 : Int32) (x2 : Int32) : Option (Int32 × gS) := 
    mm_findLeast_b6 1000 x1 x2 (-9) 0 σ

def mm_least (σ : gS) (x1 : Int32) (x2 : Int32) (x3 : Int32) : Option (Int32 × gS) := 
    gB1 (mm_isStory σ x1) fun r2 =>
    if r2 = true then
    gB1 (mm_isDay x2) fun r5 =>
    if r5 = true then
    gB1 (mm_within x3 (-1) 2) fun r8 =>
    if r8 = true then
    gB2 (mm_findLeast σ x1 x2) fun r11 σ12 =>
    if x3 = (-1) then
    some (r11, σ12)
    else
    if r11 = (-9) then
    some (r11, σ12)
    else
    if x3 = 0 then
    some (σ12.1 28, σ12)
    else
    if x3 = 1 then
    some (σ12.1 29, σ12)
    else
    some (σ12.1 30, σ12)
    else
    some ((-2), σ)
    else
    some ((-2), σ)
    else
    some ((-1), σ)

def mm_free_b17  : Nat → Int32 → Int32 → gS → Option (Int32 × gS)
  | 0, _, _, _ => none
  | n + 1, v1, v2, σ => 
    if 8 ≤ v2 then
    some ((-9), σ)
    else
    gB2 (mm_findLeast σ v1 v2) fun r3 σ4 =>
    if r3 = 0 then
    some (v2, σ4)
    else
    (mm_free_b17 n) v1 (v2 + 1) σ4
def mm_free (σ : gS) (x1 : Int32) : Option (Int32 × gS) := 
    gB1 (mm_isStory σ x1) fun r7 =>
    if r7 = true then
    if gin x1 4 = true then
    gLet (σ.2 13 x1.toNatClampNeg) fun y10 =>
    mm_free_b17 1000 x1 y10 σ
    else none
    else
    some ((-1), σ)

def mm_worth_b69   (σ : gS) : Option (Int32 × gS) := 
    some ((-9), σ)
def mm_worth (σ : gS) (x1 : Int32) (x2 : Int32) (x3 : Int32) : Option (Int32 × gS) := 
    gB1 (mm_isGate σ x1) fun r2 =>
    if r2 = true then
    gB1 (mm_isStory σ x2) fun r5 =>
    if r5 = true then
    gB1 (mm_isDay x3) fun r8 =>
    if r8 = true then
    gB2 (mm_findLeast σ x2 x3) fun r11 σ12 =>
    gLet (sS σ12 14 x1) fun σ13 =>
    gB2 (mm_findLeast σ13 x2 x3) fun r15 σ16 =>
    gLet (sS σ16 14 (-9)) fun σ17 =>
    if r11 = (-9) then
    mm_worth_b69 σ17
    else
    if r15 = (-9) then
    mm_worth_b69 σ17
    else
    some (r15 - r11, σ17)
    else
    some ((-2), σ)
    else
    some ((-1), σ)
    else
    some ((-1), σ)

def mm_reading (σ : gS) (x1 : Int32) (x2 : Int32) : Option (Int32 × gS) := 
    gB1 (mm_isGate σ x1) fun r2 =>
    if r2 = true then
    gB1 (mm_within x2 0 9999) fun r5 =>
    if r5 = true then
    if (σ.1 31) = 8 then
    some ((-4), σ)
    else
    if gin (σ.1 31) 8 = true then
    gLet (sA σ 32 ((σ.1 31).toNatClampNeg) x1) fun σ9 =>
    if gin (σ9.1 31) 8 = true then
    gLet (sA σ9 33 ((σ9.1 31).toNatClampNeg) x2) fun σ11 =>
    gLet (sS σ11 31 ((σ11.1 31) + 1)) fun σ12 =>
    some ((σ12.1 31) - 1, σ12)
    else none
    else none
    else
    some ((-2), σ)
    else
    some ((-1), σ)

def mm_back (σ : gS) (x1 : Int32) : Option (Int32 × gS) := 
    gB1 (mm_within x1 0 (σ.1 31)) fun r2 =>
    if r2 = true then
    gLet (sS σ 31 ((σ.1 31) - x1)) fun σ4 =>
    some (σ4.1 31, σ4)
    else
    some ((-2), σ)

def mm_areSo_b18  : Nat → Int32 → gS → Option (Bool × gS)
  | 0, _, _ => none
  | n + 1, v1, σ => 
    if (σ.1 31) ≤ v1 then
    some (true, σ)
    else
    if gin v1 8 = true then
    if gin (σ.2 32 v1.toNatClampNeg) 5 = true then
    if (σ.2 27 ((σ.2 32 v1.toNatClampNeg).toNatClampNeg)) = (σ.2 33 v1.toNatClampNeg) then
    (mm_areSo_b18 n) (v1 + 1) σ
    else
    some (false, σ)
    else none
    else none
def mm_areSo (σ : gS) : Option (Bool × gS) := 
    gB2 (mm_go σ ) fun r6 σ7 =>
    if r6 = (-9) then
    gB2 (mm_takeAll σ7 ) fun r10 σ11 =>
    mm_areSo_b18 1000 0 σ11
    else
    some (false, σ7)

def mm_lay (σ : gS) (x1 : Int32) (x2 : Int32) (x3 : Int32) (x4 : Int32) (x5 : Int32) : Option (Int32 × gS) := 
    gLet (sS σ 0 0) fun σ1 =>
    if x1 = 0 then
    some ((-1), σ1)
    else
    gB1 (mm_isSheet x2) fun r4 =>
    if r4 = true then
    gB1 (mm_isRow x3 x5) fun r7 =>
    if r7 = true then
    gB2 (mm_layPassages σ1 x2 x3 x4 x5) fun r10 σ11 =>
    some (r10, σ11)
    else
    some ((-2), σ1)
    else
    some ((-1), σ1)

def mm_sizes_b71 (lp39 : Int32 → Int32 → Int32 → Int32 → gS → Option (Int32 × gS)) (v1 : Int32) (v7 : Int32) (v9 : Int32) (s0 : Int32) (s1 : Int32) (σ : gS) : Option (Int32 × gS) := 
    lp39 v1 v7 (s0 ||| s1) (v9 + 1) σ
def mm_sizes_b39  : Nat → Int32 → Int32 → Int32 → Int32 → gS → Option (Int32 × gS)
  | 0, _, _, _, _, _ => none
  | n + 1, v1, v7, v8, v9, σ => 
    if 9 < v9 then
    if gin v1 4 = true then
    gLet (sA σ 11 v1.toNatClampNeg v7) fun σ3 =>
    some (v8, σ3)
    else none
    else
    if gin v1 4 = true then
    gLet (sA σ 11 v1.toNatClampNeg v9) fun σ5 =>
    gB2 (mm_areSo σ5 ) fun r7 σ8 =>
    if r7 = true then
    mm_sizes_b71 (mm_sizes_b39 n) v1 v7 v9 v8 ((1 : Int32) <<< (v9 &&& 31)) σ8
    else
    mm_sizes_b71 (mm_sizes_b39 n) v1 v7 v9 v8 0 σ8
    else none
def mm_sizes (σ : gS) (x1 : Int32) (x2 : Int32) (x3 : Int32) (x4 : Int32) (x5 : Int32) : Option (Int32 × gS) := 
    gB1 (mm_isStory σ x1) fun r11 =>
    gB2 (mm_lay σ (bI r11) x2 x3 x4 x5) fun r13 σ14 =>
    if r13 = 0 then
    if gin x1 4 = true then
    gLet (σ14.2 11 x1.toNatClampNeg) fun y17 =>
    mm_sizes_b39 1000 x1 y17 0 1 σ14
    else none
    else
    some (r13, σ14)

def mm_persons_b71 (lp39 : Int32 → Int32 → Int32 → Int32 → gS → Option (Int32 × gS)) (v1 : Int32) (v7 : Int32) (v9 : Int32) (s0 : Int32) (s1 : Int32) (σ : gS) : Option (Int32 × gS) := 
    lp39 v1 v7 (s0 ||| s1) (v9 + 1) σ
def mm_persons_b39  : Nat → Int32 → Int32 → Int32 → Int32 → gS → Option (Int32 × gS)
  | 0, _, _, _, _, _ => none
  | n + 1, v1, v7, v8, v9, σ => 
    if 6 ≤ v9 then
    if gin v1 4 = true then
    gLet (sA σ 12 v1.toNatClampNeg v7) fun σ3 =>
    some (v8, σ3)
    else none
    else
    if gin v1 4 = true then
    gLet (sA σ 12 v1.toNatClampNeg v9) fun σ5 =>
    gB2 (mm_areSo σ5 ) fun r7 σ8 =>
    if r7 = true then
    mm_persons_b71 (mm_persons_b39 n) v1 v7 v9 v8 ((1 : Int32) <<< (v9 &&& 31)) σ8
    else
    mm_persons_b71 (mm_persons_b39 n) v1 v7 v9 v8 0 σ8
    else none
def mm_persons (σ : gS) (x1 : Int32) (x2 : Int32) (x3 : Int32) (x4 : Int32) (x5 : Int32) : Option (Int32 × gS) := 
    gB1 (mm_isStory σ x1) fun r11 =>
    gB2 (mm_lay σ (bI r11) x2 x3 x4 x5) fun r13 σ14 =>
    if r13 = 0 then
    if gin x1 4 = true then
    gLet (σ14.2 12 x1.toNatClampNeg) fun y17 =>
    mm_persons_b39 1000 x1 y17 0 0 σ14
    else none
    else
    some (r13, σ14)

def mm_kinds_b70 (lp39 : Int32 → Int32 → Int32 → Int32 → gS → Option (Int32 × gS)) (v1 : Int32) (v7 : Int32) (v9 : Int32) (s0 : Int32) (s1 : Int32) (σ : gS) : Option (Int32 × gS) := 
    lp39 v1 v7 (s0 ||| s1) (v9 + 1) σ
def mm_kinds_b39  : Nat → Int32 → Int32 → Int32 → Int32 → gS → Option (Int32 × gS)
  | 0, _, _, _, _, _ => none
  | n + 1, v1, v7, v8, v9, σ => 
    if 3 ≤ v9 then
    if gin v1 5 = true then
    gLet (sA σ 8 v1.toNatClampNeg v7) fun σ3 =>
    some (v8, σ3)
    else none
    else
    if gin v1 5 = true then
    gLet (sA σ 8 v1.toNatClampNeg v9) fun σ5 =>
    gB2 (mm_areSo σ5 ) fun r7 σ8 =>
    if r7 = true then
    mm_kinds_b70 (mm_kinds_b39 n) v1 v7 v9 v8 ((1 : Int32) <<< (v9 &&& 31)) σ8
    else
    mm_kinds_b70 (mm_kinds_b39 n) v1 v7 v9 v8 0 σ8
    else none
def mm_kinds (σ : gS) (x1 : Int32) (x2 : Int32) (x3 : Int32) (x4 : Int32) (x5 : Int32) : Option (Int32 × gS) := 
    gB1 (mm_isGate σ x1) fun r11 =>
    gB2 (mm_lay σ (bI r11) x2 x3 x4 x5) fun r13 σ14 =>
    if r13 = 0 then
    if gin x1 5 = true then
    gLet (σ14.2 8 x1.toNatClampNeg) fun y17 =>
    mm_kinds_b39 1000 x1 y17 0 0 σ14
    else none
    else
    some (r13, σ14)

def mm_limits_b62 (lp32 : Int32 → Int32 → Int32 → gS → Option (Int32 × gS)) (v6 : Int32) (v8 : Int32) (s0 : Int32) (s1 : Int32) (σ : gS) : Option (Int32 × gS) := 
    lp32 v6 (s0 ||| s1) (v8 + 1) σ
def mm_limits_b32  : Nat → Int32 → Int32 → Int32 → gS → Option (Int32 × gS)
  | 0, _, _, _, _ => none
  | n + 1, v6, v7, v8, σ => 
    if 9 < v8 then
    gLet (sS σ 7 v6) fun σ2 =>
    some (v7, σ2)
    else
    gLet (sS σ 7 v8) fun σ3 =>
    gB2 (mm_areSo σ3 ) fun r5 σ6 =>
    if r5 = true then
    mm_limits_b62 (mm_limits_b32 n) v6 v8 v7 ((1 : Int32) <<< (v8 &&& 31)) σ6
    else
    mm_limits_b62 (mm_limits_b32 n) v6 v8 v7 0 σ6
def mm_limits (σ : gS) (x1 : Int32) (x2 : Int32) (x3 : Int32) (x4 : Int32) : Option (Int32 × gS) := 
    gB2 (mm_lay σ 1 x1 x2 x3 x4) fun r9 σ10 =>
    if r9 = 0 then
    mm_limits_b32 1000 (σ10.1 7) 0 0 σ10
    else
    some (r9, σ10)

def mm_inLeastTerms_b6  : Nat → Int64 → Int64 → Int32 → Int64 → Int64 → Option Int64
  | 0, _, _, _, _, _ => none
  | n + 1, v0, v2, v4, v5, v7 => 
    if v7 = 0 then
    if v4 = 0 then
    if ¬ v5 = 0 then
    some (v0 / v5)
    else none
    else
    if ¬ v5 = 0 then
    some (v2 / v5)
    else none
    else
    (mm_inLeastTerms_b6 n) v0 v2 v4 v7 (v5 - v5 / v7 * v7)
def mm_inLeastTerms (x1 : Int64) (x2 : Int64) (x3 : Int32) : Option Int64 := 
    mm_inLeastTerms_b6 1000 x1 x2 x3 x1 x2

def mm_odds_b126 (σ : gS) (lp56 : Int32 → Int32 → Int32 → Int32 → Int32 → Int32 → Option Int64) (lp68 : Int32 → Int32 → Int32 → Int32 → Int32 → Int32 → Int32 → Option Int64) (lp80 : Int32 → Int32 → Int32 → Int32 → Int32 → Int32 → Int32 → Int32 → Option Int64) (v1 : Int32) (v2 : Int32) (v3 : Int32) (v4 : Int32) (v6 : Int32) (v7 : Int32) (v8 : Int32) (s0 : Int32) (s1 : Int32) : Option Int64 := 
    lp80 v1 v2 v3 v4 (s0 + s1) v6 v7 (v8 + 1)
def mm_odds_b80 (σ : gS) (lp56 : Int32 → Int32 → Int32 → Int32 → Int32 → Int32 → Option Int64) (lp68 : Int32 → Int32 → Int32 → Int32 → Int32 → Int32 → Int32 → Option Int64) : Nat → Int32 → Int32 → Int32 → Int32 → Int32 → Int32 → Int32 → Int32 → Option Int64
  | 0, _, _, _, _, _, _, _, _ => none
  | n + 1, v1, v2, v3, v4, v5, v6, v7, v8 => 
    if (σ.1 5) ≤ v8 then
    lp68 v1 v2 v3 v4 v5 v6 (v7 + 1)
    else
    gB1 (mm_paid σ v1 (((10 : Int32) * v6) + v2) (((10 : Int32) * v7) + v2) (((10 : Int32) * v8) + v2)) fun r3 =>
    if v3 < r3 then
    mm_odds_b126 σ lp56 lp68 (mm_odds_b80 σ lp56 lp68 n) v1 v2 v3 v4 v6 v7 v8 v5 0
    else
    mm_odds_b126 σ lp56 lp68 (mm_odds_b80 σ lp56 lp68 n) v1 v2 v3 v4 v6 v7 v8 v5 1
def mm_odds_b68 (σ : gS) (lp56 : Int32 → Int32 → Int32 → Int32 → Int32 → Int32 → Option Int64) : Nat → Int32 → Int32 → Int32 → Int32 → Int32 → Int32 → Int32 → Option Int64
  | 0, _, _, _, _, _, _, _ => none
  | n + 1, v1, v2, v3, v4, v5, v6, v7 => 
    if (σ.1 5) ≤ v7 then
    lp56 v1 v2 v3 v4 v5 (v6 + 1)
    else
    mm_odds_b80 σ lp56 (mm_odds_b68 σ lp56 n) 1000 v1 v2 v3 v4 v5 v6 v7 0
def mm_odds_b56 (σ : gS)  : Nat → Int32 → Int32 → Int32 → Int32 → Int32 → Int32 → Option Int64
  | 0, _, _, _, _, _, _ => none
  | n + 1, v1, v2, v3, v4, v5, v6 => 
    if (σ.1 5) ≤ v6 then
    gB1 (mm_inLeastTerms v5.toInt64 ((((σ.1 5) * (σ.1 5)) * (σ.1 5)).toInt64) v4) fun r8 =>
    some r8
    else
    mm_odds_b68 σ (mm_odds_b56 σ n) 1000 v1 v2 v3 v4 v5 v6 0
def mm_odds (σ : gS) (x1 : Int32) (x2 : Int32) (x3 : Int32) (x4 : Int32) : Option Int64 := 
    gB1 (mm_isStory σ x1) fun r10 =>
    if r10 = true then
    gB1 (mm_isDay x2) fun r13 =>
    if r13 = true then
    gB1 (mm_within x3 0 9999) fun r16 =>
    if r16 = true then
    gB1 (mm_within x4 0 1) fun r19 =>
    if r19 = true then
    if gin x1 4 = true then
    if (σ.2 13 x1.toNatClampNeg) ≤ x2 then
    mm_odds_b56 σ 1000 x1 x2 x3 x4 0 0
    else
    some (-9223372036854775808)
    else none
    else
    some (-9223372036854775808)
    else
    some (-9223372036854775808)
    else
    some (-9223372036854775808)
    else
    some (-9223372036854775808)

def mm_sheet_b57  : Nat → Int32 → Int32 → gS → Option (Int32 × gS)
  | 0, _, _, _ => none
  | n + 1, v1, v4, σ => 
    if 60 ≤ v4 then
    some (1, σ)
    else
    if gin (((60 : Int32) * v1) + v4) 240 = true then
    gLet (sA σ 4 ((((60 : Int32) * v1) + v4).toNatClampNeg) 0) fun σ3 =>
    (mm_sheet_b57 n) v1 (v4 + 1) σ3
    else none
def mm_sheet (σ : gS) (x1 : Int32) (x2 : Int32) (x3 : Int32) : Option (Int32 × gS) := 
    gLet (sS σ 0 0) fun σ4 =>
    gB1 (mm_isSheet x1) fun r6 =>
    if r6 = true then
    gB1 (mm_isSort x2) fun r9 =>
    if r9 = true then
    if x3 ≤ 60 then
    if 0 ≤ x3 then
    if gin x1 4 = true then
    gLet (sA σ4 2 x1.toNatClampNeg x2) fun σ14 =>
    gLet (sA σ14 3 x1.toNatClampNeg x3) fun σ15 =>
    mm_sheet_b57 1000 x1 0 σ15
    else none
    else
    gB2 (mm_fails σ4 4) fun r17 σ18 =>
    some (r17, σ18)
    else
    some ((-2), σ4)
    else
    some ((-2), σ4)
    else
    some ((-1), σ4)

def mm_lose_b25  (v1 : Int32) (s0 : Int32) (σ : gS) : Option (Int32 × gS) := 
    if gin v1 4 = true then
    gLet (sA σ 2 v1.toNatClampNeg (-9)) fun σ2 =>
    some (s0, σ2)
    else none
def mm_lose (σ : gS) (x1 : Int32) : Option (Int32 × gS) := 
    gB1 (mm_isSheet x1) fun r4 =>
    if r4 = true then
    if gin x1 4 = true then
    if (σ.2 2 x1.toNatClampNeg) = (-9) then
    mm_lose_b25 x1 0 σ
    else
    mm_lose_b25 x1 1 σ
    else none
    else
    some ((-1), σ)

def mm_put (σ : gS) (x1 : Int32) (x2 : Int32) (x3 : Int32) : Option (Int32 × gS) := 
    gLet (sS σ 0 0) fun σ1 =>
    gB1 (mm_isSheet x1) fun r3 =>
    if r3 = true then
    if gin x1 4 = true then
    if (σ1.2 2 x1.toNatClampNeg) = (-9) then
    gB2 (mm_fails σ1 1) fun r22 σ23 =>
    some (r22, σ23)
    else
    gB1 (mm_within x2 0 ((σ1.2 3 x1.toNatClampNeg) - 1)) fun r8 =>
    if r8 = true then
    if (σ1.2 2 x1.toNatClampNeg) = 0 then
    if gin (((60 : Int32) * x1) + x2) 240 = true then
    gLet (sA σ1 4 ((((60 : Int32) * x1) + x2).toNatClampNeg) x3.toInt8.toInt32) fun σ17 =>
    some (1, σ17)
    else none
    else
    if (σ1.2 2 x1.toNatClampNeg) = 1 then
    if gin (((60 : Int32) * x1) + x2) 240 = true then
    gLet (sA σ1 4 ((((60 : Int32) * x1) + x2).toNatClampNeg) x3.toInt16.toInt32) fun σ15 =>
    some (1, σ15)
    else none
    else
    if gin (((60 : Int32) * x1) + x2) 240 = true then
    gLet (sA σ1 4 ((((60 : Int32) * x1) + x2).toNatClampNeg) x3) fun σ13 =>
    some (1, σ13)
    else none
    else
    gB2 (mm_fails σ1 3) fun r19 σ20 =>
    some (r19, σ20)
    else none
    else
    some ((-1), σ1)

def mm_cell_b50  (v1 : Int32) (v2 : Int32) (σ : gS) : Option (Int64 × gS) := 
    if gin v1 4 = true then
    if (σ.2 2 v1.toNatClampNeg) = (-9) then
    gB2 (mm_lost σ 1) fun r11 σ12 =>
    some (r11, σ12)
    else
    gB1 (mm_within v2 0 ((σ.2 3 v1.toNatClampNeg) - 1)) fun r4 =>
    if r4 = true then
    if gin (((60 : Int32) * v1) + v2) 240 = true then
    some ((σ.2 4 ((((60 : Int32) * v1) + v2).toNatClampNeg)).toInt64, σ)
    else none
    else
    gB2 (mm_lost σ 3) fun r8 σ9 =>
    some (r8, σ9)
    else none
def mm_cell (σ : gS) (x1 : Int32) (x2 : Int32) (x3 : Int32) : Option (Int64 × gS) := 
    gLet (sS σ 0 0) fun σ13 =>
    gB1 (mm_isSheet x1) fun r15 =>
    if r15 = true then
    gB1 (mm_isSort x3) fun r18 =>
    if r18 = true then
    if gin x1 4 = true then
    if (σ13.2 2 x1.toNatClampNeg) = (-9) then
    mm_cell_b50 x1 x2 σ13
    else
    if (σ13.2 2 x1.toNatClampNeg) = x3 then
    mm_cell_b50 x1 x2 σ13
    else
    gB2 (mm_lost σ13 2) fun r24 σ25 =>
    some (r24, σ25)
    else none
    else
    some ((-9223372036854775808), σ13)
    else
    some ((-9223372036854775808), σ13)

def mm_copy_b43   (σ : gS) : Option (Int32 × gS) := 
    gB2 (mm_fails σ 1) fun r2 σ3 =>
    some (r2, σ3)
def mm_copy_b144   (σ : gS) : Option (Int32 × gS) := 
    gB2 (mm_fails σ 3) fun r5 σ6 =>
    some (r5, σ6)
def mm_copy_b190 (lp166 : Int32 → Int32 → Int32 → Int32 → Int32 → Int32 → Int32 → gS → Option (Int32 × gS)) (v1 : Int32) (v2 : Int32) (v3 : Int32) (v4 : Int32) (v5 : Int32) (v7 : Int32) (v8 : Int32) (s0 : Int32) (σ : gS) : Option (Int32 × gS) := 
    if gin ((((60 : Int32) * v1) + v2) + s0) 240 = true then
    if gin ((((60 : Int32) * v3) + v4) + s0) 240 = true then
    gLet (sA σ 4 (((((60 : Int32) * v3) + v4) + s0).toNatClampNeg) (σ.2 4 (((((60 : Int32) * v1) + v2) + s0).toNatClampNeg))) fun σ9 =>
    lp166 v1 v2 v3 v4 v5 v7 (v8 + 1) σ9
    else none
    else none
def mm_copy_b166  : Nat → Int32 → Int32 → Int32 → Int32 → Int32 → Int32 → Int32 → gS → Option (Int32 × gS)
  | 0, _, _, _, _, _, _, _, _ => none
  | n + 1, v1, v2, v3, v4, v5, v7, v8, σ => 
    if v5 ≤ v8 then
    some (v5, σ)
    else
    if v7 = 0 then
    mm_copy_b190 (mm_copy_b166 n) v1 v2 v3 v4 v5 v7 v8 v8 σ
    else
    mm_copy_b190 (mm_copy_b166 n) v1 v2 v3 v4 v5 v7 v8 ((v5 - 1) - v8) σ
def mm_copy_b161  (v1 : Int32) (v2 : Int32) (v3 : Int32) (v4 : Int32) (v5 : Int32) (s0 : Int32) (σ : gS) : Option (Int32 × gS) := 
    mm_copy_b166 1000 v1 v2 v3 v4 v5 s0 0 σ
def mm_copy_b110  (v1 : Int32) (v2 : Int32) (v3 : Int32) (v4 : Int32) (v5 : Int32) (s0 : Int32) (σ : gS) : Option (Int32 × gS) := 
    if s0 = 0 then
    mm_copy_b144 σ
    else
    if gin v1 4 = true then
    if ((σ.2 3 v1.toNatClampNeg) - v2) < v5 then
    mm_copy_b144 σ
    else
    if gin v3 4 = true then
    if v5 ≤ ((σ.2 3 v3.toNatClampNeg) - v4) then
    if v4 ≤ v2 then
    mm_copy_b161 v1 v2 v3 v4 v5 0 σ
    else
    mm_copy_b161 v1 v2 v3 v4 v5 1 σ
    else
    mm_copy_b144 σ
    else none
    else none
def mm_copy_b109  (v1 : Int32) (v2 : Int32) (v3 : Int32) (v4 : Int32) (v5 : Int32) (σ : gS) : Option (Int32 × gS) := 
    mm_copy_b110 v1 v2 v3 v4 v5 0 σ
def mm_copy (σ : gS) (x1 : Int32) (x2 : Int32) (x3 : Int32) (x4 : Int32) (x5 : Int32) : Option (Int32 × gS) := 
    gLet (sS σ 0 0) fun σ18 =>
    gB1 (mm_isSheet x1) fun r20 =>
    if r20 = true then
    gB1 (mm_isSheet x3) fun r23 =>
    if r23 = true then
    if gin x1 4 = true then
    if (σ18.2 2 x1.toNatClampNeg) = (-9) then
    mm_copy_b43 σ18
    else
    if gin x3 4 = true then
    if (σ18.2 2 x3.toNatClampNeg) = (-9) then
    mm_copy_b43 σ18
    else
    if (σ18.2 2 x1.toNatClampNeg) = (σ18.2 2 x3.toNatClampNeg) then
    if x2 < 0 then
    mm_copy_b109 x1 x2 x3 x4 x5 σ18
    else
    if x4 < 0 then
    mm_copy_b109 x1 x2 x3 x4 x5 σ18
    else
    if x5 < 0 then
    mm_copy_b109 x1 x2 x3 x4 x5 σ18
    else
    if (σ18.2 3 x1.toNatClampNeg) < x2 then
    mm_copy_b109 x1 x2 x3 x4 x5 σ18
    else
    if (σ18.2 3 x3.toNatClampNeg) < x4 then
    mm_copy_b109 x1 x2 x3 x4 x5 σ18
    else
    mm_copy_b110 x1 x2 x3 x4 x5 1 σ18
    else
    gB2 (mm_fails σ18 2) fun r36 σ37 =>
    some (r36, σ37)
    else none
    else none
    else
    some ((-1), σ18)
    else
    some ((-1), σ18)

def mm_begins (σ : gS) (x1 : Int32) : Option (Unit × gS) := 
    gLet (sS σ 1 (((31 : Int32) * (σ.1 1)) + x1)) fun σ1 =>
    some ((), σ1)

def mm_tell (σ : gS) (x1 : Int32) : Option (Int32 × gS) := 
    gB1 (mm_isGate σ x1) fun r2 =>
    if r2 = true then
    if gin x1 5 = true then
    gLet (σ.2 9 x1.toNatClampNeg) fun y5 =>
    if (σ.2 8 x1.toNatClampNeg) = 1 then
    gB2 (mm_begins σ 2) fun r8 σ9 =>
    gB2 (mm_begins σ9 1) fun r11 σ12 =>
    some (y5 + 100, σ12)
    else
    if (σ.2 8 x1.toNatClampNeg) = 2 then
    gB2 (mm_begins σ 3) fun r15 σ16 =>
    gB2 (mm_begins σ16 2) fun r18 σ19 =>
    gB2 (mm_begins σ19 1) fun r21 σ22 =>
    gB2 (mm_begins σ22 1) fun r24 σ25 =>
    some (((2 : Int32) * y5) + 100, σ25)
    else
    gB2 (mm_begins σ 1) fun r27 σ28 =>
    some (y5, σ28)
    else none
    else
    some ((-1), σ)

def mm_knock_b26  (v1 : Int32) (s1 : Int32) (σ : gS) : Option (Int32 × gS) := 
    gB2 (mm_begins σ s1) fun r2 σ3 =>
    if gin v1 5 = true then
    if (σ3.2 8 v1.toNatClampNeg) = 2 then
    some (90, σ3)
    else
    some (v1, σ3)
    else none
def mm_knock (σ : gS) (x1 : Int32) : Option (Int32 × gS) := 
    gB1 (mm_isGate σ x1) fun r7 =>
    if r7 = true then
    if gin x1 5 = true then
    if (σ.2 8 x1.toNatClampNeg) = 2 then
    mm_knock_b26 x1 5 σ
    else
    mm_knock_b26 x1 4 σ
    else none
    else
    some ((-1), σ)

def mm_as (σ : gS) (x1 : Int32) (x2 : Int32) : Option (Int32 × gS) := 
    gLet (sS σ 0 0) fun σ1 =>
    gB1 (mm_isGate σ1 x1) fun r3 =>
    if r3 = true then
    gB1 (mm_within x2 0 2) fun r6 =>
    if r6 = true then
    if gin x1 5 = true then
    if (σ1.2 8 x1.toNatClampNeg) < x2 then
    gB2 (mm_fails σ1 2) fun r11 σ12 =>
    some (r11, σ12)
    else
    some (1, σ1)
    else none
    else
    some ((-2), σ1)
    else
    some ((-1), σ1)

def mm_trace (σ : gS) : Option Int32 := 
    some (σ.1 1)

def mm_fault (σ : gS) : Option Int32 := 
    some (σ.1 0)

def mm_many (σ : gS) (x1 : Int32) : Option Int32 := 
    if x1 = 0 then
    some (σ.1 6)
    else
    if x1 = 1 then
    some (σ.1 5)
    else
    if x1 = 2 then
    some (σ.1 7)
    else
    if x1 = 3 then
    some (σ.1 31)
    else
    some (-2)
