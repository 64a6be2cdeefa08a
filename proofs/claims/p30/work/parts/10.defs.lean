/-! ===== the methods of the ledger as functions of its state, laid by wip/p30/gen.py out of the bytecode ===== -/
def f_bitCount (x0 : Int32) : Int32 :=
  ((fun z1 : Int32 => ((fun z2 : Int32 => ((fun z3 : Int32 => ((fun z4 : Int32 => ((fun z5 : Int32 => (z5 &&& (63 : Int32))) (z4 + (z4.toUInt32 >>> (Int32.toUInt32 (16 : Int32) &&& Int32.toUInt32 31)).toInt32))) (z3 + (z3.toUInt32 >>> (Int32.toUInt32 (8 : Int32) &&& Int32.toUInt32 31)).toInt32))) ((z2 + (z2.toUInt32 >>> (Int32.toUInt32 (4 : Int32) &&& Int32.toUInt32 31)).toInt32) &&& (252645135 : Int32)))) ((z1 &&& (858993459 : Int32)) + ((z1.toUInt32 >>> (Int32.toUInt32 (2 : Int32) &&& Int32.toUInt32 31)).toInt32 &&& (858993459 : Int32))))) (x0 - ((x0.toUInt32 >>> (Int32.toUInt32 (1 : Int32) &&& Int32.toUInt32 31)).toInt32 &&& (1431655765 : Int32))))
def f_mixed (x0 : Int64) (x2 : Int32) : Int64 :=
  ((x0 * (31 : Int64)) + x2.toInt64)
def f_oneIf (x0 : Int32) : Int32 :=
  (if x0 = (0 : Int32) then (0 : Int32) else (1 : Int32))
def f_isInSet (x0 : Int32) (x1 : Int32) : Int32 :=
  (if (x0 &&& ((1 : Int32) <<< (x1 &&& (31 : Int32)))) = (0 : Int32) then (0 : Int32) else (1 : Int32))
def f_distance (x0 : Int32) (x1 : Int32) : Int32 :=
  (if (0 : Int32) ≤ (x0 - x1) then (x0 - x1) else (0 : Int32) - (x0 - x1))
def f_energyAt (σ : St) (x1 : Int32) (x2 : Int32) : Int32 :=
  (if x1 = (0 : Int32) then ((10 : Int32) * x2) else (if x1 = (1 : Int32) then ((x2 * x2) / (2 : Int32)) else (if x1 = (2 : Int32) then (((6 : Int32) * x2) + ((σ.1 0 9) * x2)) else ((5 : Int32) * x2))))
def f_energyOf (σ : St) (x1 : Int32) : Int32 :=
  (f_energyAt σ (σ.1 (34 + x1.toNatClampNeg) 0) (σ.1 (34 + x1.toNatClampNeg) 3))
def f_ringOf (σ : St) (x1 : Int32) : Int32 :=
  ((f_energyAt σ (σ.1 (34 + x1.toNatClampNeg) 0) (σ.1 (34 + x1.toNatClampNeg) 3)) / (15 : Int32))
def f_isFit (σ : St) (x1 : Int32) : Int32 :=
  (if (σ.1 (22 + x1.toNatClampNeg) 2) ≤ (0 : Int32) then (0 : Int32) else (if (σ.1 (22 + x1.toNatClampNeg) 3) = (-1 : Int32) then (0 : Int32) else (if (2 : Int32) < ((σ.1 0 8) - (σ.1 (22 + x1.toNatClampNeg) 3)) then (0 : Int32) else (1 : Int32))))
def f_guards (σ : St) (x1 : Int32) (x2 : Int32) : Int32 :=
  (if (σ.1 (22 + x1.toNatClampNeg) 4) = x2 then (if (σ.1 (22 + x1.toNatClampNeg) 0) = (σ.1 (34 + x2.toNatClampNeg) 0) then (if (f_isFit σ x1) = (0 : Int32) then (0 : Int32) else (1 : Int32)) else (0 : Int32)) else (0 : Int32))
def f_guardOf_L4 (σ : St) (x1 : Int32) : Nat → Int32 → Int32 → Int32
  | 0, y3_4, y2_4 => 0
  | n_4 + 1, y3_4, y2_4 => (if (σ.1 0 4) ≤ y3_4 then y2_4 else (if (f_guards σ y3_4 x1) = (0 : Int32) then (f_guardOf_L4 σ x1 n_4 (y3_4 + (1 : Int32)) y2_4) else (f_guardOf_L4 σ x1 n_4 (y3_4 + (1 : Int32)) (y2_4 + (σ.1 (22 + y3_4.toNatClampNeg) 1)))))
def f_guardOf (σ : St) (x1 : Int32) : Int32 :=
  (f_guardOf_L4 σ x1 128 (0 : Int32) (0 : Int32))
def f_performersShare (σ : St) (x1 : Int32) (x2 : Int32) : Int32 :=
  (((((5 : Int32) * (σ.1 (6 + x1.toNatClampNeg + 8) x2.toNatClampNeg)) + (20 : Int32)) - ((σ.1 (6 + x1.toNatClampNeg) 6) / (2 : Int32))) - ((5 : Int32) * (σ.1 4 x2.toNatClampNeg)))
def f_marginOf (σ : St) (x1 : Int32) : Int32 :=
  (((f_guardOf σ x1) + (f_performersShare σ (σ.1 (34 + x1.toNatClampNeg) 1) (σ.1 (34 + x1.toNatClampNeg) 0))) - (f_energyOf σ x1))
def f_marginWithoutEnergy (σ : St) (x1 : Int32) : Int32 :=
  ((f_marginOf σ x1) + (f_energyOf σ x1))
def f_standsInRing (σ : St) (x1 : Int32) (x2 : Int32) : Int32 :=
  (if x1 = (σ.1 (34 + x2.toNatClampNeg) 1) then (0 : Int32) else (if (f_ringOf σ x2) < (f_distance (σ.1 (6 + x1.toNatClampNeg) 5) (σ.1 (34 + x2.toNatClampNeg) 2)) then (0 : Int32) else (1 : Int32)))
def f_isOccupied_L2 (σ : St) (x1 : Int32) : Nat → Int32 → Int32
  | 0, y2_2 => 0
  | n_2 + 1, y2_2 => (if (σ.1 0 3) ≤ y2_2 then (0 : Int32) else (if (f_standsInRing σ y2_2 x1) = (0 : Int32) then (f_isOccupied_L2 σ x1 n_2 (y2_2 + (1 : Int32))) else (1 : Int32)))
def f_isOccupied (σ : St) (x1 : Int32) : Int32 :=
  (f_isOccupied_L2 σ x1 128 (0 : Int32))
def f_ringsAround_L4 (σ : St) (x1 : Int32) : Nat → Int32 → Int32 → Int32
  | 0, y3_4, y2_4 => 0
  | n_4 + 1, y3_4, y2_4 => (if (σ.1 0 5) ≤ y3_4 then y2_4 else (if (f_standsInRing σ x1 y3_4) = (0 : Int32) then (f_ringsAround_L4 σ x1 n_4 (y3_4 + (1 : Int32)) y2_4) else (f_ringsAround_L4 σ x1 n_4 (y3_4 + (1 : Int32)) (y2_4 ||| ((1 : Int32) <<< (y3_4 &&& (31 : Int32)))))))
def f_ringsAround (σ : St) (x1 : Int32) : Int32 :=
  (f_ringsAround_L4 σ x1 128 (0 : Int32) (0 : Int32))
def f_isClearPlace_L14 (σ : St) (x1 : Int32) : Nat → Int32 → Int32
  | 0, y2_14 => 0
  | n_14 + 1, y2_14 => (if (σ.1 0 5) ≤ y2_14 then (1 : Int32) else (if (σ.1 (34 + y2_14.toNatClampNeg) 8) = (0 : Int32) then (f_isClearPlace_L14 σ x1 n_14 (y2_14 + (1 : Int32))) else (if (f_ringOf σ y2_14) < (f_distance x1 (σ.1 (34 + y2_14.toNatClampNeg) 2)) then (f_isClearPlace_L14 σ x1 n_14 (y2_14 + (1 : Int32))) else (0 : Int32))))
def f_isClearPlace (σ : St) (x1 : Int32) : Int32 :=
  (if x1 < (0 : Int32) then (0 : Int32) else (if x1 ≤ (99 : Int32) then (f_isClearPlace_L14 σ x1 128 (0 : Int32)) else (0 : Int32)))
def f_isReadyMedic (σ : St) (x1 : Int32) (x2 : Int32) : Int32 :=
  (if (σ.1 (6 + x1.toNatClampNeg) 2) = (0 : Int32) then (0 : Int32) else (if (σ.1 (6 + x1.toNatClampNeg) 3) = (0 : Int32) then (if (25 : Int32) < (f_distance (σ.1 (6 + x1.toNatClampNeg) 5) (σ.1 (34 + x2.toNatClampNeg) 2)) then (0 : Int32) else (1 : Int32)) else (0 : Int32)))
def f_isTooYoung (σ : St) (x1 : Int32) (x2 : Int32) : Int32 :=
  (if (σ.1 (6 + x1.toNatClampNeg) 1) = (0 : Int32) then (0 : Int32) else (if (σ.1 (34 + x2.toNatClampNeg) 0) = (1 : Int32) then (1 : Int32) else (if (f_energyOf σ x2) ≤ (60 : Int32) then (0 : Int32) else (1 : Int32))))
def f_windBars (σ : St) (x1 : Int32) : Int32 :=
  (if (σ.1 0 9) ≤ (wnd (σ.1 (34 + x1.toNatClampNeg) 0).toNatClampNeg) then (0 : Int32) else (1 : Int32))
def f_darkBars (σ : St) (x1 : Int32) : Int32 :=
  (if (σ.1 0 10) = (0 : Int32) then (if (σ.1 (34 + x1.toNatClampNeg) 0) = (1 : Int32) then (0 : Int32) else (1 : Int32)) else (0 : Int32))
def f_hasMedicAtHand_L8 (σ : St) (x1 : Int32) : Nat → Int32 → Int32
  | 0, y3_8 => 0
  | n_8 + 1, y3_8 => (if (σ.1 0 3) ≤ y3_8 then (0 : Int32) else (if y3_8 = (σ.1 (34 + x1.toNatClampNeg) 1) then (f_hasMedicAtHand_L8 σ x1 n_8 (y3_8 + (1 : Int32))) else (if (f_isReadyMedic σ y3_8 x1) = (0 : Int32) then (f_hasMedicAtHand_L8 σ x1 n_8 (y3_8 + (1 : Int32))) else (if (f_distance (σ.1 (6 + y3_8.toNatClampNeg) 5) (σ.1 (34 + x1.toNatClampNeg) 2)) ≤ (f_ringOf σ x1) then (f_hasMedicAtHand_L8 σ x1 n_8 (y3_8 + (1 : Int32))) else (1 : Int32)))))
def f_hasMedicAtHand (σ : St) (x1 : Int32) : Int32 :=
  (f_hasMedicAtHand_L8 σ x1 128 (0 : Int32))
def f_isNearArmed_L2 (σ : St) (x1 : Int32) : Nat → Int32 → Int32
  | 0, y2_2 => 0
  | n_2 + 1, y2_2 => (if (σ.1 0 5) ≤ y2_2 then (0 : Int32) else (if y2_2 = x1 then (f_isNearArmed_L2 σ x1 n_2 (y2_2 + (1 : Int32))) else (if (σ.1 (34 + y2_2.toNatClampNeg) 8) = (0 : Int32) then (f_isNearArmed_L2 σ x1 n_2 (y2_2 + (1 : Int32))) else (if ((f_ringOf σ y2_2) + (f_ringOf σ x1)) < (f_distance (σ.1 (34 + y2_2.toNatClampNeg) 2) (σ.1 (34 + x1.toNatClampNeg) 2)) then (f_isNearArmed_L2 σ x1 n_2 (y2_2 + (1 : Int32))) else (1 : Int32)))))
def f_isNearArmed (σ : St) (x1 : Int32) : Int32 :=
  (f_isNearArmed_L2 σ x1 128 (0 : Int32))
def f_whatBars (σ : St) (x1 : Int32) : Int32 :=
  (if (σ.1 (6 + (σ.1 (34 + x1.toNatClampNeg) 1).toNatClampNeg) 3) = (0 : Int32) then (if (σ.1 (34 + x1.toNatClampNeg) 6) = (0 : Int32) then (if (4 : Int32) ≤ (σ.1 (34 + x1.toNatClampNeg) 4) then (if (3 : Int32) ≤ (f_bitCount (σ.1 (34 + x1.toNatClampNeg) 5)) then (if (0 : Int32) ≤ (f_marginOf σ x1) then (if (f_isTooYoung σ (σ.1 (34 + x1.toNatClampNeg) 1) x1) = (0 : Int32) then (if (f_windBars σ x1) = (0 : Int32) then (if (f_darkBars σ x1) = (0 : Int32) then (if (f_hasMedicAtHand σ x1) = (0 : Int32) then (9 : Int32) else (if (f_isOccupied σ x1) = (0 : Int32) then (if (f_isNearArmed σ x1) = (0 : Int32) then (0 : Int32) else (11 : Int32)) else (10 : Int32))) else (8 : Int32)) else (7 : Int32)) else (6 : Int32)) else (5 : Int32)) else (4 : Int32)) else (3 : Int32)) else (2 : Int32)) else (1 : Int32))
def f_standDown (σ : St) (x1 : Int32) : St :=
  (if (σ.1 (34 + x1.toNatClampNeg) 8) = (0 : Int32) then σ else ((fun σ1 : St => ((fun σ2 : St => σ2) (up σ1 0 13 ((σ1.1 0 13) + (1 : Int32))))) (up σ (34 + x1.toNatClampNeg) 8 (0 : Int32))))
def f_standDownOccupied_L2 : Nat → St → Int32 → St
  | 0, σ_2, y1_2 => σ_2
  | n_2 + 1, σ_2, y1_2 => (if (σ_2.1 0 5) ≤ y1_2 then σ_2 else (if (f_isOccupied σ_2 y1_2) = (0 : Int32) then (f_standDownOccupied_L2 n_2 σ_2 (y1_2 + (1 : Int32))) else ((fun σ1 : St => (f_standDownOccupied_L2 n_2 σ1 (y1_2 + (1 : Int32)))) (f_standDown σ_2 y1_2))))
def f_standDownOccupied (σ : St) : St :=
  (f_standDownOccupied_L2 128 σ (0 : Int32))
def f_loseSignatures (σ : St) (x1 : Int32) : St :=
  ((fun σ1 : St => ((fun σ2 : St => σ2) (f_standDown σ1 x1))) (up σ (34 + x1.toNatClampNeg) 5 (0 : Int32)))
def f_becomeChanged (σ : St) (x1 : Int32) : St :=
  ((fun σ1 : St => ((fun σ2 : St => σ2) (up σ1 (34 + x1.toNatClampNeg) 4 (if (σ1.1 (34 + x1.toNatClampNeg) 4) < (2 : Int32) then (σ1.1 (34 + x1.toNatClampNeg) 4) else (2 : Int32))))) (f_loseSignatures σ x1))
def f_addMiss_L34 (x1 : Int32) : Nat → St → Int32 → St
  | 0, σ_34, y2_34 => σ_34
  | n_34 + 1, σ_34, y2_34 => (if (σ_34.1 0 5) ≤ y2_34 then σ_34 else (if (σ_34.1 (34 + y2_34.toNatClampNeg) 0) = x1 then ((fun σ3 : St => (f_addMiss_L34 x1 n_34 σ3 (y2_34 + (1 : Int32)))) (f_loseSignatures σ_34 y2_34)) else (f_addMiss_L34 x1 n_34 σ_34 (y2_34 + (1 : Int32)))))
def f_addMiss (σ : St) (x1 : Int32) : St :=
  ((fun σ1 : St => (if ((σ1.1 5 x1.toNatClampNeg) - (σ1.1 5 x1.toNatClampNeg) / (3 : Int32) * (3 : Int32)) = (0 : Int32) then ((fun σ2 : St => (f_addMiss_L34 x1 128 σ2 (0 : Int32))) (up σ1 4 x1.toNatClampNeg ((σ1.1 4 x1.toNatClampNeg) + (1 : Int32)))) else σ1)) (up σ 5 x1.toNatClampNeg ((σ.1 5 x1.toNatClampNeg) + (1 : Int32))))
def f_tire (σ : St) (x0 : Nat) (x1 : Int32) : St :=
  ((fun σ1 : St => σ1) (up σ (6 + x0) 6 (if ((σ.1 (6 + x0) 6) + x1) < (100 : Int32) then ((σ.1 (6 + x0) 6) + x1) else (100 : Int32))))
def f_hurt_L35 (x1 : Int32) : Nat → St → Int32 → St
  | 0, σ_35, y2_35 => σ_35
  | n_35 + 1, σ_35, y2_35 => (if (σ_35.1 0 5) ≤ y2_35 then σ_35 else (if (σ_35.1 (34 + y2_35.toNatClampNeg) 1) = x1 then ((fun σ4 : St => (f_hurt_L35 x1 n_35 σ4 (y2_35 + (1 : Int32)))) (f_standDown σ_35 y2_35)) else (f_hurt_L35 x1 n_35 σ_35 (y2_35 + (1 : Int32)))))
def f_hurt (σ : St) (x1 : Int32) : St :=
  ((fun σ1 : St => ((fun σ2 : St => ((fun σ3 : St => (f_hurt_L35 x1 128 σ3 (0 : Int32))) (up σ2 0 11 ((σ2.1 0 11) + (1 : Int32))))) (up σ1 (6 + x1.toNatClampNeg) 4 (σ1.1 0 8)))) (up σ (6 + x1.toNatClampNeg) 3 (1 : Int32)))
def f_useKitOf_L2 (x1 : Int32) : Nat → St → Int32 → St
  | 0, σ_2, y2_2 => σ_2
  | n_2 + 1, σ_2, y2_2 => (if (σ_2.1 0 4) ≤ y2_2 then σ_2 else (if (f_guards σ_2 y2_2 x1) = (0 : Int32) then (f_useKitOf_L2 x1 n_2 σ_2 (y2_2 + (1 : Int32))) else ((fun σ1 : St => (f_useKitOf_L2 x1 n_2 σ1 (y2_2 + (1 : Int32)))) (up σ_2 (22 + y2_2.toNatClampNeg) 2 ((σ_2.1 (22 + y2_2.toNatClampNeg) 2) - (1 : Int32))))))
def f_useKitOf (σ : St) (x1 : Int32) : St :=
  (f_useKitOf_L2 x1 128 σ (0 : Int32))
def f_payFor_L55 (x1 : Int32) : Nat → St → Int32 → St
  | 0, σ_55, y4_55 => σ_55
  | n_55 + 1, σ_55, y4_55 => (if (σ_55.1 0 3) ≤ y4_55 then σ_55 else (if (f_isReadyMedic σ_55 y4_55 x1) = (0 : Int32) then (f_payFor_L55 x1 n_55 σ_55 (y4_55 + (1 : Int32))) else ((fun σ4 : St => (f_payFor_L55 x1 n_55 σ4 (y4_55 + (1 : Int32)))) (up σ_55 (6 + y4_55.toNatClampNeg) 7 ((σ_55.1 (6 + y4_55.toNatClampNeg) 7) + (20 : Int32))))))
def f_payFor (σ : St) (x1 : Int32) : St :=
  ((fun σ1 : St => ((fun σ2 : St => ((fun σ3 : St => (f_payFor_L55 x1 128 σ3 (0 : Int32))) (up σ2 (6 + (σ.1 (34 + x1.toNatClampNeg) 1).toNatClampNeg) 8 ((σ2.1 (6 + (σ.1 (34 + x1.toNatClampNeg) 1).toNatClampNeg) 8) + (1 : Int32))))) (up σ1 (6 + (σ.1 (34 + x1.toNatClampNeg) 1).toNatClampNeg) 7 ((σ1.1 (6 + (σ.1 (34 + x1.toNatClampNeg) 1).toNatClampNeg) 7) + ((50 : Int32) + (f_energyOf σ x1)))))) (f_tire σ ((σ.1 (34 + x1.toNatClampNeg) 1).toNatClampNeg) ((f_energyOf σ x1) / (10 : Int32))))
def f_passOneDay_L75 : Nat → St → Int32 → St
  | 0, σ_75, y1_75 => σ_75
  | n_75 + 1, σ_75, y1_75 => (if (4 : Int32) ≤ y1_75 then σ_75 else ((fun σ2 : St => (f_passOneDay_L75 n_75 σ2 (y1_75 + (1 : Int32)))) (up σ_75 4 y1_75.toNatClampNeg (if (0 : Int32) < ((σ_75.1 4 y1_75.toNatClampNeg) - (1 : Int32)) then ((σ_75.1 4 y1_75.toNatClampNeg) - (1 : Int32)) else (0 : Int32)))))
def f_passOneDay_L12 : Nat → St → Int32 → St
  | 0, σ_12, y1_12 => σ_12
  | n_12 + 1, σ_12, y1_12 => (if (σ_12.1 0 3) ≤ y1_12 then (f_passOneDay_L75 128 σ_12 (0 : Int32)) else ((fun σ3 : St => (if (σ3.1 (6 + y1_12.toNatClampNeg) 3) = (0 : Int32) then (f_passOneDay_L12 n_12 σ3 (y1_12 + (1 : Int32))) else (if ((σ3.1 0 8) - (σ3.1 (6 + y1_12.toNatClampNeg) 4)) < (5 : Int32) then (f_passOneDay_L12 n_12 σ3 (y1_12 + (1 : Int32))) else ((fun σ4 : St => (f_passOneDay_L12 n_12 σ4 (y1_12 + (1 : Int32)))) (up σ3 (6 + y1_12.toNatClampNeg) 3 (0 : Int32)))))) (up σ_12 (6 + y1_12.toNatClampNeg) 6 (if (0 : Int32) < ((σ_12.1 (6 + y1_12.toNatClampNeg) 6) - (30 : Int32)) then ((σ_12.1 (6 + y1_12.toNatClampNeg) 6) - (30 : Int32)) else (0 : Int32)))))
def f_passOneDay (σ : St) : St :=
  ((fun σ1 : St => (f_passOneDay_L12 128 σ1 (0 : Int32))) (up σ 0 8 ((σ.1 0 8) + (1 : Int32))))
def f_armedSet_L4 (σ : St) : Nat → Int32 → Int32 → Int32
  | 0, y2_4, y1_4 => 0
  | n_4 + 1, y2_4, y1_4 => (if (σ.1 0 5) ≤ y2_4 then y1_4 else (if (σ.1 (34 + y2_4.toNatClampNeg) 8) = (0 : Int32) then (f_armedSet_L4 σ n_4 (y2_4 + (1 : Int32)) y1_4) else (f_armedSet_L4 σ n_4 (y2_4 + (1 : Int32)) (y1_4 ||| ((1 : Int32) <<< (y2_4 &&& (31 : Int32)))))))
def f_armedSet (σ : St) : Int32 :=
  (f_armedSet_L4 σ 128 (0 : Int32) (0 : Int32))
def f_fitCount_L4 (σ : St) : Nat → Int32 → Int32 → Int32
  | 0, y2_4, y1_4 => 0
  | n_4 + 1, y2_4, y1_4 => (if (σ.1 0 4) ≤ y2_4 then y1_4 else (f_fitCount_L4 σ n_4 (y2_4 + (1 : Int32)) (y1_4 + (f_oneIf (f_isFit σ y2_4)))))
def f_fitCount (σ : St) : Int32 :=
  (f_fitCount_L4 σ 128 (0 : Int32) (0 : Int32))
def f_hurtCount_L4 (σ : St) : Nat → Int32 → Int32 → Int32
  | 0, y2_4, y1_4 => 0
  | n_4 + 1, y2_4, y1_4 => (if (σ.1 0 3) ≤ y2_4 then y1_4 else (f_hurtCount_L4 σ n_4 (y2_4 + (1 : Int32)) (y1_4 + (f_oneIf (σ.1 (6 + y2_4.toNatClampNeg) 3)))))
def f_hurtCount (σ : St) : Int32 :=
  (f_hurtCount_L4 σ 128 (0 : Int32) (0 : Int32))
def f_payOfAll_L4 (σ : St) : Nat → Int32 → Int32 → Int32
  | 0, y2_4, y1_4 => 0
  | n_4 + 1, y2_4, y1_4 => (if (σ.1 0 3) ≤ y2_4 then y1_4 else (f_payOfAll_L4 σ n_4 (y2_4 + (1 : Int32)) (y1_4 + (σ.1 (6 + y2_4.toNatClampNeg) 7))))
def f_payOfAll (σ : St) : Int32 :=
  (f_payOfAll_L4 σ 128 (0 : Int32) (0 : Int32))
def f_missesOfAll_L4 (σ : St) : Nat → Int32 → Int32 → Int32
  | 0, y2_4, y1_4 => 0
  | n_4 + 1, y2_4, y1_4 => (if (4 : Int32) ≤ y2_4 then y1_4 else (f_missesOfAll_L4 σ n_4 (y2_4 + (1 : Int32)) (y1_4 + (σ.1 5 y2_4.toNatClampNeg))))
def f_missesOfAll (σ : St) : Int32 :=
  (f_missesOfAll_L4 σ 128 (0 : Int32) (0 : Int32))
def f_bestFreePiece_L5 (σ : St) (x1 : Int32) (x2 : Int32) : Nat → Int32 → Int32 → Int32
  | 0, y4_5, y3_5 => 0
  | n_5 + 1, y4_5, y3_5 => (if (σ.1 0 4) ≤ y4_5 then y3_5 else (if (σ.1 (22 + y4_5.toNatClampNeg) 0) = x1 then (if (σ.1 (22 + y4_5.toNatClampNeg) 4) = (-1 : Int32) then (if (f_isFit σ y4_5) = (0 : Int32) then (f_bestFreePiece_L5 σ x1 x2 n_5 (y4_5 + (1 : Int32)) y3_5) else (if (f_isInSet x2 y4_5) = (0 : Int32) then (if y3_5 = (-1 : Int32) then (f_bestFreePiece_L5 σ x1 x2 n_5 (y4_5 + (1 : Int32)) y4_5) else (if (σ.1 (22 + y4_5.toNatClampNeg) 1) ≤ (σ.1 (22 + y3_5.toNatClampNeg) 1) then (f_bestFreePiece_L5 σ x1 x2 n_5 (y4_5 + (1 : Int32)) y3_5) else (f_bestFreePiece_L5 σ x1 x2 n_5 (y4_5 + (1 : Int32)) y4_5))) else (f_bestFreePiece_L5 σ x1 x2 n_5 (y4_5 + (1 : Int32)) y3_5))) else (f_bestFreePiece_L5 σ x1 x2 n_5 (y4_5 + (1 : Int32)) y3_5)) else (f_bestFreePiece_L5 σ x1 x2 n_5 (y4_5 + (1 : Int32)) y3_5)))
def f_bestFreePiece (σ : St) (x1 : Int32) (x2 : Int32) : Int32 :=
  (f_bestFreePiece_L5 σ x1 x2 128 (0 : Int32) (-1 : Int32))
def f_person (σ : St) (x1 : Int32) (x2 : Int32) : Int32 × St :=
  ((fun σ1 : St => ((fun σ2 : St => ((fun σ3 : St => ((fun σ4 : St => ((σ.1 0 3), σ4)) (f_standDownOccupied σ3))) (up σ2 0 3 ((σ2.1 0 3) + (1 : Int32))))) (up σ1 (6 + (σ.1 0 3).toNatClampNeg) 2 x2))) (up σ (6 + (σ.1 0 3).toNatClampNeg) 1 x1))
def f_skill (σ : St) (x1 : Int32) (x2 : Int32) (x3 : Int32) : Int32 × St :=
  ((fun σ1 : St => ((σ.1 (6 + x1.toNatClampNeg + 8) x2.toNatClampNeg), σ1)) (up σ (6 + x1.toNatClampNeg + 8) x2.toNatClampNeg x3))
def f_walk_L30 (σ : St) (x1 : Int32) : Nat → St → Int32 → Int32 × St
  | 0, σ_30, y4_30 => (0, σ_30)
  | n_30 + 1, σ_30, y4_30 => (if (σ_30.1 0 5) ≤ y4_30 then (((f_armedSet σ) &&& ((f_armedSet σ_30) ^^^ (-1 : Int32))), σ_30) else (if (σ_30.1 (34 + y4_30.toNatClampNeg) 8) = (0 : Int32) then (f_walk_L30 σ x1 n_30 σ_30 (y4_30 + (1 : Int32))) else (if (f_standsInRing σ_30 x1 y4_30) = (0 : Int32) then (f_walk_L30 σ x1 n_30 σ_30 (y4_30 + (1 : Int32))) else ((fun σ2 : St => ((fun σ3 : St => (f_walk_L30 σ x1 n_30 σ3 (y4_30 + (1 : Int32)))) (f_addMiss σ2 (σ2.1 (34 + y4_30.toNatClampNeg) 0)))) (f_standDown σ_30 y4_30)))))
def f_walk (σ : St) (x1 : Int32) (x2 : Int32) : Int32 × St :=
  ((fun σ1 : St => (f_walk_L30 σ x1 128 σ1 (0 : Int32))) (up σ (6 + x1.toNatClampNeg) 5 x2))
def f_kit (σ : St) (x1 : Int32) (x2 : Int32) (x3 : Int32) : Int32 × St :=
  ((fun σ1 : St => ((fun σ2 : St => ((fun σ3 : St => ((fun σ4 : St => ((σ.1 0 4), σ4)) (up σ3 0 4 ((σ3.1 0 4) + (1 : Int32))))) (up σ2 (22 + (σ.1 0 4).toNatClampNeg) 2 x3))) (up σ1 (22 + (σ.1 0 4).toNatClampNeg) 1 x2))) (up σ (22 + (σ.1 0 4).toNatClampNeg) 0 x1))
def f_inspect (σ : St) (x1 : Int32) : Int32 × St :=
  ((fun σ1 : St => ((σ.1 (22 + x1.toNatClampNeg) 3), σ1)) (up σ (22 + x1.toNatClampNeg) 3 (σ.1 0 8)))
def f_put (σ : St) (x1 : Int32) (x2 : Int32) : Int32 × St :=
  ((fun σ1 : St => (if (σ.1 (22 + x1.toNatClampNeg) 4) = (-1 : Int32) then ((fun σ2 : St => ((σ.1 (22 + x1.toNatClampNeg) 4), σ2)) (f_becomeChanged σ1 x2)) else ((fun σ3 : St => ((fun σ4 : St => ((σ.1 (22 + x1.toNatClampNeg) 4), σ4)) (f_becomeChanged σ3 x2))) (f_becomeChanged σ1 (σ.1 (22 + x1.toNatClampNeg) 4))))) (up σ (22 + x1.toNatClampNeg) 4 x2))
def f_gag (σ : St) (x1 : Int32) (x2 : Int32) (x3 : Int32) (x4 : Int32) : Int32 × St :=
  ((fun σ1 : St => ((fun σ2 : St => ((fun σ3 : St => ((fun σ4 : St => ((fun σ5 : St => ((σ.1 0 5), σ5)) (up σ4 0 5 ((σ4.1 0 5) + (1 : Int32))))) (up σ3 (34 + (σ.1 0 5).toNatClampNeg) 3 x4))) (up σ2 (34 + (σ.1 0 5).toNatClampNeg) 2 x3))) (up σ1 (34 + (σ.1 0 5).toNatClampNeg) 1 x2))) (up σ (34 + (σ.1 0 5).toNatClampNeg) 0 x1))
def f_change (σ : St) (x1 : Int32) (x2 : Int32) (x3 : Int32) (x4 : Int32) : Int32 × St :=
  ((fun σ1 : St => ((fun σ2 : St => ((fun σ3 : St => ((fun σ4 : St => ((f_bitCount (σ.1 (34 + x1.toNatClampNeg) 5)), σ4)) (f_becomeChanged σ3 x1))) (up σ2 (34 + x1.toNatClampNeg) 3 x4))) (up σ1 (34 + x1.toNatClampNeg) 2 x3))) (up σ (34 + x1.toNatClampNeg) 1 x2))
def f_rehearse (σ : St) (x1 : Int32) : Int32 × St :=
  (if (f_marginWithoutEnergy σ x1) < (((if ((σ.1 (34 + x1.toNatClampNeg) 4) + (1 : Int32)) < (4 : Int32) then ((σ.1 (34 + x1.toNatClampNeg) 4) + (1 : Int32)) else (4 : Int32)) * (f_energyOf σ x1)) / (4 : Int32)) then ((fun σ1 : St => ((fun σ2 : St => ((fun σ3 : St => ((fun σ4 : St => ((σ4.1 (34 + x1.toNatClampNeg) 4), σ4)) (f_tire σ3 ((σ.1 (34 + x1.toNatClampNeg) 1).toNatClampNeg) (3 : Int32)))) (f_addMiss σ2 (σ2.1 (34 + x1.toNatClampNeg) 0)))) (f_loseSignatures σ1 x1))) (up σ (34 + x1.toNatClampNeg) 4 (0 : Int32))) else ((fun σ5 : St => ((fun σ6 : St => ((σ6.1 (34 + x1.toNatClampNeg) 4), σ6)) (f_tire σ5 ((σ.1 (34 + x1.toNatClampNeg) 1).toNatClampNeg) (3 : Int32)))) (up σ (34 + x1.toNatClampNeg) 4 (if ((σ.1 (34 + x1.toNatClampNeg) 4) + (1 : Int32)) < (4 : Int32) then ((σ.1 (34 + x1.toNatClampNeg) 4) + (1 : Int32)) else (4 : Int32)))))
def f_sign (σ : St) (x1 : Int32) (x2 : Int32) : Int32 × St :=
  ((fun σ1 : St => ((f_bitCount (σ1.1 (34 + x1.toNatClampNeg) 5)), σ1)) (up σ (34 + x1.toNatClampNeg) 5 ((σ.1 (34 + x1.toNatClampNeg) 5) ||| ((1 : Int32) <<< (x2 &&& (31 : Int32))))))
def f_no (σ : St) (x1 : Int32) (x2 : Int32) (x3 : Int32) : Int32 × St :=
  (if x3 = (0 : Int32) then ((fun σ3 : St => ((0 : Int32), σ3)) (up σ (34 + x2.toNatClampNeg) 6 ((σ.1 (34 + x2.toNatClampNeg) 6) &&& (((1 : Int32) <<< (x1 &&& (31 : Int32))) ^^^ (-1 : Int32))))) else ((fun σ1 : St => ((fun σ2 : St => ((σ1.1 (34 + x2.toNatClampNeg) 8), σ2)) (f_standDown σ1 x2))) (up σ (34 + x2.toNatClampNeg) 6 ((σ.1 (34 + x2.toNatClampNeg) 6) ||| ((1 : Int32) <<< (x1 &&& (31 : Int32)))))))
def f_arm (σ : St) (x1 : Int32) : Int32 × St :=
  (if (f_whatBars σ x1) = (0 : Int32) then ((fun σ2 : St => ((f_whatBars σ x1), σ2)) (up σ (34 + x1.toNatClampNeg) 8 (1 : Int32))) else ((fun σ1 : St => ((f_whatBars σ x1), σ1)) (up σ (34 + x1.toNatClampNeg) 8 (0 : Int32))))
def f_take (σ : St) (x1 : Int32) : Int32 × St :=
  ((fun σ1 : St => ((fun σ2 : St => ((fun σ3 : St => ((fun σ4 : St => ((fun σ5 : St => ((fun σ6 : St => (if (0 : Int32) ≤ (f_marginOf σ x1) then ((fun σ7 : St => ((fun σ8 : St => ((f_marginOf σ x1), σ8)) (f_payFor σ7 x1))) (f_useKitOf σ6 x1)) else ((fun σ9 : St => ((fun σ10 : St => ((fun σ11 : St => ((f_marginOf σ x1), σ11)) (f_payFor σ10 x1))) (f_useKitOf σ9 x1))) (f_hurt σ6 (σ6.1 (34 + x1.toNatClampNeg) 1))))) (upL σ5 (σ5.2 + (f_marginOf σ x1).toInt64)))) (up σ4 0 12 ((σ4.1 0 12) + (1 : Int32))))) (up σ3 (34 + x1.toNatClampNeg) 7 ((σ3.1 (34 + x1.toNatClampNeg) 7) + (1 : Int32))))) (up σ2 (34 + x1.toNatClampNeg) 4 (3 : Int32)))) (up σ1 (34 + x1.toNatClampNeg) 5 (0 : Int32)))) (up σ (34 + x1.toNatClampNeg) 8 (0 : Int32)))
def f_weather_L25 (σ : St) : Nat → St → Int32 → Int32 × St
  | 0, σ_25, y4_25 => (0, σ_25)
  | n_25 + 1, σ_25, y4_25 => (if (σ_25.1 0 5) ≤ y4_25 then ((fun σ3 : St => (((f_armedSet σ) &&& ((f_armedSet σ3) ^^^ (-1 : Int32))), σ3)) (f_standDownOccupied σ_25)) else (if (f_windBars σ_25 y4_25) = (0 : Int32) then (if (f_darkBars σ_25 y4_25) = (0 : Int32) then (f_weather_L25 σ n_25 σ_25 (y4_25 + (1 : Int32))) else ((fun σ5 : St => (f_weather_L25 σ n_25 σ5 (y4_25 + (1 : Int32)))) (f_standDown σ_25 y4_25))) else ((fun σ4 : St => (f_weather_L25 σ n_25 σ4 (y4_25 + (1 : Int32)))) (f_standDown σ_25 y4_25))))
def f_weather (σ : St) (x1 : Int32) (x2 : Int32) : Int32 × St :=
  ((fun σ1 : St => ((fun σ2 : St => (f_weather_L25 σ 128 σ2 (0 : Int32))) (up σ1 0 10 x2))) (up σ 0 9 x1))
def f_pass_L26 (x1 : Int32) : Nat → St → Int32 → Int32 × St
  | 0, σ_26, y2_26 => (0, σ_26)
  | n_26 + 1, σ_26, y2_26 => (if x1 ≤ y2_26 then ((σ_26.1 0 8), σ_26) else ((fun σ1 : St => (f_pass_L26 x1 n_26 σ1 (y2_26 + (1 : Int32)))) (f_passOneDay σ_26)))
def f_pass (σ : St) (x1 : Int32) : Int32 × St :=
  (f_pass_L26 x1 128 σ (0 : Int32))
def f_ofPerson (σ : St) (x1 : Int32) (x2 : Int32) : Int32 :=
  (if x2 = (4 : Int32) then (f_oneIf (σ.1 (6 + x1.toNatClampNeg) 1)) else (if x2 = (5 : Int32) then (f_oneIf (σ.1 (6 + x1.toNatClampNeg) 2)) else (if x2 = (6 : Int32) then (σ.1 (6 + x1.toNatClampNeg) 5) else (if x2 = (7 : Int32) then (σ.1 (6 + x1.toNatClampNeg) 6) else (if x2 = (8 : Int32) then (f_oneIf (σ.1 (6 + x1.toNatClampNeg) 3)) else (if x2 = (9 : Int32) then (σ.1 (6 + x1.toNatClampNeg) 7) else (if x2 = (10 : Int32) then (σ.1 (6 + x1.toNatClampNeg) 8) else (if x2 = (11 : Int32) then (f_ringsAround σ x1) else (σ.1 (6 + x1.toNatClampNeg + 8) x2.toNatClampNeg)))))))))
def f_ofKit (σ : St) (x1 : Int32) (x2 : Int32) : Int32 :=
  (if x2 = (0 : Int32) then (σ.1 (22 + x1.toNatClampNeg) 0) else (if x2 = (1 : Int32) then (σ.1 (22 + x1.toNatClampNeg) 1) else (if x2 = (2 : Int32) then (σ.1 (22 + x1.toNatClampNeg) 2) else (if x2 = (3 : Int32) then (σ.1 (22 + x1.toNatClampNeg) 3) else (if x2 = (4 : Int32) then (σ.1 (22 + x1.toNatClampNeg) 4) else (f_oneIf (f_isFit σ x1)))))))
def f_ofGag (σ : St) (x1 : Int32) (x2 : Int32) : Int32 :=
  (if x2 = (0 : Int32) then (σ.1 (34 + x1.toNatClampNeg) 0) else (if x2 = (1 : Int32) then (σ.1 (34 + x1.toNatClampNeg) 1) else (if x2 = (2 : Int32) then (σ.1 (34 + x1.toNatClampNeg) 2) else (if x2 = (3 : Int32) then (σ.1 (34 + x1.toNatClampNeg) 3) else (if x2 = (4 : Int32) then (f_energyOf σ x1) else (if x2 = (5 : Int32) then (f_ringOf σ x1) else (if x2 = (6 : Int32) then (f_guardOf σ x1) else (if x2 = (7 : Int32) then (f_marginOf σ x1) else (if x2 = (8 : Int32) then (σ.1 (34 + x1.toNatClampNeg) 4) else (if x2 = (9 : Int32) then (σ.1 (34 + x1.toNatClampNeg) 5) else (if x2 = (10 : Int32) then (σ.1 (34 + x1.toNatClampNeg) 6) else (if x2 = (11 : Int32) then (f_oneIf (σ.1 (34 + x1.toNatClampNeg) 8)) else (if x2 = (12 : Int32) then (f_whatBars σ x1) else (σ.1 (34 + x1.toNatClampNeg) 7))))))))))))))
def f_ofKind (σ : St) (x1 : Int32) (x2 : Int32) : Int32 :=
  (if x2 = (0 : Int32) then (σ.1 5 x1.toNatClampNeg) else (σ.1 4 x1.toNatClampNeg))
def f_many (σ : St) (x1 : Int32) : Int32 :=
  (if x1 = (0 : Int32) then (σ.1 0 8) else (if x1 = (1 : Int32) then (σ.1 0 9) else (if x1 = (2 : Int32) then (f_oneIf (σ.1 0 10)) else (if x1 = (3 : Int32) then (σ.1 0 3) else (if x1 = (4 : Int32) then (σ.1 0 4) else (if x1 = (5 : Int32) then (f_fitCount σ) else (if x1 = (6 : Int32) then (σ.1 0 5) else (if x1 = (7 : Int32) then (f_armedSet σ) else (if x1 = (8 : Int32) then (f_missesOfAll σ) else (if x1 = (9 : Int32) then (f_hurtCount σ) else (if x1 = (10 : Int32) then (σ.1 0 11) else (if x1 = (11 : Int32) then (σ.1 0 12) else (if x1 = (12 : Int32) then (f_payOfAll σ) else (σ.1 0 13))))))))))))))
def f_mostLevel_L14 (σ : St) (x1 : Int32) : Nat → Int32 → Int32
  | 0, y3_14 => 0
  | n_14 + 1, y3_14 => (if y3_14 < (1 : Int32) then (-1 : Int32) else (if (f_marginWithoutEnergy σ x1) < (f_energyAt σ (σ.1 (34 + x1.toNatClampNeg) 0) y3_14) then (f_mostLevel_L14 σ x1 n_14 (y3_14 + (-1 : Int32))) else y3_14))
def f_mostLevel (σ : St) (x1 : Int32) : Int32 :=
  (f_mostLevel_L14 σ x1 128 (30 : Int32))
def f_bestPerformer_L12 (σ : St) (x1 : Int32) : Nat → Int32 → Int32 → Int32 → Int32
  | 0, y4_12, y3_12, y2_12 => 0
  | n_12 + 1, y4_12, y3_12, y2_12 => (if (σ.1 0 3) ≤ y4_12 then y2_12 else (if (σ.1 (6 + y4_12.toNatClampNeg) 3) = (0 : Int32) then (if (f_isTooYoung σ y4_12 x1) = (0 : Int32) then (if y2_12 = (-1 : Int32) then (f_bestPerformer_L12 σ x1 n_12 (y4_12 + (1 : Int32)) (f_performersShare σ y4_12 (σ.1 (34 + x1.toNatClampNeg) 0)) y4_12) else (if (f_performersShare σ y4_12 (σ.1 (34 + x1.toNatClampNeg) 0)) ≤ y3_12 then (f_bestPerformer_L12 σ x1 n_12 (y4_12 + (1 : Int32)) y3_12 y2_12) else (f_bestPerformer_L12 σ x1 n_12 (y4_12 + (1 : Int32)) (f_performersShare σ y4_12 (σ.1 (34 + x1.toNatClampNeg) 0)) y4_12))) else (f_bestPerformer_L12 σ x1 n_12 (y4_12 + (1 : Int32)) y3_12 y2_12)) else (f_bestPerformer_L12 σ x1 n_12 (y4_12 + (1 : Int32)) y3_12 y2_12)))
def f_bestPerformer (σ : St) (x1 : Int32) : Int32 :=
  (f_bestPerformer_L12 σ x1 128 (0 : Int32) (0 : Int32) (-1 : Int32))
def f_needs_L16 (σ : St) (x1 : Int32) : Nat → Int32 → Int32 → Int32 → Int32
  | 0, y4_16, y3_16, y2_16 => 0
  | n_16 + 1, y4_16, y3_16, y2_16 => (if (σ.1 0 4) ≤ y4_16 then (if (0 : Int32) ≤ y2_16 then y3_16 else (0 : Int32)) else (if (0 : Int32) ≤ y2_16 then (if (0 : Int32) ≤ y2_16 then y3_16 else (0 : Int32)) else (if (f_bestFreePiece σ (σ.1 (34 + x1.toNatClampNeg) 0) y3_16) = (-1 : Int32) then (0 : Int32) else (f_needs_L16 σ x1 n_16 (y4_16 + (1 : Int32)) (y3_16 ||| ((1 : Int32) <<< ((f_bestFreePiece σ (σ.1 (34 + x1.toNatClampNeg) 0) y3_16) &&& (31 : Int32)))) (y2_16 + (σ.1 (22 + (f_bestFreePiece σ (σ.1 (34 + x1.toNatClampNeg) 0) y3_16).toNatClampNeg) 1))))))
def f_needs (σ : St) (x1 : Int32) : Int32 :=
  (f_needs_L16 σ x1 128 (0 : Int32) (0 : Int32) (f_marginOf σ x1))
def f_safeFrom_L23 (σ : St) (x1 : Int32) : Nat → Int32 → Int32
  | 0, y3_23 => 0
  | n_23 + 1, y3_23 => (if (99 : Int32) < y3_23 then (-1 : Int32) else (if (f_isClearPlace σ ((σ.1 (34 + x1.toNatClampNeg) 2) - y3_23)) = (0 : Int32) then (if (f_isClearPlace σ ((σ.1 (34 + x1.toNatClampNeg) 2) + y3_23)) = (0 : Int32) then (f_safeFrom_L23 σ x1 n_23 (y3_23 + (1 : Int32))) else y3_23) else y3_23))
def f_safeFrom (σ : St) (x1 : Int32) : Int32 :=
  (f_safeFrom_L23 σ x1 128 ((f_ringOf σ x1) + (1 : Int32)))
def f_digest_L197 (σ : St) : Nat → Int32 → Int64 → Int64
  | 0, y3_197, y1_197 => 0
  | n_197 + 1, y3_197, y1_197 => (if (4 : Int32) ≤ y3_197 then y1_197 else (f_digest_L197 σ n_197 (y3_197 + (1 : Int32)) (f_mixed (f_mixed y1_197 (f_ofKind σ y3_197 (1 : Int32))) (f_ofKind σ y3_197 (0 : Int32)))))
def f_digest_L128 (σ : St) (y3_117 : Int32) (k : Int64 → Int64) : Nat → Int32 → Int64 → Int64
  | 0, y4_128, y1_128 => 0
  | n_128 + 1, y4_128, y1_128 => (if (13 : Int32) < y4_128 then k y1_128 else (f_digest_L128 σ y3_117 k n_128 (y4_128 + (1 : Int32)) (f_mixed y1_128 (f_ofGag σ y3_117 y4_128))))
def f_digest_L117 (σ : St) : Nat → Int32 → Int64 → Int64
  | 0, y3_117, y1_117 => 0
  | n_117 + 1, y3_117, y1_117 => (if (σ.1 0 5) ≤ y3_117 then (f_digest_L197 σ 128 (0 : Int32) y1_117) else (f_digest_L128 σ y3_117 (fun y1_128 => (f_digest_L117 σ n_117 (y3_117 + (1 : Int32)) (f_mixed (f_mixed (f_mixed (f_mixed y1_128 (f_mostLevel σ y3_117)) (f_bestPerformer σ y3_117)) (f_needs σ y3_117)) (f_safeFrom σ y3_117)))) 128 (0 : Int32) y1_117))
def f_digest_L85 (σ : St) (y3_74 : Int32) (k : Int64 → Int64) : Nat → Int32 → Int64 → Int64
  | 0, y4_85, y1_85 => 0
  | n_85 + 1, y4_85, y1_85 => (if (5 : Int32) < y4_85 then k y1_85 else (f_digest_L85 σ y3_74 k n_85 (y4_85 + (1 : Int32)) (f_mixed y1_85 (f_ofKit σ y3_74 y4_85))))
def f_digest_L74 (σ : St) : Nat → Int32 → Int64 → Int64
  | 0, y3_74, y1_74 => 0
  | n_74 + 1, y3_74, y1_74 => (if (σ.1 0 4) ≤ y3_74 then (f_digest_L117 σ 128 (0 : Int32) y1_74) else (f_digest_L85 σ y3_74 (fun y1_85 => (f_digest_L74 σ n_74 (y3_74 + (1 : Int32)) y1_85)) 128 (0 : Int32) y1_74))
def f_digest_L41 (σ : St) (y3_30 : Int32) (k : Int64 → Int64) : Nat → Int32 → Int64 → Int64
  | 0, y4_41, y1_41 => 0
  | n_41 + 1, y4_41, y1_41 => (if (11 : Int32) < y4_41 then k y1_41 else (f_digest_L41 σ y3_30 k n_41 (y4_41 + (1 : Int32)) (f_mixed y1_41 (f_ofPerson σ y3_30 y4_41))))
def f_digest_L30 (σ : St) : Nat → Int32 → Int64 → Int64
  | 0, y3_30, y1_30 => 0
  | n_30 + 1, y3_30, y1_30 => (if (σ.1 0 3) ≤ y3_30 then (f_digest_L74 σ 128 (0 : Int32) y1_30) else (f_digest_L41 σ y3_30 (fun y1_41 => (f_digest_L30 σ n_30 (y3_30 + (1 : Int32)) y1_41)) 128 (0 : Int32) y1_30))
def f_digest_L6 (σ : St) : Nat → Int32 → Int64 → Int64
  | 0, y3_6, y1_6 => 0
  | n_6 + 1, y3_6, y1_6 => (if (13 : Int32) < y3_6 then (f_digest_L30 σ 128 (0 : Int32) y1_6) else (f_digest_L6 σ n_6 (y3_6 + (1 : Int32)) (f_mixed y1_6 (f_many σ y3_6))))
def f_digest (σ : St) : Int64 :=
  (f_digest_L6 σ 128 (0 : Int32) (58230 : Int64))
