/-! THE FUNCTIONS: each method as a plain function, written by wip/whole/gen.py out of its code -/
def fX0_placeOf (a0 : Int32) (a1 : Int32) (a2 : Int32) : Option Int32 :=
  (if a0 < 0 then some (-1 : Int32)
  else (if (1 : Int32) < a0 then some (-1 : Int32)
  else (if a1 < 0 then some (-1 : Int32)
  else (if (11 : Int32) ≤ a1 then some (-1 : Int32)
  else (if a2 < 0 then some (-1 : Int32)
  else (if a2 < (11 : Int32) then some ((((a0 * (11 : Int32)) + a1) * (11 : Int32)) + a2)
  else some (-1 : Int32)))))))
def fX0_at (i : Nat) (a0 : Int32) (a1 : Int32) (a2 : Int32) (σ : Mm) : Option Int64 :=
  (fX0_placeOf a0 a1 a2).bind (fun q_1 => (if q_1 < 0 then some (0 : Int64)
  else (if (242 : Int32) ≤ q_1 then some (0 : Int64)
  else (if ci q_1 242 = true then some (gL σ (i + 1) q_1.toNatClampNeg) else none))))
def fX0_add (i : Nat) (a0 : Int32) (a1 : Int32) (a2 : Int32) (a3 : Int64) (σ : Mm) : Option Mm :=
  (fX0_placeOf a0 a1 a2).bind (fun q_1 => (if q_1 < 0 then some σ
  else (if (242 : Int32) ≤ q_1 then some σ
  else (if ci q_1 242 = true then (if ci q_1 242 = true then some (pL σ (i + 1) q_1.toNatClampNeg ((gL σ (i + 1) q_1.toNatClampNeg) + a3)) else none) else none))))
def fJ7_fill_d0a16_6 (j : Nat)  : Nat → Int64 → Int32 → Int32 → Mm → Option Mm
  | 0, _, _, _, _ => none
  | n + 1, v1, v3, v4, σ => (if v4 ≤ v3 then some σ
  else (if ci v3 242 = true then fJ7_fill_d0a16_6 j n v1 (v3 + (1 : Int32)) v4 (pL σ j v3.toNatClampNeg v1) else none))
def fJ7_fill_d0a16 (j : Nat) (a1 : Int64) (σ : Mm) : Option Mm :=
  fJ7_fill_d0a16_6 j 1000 a1 (0 : Int32) (242 : Int32) σ
def fX0_clear (i : Nat) (σ : Mm) : Option Mm :=
  (fJ7_fill_d0a16 (i + 1) (0 : Int64) σ).bind (fun q_1 => some q_1)
def fX5_chanceOfOne (a0 : Int32) (a1 : Int32) (a2 : Int32) (a3 : Int32) : Option Int32 :=
  (if a2 = 0 then some a0
  else (if a3 ≤ 0 then some (if (0 : Int32) < (if (a0 - a1) < (12 : Int32) then (a0 - a1) else (12 : Int32)) then (if (a0 - a1) < (12 : Int32) then (a0 - a1) else (12 : Int32)) else (0 : Int32))
  else some (if (0 : Int32) < (if (a0 + a1) < (12 : Int32) then (a0 + a1) else (12 : Int32)) then (if (a0 + a1) < (12 : Int32) then (a0 + a1) else (12 : Int32)) else (0 : Int32))))
def fX5_lawStops (a0 : Int32) (a1 : Int32) (a2 : Int32) (a3 : Int32) (a4 : Int32) : Option Int32 :=
  (if a0 = (0 : Int32) then (if a4 ≤ 0 then some (0 : Int32)
  else some (1 : Int32))
  else (if a0 = (1 : Int32) then (if a2 < a1 then some (0 : Int32)
  else some (1 : Int32))
  else (if a0 = (2 : Int32) then (if (a2 - a3) = a1 then some (1 : Int32)
  else some (0 : Int32))
  else (if a0 = (3 : Int32) then (if a2 = a3 then some (1 : Int32)
  else some (0 : Int32))
  else (if a0 = (4 : Int32) then (if a4 < a1 then some (0 : Int32)
  else some (1 : Int32))
  else (if a0 = (5 : Int32) then (if a2 ≤ 0 then some (0 : Int32)
  else (if a3 ≤ 0 then some (0 : Int32)
  else some (1 : Int32)))
  else some (1 : Int32)))))))
def fX1_goOn_77 (i : Nat)  (v1 : Int32) (v3 : Int32) (v5 : Int64) (v7 : Int32) (t0 : Int64) (σ : Mm) : Option Mm :=
  (fX0_add (i + 1) v1 v3 v7 (v5 * t0) σ).bind (fun q_1 => some q_1)
def fX1_goOn_76 (i : Nat)  (v1 : Int32) (v3 : Int32) (v5 : Int64) (v7 : Int32) (σ : Mm) : Option Mm :=
  fX1_goOn_77 i v1 v3 v5 v7 (0 : Int64) σ
def fX1_goOn_56 (i : Nat)  (v1 : Int32) (v2 : Int32) (v3 : Int32) (v5 : Int64) (v7 : Int32) (σ : Mm) : Option Mm :=
  (if v2 < 0 then fX1_goOn_76 i v1 v3 v5 v7 σ
  else (if (11 : Int32) ≤ v2 then fX1_goOn_76 i v1 v3 v5 v7 σ
  else (if ci v2 11 = true then fX1_goOn_77 i v1 v3 v5 v7 (uN v2.toNatClampNeg) σ else none)))
def fX1_goOn (i : Nat) (a0 : Int32) (a1 : Int32) (a2 : Int32) (a3 : Int32) (σ : Mm) : Option Mm :=
  (if isCel (gH σ) = true then (fX0_at (gH σ) a0 a2 a3 σ).bind (fun q_2 => (if (lg_cmp q_2 (0 : Int64)) = 0 then some σ
  else (if (gI σ i 4) ≤ a1 then fX1_goOn_56 i a0 a1 a2 q_2 (a1 - a2) σ
  else (fX5_lawStops (gI σ i 2) (gI σ i 3) a2 (a1 - a2) a3).bind (fun q_5 => (if q_5 = 0 then (fX5_chanceOfOne (gI σ i 5) (gI σ i 6) a1 a3).bind (fun q_7 => (if isCel (gN σ) = true then (fX0_add (gN σ) a0 (a2 + (1 : Int32)) (a3 + (1 : Int32)) (q_2 * (q_7.toInt64)) σ).bind (fun q_9 => (if isCel (gN q_9) = true then (fX0_add (gN q_9) a0 a2 (0 : Int32) (q_2 * (((12 : Int32) - q_7).toInt64)) q_9).bind (fun q_11 => some q_11) else none)) else none))
  else fX1_goOn_56 i a0 a1 a2 q_2 (a1 - a2) σ))))) else none)
def fX4_begin (a0 : Int32) (σ : Mm) : Option Mm :=
  (if isCel (gH σ) = true then (fX0_clear (gH σ) σ).bind (fun q_2 => (if isCel (gN q_2) = true then (fX0_clear (gN q_2) q_2).bind (fun q_4 => (if isCel (gH q_4) = true then (fX0_add (gH q_4) (1 : Int32) (1 : Int32) (1 : Int32) (a0.toInt64) q_4).bind (fun q_6 => (if isCel (gH q_6) = true then (fX0_add (gH q_6) (0 : Int32) (0 : Int32) (0 : Int32) (((12 : Int32) - a0).toInt64) q_6).bind (fun q_8 => some q_8) else none)) else none)) else none)) else none)
def fX4_stepOn  (σ : Mm) : Option Mm :=
  (if isCel (gH σ) = true then (if isCel (gN σ) = true then (if isCel (gN (pN (pH σ (gN σ)) (gH σ))) = true then (fX0_clear (gN (pN (pH σ (gN σ)) (gH σ))) (pN (pH σ (gN σ)) (gH σ))).bind (fun q_4 => some q_4) else none) else none) else none)
def fX1_retell_113 (i : Nat) (K91 : Int32 → Mm → Option Mm) (K103 : Int32 → Int32 → Mm → Option Mm) : Nat → Int32 → Int32 → Int32 → Mm → Option Mm
  | 0, _, _, _, _ => none
  | n + 1, v6, v7, v8, σ => (if v7 < v8 then K103 v6 (v7 + (1 : Int32)) σ
  else (fX1_goOn i (0 : Int32) v6 v7 v8 σ).bind (fun q_2 => (fX1_goOn i (1 : Int32) v6 v7 v8 q_2).bind (fun q_3 => fX1_retell_113 i K91 K103 n v6 v7 (v8 + (1 : Int32)) q_3)))
def fX1_retell_103 (i : Nat) (K91 : Int32 → Mm → Option Mm) : Nat → Int32 → Int32 → Mm → Option Mm
  | 0, _, _, _ => none
  | n + 1, v6, v7, σ => (if v6 < v7 then (fX4_stepOn σ).bind (fun q_5 => K91 (v6 + (1 : Int32)) q_5)
  else fX1_retell_113 i K91 (fun wv6 wv7 wσ => fX1_retell_103 i K91 n wv6 wv7 wσ) 1000 v6 v7 (0 : Int32) σ)
def fX1_retell_91 (i : Nat)  : Nat → Int32 → Mm → Option Mm
  | 0, _, _ => none
  | n + 1, v6, σ => (if (gI σ i 4) < v6 then some σ
  else fX1_retell_103 i (fun wv6 wσ => fX1_retell_91 i n wv6 wσ) 1000 v6 (0 : Int32) σ)
def fX1_retell_43 (i : Nat)  (v1 : Int32) (v2 : Int32) (v3 : Int32) (v4 : Int32) (v5 : Int32) (σ : Mm) : Option Mm :=
  (fX0_clear (i + 1) (pI (pI (pI (pI (pI σ i 2 v1) i 3 v2) i 4 v3) i 5 v4) i 6 v5)).bind (fun q_7 => (fX4_begin (gI q_7 i 5) q_7).bind (fun q_8 => fX1_retell_91 i 1000 (1 : Int32) q_8))
def fX1_retell (i : Nat) (a0 : Int32) (a1 : Int32) (a2 : Int32) (a3 : Int32) (a4 : Int32) (σ : Mm) : Option Mm :=
  (if (gI σ i 2) = a0 then (if (gI σ i 3) = a1 then (if (gI σ i 4) = a2 then (if (gI σ i 5) = a3 then (if (gI σ i 6) = a4 then some σ
  else fX1_retell_43 i a0 a1 a2 a3 a4 σ)
  else fX1_retell_43 i a0 a1 a2 a3 a4 σ)
  else fX1_retell_43 i a0 a1 a2 a3 a4 σ)
  else fX1_retell_43 i a0 a1 a2 a3 a4 σ)
  else fX1_retell_43 i a0 a1 a2 a3 a4 σ)
def fX1_families (i : Nat) (a0 : Int32) (a1 : Int32) (σ : Mm) : Option Int64 :=
  (fX0_at (i + 1) (0 : Int32) a0 a1 σ).bind (fun q_1 => (fX0_at (i + 1) (1 : Int32) a0 a1 σ).bind (fun q_2 => some (q_1 + q_2)))
def fX1_familiesFrom (i : Nat) (a0 : Int32) (a1 : Int32) (a2 : Int32) (σ : Mm) : Option Int64 :=
  (fX0_at (i + 1) a0 a1 a2 σ).bind (fun q_1 => some q_1)
def fX1_measured (a0 : Int32) (a1 : Int32) (a2 : Int32) (a3 : Int32) : Option Int64 :=
  (if a0 = (0 : Int32) then some ((a2 + a3).toInt64)
  else (if a0 = (1 : Int32) then some (a2.toInt64)
  else (if a0 = (2 : Int32) then some (a3.toInt64)
  else (if a0 = (3 : Int32) then (if a2 ≤ a3 then some (0 : Int64)
  else some (1 : Int64))
  else (if a0 = (4 : Int32) then (if a2 = a3 then some (1 : Int64)
  else some (0 : Int64))
  else (if a0 = (5 : Int32) then (if a3 ≤ a2 then some (0 : Int64)
  else some (1 : Int64))
  else (if a0 = (6 : Int32) then (if (a2 + a3) = 0 then some (0 : Int64)
  else (if ¬ (a2 + a3) = 0 then some ((a2 * ((2520 : Int32) / (a2 + a3))).toInt64) else none))
  else (if a0 = (7 : Int32) then (if (a2 + a3) = a1 then some (1 : Int64)
  else some (0 : Int64))
  else (if a0 = (8 : Int32) then (if a2 ≤ a3 then some (0 : Int64)
  else some ((a2 + a3).toInt64))
  else (if a0 = (9 : Int32) then (if a2 ≤ (1 : Int32) then some (0 : Int64)
  else some (a2.toInt64))
  else (if a0 = (10 : Int32) then (if (a2 - a3) = a1 then some (1 : Int64)
  else some (0 : Int64))
  else some (0 : Int64))))))))))))
def fX1_sum_61 (i : Nat) (σ : Mm) (K5 : Int32 → Int32 → Int64 → Int32 → Option Int64) (K17 : Int32 → Int32 → Int64 → Int32 → Int32 → Option Int64) (v1 : Int32) (v2 : Int32) (v3 : Int64) (v5 : Int32) (v6 : Int32) : Option Int64 :=
  K17 v1 v2 v3 v5 (v6 + (1 : Int32))
def fX1_sum_17 (i : Nat) (σ : Mm) (K5 : Int32 → Int32 → Int64 → Int32 → Option Int64) : Nat → Int32 → Int32 → Int64 → Int32 → Int32 → Option Int64
  | 0, _, _, _, _, _ => none
  | n + 1, v1, v2, v3, v5, v6 => (if ((gI σ i 4) - v5) < v6 then K5 v1 v2 v3 (v5 + (1 : Int32))
  else (fX1_families i v5 v6 σ).bind (fun q_2 => (if (lg_cmp q_2 (0 : Int64)) = 0 then fX1_sum_61 i σ K5 (fun wv1 wv2 wv3 wv5 wv6 => fX1_sum_17 i σ K5 n wv1 wv2 wv3 wv5 wv6) v1 v2 v3 v5 v6
  else (fX1_measured v1 v2 v5 v6).bind (fun q_4 => fX1_sum_61 i σ K5 (fun wv1 wv2 wv3 wv5 wv6 => fX1_sum_17 i σ K5 n wv1 wv2 wv3 wv5 wv6) v1 v2 (v3 + (q_2 * q_4)) v5 v6))))
def fX1_sum_5 (i : Nat) (σ : Mm)  : Nat → Int32 → Int32 → Int64 → Int32 → Option Int64
  | 0, _, _, _, _ => none
  | n + 1, v1, v2, v3, v5 => (if (gI σ i 4) < v5 then some v3
  else fX1_sum_17 i σ (fun wv1 wv2 wv3 wv5 => fX1_sum_5 i σ n wv1 wv2 wv3 wv5) 1000 v1 v2 v3 v5 (0 : Int32))
def fX1_sum (i : Nat) (a0 : Int32) (a1 : Int32) (σ : Mm) : Option Int64 :=
  fX1_sum_5 i σ 1000 a0 a1 (0 : Int64) (0 : Int32)
def fX2_append (a0 : Int32) (σ : Mm) : Option Mm :=
  (if (gI σ 10 1) < 0 then some σ
  else (if (64 : Int32) ≤ (gI σ 10 1) then some σ
  else (if ci (gI σ 10 1) 64 = true then some (pI (pI σ 11 (gI σ 10 1).toNatClampNeg a0) 10 1 ((gI (pI σ 11 (gI σ 10 1).toNatClampNeg a0) 10 1) + (1 : Int32))) else none)))
def fX2_at (a0 : Int32) (σ : Mm) : Option Int32 :=
  (if a0 < 0 then some (-1 : Int32)
  else (if (gI σ 10 1) ≤ a0 then some (-1 : Int32)
  else (if (64 : Int32) ≤ a0 then some (-1 : Int32)
  else (if ci a0 64 = true then some (gI σ 11 a0.toNatClampNeg) else none))))
def fX2_endOfDigits_38 (σ : Mm)  (v1 : Int32) (v4 : Int32) : Option Int32 :=
  (if v4 = v1 then some ((-1 : Int32) - v1)
  else some v4)
def fX2_endOfDigits_3 (σ : Mm)  : Nat → Int32 → Int32 → Int32 → Int32 → Option Int32
  | 0, _, _, _, _ => none
  | n + 1, v1, v2, v3, v4 => (if v3 ≤ (v4 - v1) then fX2_endOfDigits_38 σ v1 v4
  else (fX2_at v4 σ).bind (fun q_3 => (if q_3 < (48 : Int32) then fX2_endOfDigits_38 σ v1 v4
  else (fX2_at v4 σ).bind (fun q_5 => (if v2 < q_5 then fX2_endOfDigits_38 σ v1 v4
  else fX2_endOfDigits_3 σ n v1 v2 v3 (v4 + (1 : Int32)))))))
def fX2_endOfDigits (a0 : Int32) (a1 : Int32) (a2 : Int32) (σ : Mm) : Option Int32 :=
  fX2_endOfDigits_3 σ 1000 a0 a1 a2 a0
def fX2_isSign (a0 : Int32) : Option Int32 :=
  (if a0 = (43 : Int32) then some (1 : Int32)
  else (if a0 = (45 : Int32) then some (1 : Int32)
  else some (0 : Int32)))
def fX2_kindAt (a0 : Int32) (σ : Mm) : Option Int32 :=
  (fX2_at a0 σ).bind (fun q_1 => (if q_1 = (97 : Int32) then some (2 : Int32)
  else (if q_1 = (98 : Int32) then some (5 : Int32)
  else (if q_1 = (99 : Int32) then some (1 : Int32)
  else (if q_1 = (101 : Int32) then some (3 : Int32)
  else (if q_1 = (114 : Int32) then some (4 : Int32)
  else (if q_1 = (116 : Int32) then some (0 : Int32)
  else some (-1 : Int32))))))))
def fX2_endOfStatement_168 (σ : Mm)  (v2 : Int32) : Option Int32 :=
  (if 0 ≤ v2 then (fX2_at v2 σ).bind (fun q_2 => (if q_2 = (59 : Int32) then some (v2 + (1 : Int32))
  else some ((-1 : Int32) - v2)))
  else some v2)
def fX2_endOfStatement_96 (σ : Mm)  (t0 : Int32) : Option Int32 :=
  fX2_endOfStatement_168 σ t0
def fX2_endOfStatement_145 (σ : Mm)  (t0 : Int32) : Option Int32 :=
  fX2_endOfStatement_168 σ t0
def fX2_endOfStatement (a0 : Int32) (σ : Mm) : Option Int32 :=
  (fX2_at a0 σ).bind (fun q_1 => (if q_1 = (99 : Int32) then (fX2_endOfDigits (a0 + (1 : Int32)) (57 : Int32) (2 : Int32) σ).bind (fun q_16 => fX2_endOfStatement_168 σ q_16)
  else (if q_1 = (102 : Int32) then (fX2_endOfDigits (a0 + (1 : Int32)) (49 : Int32) (10 : Int32) σ).bind (fun q_15 => fX2_endOfStatement_168 σ q_15)
  else (if q_1 = (108 : Int32) then (fX2_kindAt (a0 + (1 : Int32)) σ).bind (fun q_12 => (if 0 ≤ q_12 then (fX2_endOfDigits (a0 + (2 : Int32)) (57 : Int32) (1 : Int32) σ).bind (fun q_14 => fX2_endOfStatement_96 σ q_14)
  else fX2_endOfStatement_96 σ ((-1 : Int32) - (a0 + (1 : Int32)))))
  else (if q_1 = (109 : Int32) then (fX2_endOfDigits (a0 + (1 : Int32)) (57 : Int32) (2 : Int32) σ).bind (fun q_11 => fX2_endOfStatement_168 σ q_11)
  else (if q_1 = (110 : Int32) then (fX2_at (a0 + (1 : Int32)) σ).bind (fun q_7 => (fX2_isSign q_7).bind (fun q_8 => (if q_8 = 0 then fX2_endOfStatement_145 σ ((-1 : Int32) - (a0 + (1 : Int32)))
  else (fX2_endOfDigits (a0 + (2 : Int32)) (57 : Int32) (1 : Int32) σ).bind (fun q_10 => fX2_endOfStatement_145 σ q_10))))
  else fX2_endOfStatement_168 σ ((-1 : Int32) - a0)))))))
def fX2_firstFault_4 (σ : Mm)  : Nat → Int32 → Int32 → Option Int32
  | 0, _, _ => none
  | n + 1, v1, v2 => (fX2_endOfStatement v1 σ).bind (fun q_1 => (if 0 ≤ q_1 then (if (gI σ 10 1) ≤ q_1 then some (-1 : Int32)
  else (if (v2 + (1 : Int32)) < (64 : Int32) then fX2_firstFault_4 σ n q_1 (v2 + (1 : Int32))
  else some (-1 : Int32)))
  else some ((-1 : Int32) - q_1)))
def fX2_firstFault  (σ : Mm) : Option Int32 :=
  fX2_firstFault_4 σ 1000 (0 : Int32) (0 : Int32)
def fX2_numberAt_5 (σ : Mm)  : Nat → Int32 → Int32 → Int32 → Option Int32
  | 0, _, _, _ => none
  | n + 1, v2, v3, v4 => (if v2 ≤ v4 then some v3
  else (fX2_at v4 σ).bind (fun q_2 => fX2_numberAt_5 σ n v2 ((((10 : Int32) * v3) + q_2) - (48 : Int32)) (v4 + (1 : Int32))))
def fX2_numberAt (a0 : Int32) (a1 : Int32) (σ : Mm) : Option Int32 :=
  fX2_numberAt_5 σ 1000 a1 (0 : Int32) a0
def fX3_lengthOf (i : Nat) (a0 : Int32) (σ : Mm) : Option Int32 :=
  (if a0 < 0 then some (0 : Int32)
  else (if (8 : Int32) ≤ a0 then some (0 : Int32)
  else (if ci a0 8 = true then some (gI σ (i + 1) a0.toNatClampNeg) else none)))
def fX3_sortsOf (i : Nat) (a0 : Int32) (σ : Mm) : Option Int32 :=
  (if a0 < 0 then some (0 : Int32)
  else (if (8 : Int32) ≤ a0 then some (0 : Int32)
  else (if ci a0 8 = true then some (gI σ (i + 2) a0.toNatClampNeg) else none)))
def fX3_copy_50 (i : Nat) (j : Nat)  : Nat → Int32 → Mm → Option Mm
  | 0, _, _ => none
  | n + 1, v2, σ => (if (8 : Int32) ≤ v2 then some σ
  else (if (8 : Int32) ≤ v2 then some σ
  else (fX3_lengthOf j v2 σ).bind (fun q_3 => (if ci v2 8 = true then (fX3_sortsOf j v2 (pI σ (i + 1) v2.toNatClampNeg q_3)).bind (fun q_5 => (if ci v2 8 = true then fX3_copy_50 i j n (v2 + (1 : Int32)) (pI (pI σ (i + 1) v2.toNatClampNeg q_3) (i + 2) v2.toNatClampNeg q_5) else none)) else none))))
def fX3_copy (i : Nat) (j : Nat) (σ : Mm) : Option Mm :=
  fX3_copy_50 i j 1000 (0 : Int32) (pI (pI (pI (pI (pI (pI σ i 0 (gI σ j 0)) i 1 (gI (pI σ i 0 (gI σ j 0)) j 1)) i 2 (gI (pI (pI σ i 0 (gI σ j 0)) i 1 (gI (pI σ i 0 (gI σ j 0)) j 1)) j 2)) i 3 (gI (pI (pI (pI σ i 0 (gI σ j 0)) i 1 (gI (pI σ i 0 (gI σ j 0)) j 1)) i 2 (gI (pI (pI σ i 0 (gI σ j 0)) i 1 (gI (pI σ i 0 (gI σ j 0)) j 1)) j 2)) j 3)) i 4 (gI (pI (pI (pI (pI σ i 0 (gI σ j 0)) i 1 (gI (pI σ i 0 (gI σ j 0)) j 1)) i 2 (gI (pI (pI σ i 0 (gI σ j 0)) i 1 (gI (pI σ i 0 (gI σ j 0)) j 1)) j 2)) i 3 (gI (pI (pI (pI σ i 0 (gI σ j 0)) i 1 (gI (pI σ i 0 (gI σ j 0)) j 1)) i 2 (gI (pI (pI σ i 0 (gI σ j 0)) i 1 (gI (pI σ i 0 (gI σ j 0)) j 1)) j 2)) j 3)) j 4)) i 5 (gI (pI (pI (pI (pI (pI σ i 0 (gI σ j 0)) i 1 (gI (pI σ i 0 (gI σ j 0)) j 1)) i 2 (gI (pI (pI σ i 0 (gI σ j 0)) i 1 (gI (pI σ i 0 (gI σ j 0)) j 1)) j 2)) i 3 (gI (pI (pI (pI σ i 0 (gI σ j 0)) i 1 (gI (pI σ i 0 (gI σ j 0)) j 1)) i 2 (gI (pI (pI σ i 0 (gI σ j 0)) i 1 (gI (pI σ i 0 (gI σ j 0)) j 1)) j 2)) j 3)) i 4 (gI (pI (pI (pI (pI σ i 0 (gI σ j 0)) i 1 (gI (pI σ i 0 (gI σ j 0)) j 1)) i 2 (gI (pI (pI σ i 0 (gI σ j 0)) i 1 (gI (pI σ i 0 (gI σ j 0)) j 1)) j 2)) i 3 (gI (pI (pI (pI σ i 0 (gI σ j 0)) i 1 (gI (pI σ i 0 (gI σ j 0)) j 1)) i 2 (gI (pI (pI σ i 0 (gI σ j 0)) i 1 (gI (pI σ i 0 (gI σ j 0)) j 1)) j 2)) j 3)) j 4)) j 5))
def fX3_least (a0 : Int32) : Option Int32 :=
  (if a0 = (2 : Int32) then some (0 : Int32)
  else some (1 : Int32))
def fX3_greatest (a0 : Int32) : Option Int32 :=
  (if a0 = (1 : Int32) then some (11 : Int32)
  else some (10 : Int32))
def fX3_number (i : Nat) (a0 : Int32) (σ : Mm) : Option Int32 :=
  (if a0 = (2 : Int32) then some ((5 : Int32) + (gI σ i 4))
  else (if a0 = (1 : Int32) then some (gI σ i 3)
  else some (gI σ i 2)))
def fX3_tellNumber (i : Nat) (a0 : Int32) (a1 : Int32) (σ : Mm) : Option (Int32 × Mm) :=
  (fX3_least a0).bind (fun q_1 => (if a1 < q_1 then some ((0 : Int32), σ)
  else (fX3_greatest a0).bind (fun q_3 => (if a1 ≤ q_3 then (if a0 = (2 : Int32) then some ((1 : Int32), (pI σ i 4 (a1 - (5 : Int32))))
  else (if a0 = (1 : Int32) then some ((1 : Int32), (pI σ i 3 a1))
  else some ((1 : Int32), (pI σ i 2 a1))))
  else some ((0 : Int32), σ)))))
def fX3_takeFamily_67 (i : Nat) (K39 : Int32 → Int32 → Int32 → Int32 → Mm → Option (Int32 × Mm)) (v2 : Int32) (v3 : Int32) (v4 : Int32) (v5 : Int32) (σ : Mm) : Option (Int32 × Mm) :=
  K39 v2 v3 v4 (v5 + (1 : Int32)) σ
def fX3_takeFamily_39 (i : Nat)  : Nat → Int32 → Int32 → Int32 → Int32 → Mm → Option (Int32 × Mm)
  | 0, _, _, _, _, _ => none
  | n + 1, v2, v3, v4, v5, σ => (if v3 ≤ v5 then (if ci (gI σ i 5) 8 = true then (if ci (gI (pI σ (i + 1) (gI σ i 5).toNatClampNeg (v3 - v2)) i 5) 8 = true then some ((1 : Int32), (pI (pI (pI σ (i + 1) (gI σ i 5).toNatClampNeg (v3 - v2)) (i + 2) (gI (pI σ (i + 1) (gI σ i 5).toNatClampNeg (v3 - v2)) i 5).toNatClampNeg v4) i 5 ((gI (pI (pI σ (i + 1) (gI σ i 5).toNatClampNeg (v3 - v2)) (i + 2) (gI (pI σ (i + 1) (gI σ i 5).toNatClampNeg (v3 - v2)) i 5).toNatClampNeg v4) i 5) + (1 : Int32)))) else none) else none)
  else (fX2_at v5 σ).bind (fun q_4 => (if q_4 = (49 : Int32) then fX3_takeFamily_67 i (fun wv2 wv3 wv4 wv5 wσ => fX3_takeFamily_39 i n wv2 wv3 wv4 wv5 wσ) v2 v3 (v4 ||| ((1 : Int32) <<< ((v5 - v2) &&& 31))) v5 σ
  else fX3_takeFamily_67 i (fun wv2 wv3 wv4 wv5 wσ => fX3_takeFamily_39 i n wv2 wv3 wv4 wv5 wσ) v2 v3 v4 v5 σ)))
def fX3_takeFamily (i : Nat) (a1 : Int32) (a2 : Int32) (σ : Mm) : Option (Int32 × Mm) :=
  (if (gI σ i 5) < 0 then some ((0 : Int32), σ)
  else (if (8 : Int32) ≤ (gI σ i 5) then some ((0 : Int32), σ)
  else (if (gI σ i 5) < (8 : Int32) then fX3_takeFamily_39 i 1000 a1 a2 (0 : Int32) a1 σ
  else some ((0 : Int32), σ))))
def fX3_takeLaw (i : Nat) (a0 : Int32) (a1 : Int32) (σ : Mm) : Option (Int32 × Mm) :=
  (if a0 < 0 then some ((0 : Int32), σ)
  else (if a1 < (1 : Int32) then some ((0 : Int32), σ)
  else (if a1 ≤ (9 : Int32) then some ((1 : Int32), (pI (pI σ i 0 a0) i 1 a1))
  else some ((0 : Int32), σ))))
def fX3_take_154 (i : Nat)  (t0 : Int32) (σ : Mm) : Option (Int32 × Mm) :=
  (fX3_tellNumber i (2 : Int32) ((5 : Int32) + t0) σ).bind (fun q_1 => (if q_1.1 &&& 1 = q_1.1 then some (q_1.1, q_1.2) else none))
def fX3_take (i : Nat) (a1 : Int32) (a2 : Int32) (σ : Mm) : Option (Int32 × Mm) :=
  (fX2_at a1 σ).bind (fun q_1 => (if q_1 = (99 : Int32) then (fX2_numberAt (a1 + (1 : Int32)) (a2 - (1 : Int32)) σ).bind (fun q_19 => (fX3_tellNumber i (1 : Int32) q_19 σ).bind (fun q_20 => (if q_20.1 &&& 1 = q_20.1 then some (q_20.1, q_20.2) else none)))
  else (if q_1 = (102 : Int32) then (fX3_takeFamily i (a1 + (1 : Int32)) (a2 - (1 : Int32)) σ).bind (fun q_17 => (if q_17.1 &&& 1 = q_17.1 then some (q_17.1, q_17.2) else none))
  else (if q_1 = (108 : Int32) then (fX2_kindAt (a1 + (1 : Int32)) σ).bind (fun q_13 => (fX2_numberAt (a1 + (2 : Int32)) (a2 - (1 : Int32)) σ).bind (fun q_14 => (fX3_takeLaw i q_13 q_14 σ).bind (fun q_15 => (if q_15.1 &&& 1 = q_15.1 then some (q_15.1, q_15.2) else none))))
  else (if q_1 = (109 : Int32) then (fX2_numberAt (a1 + (1 : Int32)) (a2 - (1 : Int32)) σ).bind (fun q_10 => (fX3_tellNumber i (0 : Int32) q_10 σ).bind (fun q_11 => (if q_11.1 &&& 1 = q_11.1 then some (q_11.1, q_11.2) else none)))
  else (if q_1 = (110 : Int32) then (fX2_numberAt (a1 + (2 : Int32)) (a2 - (1 : Int32)) σ).bind (fun q_7 => (fX2_at (a1 + (1 : Int32)) σ).bind (fun q_8 => (if q_8 = (45 : Int32) then fX3_take_154 i (-q_7) σ
  else fX3_take_154 i q_7 σ)))
  else some ((0 : Int32), σ)))))))
def fX3_stopPlace_60 (i : Nat) (σ : Mm) (K9 : Int32 → Int32 → Int32 → Int32 → Int32 → Int32 → Option Int32) (v1 : Int32) (v2 : Int32) (v3 : Int32) (v4 : Int32) (v6 : Int32) (t0 : Int32) : Option Int32 :=
  (if (gI σ i 2) ≤ (v6 + (1 : Int32)) then some v6
  else (fX5_lawStops v1 (gI σ i 1) v4 ((v6 + (1 : Int32)) - v4) t0).bind (fun q_2 => (if q_2 = 0 then K9 v1 v2 v3 v4 t0 (v6 + (1 : Int32))
  else some v6)))
def fX3_stopPlace_44 (i : Nat) (σ : Mm) (K9 : Int32 → Int32 → Int32 → Int32 → Int32 → Int32 → Option Int32) (v1 : Int32) (v2 : Int32) (v3 : Int32) (v5 : Int32) (v6 : Int32) (v7 : Int32) (t0 : Int32) (t1 : Int32) : Option Int32 :=
  (if v7 = 0 then fX3_stopPlace_60 i σ K9 v1 v2 v3 (t1 + t0) v6 (0 : Int32)
  else fX3_stopPlace_60 i σ K9 v1 v2 v3 (t1 + t0) v6 (v5 + (1 : Int32)))
def fX3_stopPlace_30 (i : Nat) (σ : Mm) (K9 : Int32 → Int32 → Int32 → Int32 → Int32 → Int32 → Option Int32) (v1 : Int32) (v2 : Int32) (v3 : Int32) (v4 : Int32) (v5 : Int32) (v6 : Int32) (t0 : Int32) : Option Int32 :=
  (if t0 = 0 then fX3_stopPlace_44 i σ K9 v1 v2 v3 v5 v6 t0 (0 : Int32) v4
  else fX3_stopPlace_44 i σ K9 v1 v2 v3 v5 v6 t0 (1 : Int32) v4)
def fX3_stopPlace_9 (i : Nat) (σ : Mm)  : Nat → Int32 → Int32 → Int32 → Int32 → Int32 → Int32 → Option Int32
  | 0, _, _, _, _, _, _ => none
  | n + 1, v1, v2, v3, v4, v5, v6 => (if v2 ≤ v6 then some v2
  else (if ((v3 >>> (v6 &&& 31)) &&& (1 : Int32)) = (1 : Int32) then fX3_stopPlace_30 i σ (fun wv1 wv2 wv3 wv4 wv5 wv6 => fX3_stopPlace_9 i σ n wv1 wv2 wv3 wv4 wv5 wv6) v1 v2 v3 v4 v5 v6 (1 : Int32)
  else fX3_stopPlace_30 i σ (fun wv1 wv2 wv3 wv4 wv5 wv6 => fX3_stopPlace_9 i σ n wv1 wv2 wv3 wv4 wv5 wv6) v1 v2 v3 v4 v5 v6 (0 : Int32)))
def fX3_stopPlace (i : Nat) (a0 : Int32) (a1 : Int32) (a2 : Int32) (σ : Mm) : Option Int32 :=
  fX3_stopPlace_9 i σ 1000 a0 a1 a2 (0 : Int32) (0 : Int32) (0 : Int32)
def fX3_endsAllSeen_2 (i : Nat) (σ : Mm)  : Nat → Int32 → Int32 → Option Int32
  | 0, _, _ => none
  | n + 1, v1, v2 => (if (gI σ i 5) ≤ v2 then some (1 : Int32)
  else (fX3_lengthOf i v2 σ).bind (fun q_2 => (fX3_sortsOf i v2 σ).bind (fun q_3 => (fX3_stopPlace i v1 q_2 q_3 σ).bind (fun q_4 => (fX3_lengthOf i v2 σ).bind (fun q_5 => (if q_4 = (q_5 - (1 : Int32)) then fX3_endsAllSeen_2 i σ n v1 (v2 + (1 : Int32))
  else some (0 : Int32)))))))
def fX3_endsAllSeen (i : Nat) (a0 : Int32) (σ : Mm) : Option Int32 :=
  fX3_endsAllSeen_2 i σ 1000 a0 (0 : Int32)
def fX3_countStoppedAhead_40 (i : Nat) (σ : Mm) (K4 : Int32 → Int32 → Int32 → Option Int32) (v1 : Int32) (v2 : Int32) (v3 : Int32) : Option Int32 :=
  K4 v1 v2 (v3 + (1 : Int32))
def fX3_countStoppedAhead_4 (i : Nat) (σ : Mm)  : Nat → Int32 → Int32 → Int32 → Option Int32
  | 0, _, _, _ => none
  | n + 1, v1, v2, v3 => (if (gI σ i 5) ≤ v3 then some v2
  else (fX3_lengthOf i v3 σ).bind (fun q_2 => (fX3_sortsOf i v3 σ).bind (fun q_3 => (fX3_stopPlace i v1 q_2 q_3 σ).bind (fun q_4 => (fX3_lengthOf i v3 σ).bind (fun q_5 => (if (q_5 - (1 : Int32)) ≤ q_4 then fX3_countStoppedAhead_40 i σ (fun wv1 wv2 wv3 => fX3_countStoppedAhead_4 i σ n wv1 wv2 wv3) v1 v2 v3
  else fX3_countStoppedAhead_40 i σ (fun wv1 wv2 wv3 => fX3_countStoppedAhead_4 i σ n wv1 wv2 wv3) v1 (v2 + (1 : Int32)) v3))))))
def fX3_countStoppedAhead (i : Nat) (a0 : Int32) (σ : Mm) : Option Int32 :=
  fX3_countStoppedAhead_4 i σ 1000 a0 (0 : Int32) (0 : Int32)
def fX5_refuse (a0 : Int32) (σ : Mm) : Option (Int32 × Mm) :=
  (if ((-1 : Int32) - a0) < 0 then some (a0, σ)
  else (if (6 : Int32) ≤ ((-1 : Int32) - a0) then some (a0, σ)
  else (if ci ((-1 : Int32) - a0) 6 = true then (if ci ((-1 : Int32) - a0) 6 = true then some (a0, (pI σ 12 ((-1 : Int32) - a0).toNatClampNeg ((gI σ 12 ((-1 : Int32) - a0).toNatClampNeg) + (1 : Int32)))) else none) else none)))
def fX5_letter_30   (σ : Mm) : Option (Int32 × Mm) :=
  (fX5_refuse (-6 : Int32) σ).bind (fun q_1 => some (q_1.1, q_1.2))
def fX5_letter (a0 : Int32) (σ : Mm) : Option (Int32 × Mm) :=
  (if 0 ≤ a0 then (if (255 : Int32) < a0 then fX5_letter_30 σ
  else (if (gI σ 10 1) < (64 : Int32) then (fX2_append a0 σ).bind (fun q_4 => some ((gI q_4 10 1), q_4))
  else fX5_letter_30 σ))
  else (fX5_refuse (-4 : Int32) σ).bind (fun q_5 => some (q_5.1, q_5.2)))
def fX5_tellText_71   (v2 : Int32) (σ : Mm) : Option (Int32 × Mm) :=
  (fX3_copy 1 4 σ).bind (fun q_1 => some (v2, q_1))
def fX5_tellText_15   : Nat → Int32 → Int32 → Mm → Option (Int32 × Mm)
  | 0, _, _, _ => none
  | n + 1, v1, v2, σ => (if (gI σ 10 1) ≤ v1 then fX5_tellText_71 v2 σ
  else (if (64 : Int32) ≤ v2 then fX5_tellText_71 v2 σ
  else (fX2_endOfStatement v1 σ).bind (fun q_4 => (fX3_take 4 v1 q_4 σ).bind (fun q_5 => (if q_5.1 = 0 then some (((-2000 : Int32) - v1), q_5.2)
  else fX5_tellText_15 n q_4 (v2 + (1 : Int32)) q_5.2)))))
def fX5_tellText  (σ : Mm) : Option (Int32 × Mm) :=
  (fX3_copy 4 1 σ).bind (fun q_1 => fX5_tellText_15 1000 (0 : Int32) (0 : Int32) q_1)
def fX5_land  (σ : Mm) : Option (Int32 × Mm) :=
  (fX2_firstFault σ).bind (fun q_1 => (if q_1 < 0 then (fX5_tellText σ).bind (fun q_3 => some (q_3.1, (pI q_3.2 10 1 (0 : Int32))))
  else some (((-1000 : Int32) - q_1), (pI σ 10 1 (0 : Int32)))))
def fX5_law_10   (σ : Mm) : Option (Int32 × Mm) :=
  (fX5_refuse (-2 : Int32) σ).bind (fun q_1 => some (q_1.1, q_1.2))
def fX5_law (a0 : Int32) (a1 : Int32) (σ : Mm) : Option (Int32 × Mm) :=
  (if a0 < 0 then fX5_law_10 σ
  else (if a0 < (6 : Int32) then (if (1 : Int32) ≤ a1 then (if a1 ≤ (9 : Int32) then some ((((10 : Int32) * (gI σ 1 0)) + (gI σ 1 1)), (pI (pI σ 1 0 a0) 1 1 a1))
  else (fX5_refuse (-6 : Int32) σ).bind (fun q_5 => some (q_5.1, q_5.2)))
  else (fX5_refuse (-4 : Int32) σ).bind (fun q_6 => some (q_6.1, q_6.2)))
  else fX5_law_10 σ))
def fX5_set_9   (σ : Mm) : Option (Int32 × Mm) :=
  (fX5_refuse (-2 : Int32) σ).bind (fun q_1 => some (q_1.1, q_1.2))
def fX5_set (a0 : Int32) (a1 : Int32) (σ : Mm) : Option (Int32 × Mm) :=
  (if a0 < 0 then fX5_set_9 σ
  else (if a0 ≤ (2 : Int32) then (fX3_least a0).bind (fun q_3 => (if q_3 ≤ a1 then (fX3_greatest a0).bind (fun q_5 => (if a1 ≤ q_5 then (fX3_number 1 a0 σ).bind (fun q_7 => (fX3_tellNumber 1 a0 a1 σ).bind (fun q_8 => some (q_7, q_8.2)))
  else (fX5_refuse (-6 : Int32) σ).bind (fun q_9 => some (q_9.1, q_9.2))))
  else (fX5_refuse (-4 : Int32) σ).bind (fun q_10 => some (q_10.1, q_10.2))))
  else fX5_set_9 σ))
def fX5_stops_12   (σ : Mm) : Option (Int32 × Mm) :=
  (fX5_refuse (-4 : Int32) σ).bind (fun q_1 => some (q_1.1, q_1.2))
def fX5_stops_37   (σ : Mm) : Option (Int32 × Mm) :=
  (fX5_refuse (-6 : Int32) σ).bind (fun q_2 => some (q_2.1, q_2.2))
def fX5_stops_65   (σ : Mm) : Option (Int32 × Mm) :=
  (fX5_refuse (-3 : Int32) σ).bind (fun q_3 => some (q_3.1, q_3.2))
def fX5_stops_72   (v1 : Int32) (v2 : Int32) (v3 : Int32) (σ : Mm) : Option (Int32 × Mm) :=
  (fX5_lawStops (gI σ 1 0) (gI σ 1 1) v1 v2 v3).bind (fun q_4 => (if q_4 = 0 then some ((0 : Int32), σ)
  else some ((1 : Int32), σ)))
def fX5_stops_57   (v1 : Int32) (v2 : Int32) (v3 : Int32) (σ : Mm) : Option (Int32 × Mm) :=
  (if v3 = 0 then (if v2 = 0 then fX5_stops_65 σ
  else fX5_stops_72 v1 v2 v3 σ)
  else fX5_stops_72 v1 v2 v3 σ)
def fX5_stops (a0 : Int32) (a1 : Int32) (a2 : Int32) (σ : Mm) : Option (Int32 × Mm) :=
  (if a0 < 0 then fX5_stops_12 σ
  else (if a1 < 0 then fX5_stops_12 σ
  else (if 0 ≤ a2 then (if (10 : Int32) < a0 then fX5_stops_37 σ
  else (if (10 : Int32) < a1 then fX5_stops_37 σ
  else (if a2 ≤ (10 : Int32) then (if a0 < a2 then fX5_stops_65 σ
  else (if a0 = 0 then (if a1 = 0 then fX5_stops_65 σ
  else fX5_stops_57 a0 a1 a2 σ)
  else fX5_stops_57 a0 a1 a2 σ))
  else fX5_stops_37 σ)))
  else fX5_stops_12 σ)))
def fX5_greatestDivisor_9   : Nat → Int64 → Int64 → Int32 → Option Int64
  | 0, _, _, _ => none
  | n + 1, v4, v6, v8 => (if (200 : Int32) ≤ v8 then some v4
  else (if (lg_cmp v6 (0 : Int64)) = 0 then some v4
  else (if ¬ v6 = 0 then fX5_greatestDivisor_9 n v6 (v4 - v4 / v6 * v6) (v8 + (1 : Int32)) else none)))
def fX5_greatestDivisor (a0 : Int64) (a1 : Int64) : Option Int64 :=
  fX5_greatestDivisor_9 1000 a0 a1 (0 : Int32)
def fX5_fraction_26   (v4 : Int32) : Option Int64 :=
  (if v4 = 0 then some (0 : Int64)
  else some (1 : Int64))
def fX5_fraction (a0 : Int64) (a1 : Int64) (a2 : Int32) : Option Int64 :=
  (fX5_greatestDivisor a0 a1).bind (fun q_1 => (if (lg_cmp a0 (0 : Int64)) = 0 then fX5_fraction_26 a2
  else (if (lg_cmp a1 (0 : Int64)) = 0 then fX5_fraction_26 a2
  else (if (lg_cmp q_1 (0 : Int64)) = 0 then fX5_fraction_26 a2
  else (if a2 = 0 then (if ¬ q_1 = 0 then some (a0 / q_1) else none)
  else (if ¬ q_1 = 0 then some (a1 / q_1) else none))))))
def fX5_isNoBit (a0 : Int32) : Option Int32 :=
  (if a0 < 0 then some (1 : Int32)
  else (if a0 ≤ (1 : Int32) then some (0 : Int32)
  else some (1 : Int32)))
def fX5_refuseLong (a0 : Int32) (σ : Mm) : Option (Int64 × Mm) :=
  (fX5_refuse a0 σ).bind (fun q_1 => some (((4000000000000000000 : Int64) - (q_1.1.toInt64)), q_1.2))
def fX5_tallyOf_22   (v1 : Int32) (σ : Mm) : Option (Nat × Mm) :=
  (fX1_retell 32 v1 (gI σ 1 1) (gI σ 1 2) (gI σ 1 3) (gI σ 1 4) σ).bind (fun q_1 => some (32, q_1))
def fX5_tallyOf (a0 : Int32) (σ : Mm) : Option (Nat × Mm) :=
  (if a0 < 0 then fX5_tallyOf_22 a0 σ
  else (if (6 : Int32) ≤ a0 then fX5_tallyOf_22 a0 σ
  else (if ci a0 6 = true then (fX1_retell (14 + 3 * a0.toNatClampNeg) a0 (gI σ 1 1) (gI σ 1 2) (gI σ 1 3) (gI σ 1 4) σ).bind (fun q_4 => some ((14 + 3 * a0.toNatClampNeg), q_4)) else none)))
def fX5_tallyNow  (σ : Mm) : Option (Nat × Mm) :=
  (fX5_tallyOf (gI σ 1 0) σ).bind (fun q_1 => (if isTal q_1.1 = true then some (q_1.1, q_1.2) else none))
def fX5_mean_16   (σ : Mm) : Option (Int64 × Mm) :=
  (fX5_refuseLong (-2 : Int32) σ).bind (fun q_1 => some (q_1.1, q_1.2))
def fX5_mean (a0 : Int32) (a1 : Int32) (σ : Mm) : Option (Int64 × Mm) :=
  (if a0 < 0 then fX5_mean_16 σ
  else (if (2 : Int32) < a0 then fX5_mean_16 σ
  else (fX5_isNoBit a1).bind (fun q_3 => (if q_3 = 0 then (fX5_tallyNow σ).bind (fun q_5 => (if isTal q_5.1 = true then (fX1_sum q_5.1 a0 (0 : Int32) q_5.2).bind (fun q_7 => (fX5_fraction q_7 (61917364224 : Int64) a1).bind (fun q_8 => some (q_8, q_5.2))) else none))
  else fX5_mean_16 σ))))
def fX5_share (a0 : Int32) (σ : Mm) : Option (Int64 × Mm) :=
  (fX5_isNoBit a0).bind (fun q_1 => (if q_1 = 0 then (fX5_tallyNow σ).bind (fun q_3 => (if isTal q_3.1 = true then (fX1_sum q_3.1 (6 : Int32) (0 : Int32) q_3.2).bind (fun q_5 => (fX5_fraction q_5 (156031757844480 : Int64) a0).bind (fun q_6 => some (q_6, q_3.2))) else none))
  else (fX5_refuseLong (-2 : Int32) σ).bind (fun q_7 => some (q_7.1, q_7.2))))
def fX5_all (a0 : Int32) (σ : Mm) : Option (Int64 × Mm) :=
  (fX5_isNoBit a0).bind (fun q_1 => (if q_1 = 0 then (fX5_tallyNow σ).bind (fun q_3 => (if isTal q_3.1 = true then (fX1_sum q_3.1 (1 : Int32) (0 : Int32) q_3.2).bind (fun q_5 => (fX1_sum q_3.1 (0 : Int32) (0 : Int32) q_3.2).bind (fun q_6 => (fX5_fraction q_5 q_6 a0).bind (fun q_7 => some (q_7, q_3.2)))) else none))
  else (fX5_refuseLong (-2 : Int32) σ).bind (fun q_8 => some (q_8.1, q_8.2))))
def fX5_more_16   (σ : Mm) : Option (Int64 × Mm) :=
  (fX5_refuseLong (-2 : Int32) σ).bind (fun q_1 => some (q_1.1, q_1.2))
def fX5_more (a0 : Int32) (a1 : Int32) (σ : Mm) : Option (Int64 × Mm) :=
  (if a0 < 0 then fX5_more_16 σ
  else (if (2 : Int32) < a0 then fX5_more_16 σ
  else (fX5_isNoBit a1).bind (fun q_3 => (if q_3 = 0 then (fX5_tallyNow σ).bind (fun q_5 => (if isTal q_5.1 = true then (fX1_sum q_5.1 ((3 : Int32) + a0) (0 : Int32) q_5.2).bind (fun q_7 => (fX5_fraction q_7 (61917364224 : Int64) a1).bind (fun q_8 => some (q_8, q_5.2))) else none))
  else fX5_more_16 σ))))
def fX5_size (a0 : Int32) (a1 : Int32) (σ : Mm) : Option (Int64 × Mm) :=
  (if (1 : Int32) ≤ a0 then (if a0 ≤ (10 : Int32) then (fX5_isNoBit a1).bind (fun q_3 => (if q_3 = 0 then (fX5_tallyNow σ).bind (fun q_5 => (if isTal q_5.1 = true then (fX1_sum q_5.1 (7 : Int32) a0 q_5.2).bind (fun q_7 => (fX5_fraction q_7 (61917364224 : Int64) a1).bind (fun q_8 => some (q_8, q_5.2))) else none))
  else (fX5_refuseLong (-2 : Int32) σ).bind (fun q_9 => some (q_9.1, q_9.2))))
  else (fX5_refuseLong (-6 : Int32) σ).bind (fun q_10 => some (q_10.1, q_10.2)))
  else (fX5_refuseLong (-4 : Int32) σ).bind (fun q_11 => some (q_11.1, q_11.2)))
def fX5_met_14   (σ : Mm) : Option (Int64 × Mm) :=
  (fX5_refuseLong (-2 : Int32) σ).bind (fun q_1 => some (q_1.1, q_1.2))
def fX5_met_37   (v2 : Int32) (v3 : Nat) (t0 : Int32) (σ : Mm) : Option (Int64 × Mm) :=
  (fX1_sum v3 t0 (0 : Int32) σ).bind (fun q_2 => (fX1_sum v3 (0 : Int32) (0 : Int32) σ).bind (fun q_3 => (fX5_fraction q_2 q_3 v2).bind (fun q_4 => some (q_4, σ))))
def fX5_met (a0 : Int32) (a1 : Int32) (σ : Mm) : Option (Int64 × Mm) :=
  (fX5_isNoBit a0).bind (fun q_1 => (if q_1 = 0 then (fX5_isNoBit a1).bind (fun q_3 => (if q_3 = 0 then (fX5_tallyNow σ).bind (fun q_5 => (if isTal q_5.1 = true then (if a0 = 0 then fX5_met_37 a1 q_5.1 (8 : Int32) q_5.2
  else fX5_met_37 a1 q_5.1 (9 : Int32) q_5.2) else none))
  else fX5_met_14 σ))
  else fX5_met_14 σ))
def fX5_says_8   (σ : Mm) : Option (Int64 × Mm) :=
  (fX5_refuseLong (-4 : Int32) σ).bind (fun q_1 => some (q_1.1, q_1.2))
def fX5_says_27   (σ : Mm) : Option (Int64 × Mm) :=
  (fX5_refuseLong (-6 : Int32) σ).bind (fun q_2 => some (q_2.1, q_2.2))
def fX5_says_57   (σ : Mm) : Option (Int64 × Mm) :=
  (fX5_refuseLong (-2 : Int32) σ).bind (fun q_3 => some (q_3.1, q_3.2))
def fX5_says_103   (v1 : Int32) (v4 : Int32) (v5 : Int32) (v6 : Nat) (v7 : Int32) (v8 : Int32) (t0 : Int32) (t1 : Int64) (σ : Mm) : Option (Int64 × Mm) :=
  (if v4 = 0 then (fX1_sum v6 (0 : Int32) (0 : Int32) σ).bind (fun q_7 => (fX5_fraction (t1 * (t0.toInt64)) q_7 v5).bind (fun q_8 => some (q_8, σ)))
  else (fX1_familiesFrom v6 v1 v7 v8 σ).bind (fun q_5 => (fX5_fraction q_5 (t1 * (t0.toInt64)) v5).bind (fun q_6 => some (q_6, σ))))
def fX5_says (a0 : Int32) (a1 : Int32) (a2 : Int32) (a3 : Int32) (a4 : Int32) (σ : Mm) : Option (Int64 × Mm) :=
  (if a1 < 0 then fX5_says_8 σ
  else (if 0 ≤ a2 then (if (9 : Int32) < a1 then fX5_says_27 σ
  else (if a2 ≤ (9 : Int32) then (fX5_isNoBit a0).bind (fun q_5 => (if q_5 = 0 then (fX5_isNoBit a3).bind (fun q_7 => (if q_7 = 0 then (fX5_isNoBit a4).bind (fun q_9 => (if q_9 = 0 then (fX5_tallyNow σ).bind (fun q_11 => (if isTal q_11.1 = true then (fX1_families q_11.1 (a1 + a0) ((a2 + (1 : Int32)) - a0) q_11.2).bind (fun q_13 => (if a0 = (1 : Int32) then fX5_says_103 a0 a3 a4 q_11.1 (a1 + a0) ((a2 + (1 : Int32)) - a0) (a1 + a0) q_13 q_11.2
  else fX5_says_103 a0 a3 a4 q_11.1 (a1 + a0) ((a2 + (1 : Int32)) - a0) ((a2 + (1 : Int32)) - a0) q_13 q_11.2)) else none))
  else fX5_says_57 σ))
  else fX5_says_57 σ))
  else fX5_says_57 σ))
  else fX5_says_27 σ))
  else fX5_says_8 σ))
def fX5_trial_10   (σ : Mm) : Option (Int64 × Mm) :=
  (fX5_refuseLong (-4 : Int32) σ).bind (fun q_1 => some (q_1.1, q_1.2))
def fX5_trial_29   (σ : Mm) : Option (Int64 × Mm) :=
  (fX5_refuseLong (-6 : Int32) σ).bind (fun q_2 => some (q_2.1, q_2.2))
def fX5_trial (a0 : Int32) (a1 : Int32) (a2 : Int32) (σ : Mm) : Option (Int64 × Mm) :=
  (if a0 < (1 : Int32) then fX5_trial_10 σ
  else (if (1 : Int32) ≤ a1 then (if (10 : Int32) < a0 then fX5_trial_29 σ
  else (if a1 ≤ (9 : Int32) then (fX5_isNoBit a2).bind (fun q_5 => (if q_5 = 0 then (fX1_retell 32 (2 : Int32) a1 a0 (gI σ 1 3) (gI σ 1 4) σ).bind (fun q_7 => (fX1_sum 32 (10 : Int32) a1 q_7).bind (fun q_8 => (fX5_fraction q_8 (61917364224 : Int64) a2).bind (fun q_9 => some (q_9, q_7))))
  else (fX5_refuseLong (-2 : Int32) σ).bind (fun q_10 => some (q_10.1, q_10.2))))
  else fX5_trial_29 σ))
  else fX5_trial_10 σ))
def fX5_row (a0 : Int32) (σ : Mm) : Option (Int32 × Mm) :=
  (fX5_isNoBit a0).bind (fun q_1 => (if q_1 = 0 then (if (gI σ 0 5) < (10 : Int32) then some ((gI (pI (pI σ 0 6 ((gI σ 0 6) ||| (a0 <<< ((gI σ 0 5) &&& 31)))) 0 5 ((gI (pI σ 0 6 ((gI σ 0 6) ||| (a0 <<< ((gI σ 0 5) &&& 31)))) 0 5) + (1 : Int32))) 0 5), (pI (pI σ 0 6 ((gI σ 0 6) ||| (a0 <<< ((gI σ 0 5) &&& 31)))) 0 5 ((gI (pI σ 0 6 ((gI σ 0 6) ||| (a0 <<< ((gI σ 0 5) &&& 31)))) 0 5) + (1 : Int32))))
  else (fX5_refuse (-6 : Int32) σ).bind (fun q_4 => some (q_4.1, q_4.2)))
  else (fX5_refuse (-2 : Int32) σ).bind (fun q_5 => some (q_5.1, q_5.2))))
def fJ6_bitCount_0f7a4 (a0 : Int32) : Option Int32 :=
  some ((((((((a0 - (((a0.toUInt32 >>> ((1 : Int32).toUInt32 &&& Int32.toUInt32 31)).toInt32) &&& (1431655765 : Int32))) &&& (858993459 : Int32)) + ((((a0 - (((a0.toUInt32 >>> ((1 : Int32).toUInt32 &&& Int32.toUInt32 31)).toInt32) &&& (1431655765 : Int32))).toUInt32 >>> ((2 : Int32).toUInt32 &&& Int32.toUInt32 31)).toInt32) &&& (858993459 : Int32))) + (((((a0 - (((a0.toUInt32 >>> ((1 : Int32).toUInt32 &&& Int32.toUInt32 31)).toInt32) &&& (1431655765 : Int32))) &&& (858993459 : Int32)) + ((((a0 - (((a0.toUInt32 >>> ((1 : Int32).toUInt32 &&& Int32.toUInt32 31)).toInt32) &&& (1431655765 : Int32))).toUInt32 >>> ((2 : Int32).toUInt32 &&& Int32.toUInt32 31)).toInt32) &&& (858993459 : Int32))).toUInt32 >>> ((4 : Int32).toUInt32 &&& Int32.toUInt32 31)).toInt32)) &&& (252645135 : Int32)) + (((((((a0 - (((a0.toUInt32 >>> ((1 : Int32).toUInt32 &&& Int32.toUInt32 31)).toInt32) &&& (1431655765 : Int32))) &&& (858993459 : Int32)) + ((((a0 - (((a0.toUInt32 >>> ((1 : Int32).toUInt32 &&& Int32.toUInt32 31)).toInt32) &&& (1431655765 : Int32))).toUInt32 >>> ((2 : Int32).toUInt32 &&& Int32.toUInt32 31)).toInt32) &&& (858993459 : Int32))) + (((((a0 - (((a0.toUInt32 >>> ((1 : Int32).toUInt32 &&& Int32.toUInt32 31)).toInt32) &&& (1431655765 : Int32))) &&& (858993459 : Int32)) + ((((a0 - (((a0.toUInt32 >>> ((1 : Int32).toUInt32 &&& Int32.toUInt32 31)).toInt32) &&& (1431655765 : Int32))).toUInt32 >>> ((2 : Int32).toUInt32 &&& Int32.toUInt32 31)).toInt32) &&& (858993459 : Int32))).toUInt32 >>> ((4 : Int32).toUInt32 &&& Int32.toUInt32 31)).toInt32)) &&& (252645135 : Int32)).toUInt32 >>> ((8 : Int32).toUInt32 &&& Int32.toUInt32 31)).toInt32)) + ((((((((a0 - (((a0.toUInt32 >>> ((1 : Int32).toUInt32 &&& Int32.toUInt32 31)).toInt32) &&& (1431655765 : Int32))) &&& (858993459 : Int32)) + ((((a0 - (((a0.toUInt32 >>> ((1 : Int32).toUInt32 &&& Int32.toUInt32 31)).toInt32) &&& (1431655765 : Int32))).toUInt32 >>> ((2 : Int32).toUInt32 &&& Int32.toUInt32 31)).toInt32) &&& (858993459 : Int32))) + (((((a0 - (((a0.toUInt32 >>> ((1 : Int32).toUInt32 &&& Int32.toUInt32 31)).toInt32) &&& (1431655765 : Int32))) &&& (858993459 : Int32)) + ((((a0 - (((a0.toUInt32 >>> ((1 : Int32).toUInt32 &&& Int32.toUInt32 31)).toInt32) &&& (1431655765 : Int32))).toUInt32 >>> ((2 : Int32).toUInt32 &&& Int32.toUInt32 31)).toInt32) &&& (858993459 : Int32))).toUInt32 >>> ((4 : Int32).toUInt32 &&& Int32.toUInt32 31)).toInt32)) &&& (252645135 : Int32)) + (((((((a0 - (((a0.toUInt32 >>> ((1 : Int32).toUInt32 &&& Int32.toUInt32 31)).toInt32) &&& (1431655765 : Int32))) &&& (858993459 : Int32)) + ((((a0 - (((a0.toUInt32 >>> ((1 : Int32).toUInt32 &&& Int32.toUInt32 31)).toInt32) &&& (1431655765 : Int32))).toUInt32 >>> ((2 : Int32).toUInt32 &&& Int32.toUInt32 31)).toInt32) &&& (858993459 : Int32))) + (((((a0 - (((a0.toUInt32 >>> ((1 : Int32).toUInt32 &&& Int32.toUInt32 31)).toInt32) &&& (1431655765 : Int32))) &&& (858993459 : Int32)) + ((((a0 - (((a0.toUInt32 >>> ((1 : Int32).toUInt32 &&& Int32.toUInt32 31)).toInt32) &&& (1431655765 : Int32))).toUInt32 >>> ((2 : Int32).toUInt32 &&& Int32.toUInt32 31)).toInt32) &&& (858993459 : Int32))).toUInt32 >>> ((4 : Int32).toUInt32 &&& Int32.toUInt32 31)).toInt32)) &&& (252645135 : Int32)).toUInt32 >>> ((8 : Int32).toUInt32 &&& Int32.toUInt32 31)).toInt32)).toUInt32 >>> ((16 : Int32).toUInt32 &&& Int32.toUInt32 31)).toInt32)) &&& (63 : Int32))
def fX5_latestOnes_25  (K4 : Int32 → Int32 → Int32 → Int32 → Option Int32) (v0 : Int32) (v1 : Int32) (v3 : Int32) (t0 : Int32) : Option Int32 :=
  K4 v0 v1 t0 (v3 + (1 : Int32))
def fX5_latestOnes_4   : Nat → Int32 → Int32 → Int32 → Int32 → Option Int32
  | 0, _, _, _, _ => none
  | n + 1, v0, v1, v2, v3 => (if v0 ≤ v3 then some v2
  else (if ((v1 >>> (v3 &&& 31)) &&& (1 : Int32)) = (1 : Int32) then fX5_latestOnes_25 (fun wv0 wv1 wv2 wv3 => fX5_latestOnes_4 n wv0 wv1 wv2 wv3) v0 v1 v3 (v2 + (1 : Int32))
  else fX5_latestOnes_25 (fun wv0 wv1 wv2 wv3 => fX5_latestOnes_4 n wv0 wv1 wv2 wv3) v0 v1 v3 (0 : Int32)))
def fX5_latestOnes (a0 : Int32) (a1 : Int32) : Option Int32 :=
  fX5_latestOnes_4 1000 a0 a1 (0 : Int32) (0 : Int32)
def fX5_lastInTwelfths_138 (σ : Mm)  (v1 : Int32) (v2 : Int32) (v4 : Int32) (v5 : Int32) : Option Int32 :=
  (fX5_lawStops (gI σ 1 0) (gI σ 1 1) v1 (v2 + (1 : Int32)) (0 : Int32)).bind (fun q_1 => (if q_1 = 0 then some v5
  else some (v5 + ((12 : Int32) - v4))))
def fX5_lastInTwelfths  (σ : Mm) : Option Int32 :=
  (fX3_stopPlace 1 (gI σ 1 0) (gI σ 0 5) (gI σ 0 6) σ).bind (fun q_1 => (if (gI σ 0 5) ≤ q_1 then (if ((gI σ 0 5) + (1 : Int32)) < (gI σ 1 2) then (fJ6_bitCount_0f7a4 (gI σ 0 6)).bind (fun q_4 => (fX5_latestOnes (gI σ 0 5) (gI σ 0 6)).bind (fun q_5 => (fX5_chanceOfOne (gI σ 1 3) (gI σ 1 4) (gI σ 0 5) q_5).bind (fun q_6 => (fX5_lawStops (gI σ 1 0) (gI σ 1 1) (q_4 + (1 : Int32)) ((gI σ 0 5) - q_4) (q_5 + (1 : Int32))).bind (fun q_7 => (if q_7 = 0 then fX5_lastInTwelfths_138 σ q_4 ((gI σ 0 5) - q_4) q_6 (0 : Int32)
  else fX5_lastInTwelfths_138 σ q_4 ((gI σ 0 5) - q_4) q_6 ((0 : Int32) + q_6))))))
  else some (12 : Int32))
  else some (0 : Int32)))
def fX5_gone (a0 : Int32) (σ : Mm) : Option (Int64 × Mm) :=
  (fX5_isNoBit a0).bind (fun q_1 => (if q_1 = 0 then (fX5_lastInTwelfths σ).bind (fun q_3 => (fX5_fraction (q_3.toInt64) (12 : Int64) a0).bind (fun q_4 => some (q_4, σ)))
  else (fX5_refuseLong (-2 : Int32) σ).bind (fun q_5 => some (q_5.1, q_5.2))))
def fX5_compareFractions_51   (v14 : Int64) (t0 : Int32) : Option Int32 :=
  (if (lg_cmp v14 (0 : Int64)) = 0 then some (t0 - (1 : Int32))
  else some (t0 - (0 : Int32)))
def fX5_compareFractions_39   (v10 : Int64) (v14 : Int64) : Option Int32 :=
  (if (lg_cmp v10 (0 : Int64)) = 0 then fX5_compareFractions_51 v14 (1 : Int32)
  else fX5_compareFractions_51 v14 (0 : Int32))
def fX5_compareFractions_17   : Nat → Int64 → Int64 → Int64 → Int64 → Int32 → Option Int32
  | 0, _, _, _, _, _ => none
  | n + 1, v8, v10, v12, v14, v16 => (if (200 : Int32) ≤ v16 then some (0 : Int32)
  else (if (lg_cmp v10 (0 : Int64)) = 0 then fX5_compareFractions_39 v10 v14
  else (if (lg_cmp v14 (0 : Int64)) = 0 then fX5_compareFractions_39 v10 v14
  else (if ¬ v10 = 0 then (if ¬ v14 = 0 then (if (lg_cmp (v8 / v10) (v12 / v14)) = 0 then (if ¬ v10 = 0 then (if ¬ v14 = 0 then fX5_compareFractions_17 n v14 (v12 - v12 / v14 * v14) v10 (v8 - v8 / v10 * v10) (v16 + (1 : Int32)) else none) else none)
  else (if ¬ v10 = 0 then (if ¬ v14 = 0 then (if (lg_cmp (v8 / v10) (v12 / v14)) ≤ 0 then some (-1 : Int32)
  else some (1 : Int32)) else none) else none)) else none) else none))))
def fX5_compareFractions (a0 : Int64) (a1 : Int64) (a2 : Int64) (a3 : Int64) : Option Int32 :=
  fX5_compareFractions_17 1000 a0 a1 a2 a3 (0 : Int32)
def fX5_compareAll (a0 : Int32) (a1 : Int32) (σ : Mm) : Option (Int32 × Mm) :=
  (fX5_tallyOf a0 σ).bind (fun q_1 => (if isTal q_1.1 = true then (fX5_tallyOf a1 q_1.2).bind (fun q_3 => (if isTal q_3.1 = true then (fX1_sum q_1.1 (1 : Int32) (0 : Int32) q_3.2).bind (fun q_5 => (fX1_sum q_1.1 (0 : Int32) (0 : Int32) q_3.2).bind (fun q_6 => (fX1_sum q_3.1 (1 : Int32) (0 : Int32) q_3.2).bind (fun q_7 => (fX1_sum q_3.1 (0 : Int32) (0 : Int32) q_3.2).bind (fun q_8 => (fX5_compareFractions q_5 q_6 q_7 q_8).bind (fun q_9 => some (q_9, q_3.2)))))) else none)) else none))
def fX5_shift_51  (K18 : Int32 → Int32 → Int32 → Mm → Option (Int32 × Mm)) (v1 : Int32) (v2 : Int32) (v3 : Int32) (σ : Mm) : Option (Int32 × Mm) :=
  K18 v1 v2 (v3 + (1 : Int32)) σ
def fX5_shift_49  (K18 : Int32 → Int32 → Int32 → Mm → Option (Int32 × Mm)) (v1 : Int32) (v3 : Int32) (σ : Mm) : Option (Int32 × Mm) :=
  fX5_shift_51 K18 v1 v3 v3 σ
def fX5_shift_18   : Nat → Int32 → Int32 → Int32 → Mm → Option (Int32 × Mm)
  | 0, _, _, _, _ => none
  | n + 1, v1, v2, v3, σ => (if (6 : Int32) ≤ v3 then some (v2, σ)
  else (fX5_compareAll v3 v2 σ).bind (fun q_2 => (if v1 = 0 then (if q_2.1 ≤ 0 then fX5_shift_51 (fun wv1 wv2 wv3 wσ => fX5_shift_18 n wv1 wv2 wv3 wσ) v1 v2 v3 q_2.2
  else fX5_shift_49 (fun wv1 wv2 wv3 wσ => fX5_shift_18 n wv1 wv2 wv3 wσ) v1 v3 q_2.2)
  else (if 0 ≤ q_2.1 then fX5_shift_51 (fun wv1 wv2 wv3 wσ => fX5_shift_18 n wv1 wv2 wv3 wσ) v1 v2 v3 q_2.2
  else fX5_shift_49 (fun wv1 wv2 wv3 wσ => fX5_shift_18 n wv1 wv2 wv3 wσ) v1 v3 q_2.2))))
def fX5_shift (a0 : Int32) (σ : Mm) : Option (Int32 × Mm) :=
  (fX5_isNoBit a0).bind (fun q_1 => (if q_1 = 0 then fX5_shift_18 1000 a0 (0 : Int32) (1 : Int32) σ
  else (fX5_refuse (-2 : Int32) σ).bind (fun q_3 => some (q_3.1, q_3.2))))
def fX5_fits_68  (K18 : Int32 → Int32 → Int32 → Mm → Option (Int32 × Mm)) (v1 : Int32) (v2 : Int32) (v3 : Int32) (σ : Mm) : Option (Int32 × Mm) :=
  K18 v1 v2 (v3 + (1 : Int32)) σ
def fX5_fits_55  (K18 : Int32 → Int32 → Int32 → Mm → Option (Int32 × Mm)) (v1 : Int32) (v2 : Int32) (v3 : Int32) (t0 : Int32) (σ : Mm) : Option (Int32 × Mm) :=
  (if t0 = 0 then fX5_fits_68 K18 v1 v2 v3 σ
  else fX5_fits_68 K18 v1 (v2 ||| ((1 : Int32) <<< (v3 &&& 31))) v3 σ)
def fX5_fits_18   : Nat → Int32 → Int32 → Int32 → Mm → Option (Int32 × Mm)
  | 0, _, _, _, _ => none
  | n + 1, v1, v2, v3, σ => (if (6 : Int32) ≤ v3 then some (v2, σ)
  else (if v1 = 0 then (fX3_endsAllSeen 1 v3 σ).bind (fun q_6 => fX5_fits_55 (fun wv1 wv2 wv3 wσ => fX5_fits_18 n wv1 wv2 wv3 wσ) v1 v2 v3 q_6 σ)
  else (fX3_countStoppedAhead 1 v3 σ).bind (fun q_4 => (if q_4 = 0 then fX5_fits_55 (fun wv1 wv2 wv3 wσ => fX5_fits_18 n wv1 wv2 wv3 wσ) v1 v2 v3 (1 : Int32) σ
  else fX5_fits_55 (fun wv1 wv2 wv3 wσ => fX5_fits_18 n wv1 wv2 wv3 wσ) v1 v2 v3 (0 : Int32) σ))))
def fX5_fits (a0 : Int32) (σ : Mm) : Option (Int32 × Mm) :=
  (fX5_isNoBit a0).bind (fun q_1 => (if q_1 = 0 then fX5_fits_18 1000 a0 (0 : Int32) (0 : Int32) σ
  else (fX5_refuse (-2 : Int32) σ).bind (fun q_3 => some (q_3.1, q_3.2))))
def fX5_judge  (σ : Mm) : Option (Int32 × Mm) :=
  (fX3_stopPlace 1 (gI σ 1 0) (gI σ 0 5) (gI σ 0 6) σ).bind (fun q_1 => (if q_1 < (gI σ 0 5) then (if q_1 = ((gI σ 0 5) - (1 : Int32)) then some ((20 : Int32), (pI (pI σ 0 5 (0 : Int32)) 0 6 (0 : Int32)))
  else some (q_1, (pI (pI σ 0 5 (0 : Int32)) 0 6 (0 : Int32))))
  else some ((-9 : Int32), (pI (pI σ 0 5 (0 : Int32)) 0 6 (0 : Int32)))))
def fX5_seen (a0 : Int32) (a1 : Int32) (σ : Mm) : Option (Int32 × Mm) :=
  (if 0 ≤ a0 then (fX5_isNoBit a1).bind (fun q_2 => (if q_2 = 0 then (if a0 < (gI σ 1 5) then (if a1 = 0 then (fX3_lengthOf 1 a0 σ).bind (fun q_7 => some (q_7, σ))
  else (fX3_sortsOf 1 a0 σ).bind (fun q_6 => some (q_6, σ)))
  else some ((-9 : Int32), σ))
  else (fX5_refuse (-2 : Int32) σ).bind (fun q_8 => some (q_8.1, q_8.2))))
  else (fX5_refuse (-4 : Int32) σ).bind (fun q_9 => some (q_9.1, q_9.2)))
def fX5_cheats  (σ : Mm) : Option Int32 :=
  (fX3_countStoppedAhead 1 (gI σ 1 0) σ).bind (fun q_1 => some q_1)
def fX5_countLots_182 (σ : Mm) (K9 : Int32 → Int32 → Int32 → Int32 → Int32 → Option Int32) (v1 : Int32) (v3 : Int32) (v4 : Int32) (v6 : Int32) (t0 : Int32) (t1 : Int32) : Option Int32 :=
  K9 v1 v3 v4 (t1 + t0) (v6 + (1 : Int32))
def fX5_countLots_165 (σ : Mm) (K9 : Int32 → Int32 → Int32 → Int32 → Int32 → Option Int32) (v1 : Int32) (v3 : Int32) (v4 : Int32) (v5 : Int32) (v6 : Int32) (v7 : Int32) (v9 : Int32) : Option Int32 :=
  (if v3 = (1 : Int32) then fX5_countLots_182 σ K9 v1 v3 v4 v6 v7 v5
  else fX5_countLots_182 σ K9 v1 v3 v4 v6 (v9 - v7) v5)
def fX5_countLots_132 (σ : Mm) (K9 : Int32 → Int32 → Int32 → Int32 → Int32 → Option Int32) (K27 : Int32 → Int32 → Int32 → Int32 → Int32 → Int32 → Int32 → Int32 → Int32 → Option Int32) (v1 : Int32) (v3 : Int32) (v4 : Int32) (v5 : Int32) (v6 : Int32) (v7 : Int32) (v9 : Int32) (t0 : Int32) : Option Int32 :=
  (fX5_lawStops (gI σ 1 0) (gI σ 1 1) v7 (v9 - v7) t0).bind (fun q_2 => K27 v1 v3 v4 v5 v6 v7 t0 v9 q_2)
def fX5_countLots_116 (σ : Mm) (K9 : Int32 → Int32 → Int32 → Int32 → Int32 → Option Int32) (K27 : Int32 → Int32 → Int32 → Int32 → Int32 → Int32 → Int32 → Int32 → Int32 → Option Int32) (v1 : Int32) (v3 : Int32) (v4 : Int32) (v5 : Int32) (v6 : Int32) (v8 : Int32) (v9 : Int32) (v12 : Int32) (t0 : Int32) (t1 : Int32) : Option Int32 :=
  (if v12 = 0 then fX5_countLots_132 σ K9 K27 v1 v3 v4 v5 v6 (t1 + t0) v9 (0 : Int32)
  else fX5_countLots_132 σ K9 K27 v1 v3 v4 v5 v6 (t1 + t0) v9 (v8 + (1 : Int32)))
def fX5_countLots_99 (σ : Mm) (K9 : Int32 → Int32 → Int32 → Int32 → Int32 → Option Int32) (K27 : Int32 → Int32 → Int32 → Int32 → Int32 → Int32 → Int32 → Int32 → Int32 → Option Int32) (v1 : Int32) (v3 : Int32) (v4 : Int32) (v5 : Int32) (v6 : Int32) (v7 : Int32) (v8 : Int32) (v9 : Int32) (t0 : Int32) : Option Int32 :=
  (if t0 = 0 then fX5_countLots_116 σ K9 K27 v1 v3 v4 v5 v6 v8 (v9 + (1 : Int32)) t0 (0 : Int32) v7
  else fX5_countLots_116 σ K9 K27 v1 v3 v4 v5 v6 v8 (v9 + (1 : Int32)) t0 (1 : Int32) v7)
def fX5_countLots_27 (σ : Mm) (K9 : Int32 → Int32 → Int32 → Int32 → Int32 → Option Int32) : Nat → Int32 → Int32 → Int32 → Int32 → Int32 → Int32 → Int32 → Int32 → Int32 → Option Int32
  | 0, _, _, _, _, _, _, _, _, _ => none
  | n + 1, v1, v3, v4, v5, v6, v7, v8, v9, v10 => (if (gI σ 1 2) ≤ v9 then fX5_countLots_165 σ K9 v1 v3 v4 v5 v6 v7 v9
  else (if v10 = 0 then (fX5_chanceOfOne (gI σ 1 3) (gI σ 1 4) v9 v8).bind (fun q_7 => (if q_7 ≤ (((((v4 * (1664525 : Int32)) + (1013904223 : Int32)) &&& (2147483647 : Int32)) / (256 : Int32)) - ((((v4 * (1664525 : Int32)) + (1013904223 : Int32)) &&& (2147483647 : Int32)) / (256 : Int32)) / (12 : Int32) * (12 : Int32)) then fX5_countLots_99 σ K9 (fun wv1 wv3 wv4 wv5 wv6 wv7 wv8 wv9 wv10 => fX5_countLots_27 σ K9 n wv1 wv3 wv4 wv5 wv6 wv7 wv8 wv9 wv10) v1 v3 ((v4 * (1664525 : Int32)) + (1013904223 : Int32)) v5 v6 v7 v8 v9 (0 : Int32)
  else fX5_countLots_99 σ K9 (fun wv1 wv3 wv4 wv5 wv6 wv7 wv8 wv9 wv10 => fX5_countLots_27 σ K9 n wv1 wv3 wv4 wv5 wv6 wv7 wv8 wv9 wv10) v1 v3 ((v4 * (1664525 : Int32)) + (1013904223 : Int32)) v5 v6 v7 v8 v9 (1 : Int32)))
  else fX5_countLots_165 σ K9 v1 v3 v4 v5 v6 v7 v9))
def fX5_countLots_9 (σ : Mm)  : Nat → Int32 → Int32 → Int32 → Int32 → Int32 → Option Int32
  | 0, _, _, _, _, _ => none
  | n + 1, v1, v3, v4, v5, v6 => (if v1 ≤ v6 then some v5
  else fX5_countLots_27 σ (fun wv1 wv3 wv4 wv5 wv6 => fX5_countLots_9 σ n wv1 wv3 wv4 wv5 wv6) 1000 v1 v3 v4 v5 v6 (0 : Int32) (0 : Int32) (0 : Int32) (0 : Int32))
def fX5_countLots (a0 : Int32) (a1 : Int32) (a2 : Int32) (σ : Mm) : Option Int32 :=
  fX5_countLots_9 σ 1000 a0 a2 a1 (0 : Int32) (0 : Int32)
def fX5_lots (a0 : Int32) (a1 : Int32) (a2 : Int32) (σ : Mm) : Option (Int32 × Mm) :=
  (if (1 : Int32) ≤ a0 then (if a0 ≤ (40 : Int32) then (fX5_isNoBit a2).bind (fun q_3 => (if q_3 = 0 then (fX5_countLots a0 a1 a2 σ).bind (fun q_5 => some (q_5, σ))
  else (fX5_refuse (-2 : Int32) σ).bind (fun q_6 => some (q_6.1, q_6.2))))
  else (fX5_refuse (-6 : Int32) σ).bind (fun q_7 => some (q_7.1, q_7.2)))
  else (fX5_refuse (-4 : Int32) σ).bind (fun q_8 => some (q_8.1, q_8.2)))
def fX5_image  (σ : Mm) : Option (Int32 × Mm) :=
  (fX3_copy 7 1 σ).bind (fun q_1 => some ((gI (pI q_1 0 3 (1 : Int32)) 7 5), (pI q_1 0 3 (1 : Int32))))
def fX5_on  (σ : Mm) : Option (Int32 × Mm) :=
  (if (gI σ 0 3) = 0 then (fX5_refuse (-3 : Int32) σ).bind (fun q_3 => some (q_3.1, q_3.2))
  else (fX3_copy 1 7 σ).bind (fun q_2 => some ((gI q_2 1 5), q_2)))
def fX5_refusalsAt (a0 : Int32) (σ : Mm) : Option Int32 :=
  (if a0 < 0 then some (-9 : Int32)
  else (if (6 : Int32) ≤ a0 then some (-9 : Int32)
  else (if ci a0 6 = true then some (gI σ 12 a0.toNatClampNeg) else none)))
def fX5_count (a0 : Int32) (σ : Mm) : Option Int32 :=
  (if a0 = (0 : Int32) then (fX3_number 1 a0 σ).bind (fun q_13 => some q_13)
  else (if a0 = (1 : Int32) then (fX3_number 1 a0 σ).bind (fun q_12 => some q_12)
  else (if a0 = (2 : Int32) then (fX3_number 1 a0 σ).bind (fun q_11 => some q_11)
  else (if a0 = (3 : Int32) then some (gI σ 1 0)
  else (if a0 = (4 : Int32) then some (gI σ 1 1)
  else (if a0 = (5 : Int32) then some (gI σ 1 5)
  else (if a0 = (6 : Int32) then some (gI σ 0 5)
  else (if a0 = (7 : Int32) then some (gI σ 10 1)
  else (if a0 < (11 : Int32) then some (-9 : Int32)
  else (fX5_refusalsAt (a0 - (11 : Int32)) σ).bind (fun q_10 => some q_10))))))))))
def fX6_refuse (a0 : Int32) (σ : Mm) : Option (Int32 × Mm) :=
  (if ci (-a0) 7 = true then (if ci (-a0) 7 = true then some (a0, (pI σ 1 (-a0).toNatClampNeg ((gI σ 1 (-a0).toNatClampNeg) + (1 : Int32)))) else none) else none)
def fX6_refuseWide (a0 : Int32) (σ : Mm) : Option (Int64 × Mm) :=
  (fX6_refuse a0 σ).bind (fun q_1 => some (((4000000000000000000 : Int64) - (q_1.1.toInt64)), q_1.2))
def fX6_isIn (a0 : Int32) (a1 : Int32) : Option Int32 :=
  (if a0 < 0 then some (0 : Int32)
  else (if a1 ≤ a0 then some (0 : Int32)
  else some (1 : Int32)))
def fX6_within (a0 : Int32) (a1 : Int32) (a2 : Int32) : Option Int32 :=
  (if a1 ≤ a0 then (if a0 ≤ a2 then some (0 : Int32)
  else some (-6 : Int32))
  else some (-4 : Int32))
def fX6_lays_2 (j : Nat) (k : Nat)  : Nat → Int32 → Mm → Option Mm
  | 0, _, _ => none
  | n + 1, v2, σ => (if (22 : Int32) ≤ v2 then some σ
  else (if ci v2 22 = true then (if ci v2 22 = true then fX6_lays_2 j k n (v2 + (1 : Int32)) (pI σ k v2.toNatClampNeg (gI σ j v2.toNatClampNeg)) else none) else none))
def fX6_lays (j : Nat) (k : Nat) (σ : Mm) : Option Mm :=
  fX6_lays_2 j k 1000 (0 : Int32) σ
def fX6_letter_25   (v1 : Int32) (v2 : Int32) (σ : Mm) : Option (Int32 × Mm) :=
  (if v2 = 0 then (if ci (gI σ 0 7) 64 = true then some ((gI (pI (pI σ 5 (gI σ 0 7).toNatClampNeg v1) 0 7 ((gI (pI σ 5 (gI σ 0 7).toNatClampNeg v1) 0 7) + (1 : Int32))) 0 7), (pI (pI σ 5 (gI σ 0 7).toNatClampNeg v1) 0 7 ((gI (pI σ 5 (gI σ 0 7).toNatClampNeg v1) 0 7) + (1 : Int32)))) else none)
  else (fX6_refuse v2 σ).bind (fun q_3 => some (q_3.1, q_3.2)))
def fX6_letter (a0 : Int32) (σ : Mm) : Option (Int32 × Mm) :=
  (fX6_within a0 (0 : Int32) (255 : Int32)).bind (fun q_1 => (if q_1 = 0 then (if (gI σ 0 7) = (64 : Int32) then fX6_letter_25 a0 (-6 : Int32) σ
  else fX6_letter_25 a0 q_1 σ)
  else fX6_letter_25 a0 q_1 σ))
def fX6_sign  (σ : Mm) : Option Int32 :=
  (if (gI σ 0 7) ≤ (gI σ 0 8) then some (-1 : Int32)
  else (if ci (gI σ 0 8) 64 = true then some (gI σ 5 (gI σ 0 8).toNatClampNeg) else none))
def fX6_takes (a0 : Int32) (σ : Mm) : Option (Int32 × Mm) :=
  (fX6_sign σ).bind (fun q_1 => (if q_1 = a0 then some ((1 : Int32), (pI σ 0 8 ((gI σ 0 8) + (1 : Int32))))
  else some ((0 : Int32), σ)))
def fX6_readsNumber_68   (v3 : Int32) (σ : Mm) : Option (Int32 × Mm) :=
  (if v3 ≤ 0 then some ((0 : Int32), σ)
  else some ((1 : Int32), σ))
def fX6_readsNumber_9   : Nat → Int32 → Int32 → Int32 → Mm → Option (Int32 × Mm)
  | 0, _, _, _, _ => none
  | n + 1, v1, v2, v3, σ => (if v2 ≤ v3 then fX6_readsNumber_68 v3 σ
  else (fX6_sign σ).bind (fun q_3 => (fX6_isIn (q_3 - (48 : Int32)) (10 : Int32)).bind (fun q_4 => (if q_4 = 0 then fX6_readsNumber_68 v3 σ
  else (if ci v1 2 = true then (fX6_sign σ).bind (fun q_7 => (if ci v1 2 = true then fX6_readsNumber_9 n v1 v2 (v3 + (1 : Int32)) (pI (pI σ 6 v1.toNatClampNeg ((((10 : Int32) * (gI σ 6 v1.toNatClampNeg)) + q_7) - (48 : Int32))) 0 8 ((gI (pI σ 6 v1.toNatClampNeg ((((10 : Int32) * (gI σ 6 v1.toNatClampNeg)) + q_7) - (48 : Int32))) 0 8) + (1 : Int32))) else none)) else none)))))
def fX6_readsNumber (a0 : Int32) (a1 : Int32) (σ : Mm) : Option (Int32 × Mm) :=
  (if ci a0 2 = true then fX6_readsNumber_9 1000 a0 a1 (0 : Int32) (pI σ 6 a0.toNatClampNeg (0 : Int32)) else none)
def fX6_kindOf (a0 : Int32) : Option Int32 :=
  (if a0 = (97 : Int32) then some (2 : Int32)
  else (if a0 = (98 : Int32) then some (5 : Int32)
  else (if a0 = (99 : Int32) then some (1 : Int32)
  else (if a0 = (101 : Int32) then some (3 : Int32)
  else (if a0 = (114 : Int32) then some (4 : Int32)
  else (if a0 = (116 : Int32) then some (0 : Int32)
  else some (-9 : Int32)))))))
def fX6_readsKind  (σ : Mm) : Option (Int32 × Mm) :=
  (fX6_sign σ).bind (fun q_1 => (fX6_kindOf q_1).bind (fun q_2 => (if ci (0 : Int32) 2 = true then (if ci (0 : Int32) 2 = true then (if 0 ≤ (gI (pI σ 6 (0 : Int32).toNatClampNeg q_2) 6 (0 : Int32).toNatClampNeg) then (fX6_readsNumber (1 : Int32) (1 : Int32) (pI (pI σ 6 (0 : Int32).toNatClampNeg q_2) 0 8 ((gI (pI σ 6 (0 : Int32).toNatClampNeg q_2) 0 8) + (1 : Int32)))).bind (fun q_6 => (if q_6.1 &&& 1 = q_6.1 then some (q_6.1, q_6.2) else none))
  else some ((0 : Int32), (pI σ 6 (0 : Int32).toNatClampNeg q_2))) else none) else none)))
def fX6_readsLean_19   (v1 : Int32) (σ : Mm) : Option (Int32 × Mm) :=
  (fX6_readsNumber (0 : Int32) (1 : Int32) (pI σ 0 8 ((gI σ 0 8) + (1 : Int32)))).bind (fun q_1 => (if q_1.1 = 0 then some ((0 : Int32), q_1.2)
  else (if v1 = (45 : Int32) then (if ci (0 : Int32) 2 = true then (if ci (0 : Int32) 2 = true then some ((1 : Int32), (pI q_1.2 6 (0 : Int32).toNatClampNeg (-(gI q_1.2 6 (0 : Int32).toNatClampNeg)))) else none) else none)
  else (if ci (0 : Int32) 2 = true then (if ci (0 : Int32) 2 = true then some ((1 : Int32), (pI q_1.2 6 (0 : Int32).toNatClampNeg (gI q_1.2 6 (0 : Int32).toNatClampNeg))) else none) else none))))
def fX6_readsLean  (σ : Mm) : Option (Int32 × Mm) :=
  (fX6_sign σ).bind (fun q_1 => (if q_1 = (43 : Int32) then fX6_readsLean_19 q_1 σ
  else (if q_1 = (45 : Int32) then fX6_readsLean_19 q_1 σ
  else some ((0 : Int32), σ))))
def fX6_readsFamily_89   (σ : Mm) : Option (Int32 × Mm) :=
  (if ci (0 : Int32) 2 = true then (if (gI σ 6 (0 : Int32).toNatClampNeg) ≤ 0 then some ((0 : Int32), σ)
  else some ((1 : Int32), σ)) else none)
def fX6_readsFamily_43  (K14 : Mm → Option (Int32 × Mm)) (σ : Mm) : Option (Int32 × Mm) :=
  (if ci (1 : Int32) 2 = true then (fX6_sign σ).bind (fun q_4 => (if ci (0 : Int32) 2 = true then (if ci (1 : Int32) 2 = true then (if ci (0 : Int32) 2 = true then (if ci (0 : Int32) 2 = true then K14 (pI (pI (pI σ 6 (1 : Int32).toNatClampNeg ((gI σ 6 (1 : Int32).toNatClampNeg) ||| ((q_4 - (48 : Int32)) <<< ((gI σ 6 (0 : Int32).toNatClampNeg) &&& 31)))) 6 (0 : Int32).toNatClampNeg ((gI (pI σ 6 (1 : Int32).toNatClampNeg ((gI σ 6 (1 : Int32).toNatClampNeg) ||| ((q_4 - (48 : Int32)) <<< ((gI σ 6 (0 : Int32).toNatClampNeg) &&& 31)))) 6 (0 : Int32).toNatClampNeg) + (1 : Int32))) 0 8 ((gI (pI (pI σ 6 (1 : Int32).toNatClampNeg ((gI σ 6 (1 : Int32).toNatClampNeg) ||| ((q_4 - (48 : Int32)) <<< ((gI σ 6 (0 : Int32).toNatClampNeg) &&& 31)))) 6 (0 : Int32).toNatClampNeg ((gI (pI σ 6 (1 : Int32).toNatClampNeg ((gI σ 6 (1 : Int32).toNatClampNeg) ||| ((q_4 - (48 : Int32)) <<< ((gI σ 6 (0 : Int32).toNatClampNeg) &&& 31)))) 6 (0 : Int32).toNatClampNeg) + (1 : Int32))) 0 8) + (1 : Int32))) else none) else none) else none) else none)) else none)
def fX6_readsFamily_14   : Nat → Mm → Option (Int32 × Mm)
  | 0, _ => none
  | n + 1, σ => (if ci (0 : Int32) 2 = true then (if (10 : Int32) ≤ (gI σ 6 (0 : Int32).toNatClampNeg) then fX6_readsFamily_89 σ
  else (fX6_sign σ).bind (fun q_11 => (if q_11 = (48 : Int32) then fX6_readsFamily_43 (fun wσ => fX6_readsFamily_14 n wσ) σ
  else (fX6_sign σ).bind (fun q_13 => (if q_13 = (49 : Int32) then fX6_readsFamily_43 (fun wσ => fX6_readsFamily_14 n wσ) σ
  else fX6_readsFamily_89 σ))))) else none)
def fX6_readsFamily  (σ : Mm) : Option (Int32 × Mm) :=
  (if ci (0 : Int32) 2 = true then (if ci (1 : Int32) 2 = true then fX6_readsFamily_14 1000 (pI (pI σ 6 (0 : Int32).toNatClampNeg (0 : Int32)) 6 (1 : Int32).toNatClampNeg (0 : Int32)) else none) else none)
def fX6_readsStatement_126   (v2 : Int32) (σ : Mm) : Option (Int32 × Mm) :=
  (if v2 = 0 then some ((0 : Int32), σ)
  else (fX6_takes (59 : Int32) σ).bind (fun q_2 => (if q_2.1 = 0 then some ((0 : Int32), q_2.2)
  else some ((1 : Int32), q_2.2))))
def fX6_readsStatement  (σ : Mm) : Option (Int32 × Mm) :=
  (fX6_sign σ).bind (fun q_1 => (if q_1 = (99 : Int32) then (fX6_readsNumber (0 : Int32) (2 : Int32) (pI σ 0 8 ((gI σ 0 8) + (1 : Int32)))).bind (fun q_11 => fX6_readsStatement_126 q_11.1 q_11.2)
  else (if q_1 = (102 : Int32) then (fX6_readsFamily (pI σ 0 8 ((gI σ 0 8) + (1 : Int32)))).bind (fun q_10 => fX6_readsStatement_126 q_10.1 q_10.2)
  else (if q_1 = (108 : Int32) then (fX6_readsKind (pI σ 0 8 ((gI σ 0 8) + (1 : Int32)))).bind (fun q_9 => fX6_readsStatement_126 q_9.1 q_9.2)
  else (if q_1 = (109 : Int32) then (fX6_readsNumber (0 : Int32) (2 : Int32) (pI σ 0 8 ((gI σ 0 8) + (1 : Int32)))).bind (fun q_8 => fX6_readsStatement_126 q_8.1 q_8.2)
  else (if q_1 = (110 : Int32) then (fX6_readsLean (pI σ 0 8 ((gI σ 0 8) + (1 : Int32)))).bind (fun q_7 => fX6_readsStatement_126 q_7.1 q_7.2)
  else some ((0 : Int32), (pI (pI σ 0 8 ((gI σ 0 8) + (1 : Int32))) 0 8 ((gI (pI σ 0 8 ((gI σ 0 8) + (1 : Int32))) 0 8) - (1 : Int32))))))))))
def fX6_comes (a0 : Int32) (σ : Mm) : Option (Int32 × Mm) :=
  (if ci (0 : Int32) 2 = true then (if a0 = (99 : Int32) then (if ci (1 : Int32) 22 = true then (if (gI σ 6 (0 : Int32).toNatClampNeg) < (1 : Int32) then some ((0 : Int32), (pI σ 4 (1 : Int32).toNatClampNeg (gI σ 6 (0 : Int32).toNatClampNeg)))
  else (if (11 : Int32) < (gI σ 6 (0 : Int32).toNatClampNeg) then some ((0 : Int32), (pI σ 4 (1 : Int32).toNatClampNeg (gI σ 6 (0 : Int32).toNatClampNeg)))
  else some ((1 : Int32), (pI σ 4 (1 : Int32).toNatClampNeg (gI σ 6 (0 : Int32).toNatClampNeg))))) else none)
  else (if a0 = (108 : Int32) then (if ci (1 : Int32) 2 = true then (if (1 : Int32) ≤ (gI σ 6 (1 : Int32).toNatClampNeg) then (if ci (3 : Int32) 22 = true then (if ci (1 : Int32) 2 = true then (if ci (4 : Int32) 22 = true then some ((1 : Int32), (pI (pI σ 4 (3 : Int32).toNatClampNeg (gI σ 6 (0 : Int32).toNatClampNeg)) 4 (4 : Int32).toNatClampNeg (gI (pI σ 4 (3 : Int32).toNatClampNeg (gI σ 6 (0 : Int32).toNatClampNeg)) 6 (1 : Int32).toNatClampNeg))) else none) else none) else none)
  else some ((0 : Int32), σ)) else none)
  else (if a0 = (109 : Int32) then (if ci (0 : Int32) 22 = true then (if (gI σ 6 (0 : Int32).toNatClampNeg) < (1 : Int32) then some ((0 : Int32), (pI σ 4 (0 : Int32).toNatClampNeg (gI σ 6 (0 : Int32).toNatClampNeg)))
  else (if (10 : Int32) < (gI σ 6 (0 : Int32).toNatClampNeg) then some ((0 : Int32), (pI σ 4 (0 : Int32).toNatClampNeg (gI σ 6 (0 : Int32).toNatClampNeg)))
  else some ((1 : Int32), (pI σ 4 (0 : Int32).toNatClampNeg (gI σ 6 (0 : Int32).toNatClampNeg))))) else none)
  else (if a0 = (110 : Int32) then (if ci (2 : Int32) 22 = true then (if (gI σ 6 (0 : Int32).toNatClampNeg) < (-5 : Int32) then some ((0 : Int32), (pI σ 4 (2 : Int32).toNatClampNeg ((5 : Int32) + (gI σ 6 (0 : Int32).toNatClampNeg))))
  else (if (5 : Int32) < (gI σ 6 (0 : Int32).toNatClampNeg) then some ((0 : Int32), (pI σ 4 (2 : Int32).toNatClampNeg ((5 : Int32) + (gI σ 6 (0 : Int32).toNatClampNeg))))
  else some ((1 : Int32), (pI σ 4 (2 : Int32).toNatClampNeg ((5 : Int32) + (gI σ 6 (0 : Int32).toNatClampNeg)))))) else none)
  else (if ci (5 : Int32) 22 = true then (if (gI σ 4 (5 : Int32).toNatClampNeg) = (8 : Int32) then some ((0 : Int32), σ)
  else (if ci (5 : Int32) 22 = true then (if ci ((6 : Int32) + ((2 : Int32) * (gI σ 4 (5 : Int32).toNatClampNeg))) 22 = true then (if ci (5 : Int32) 22 = true then (if ci (1 : Int32) 2 = true then (if ci (((6 : Int32) + ((2 : Int32) * (gI (pI σ 4 ((6 : Int32) + ((2 : Int32) * (gI σ 4 (5 : Int32).toNatClampNeg))).toNatClampNeg (gI σ 6 (0 : Int32).toNatClampNeg)) 4 (5 : Int32).toNatClampNeg))) + (1 : Int32)) 22 = true then (if ci (5 : Int32) 22 = true then (if ci (5 : Int32) 22 = true then some ((1 : Int32), (pI (pI (pI σ 4 ((6 : Int32) + ((2 : Int32) * (gI σ 4 (5 : Int32).toNatClampNeg))).toNatClampNeg (gI σ 6 (0 : Int32).toNatClampNeg)) 4 (((6 : Int32) + ((2 : Int32) * (gI (pI σ 4 ((6 : Int32) + ((2 : Int32) * (gI σ 4 (5 : Int32).toNatClampNeg))).toNatClampNeg (gI σ 6 (0 : Int32).toNatClampNeg)) 4 (5 : Int32).toNatClampNeg))) + (1 : Int32)).toNatClampNeg (gI (pI σ 4 ((6 : Int32) + ((2 : Int32) * (gI σ 4 (5 : Int32).toNatClampNeg))).toNatClampNeg (gI σ 6 (0 : Int32).toNatClampNeg)) 6 (1 : Int32).toNatClampNeg)) 4 (5 : Int32).toNatClampNeg ((gI (pI (pI σ 4 ((6 : Int32) + ((2 : Int32) * (gI σ 4 (5 : Int32).toNatClampNeg))).toNatClampNeg (gI σ 6 (0 : Int32).toNatClampNeg)) 4 (((6 : Int32) + ((2 : Int32) * (gI (pI σ 4 ((6 : Int32) + ((2 : Int32) * (gI σ 4 (5 : Int32).toNatClampNeg))).toNatClampNeg (gI σ 6 (0 : Int32).toNatClampNeg)) 4 (5 : Int32).toNatClampNeg))) + (1 : Int32)).toNatClampNeg (gI (pI σ 4 ((6 : Int32) + ((2 : Int32) * (gI σ 4 (5 : Int32).toNatClampNeg))).toNatClampNeg (gI σ 6 (0 : Int32).toNatClampNeg)) 6 (1 : Int32).toNatClampNeg)) 4 (5 : Int32).toNatClampNeg) + (1 : Int32)))) else none) else none) else none) else none) else none) else none) else none)) else none))))) else none)
def fX6_reads_53   : Nat → Int32 → Mm → Option (Int32 × Mm)
  | 0, _, _ => none
  | n + 1, v1, σ => (if (gI σ 0 7) ≤ (gI σ 0 8) then (fX6_lays 4 2 σ).bind (fun q_2 => some (v1, q_2))
  else (fX6_sign σ).bind (fun q_3 => (fX6_readsStatement σ).bind (fun q_4 => (fX6_comes q_3 q_4.2).bind (fun q_5 => (if q_5.1 = 0 then some (((-2000 : Int32) - (gI σ 0 8)), q_5.2)
  else fX6_reads_53 n v1 q_5.2)))))
def fX6_reads_7   : Nat → Int32 → Mm → Option (Int32 × Mm)
  | 0, _, _ => none
  | n + 1, v1, σ => (fX6_readsStatement σ).bind (fun q_7 => (if q_7.1 = 0 then some (((-1000 : Int32) - (gI q_7.2 0 8)), q_7.2)
  else (if (gI q_7.2 0 8) < (gI q_7.2 0 7) then fX6_reads_7 n (v1 + (1 : Int32)) q_7.2
  else (fX6_lays 2 4 q_7.2).bind (fun q_10 => fX6_reads_53 1000 (v1 + (1 : Int32)) (pI q_10 0 8 (0 : Int32))))))
def fX6_reads  (σ : Mm) : Option (Int32 × Mm) :=
  fX6_reads_7 1000 (0 : Int32) (pI σ 0 8 (0 : Int32))
def fX6_land  (σ : Mm) : Option (Int32 × Mm) :=
  (fX6_reads σ).bind (fun q_1 => some (q_1.1, (pI q_1.2 0 7 (0 : Int32))))
def fX6_stopsBy (a0 : Int32) (a1 : Int32) (a2 : Int32) (a3 : Int32) (a4 : Int32) : Option Int32 :=
  (if a0 = (0 : Int32) then (if a4 ≤ 0 then some (0 : Int32)
  else some (1 : Int32))
  else (if a0 = (1 : Int32) then (if a2 < a1 then some (0 : Int32)
  else some (1 : Int32))
  else (if a0 = (2 : Int32) then (if (a2 - a3) = a1 then some (1 : Int32)
  else some (0 : Int32))
  else (if a0 = (3 : Int32) then (if a2 = a3 then some (1 : Int32)
  else some (0 : Int32))
  else (if a0 = (4 : Int32) then (if a4 < a1 then some (0 : Int32)
  else some (1 : Int32))
  else (if a2 ≤ 0 then some (0 : Int32)
  else (if a3 ≤ 0 then some (0 : Int32)
  else some (1 : Int32))))))))
def fX6_endsBy (a0 : Int32) (a1 : Int32) (a2 : Int32) (a3 : Int32) (σ : Mm) : Option Int32 :=
  (if ci (0 : Int32) 22 = true then (if (gI σ 2 (0 : Int32).toNatClampNeg) ≤ (a1 + a2) then some (1 : Int32)
  else (if ci (4 : Int32) 22 = true then (fX6_stopsBy a0 (gI σ 2 (4 : Int32).toNatClampNeg) a1 a2 a3).bind (fun q_4 => (if q_4 = 0 then some (0 : Int32)
  else some (1 : Int32))) else none)) else none)
def fX6_twelfths_34 (σ : Mm)  (t0 : Int32) (t1 : Int32) : Option Int32 :=
  (if 0 ≤ (t1 + t0) then (if (t1 + t0) ≤ (12 : Int32) then some (t1 + t0)
  else some (12 : Int32))
  else some (0 : Int32))
def fX6_twelfths (a0 : Int32) (σ : Mm) : Option Int32 :=
  (if ci (2 : Int32) 22 = true then (if ci (1 : Int32) 22 = true then (if a0 = (1 : Int32) then fX6_twelfths_34 σ ((gI σ 2 (2 : Int32).toNatClampNeg) - (5 : Int32)) (gI σ 2 (1 : Int32).toNatClampNeg)
  else (if a0 = 0 then fX6_twelfths_34 σ (-((gI σ 2 (2 : Int32).toNatClampNeg) - (5 : Int32))) (gI σ 2 (1 : Int32).toNatClampNeg)
  else fX6_twelfths_34 σ (0 : Int32) (gI σ 2 (1 : Int32).toNatClampNeg))) else none) else none)
def fX6_law_21   (v1 : Int32) (v2 : Int32) (t0 : Int32) (σ : Mm) : Option (Int32 × Mm) :=
  (if t0 = 0 then (if ci (3 : Int32) 22 = true then (if ci (4 : Int32) 22 = true then (if ci (3 : Int32) 22 = true then (if ci (4 : Int32) 22 = true then some ((((10 : Int32) * (gI σ 2 (3 : Int32).toNatClampNeg)) + (gI σ 2 (4 : Int32).toNatClampNeg)), (pI (pI σ 2 (3 : Int32).toNatClampNeg v1) 2 (4 : Int32).toNatClampNeg v2)) else none) else none) else none) else none)
  else (fX6_refuse t0 σ).bind (fun q_6 => some (q_6.1, q_6.2)))
def fX6_law (a0 : Int32) (a1 : Int32) (σ : Mm) : Option (Int32 × Mm) :=
  (fX6_isIn a0 (6 : Int32)).bind (fun q_1 => (if q_1 = 0 then fX6_law_21 a0 a1 (-2 : Int32) σ
  else (fX6_within a1 (1 : Int32) (9 : Int32)).bind (fun q_3 => fX6_law_21 a0 a1 q_3 σ)))
def fX6_set_39   (v1 : Int32) (v2 : Int32) (t0 : Int32) (σ : Mm) : Option (Int32 × Mm) :=
  (if t0 = 0 then (if ci v1 22 = true then (if ci v1 22 = true then some ((gI σ 2 v1.toNatClampNeg), (pI σ 2 v1.toNatClampNeg v2)) else none) else none)
  else (fX6_refuse t0 σ).bind (fun q_4 => some (q_4.1, q_4.2)))
def fX6_set_36   (v1 : Int32) (v2 : Int32) (t0 : Int32) (t1 : Int32) (t2 : Int32) (σ : Mm) : Option (Int32 × Mm) :=
  (fX6_within t2 t1 t0).bind (fun q_5 => fX6_set_39 v1 v2 q_5 σ)
def fX6_set_24   (v1 : Int32) (v2 : Int32) (t0 : Int32) (t1 : Int32) (σ : Mm) : Option (Int32 × Mm) :=
  (if v1 = (1 : Int32) then fX6_set_36 v1 v2 (11 : Int32) t0 t1 σ
  else fX6_set_36 v1 v2 (10 : Int32) t0 t1 σ)
def fX6_set (a0 : Int32) (a1 : Int32) (σ : Mm) : Option (Int32 × Mm) :=
  (fX6_isIn a0 (3 : Int32)).bind (fun q_1 => (if q_1 = 0 then fX6_set_39 a0 a1 (-2 : Int32) σ
  else (if a0 = (2 : Int32) then fX6_set_24 a0 a1 (0 : Int32) a1 σ
  else fX6_set_24 a0 a1 (1 : Int32) a1 σ)))
def fX6_stops_63   (v1 : Int32) (v2 : Int32) (v3 : Int32) (t0 : Int32) (σ : Mm) : Option (Int32 × Mm) :=
  (if t0 = 0 then (if ci (3 : Int32) 22 = true then (if ci (4 : Int32) 22 = true then (fX6_stopsBy (gI σ 2 (3 : Int32).toNatClampNeg) (gI σ 2 (4 : Int32).toNatClampNeg) v1 v2 v3).bind (fun q_4 => (if q_4 = 0 then some ((0 : Int32), σ)
  else some ((1 : Int32), σ))) else none) else none)
  else (fX6_refuse t0 σ).bind (fun q_6 => some (q_6.1, q_6.2)))
def fX6_stops_12   (v1 : Int32) (v2 : Int32) (v3 : Int32) (σ : Mm) : Option (Int32 × Mm) :=
  fX6_stops_63 v1 v2 v3 (-4 : Int32) σ
def fX6_stops_35   (v1 : Int32) (v2 : Int32) (v3 : Int32) (σ : Mm) : Option (Int32 × Mm) :=
  fX6_stops_63 v1 v2 v3 (-6 : Int32) σ
def fX6_stops_57   (v1 : Int32) (v2 : Int32) (v3 : Int32) (σ : Mm) : Option (Int32 × Mm) :=
  fX6_stops_63 v1 v2 v3 (-3 : Int32) σ
def fX6_stops_62   (v1 : Int32) (v2 : Int32) (v3 : Int32) (σ : Mm) : Option (Int32 × Mm) :=
  fX6_stops_63 v1 v2 v3 (0 : Int32) σ
def fX6_stops (a0 : Int32) (a1 : Int32) (a2 : Int32) (σ : Mm) : Option (Int32 × Mm) :=
  (if a0 < 0 then fX6_stops_12 a0 a1 a2 σ
  else (if a1 < 0 then fX6_stops_12 a0 a1 a2 σ
  else (if 0 ≤ a2 then (if (10 : Int32) < a0 then fX6_stops_35 a0 a1 a2 σ
  else (if (10 : Int32) < a1 then fX6_stops_35 a0 a1 a2 σ
  else (if a2 ≤ (10 : Int32) then (if a0 < a2 then fX6_stops_57 a0 a1 a2 σ
  else (if a1 = 0 then (if a0 = 0 then fX6_stops_57 a0 a1 a2 σ
  else (if a2 = 0 then fX6_stops_57 a0 a1 a2 σ
  else fX6_stops_62 a0 a1 a2 σ))
  else fX6_stops_62 a0 a1 a2 σ))
  else fX6_stops_35 a0 a1 a2 σ)))
  else fX6_stops_12 a0 a1 a2 σ)))
def fX6_isFamily_194   (v3 : Int64) (v5 : Int32) (t0 : Int32) (t1 : Int64) (t2 : Int64) (σ : Mm) : Option Mm :=
  (if v5 = (gI (pL σ 0 17 (t2 + (t1 * (t0.toInt64)))) 0 20) then some (pL (pL σ 0 17 (t2 + (t1 * (t0.toInt64)))) 0 18 ((gL (pL σ 0 17 (t2 + (t1 * (t0.toInt64)))) 0 18) + v3))
  else some (pL (pL σ 0 17 (t2 + (t1 * (t0.toInt64)))) 0 18 ((gL (pL σ 0 17 (t2 + (t1 * (t0.toInt64)))) 0 18) + (0 : Int64))))
def fX6_isFamily_131   (v1 : Int32) (v2 : Int32) (v3 : Int64) (v5 : Int32) (v6 : Int32) (t0 : Int64) (t1 : Int64) (σ : Mm) : Option Mm :=
  (if ci v6 11 = true then (if ci v6 11 = true then (if v1 = ((gI (pL (pL σ 0 16 (t1 + t0)) 7 v6.toNatClampNeg ((gL (pL σ 0 16 (t1 + t0)) 7 v6.toNatClampNeg) + v3)) 0 21) + (gI (pL (pL σ 0 16 (t1 + t0)) 7 v6.toNatClampNeg ((gL (pL σ 0 16 (t1 + t0)) 7 v6.toNatClampNeg) + v3)) 0 20)) then (if v2 = (((gI (pL (pL σ 0 16 (t1 + t0)) 7 v6.toNatClampNeg ((gL (pL σ 0 16 (t1 + t0)) 7 v6.toNatClampNeg) + v3)) 0 22) + (1 : Int32)) - (gI (pL (pL σ 0 16 (t1 + t0)) 7 v6.toNatClampNeg ((gL (pL σ 0 16 (t1 + t0)) 7 v6.toNatClampNeg) + v3)) 0 20)) then (if (gI (pL (pL σ 0 16 (t1 + t0)) 7 v6.toNatClampNeg ((gL (pL σ 0 16 (t1 + t0)) 7 v6.toNatClampNeg) + v3)) 0 20) = (1 : Int32) then fX6_isFamily_194 v3 v5 v1 v3 (gL (pL (pL σ 0 16 (t1 + t0)) 7 v6.toNatClampNeg ((gL (pL σ 0 16 (t1 + t0)) 7 v6.toNatClampNeg) + v3)) 0 17) (pL (pL σ 0 16 (t1 + t0)) 7 v6.toNatClampNeg ((gL (pL σ 0 16 (t1 + t0)) 7 v6.toNatClampNeg) + v3))
  else fX6_isFamily_194 v3 v5 v2 v3 (gL (pL (pL σ 0 16 (t1 + t0)) 7 v6.toNatClampNeg ((gL (pL σ 0 16 (t1 + t0)) 7 v6.toNatClampNeg) + v3)) 0 17) (pL (pL σ 0 16 (t1 + t0)) 7 v6.toNatClampNeg ((gL (pL σ 0 16 (t1 + t0)) 7 v6.toNatClampNeg) + v3)))
  else some (pL (pL σ 0 16 (t1 + t0)) 7 v6.toNatClampNeg ((gL (pL σ 0 16 (t1 + t0)) 7 v6.toNatClampNeg) + v3)))
  else some (pL (pL σ 0 16 (t1 + t0)) 7 v6.toNatClampNeg ((gL (pL σ 0 16 (t1 + t0)) 7 v6.toNatClampNeg) + v3))) else none) else none)
def fX6_isFamily_109   (v1 : Int32) (v2 : Int32) (v3 : Int64) (v5 : Int32) (v6 : Int32) (t0 : Int64) (t1 : Int64) (σ : Mm) : Option Mm :=
  (if v1 ≤ (1 : Int32) then fX6_isFamily_131 v1 v2 v3 v5 v6 (0 : Int64) (gL (pL σ 0 15 (t1 + t0)) 0 16) (pL σ 0 15 (t1 + t0))
  else fX6_isFamily_131 v1 v2 v3 v5 v6 (v3 * (v1.toInt64)) (gL (pL σ 0 15 (t1 + t0)) 0 16) (pL σ 0 15 (t1 + t0)))
def fX6_isFamily_86   (v1 : Int32) (v2 : Int32) (v3 : Int64) (v5 : Int32) (v6 : Int32) (t0 : Int64) (t1 : Int64) (σ : Mm) : Option Mm :=
  (if v1 ≤ v2 then fX6_isFamily_109 v1 v2 v3 v5 v6 (0 : Int64) (gL (pL σ 0 14 (t1 + t0)) 0 15) (pL σ 0 14 (t1 + t0))
  else fX6_isFamily_109 v1 v2 v3 v5 v6 (v3 * (v6.toInt64)) (gL (pL σ 0 14 (t1 + t0)) 0 15) (pL σ 0 14 (t1 + t0)))
def fX6_isFamily_67   (v1 : Int32) (v2 : Int32) (v3 : Int64) (v5 : Int32) (v6 : Int32) (t0 : Int64) (t1 : Int64) (σ : Mm) : Option Mm :=
  (if v1 = v2 then fX6_isFamily_86 v1 v2 v3 v5 v6 v3 (gL (pL σ 0 13 (t1 + t0)) 0 14) (pL σ 0 13 (t1 + t0))
  else fX6_isFamily_86 v1 v2 v3 v5 v6 (0 : Int64) (gL (pL σ 0 13 (t1 + t0)) 0 14) (pL σ 0 13 (t1 + t0)))
def fX6_isFamily (a0 : Int32) (a1 : Int32) (a2 : Int64) (a3 : Int32) (σ : Mm) : Option Mm :=
  (if ¬ (a0 + a1) = 0 then (if a0 ≤ a1 then fX6_isFamily_67 a0 a1 a2 a3 (a0 + a1) (0 : Int64) (gL (pL (pL (pL σ 0 10 ((gL σ 0 10) + (a2 * ((a0 + a1).toInt64)))) 0 11 ((gL (pL σ 0 10 ((gL σ 0 10) + (a2 * ((a0 + a1).toInt64)))) 0 11) + (a2 * (a0.toInt64)))) 0 12 ((gL (pL (pL σ 0 10 ((gL σ 0 10) + (a2 * ((a0 + a1).toInt64)))) 0 11 ((gL (pL σ 0 10 ((gL σ 0 10) + (a2 * ((a0 + a1).toInt64)))) 0 11) + (a2 * (a0.toInt64)))) 0 12) + (a2 * ((((2520 : Int32) / (a0 + a1)) * a0).toInt64)))) 0 13) (pL (pL (pL σ 0 10 ((gL σ 0 10) + (a2 * ((a0 + a1).toInt64)))) 0 11 ((gL (pL σ 0 10 ((gL σ 0 10) + (a2 * ((a0 + a1).toInt64)))) 0 11) + (a2 * (a0.toInt64)))) 0 12 ((gL (pL (pL σ 0 10 ((gL σ 0 10) + (a2 * ((a0 + a1).toInt64)))) 0 11 ((gL (pL σ 0 10 ((gL σ 0 10) + (a2 * ((a0 + a1).toInt64)))) 0 11) + (a2 * (a0.toInt64)))) 0 12) + (a2 * ((((2520 : Int32) / (a0 + a1)) * a0).toInt64))))
  else fX6_isFamily_67 a0 a1 a2 a3 (a0 + a1) a2 (gL (pL (pL (pL σ 0 10 ((gL σ 0 10) + (a2 * ((a0 + a1).toInt64)))) 0 11 ((gL (pL σ 0 10 ((gL σ 0 10) + (a2 * ((a0 + a1).toInt64)))) 0 11) + (a2 * (a0.toInt64)))) 0 12 ((gL (pL (pL σ 0 10 ((gL σ 0 10) + (a2 * ((a0 + a1).toInt64)))) 0 11 ((gL (pL σ 0 10 ((gL σ 0 10) + (a2 * ((a0 + a1).toInt64)))) 0 11) + (a2 * (a0.toInt64)))) 0 12) + (a2 * ((((2520 : Int32) / (a0 + a1)) * a0).toInt64)))) 0 13) (pL (pL (pL σ 0 10 ((gL σ 0 10) + (a2 * ((a0 + a1).toInt64)))) 0 11 ((gL (pL σ 0 10 ((gL σ 0 10) + (a2 * ((a0 + a1).toInt64)))) 0 11) + (a2 * (a0.toInt64)))) 0 12 ((gL (pL (pL σ 0 10 ((gL σ 0 10) + (a2 * ((a0 + a1).toInt64)))) 0 11 ((gL (pL σ 0 10 ((gL σ 0 10) + (a2 * ((a0 + a1).toInt64)))) 0 11) + (a2 * (a0.toInt64)))) 0 12) + (a2 * ((((2520 : Int32) / (a0 + a1)) * a0).toInt64))))) else none)
def fX6_goesOn_99 (R : Int32 → Int32 → Int32 → Int32 → Int32 → Int32 → Int64 → Mm → Option Mm)   (v7 : Int64) (v9 : Int32) (t0 : Int32) (t1 : Int32) (t2 : Int32) (t3 : Int32) (t4 : Int32) (t5 : Int32) (σ : Mm) : Option Mm :=
  (R t5 t4 t3 t2 t1 t0 ((v7 / (12 : Int64)) * (((12 : Int32) - v9).toInt64)) σ).bind (fun q_1 => some q_1)
def fX6_goesOn_67 (R : Int32 → Int32 → Int32 → Int32 → Int32 → Int32 → Int64 → Mm → Option Mm)   (v1 : Int32) (v2 : Int32) (v3 : Int32) (v6 : Int32) (v7 : Int64) (v9 : Int32) (t0 : Int32) (t1 : Int32) (t2 : Int32) (t3 : Int32) (t4 : Int32) (t5 : Int32) (σ : Mm) : Option Mm :=
  (R t5 t4 t3 t2 t1 t0 ((v7 / (12 : Int64)) * (v9.toInt64)) σ).bind (fun q_2 => (if 0 ≤ v6 then fX6_goesOn_99 R v7 v9 v6 (0 : Int32) (0 : Int32) (v3 + (1 : Int32)) v2 v1 q_2
  else fX6_goesOn_99 R v7 v9 (0 : Int32) (0 : Int32) (0 : Int32) (v3 + (1 : Int32)) v2 v1 q_2))
def fX6_goesOn_37 (R : Int32 → Int32 → Int32 → Int32 → Int32 → Int32 → Int64 → Mm → Option Mm)   (v1 : Int32) (v2 : Int32) (v3 : Int32) (v4 : Int32) (v5 : Int32) (v6 : Int32) (v7 : Int64) (σ : Mm) : Option Mm :=
  (fX6_twelfths v5 σ).bind (fun q_4 => (if 0 ≤ v6 then fX6_goesOn_67 R v1 v2 v3 v6 v7 q_4 v6 (1 : Int32) (v4 + (1 : Int32)) v3 (v2 + (1 : Int32)) v1 σ
  else fX6_goesOn_67 R v1 v2 v3 v6 v7 q_4 (1 : Int32) (1 : Int32) (v4 + (1 : Int32)) v3 (v2 + (1 : Int32)) v1 σ))
def fX6_goesOn : Nat → Int32 → Int32 → Int32 → Int32 → Int32 → Int32 → Int64 → Mm → Option Mm
  | 0, _, _, _, _, _, _, _, _ => none
  | n + 1, a0, a1, a2, a3, a4, a5, a6, σ => (if (lg_cmp a6 (0 : Int64)) = 0 then some σ
  else (if (a1 + a2) ≤ 0 then fX6_goesOn_37 (fun wa0 wa1 wa2 wa3 wa4 wa5 wa6 wσ => fX6_goesOn n wa0 wa1 wa2 wa3 wa4 wa5 wa6 wσ) a0 a1 a2 a3 a4 a5 a6 σ
  else (fX6_endsBy a0 a1 a2 a3 σ).bind (fun q_3 => (if q_3 = 0 then fX6_goesOn_37 (fun wa0 wa1 wa2 wa3 wa4 wa5 wa6 wσ => fX6_goesOn n wa0 wa1 wa2 wa3 wa4 wa5 wa6 wσ) a0 a1 a2 a3 a4 a5 a6 σ
  else (fX6_isFamily a1 a2 a6 a5 σ).bind (fun q_5 => some q_5)))))
def fX6_finds_82   : Nat → Int32 → Int32 → Mm → Option Mm
  | 0, _, _, _ => none
  | n + 1, v1, v2, σ => (if (10 : Int32) < v2 then (fX6_goesOn 12 v1 (0 : Int32) (0 : Int32) (0 : Int32) (-9 : Int32) (-9 : Int32) (gL σ 0 9) σ).bind (fun q_2 => some q_2)
  else (if ci v2 11 = true then fX6_finds_82 n v1 (v2 + (1 : Int32)) (pL σ 7 v2.toNatClampNeg (0 : Int64)) else none))
def fX6_finds_7   : Nat → Int32 → Int32 → Mm → Option Mm
  | 0, _, _, _ => none
  | n + 1, v1, v2, σ => (if ci (0 : Int32) 22 = true then (if (gI σ 2 (0 : Int32).toNatClampNeg) ≤ v2 then fX6_finds_82 1000 v1 (0 : Int32) (pL (pL (pL (pL (pL (pL (pL (pL (pL σ 0 10 (0 : Int64)) 0 11 (0 : Int64)) 0 12 (0 : Int64)) 0 13 (0 : Int64)) 0 14 (0 : Int64)) 0 15 (0 : Int64)) 0 16 (0 : Int64)) 0 17 (0 : Int64)) 0 18 (0 : Int64))
  else fX6_finds_7 n v1 (v2 + (1 : Int32)) (pL σ 0 9 ((gL σ 0 9) * (12 : Int64)))) else none)
def fX6_finds (a0 : Int32) (σ : Mm) : Option Mm :=
  fX6_finds_7 1000 a0 (0 : Int32) (pL σ 0 9 (1 : Int64))
def fX6_common : Nat → Int64 → Int64 → Option Int64
  | 0, _, _ => none
  | n + 1, a0, a1 => (if (lg_cmp a1 (0 : Int64)) = 0 then some a0
  else (if ¬ a1 = 0 then (fX6_common n a1 (a0 - a0 / a1 * a1)).bind (fun q_3 => some q_3) else none))
def fX6_part (a0 : Int64) (a1 : Int64) (a2 : Int32) : Option Int64 :=
  (if (lg_cmp a0 (0 : Int64)) = 0 then some (a2.toInt64)
  else (fX6_common 200 a1 a0).bind (fun q_2 => (if a2 = 0 then (if ¬ q_2 = 0 then some (a0 / q_2) else none)
  else (if ¬ q_2 = 0 then some (a1 / q_2) else none))))
def fX6_isPart (a0 : Int32) : Option Int32 :=
  (fX6_isIn a0 (2 : Int32)).bind (fun q_1 => (if q_1 &&& 1 = q_1 then some q_1 else none))
def fX6_mean_15   (σ : Mm) : Option (Int64 × Mm) :=
  (fX6_refuseWide (-2 : Int32) σ).bind (fun q_1 => some (q_1.1, q_1.2))
def fX6_mean_64   (v2 : Int32) (t0 : Int64) (σ : Mm) : Option (Int64 × Mm) :=
  (fX6_part t0 (gL σ 0 9) v2).bind (fun q_2 => some (q_2, σ))
def fX6_mean (a0 : Int32) (a1 : Int32) (σ : Mm) : Option (Int64 × Mm) :=
  (fX6_isIn a0 (3 : Int32)).bind (fun q_1 => (if q_1 = 0 then fX6_mean_15 σ
  else (fX6_isPart a1).bind (fun q_3 => (if q_3 = 0 then fX6_mean_15 σ
  else (if ci (3 : Int32) 22 = true then (fX6_finds (gI σ 2 (3 : Int32).toNatClampNeg) σ).bind (fun q_6 => (if a0 = 0 then fX6_mean_64 a1 (gL q_6 0 10) q_6
  else (if a0 = (1 : Int32) then fX6_mean_64 a1 (gL q_6 0 11) q_6
  else fX6_mean_64 a1 ((gL q_6 0 10) - (gL q_6 0 11)) q_6))) else none)))))
def fX6_share (a0 : Int32) (σ : Mm) : Option (Int64 × Mm) :=
  (fX6_isPart a0).bind (fun q_1 => (if q_1 = 0 then (fX6_refuseWide (-2 : Int32) σ).bind (fun q_6 => some (q_6.1, q_6.2))
  else (if ci (3 : Int32) 22 = true then (fX6_finds (gI σ 2 (3 : Int32).toNatClampNeg) σ).bind (fun q_4 => (fX6_part (gL q_4 0 12) ((gL q_4 0 9) * (2520 : Int64)) a0).bind (fun q_5 => some (q_5, q_4))) else none)))
def fX6_all (a0 : Int32) (σ : Mm) : Option (Int64 × Mm) :=
  (fX6_isPart a0).bind (fun q_1 => (if q_1 = 0 then (fX6_refuseWide (-2 : Int32) σ).bind (fun q_6 => some (q_6.1, q_6.2))
  else (if ci (3 : Int32) 22 = true then (fX6_finds (gI σ 2 (3 : Int32).toNatClampNeg) σ).bind (fun q_4 => (fX6_part (gL q_4 0 11) (gL q_4 0 10) a0).bind (fun q_5 => some (q_5, q_4))) else none)))
def fX6_more_15   (σ : Mm) : Option (Int64 × Mm) :=
  (fX6_refuseWide (-2 : Int32) σ).bind (fun q_1 => some (q_1.1, q_1.2))
def fX6_more_69   (v2 : Int32) (t0 : Int64) (σ : Mm) : Option (Int64 × Mm) :=
  (fX6_part t0 (gL σ 0 9) v2).bind (fun q_2 => some (q_2, σ))
def fX6_more (a0 : Int32) (a1 : Int32) (σ : Mm) : Option (Int64 × Mm) :=
  (fX6_isIn a0 (3 : Int32)).bind (fun q_1 => (if q_1 = 0 then fX6_more_15 σ
  else (fX6_isPart a1).bind (fun q_3 => (if q_3 = 0 then fX6_more_15 σ
  else (if ci (3 : Int32) 22 = true then (fX6_finds (gI σ 2 (3 : Int32).toNatClampNeg) σ).bind (fun q_6 => (if a0 = 0 then fX6_more_69 a1 (gL q_6 0 13) q_6
  else (if a0 = (1 : Int32) then fX6_more_69 a1 (gL q_6 0 14) q_6
  else fX6_more_69 a1 (((gL q_6 0 9) - (gL q_6 0 13)) - (gL q_6 0 14)) q_6))) else none)))))
def fX6_size_22   (v1 : Int32) (v2 : Int32) (v3 : Int32) (σ : Mm) : Option (Int64 × Mm) :=
  (if v3 = 0 then (if ci (3 : Int32) 22 = true then (fX6_finds (gI σ 2 (3 : Int32).toNatClampNeg) σ).bind (fun q_3 => (if ci v1 11 = true then (fX6_part (gL q_3 7 v1.toNatClampNeg) (gL q_3 0 9) v2).bind (fun q_5 => some (q_5, q_3)) else none)) else none)
  else (fX6_refuseWide v3 σ).bind (fun q_6 => some (q_6.1, q_6.2)))
def fX6_size (a0 : Int32) (a1 : Int32) (σ : Mm) : Option (Int64 × Mm) :=
  (fX6_within a0 (1 : Int32) (10 : Int32)).bind (fun q_1 => (if q_1 = 0 then (fX6_isPart a1).bind (fun q_3 => (if q_3 = 0 then fX6_size_22 a0 a1 (-2 : Int32) σ
  else fX6_size_22 a0 a1 q_1 σ))
  else fX6_size_22 a0 a1 q_1 σ))
def fX6_met_15   (σ : Mm) : Option (Int64 × Mm) :=
  (fX6_refuseWide (-2 : Int32) σ).bind (fun q_1 => some (q_1.1, q_1.2))
def fX6_met_47   (v2 : Int32) (t0 : Int64) (σ : Mm) : Option (Int64 × Mm) :=
  (fX6_part t0 (gL σ 0 10) v2).bind (fun q_2 => some (q_2, σ))
def fX6_met (a0 : Int32) (a1 : Int32) (σ : Mm) : Option (Int64 × Mm) :=
  (fX6_isIn a0 (2 : Int32)).bind (fun q_1 => (if q_1 = 0 then fX6_met_15 σ
  else (fX6_isPart a1).bind (fun q_3 => (if q_3 = 0 then fX6_met_15 σ
  else (if ci (3 : Int32) 22 = true then (fX6_finds (gI σ 2 (3 : Int32).toNatClampNeg) σ).bind (fun q_6 => (if a0 = 0 then fX6_met_47 a1 (gL q_6 0 15) q_6
  else fX6_met_47 a1 (gL q_6 0 16) q_6)) else none)))))
def fX6_says_61   (v1 : Int32) (v2 : Int32) (v3 : Int32) (v4 : Int32) (v5 : Int32) (t0 : Int32) (σ : Mm) : Option (Int64 × Mm) :=
  (if t0 = 0 then (if ci (3 : Int32) 22 = true then (fX6_finds (gI (pI (pI (pI σ 0 20 v1) 0 21 v2) 0 22 v3) 2 (3 : Int32).toNatClampNeg) (pI (pI (pI σ 0 20 v1) 0 21 v2) 0 22 v3)).bind (fun q_3 => (if v4 = 0 then (fX6_part (gL q_3 0 17) (gL q_3 0 10) v5).bind (fun q_6 => some (q_6, q_3))
  else (fX6_part (gL q_3 0 18) (gL q_3 0 17) v5).bind (fun q_5 => some (q_5, q_3)))) else none)
  else (fX6_refuseWide t0 σ).bind (fun q_7 => some (q_7.1, q_7.2)))
def fX6_says_8   (v1 : Int32) (v2 : Int32) (v3 : Int32) (v4 : Int32) (v5 : Int32) (σ : Mm) : Option (Int64 × Mm) :=
  fX6_says_61 v1 v2 v3 v4 v5 (-4 : Int32) σ
def fX6_says_25   (v1 : Int32) (v2 : Int32) (v3 : Int32) (v4 : Int32) (v5 : Int32) (σ : Mm) : Option (Int64 × Mm) :=
  fX6_says_61 v1 v2 v3 v4 v5 (-6 : Int32) σ
def fX6_says_59   (v1 : Int32) (v2 : Int32) (v3 : Int32) (v4 : Int32) (v5 : Int32) (σ : Mm) : Option (Int64 × Mm) :=
  fX6_says_61 v1 v2 v3 v4 v5 (-2 : Int32) σ
def fX6_says (a0 : Int32) (a1 : Int32) (a2 : Int32) (a3 : Int32) (a4 : Int32) (σ : Mm) : Option (Int64 × Mm) :=
  (if a1 < 0 then fX6_says_8 a0 a1 a2 a3 a4 σ
  else (if 0 ≤ a2 then (if (9 : Int32) < a1 then fX6_says_25 a0 a1 a2 a3 a4 σ
  else (if a2 ≤ (9 : Int32) then (fX6_isIn a0 (2 : Int32)).bind (fun q_5 => (if q_5 = 0 then fX6_says_59 a0 a1 a2 a3 a4 σ
  else (fX6_isIn a3 (2 : Int32)).bind (fun q_7 => (if q_7 = 0 then fX6_says_59 a0 a1 a2 a3 a4 σ
  else (fX6_isPart a4).bind (fun q_9 => (if q_9 = 0 then fX6_says_59 a0 a1 a2 a3 a4 σ
  else fX6_says_61 a0 a1 a2 a3 a4 (0 : Int32) σ))))))
  else fX6_says_25 a0 a1 a2 a3 a4 σ))
  else fX6_says_8 a0 a1 a2 a3 a4 σ))
def fX6_triedBy : Nat → Int32 → Int32 → Int32 → Int32 → Int64 → Mm → Option Int64
  | 0, _, _, _, _, _, _ => none
  | n + 1, a0, a1, a2, a3, a4, σ => (if a1 = a2 then some a4
  else (if a0 = 0 then some (0 : Int64)
  else (if (lg_cmp a4 (0 : Int64)) = 0 then some (0 : Int64)
  else (fX6_twelfths a3 σ).bind (fun q_4 => (fX6_triedBy n (a0 - (1 : Int32)) (a1 + (1 : Int32)) a2 (1 : Int32) ((a4 / (12 : Int64)) * (q_4.toInt64)) σ).bind (fun q_5 => (fX6_triedBy n (a0 - (1 : Int32)) (a1 - (1 : Int32)) a2 (0 : Int32) ((a4 / (12 : Int64)) * (((12 : Int32) - q_4).toInt64)) σ).bind (fun q_6 => some (q_5 + q_6)))))))
def fX6_trial_65   : Nat → Int32 → Int32 → Int32 → Int64 → Int32 → Mm → Option (Int64 × Mm)
  | 0, _, _, _, _, _, _ => none
  | n + 1, v1, v2, v3, v5, v7, σ => (if v1 ≤ v7 then (fX6_triedBy 12 v1 (0 : Int32) v2 (-9 : Int32) v5 σ).bind (fun q_2 => (fX6_part q_2 v5 v3).bind (fun q_3 => some (q_3, σ)))
  else fX6_trial_65 n v1 v2 v3 (v5 * (12 : Int64)) (v7 + (1 : Int32)) σ)
def fX6_trial_45   (v1 : Int32) (v2 : Int32) (v3 : Int32) (t0 : Int32) (σ : Mm) : Option (Int64 × Mm) :=
  (if t0 = 0 then fX6_trial_65 1000 v1 v2 v3 (1 : Int64) (0 : Int32) σ
  else (fX6_refuseWide t0 σ).bind (fun q_5 => some (q_5.1, q_5.2)))
def fX6_trial_10   (v1 : Int32) (v2 : Int32) (v3 : Int32) (σ : Mm) : Option (Int64 × Mm) :=
  fX6_trial_45 v1 v2 v3 (-4 : Int32) σ
def fX6_trial_27   (v1 : Int32) (v2 : Int32) (v3 : Int32) (σ : Mm) : Option (Int64 × Mm) :=
  fX6_trial_45 v1 v2 v3 (-6 : Int32) σ
def fX6_trial (a0 : Int32) (a1 : Int32) (a2 : Int32) (σ : Mm) : Option (Int64 × Mm) :=
  (if a0 < (1 : Int32) then fX6_trial_10 a0 a1 a2 σ
  else (if (1 : Int32) ≤ a1 then (if (10 : Int32) < a0 then fX6_trial_27 a0 a1 a2 σ
  else (if a1 ≤ (9 : Int32) then (fX6_isPart a2).bind (fun q_5 => (if q_5 = 0 then fX6_trial_45 a0 a1 a2 (-2 : Int32) σ
  else fX6_trial_45 a0 a1 a2 (0 : Int32) σ))
  else fX6_trial_27 a0 a1 a2 σ))
  else fX6_trial_10 a0 a1 a2 σ))
def fX6_stopOf_73  (K18 : Int32 → Int32 → Int32 → Int32 → Mm → Option (Int32 × Mm)) (v1 : Int32) (v2 : Int32) (v3 : Int32) (v4 : Int32) (t0 : Int32) (σ : Mm) : Option (Int32 × Mm) :=
  (fX6_endsBy v1 (gI (pI σ 0 25 t0) 0 23) (gI (pI σ 0 25 t0) 0 24) (gI (pI σ 0 25 t0) 0 25) (pI σ 0 25 t0)).bind (fun q_1 => (if q_1 = 0 then K18 v1 v2 v3 (v4 + (1 : Int32)) (pI σ 0 25 t0)
  else some ((v4 + (1 : Int32)), (pI σ 0 25 t0))))
def fX6_stopOf_18   : Nat → Int32 → Int32 → Int32 → Int32 → Mm → Option (Int32 × Mm)
  | 0, _, _, _, _, _ => none
  | n + 1, v1, v2, v3, v4, σ => (if v2 ≤ v4 then some ((0 : Int32), σ)
  else (if ((v3 >>> (v4 &&& 31)) &&& (1 : Int32)) = (1 : Int32) then fX6_stopOf_73 (fun wv1 wv2 wv3 wv4 wσ => fX6_stopOf_18 n wv1 wv2 wv3 wv4 wσ) v1 v2 v3 v4 ((gI (pI (pI σ 0 23 ((gI σ 0 23) + ((v3 >>> (v4 &&& 31)) &&& (1 : Int32)))) 0 24 ((gI (pI σ 0 23 ((gI σ 0 23) + ((v3 >>> (v4 &&& 31)) &&& (1 : Int32)))) 0 24) + ((1 : Int32) - ((v3 >>> (v4 &&& 31)) &&& (1 : Int32))))) 0 25) + (1 : Int32)) (pI (pI σ 0 23 ((gI σ 0 23) + ((v3 >>> (v4 &&& 31)) &&& (1 : Int32)))) 0 24 ((gI (pI σ 0 23 ((gI σ 0 23) + ((v3 >>> (v4 &&& 31)) &&& (1 : Int32)))) 0 24) + ((1 : Int32) - ((v3 >>> (v4 &&& 31)) &&& (1 : Int32)))))
  else fX6_stopOf_73 (fun wv1 wv2 wv3 wv4 wσ => fX6_stopOf_18 n wv1 wv2 wv3 wv4 wσ) v1 v2 v3 v4 (0 : Int32) (pI (pI σ 0 23 ((gI σ 0 23) + ((v3 >>> (v4 &&& 31)) &&& (1 : Int32)))) 0 24 ((gI (pI σ 0 23 ((gI σ 0 23) + ((v3 >>> (v4 &&& 31)) &&& (1 : Int32)))) 0 24) + ((1 : Int32) - ((v3 >>> (v4 &&& 31)) &&& (1 : Int32)))))))
def fX6_stopOf (a0 : Int32) (a1 : Int32) (a2 : Int32) (σ : Mm) : Option (Int32 × Mm) :=
  fX6_stopOf_18 1000 a0 a1 a2 (0 : Int32) (pI (pI (pI σ 0 23 (0 : Int32)) 0 24 (0 : Int32)) 0 25 (0 : Int32))
def fX6_row_28   (v1 : Int32) (t0 : Int32) (σ : Mm) : Option (Int32 × Mm) :=
  (if t0 = 0 then some ((gI (pI (pI σ 0 27 (((gI σ 0 27) &&& (((1 : Int32) <<< ((gI σ 0 26) &&& 31)) - (1 : Int32))) ||| (v1 <<< ((gI σ 0 26) &&& 31)))) 0 26 ((gI (pI σ 0 27 (((gI σ 0 27) &&& (((1 : Int32) <<< ((gI σ 0 26) &&& 31)) - (1 : Int32))) ||| (v1 <<< ((gI σ 0 26) &&& 31)))) 0 26) + (1 : Int32))) 0 26), (pI (pI σ 0 27 (((gI σ 0 27) &&& (((1 : Int32) <<< ((gI σ 0 26) &&& 31)) - (1 : Int32))) ||| (v1 <<< ((gI σ 0 26) &&& 31)))) 0 26 ((gI (pI σ 0 27 (((gI σ 0 27) &&& (((1 : Int32) <<< ((gI σ 0 26) &&& 31)) - (1 : Int32))) ||| (v1 <<< ((gI σ 0 26) &&& 31)))) 0 26) + (1 : Int32))))
  else (fX6_refuse t0 σ).bind (fun q_2 => some (q_2.1, q_2.2)))
def fX6_row (a0 : Int32) (σ : Mm) : Option (Int32 × Mm) :=
  (fX6_isIn a0 (2 : Int32)).bind (fun q_1 => (if q_1 = 0 then fX6_row_28 a0 (-2 : Int32) σ
  else (if (gI σ 0 26) = (10 : Int32) then fX6_row_28 a0 (-6 : Int32) σ
  else fX6_row_28 a0 (0 : Int32) σ)))
def fX6_gone_142   (v1 : Int32) (t0 : Int64) (t1 : Int64) (σ : Mm) : Option (Int64 × Mm) :=
  (fX6_part (t1 + t0) (12 : Int64) v1).bind (fun q_1 => some (q_1, σ))
def fX6_gone_107   (v1 : Int32) (v2 : Int32) (t0 : Int64) (σ : Mm) : Option (Int64 × Mm) :=
  (if ci (3 : Int32) 22 = true then (fX6_endsBy (gI σ 2 (3 : Int32).toNatClampNeg) (gI σ 0 23) ((gI σ 0 24) + (1 : Int32)) (0 : Int32) σ).bind (fun q_3 => (if q_3 = 0 then fX6_gone_142 v1 (0 : Int64) t0 σ
  else fX6_gone_142 v1 (((12 : Int32) - v2).toInt64) t0 σ)) else none)
def fX6_gone_68   (v1 : Int32) (t0 : Int32) (σ : Mm) : Option (Int64 × Mm) :=
  (fX6_twelfths t0 σ).bind (fun q_5 => (if ci (3 : Int32) 22 = true then (fX6_endsBy (gI σ 2 (3 : Int32).toNatClampNeg) ((gI σ 0 23) + (1 : Int32)) (gI σ 0 24) ((gI σ 0 25) + (1 : Int32)) σ).bind (fun q_7 => (if q_7 = 0 then fX6_gone_107 v1 q_5 (0 : Int64) σ
  else fX6_gone_107 v1 q_5 (q_5.toInt64) σ)) else none))
def fX6_gone (a0 : Int32) (σ : Mm) : Option (Int64 × Mm) :=
  (fX6_isPart a0).bind (fun q_1 => (if q_1 = 0 then (fX6_refuseWide (-2 : Int32) σ).bind (fun q_8 => some (q_8.1, q_8.2))
  else (if ci (3 : Int32) 22 = true then (fX6_stopOf (gI σ 2 (3 : Int32).toNatClampNeg) (gI σ 0 26) (gI σ 0 27) σ).bind (fun q_4 => (if q_4.1 ≤ 0 then (if (gI q_4.2 0 26) = 0 then fX6_gone_68 a0 (-9 : Int32) q_4.2
  else fX6_gone_68 a0 (((gI q_4.2 0 27) >>> (((gI q_4.2 0 26) - (1 : Int32)) &&& 31)) &&& (1 : Int32)) q_4.2)
  else (fX6_part (0 : Int64) (1 : Int64) a0).bind (fun q_7 => some (q_7, q_4.2)))) else none)))
def fX6_isMore_60 (R : Int64 → Int64 → Int64 → Int64 → Option Int32)   (v12 : Int64) : Option Int32 :=
  (if (lg_cmp v12 (0 : Int64)) ≤ 0 then some (0 : Int32)
  else some (1 : Int32))
def fX6_isMore : Nat → Int64 → Int64 → Int64 → Int64 → Option Int32
  | 0, _, _, _, _ => none
  | n + 1, a0, a1, a2, a3 => (if ¬ a1 = 0 then (if ¬ a3 = 0 then (if (lg_cmp (a0 / a1) (a2 / a3)) = 0 then (if ¬ a1 = 0 then (if ¬ a3 = 0 then (if (lg_cmp (a0 - a0 / a1 * a1) (0 : Int64)) = 0 then fX6_isMore_60 (fun wa0 wa1 wa2 wa3 => fX6_isMore n wa0 wa1 wa2 wa3) (a0 - a0 / a1 * a1)
  else (if (lg_cmp (a2 - a2 / a3 * a3) (0 : Int64)) = 0 then fX6_isMore_60 (fun wa0 wa1 wa2 wa3 => fX6_isMore n wa0 wa1 wa2 wa3) (a0 - a0 / a1 * a1)
  else (fX6_isMore n a3 (a2 - a2 / a3 * a3) a1 (a0 - a0 / a1 * a1)).bind (fun q_8 => (if q_8 &&& 1 = q_8 then some q_8 else none)))) else none) else none)
  else (if (lg_cmp (a0 / a1) (a2 / a3)) ≤ 0 then some (0 : Int32)
  else some (1 : Int32))) else none) else none)
def fX6_shift_118  (K26 : Int32 → Int32 → Int64 → Int64 → Int32 → Mm → Option (Int32 × Mm)) (v1 : Int32) (v2 : Int32) (v3 : Int64) (v5 : Int64) (v7 : Int32) (σ : Mm) : Option (Int32 × Mm) :=
  K26 v1 v2 v3 v5 (v7 + (1 : Int32)) σ
def fX6_shift_108  (K26 : Int32 → Int32 → Int64 → Int64 → Int32 → Mm → Option (Int32 × Mm)) (v1 : Int32) (v7 : Int32) (v8 : Int64) (v10 : Int64) (σ : Mm) : Option (Int32 × Mm) :=
  fX6_shift_118 K26 v1 v7 v8 v10 v7 σ
def fX6_shift_94  (K26 : Int32 → Int32 → Int64 → Int64 → Int32 → Mm → Option (Int32 × Mm)) (v1 : Int32) (v2 : Int32) (v3 : Int64) (v5 : Int64) (v7 : Int32) (v8 : Int64) (v10 : Int64) (t0 : Int32) (σ : Mm) : Option (Int32 × Mm) :=
  (if v2 < 0 then fX6_shift_108 K26 v1 v7 v8 v10 σ
  else (if t0 = 0 then fX6_shift_118 K26 v1 v2 v3 v5 v7 σ
  else fX6_shift_108 K26 v1 v7 v8 v10 σ))
def fX6_shift_26   : Nat → Int32 → Int32 → Int64 → Int64 → Int32 → Mm → Option (Int32 × Mm)
  | 0, _, _, _, _, _, _ => none
  | n + 1, v1, v2, v3, v5, v7, σ => (if (6 : Int32) ≤ v7 then some (v2, σ)
  else (fX6_finds v7 σ).bind (fun q_4 => (fX6_part (gL q_4 0 11) (gL q_4 0 10) (0 : Int32)).bind (fun q_5 => (fX6_part (gL q_4 0 11) (gL q_4 0 10) (1 : Int32)).bind (fun q_6 => (if v1 = 0 then (fX6_isMore 200 q_5 q_6 v3 v5).bind (fun q_9 => fX6_shift_94 (fun wv1 wv2 wv3 wv5 wv7 wσ => fX6_shift_26 n wv1 wv2 wv3 wv5 wv7 wσ) v1 v2 v3 v5 v7 q_5 q_6 q_9 q_4)
  else (fX6_isMore 200 v3 v5 q_5 q_6).bind (fun q_8 => fX6_shift_94 (fun wv1 wv2 wv3 wv5 wv7 wσ => fX6_shift_26 n wv1 wv2 wv3 wv5 wv7 wσ) v1 v2 v3 v5 v7 q_5 q_6 q_8 q_4))))))
def fX6_shift (a0 : Int32) (σ : Mm) : Option (Int32 × Mm) :=
  (fX6_isIn a0 (2 : Int32)).bind (fun q_1 => (if q_1 = 0 then (fX6_refuse (-2 : Int32) σ).bind (fun q_3 => some (q_3.1, q_3.2))
  else fX6_shift_26 1000 a0 (-9 : Int32) (0 : Int64) (1 : Int64) (0 : Int32) σ))
def fX6_manyOf (a0 : Int32) (σ : Mm) : Option Int32 :=
  (if ci ((6 : Int32) + ((2 : Int32) * a0)) 22 = true then some (gI σ 2 ((6 : Int32) + ((2 : Int32) * a0)).toNatClampNeg) else none)
def fX6_sortsOf (a0 : Int32) (σ : Mm) : Option Int32 :=
  (if ci (((6 : Int32) + ((2 : Int32) * a0)) + (1 : Int32)) 22 = true then some (gI σ 2 (((6 : Int32) + ((2 : Int32) * a0)) + (1 : Int32)).toNatClampNeg) else none)
def fX6_fits_113  (K19 : Int32 → Int32 → Int32 → Mm → Option (Int32 × Mm)) (v1 : Int32) (v3 : Int32) (t0 : Int32) (t1 : Int32) (σ : Mm) : Option (Int32 × Mm) :=
  K19 v1 (t1 ||| t0) (v3 + (1 : Int32)) σ
def fX6_fits_92  (K19 : Int32 → Int32 → Int32 → Mm → Option (Int32 × Mm)) (K31 : Int32 → Int32 → Int32 → Int32 → Int32 → Mm → Option (Int32 × Mm)) (v1 : Int32) (v2 : Int32) (v3 : Int32) (v5 : Int32) (t0 : Int32) (σ : Mm) : Option (Int32 × Mm) :=
  K31 v1 v2 v3 t0 (v5 + (1 : Int32)) σ
def fX6_fits_91  (K19 : Int32 → Int32 → Int32 → Mm → Option (Int32 × Mm)) (K31 : Int32 → Int32 → Int32 → Int32 → Int32 → Mm → Option (Int32 × Mm)) (v1 : Int32) (v2 : Int32) (v3 : Int32) (v5 : Int32) (σ : Mm) : Option (Int32 × Mm) :=
  fX6_fits_92 K19 K31 v1 v2 v3 v5 (0 : Int32) σ
def fX6_fits_87  (K19 : Int32 → Int32 → Int32 → Mm → Option (Int32 × Mm)) (K31 : Int32 → Int32 → Int32 → Int32 → Int32 → Mm → Option (Int32 × Mm)) (v1 : Int32) (v2 : Int32) (v3 : Int32) (v5 : Int32) (σ : Mm) : Option (Int32 × Mm) :=
  fX6_fits_92 K19 K31 v1 v2 v3 v5 (1 : Int32) σ
def fX6_fits_31  (K19 : Int32 → Int32 → Int32 → Mm → Option (Int32 × Mm)) : Nat → Int32 → Int32 → Int32 → Int32 → Int32 → Mm → Option (Int32 × Mm)
  | 0, _, _, _, _, _, _ => none
  | n + 1, v1, v2, v3, v4, v5, σ => (if ci (5 : Int32) 22 = true then (if (gI σ 2 (5 : Int32).toNatClampNeg) ≤ v5 then (if v4 = 0 then fX6_fits_113 K19 v1 v3 (0 : Int32) v2 σ
  else fX6_fits_113 K19 v1 v3 ((1 : Int32) <<< (v3 &&& 31)) v2 σ)
  else (fX6_manyOf v5 σ).bind (fun q_4 => (fX6_sortsOf v5 σ).bind (fun q_5 => (fX6_stopOf v3 q_4 q_5 σ).bind (fun q_6 => (if v4 = 0 then fX6_fits_91 K19 (fun wv1 wv2 wv3 wv4 wv5 wσ => fX6_fits_31 K19 n wv1 wv2 wv3 wv4 wv5 wσ) v1 v2 v3 v5 q_6.2
  else (fX6_manyOf v5 q_6.2).bind (fun q_8 => (if q_6.1 = q_8 then fX6_fits_87 K19 (fun wv1 wv2 wv3 wv4 wv5 wσ => fX6_fits_31 K19 n wv1 wv2 wv3 wv4 wv5 wσ) v1 v2 v3 v5 q_6.2
  else (if v1 = (1 : Int32) then (if q_6.1 = 0 then fX6_fits_87 K19 (fun wv1 wv2 wv3 wv4 wv5 wσ => fX6_fits_31 K19 n wv1 wv2 wv3 wv4 wv5 wσ) v1 v2 v3 v5 q_6.2
  else fX6_fits_91 K19 (fun wv1 wv2 wv3 wv4 wv5 wσ => fX6_fits_31 K19 n wv1 wv2 wv3 wv4 wv5 wσ) v1 v2 v3 v5 q_6.2)
  else fX6_fits_91 K19 (fun wv1 wv2 wv3 wv4 wv5 wσ => fX6_fits_31 K19 n wv1 wv2 wv3 wv4 wv5 wσ) v1 v2 v3 v5 q_6.2)))))))) else none)
def fX6_fits_19   : Nat → Int32 → Int32 → Int32 → Mm → Option (Int32 × Mm)
  | 0, _, _, _, _ => none
  | n + 1, v1, v2, v3, σ => (if (6 : Int32) ≤ v3 then some (v2, σ)
  else fX6_fits_31 (fun wv1 wv2 wv3 wσ => fX6_fits_19 n wv1 wv2 wv3 wσ) 1000 v1 v2 v3 (1 : Int32) (0 : Int32) σ)
def fX6_fits (a0 : Int32) (σ : Mm) : Option (Int32 × Mm) :=
  (fX6_isIn a0 (2 : Int32)).bind (fun q_1 => (if q_1 = 0 then (fX6_refuse (-2 : Int32) σ).bind (fun q_3 => some (q_3.1, q_3.2))
  else fX6_fits_19 1000 a0 (0 : Int32) (0 : Int32) σ))
def fX6_judge  (σ : Mm) : Option (Int32 × Mm) :=
  (if ci (3 : Int32) 22 = true then (fX6_stopOf (gI (pI σ 0 26 (0 : Int32)) 2 (3 : Int32).toNatClampNeg) (gI σ 0 26) (gI (pI σ 0 26 (0 : Int32)) 0 27) (pI σ 0 26 (0 : Int32))).bind (fun q_2 => (if q_2.1 = 0 then some ((-9 : Int32), q_2.2)
  else (if q_2.1 = (gI σ 0 26) then some ((20 : Int32), q_2.2)
  else some ((q_2.1 - (1 : Int32)), q_2.2)))) else none)
def fX6_seen_23   (v1 : Int32) (v2 : Int32) (t0 : Int32) (σ : Mm) : Option (Int32 × Mm) :=
  (if t0 = 0 then (if ci (5 : Int32) 22 = true then (if v1 < (gI σ 2 (5 : Int32).toNatClampNeg) then (if v2 = 0 then (fX6_manyOf v1 σ).bind (fun q_6 => some (q_6, σ))
  else (fX6_sortsOf v1 σ).bind (fun q_5 => some (q_5, σ)))
  else some ((-9 : Int32), σ)) else none)
  else (fX6_refuse t0 σ).bind (fun q_7 => some (q_7.1, q_7.2)))
def fX6_seen (a0 : Int32) (a1 : Int32) (σ : Mm) : Option (Int32 × Mm) :=
  (if 0 ≤ a0 then (fX6_isIn a1 (2 : Int32)).bind (fun q_2 => (if q_2 = 0 then fX6_seen_23 a0 a1 (-2 : Int32) σ
  else fX6_seen_23 a0 a1 (0 : Int32) σ))
  else fX6_seen_23 a0 a1 (-4 : Int32) σ)
def fX6_cheats_54  (K4 : Int32 → Int32 → Mm → Option (Int32 × Mm)) (v2 : Int32) (t0 : Int32) (t1 : Int32) (σ : Mm) : Option (Int32 × Mm) :=
  K4 (t1 + t0) (v2 + (1 : Int32)) σ
def fX6_cheats_53  (K4 : Int32 → Int32 → Mm → Option (Int32 × Mm)) (v2 : Int32) (t0 : Int32) (σ : Mm) : Option (Int32 × Mm) :=
  fX6_cheats_54 K4 v2 (0 : Int32) t0 σ
def fX6_cheats_4   : Nat → Int32 → Int32 → Mm → Option (Int32 × Mm)
  | 0, _, _, _ => none
  | n + 1, v1, v2, σ => (if ci (5 : Int32) 22 = true then (if (gI σ 2 (5 : Int32).toNatClampNeg) ≤ v2 then some (v1, σ)
  else (if ci (3 : Int32) 22 = true then (fX6_manyOf v2 σ).bind (fun q_4 => (fX6_sortsOf v2 σ).bind (fun q_5 => (fX6_stopOf (gI σ 2 (3 : Int32).toNatClampNeg) q_4 q_5 σ).bind (fun q_6 => (if q_6.1 ≤ 0 then fX6_cheats_53 (fun wv1 wv2 wσ => fX6_cheats_4 n wv1 wv2 wσ) v2 v1 q_6.2
  else (fX6_manyOf v2 q_6.2).bind (fun q_8 => (if q_8 ≤ q_6.1 then fX6_cheats_53 (fun wv1 wv2 wσ => fX6_cheats_4 n wv1 wv2 wσ) v2 v1 q_6.2
  else fX6_cheats_54 (fun wv1 wv2 wσ => fX6_cheats_4 n wv1 wv2 wσ) v2 (1 : Int32) v1 q_6.2)))))) else none)) else none)
def fX6_cheats  (σ : Mm) : Option (Int32 × Mm) :=
  fX6_cheats_4 1000 (0 : Int32) (0 : Int32) σ
def fX6_drawn (a0 : Int32) (σ : Mm) : Option (Int32 × Mm) :=
  (if ¬ a0 = 0 then some (((((gI (pI σ 0 28 (((gI σ 0 28) * (1664525 : Int32)) + (1013904223 : Int32))) 0 28) &&& (2147483647 : Int32)) / (256 : Int32)) - (((gI (pI σ 0 28 (((gI σ 0 28) * (1664525 : Int32)) + (1013904223 : Int32))) 0 28) &&& (2147483647 : Int32)) / (256 : Int32)) / a0 * a0), (pI σ 0 28 (((gI σ 0 28) * (1664525 : Int32)) + (1013904223 : Int32)))) else none)
def fX6_lots_155  (K49 : Int32 → Int32 → Int32 → Int32 → Mm → Option (Int32 × Mm)) (v1 : Int32) (v3 : Int32) (v6 : Int32) (t0 : Int32) (t1 : Int32) (σ : Mm) : Option (Int32 × Mm) :=
  K49 v1 v3 (t1 + t0) (v6 + (1 : Int32)) σ
def fX6_lots_120  (K49 : Int32 → Int32 → Int32 → Int32 → Mm → Option (Int32 × Mm)) (K68 : Int32 → Int32 → Int32 → Int32 → Int32 → Int32 → Int32 → Int32 → Mm → Option (Int32 × Mm)) (v1 : Int32) (v3 : Int32) (v5 : Int32) (v6 : Int32) (v7 : Int32) (v8 : Int32) (v10 : Int32) (t0 : Int32) (σ : Mm) : Option (Int32 × Mm) :=
  (if ci (3 : Int32) 22 = true then (fX6_endsBy (gI σ 2 (3 : Int32).toNatClampNeg) v7 v8 t0 σ).bind (fun q_2 => (if q_2 = 0 then K68 v1 v3 v5 v6 v7 v8 t0 v10 σ
  else (if v3 = (1 : Int32) then fX6_lots_155 K49 v1 v3 v6 v7 v5 σ
  else fX6_lots_155 K49 v1 v3 v6 v8 v5 σ))) else none)
def fX6_lots_88  (K49 : Int32 → Int32 → Int32 → Int32 → Mm → Option (Int32 × Mm)) (K68 : Int32 → Int32 → Int32 → Int32 → Int32 → Int32 → Int32 → Int32 → Mm → Option (Int32 × Mm)) (v1 : Int32) (v3 : Int32) (v5 : Int32) (v6 : Int32) (v7 : Int32) (v8 : Int32) (v9 : Int32) (t0 : Int32) (σ : Mm) : Option (Int32 × Mm) :=
  (if t0 = (1 : Int32) then fX6_lots_120 K49 K68 v1 v3 v5 v6 (v7 + t0) (v8 + ((1 : Int32) - t0)) t0 (v9 + (1 : Int32)) σ
  else fX6_lots_120 K49 K68 v1 v3 v5 v6 (v7 + t0) (v8 + ((1 : Int32) - t0)) t0 (0 : Int32) σ)
def fX6_lots_68  (K49 : Int32 → Int32 → Int32 → Int32 → Mm → Option (Int32 × Mm)) : Nat → Int32 → Int32 → Int32 → Int32 → Int32 → Int32 → Int32 → Int32 → Mm → Option (Int32 × Mm)
  | 0, _, _, _, _, _, _, _, _, _ => none
  | n + 1, v1, v3, v5, v6, v7, v8, v9, v10, σ => (fX6_drawn (12 : Int32) σ).bind (fun q_6 => (fX6_twelfths v10 q_6.2).bind (fun q_7 => (if q_7 ≤ q_6.1 then fX6_lots_88 K49 (fun wv1 wv3 wv5 wv6 wv7 wv8 wv9 wv10 wσ => fX6_lots_68 K49 n wv1 wv3 wv5 wv6 wv7 wv8 wv9 wv10 wσ) v1 v3 v5 v6 v7 v8 v9 (0 : Int32) q_6.2
  else fX6_lots_88 K49 (fun wv1 wv3 wv5 wv6 wv7 wv8 wv9 wv10 wσ => fX6_lots_68 K49 n wv1 wv3 wv5 wv6 wv7 wv8 wv9 wv10 wσ) v1 v3 v5 v6 v7 v8 v9 (1 : Int32) q_6.2)))
def fX6_lots_49   : Nat → Int32 → Int32 → Int32 → Int32 → Mm → Option (Int32 × Mm)
  | 0, _, _, _, _, _ => none
  | n + 1, v1, v3, v5, v6, σ => (if v1 ≤ v6 then some (v5, σ)
  else fX6_lots_68 (fun wv1 wv3 wv5 wv6 wσ => fX6_lots_49 n wv1 wv3 wv5 wv6 wσ) 1000 v1 v3 v5 v6 (0 : Int32) (0 : Int32) (0 : Int32) (-9 : Int32) σ)
def fX6_lots_26   (v1 : Int32) (v2 : Int32) (v3 : Int32) (v4 : Int32) (σ : Mm) : Option (Int32 × Mm) :=
  (if v4 = 0 then fX6_lots_49 1000 v1 v3 (0 : Int32) (0 : Int32) (pI σ 0 28 v2)
  else (fX6_refuse v4 σ).bind (fun q_11 => some (q_11.1, q_11.2)))
def fX6_lots (a0 : Int32) (a1 : Int32) (a2 : Int32) (σ : Mm) : Option (Int32 × Mm) :=
  (fX6_within a0 (1 : Int32) (40 : Int32)).bind (fun q_1 => (if q_1 = 0 then (fX6_isIn a2 (2 : Int32)).bind (fun q_3 => (if q_3 = 0 then fX6_lots_26 a0 a1 a2 (-2 : Int32) σ
  else fX6_lots_26 a0 a1 a2 q_1 σ))
  else fX6_lots_26 a0 a1 a2 q_1 σ))
def fX6_image  (σ : Mm) : Option (Int32 × Mm) :=
  (fX6_lays 2 3 σ).bind (fun q_1 => (if ci (5 : Int32) 22 = true then some ((gI (pI q_1 0 4 (1 : Int32)) 2 (5 : Int32).toNatClampNeg), (pI q_1 0 4 (1 : Int32))) else none))
def fX6_on  (σ : Mm) : Option (Int32 × Mm) :=
  (if (gI σ 0 4) = 0 then (fX6_refuse (-3 : Int32) σ).bind (fun q_4 => some (q_4.1, q_4.2))
  else (fX6_lays 3 2 σ).bind (fun q_2 => (if ci (5 : Int32) 22 = true then some ((gI q_2 2 (5 : Int32).toNatClampNeg), q_2) else none)))
def fX6_count_22 (σ : Mm)  (v1 : Int32) : Option Int32 :=
  (fX6_isIn v1 (6 : Int32)).bind (fun q_1 => (if q_1 = 0 then (if v1 = (6 : Int32) then some (gI σ 0 26)
  else (if v1 = (7 : Int32) then some (gI σ 0 7)
  else some (-9 : Int32)))
  else (if ci v1 22 = true then some (gI σ 2 v1.toNatClampNeg) else none)))
def fX6_count (a0 : Int32) (σ : Mm) : Option Int32 :=
  (if a0 ≤ (10 : Int32) then fX6_count_22 σ a0
  else (if (17 : Int32) ≤ a0 then fX6_count_22 σ a0
  else (if ci (a0 - (10 : Int32)) 7 = true then some (gI σ 1 (a0 - (10 : Int32)).toNatClampNeg) else none)))
