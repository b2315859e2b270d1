/-! Words of whole's code that this claim's doesn't have: definitions alone, on which some of the pure rows lean -/
def f_X2_placeBehindFirst (p0 : Int32) : Option (Int32) :=
  oR (f_X5_isFrom p0 48 51) (fun r5 => if r5 = 0 then (if p0 = 114 then (some 6) else (if p0 = 102 then (some 6) else (if p0 = 112 then (some 7) else (some (-1))))) else (some 1))
def f_X2_placeBehind (p0 : Int32) (p1 : Int32) : Option (Int32) :=
  if p0 = 0 then (oR (f_X2_placeBehindFirst p1) (fun r49 => some r49)) else (if p0 = 1 then (if p1 = 62 then (some 2) else (some (-1))) else (if p0 = 2 then (oR (f_X5_isFrom p1 48 55) (fun r70 => if r70 = 0 then (some (-1)) else (some 3))) else (if p0 = 3 then (if p1 = 61 then (some 4) else (some (-1))) else (if p0 = 4 then (if p1 = 48 then (some 8) else (oR (f_X5_isFrom p1 49 57) (fun r108 => if r108 = 0 then (some (-1)) else (some 5)))) else (if p0 = 5 then (oR (f_X5_isFrom p1 48 57) (fun r125 => if r125 = 0 then (if p1 = 59 then (some 0) else (some (-1))) else (some 8))) else (if p0 = 6 then (oR (f_X5_isFrom p1 48 55) (fun r151 => if r151 = 0 then (some (-1)) else (some 8))) else (if p0 = 7 then (oR (f_X5_isFrom p1 49 57) (fun r169 => if r169 = 0 then (some (-1)) else (some 8))) else (if p1 = 59 then (some 0) else (some (-1))))))))))
def f_X2_fault_L4 (σ : CS) (kX4 : Int32 → Option (Int32)) : Nat → Int32 → Int32 → Option (Int32)
  | 0, _, _ => none
  | n + 1, v1_4, v2_4 =>
    if (σ.2.2 3) ≤ v2_4 then (kX4 v1_4) else (oA 60 (σ.2.1) v2_4 (fun x18 => oR (f_X2_placeBehind v1_4 x18) (fun r19 => if r19 = (-1) then (some v2_4) else (f_X2_fault_L4 σ kX4 n r19 (v2_4 + 1)))))
def f_X2_fault (σ : CS)  : Option (Int32) :=
  f_X2_fault_L4 σ (fun w1_36 => if w1_36 = 8 then (some (-1)) else (if w1_36 = 5 then (some (-1)) else (some (σ.2.2 3)))) FU 0 0
def f_X2_sign (σ : CS) (p1 : Int32) : Option (Int32) :=
  if p1 < 0 then (oC 59) else (if (σ.2.2 3) ≤ p1 then (oC 59) else (oA 60 (σ.2.1) p1 (fun x17 => oC x17)))
def f_X2_digit (σ : CS) (p1 : Int32) : Option (Int32) :=
  oR (f_X2_sign σ p1) (fun r2 => some (r2 - 48))
def f_X2_valueFrom (σ : CS) (p1 : Int32) : Option (Int32) :=
  oR (f_X2_digit σ p1) (fun r2 => oR (f_X2_sign σ (p1 + 1)) (fun r10 => if r10 = 59 then (some r2) else (oR (f_X2_digit σ (p1 + 1)) (fun r30 => some ((r2 * 10) + r30)))))
def f_X2_behindOrder_L2 (σ : CS) (kX2 : Int32 → Option (Int32)) : Nat → Int32 → Option (Int32)
  | 0, _ => none
  | n + 1, v2_2 =>
    if (σ.2.2 3) ≤ v2_2 then (kX2 v2_2) else (oA 60 (σ.2.1) v2_2 (fun x15 => if x15 = 59 then (kX2 v2_2) else (f_X2_behindOrder_L2 σ kX2 n (v2_2 + 1))))
def f_X2_behindOrder (σ : CS) (p1 : Int32) : Option (Int32) :=
  f_X2_behindOrder_L2 σ (fun w2_27 => some w2_27) FU p1
def f_X2_add (σ : CS) (p1 : Int32) : Option (Int32 × CS) :=
  if (σ.2.2 3) < 60 then (oS 60 (σ.2.1) (σ.2.2 3) (vp_nar .char p1) (cT σ) (fun s21 => oN ((s21.2.2 3) + 1) (cN s21 3) (fun s29 => some ((s29.2.2 3), s29)))) else (some ((-3), σ))
def f_X2_empty (σ : CS)  : Option (Int32 × CS) :=
  oN 0 (cN σ 3) (fun s7 => some ((σ.2.2 3), s7))
def f_X6_of (p0 : Int32) (p1 : Int32) : Option (Int32) :=
  some ((10 + (22 * p0)) + p1)
def f_X6_sweep_L2 (p1 : Int32) (kX2 : MS → Option (MS)) : Nat → Int32 → MS → Option (MS)
  | 0, _, _ => none
  | n + 1, v2_2, s2 =>
    if 16 ≤ v2_2 then (kX2 s2) else (oR (f_X6_of p1 (6 + v2_2)) (fun r17 => oS 2204 (s2.1 1) r17 (-5) (sA s2 1) (fun s22 => f_X6_sweep_L2 p1 kX2 n (v2_2 + 1) s22)))
def f_X6_sweep (σ : MS) (p1 : Int32) : Option (MS) :=
  f_X6_sweep_L2 p1 (fun sx29 => some sx29) FU 0 σ
def f_X6_ofWriter (p0 : Int32) (p1 : Int32) : Option (Int32) :=
  some ((186 + (2 * p0)) + p1)
def f_X6_in (p0 : Int32) (p1 : Int32) (p2 : Int32) : Option (Int32) :=
  if p0 < p1 then (oB 0) else (if p2 < p0 then (oB 0) else (oB 1))
def f_X6_isZone (p0 : Int32) : Option (Int32) :=
  oR (f_X6_in p0 0 7) (fun r4 => oB r4)
def f_X6_isWriter (p0 : Int32) : Option (Int32) :=
  oR (f_X6_in p0 0 3) (fun r3 => oB r3)
def f_X6_isAppend (σ : MS) (p1 : Int32) : Option (Int32) :=
  oA 2204 (σ.1 1) 5 (fun x7 => oR (f_X6_in p1 0 (x7 - 1)) (fun r10 => oB r10))
def f_X6_ofAppend (p0 : Int32) (p1 : Int32) : Option (Int32) :=
  some ((194 + (9 * p0)) + p1)
def f_X6_know_L51  (kX51 : MS → Option (MS)) : Nat → Int32 → MS → Option (MS)
  | 0, _, _ => none
  | n + 1, v1_51, s51 =>
    if 2204 ≤ v1_51 then (kX51 s51) else (oA 2204 (s51.1 1) v1_51 (fun x77 => oS 8816 (s51.1 3) ((2204 * (s51.2 0)) + v1_51) x77 (sA s51 3) (fun s78 => f_X6_know_L51 kX51 n (v1_51 + 1) s78)))
def f_X6_know_L10  (kX10 : MS → Option (MS)) : Nat → Int32 → MS → Option (MS)
  | 0, _, _ => none
  | n + 1, v1_10, s10 =>
    if 6612 ≤ v1_10 then (kX10 s10) else (oA 8816 (s10.1 3) (2204 + v1_10) (fun x31 => oS 8816 (s10.1 3) v1_10 x31 (sA s10 3) (fun s32 => f_X6_know_L10 kX10 n (v1_10 + 1) s32)))
def f_X6_know (σ : MS)  : Option (MS) :=
  oJ (κ := MS → Option (MS)) (fun s_49 => f_X6_know_L51 (fun sx85 => oN ((sx85.2 0) + 1) (sN sx85 0) (fun s92 => some s92)) FU 0 s_49) (fun k49 => if (σ.2 0) = 4 then (f_X6_know_L10 (fun sx39 => oN ((sx39.2 0) - 1) (sN sx39 0) (fun s46 => k49 s46)) FU 0 σ) else (k49 σ))
def f_X6_putAside_L2  (kX2 : MS → Option (MS)) : Nat → Int32 → MS → Option (MS)
  | 0, _, _ => none
  | n + 1, v1_2, s2 =>
    if 2204 ≤ v1_2 then (kX2 s2) else (oA 2204 (s2.1 1) v1_2 (fun x19 => oS 2204 (s2.1 2) v1_2 x19 (sA s2 2) (fun s20 => f_X6_putAside_L2 kX2 n (v1_2 + 1) s20)))
def f_X6_putAside (σ : MS)  : Option (MS) :=
  f_X6_putAside_L2 (fun sx27 => some sx27) FU 0 σ
def f_X6_putBack_L2  (kX2 : MS → Option (MS)) : Nat → Int32 → MS → Option (MS)
  | 0, _, _ => none
  | n + 1, v1_2, s2 =>
    if 2204 ≤ v1_2 then (kX2 s2) else (oA 2204 (s2.1 2) v1_2 (fun x19 => oS 2204 (s2.1 1) v1_2 x19 (sA s2 1) (fun s20 => f_X6_putBack_L2 kX2 n (v1_2 + 1) s20)))
def f_X6_putBack (σ : MS)  : Option (MS) :=
  f_X6_putBack_L2 (fun sx27 => some sx27) FU 0 σ
def f_X6_change (σ : MS) (p1 : Int32) (p2 : Int32) : Option (Int32 × MS) :=
  oA 2204 (σ.1 1) p1 (fun x5 => if x5 = p2 then (some ((-5), σ)) else (oV (f_X6_know σ) (fun t => t) (fun s16 => oS 2204 (s16.1 1) p1 p2 (sA s16 1) (fun s25 => some (x5, s25)))))
def f_X6_zones_L4 (σ : MS) (p1 : Int32) (kX4 : Int32 → Option (Int32)) : Nat → Int32 → Int32 → Option (Int32)
  | 0, _, _ => none
  | n + 1, v2_4, v3_4 =>
    if 8 ≤ v3_4 then (kX4 v2_4) else (oR (f_X6_of v3_4 0) (fun r17 => oA 2204 (σ.1 1) r17 (fun x20 => oJ (κ := Int32 → Option (Int32)) (fun t0_48 => f_X6_zones_L4 σ p1 kX4 n (v2_4 + t0_48) (v3_4 + 1)) (fun k48 => oJ (κ := Option (Int32)) (k48 1) (fun k43 => if x20 = 1 then k43 else (oJ (κ := Option (Int32)) (k48 0) (fun k47 => if p1 = 0 then k47 else (oR (f_X6_of v3_4 0) (fun r35 => oA 2204 (σ.1 1) r35 (fun x38 => if x38 = 2 then k43 else k47))))))))))
def f_X6_zones (σ : MS) (p1 : Int32) : Option (Int32) :=
  f_X6_zones_L4 σ p1 (fun w2_56 => some w2_56) FU 0 0
def f_X6_appends_L5 (σ : MS) (p1 : Int32) (p2 : Int32) (kX5 : Int32 → Option (Int32)) : Nat → Int32 → Int32 → Option (Int32)
  | 0, _, _ => none
  | n + 1, v3_5, v4_5 =>
    oA 2204 (σ.1 1) 5 (fun x12 => if x12 ≤ v4_5 then (kX5 v3_5) else (oR (f_X6_ofAppend v4_5 3) (fun r24 => oA 2204 (σ.1 1) r24 (fun x27 => oJ (κ := Int32 → Option (Int32)) (fun t0_56 => f_X6_appends_L5 σ p1 p2 kX5 n (v3_5 + t0_56) (v4_5 + 1)) (fun k56 => oJ (κ := Option (Int32)) (k56 0) (fun k55 => if x27 = p1 then (oJ (κ := Option (Int32)) (k56 1) (fun k51 => if p2 < 0 then k51 else (oR (f_X6_ofAppend v4_5 1) (fun r43 => oA 2204 (σ.1 1) r43 (fun x46 => if x46 = p2 then k51 else k55))))) else k55))))))
def f_X6_appends (σ : MS) (p1 : Int32) (p2 : Int32) : Option (Int32) :=
  f_X6_appends_L5 σ p1 p2 (fun w3_64 => some w3_64) FU 0 0
def f_X6_appendsOf_L5 (σ : MS) (p1 : Int32) (p2 : Int32) (kX5 : Int32 → Option (Int32)) : Nat → Int32 → Int32 → Option (Int32)
  | 0, _, _ => none
  | n + 1, v3_5, v4_5 =>
    oA 2204 (σ.1 1) 5 (fun x12 => if x12 ≤ v4_5 then (kX5 v3_5) else (oR (f_X6_ofAppend v4_5 3) (fun r24 => oA 2204 (σ.1 1) r24 (fun x27 => oJ (κ := Int32 → Option (Int32)) (fun t0_52 => f_X6_appendsOf_L5 σ p1 p2 kX5 n (v3_5 + t0_52) (v4_5 + 1)) (fun k52 => oJ (κ := Option (Int32)) (k52 0) (fun k51 => if x27 = p1 then (oR (f_X6_ofAppend v4_5 0) (fun r39 => oA 2204 (σ.1 1) r39 (fun x42 => if x42 = p2 then (k52 1) else k51))) else k51))))))
def f_X6_appendsOf (σ : MS) (p1 : Int32) (p2 : Int32) : Option (Int32) :=
  f_X6_appendsOf_L5 σ p1 p2 (fun w3_60 => some w3_60) FU 0 0
def f_X6_set (σ : MS) (p1 : Int32) (p2 : Int32) : Option (Int32 × MS) :=
  oR (f_X6_in p1 0 3) (fun r3 => if r3 = 0 then (some ((-2), σ)) else (oJ (κ := Int32 → Option (Int32 × MS)) (fun t0_20 => oJ (κ := Int32 → Option (Int32 × MS)) (fun t0_40 => oR (f_X6_in p2 t0_20 t0_40) (fun r40 => if r40 = 0 then (some ((-2), σ)) else (oJ (κ := Option (Int32 × MS)) (oW (f_X6_change σ (1 + p1) p2) (fun t => t) (fun r80 s80 => some (r80, s80))) (fun k75 => if 2 ≤ p1 then k75 else (oJ (κ := Int32 → Option (Int32 × MS)) (fun t0_65 => oR (f_X6_zones σ t0_65) (fun r65 => if r65 ≤ p2 then k75 else (some ((-4), σ)))) (fun k65 => if p1 = 1 then (k65 1) else (k65 0))))))) (fun k40 => if 2 ≤ p1 then (if p1 = 2 then (k40 4) else (k40 1)) else (k40 8))) (fun k20 => if p1 = 3 then (k20 0) else (k20 1))))
def f_X6_setZone (σ : MS) (p1 : Int32) (p2 : Int32) (p3 : Int32) : Option (Int32 × MS) :=
  oR (f_X6_isZone p1) (fun r1 => if r1 = 0 then (some ((-1), σ)) else (oJ (κ := Int32 → Option (Int32 × MS)) (fun t0_22 => oR (f_X6_in p3 1 t0_22) (fun r22 => if r22 = 0 then (some ((-2), σ)) else (oJ (κ := Option (Int32 × MS)) (oJ (κ := Int32 → Option (Int32 × MS)) (fun t0_62 => oR (f_X6_of p1 t0_62) (fun r62 => oW (f_X6_change σ r62 p3) (fun t => t) (fun r66 s66 => some (r66, s66)))) (fun k62 => if p2 = 0 then (k62 1) else (k62 2))) (fun k51 => if p2 = 0 then (oR (f_X6_of p1 0) (fun r41 => oA 2204 (σ.1 1) r41 (fun x44 => if x44 = 0 then k51 else (some ((-4), σ))))) else k51)))) (fun k22 => if p2 = 0 then (k22 16) else (k22 9))))
def f_X6_setWindow (σ : MS) (p1 : Int32) (p2 : Int32) : Option (Int32 × MS) :=
  oR (f_X6_isWriter p1) (fun r1 => if r1 = 0 then (some ((-1), σ)) else (oR (f_X6_in p2 1 8) (fun r13 => if r13 = 0 then (some ((-2), σ)) else (oR (f_X6_ofWriter p1 0) (fun r22 => oW (f_X6_change σ r22 p2) (fun t => t) (fun r26 s26 => some (r26, s26)))))))
def f_X6_send (σ : MS) (p1 : Int32) (p2 : Int32) (p3 : Int32) : Option (Int32 × MS) :=
  oA 2204 (σ.1 1) 5 (fun x5 => oR (f_X6_ofAppend x5 0) (fun r15 => oS 2204 (σ.1 1) r15 p1 (sA σ 1) (fun s19 => oR (f_X6_ofAppend x5 1) (fun r27 => oS 2204 (s19.1 1) r27 p2 (sA s19 1) (fun s31 => oR (f_X6_ofAppend x5 2) (fun r39 => oS 2204 (s31.1 1) r39 p3 (sA s31 1) (fun s43 => oR (f_X6_ofAppend x5 3) (fun r51 => oS 2204 (s43.1 1) r51 0 (sA s43 1) (fun s55 => oR (f_X6_ofAppend x5 4) (fun r63 => oS 2204 (s55.1 1) r63 (-5) (sA s55 1) (fun s68 => oR (f_X6_ofAppend x5 5) (fun r76 => oS 2204 (s68.1 1) r76 (-5) (sA s68 1) (fun s81 => oR (f_X6_ofAppend x5 6) (fun r90 => oS 2204 (s81.1 1) r90 (-5) (sA s81 1) (fun s95 => oR (f_X6_ofAppend x5 7) (fun r104 => oS 2204 (s95.1 1) r104 (-5) (sA s95 1) (fun s109 => oR (f_X6_ofAppend x5 8) (fun r118 => oS 2204 (s109.1 1) r118 0 (sA s109 1) (fun s122 => oA 2204 (s122.1 1) 5 (fun x129 => oS 2204 (s122.1 1) 5 (x129 + 1) (sA s122 1) (fun s132 => some (x5, s132))))))))))))))))))))))
def f_X6_isRoom (σ : MS) (p1 : Int32) : Option (Int32) :=
  oA 2204 (σ.1 1) 5 (fun x5 => if 200 ≤ x5 then (oB 0) else (oR (f_X6_appendsOf σ 0 p1) (fun r15 => oR (f_X6_appendsOf σ 1 p1) (fun r21 => oR (f_X6_ofWriter p1 0) (fun r31 => oA 2204 (σ.1 1) r31 (fun x34 => if x34 ≤ (r15 + r21) then (oB 0) else (oB 1)))))))
def f_X6_append (σ : MS) (p1 : Int32) (p2 : Int32) (p3 : Int32) : Option (Int32 × MS) :=
  oR (f_X6_isWriter p1) (fun r1 => if r1 = 0 then (some ((-1), σ)) else (oR (f_X6_isZone p2) (fun r8 => if r8 = 0 then (some ((-1), σ)) else (oR (f_X6_in p3 0 99) (fun r20 => if r20 = 0 then (some ((-2), σ)) else (oR (f_X6_isRoom σ p1) (fun r31 => if r31 = 0 then (some ((-3), σ)) else (oV (f_X6_know σ) (fun t => t) (fun s41 => oW (f_X6_send s41 p1 p2 p3) (fun t => t) (fun r48 s48 => some (r48, s48)))))))))))
def f_X6_fail (σ : MS) (p1 : Int32) (p2 : Int32) : Option (MS) :=
  oR (f_X6_ofAppend p1 3) (fun r6 => oS 2204 (σ.1 1) r6 3 (sA σ 1) (fun s10 => oR (f_X6_ofAppend p1 6) (fun r18 => oS 2204 (s10.1 1) r18 p2 (sA s10 1) (fun s22 => oR (f_X6_ofAppend p1 4) (fun r29 => oS 2204 (s22.1 1) r29 (-5) (sA s22 1) (fun s34 => some s34))))))
def f_X6_failAll_L6 (p1 : Int32) (p2 : Int32) (p3 : Int32) (kX6 : Int32 → MS → Option (Int32 × MS)) : Nat → Int32 → Int32 → MS → Option (Int32 × MS)
  | 0, _, _, _ => none
  | n + 1, v4_6, v5_6, s6 =>
    oA 2204 (s6.1 1) 5 (fun x13 => if x13 ≤ v5_6 then (kX6 v4_6 s6) else (oR (f_X6_ofAppend v5_6 1) (fun r24 => oA 2204 (s6.1 1) r24 (fun x27 => oJ (κ := Int32 → MS → Option (Int32 × MS)) (fun u4_57 s_57 => f_X6_failAll_L6 p1 p2 p3 kX6 n u4_57 (v5_6 + 1) s_57) (fun k57 => if x27 = p1 then (oR (f_X6_ofAppend v5_6 3) (fun r39 => oA 2204 (s6.1 1) r39 (fun x42 => if x42 = p2 then (oV (f_X6_fail s6 v5_6 p3) (fun t => t) (fun s51 => k57 (v4_6 + 1) s51)) else (k57 v4_6 s6)))) else (k57 v4_6 s6))))))
def f_X6_failAll (σ : MS) (p1 : Int32) (p2 : Int32) (p3 : Int32) : Option (Int32 × MS) :=
  f_X6_failAll_L6 p1 p2 p3 (fun w4_63 sx63 => some (w4_63, sx63)) FU 0 0 σ
def f_X6_readable_L4 (σ : MS) (p1 : Int32) (kX4 : Int32 → Option (Int32)) : Nat → Int32 → Int32 → Option (Int32)
  | 0, _, _ => none
  | n + 1, v2_4, v3_4 =>
    if 16 ≤ v3_4 then (kX4 v2_4) else (oR (f_X6_of p1 (6 + v3_4)) (fun r20 => oA 2204 (σ.1 1) r20 (fun x23 => oJ (κ := Int32 → Option (Int32)) (fun t0_34 => f_X6_readable_L4 σ p1 kX4 n (v2_4 + t0_34) (v3_4 + 1)) (fun k34 => if x23 = (-5) then (k34 0) else (k34 1)))))
def f_X6_readable (σ : MS) (p1 : Int32) : Option (Int32) :=
  f_X6_readable_L4 σ p1 (fun w2_42 => some w2_42) FU 0 0
def f_X6_resets (σ : MS) (p1 : Int32) : Option (Int32 × MS) :=
  oR (f_X6_readable σ p1) (fun r2 => oW (f_X6_failAll σ p1 1 2) (fun t => t) (fun r10 s10 => oV (f_X6_sweep s10 p1) (fun t => t) (fun s16 => oR (f_X6_of p1 0) (fun r25 => oS 2204 (s16.1 1) r25 0 (sA s16 1) (fun s29 => oR (f_X6_of p1 3) (fun r36 => oS 2204 (s29.1 1) r36 0 (sA s29 1) (fun s40 => oR (f_X6_of p1 4) (fun r47 => oA 2204 (s40.1 1) r47 (fun x51 => oS 2204 (s40.1 1) r47 (x51 + 1) (sA s40 1) (fun s54 => some (r2, s54)))))))))))
def f_X6_reset (σ : MS) (p1 : Int32) : Option (Int32 × MS) :=
  oR (f_X6_isZone p1) (fun r1 => if r1 = 0 then (some ((-1), σ)) else (oR (f_X6_of p1 0) (fun r15 => oA 2204 (σ.1 1) r15 (fun x18 => if x18 = 0 then (some ((-5), σ)) else (oV (f_X6_know σ) (fun t => t) (fun s26 => oW (f_X6_resets s26 p1) (fun t => t) (fun r31 s31 => some (r31, s31))))))))
def f_X6_finishes (σ : MS) (p1 : Int32) : Option (Int32 × MS) :=
  oR (f_X6_of p1 0) (fun r6 => oS 2204 (σ.1 1) r6 3 (sA σ 1) (fun s10 => oW (f_X6_failAll s10 p1 0 3) (fun t => t) (fun r15 s15 => some (r15, s15))))
def f_X6_finishFault (σ : MS) (p1 : Int32) : Option (Int32) :=
  oR (f_X6_of p1 0) (fun r6 => oA 2204 (σ.1 1) r6 (fun x9 => if x9 = 0 then (some (-4)) else (oR (f_X6_of p1 0) (fun r24 => oA 2204 (σ.1 1) r24 (fun x27 => if x27 = 3 then (some (-5)) else (some 0))))))
def f_X6_finish (σ : MS) (p1 : Int32) : Option (Int32 × MS) :=
  oR (f_X6_isZone p1) (fun r1 => if r1 = 0 then (some ((-1), σ)) else (oR (f_X6_finishFault σ p1) (fun r11 => if 0 ≤ r11 then (oV (f_X6_know σ) (fun t => t) (fun s22 => oW (f_X6_finishes s22 p1) (fun t => t) (fun r27 s27 => some (r27, s27)))) else (some (r11, σ)))))
def f_X6_close (σ : MS) (p1 : Int32) : Option (Int32 × MS) :=
  oR (f_X6_isZone p1) (fun r1 => if r1 = 0 then (some ((-1), σ)) else (oR (f_X6_of p1 0) (fun r15 => oA 2204 (σ.1 1) r15 (fun x18 => if x18 = 1 then (oR (f_X6_appends σ 1 p1) (fun r26 => if r26 ≤ 0 then (oV (f_X6_know σ) (fun t => t) (fun s36 => oR (f_X6_of p1 0) (fun r45 => oS 2204 (s36.1 1) r45 2 (sA s36 1) (fun s49 => oR (f_X6_zones s49 0) (fun r52 => some (r52, s49)))))) else (some ((-4), σ)))) else (some ((-4), σ))))))
def f_X6_tell_L28 (σ : MS) (p1 : Int32) (x20 : Int32) (kX28 : Int32 → Option (MS)) : Nat → Int32 → Int32 → Option (MS)
  | 0, _, _ => none
  | n + 1, v4_28, v5_28 =>
    if p1 ≤ v5_28 then (kX28 v4_28) else (oJ (κ := Int32 → Option (MS)) (fun t0_74 => f_X6_tell_L28 σ p1 x20 kX28 n t0_74 (v5_28 + 1)) (fun k74 => oJ (κ := Option (MS)) (k74 1) (fun k69 => if v4_28 = 0 then (oR (f_X6_ofAppend v5_28 0) (fun r46 => oA 2204 (σ.1 1) r46 (fun x49 => oJ (κ := Option (MS)) (k74 0) (fun k73 => if x49 = x20 then (oR (f_X6_ofAppend v5_28 3) (fun r61 => oA 2204 (σ.1 1) r61 (fun x64 => if 2 ≤ x64 then k73 else k69))) else k73)))) else k69)))
def f_X6_tell (σ : MS) (p1 : Int32) : Option (MS) :=
  oR (f_X6_ofAppend p1 1) (fun r6 => oA 2204 (σ.1 1) r6 (fun x9 => oR (f_X6_ofAppend p1 0) (fun r17 => oA 2204 (σ.1 1) r17 (fun x20 => f_X6_tell_L28 σ p1 x20 (fun w4_82 => oR (f_X6_ofWriter x20 1) (fun r88 => oA 2204 (σ.1 1) r88 (fun x92 => oJ (κ := Int32 → Option (MS)) (fun t0_103 => oS 2204 (σ.1 1) r88 (x92 + t0_103) (sA σ 1) (fun s104 => oR (f_X6_ofAppend p1 3) (fun r111 => oS 2204 (s104.1 1) r111 2 (sA s104 1) (fun s115 => oR (f_X6_ofAppend p1 5) (fun r122 => oA 2204 (s115.1 1) 0 (fun x130 => oS 2204 (s115.1 1) r122 x130 (sA s115 1) (fun s131 => oR (f_X6_ofAppend p1 7) (fun r139 => oR (f_X6_of x9 4) (fun r148 => oA 2204 (s131.1 1) r148 (fun x151 => oS 2204 (s131.1 1) r139 x151 (sA s131 1) (fun s152 => oR (f_X6_ofAppend p1 4) (fun r166 => oA 2204 (s152.1 1) r166 (fun x169 => oR (f_X6_of x9 (6 + x169)) (fun r171 => oS 2204 (s152.1 1) r171 p1 (sA s152 1) (fun s175 => oA 2204 (s175.1 1) 9 (fun x189 => oS 2204 (s175.1 1) (2003 + x189) p1 (sA s175 1) (fun s192 => oA 2204 (s192.1 1) 9 (fun x200 => oS 2204 (s192.1 1) 9 (x200 + 1) (sA s192 1) (fun s203 => some s203))))))))))))))))))) (fun k103 => if w4_82 = 0 then (k103 0) else (k103 1))))) FU 0 0))))
def f_X6_idlest_L5 (σ : MS) (kX5 : Int32 → Option (Int32)) : Nat → Int32 → Int32 → Option (Int32)
  | 0, _, _ => none
  | n + 1, v1_5, v2_5 =>
    if 8 ≤ v2_5 then (kX5 v1_5) else (oR (f_X6_of v2_5 0) (fun r17 => oA 2204 (σ.1 1) r17 (fun x20 => oJ (κ := Int32 → Option (Int32)) (fun t0_39 => oJ (κ := Int32 → Option (Int32)) (fun t0_78 => f_X6_idlest_L5 σ kX5 n t0_78 (v2_5 + 1)) (fun k78 => oJ (κ := Option (Int32)) (k78 v1_5) (fun k77 => if t0_39 = 0 then k77 else (oJ (κ := Option (Int32)) (k78 v2_5) (fun k73 => if v1_5 = (-5) then k73 else (oR (f_X6_of v2_5 5) (fun r56 => oA 2204 (σ.1 1) r56 (fun x59 => oR (f_X6_of v1_5 5) (fun r66 => oA 2204 (σ.1 1) r66 (fun x69 => if x69 ≤ x59 then k77 else k73)))))))))) (fun k39 => oJ (κ := Option (Int32)) (k39 0) (fun k38 => if x20 = 1 then (oR (f_X6_appends σ 1 v2_5) (fun r28 => if r28 = 0 then (k39 1) else k38)) else k38)))))
def f_X6_idlest (σ : MS)  : Option (Int32) :=
  f_X6_idlest_L5 σ (fun w1_85 => some w1_85) FU (-5) 0
def f_X6_opens (σ : MS) (p1 : Int32) : Option (Int32 × MS) :=
  oR (f_X6_of p1 0) (fun r6 => oA 2204 (σ.1 1) r6 (fun x9 => if x9 = 1 then ((oB 1).map (fun x => (x, σ))) else (oJ (κ := Option (Int32 × MS)) (oR (f_X6_zones σ 0) (fun r40 => oA 2204 (σ.1 1) 1 (fun x48 => oJ (κ := MS → Option (Int32 × MS)) (fun s_87 => oR (f_X6_of p1 0) (fun r93 => oS 2204 (s_87.1 1) r93 1 (sA s_87 1) (fun s97 => (oB 1).map (fun x => (x, s97))))) (fun k87 => if r40 < x48 then (k87 σ) else (oR (f_X6_idlest σ) (fun r53 => if r53 = (-5) then ((oB 0).map (fun x => (x, σ))) else (oR (f_X6_of r53 0) (fun r71 => oS 2204 (σ.1 1) r71 2 (sA σ 1) (fun s75 => oA 2204 (s75.1 1) 7 (fun x83 => oS 2204 (s75.1 1) 7 (x83 + 1) (sA s75 1) (fun s86 => k87 s86))))))))))) (fun k38 => if x9 = 0 then (oR (f_X6_zones σ 1) (fun r24 => oA 2204 (σ.1 1) 2 (fun x32 => if r24 < x32 then k38 else ((oB 0).map (fun x => (x, σ)))))) else k38))))
def f_X6_lookAt (σ : MS) (p1 : Int32) : Option (Int32 × MS) :=
  oR (f_X6_ofAppend p1 1) (fun r6 => oA 2204 (σ.1 1) r6 (fun x9 => oR (f_X6_of x9 0) (fun r17 => oA 2204 (σ.1 1) r17 (fun x20 => if x20 = 3 then (oV (f_X6_fail σ p1 1) (fun t => t) (fun s28 => some ((-1), s28))) else (oR (f_X6_appends σ 1 (-1)) (fun r36 => oA 2204 (σ.1 1) 3 (fun x44 => if x44 ≤ r36 then (some (0, σ)) else (oW (f_X6_opens σ x9) (fun t => t) (fun r50 s50 => if r50 = 0 then (some (0, s50)) else (oR (f_X6_of x9 3) (fun r64 => oA 2204 (s50.1 1) r64 (fun x67 => oR (f_X6_ofAppend p1 3) (fun r75 => oS 2204 (s50.1 1) r75 1 (sA s50 1) (fun s79 => oR (f_X6_ofAppend p1 4) (fun r86 => oS 2204 (s79.1 1) r86 x67 (sA s79 1) (fun s90 => oR (f_X6_ofAppend p1 8) (fun r98 => oA 2204 (s90.1 1) 0 (fun x106 => oR (f_X6_of x9 2) (fun r113 => oA 2204 (s90.1 1) r113 (fun x116 => oS 2204 (s90.1 1) r98 ((x106 + x116) + (x67 - x67 / 2 * 2)) (sA s90 1) (fun s122 => oR (f_X6_of x9 3) (fun r129 => oA 2204 (s122.1 1) r129 (fun x133 => oS 2204 (s122.1 1) r129 (x133 + 1) (sA s122 1) (fun s136 => oR (f_X6_of x9 5) (fun r143 => oA 2204 (s136.1 1) 8 (fun x152 => oS 2204 (s136.1 1) r143 x152 (sA s136 1) (fun s153 => oA 2204 (s153.1 1) 8 (fun x161 => oS 2204 (s153.1 1) 8 (x161 + 1) (sA s153 1) (fun s164 => oR (f_X6_of x9 0) (fun r171 => oR (f_X6_of x9 3) (fun r180 => oA 2204 (s164.1 1) r180 (fun x183 => oR (f_X6_of x9 1) (fun r190 => oA 2204 (s164.1 1) r190 (fun x193 => oJ (κ := Int32 → Option (Int32 × MS)) (fun t0_202 => oS 2204 (s164.1 1) r171 t0_202 (sA s164 1) (fun s202 => some (1, s202))) (fun k202 => if x183 = x193 then (k202 3) else (k202 1))))))))))))))))))))))))))))))))))))
def f_X6_lookAtAll_L2 (p1 : Int32) (kX2 : MS → Option (MS)) : Nat → Int32 → MS → Option (MS)
  | 0, _, _ => none
  | n + 1, v2_2, s2 =>
    oA 2204 (s2.1 1) 5 (fun x8 => if x8 ≤ v2_2 then (kX2 s2) else (oA 201 (s2.1 6) v2_2 (fun x17 => oJ (κ := MS → Option (MS)) (fun s_100 => f_X6_lookAtAll_L2 p1 kX2 n (v2_2 + 1) s_100) (fun k100 => if x17 = 0 then (k100 s2) else (oJ (κ := Option (MS)) (oW (f_X6_lookAt s2 v2_2) (fun t => t) (fun r41 s41 => oJ (κ := Int32 → Option (MS)) (fun t0_62 => oZ t0_62 (sN s41 3) (fun s62 => oJ (κ := Int32 → Option (MS)) (fun t0_97 => oN t0_97 (sN s62 4) (fun s97 => k100 s97)) (fun k97 => oJ (κ := Option (MS)) (k97 (s62.2 4)) (fun k93 => if r41 = 1 then (if (s62.2 4) = (-5) then (oR (f_X6_ofAppend v2_2 1) (fun r86 => oA 2204 (s62.1 1) r86 (fun x89 => k97 x89))) else k93) else k93)))) (fun k62 => oJ (κ := Option (MS)) (k62 1) (fun k57 => if (s41.2 3) = 0 then (if r41 = 0 then (k62 0) else k57) else k57)))) (fun k39 => if p1 < 0 then k39 else (oR (f_X6_ofAppend v2_2 1) (fun r31 => oA 2204 (s2.1 1) r31 (fun x34 => if x34 = p1 then k39 else (k100 s2))))))))))
def f_X6_lookAtAll (σ : MS) (p1 : Int32) : Option (MS) :=
  f_X6_lookAtAll_L2 p1 (fun sx106 => some sx106) FU 0 σ
def f_X6_tick_L158 (x154 : Int32) (kX158 : MS → Option (Int32 × MS)) : Nat → Int32 → MS → Option (Int32 × MS)
  | 0, _, _ => none
  | n + 1, v3_158, s158 =>
    if 8 ≤ v3_158 then (kX158 s158) else (oV (f_X6_lookAtAll s158 ((x154 + v3_158) - (x154 + v3_158) / 8 * 8)) (fun t => t) (fun s171 => f_X6_tick_L158 x154 kX158 n (v3_158 + 1) s171))
def f_X6_tick_L85  (kX85 : MS → Option (Int32 × MS)) : Nat → Int32 → MS → Option (Int32 × MS)
  | 0, _, _ => none
  | n + 1, v2_85, s85 =>
    oA 2204 (s85.1 1) 5 (fun x91 => if x91 ≤ v2_85 then (kX85 s85) else (oR (f_X6_ofAppend v2_85 3) (fun r106 => oA 2204 (s85.1 1) r106 (fun x109 => oJ (κ := Int32 → Option (Int32 × MS)) (fun t0_118 => oS 201 (s85.1 6) v2_85 (vp_nar .boolean t0_118) (sA s85 6) (fun s118 => f_X6_tick_L85 kX85 n (v2_85 + 1) s118)) (fun k118 => if x109 = 0 then (k118 1) else (k118 0))))))
def f_X6_tick_L28  (kX28 : MS → Option (Int32 × MS)) : Nat → Int32 → MS → Option (Int32 × MS)
  | 0, _, _ => none
  | n + 1, v2_28, s28 =>
    oA 2204 (s28.1 1) 5 (fun x34 => if x34 ≤ v2_28 then (kX28 s28) else (oR (f_X6_ofAppend v2_28 3) (fun r44 => oA 2204 (s28.1 1) r44 (fun x47 => oJ (κ := MS → Option (Int32 × MS)) (fun s_77 => f_X6_tick_L28 kX28 n (v2_28 + 1) s_77) (fun k77 => if x47 = 1 then (oR (f_X6_ofAppend v2_28 8) (fun r59 => oA 2204 (s28.1 1) r59 (fun x62 => oA 2204 (s28.1 1) 0 (fun x68 => if x62 = x68 then (oV (f_X6_tell s28 v2_28) (fun t => t) (fun s74 => k77 s74)) else (k77 s28))))) else (k77 s28))))))
def f_X6_tick (σ : MS)  : Option (Int32 × MS) :=
  oA 2204 (σ.1 1) 9 (fun x6 => oR (f_X6_appends σ 1 (-1)) (fun r12 => oJ (κ := Int32 → Option (Int32 × MS)) (fun t0_23 => oZ t0_23 (sN σ 3) (fun s23 => f_X6_tick_L28 (fun sx83 => f_X6_tick_L85 (fun sx125 => oN (-5) (sN sx125 4) (fun s128 => oA 2204 (s128.1 1) 4 (fun x136 => oJ (κ := MS → Option (Int32 × MS)) (fun s_209 => oA 2204 (s_209.1 1) 0 (fun x215 => oS 2204 (s_209.1 1) 0 (x215 + 1) (sA s_209 1) (fun s218 => oA 2204 (s218.1 1) 9 (fun x225 => some ((x225 - x6), s218))))) (fun k209 => if x136 = 0 then (oV (f_X6_lookAtAll s128 (-1)) (fun t => t) (fun s142 => k209 s142)) else (oA 2204 (s128.1 1) 6 (fun x154 => f_X6_tick_L158 x154 (fun sx180 => oJ (κ := Int32 → Option (Int32 × MS)) (fun t0_208 => oS 2204 (sx180.1 1) 6 t0_208 (sA sx180 1) (fun s208 => k209 s208)) (fun k208 => if (sx180.2 4) = (-5) then (k208 x154) else (k208 (((sx180.2 4) + 1) - ((sx180.2 4) + 1) / 8 * 8)))) FU 0 s128)))))) FU 0 sx83) FU 0 s23)) (fun k23 => if r12 ≤ 0 then (k23 0) else (k23 1))))
def f_X6_goBy_L4 (p1 : Int32) (kX4 : Int32 → MS → Option (Int32 × MS)) : Nat → Int32 → Int32 → MS → Option (Int32 × MS)
  | 0, _, _, _ => none
  | n + 1, v2_4, v3_4, s4 =>
    if p1 ≤ v3_4 then (kX4 v2_4 s4) else (oW (f_X6_tick s4) (fun t => t) (fun r11 s11 => f_X6_goBy_L4 p1 kX4 n (v2_4 + r11) (v3_4 + 1) s11))
def f_X6_goBy (σ : MS) (p1 : Int32) : Option (Int32 × MS) :=
  f_X6_goBy_L4 p1 (fun w2_22 sx22 => some (w2_22, sx22)) FU 0 0 σ
def f_X6_pass (σ : MS) (p1 : Int32) : Option (Int32 × MS) :=
  oR (f_X6_in p1 1 99) (fun r4 => if r4 = 0 then (some ((-2), σ)) else (oA 2204 (σ.1 1) 0 (fun x18 => if (x18 + p1) ≤ 9999 then (oV (f_X6_know σ) (fun t => t) (fun s31 => oW (f_X6_goBy s31 p1) (fun t => t) (fun r36 s36 => some (r36, s36)))) else (some ((-3), σ)))))
def f_X6_sign (σ : MS) (p1 : Int32) (p2 : Int32) : Option (Int32 × MS) :=
  oJ (κ := Int32 → Option (Int32 × MS)) (fun t0_24 => oJ (κ := Int32 → Option (Int32 × MS)) (fun t0_47 => oZ t0_47 (sN σ 6) (fun s47 => oJ (κ := Int32 → Option (Int32 × MS)) (fun t0_67 => oN ((s47.2 5) + t0_67) (sN s47 5) (fun s68 => some (t0_24, s68))) (fun k67 => if (s47.2 6) = 0 then (k67 1) else (k67 0)))) (fun k47 => oJ (κ := Option (Int32 × MS)) (k47 1) (fun k42 => if (σ.2 6) = 0 then (oR (f_X6_in t0_24 p1 p2) (fun r36 => if r36 = 0 then k42 else (k47 0))) else k42))) (fun k24 => if (σ.2 2) ≤ (σ.2 5) then (k24 0) else (oA 60 (σ.1 5) (σ.2 5) (fun x19 => k24 x19)))
def f_X6_order (σ : MS)  : Option (MS) :=
  oJ (κ := Int32 → Option (MS)) (fun t0_24 => oJ (κ := Int32 → Option (MS)) (fun t0_48 => oJ (κ := Int32 → MS → Option (MS)) (fun t0_68 s_68 => oS 4 (s_68.1 7) 0 t0_68 (sA s_68 7) (fun s68 => oJ (κ := Int32 → MS → Option (MS)) (fun t0_123 s_123 => oS 4 (s_123.1 7) 1 t0_123 (sA s_123 7) (fun s123 => if t0_48 = 0 then (oW (f_X6_sign s123 62 62) (fun t => t) (fun r134 s134 => oW (f_X6_sign s134 48 55) (fun t => t) (fun r148 s148 => oS 4 (s148.1 7) 2 (r148 - 48) (sA s148 7) (fun s154 => oW (f_X6_sign s154 61 61) (fun t => t) (fun r160 s160 => oW (f_X6_sign s160 48 57) (fun t => t) (fun r175 s175 => oS 4 (s175.1 7) 3 (r175 - 48) (sA s175 7) (fun s181 => if (s181.2 6) = 0 then (oA 4 (s181.1 7) 3 (fun x194 => if x194 ≤ 0 then (some s181) else (if (s181.2 2) ≤ (s181.2 5) then (some s181) else (oA 60 (s181.1 5) (s181.2 5) (fun x217 => oR (f_X6_in x217 48 57) (fun r222 => if r222 = 0 then (some s181) else (oA 4 (s181.1 7) 3 (fun x240 => oW (f_X6_sign s181 48 57) (fun t => t) (fun r247 s247 => oS 4 (s247.1 7) 3 (((10 * x240) + r247) - 48) (sA s247 7) (fun s254 => some s254)))))))))) else (some s181)))))))) else (some s123))) (fun k123 => if t0_24 = 112 then (oW (f_X6_sign s68 49 57) (fun t => t) (fun r85 s85 => k123 (r85 - 48) s85)) else (if t0_48 = 0 then (oW (f_X6_sign s68 48 51) (fun t => t) (fun r117 s117 => k123 (r117 - 48) s117)) else (oW (f_X6_sign s68 48 55) (fun t => t) (fun r103 s103 => k123 (r103 - 48) s103)))))) (fun k68 => if t0_48 = 0 then (k68 0 σ) else (oW (f_X6_sign σ t0_24 t0_24) (fun t => t) (fun r61 s61 => k68 r61 s61)))) (fun k48 => oJ (κ := Option (MS)) (k48 1) (fun k43 => if t0_24 = 114 then k43 else (if t0_24 = 102 then k43 else (if t0_24 = 112 then k43 else (k48 0)))))) (fun k24 => if (σ.2 2) ≤ (σ.2 5) then (k24 0) else (oA 60 (σ.1 5) (σ.2 5) (fun x19 => k24 x19)))
def f_X6_does (σ : MS)  : Option (Int32 × MS) :=
  oA 4 (σ.1 7) 1 (fun x5 => oA 4 (σ.1 7) 0 (fun x12 => if x12 = 0 then (oR (f_X6_isRoom σ x5) (fun r50 => if r50 = 0 then (some ((-3), σ)) else (oA 4 (σ.1 7) 2 (fun x63 => oA 4 (σ.1 7) 3 (fun x69 => oW (f_X6_send σ x5 x63 x69) (fun t => t) (fun r70 s70 => some (r70, s70))))))) else (if x12 = 102 then (oR (f_X6_finishFault σ x5) (fun r104 => if r104 = (-4) then (some (r104, σ)) else (if r104 = (-5) then (some (0, σ)) else (oW (f_X6_finishes σ x5) (fun t => t) (fun r130 s130 => some (r130, s130)))))) else (if x12 = 114 then (oR (f_X6_of x5 0) (fun r85 => oA 2204 (σ.1 1) r85 (fun x88 => if x88 = 0 then (some (0, σ)) else (oW (f_X6_resets σ x5) (fun t => t) (fun r98 s98 => some (r98, s98)))))) else (oA 2204 (σ.1 1) 0 (fun x139 => if (x139 + x5) ≤ 9999 then (oW (f_X6_goBy σ x5) (fun t => t) (fun r155 s155 => some (r155, s155))) else (some ((-3), σ))))))))
def f_X6_go_L19 (p1 : Int32) (kX19 : Int32 → MS → Option (Int32 × MS)) : Nat → Int32 → Int32 → MS → Option (Int32 × MS)
  | 0, _, _, _ => none
  | n + 1, v2_19, v3_19, s19 =>
    if v3_19 = 0 then (kX19 v2_19 s19) else (oV (f_X6_order s19) (fun t => t) (fun s24 => oJ (κ := Int32 → MS → Option (Int32 × MS)) (fun t0_42 s_42 => oJ (κ := Int32 → Option (Int32 × MS)) (fun t0_56 => oN t0_56 (sN s_42 7) (fun s56 => oJ (κ := Int32 → Option (Int32 × MS)) (fun t0_89 => oJ (κ := Int32 → MS → Option (Int32 × MS)) (fun u3_117 s_117 => f_X6_go_L19 p1 kX19 n (v2_19 + 1) u3_117 s_117) (fun k117 => if t0_89 = 0 then (k117 t0_89 s56) else (oW (f_X6_sign s56 59 59) (fun t => t) (fun r99 s99 => oJ (κ := Int32 → Option (Int32 × MS)) (fun t0_116 => k117 t0_116 s99) (fun k116 => if (s99.2 6) = 0 then (k116 1) else (k116 0)))))) (fun k89 => oJ (κ := Option (Int32 × MS)) (k89 0) (fun k88 => if (s56.2 6) = 0 then (if (s56.2 7) = 0 then (if (s56.2 2) ≤ (s56.2 5) then k88 else (k89 1)) else k88) else k88)))) (fun k56 => if 0 ≤ t0_42 then (k56 0) else (k56 t0_42))) (fun k42 => if p1 = 0 then (k42 0 s24) else (oW (f_X6_does s24) (fun t => t) (fun r35 s35 => k42 r35 s35)))))
def f_X6_go (σ : MS) (p1 : Int32) : Option (Int32 × MS) :=
  oN 0 (sN σ 5) (fun s2 => oZ 0 (sN s2 6) (fun s7 => oN 0 (sN s7 7) (fun s12 => f_X6_go_L19 p1 (fun w2_120 sx120 => some (w2_120, sx120)) FU 0 1 s12)))
def f_X6_follow_L49  (kX49 : MS → Option (Int32 × MS)) : Nat → Int32 → MS → Option (Int32 × MS)
  | 0, _, _ => none
  | n + 1, v2_49, s49 =>
    if 2204 ≤ v2_49 then (kX49 s49) else (oA 2204 (s49.1 1) v2_49 (fun x61 => oA 2204 (s49.1 2) v2_49 (fun x73 => oS 2204 (s49.1 1) v2_49 x73 (sA s49 1) (fun s74 => oS 2204 (s74.1 2) v2_49 x61 (sA s74 2) (fun s81 => f_X6_follow_L49 kX49 n (v2_49 + 1) s81)))))
def f_X6_follow (σ : MS)  : Option (Int32 × MS) :=
  oW (f_X6_go σ 0) (fun t => t) (fun r2 s2 => if (s2.2 6) = 0 then (oV (f_X6_putAside s2) (fun t => t) (fun s22 => oW (f_X6_go s22 1) (fun t => t) (fun r27 s27 => if 0 ≤ (s27.2 7) then (f_X6_follow_L49 (fun sx88 => oV (f_X6_know sx88) (fun t => t) (fun s89 => oV (f_X6_putBack s89) (fun t => t) (fun s93 => some (r27, s93)))) FU 0 s27) else (oV (f_X6_putBack s27) (fun t => t) (fun s39 => some ((s39.2 7), s39)))))) else (some (((-100) - (s2.2 5)), s2)))
def f_X6_type (σ : MS) (p1 : Int32) : Option (Int32 × MS) :=
  if (σ.2 2) = 60 then (some ((-3), σ)) else (oS 60 (σ.1 5) (σ.2 2) p1 (sA σ 5) (fun s21 => oN ((s21.2 2) + 1) (sN s21 2) (fun s29 => some ((s29.2 2), s29))))
def f_X6_clearText (σ : MS)  : Option (Int32 × MS) :=
  oN 0 (sN σ 2) (fun s7 => some ((σ.2 2), s7))
def f_X6_undo_L22  (kX22 : MS → Option (Int32 × MS)) : Nat → Int32 → MS → Option (Int32 × MS)
  | 0, _, _ => none
  | n + 1, v1_22, s22 =>
    if 2204 ≤ v1_22 then (kX22 s22) else (oA 8816 (s22.1 3) ((2204 * (s22.2 0)) + v1_22) (fun x48 => oS 2204 (s22.1 1) v1_22 x48 (sA s22 1) (fun s49 => f_X6_undo_L22 kX22 n (v1_22 + 1) s49)))
def f_X6_undo (σ : MS)  : Option (Int32 × MS) :=
  if (σ.2 0) = 0 then (some ((-5), σ)) else (oN ((σ.2 0) - 1) (sN σ 0) (fun s17 => f_X6_undo_L22 (fun sx56 => some ((sx56.2 0), sx56)) FU 0 s17))
def f_X6_keep_L2  (kX2 : MS → Option (Int32 × MS)) : Nat → Int32 → MS → Option (Int32 × MS)
  | 0, _, _ => none
  | n + 1, v1_2, s2 =>
    if 2204 ≤ v1_2 then (kX2 s2) else (oA 2204 (s2.1 1) v1_2 (fun x19 => oS 2204 (s2.1 4) v1_2 x19 (sA s2 4) (fun s20 => f_X6_keep_L2 kX2 n (v1_2 + 1) s20)))
def f_X6_keep (σ : MS)  : Option (Int32 × MS) :=
  f_X6_keep_L2 (fun sx27 => oZ 1 (sN sx27 1) (fun s29 => oA 2204 (s29.1 1) 0 (fun x37 => some (x37, s29)))) FU 0 σ
def f_X6_restore_L16  (kX16 : MS → Option (Int32 × MS)) : Nat → Int32 → MS → Option (Int32 × MS)
  | 0, _, _ => none
  | n + 1, v1_16, s16 =>
    if 2204 ≤ v1_16 then (kX16 s16) else (oA 2204 (s16.1 4) v1_16 (fun x33 => oS 2204 (s16.1 1) v1_16 x33 (sA s16 1) (fun s34 => f_X6_restore_L16 kX16 n (v1_16 + 1) s34)))
def f_X6_restore (σ : MS)  : Option (Int32 × MS) :=
  if (σ.2 1) = 0 then (some ((-5), σ)) else (oV (f_X6_know σ) (fun t => t) (fun s11 => f_X6_restore_L16 (fun sx41 => oA 2204 (sx41.1 1) 0 (fun x46 => some (x46, sx41))) FU 0 s11))
def f_X6_read (σ : MS) (p1 : Int32) (p2 : Int32) : Option (Int32) :=
  oR (f_X6_isZone p1) (fun r1 => if r1 = 0 then (some (-1)) else (if 0 ≤ p2 then (oR (f_X6_of p1 3) (fun r23 => oA 2204 (σ.1 1) r23 (fun x26 => if p2 < x26 then (oR (f_X6_of p1 (6 + p2)) (fun r42 => oA 2204 (σ.1 1) r42 (fun x45 => if x45 = (-5) then (some (-4)) else (oR (f_X6_ofAppend x45 2) (fun r64 => oA 2204 (σ.1 1) r64 (fun x67 => some x67)))))) else (some (-5))))) else (some (-2))))
def f_X6_zone_L93 (σ : MS) (p1 : Int32) (kX93 : Int32 → Option (Int32)) : Nat → Int32 → Option (Int32)
  | 0, _ => none
  | n + 1, v3_93 =>
    if 16 ≤ v3_93 then (kX93 v3_93) else (oR (f_X6_of p1 (6 + v3_93)) (fun r108 => oA 2204 (σ.1 1) r108 (fun x111 => if x111 = (-5) then (kX93 v3_93) else (f_X6_zone_L93 σ p1 kX93 n (v3_93 + 1)))))
def f_X6_zone (σ : MS) (p1 : Int32) (p2 : Int32) : Option (Int32) :=
  oR (f_X6_isZone p1) (fun r1 => if r1 = 0 then (some (-1)) else (oJ (κ := Option (Int32)) (oR (f_X6_of p1 p2) (fun r66 => oA 2204 (σ.1 1) r66 (fun x69 => some x69))) (fun k60 => if p2 = 0 then k60 else (if p2 = 1 then k60 else (if p2 = 2 then k60 else (if p2 = 3 then k60 else (if p2 = 4 then k60 else (if p2 = 5 then (oR (f_X6_readable σ p1) (fun r73 => some r73)) else (if p2 = 6 then (oR (f_X6_appends σ 1 p1) (fun r80 => some r80)) else (if p2 = 7 then (oR (f_X6_appends σ 0 p1) (fun r87 => some r87)) else (if p2 = 8 then (f_X6_zone_L93 σ p1 (fun w3_123 => some w3_123) FU 0) else (some (-2)))))))))))))
def f_X6_appended (σ : MS) (p1 : Int32) (p2 : Int32) : Option (Int32) :=
  oR (f_X6_isAppend σ p1) (fun r2 => if r2 = 0 then (some (-1)) else (oR (f_X6_in p2 0 7) (fun r14 => if r14 = 0 then (some (-2)) else (oR (f_X6_ofAppend p1 3) (fun r29 => oA 2204 (σ.1 1) r29 (fun x32 => oJ (κ := Int32 → Option (Int32)) (fun t0_42 => oJ (κ := Option (Int32)) (oR (f_X6_ofAppend p1 p2) (fun r63 => oA 2204 (σ.1 1) r63 (fun x66 => some x66))) (fun k57 => if p2 = 4 then (if t0_42 = 0 then (some (-5)) else k57) else k57)) (fun k42 => if x32 = 2 then (k42 1) else (k42 0))))))))
def f_X6_writer (σ : MS) (p1 : Int32) (p2 : Int32) : Option (Int32) :=
  oR (f_X6_isWriter p1) (fun r1 => if r1 = 0 then (some (-1)) else (oJ (κ := Option (Int32)) (oR (f_X6_appendsOf σ (p2 - 1) p1) (fun r64 => some r64)) (fun k59 => if p2 = 0 then (oR (f_X6_ofWriter p1 0) (fun r54 => oA 2204 (σ.1 1) r54 (fun x57 => some x57))) else (if p2 = 1 then k59 else (if p2 = 2 then k59 else (if p2 = 3 then k59 else (if p2 = 4 then k59 else (if p2 = 5 then (oR (f_X6_ofWriter p1 1) (fun r74 => oA 2204 (σ.1 1) r74 (fun x77 => some x77))) else (some (-2))))))))))
def f_X6_told (σ : MS) (p1 : Int32) : Option (Int32) :=
  if 0 ≤ p1 then (oA 2204 (σ.1 1) 9 (fun x14 => if x14 ≤ p1 then (some (-5)) else (oA 2204 (σ.1 1) (2003 + p1) (fun x27 => some x27)))) else (some (-2))
def f_X6_ticksOf_L4 (p1 : Int32) (kX4 : Int32 → MS → Option (Int32 × MS)) : Nat → Int32 → Int32 → MS → Option (Int32 × MS)
  | 0, _, _, _ => none
  | n + 1, v2_4, v3_4, s4 =>
    if 999 ≤ v2_4 then (kX4 v2_4 s4) else (oR (f_X6_ofAppend p1 3) (fun r17 => oA 2204 (s4.1 1) r17 (fun x20 => if 2 ≤ x20 then (kX4 v2_4 s4) else (if v3_4 = 0 then (kX4 v2_4 s4) else (oW (f_X6_tick s4) (fun t => t) (fun r30 s30 => f_X6_ticksOf_L4 p1 kX4 n (v2_4 + 1) (s30.2 3) s30))))))
def f_X6_ticksOf (σ : MS) (p1 : Int32) : Option (Int32 × MS) :=
  f_X6_ticksOf_L4 p1 (fun w2_46 sx46 => oR (f_X6_ofAppend p1 3) (fun r52 => oA 2204 (sx46.1 1) r52 (fun x55 => if x55 = 2 then (some (w2_46, sx46)) else (some ((-5), sx46))))) FU 0 1 σ
def f_X6_toldIn (σ : MS) (p1 : Int32) : Option (Int32 × MS) :=
  oR (f_X6_isAppend σ p1) (fun r2 => if r2 = 0 then (some ((-1), σ)) else (oR (f_X6_ofAppend p1 3) (fun r16 => oA 2204 (σ.1 1) r16 (fun x19 => if x19 ≤ 1 then (oV (f_X6_putAside σ) (fun t => t) (fun s28 => oW (f_X6_ticksOf s28 p1) (fun t => t) (fun r33 s33 => oV (f_X6_putBack s33) (fun t => t) (fun s38 => some (r33, s38))))) else (some ((-4), σ))))))
def f_X6_would (σ : MS) (p1 : Int32) (p2 : Int32) : Option (Int32 × MS) :=
  oR (f_X6_isZone p1) (fun r1 => if r1 = 0 then (some ((-1), σ)) else (oR (f_X6_in p2 0 1) (fun r12 => if r12 = 0 then (some ((-2), σ)) else (oV (f_X6_putAside σ) (fun t => t) (fun s22 => oW (f_X6_send s22 0 p1 0) (fun t => t) (fun r29 s29 => oW (f_X6_ticksOf s29 r29) (fun t => t) (fun r35 s35 => oR (f_X6_ofAppend r29 4) (fun r46 => oA 2204 (s35.1 1) r46 (fun x49 => oV (f_X6_putBack s35) (fun t => t) (fun s53 => if r35 = (-5) then (some (r35, s53)) else (if p2 = 1 then (some (r35, s53)) else (some (x49, s53)))))))))))))
def f_X6_count (σ : MS) (p1 : Int32) : Option (Int32) :=
  oJ (κ := Option (Int32)) (oJ (κ := Int32 → Option (Int32)) (fun t0_99 => oR (f_X6_zones σ t0_99) (fun r99 => some r99)) (fun k99 => if p1 = 6 then (k99 1) else (k99 0))) (fun k87 => oJ (κ := Option (Int32)) (oR (f_X6_appends σ (p1 - 8) (-1)) (fun r116 => some r116)) (fun k110 => if p1 = 0 then (oA 2204 (σ.1 1) p1 (fun x85_5 => some x85_5)) else (if p1 = 1 then (oA 2204 (σ.1 1) p1 (fun x85_4 => some x85_4)) else (if p1 = 2 then (oA 2204 (σ.1 1) p1 (fun x85_3 => some x85_3)) else (if p1 = 3 then (oA 2204 (σ.1 1) p1 (fun x85_2 => some x85_2)) else (if p1 = 4 then (oA 2204 (σ.1 1) p1 (fun x85 => some x85)) else (if p1 = 5 then k87 else (if p1 = 6 then k87 else (if p1 = 7 then (oA 2204 (σ.1 1) 5 (fun x108 => some x108)) else (if p1 = 8 then k110 else (if p1 = 9 then k110 else (if p1 = 10 then k110 else (if p1 = 11 then k110 else (if p1 = 12 then (oA 2204 (σ.1 1) 7 (fun x126 => some x126)) else (if p1 = 13 then (oA 2204 (σ.1 1) 6 (fun x134 => some x134)) else (if p1 = 14 then (some (σ.2 0)) else (if p1 = 15 then (some (σ.2 2)) else (some (-2)))))))))))))))))))
def f_X5_doOrder (σ : CS) (p1 : Int32) : Option (Int32 × CS) :=
  oR (f_X2_sign σ p1) (fun r5 => if r5 = 114 then (oR (f_X2_digit σ (p1 + 1)) (fun r26 => oW (f_X3_wipe (σ.1 0) r26) (cS σ 0) (fun r29 s29 => some (r29, s29)))) else (if r5 = 102 then (oR (f_X2_digit σ (p1 + 1)) (fun r50 => oW (f_X3_fill (σ.1 0) r50) (cS σ 0) (fun r53 s53 => some (r53, s53)))) else (if r5 = 112 then (oR (f_X2_digit σ (p1 + 1)) (fun r74 => oW (f_X3_letPass (σ.1 0) r74) (cS σ 0) (fun r77 s77 => some (r77, s77)))) else (oR (f_X2_digit σ p1) (fun r90 => oR (f_X2_digit σ (p1 + 2)) (fun r100 => oR (f_X2_valueFrom σ (p1 + 4)) (fun r110 => oW (f_X3_send (σ.1 0) r90 r100 r110) (cS σ 0) (fun r113 s113 => some (r113, s113)))))))))
def f_X5_follow_L34  (kX34 : Int32 → CS → Option (Int32 × CS)) : Nat → Int32 → Int32 → CS → Option (Int32 × CS)
  | 0, _, _, _ => none
  | n + 1, v2_34, v3_34, s34 =>
    if 60 ≤ v3_34 then (kX34 v3_34 s34) else (if (s34.2.2 3) ≤ v2_34 then (kX34 v3_34 s34) else (oW (f_X5_doOrder s34 v2_34) (fun t => t) (fun r53 s53 => oJ (κ := Option (Int32 × CS)) (oR (f_X2_behindOrder s53 v2_34) (fun r89 => f_X5_follow_L34 kX34 n (r89 + 1) (v3_34 + 1) s53)) (fun k84 => if 0 ≤ r53 then k84 else (if r53 = (-5) then k84 else (oV (f_X1_takeDraftBack s53) (fun t => t) (fun s78 => some (r53, s78))))))))
def f_X5_follow (σ : CS)  : Option (Int32 × CS) :=
  oR (f_X2_fault σ) (fun r4 => if r4 = (-1) then (oV (f_X1_draft σ) (fun t => t) (fun s26 => f_X5_follow_L34 (fun w3_101 sx101 => oW (f_X1_settle sx101 w3_101) (fun t => t) (fun r106 s106 => some (r106, s106))) FU 0 0 s26)) else (some (((-100) - r4), σ)))
def f_X5_type (σ : CS) (p1 : Int32) : Option (Int32 × CS) :=
  oW (f_X2_add σ p1) (fun t => t) (fun r5 s5 => some (r5, s5))
def f_X5_clearText (σ : CS)  : Option (Int32 × CS) :=
  oW (f_X2_empty σ) (fun t => t) (fun r4 s4 => some (r4, s4))
def f_X5_keep (σ : CS)  : Option (Int32 × CS) :=
  oV (f_X3_copyFrom (σ.1 2) (σ.1 0)) (cS σ 2) (fun s8 => oZ 1 (cN s8 0) (fun s13 => some (((s13.1 0).2 10), s13)))
def f_X5_restore (σ : CS)  : Option (Int32 × CS) :=
  if (σ.2.2 0) = 0 then (some ((-5), σ)) else (oV (f_X1_draft σ) (fun t => t) (fun s18 => oV (f_X3_copyFrom (s18.1 0) (s18.1 2)) (cS s18 0) (fun s30 => oW (f_X1_settle s30 ((s30.1 0).2 10)) (fun t => t) (fun r44 s44 => some (r44, s44)))))
def f_X6_init_L133  (kX133 : MS → Option (MS)) : Nat → Int32 → MS → Option (MS)
  | 0, _, _ => none
  | n + 1, v1_133, s133 =>
    if 4 ≤ v1_133 then (kX133 s133) else (oR (f_X6_ofWriter v1_133 0) (fun r144 => oS 2204 (s133.1 1) r144 3 (sA s133 1) (fun s148 => f_X6_init_L133 kX133 n (v1_133 + 1) s148)))
def f_X6_init_L87  (kX87 : MS → Option (MS)) : Nat → Int32 → MS → Option (MS)
  | 0, _, _ => none
  | n + 1, v1_87, s87 =>
    if 8 ≤ v1_87 then (kX87 s87) else (oR (f_X6_of v1_87 1) (fun r99 => oS 2204 (s87.1 1) r99 8 (sA s87 1) (fun s104 => oR (f_X6_of v1_87 2) (fun r111 => oS 2204 (s104.1 1) r111 (2 + (v1_87 - v1_87 / 3 * 3)) (sA s104 1) (fun s119 => oV (f_X6_sweep s119 v1_87) (fun t => t) (fun s122 => f_X6_init_L87 kX87 n (v1_87 + 1) s122))))))
def f_X6_init (σ : MS) : Option MS :=
  oS 2204 (σ.1 1) 1 2 (sA σ 1) (fun s70 => oS 2204 (s70.1 1) 2 4 (sA s70 1) (fun s77 => oS 2204 (s77.1 1) 3 2 (sA s77 1) (fun s84 => f_X6_init_L87 (fun sx131 => f_X6_init_L133 (fun sx155 => some sx155) FU 0 sx131) FU 0 s84)))
