def f_J7_fill_53178_5 (F : Nat) (nq0 : Nat) (p1 : Int32) : Nat → Int32 → Int32 → (Nat → Int32) → Option ((Nat → Int32))
  | 0, _, _, _ => none
  | n + 1, x2, x3, fq0 => if x3 ≤ x2 then (some fq0) else (gd (vpb x2 nq0) <| lz (upd fq0 x2.toNatClampNeg p1) fun g3 => lz (x2 + (1 : Int32)) fun v4 => f_J7_fill_53178_5 F nq0 p1 n v4 x3 g3)
def f_J7_fill_53178 (F : Nat) (nq0 : Nat) (p1 : Int32) (fq0 : (Nat → Int32)) : Option ((Nat → Int32)) := f_J7_fill_53178_5 F nq0 p1 F (0 : Int32) (Int32.ofNat nq0) fq0

def f_J7_fill_d0a16_6 (F : Nat) (nq0 : Nat) (p1 : Int64) : Nat → Int32 → Int32 → (Nat → Int64) → Option ((Nat → Int64))
  | 0, _, _, _ => none
  | n + 1, x3, x4, fq0 => if x4 ≤ x3 then (some fq0) else (gd (vpb x3 nq0) <| lz (vp_updL fq0 x3.toNatClampNeg p1) fun g3 => lz (x3 + (1 : Int32)) fun v4 => f_J7_fill_d0a16_6 F nq0 p1 n v4 x4 g3)
def f_J7_fill_d0a16 (F : Nat) (nq0 : Nat) (p1 : Int64) (fq0 : (Nat → Int64)) : Option ((Nat → Int64)) := f_J7_fill_d0a16_6 F nq0 p1 F (0 : Int32) (Int32.ofNat nq0) fq0

def f_J6_numberOfLeadingZeros_0f7a4_73 (F : Nat) (x0 : Int32) (x1 : Int32) : Option Int32 := lz ((x0.toUInt32 >>> ((1 : Int32).toUInt32 &&& Int32.toUInt32 31)).toInt32) fun v15 => some (x1 - v15)
def f_J6_numberOfLeadingZeros_0f7a4_61 (F : Nat) (x0 : Int32) (x1 : Int32) : Option Int32 := if x0 < (4 : Int32) then (f_J6_numberOfLeadingZeros_0f7a4_73 F x0 x1) else (lz (x1 + (-2 : Int32)) fun v13 => lz ((x0.toUInt32 >>> ((2 : Int32).toUInt32 &&& Int32.toUInt32 31)).toInt32) fun v14 => f_J6_numberOfLeadingZeros_0f7a4_73 F v14 v13)
def f_J6_numberOfLeadingZeros_0f7a4_48 (F : Nat) (x0 : Int32) (x1 : Int32) : Option Int32 := if x0 < (16 : Int32) then (f_J6_numberOfLeadingZeros_0f7a4_61 F x0 x1) else (lz (x1 + (-4 : Int32)) fun v10 => lz ((x0.toUInt32 >>> ((4 : Int32).toUInt32 &&& Int32.toUInt32 31)).toInt32) fun v11 => f_J6_numberOfLeadingZeros_0f7a4_61 F v11 v10)
def f_J6_numberOfLeadingZeros_0f7a4_33 (F : Nat) (x0 : Int32) (x1 : Int32) : Option Int32 := if x0 < (256 : Int32) then (f_J6_numberOfLeadingZeros_0f7a4_48 F x0 x1) else (lz (x1 + (-8 : Int32)) fun v7 => lz ((x0.toUInt32 >>> ((8 : Int32).toUInt32 &&& Int32.toUInt32 31)).toInt32) fun v8 => f_J6_numberOfLeadingZeros_0f7a4_48 F v8 v7)
def f_J6_numberOfLeadingZeros_0f7a4 (F : Nat) (p0 : Int32) : Option Int32 := if (0 : Int32) < p0 then (if p0 < (65536 : Int32) then (f_J6_numberOfLeadingZeros_0f7a4_33 F p0 (31 : Int32)) else (lz ((31 : Int32) + (-16 : Int32)) fun v3 => lz ((p0.toUInt32 >>> ((16 : Int32).toUInt32 &&& Int32.toUInt32 31)).toInt32) fun v4 => f_J6_numberOfLeadingZeros_0f7a4_33 F v4 v3)) else (if p0 = (0 : Int32) then (some (32 : Int32)) else (some (0 : Int32)))

def f_J6_numberOfTrailingZeros_0f7a4_74 (F : Nat) (x0 : Int32) (x1 : Int32) : Option Int32 := lz ((x0.toUInt32 >>> ((1 : Int32).toUInt32 &&& Int32.toUInt32 31)).toInt32) fun v15 => some (x1 + v15)
def f_J6_numberOfTrailingZeros_0f7a4_62 (F : Nat) (x0 : Int32) (x1 : Int32) : Option Int32 := if x0 ≤ (4 : Int32) then (f_J6_numberOfTrailingZeros_0f7a4_74 F x0 x1) else (lz (x1 + (2 : Int32)) fun v13 => lz ((x0.toUInt32 >>> ((2 : Int32).toUInt32 &&& Int32.toUInt32 31)).toInt32) fun v14 => f_J6_numberOfTrailingZeros_0f7a4_74 F v14 v13)
def f_J6_numberOfTrailingZeros_0f7a4_49 (F : Nat) (x0 : Int32) (x1 : Int32) : Option Int32 := if x0 ≤ (16 : Int32) then (f_J6_numberOfTrailingZeros_0f7a4_62 F x0 x1) else (lz (x1 + (4 : Int32)) fun v10 => lz ((x0.toUInt32 >>> ((4 : Int32).toUInt32 &&& Int32.toUInt32 31)).toInt32) fun v11 => f_J6_numberOfTrailingZeros_0f7a4_62 F v11 v10)
def f_J6_numberOfTrailingZeros_0f7a4_34 (F : Nat) (x0 : Int32) (x1 : Int32) : Option Int32 := if x0 ≤ (256 : Int32) then (f_J6_numberOfTrailingZeros_0f7a4_49 F x0 x1) else (lz (x1 + (8 : Int32)) fun v7 => lz ((x0.toUInt32 >>> ((8 : Int32).toUInt32 &&& Int32.toUInt32 31)).toInt32) fun v8 => f_J6_numberOfTrailingZeros_0f7a4_49 F v8 v7)
def f_J6_numberOfTrailingZeros_0f7a4 (F : Nat) (p0 : Int32) : Option Int32 := lz ((p0 ^^^ (-1 : Int32)) &&& (p0 - (1 : Int32))) fun v1 => if (0 : Int32) < v1 then (if v1 ≤ (65536 : Int32) then (f_J6_numberOfTrailingZeros_0f7a4_34 F v1 (1 : Int32)) else (lz ((1 : Int32) + (16 : Int32)) fun v4 => lz ((v1.toUInt32 >>> ((16 : Int32).toUInt32 &&& Int32.toUInt32 31)).toInt32) fun v5 => f_J6_numberOfTrailingZeros_0f7a4_34 F v5 v4)) else (some (v1 &&& (32 : Int32)))

def f_J13_numberOfLeadingZeros_95d88 (F : Nat) (p0 : Int64) : Option Int32 := lz ((p0.toUInt64 >>> ((32 : Int32).toInt64.toUInt64 &&& Int64.toUInt64 63)).toInt64) fun v1 => if v1.toInt32 = (0 : Int32) then (bd (f_J6_numberOfLeadingZeros_0f7a4 F p0.toInt32) fun o4 => some ((32 : Int32) + o4)) else (bd (f_J6_numberOfLeadingZeros_0f7a4 F v1.toInt32) fun o3 => some o3)

def f_J13_numberOfTrailingZeros_95d88 (F : Nat) (p0 : Int64) : Option Int32 := if p0.toInt32 = (0 : Int32) then (lz ((p0.toUInt64 >>> ((32 : Int32).toInt64.toUInt64 &&& Int64.toUInt64 63)).toInt64) fun v3 => bd (f_J6_numberOfTrailingZeros_0f7a4 F v3.toInt32) fun o4 => some ((32 : Int32) + o4)) else (bd (f_J6_numberOfTrailingZeros_0f7a4 F p0.toInt32) fun o2 => some o2)

def f_X9_clear (F : Nat) (sRo : MS) : Option MS := lz (sI sRo 0 (0 : Int32)) fun s1 => lz (sI s1 1 (0 : Int32)) fun s2 => lz (sI s2 2 (0 : Int32)) fun s3 => lz (sI s3 3 (0 : Int32)) fun s4 => lz (sI s4 4 (0 : Int32)) fun s5 => lz (sI s5 5 (0 : Int32)) fun s6 => lz (sI s6 6 (0 : Int32)) fun s7 => lz (sI s7 7 (0 : Int32)) fun s8 => lz (sI s8 8 (0 : Int32)) fun s9 => lz (sI s9 9 (0 : Int32)) fun s10 => bd (f_J7_fill_53178 F 81 (0 : Int32) (s10.2.2.1 10)) fun o11 => lz (wA s10 10 o11) fun s12 => bd (f_J7_fill_53178 F 81 (0 : Int32) (s12.2.2.1 11)) fun o13 => lz (wA s12 11 o13) fun s14 => bd (f_J7_fill_53178 F 9 (0 : Int32) (s14.2.2.1 12)) fun o15 => lz (wA s14 12 o15) fun s16 => bd (f_J7_fill_53178 F 9 (0 : Int32) (s16.2.2.1 13)) fun o17 => lz (wA s16 13 o17) fun s18 => bd (f_J7_fill_53178 F 9 (0 : Int32) (s18.2.2.1 14)) fun o19 => lz (wA s18 14 o19) fun s20 => some s20

def f_X9_addRoad (F : Nat) (p1 : Int32) (p2 : Int32) (p3 : Int32) (p4 : Int32) (sRo : MS) : Option MS := gd (vpb ((p1 * (9 : Int32)) + p2) 81) <| lz (sA sRo 10 (((p1 * (9 : Int32)) + p2).toNatClampNeg) p3) fun s2 => gd (vpb ((p2 * (9 : Int32)) + p1) 81) <| lz (sA s2 10 (((p2 * (9 : Int32)) + p1).toNatClampNeg) p3) fun s4 => gd (vpb ((p1 * (9 : Int32)) + p2) 81) <| lz (sA s4 11 (((p1 * (9 : Int32)) + p2).toNatClampNeg) p4) fun s6 => gd (vpb ((p2 * (9 : Int32)) + p1) 81) <| lz (sA s6 11 (((p2 * (9 : Int32)) + p1).toNatClampNeg) p4) fun s8 => lz ((s8.1 6) + (1 : Int32)) fun v9 => lz (sI s8 6 v9) fun s10 => some s10

def f_X9_isTold (F : Nat) (sRo : MS) : Option Int32 := if (sRo.1 8) ≤ (0 : Int32) then (some (0 : Int32)) else (some (1 : Int32))

def f_X9_isPlace (F : Nat) (sRo : MS) (p1 : Int32) : Option Int32 := if p1 < (0 : Int32) then (some (0 : Int32)) else (if (sRo.1 5) ≤ p1 then (some (0 : Int32)) else (some (1 : Int32)))

def f_X9_isStation (F : Nat) (sRo : MS) (p1 : Int32) : Option Int32 := if p1 < (0 : Int32) then (some (0 : Int32)) else (if (sRo.1 8) ≤ p1 then (some (0 : Int32)) else (some (1 : Int32)))

def f_X9_isLeft (F : Nat) (sRo : MS) (p1 : Int32) : Option Int32 := if p1 < (0 : Int32) then (some (0 : Int32)) else (if ((sRo.1 8) - (1 : Int32)) ≤ p1 then (some (0 : Int32)) else (some (1 : Int32)))

def f_X9_isLevel (F : Nat) (sRo : MS) (p1 : Int32) : Option Int32 := if p1 < (0 : Int32) then (some (0 : Int32)) else (if (sRo.1 0) < p1 then (some (0 : Int32)) else (some (1 : Int32)))

def f_X9_pintsOf (F : Nat) (sRo : MS) (p1 : Int32) (p2 : Int32) : Option Int32 := gd (vpb ((p1 * (9 : Int32)) + p2) 81) <| lz (sRo.2.2.1 10 ((p1 * (9 : Int32)) + p2).toNatClampNeg) fun v2 => some v2

def f_X9_isRoad (F : Nat) (sRo : MS) (p1 : Int32) (p2 : Int32) : Option Int32 := bd (f_X9_pintsOf F sRo p1 p2) fun o1 => if o1 ≤ (0 : Int32) then (some (0 : Int32)) else (some (1 : Int32))

def f_X9_minutesOf (F : Nat) (sRo : MS) (p1 : Int32) (p2 : Int32) : Option Int32 := gd (vpb ((p1 * (9 : Int32)) + p2) 81) <| lz (sRo.2.2.1 11 ((p1 * (9 : Int32)) + p2).toNatClampNeg) fun v2 => some v2

def f_X9_start (F : Nat) (sRo : MS) : Option Int32 := gd (vpb (0 : Int32) 9) <| lz (sRo.2.2.1 15 (0 : Int32).toNatClampNeg) fun v2 => some v2

def f_X9_goal (F : Nat) (sRo : MS) : Option Int32 := if (sRo.1 8) ≤ (0 : Int32) then (gd (vpb (0 : Int32) 9) <| lz (sRo.2.2.1 15 (0 : Int32).toNatClampNeg) fun v3 => some v3) else (gd (vpb ((sRo.1 8) - (1 : Int32)) 9) <| lz (sRo.2.2.1 15 ((sRo.1 8) - (1 : Int32)).toNatClampNeg) fun v5 => some v5)

def f_X9_legPints (F : Nat) (sRo : MS) (p1 : Int32) : Option Int32 := gd (vpb (p1 + (1 : Int32)) 9) <| lz (sRo.2.2.1 16 (p1 + (1 : Int32)).toNatClampNeg) fun v2 => gd (vpb p1 9) <| lz (sRo.2.2.1 16 p1.toNatClampNeg) fun v4 => some (v2 - v4)

def f_X9_legMinutes (F : Nat) (sRo : MS) (p1 : Int32) : Option Int32 := gd (vpb p1 9) <| lz (sRo.2.2.1 15 p1.toNatClampNeg) fun v2 => gd (vpb (p1 + (1 : Int32)) 9) <| lz (sRo.2.2.1 15 (p1 + (1 : Int32)).toNatClampNeg) fun v4 => bd (f_X9_minutesOf F sRo v2 v4) fun o5 => some o5

def f_X9_legsPints (F : Nat) (sRo : MS) (p1 : Int32) (p2 : Int32) : Option Int32 := gd (vpb p2 9) <| lz (sRo.2.2.1 16 p2.toNatClampNeg) fun v2 => gd (vpb p1 9) <| lz (sRo.2.2.1 16 p1.toNatClampNeg) fun v4 => some (v2 - v4)

def f_X9_lastReached_35 (F : Nat) (sRo : MS) (p1 : Int32) (p2 : Int32) (k5 : Int32 → Int32 → Option Int32) (x3 : Int32) (x4 : Int32) : Option Int32 := lz (x4 + (1 : Int32)) fun v7 => k5 x3 v7
def f_X9_lastReached_5 (F : Nat) (sRo : MS) (p1 : Int32) (p2 : Int32) : Nat → Int32 → Int32 → Option Int32
  | 0, _, _ => none
  | n + 1, x3, x4 => if (sRo.1 8) ≤ x4 then (some x3) else (gd (vpb x4 9) <| lz (sRo.2.2.1 16 x4.toNatClampNeg) fun v3 => gd (vpb p1 9) <| lz (sRo.2.2.1 16 p1.toNatClampNeg) fun v5 => if p2 < (v3 - v5) then (f_X9_lastReached_35 F sRo p1 p2 (f_X9_lastReached_5 F sRo p1 p2 n) x3 x4) else (f_X9_lastReached_35 F sRo p1 p2 (f_X9_lastReached_5 F sRo p1 p2 n) x4 x4))
def f_X9_lastReached (F : Nat) (sRo : MS) (p1 : Int32) (p2 : Int32) : Option Int32 := f_X9_lastReached_5 F sRo p1 p2 F p1 p1

def f_X9_hasPumpAt (F : Nat) (sRo : MS) (p1 : Int32) : Option Int32 := gd (vpb p1 9) <| lz (sRo.2.2.1 15 p1.toNatClampNeg) fun v2 => gd (vpb v2 9) <| lz (sRo.2.2.1 12 v2.toNatClampNeg) fun v4 => if v4 ≤ (0 : Int32) then (some (0 : Int32)) else (some (1 : Int32))

def f_X9_priceAt (F : Nat) (sRo : MS) (p1 : Int32) (p2 : Int32) : Option Int32 := if p2 = (0 : Int32) then (gd (vpb p1 9) <| lz (sRo.2.2.1 15 p1.toNatClampNeg) fun v3 => gd (vpb v3 9) <| lz (sRo.2.2.1 12 v3.toNatClampNeg) fun v5 => some v5) else (gd (vpb p1 9) <| lz (sRo.2.2.1 15 p1.toNatClampNeg) fun v7 => gd (vpb v7 9) <| lz (sRo.2.2.1 13 v7.toNatClampNeg) fun v9 => some v9)

def f_X9_sizeOf (F : Nat) (sRo : MS) (p1 : Int32) : Option Int32 := if p1 = (0 : Int32) then (some (sRo.1 0)) else (if p1 = (1 : Int32) then (some (sRo.1 1)) else (if p1 = (2 : Int32) then (some (sRo.1 2)) else (if p1 = (3 : Int32) then (some (sRo.1 3)) else (if p1 = (4 : Int32) then (some (sRo.1 4)) else (if p1 = (5 : Int32) then (some (sRo.1 5)) else (if p1 = (6 : Int32) then (some (sRo.1 6)) else (if p1 = (7 : Int32) then (some (sRo.1 7)) else (if p1 = (8 : Int32) then (some (sRo.1 8)) else (if p1 = (9 : Int32) then (some (sRo.1 9)) else (some (-1 : Int32)))))))))))

def f_X0_next (F : Nat) (sDw : MS) : Option (Int32 × MS) := lz ((((75 : Int32) * (sDw.1 0)) + (74 : Int32)) - (((75 : Int32) * (sDw.1 0)) + (74 : Int32)) / (65537 : Int32) * (65537 : Int32)) fun v1 => lz (sI sDw 0 v1) fun s2 => some ((s2.1 0), s2)

def f_X0_priceSeen_63 (F : Nat) (sRo : MS) (p2 : Int32) (x3 : Int32) (x4 : Int32) (sDw : MS) : Option (Int32 × MS) := if x4 = (0 : Int32) then (some (x3, sDw)) else (some ((-2 : Int32), sDw))
def f_X0_priceSeen_35 (F : Nat) (sRo : MS) (p2 : Int32) (x3 : Int32) (y0 : Int32) (sDw : MS) : Option (Int32 × MS) := gd (vpb p2 9) <| lz (sRo.2.2.1 13 p2.toNatClampNeg) fun v9 => if v9 ≤ (0 : Int32) then (f_X0_priceSeen_63 F sRo p2 x3 y0 sDw) else (bd (f_X0_next F sDw) fun o11 => if (o11.1 - o11.1 / (2 : Int32) * (2 : Int32)) = (1 : Int32) then (gd (vpb p2 9) <| lz (sRo.2.2.1 13 p2.toNatClampNeg) fun v14 => f_X0_priceSeen_63 F sRo p2 v14 y0 o11.2) else (f_X0_priceSeen_63 F sRo p2 x3 y0 o11.2))
def f_X0_priceSeen (F : Nat) (sRo : MS) (p2 : Int32) (sDw : MS) : Option (Int32 × MS) := gd (vpb p2 9) <| lz (sRo.2.2.1 12 p2.toNatClampNeg) fun v2 => if v2 = (0 : Int32) then (some ((-2 : Int32), sDw)) else (bd (f_X0_next F sDw) fun o4 => gd (vpb p2 9) <| lz (sRo.2.2.1 14 p2.toNatClampNeg) fun v6 => if v6 ≤ (o4.1 - o4.1 / (10 : Int32) * (10 : Int32)) then (f_X0_priceSeen_35 F sRo p2 v2 (0 : Int32) o4.2) else (f_X0_priceSeen_35 F sRo p2 v2 (1 : Int32) o4.2))

def f_X2_commonDivisor_9 (F : Nat) (p0 : Int64) (p2 : Int64) : Nat → Int64 → Int64 → Int32 → Option Int64
  | 0, _, _, _ => none
  | n + 1, x4, x6, x8 => if (200 : Int32) ≤ x8 then (some x4) else (if (lg_cmp x6 (0 : Int64)) = (0 : Int32) then (some x4) else (gd (nzl x6) <| lz (x8 + (1 : Int32)) fun v4 => f_X2_commonDivisor_9 F p0 p2 n x6 (x4 - x4 / x6 * x6) v4))
def f_X2_commonDivisor (F : Nat) (p0 : Int64) (p2 : Int64) : Option Int64 := f_X2_commonDivisor_9 F p0 p2 F p0 p2 (0 : Int32)

def f_X2_become_17 (F : Nat) (p1 : Int64) (p3 : Int64) (x5 : Int64) (sFr : MS) : Option MS := gd (nzl x5) <| lz (sL sFr 0 (p1 / x5)) fun s4 => gd (nzl x5) <| lz (sL s4 1 (p3 / x5)) fun s6 => some s6
def f_X2_become (F : Nat) (p1 : Int64) (p3 : Int64) (sFr : MS) : Option MS := bd (f_X2_commonDivisor F p1 p3) fun o1 => if (lg_cmp o1 (0 : Int64)) = (0 : Int32) then (f_X2_become_17 F p1 p3 (1 : Int64) sFr) else (f_X2_become_17 F p1 p3 o1 sFr)

def f_X2_plus (F : Nat) (p1 : Int64) (p3 : Int64) (sFr : MS) : Option MS := bd (f_X2_become F (((sFr.2.1 0) * p3) + (p1 * (sFr.2.1 1))) ((sFr.2.1 1) * p3) sFr) fun o1 => some o1

def f_X4_leave_27 (F : Nat) (nq0 : Nat) (p1 : Int32) (p2 : Int32) (p3 : Int64) (k3 : Int32 → (Nat → Int64) → Option ((Nat → Int64))) (x5 : Int32) (y1 : Int32) (y2 : Int64) (fq0 : (Nat → Int64)) : Option ((Nat → Int64)) := gd (vpb y1 nq0) <| lz (vp_updL fq0 y1.toNatClampNeg y2) fun g5 => lz (x5 + (-1 : Int32)) fun v6 => k3 v6 g5
def f_X4_leave_3 (F : Nat) (nq0 : Nat) (p1 : Int32) (p2 : Int32) (p3 : Int64) : Nat → Int32 → (Nat → Int64) → Option ((Nat → Int64))
  | 0, _, _ => none
  | n + 1, x5, fq0 => if x5 < (0 : Int32) then (some fq0) else (if x5 < p2 then (f_X4_leave_27 F nq0 p1 p2 p3 (f_X4_leave_3 F nq0 p1 p2 p3 n) x5 x5 p3 fq0) else (gd (vpb (x5 - p2) nq0) <| f_X4_leave_27 F nq0 p1 p2 p3 (f_X4_leave_3 F nq0 p1 p2 p3 n) x5 x5 (fq0 (x5 - p2).toNatClampNeg) fq0))
def f_X4_leave (F : Nat) (nq0 : Nat) (p1 : Int32) (p2 : Int32) (p3 : Int64) (fq0 : (Nat → Int64)) : Option ((Nat → Int64)) := f_X4_leave_3 F nq0 p1 p2 p3 F p1 fq0

def f_X4_choose_79 (F : Nat) (nq0 : Nat) (fq0 : (Nat → Int64)) (nq1 : Nat) (p1 : Int32) (p2 : Int64) (p4 : Int64) (k6 : Int32 → Int32 → (Nat → Int32) → Option ((Nat → Int32))) (x7 : Int32) (x8 : Int32) (fq1 : (Nat → Int32)) : Option ((Nat → Int32)) := lz (x8 + (-1 : Int32)) fun v11 => k6 x7 v11 fq1
def f_X4_choose_50 (F : Nat) (nq0 : Nat) (fq0 : (Nat → Int64)) (nq1 : Nat) (p1 : Int32) (p2 : Int64) (p4 : Int64) (k6 : Int32 → Int32 → (Nat → Int32) → Option ((Nat → Int32))) (x7 : Int32) (x8 : Int32) (y1 : Int32) (y2 : Int32) (fq1 : (Nat → Int32)) : Option ((Nat → Int32)) := gd (vpb y1 nq1) <| lz (upd fq1 y1.toNatClampNeg y2) fun g7 => gd (vpb x8 nq0) <| gd (vpb x7 nq0) <| if (0 : Int32) < (lg_cmp ((fq0 x8.toNatClampNeg) + (p2 * x8.toInt64)) ((fq0 x7.toNatClampNeg) + (p2 * x7.toInt64))) then (f_X4_choose_79 F nq0 fq0 nq1 p1 p2 p4 k6 x7 x8 g7) else (f_X4_choose_79 F nq0 fq0 nq1 p1 p2 p4 k6 x8 x8 g7)
def f_X4_choose_6 (F : Nat) (nq0 : Nat) (fq0 : (Nat → Int64)) (nq1 : Nat) (p1 : Int32) (p2 : Int64) (p4 : Int64) : Nat → Int32 → Int32 → (Nat → Int32) → Option ((Nat → Int32))
  | 0, _, _, _ => none
  | n + 1, x7, x8, fq1 => if x8 < (0 : Int32) then (some fq1) else (gd (vpb x7 nq0) <| lz ((p4 + (p2 * (x7 - x8).toInt64)) + (fq0 x7.toNatClampNeg)) fun v3 => gd (vpb x8 nq0) <| if (0 : Int32) ≤ (lg_cmp v3 (fq0 x8.toNatClampNeg)) then (f_X4_choose_50 F nq0 fq0 nq1 p1 p2 p4 (f_X4_choose_6 F nq0 fq0 nq1 p1 p2 p4 n) x7 x8 x8 x8 fq1) else (f_X4_choose_50 F nq0 fq0 nq1 p1 p2 p4 (f_X4_choose_6 F nq0 fq0 nq1 p1 p2 p4 n) x7 x8 x8 x7 fq1))
def f_X4_choose (F : Nat) (nq0 : Nat) (fq0 : (Nat → Int64)) (nq1 : Nat) (p1 : Int32) (p2 : Int64) (p4 : Int64) (fq1 : (Nat → Int32)) : Option ((Nat → Int32)) := f_X4_choose_6 F nq0 fq0 nq1 p1 p2 p4 F p1 p1 fq1

def f_X4_spend (F : Nat) (nq0 : Nat) (fq0 : (Nat → Int64)) (p1 : Int32) (p2 : Int32) (p3 : Int64) (p5 : Int64) : Option Int64 := gd (vpb p2 nq0) <| lz ((fq0 p2.toNatClampNeg) + (p3 * (p2 - p1).toInt64)) fun v2 => if p2 ≤ p1 then (some (v2 + (0 : Int64))) else (some (v2 + p5))

def f_X1_nextCheaper_40 (F : Nat) (sRo : MS) (p1 : Int32) (p2 : Int32) : Option Int32 := some ((sRo.1 8) - (1 : Int32))
def f_X1_nextCheaper_34 (F : Nat) (sRo : MS) (p1 : Int32) (p2 : Int32) (k4 : Int32 → Option Int32) (x3 : Int32) : Option Int32 := lz (x3 + (1 : Int32)) fun v6 => k4 v6
def f_X1_nextCheaper_4 (F : Nat) (sRo : MS) (p1 : Int32) (p2 : Int32) : Nat → Int32 → Option Int32
  | 0, _ => none
  | n + 1, x3 => if ((sRo.1 8) - (1 : Int32)) ≤ x3 then (f_X1_nextCheaper_40 F sRo p1 p2 ) else (bd (f_X9_hasPumpAt F sRo x3) fun o2 => if o2 = (0 : Int32) then (f_X1_nextCheaper_34 F sRo p1 p2 (f_X1_nextCheaper_4 F sRo p1 p2 n) x3) else (bd (f_X9_priceAt F sRo x3 (0 : Int32)) fun o4 => if p2 ≤ o4 then (f_X1_nextCheaper_34 F sRo p1 p2 (f_X1_nextCheaper_4 F sRo p1 p2 n) x3) else (some x3)))
def f_X1_nextCheaper (F : Nat) (sRo : MS) (p1 : Int32) (p2 : Int32) : Option Int32 := f_X1_nextCheaper_4 F sRo p1 p2 F (p1 + (1 : Int32))

def f_X1_pintsTo (F : Nat) (sRo : MS) (p1 : Int32) (p2 : Int32) (p3 : Int32) : Option Int32 := gd (vpb p2 9) <| lz (sRo.2.2.1 16 p2.toNatClampNeg) fun v2 => gd (vpb p1 9) <| lz (sRo.2.2.1 16 p1.toNatClampNeg) fun v4 => if (sRo.1 0) < (v2 - v4) then (some ((sRo.1 0) - p3)) else (lz (if (0 : Int32) < ((v2 - v4) - p3) then ((v2 - v4) - p3) else (0 : Int32)) fun v6 => some v6)

def f_X1_nextPump_30 (F : Nat) (sRo : MS) (p1 : Int32) : Option Int32 := some ((sRo.1 8) - (1 : Int32))
def f_X1_nextPump_4 (F : Nat) (sRo : MS) (p1 : Int32) : Nat → Int32 → Option Int32
  | 0, _ => none
  | n + 1, x2 => if ((sRo.1 8) - (1 : Int32)) ≤ x2 then (f_X1_nextPump_30 F sRo p1 ) else (bd (f_X9_hasPumpAt F sRo x2) fun o2 => if o2 = (0 : Int32) then (lz (x2 + (1 : Int32)) fun v4 => f_X1_nextPump_4 F sRo p1 n v4) else (some x2))
def f_X1_nextPump (F : Nat) (sRo : MS) (p1 : Int32) : Option Int32 := f_X1_nextPump_4 F sRo p1 F (p1 + (1 : Int32))

def f_X1_pintsByRule (F : Nat) (sDr : MS) (sRo : MS) (p2 : Int32) (p3 : Int32) (p4 : Int32) (p5 : Int32) : Option Int32 := if p2 = (0 : Int32) then (some ((sRo.1 0) - p4)) else (if p2 = (1 : Int32) then (bd (f_X1_nextCheaper F sRo p3 p5) fun o3 => bd (f_X1_pintsTo F sRo p3 o3 p4) fun o4 => some o4) else (if p2 = (2 : Int32) then (bd (f_X1_nextPump F sRo p3) fun o6 => bd (f_X1_pintsTo F sRo p3 o6 p4) fun o7 => some o7) else (if (sRo.1 0) ≤ ((2 : Int32) * p4) then (some (0 : Int32)) else (some ((sRo.1 0) - p4)))))

def f_X1_travel_126 (F : Nat) (sRo : MS) (p2 : Int32) (p3 : Int32) (x6 : Int32) (sDr : MS) (sDw : MS) : Option (Int32 × MS × MS) := lz (sI sDr 0 x6) fun s14 => some ((-2 : Int32), s14, sDw)
def f_X1_travel_104 (F : Nat) (sRo : MS) (p2 : Int32) (p3 : Int32) (k18 : Int32 → Int32 → Int32 → MS → MS → Option (Int32 × MS × MS)) (x4 : Int32) (x6 : Int32) (x8 : Int32) (y0 : Int32) (y1 : Int32) (sDr : MS) (sDw : MS) : Option (Int32 × MS × MS) := bd (f_X9_legPints F sRo x6) fun o11 => if (0 : Int32) ≤ (x4 + (x8 - o11)) then (lz (x6 + (1 : Int32)) fun v13 => k18 (x4 + (x8 - o11)) (y0 + y1) v13 sDr sDw) else (f_X1_travel_126 F sRo p2 p3 x6 sDr sDw)
def f_X1_travel_81 (F : Nat) (sRo : MS) (p2 : Int32) (p3 : Int32) (k18 : Int32 → Int32 → Int32 → MS → MS → Option (Int32 × MS × MS)) (x4 : Int32) (x5 : Int32) (x6 : Int32) (x7 : Int32) (y0 : Int32) (sDr : MS) (sDw : MS) : Option (Int32 × MS × MS) := if y0 ≤ (0 : Int32) then (f_X1_travel_104 F sRo p2 p3 k18 x4 x6 y0 x5 (0 : Int32) sDr sDw) else (f_X1_travel_104 F sRo p2 p3 k18 x4 x6 y0 x5 ((y0 * x7) + (sRo.1 2)) sDr sDw)
def f_X1_travel_58 (F : Nat) (sRo : MS) (p2 : Int32) (p3 : Int32) (k18 : Int32 → Int32 → Int32 → MS → MS → Option (Int32 × MS × MS)) (x4 : Int32) (x5 : Int32) (x6 : Int32) (y0 : Int32) (sDr : MS) (sDw : MS) : Option (Int32 × MS × MS) := if y0 ≤ (0 : Int32) then (f_X1_travel_81 F sRo p2 p3 k18 x4 x5 x6 y0 (0 : Int32) sDr sDw) else (bd (f_X1_pintsByRule F sDr sRo p2 x6 x4 y0) fun o9 => f_X1_travel_81 F sRo p2 p3 k18 x4 x5 x6 y0 o9 sDr sDw)
def f_X1_travel_18 (F : Nat) (sRo : MS) (p2 : Int32) (p3 : Int32) : Nat → Int32 → Int32 → Int32 → MS → MS → Option (Int32 × MS × MS)
  | 0, _, _, _, _, _ => none
  | n + 1, x4, x5, x6, sDr, sDw => if ((sRo.1 8) - (1 : Int32)) ≤ x6 then (some (x5, sDr, sDw)) else (if p3 = (0 : Int32) then (bd (f_X9_priceAt F sRo x6 (0 : Int32)) fun o4 => f_X1_travel_58 F sRo p2 p3 (f_X1_travel_18 F sRo p2 p3 n) x4 x5 x6 o4 sDr sDw) else (gd (vpb x6 9) <| lz (sRo.2.2.1 15 x6.toNatClampNeg) fun v6 => bd (f_X0_priceSeen F sRo v6 sDw) fun o7 => f_X1_travel_58 F sRo p2 p3 (f_X1_travel_18 F sRo p2 p3 n) x4 x5 x6 o7.1 sDr o7.2))
def f_X1_travel (F : Nat) (sRo : MS) (p2 : Int32) (p3 : Int32) (sDr : MS) (sDw : MS) : Option (Int32 × MS × MS) := lz (sI sDr 0 (-2 : Int32)) fun s1 => f_X1_travel_18 F sRo p2 p3 F (sRo.1 1) (0 : Int32) (0 : Int32) s1 sDw

def f_X1_travelOpen (F : Nat) (sRo : MS) (p2 : Int32) (sDr : MS) (sDw : MS) : Option (Int32 × MS × MS) := bd (f_X1_travel F sRo p2 (0 : Int32) sDr sDw) fun o1 => some (o1.1, o1.2.1, o1.2.2)

def f_X1_travelDrawn (F : Nat) (sRo : MS) (p2 : Int32) (p3 : Int32) (sDr : MS) (sDw : MS) : Option (Int32 × MS × MS) := lz (sI sDw 0 p3) fun s1 => bd (f_X1_travel F sRo p2 (1 : Int32) sDr s1) fun o2 => some (o2.1, o2.2.1, o2.2.2)

def f_X1_leaveStation_31 (F : Nat) (sRo : MS) (p2 : Int32) (p3 : Int32) (y1 : Int32) (y2 : Int32) (y3 : Int64) (sDr : MS) : Option MS := bd (f_X4_leave F 41 y1 y2 y3 (sDr.2.2.2 2)) fun o3 => lz (wB sDr 2 o3) fun s4 => some s4
def f_X1_leaveStation (F : Nat) (sRo : MS) (p2 : Int32) (p3 : Int32) (sDr : MS) : Option MS := bd (f_X9_legPints F sRo p2) fun o1 => if p3 = (0 : Int32) then (f_X1_leaveStation_31 F sRo p2 p3 (sRo.1 0) o1 ((sRo.1 4).toInt64 * (sDr.2.1 5)) sDr) else (f_X1_leaveStation_31 F sRo p2 p3 (sRo.1 0) o1 (0 : Int64) sDr)

def f_X1_chooseAll_36 (F : Nat) (sDr : MS) (sRo : MS) (nq0 : Nat) (p2 : Int32) (p3 : Int32) (p4 : Int32) (p5 : Int64) : Nat → Int32 → (Nat → Int32) → Option ((Nat → Int32))
  | 0, _, _ => none
  | n + 1, x8, fq0 => if (sRo.1 0) < x8 then (some fq0) else (bd (f_X1_pintsByRule F sDr sRo p2 p3 x8 p4) fun o4 => gd (vpb x8 nq0) <| lz (upd fq0 x8.toNatClampNeg (x8 + o4)) fun g6 => lz (x8 + (1 : Int32)) fun v7 => f_X1_chooseAll_36 F sDr sRo nq0 p2 p3 p4 p5 n v7 g6)
def f_X1_chooseAll (F : Nat) (sDr : MS) (sRo : MS) (nq0 : Nat) (p2 : Int32) (p3 : Int32) (p4 : Int32) (p5 : Int64) (fq0 : (Nat → Int32)) : Option ((Nat → Int32)) := if p2 = (4 : Int32) then (bd (f_X4_choose F 41 (sDr.2.2.2 2) nq0 (sRo.1 0) (p4.toInt64 * p5) ((sRo.1 2).toInt64 * p5) fq0) fun o2 => some o2) else (f_X1_chooseAll_36 F sDr sRo nq0 p2 p3 p4 p5 F (0 : Int32) fq0)

def f_X1_meetPump_86 (F : Nat) (nDc : Nat) (nDd : Nat) (sRo : MS) (p2 : Int32) (p3 : Int32) (p4 : Int64) : Nat → Int32 → Int32 → Int32 → Int64 → Int32 → MS → (Nat → Int32) → (Nat → Int32) → Option (MS × (Nat → Int32) × (Nat → Int32))
  | 0, _, _, _, _, _, _, _, _ => none
  | n + 1, x6, x7, x8, x9, x11, sDr, fDc, fDd => if (sRo.1 0) < x11 then (some (sDr, fDc, fDd)) else (gd (vpb x11 nDc) <| bd (f_X4_spend F 41 (sDr.2.2.2 2) x11 (fDc x11.toNatClampNeg) (x6.toInt64 * p4) x9) fun o14 => gd (vpb x11 nDd) <| bd (f_X4_spend F 41 (sDr.2.2.2 2) x11 (fDd x11.toNatClampNeg) (x7.toInt64 * p4) x9) fun o16 => gd (vpb x11 41) <| lz (sDr.2.2.2 2 x11.toNatClampNeg) fun v18 => lz ((((2 : Int32) * x8).toInt64 * v18) + (((10 : Int32) - x8).toInt64 * (o14 + o16))) fun v19 => gd (vpb x11 41) <| lz (sB sDr 2 x11.toNatClampNeg v19) fun s21 => lz (x11 + (1 : Int32)) fun v22 => f_X1_meetPump_86 F nDc nDd sRo p2 p3 p4 n x6 x7 x8 x9 v22 s21 fDc fDd)
def f_X1_meetPump_28 (F : Nat) (nDc : Nat) (nDd : Nat) (sRo : MS) (p2 : Int32) (p3 : Int32) (p4 : Int64) (x6 : Int32) (y0 : Int32) (sDr : MS) (fDc : (Nat → Int32)) (fDd : (Nat → Int32)) : Option (MS × (Nat → Int32) × (Nat → Int32)) := bd (f_X1_chooseAll F sDr sRo nDc p2 p3 x6 p4 fDc) fun o5 => bd (f_X1_chooseAll F sDr sRo nDd p2 p3 y0 p4 fDd) fun o6 => gd (vpb p3 9) <| lz (sRo.2.2.1 15 p3.toNatClampNeg) fun v8 => gd (vpb v8 9) <| lz (sRo.2.2.1 14 v8.toNatClampNeg) fun v10 => lz ((sRo.1 2).toInt64 * p4) fun v11 => f_X1_meetPump_86 F nDc nDd sRo p2 p3 p4 F x6 y0 v10 v11 (0 : Int32) sDr o5 o6
def f_X1_meetPump (F : Nat) (nDc : Nat) (nDd : Nat) (sRo : MS) (p2 : Int32) (p3 : Int32) (p4 : Int64) (sDr : MS) (fDc : (Nat → Int32)) (fDd : (Nat → Int32)) : Option (MS × (Nat → Int32) × (Nat → Int32)) := bd (f_X9_priceAt F sRo p3 (0 : Int32)) fun o1 => bd (f_X9_priceAt F sRo p3 (1 : Int32)) fun o2 => if o2 ≤ (0 : Int32) then (f_X1_meetPump_28 F nDc nDd sRo p2 p3 p4 o1 o1 sDr fDc fDd) else (bd (f_X9_priceAt F sRo p3 (1 : Int32)) fun o4 => f_X1_meetPump_28 F nDc nDd sRo p2 p3 p4 o1 o4 sDr fDc fDd)

def f_X1_lookDownTo_85 (F : Nat) (nDc : Nat) (nDd : Nat) (sRo : MS) (p2 : Int32) (p3 : Int32) (p4 : Int32) (k29 : Int32 → MS → (Nat → Int32) → (Nat → Int32) → Option (MS × (Nat → Int32) × (Nat → Int32))) (x5 : Int32) (sDr : MS) (fDc : (Nat → Int32)) (fDd : (Nat → Int32)) : Option (MS × (Nat → Int32) × (Nat → Int32)) := lz (x5 + (-1 : Int32)) fun v14 => k29 v14 sDr fDc fDd
def f_X1_lookDownTo_70 (F : Nat) (nDc : Nat) (nDd : Nat) (sRo : MS) (p2 : Int32) (p3 : Int32) (p4 : Int32) (k29 : Int32 → MS → (Nat → Int32) → (Nat → Int32) → Option (MS × (Nat → Int32) × (Nat → Int32))) (x5 : Int32) (y2 : Int32) (y3 : Int32) (y4 : Int64) (sDr : MS) (fDc : (Nat → Int32)) (fDd : (Nat → Int32)) : Option (MS × (Nat → Int32) × (Nat → Int32)) := bd (f_X1_meetPump F nDc nDd sRo y2 y3 y4 sDr fDc fDd) fun o11 => lz ((o11.1.2.1 5) * (20 : Int64)) fun v12 => lz (sL o11.1 5 v12) fun s13 => f_X1_lookDownTo_85 F nDc nDd sRo p2 p3 p4 k29 x5 s13 o11.2.1 o11.2.2
def f_X1_lookDownTo_29 (F : Nat) (nDc : Nat) (nDd : Nat) (sRo : MS) (p2 : Int32) (p3 : Int32) (p4 : Int32) : Nat → Int32 → MS → (Nat → Int32) → (Nat → Int32) → Option (MS × (Nat → Int32) × (Nat → Int32))
  | 0, _, _, _, _ => none
  | n + 1, x5, sDr, fDc, fDd => if x5 < p4 then (some (sDr, fDc, fDd)) else (bd (f_X1_leaveStation F sRo x5 p3 sDr) fun o7 => bd (f_X9_hasPumpAt F sRo x5) fun o8 => if o8 = (0 : Int32) then (f_X1_lookDownTo_85 F nDc nDd sRo p2 p3 p4 (f_X1_lookDownTo_29 F nDc nDd sRo p2 p3 p4 n) x5 o7 fDc fDd) else (if p3 = (0 : Int32) then (f_X1_lookDownTo_70 F nDc nDd sRo p2 p3 p4 (f_X1_lookDownTo_29 F nDc nDd sRo p2 p3 p4 n) x5 p2 x5 (o7.2.1 5) o7 fDc fDd) else (f_X1_lookDownTo_70 F nDc nDd sRo p2 p3 p4 (f_X1_lookDownTo_29 F nDc nDd sRo p2 p3 p4 n) x5 p2 x5 (0 : Int64) o7 fDc fDd)))
def f_X1_lookDownTo_18 (F : Nat) (nDc : Nat) (nDd : Nat) (sRo : MS) (p2 : Int32) (p3 : Int32) (p4 : Int32) (y1 : Int64) (sDr : MS) (fDc : (Nat → Int32)) (fDd : (Nat → Int32)) : Option (MS × (Nat → Int32) × (Nat → Int32)) := bd (f_J7_fill_d0a16 F 41 y1 (sDr.2.2.2 2)) fun o3 => lz (wB sDr 2 o3) fun s4 => lz ((sRo.1 8) - (2 : Int32)) fun v5 => f_X1_lookDownTo_29 F nDc nDd sRo p2 p3 p4 F v5 s4 fDc fDd
def f_X1_lookDownTo (F : Nat) (nDc : Nat) (nDd : Nat) (sRo : MS) (p2 : Int32) (p3 : Int32) (p4 : Int32) (sDr : MS) (fDc : (Nat → Int32)) (fDd : (Nat → Int32)) : Option (MS × (Nat → Int32) × (Nat → Int32)) := lz (sL sDr 5 (1 : Int64)) fun s1 => if p3 = (0 : Int32) then (f_X1_lookDownTo_18 F nDc nDd sRo p2 p3 p4 (0 : Int64) s1 fDc fDd) else (f_X1_lookDownTo_18 F nDc nDd sRo p2 p3 p4 (1 : Int64) s1 fDc fDd)

def f_X1_reckonMean (F : Nat) (nDc : Nat) (nDd : Nat) (sRo : MS) (p2 : Int32) (sDr : MS) (fDc : (Nat → Int32)) (fDd : (Nat → Int32)) (sFr : MS) : Option (MS × (Nat → Int32) × (Nat → Int32) × MS) := bd (f_X1_lookDownTo F nDc nDd sRo p2 (0 : Int32) (0 : Int32) sDr fDc fDd) fun o1 => gd (vpb (sRo.1 1) 41) <| lz (o1.1.2.2.2 2 (sRo.1 1).toNatClampNeg) fun v3 => bd (f_X2_become F v3 (o1.1.2.1 5) sFr) fun o4 => some (o1.1, o1.2.1, o1.2.2, o4)

def f_X1_reckonOdds (F : Nat) (nDc : Nat) (nDd : Nat) (sRo : MS) (p2 : Int32) (sDr : MS) (fDc : (Nat → Int32)) (fDd : (Nat → Int32)) (sFr : MS) : Option (MS × (Nat → Int32) × (Nat → Int32) × MS) := bd (f_X1_lookDownTo F nDc nDd sRo p2 (1 : Int32) (0 : Int32) sDr fDc fDd) fun o1 => gd (vpb (sRo.1 1) 41) <| lz (o1.1.2.2.2 2 (sRo.1 1).toNatClampNeg) fun v3 => bd (f_X2_become F v3 (o1.1.2.1 5) sFr) fun o4 => some (o1.1, o1.2.1, o1.2.2, o4)

def f_X1_ruleOfLeastMean_54 (F : Nat) (nDc : Nat) (nDd : Nat) (sRo : MS) (k7 : Int32 → Int64 → Int32 → MS → (Nat → Int32) → (Nat → Int32) → Option (Int32 × MS × (Nat → Int32) × (Nat → Int32))) (x2 : Int32) (x3 : Int64) (x5 : Int32) (sDr : MS) (fDc : (Nat → Int32)) (fDd : (Nat → Int32)) : Option (Int32 × MS × (Nat → Int32) × (Nat → Int32)) := lz (x5 + (1 : Int32)) fun v9 => k7 x2 x3 v9 sDr fDc fDd
def f_X1_ruleOfLeastMean_41 (F : Nat) (nDc : Nat) (nDd : Nat) (sRo : MS) (k7 : Int32 → Int64 → Int32 → MS → (Nat → Int32) → (Nat → Int32) → Option (Int32 × MS × (Nat → Int32) × (Nat → Int32))) (x5 : Int32) (sDr : MS) (fDc : (Nat → Int32)) (fDd : (Nat → Int32)) : Option (Int32 × MS × (Nat → Int32) × (Nat → Int32)) := gd (vpb (sRo.1 1) 41) <| lz (sDr.2.2.2 2 (sRo.1 1).toNatClampNeg) fun v8 => f_X1_ruleOfLeastMean_54 F nDc nDd sRo k7 x5 v8 x5 sDr fDc fDd
def f_X1_ruleOfLeastMean_7 (F : Nat) (nDc : Nat) (nDd : Nat) (sRo : MS) : Nat → Int32 → Int64 → Int32 → MS → (Nat → Int32) → (Nat → Int32) → Option (Int32 × MS × (Nat → Int32) × (Nat → Int32))
  | 0, _, _, _, _, _, _ => none
  | n + 1, x2, x3, x5, sDr, fDc, fDd => if (4 : Int32) ≤ x5 then (some (x2, sDr, fDc, fDd)) else (bd (f_X1_lookDownTo F nDc nDd sRo x5 (0 : Int32) (0 : Int32) sDr fDc fDd) fun o2 => if x5 = (0 : Int32) then (f_X1_ruleOfLeastMean_41 F nDc nDd sRo (f_X1_ruleOfLeastMean_7 F nDc nDd sRo n) x5 o2.1 o2.2.1 o2.2.2) else (gd (vpb (sRo.1 1) 41) <| lz (o2.1.2.2.2 2 (sRo.1 1).toNatClampNeg) fun v5 => if (0 : Int32) ≤ (lg_cmp v5 x3) then (f_X1_ruleOfLeastMean_54 F nDc nDd sRo (f_X1_ruleOfLeastMean_7 F nDc nDd sRo n) x2 x3 x5 o2.1 o2.2.1 o2.2.2) else (f_X1_ruleOfLeastMean_41 F nDc nDd sRo (f_X1_ruleOfLeastMean_7 F nDc nDd sRo n) x5 o2.1 o2.2.1 o2.2.2)))
def f_X1_ruleOfLeastMean (F : Nat) (nDc : Nat) (nDd : Nat) (sRo : MS) (sDr : MS) (fDc : (Nat → Int32)) (fDd : (Nat → Int32)) : Option (Int32 × MS × (Nat → Int32) × (Nat → Int32)) := f_X1_ruleOfLeastMean_7 F nDc nDd sRo F (0 : Int32) (0 : Int64) (0 : Int32) sDr fDc fDd

def f_X1_bestPints (F : Nat) (nDc : Nat) (nDd : Nat) (sRo : MS) (p2 : Int32) (p3 : Int32) (p4 : Int32) (sDr : MS) (fDc : (Nat → Int32)) (fDd : (Nat → Int32)) : Option (Int32 × MS × (Nat → Int32) × (Nat → Int32)) := bd (f_X1_lookDownTo F nDc nDd sRo (4 : Int32) (0 : Int32) (p2 + (1 : Int32)) sDr fDc fDd) fun o1 => bd (f_X1_leaveStation F sRo p2 (0 : Int32) o1.1) fun o2 => bd (f_X1_chooseAll F o2 sRo nDc (4 : Int32) p2 p4 (o2.2.1 5) o1.2.1) fun o3 => gd (vpb p3 nDc) <| some (((o3 p3.toNatClampNeg) - p3), o2, o3, o1.2.2)

def f_X6_forget (F : Nat) (sPl : MS) : Option MS := bd (f_J7_fill_53178 F 9 (0 : Int32) (sPl.2.2.1 0)) fun o1 => lz (wA sPl 0 o1) fun s2 => some s2

def f_X6_failsAt_43 (F : Nat) (sPl : MS) (sRo : MS) (k7 : Int32 → Int32 → Option Int32) (x2 : Int32) (x3 : Int32) : Option Int32 := if (sRo.1 0) < x2 then (some x3) else (bd (f_X9_legPints F sRo x3) fun o9 => if o9 ≤ x2 then (bd (f_X9_legPints F sRo x3) fun o11 => lz (x3 + (1 : Int32)) fun v12 => k7 (x2 - o11) v12) else (some x3))
def f_X6_failsAt_7 (F : Nat) (sPl : MS) (sRo : MS) : Nat → Int32 → Int32 → Option Int32
  | 0, _, _ => none
  | n + 1, x2, x3 => if ((sRo.1 8) - (1 : Int32)) ≤ x3 then (some (-2 : Int32)) else (gd (vpb x3 9) <| lz (x2 + (sPl.2.2.1 0 x3.toNatClampNeg)) fun v3 => gd (vpb x3 9) <| if (sPl.2.2.1 0 x3.toNatClampNeg) ≤ (0 : Int32) then (f_X6_failsAt_43 F sPl sRo (f_X6_failsAt_7 F sPl sRo n) v3 x3) else (bd (f_X9_hasPumpAt F sRo x3) fun o6 => if o6 = (0 : Int32) then (some x3) else (f_X6_failsAt_43 F sPl sRo (f_X6_failsAt_7 F sPl sRo n) v3 x3)))
def f_X6_failsAt (F : Nat) (sPl : MS) (sRo : MS) : Option Int32 := f_X6_failsAt_7 F sPl sRo F (sRo.1 1) (0 : Int32)

def f_X6_pence_46 (F : Nat) (sPl : MS) (sRo : MS) (k4 : Int32 → Int32 → Option Int32) (x3 : Int32) (y0 : Int32) (y1 : Int32) : Option Int32 := lz (x3 + (1 : Int32)) fun v7 => k4 (y0 + y1) v7
def f_X6_pence_4 (F : Nat) (sPl : MS) (sRo : MS) : Nat → Int32 → Int32 → Option Int32
  | 0, _, _ => none
  | n + 1, x2, x3 => if ((sRo.1 8) - (1 : Int32)) ≤ x3 then (some x2) else (gd (vpb x3 9) <| if (sPl.2.2.1 0 x3.toNatClampNeg) ≤ (0 : Int32) then (f_X6_pence_46 F sPl sRo (f_X6_pence_4 F sPl sRo n) x3 x2 (0 : Int32)) else (gd (vpb x3 9) <| bd (f_X9_priceAt F sRo x3 (0 : Int32)) fun o5 => lz (((sPl.2.2.1 0 x3.toNatClampNeg) * o5) + (sRo.1 2)) fun v6 => f_X6_pence_46 F sPl sRo (f_X6_pence_4 F sPl sRo n) x3 x2 v6))
def f_X6_pence (F : Nat) (sPl : MS) (sRo : MS) : Option Int32 := f_X6_pence_4 F sPl sRo F (0 : Int32) (0 : Int32)

def f_X6_minutes_37 (F : Nat) (sPl : MS) (sRo : MS) (k4 : Int32 → Int32 → Option Int32) (x3 : Int32) (y0 : Int32) (y1 : Int32) (y2 : Int32) : Option Int32 := lz (x3 + (1 : Int32)) fun v5 => k4 (y0 + (y1 + y2)) v5
def f_X6_minutes_4 (F : Nat) (sPl : MS) (sRo : MS) : Nat → Int32 → Int32 → Option Int32
  | 0, _, _ => none
  | n + 1, x2, x3 => if ((sRo.1 8) - (1 : Int32)) ≤ x3 then (some x2) else (bd (f_X9_legMinutes F sRo x3) fun o2 => gd (vpb x3 9) <| if (sPl.2.2.1 0 x3.toNatClampNeg) ≤ (0 : Int32) then (f_X6_minutes_37 F sPl sRo (f_X6_minutes_4 F sPl sRo n) x3 x2 o2 (0 : Int32)) else (f_X6_minutes_37 F sPl sRo (f_X6_minutes_4 F sPl sRo n) x3 x2 o2 (sRo.1 3)))
def f_X6_minutes (F : Nat) (sPl : MS) (sRo : MS) : Option Int32 := f_X6_minutes_4 F sPl sRo F (0 : Int32) (0 : Int32)

def f_X6_buyBest_31 (F : Nat) (sRo : MS) (nq0 : Nat) (p2 : Int32) : Nat → Int32 → Int32 → MS → (Nat → Int32) → Option (MS × (Nat → Int32))
  | 0, _, _, _, _ => none
  | n + 1, x4, x5, sPl, fq0 => if (sRo.1 0) < x5 then (some (sPl, fq0)) else (gd (vpb x5 nq0) <| bd (f_X4_spend F 41 (sPl.2.2.2 1) x5 (fq0 x5.toNatClampNeg) x4.toInt64 ((sRo.1 2).toInt64)) fun o5 => gd (vpb x5 41) <| lz (sB sPl 1 x5.toNatClampNeg o5) fun s7 => lz (x5 + (1 : Int32)) fun v8 => f_X6_buyBest_31 F sRo nq0 p2 n x4 v8 s7 fq0)
def f_X6_buyBest (F : Nat) (sRo : MS) (nq0 : Nat) (p2 : Int32) (sPl : MS) (fq0 : (Nat → Int32)) : Option (MS × (Nat → Int32)) := bd (f_X9_priceAt F sRo p2 (0 : Int32)) fun o1 => bd (f_X4_choose F 41 (sPl.2.2.2 1) nq0 (sRo.1 0) o1.toInt64 ((sRo.1 2).toInt64) fq0) fun o2 => f_X6_buyBest_31 F sRo nq0 p2 F o1 (0 : Int32) sPl o2

def f_X6_buyNothing_2 (F : Nat) (nq0 : Nat) : Nat → Int32 → (Nat → Int32) → Option ((Nat → Int32))
  | 0, _, _ => none
  | n + 1, x1, fq0 => if (Int32.ofNat nq0) ≤ x1 then (some fq0) else (gd (vpb x1 nq0) <| lz (upd fq0 x1.toNatClampNeg x1) fun g3 => lz (x1 + (1 : Int32)) fun v4 => f_X6_buyNothing_2 F nq0 n v4 g3)
def f_X6_buyNothing (F : Nat) (nq0 : Nat) (fq0 : (Nat → Int32)) : Option ((Nat → Int32)) := f_X6_buyNothing_2 F nq0 F (0 : Int32) fq0

def f_X6_look_75 (F : Nat) (sRo : MS) (p2 : Int32) (k15 : Int32 → MS → MS → Option (MS × MS)) (x3 : Int32) (sPl : MS) (sPc : MS) : Option (MS × MS) := lz (x3 + (-1 : Int32)) fun v17 => k15 v17 sPl sPc
def f_X6_look_70 (F : Nat) (sRo : MS) (p2 : Int32) (k15 : Int32 → MS → MS → Option (MS × MS)) (x3 : Int32) (sPl : MS) (sPc : MS) : Option (MS × MS) := gd (vpb x3 9) <| bd (f_X6_buyNothing F 41 (sPc.2.2.1 x3.toNatClampNeg)) fun o15 => lz (wA sPc x3.toNatClampNeg o15) fun s16 => f_X6_look_75 F sRo p2 k15 x3 sPl s16
def f_X6_look_15 (F : Nat) (sRo : MS) (p2 : Int32) : Nat → Int32 → MS → MS → Option (MS × MS)
  | 0, _, _, _ => none
  | n + 1, x3, sPl, sPc => if x3 < (0 : Int32) then (some (sPl, sPc)) else (bd (f_X9_legPints F sRo x3) fun o5 => bd (f_X4_leave F 41 (sRo.1 0) o5 (1099511627776 : Int64) (sPl.2.2.2 1)) fun o6 => lz (wB sPl 1 o6) fun s7 => gd (vpb x3 9) <| if x3 = p2 then (f_X6_look_70 F sRo p2 (f_X6_look_15 F sRo p2 n) x3 s7 sPc) else (bd (f_X9_hasPumpAt F sRo x3) fun o10 => if o10 = (0 : Int32) then (f_X6_look_70 F sRo p2 (f_X6_look_15 F sRo p2 n) x3 s7 sPc) else (bd (f_X6_buyBest F sRo 41 x3 s7 (sPc.2.2.1 x3.toNatClampNeg)) fun o12 => lz (wA sPc x3.toNatClampNeg o12.2) fun s13 => f_X6_look_75 F sRo p2 (f_X6_look_15 F sRo p2 n) x3 o12.1 s13)))
def f_X6_look (F : Nat) (sRo : MS) (p2 : Int32) (sPl : MS) (sPc : MS) : Option (MS × MS) := bd (f_J7_fill_d0a16 F 41 (0 : Int64) (sPl.2.2.2 1)) fun o1 => lz (wB sPl 1 o1) fun s2 => lz ((sRo.1 8) - (2 : Int32)) fun v3 => f_X6_look_15 F sRo p2 F v3 s2 sPc

def f_X6_answer (F : Nat) (p0 : Int64) : Option Int32 := if (lg_cmp p0 (1099511627776 : Int64)) < (0 : Int32) then (some p0.toInt32) else (some (-2 : Int32))

def f_X6_leastCost (F : Nat) (sRo : MS) (p2 : Int32) (sPl : MS) (sPc : MS) : Option (Int32 × MS × MS) := bd (f_X6_look F sRo p2 sPl sPc) fun o1 => gd (vpb (sRo.1 1) 41) <| lz (o1.1.2.2.2 1 (sRo.1 1).toNatClampNeg) fun v3 => bd (f_X6_answer F v3) fun o4 => some (o4, o1.1, o1.2)

def f_X6_levelOnComing_8 (F : Nat) (sPl : MS) (sPc : MS) (sRo : MS) (p2 : Int32) : Nat → Int32 → Int32 → Option Int32
  | 0, _, _ => none
  | n + 1, x3, x4 => if p2 ≤ x4 then (some x3) else (gd (vpb x4 9) <| gd (vpb x3 41) <| lz (sPc.2.2.1 x4.toNatClampNeg x3.toNatClampNeg) fun v4 => bd (f_X9_legPints F sRo x4) fun o5 => lz (if (0 : Int32) < (v4 - o5) then (v4 - o5) else (0 : Int32)) fun v6 => lz (x4 + (1 : Int32)) fun v7 => f_X6_levelOnComing_8 F sPl sPc sRo p2 n v6 v7)
def f_X6_levelOnComing (F : Nat) (sPl : MS) (sPc : MS) (sRo : MS) (p2 : Int32) : Option Int32 := f_X6_levelOnComing_8 F sPl sPc sRo p2 F (sRo.1 1) (0 : Int32)

def f_X6_cheapestPints (F : Nat) (sRo : MS) (p2 : Int32) (sPl : MS) (sPc : MS) : Option (Int32 × MS × MS) := bd (f_X6_leastCost F sRo (-1 : Int32) sPl sPc) fun o1 => if o1.1 = (-2 : Int32) then (some ((-2 : Int32), o1.2.1, o1.2.2)) else (bd (f_X6_levelOnComing F o1.2.1 o1.2.2 sRo p2) fun o3 => gd (vpb p2 9) <| gd (vpb o3 41) <| lz (o1.2.2.2.2.1 p2.toNatClampNeg o3.toNatClampNeg) fun v6 => some ((v6 - o3), o1.2.1, o1.2.2))

def f_X6_cheapestRest (F : Nat) (sRo : MS) (sPl : MS) (sPc : MS) : Option (Int32 × MS × MS) := bd (f_X6_leastCost F sRo (-1 : Int32) sPl sPc) fun o1 => if o1.1 = (-2 : Int32) then (some ((-2 : Int32), o1.2.1, o1.2.2)) else (bd (f_X6_levelOnComing F o1.2.1 o1.2.2 sRo ((sRo.1 8) - (1 : Int32))) fun o3 => some (o3, o1.2.1, o1.2.2))

def f_X6_worstGap_71 (F : Nat) (sRo : MS) (k20 : Int32 → Int32 → Int32 → MS → MS → Option (Int32 × MS × MS)) (x2 : Int32) (x3 : Int32) (x4 : Int32) (sPl : MS) (sPc : MS) : Option (Int32 × MS × MS) := lz (x4 + (1 : Int32)) fun v9 => k20 x2 x3 v9 sPl sPc
def f_X6_worstGap_20 (F : Nat) (sRo : MS) : Nat → Int32 → Int32 → Int32 → MS → MS → Option (Int32 × MS × MS)
  | 0, _, _, _, _, _ => none
  | n + 1, x2, x3, x4, sPl, sPc => if ((sRo.1 8) - (1 : Int32)) ≤ x4 then (some (x2, sPl, sPc)) else (bd (f_X9_hasPumpAt F sRo x4) fun o4 => if o4 = (0 : Int32) then (f_X6_worstGap_71 F sRo (f_X6_worstGap_20 F sRo n) x2 x3 x4 sPl sPc) else (bd (f_X6_leastCost F sRo x4 sPl sPc) fun o6 => if o6.1 = (-2 : Int32) then (some (x4, o6.2.1, o6.2.2)) else (if o6.1 ≤ x3 then (f_X6_worstGap_71 F sRo (f_X6_worstGap_20 F sRo n) x2 x3 x4 o6.2.1 o6.2.2) else (f_X6_worstGap_71 F sRo (f_X6_worstGap_20 F sRo n) x4 o6.1 x4 o6.2.1 o6.2.2))))
def f_X6_worstGap (F : Nat) (sRo : MS) (sPl : MS) (sPc : MS) : Option (Int32 × MS × MS) := bd (f_X6_leastCost F sRo (-1 : Int32) sPl sPc) fun o1 => if o1.1 = (-2 : Int32) then (some ((-1 : Int32), o1.2.1, o1.2.2)) else (f_X6_worstGap_20 F sRo F (-1 : Int32) (-1 : Int32) (0 : Int32) o1.2.1 o1.2.2)

def f_X6_stopHere_88 (F : Nat) (sRo : MS) (nq0 : Nat) (nq1 : Nat) (fq1 : (Nat → Int64)) (p1 : Int32) (k12 : Int32 → Int32 → (Nat → Int64) → Option ((Nat → Int64))) (x4 : Int32) (x5 : Int32) (fq0 : (Nat → Int64)) : Option ((Nat → Int64)) := lz (x5 + (-1 : Int32)) fun v15 => k12 x4 v15 fq0
def f_X6_stopHere_12 (F : Nat) (sRo : MS) (nq0 : Nat) (nq1 : Nat) (fq1 : (Nat → Int64)) (p1 : Int32) : Nat → Int32 → Int32 → (Nat → Int64) → Option ((Nat → Int64))
  | 0, _, _, _ => none
  | n + 1, x4, x5, fq0 => if x5 < (0 : Int32) then (some fq0) else (lz ((sRo.1 2).toInt64 + (p1.toInt64 * (x4 - x5).toInt64)) fun v2 => gd (vpb x4 nq1) <| lz (v2 + (fq1 x4.toNatClampNeg)) fun v4 => gd (vpb x5 nq0) <| lz (if v4 < (fq0 x5.toNatClampNeg) then v4 else (fq0 x5.toNatClampNeg)) fun v6 => lz (if v6 < (1099511627776 : Int64) then v6 else (1099511627776 : Int64)) fun v7 => gd (vpb x5 nq0) <| lz (vp_updL fq0 x5.toNatClampNeg v7) fun g9 => gd (vpb x5 nq1) <| lz ((fq1 x5.toNatClampNeg) + (p1.toInt64 * x5.toInt64)) fun v11 => gd (vpb x4 nq1) <| lz ((fq1 x4.toNatClampNeg) + (p1.toInt64 * x4.toInt64)) fun v13 => if (0 : Int32) ≤ (lg_cmp v11 v13) then (f_X6_stopHere_88 F sRo nq0 nq1 fq1 p1 (f_X6_stopHere_12 F sRo nq0 nq1 fq1 p1 n) x4 x5 g9) else (f_X6_stopHere_88 F sRo nq0 nq1 fq1 p1 (f_X6_stopHere_12 F sRo nq0 nq1 fq1 p1 n) x5 x5 g9))
def f_X6_stopHere (F : Nat) (sRo : MS) (nq0 : Nat) (nq1 : Nat) (fq1 : (Nat → Int64)) (p1 : Int32) (fq0 : (Nat → Int64)) : Option ((Nat → Int64)) := f_X6_stopHere_12 F sRo nq0 nq1 fq1 p1 F (sRo.1 0) (sRo.1 0) fq0

def f_X6_lookByStops_115 (F : Nat) (sPl : MS) (sRo : MS) (k31 : Int32 → MS → Option MS) (x2 : Int32) (sPb : MS) : Option MS := lz (x2 + (-1 : Int32)) fun v24 => k31 v24 sPb
def f_X6_lookByStops_81 (F : Nat) (sPl : MS) (sRo : MS) (k31 : Int32 → MS → Option MS) : Nat → Int32 → Int32 → MS → Option MS
  | 0, _, _, _ => none
  | n + 1, x2, x3, sPb => if x3 ≤ (0 : Int32) then (f_X6_lookByStops_115 F sPl sRo k31 x2 sPb) else (bd (f_X9_priceAt F sRo x2 (0 : Int32)) fun o17 => gd (vpb x3 10) <| gd (vpb (x3 - (1 : Int32)) 10) <| bd (f_X6_stopHere F sRo 41 41 (sPb.2.2.2 ((x3 - (1 : Int32)).toNatClampNeg)) o17 (sPb.2.2.2 x3.toNatClampNeg)) fun o20 => gd (!(Nat.beq x3.toNatClampNeg ((x3 - (1 : Int32)).toNatClampNeg))) <| lz (wB (wB sPb x3.toNatClampNeg o20) ((x3 - (1 : Int32)).toNatClampNeg) (sPb.2.2.2 ((x3 - (1 : Int32)).toNatClampNeg))) fun s22 => lz (x3 + (-1 : Int32)) fun v23 => f_X6_lookByStops_81 F sPl sRo k31 n x2 v23 s22)
def f_X6_lookByStops_70 (F : Nat) (sPl : MS) (sRo : MS) (k31 : Int32 → MS → Option MS) (x2 : Int32) (sPb : MS) : Option MS := bd (f_X9_hasPumpAt F sRo x2) fun o14 => if o14 = (0 : Int32) then (f_X6_lookByStops_115 F sPl sRo k31 x2 sPb) else (f_X6_lookByStops_81 F sPl sRo k31 F x2 (9 : Int32) sPb)
def f_X6_lookByStops_37 (F : Nat) (sPl : MS) (sRo : MS) (k31 : Int32 → MS → Option MS) : Nat → Int32 → Int32 → MS → Option MS
  | 0, _, _, _ => none
  | n + 1, x2, x3, sPb => if (9 : Int32) < x3 then (f_X6_lookByStops_70 F sPl sRo k31 x2 sPb) else (gd (vpb x3 10) <| bd (f_X9_legPints F sRo x2) fun o10 => bd (f_X4_leave F 41 (sRo.1 0) o10 (1099511627776 : Int64) (sPb.2.2.2 x3.toNatClampNeg)) fun o11 => lz (wB sPb x3.toNatClampNeg o11) fun s12 => lz (x3 + (1 : Int32)) fun v13 => f_X6_lookByStops_37 F sPl sRo k31 n x2 v13 s12)
def f_X6_lookByStops_31 (F : Nat) (sPl : MS) (sRo : MS) : Nat → Int32 → MS → Option MS
  | 0, _, _ => none
  | n + 1, x2, sPb => if x2 < (0 : Int32) then (some sPb) else (f_X6_lookByStops_37 F sPl sRo (f_X6_lookByStops_31 F sPl sRo n) F x2 (0 : Int32) sPb)
def f_X6_lookByStops_24 (F : Nat) (sPl : MS) (sRo : MS) (sPb : MS) : Option MS := lz ((sRo.1 8) - (2 : Int32)) fun v6 => f_X6_lookByStops_31 F sPl sRo F v6 sPb
def f_X6_lookByStops_2 (F : Nat) (sPl : MS) (sRo : MS) : Nat → Int32 → MS → Option MS
  | 0, _, _ => none
  | n + 1, x2, sPb => if (9 : Int32) < x2 then (f_X6_lookByStops_24 F sPl sRo sPb) else (gd (vpb x2 10) <| bd (f_J7_fill_d0a16 F 41 (0 : Int64) (sPb.2.2.2 x2.toNatClampNeg)) fun o3 => lz (wB sPb x2.toNatClampNeg o3) fun s4 => lz (x2 + (1 : Int32)) fun v5 => f_X6_lookByStops_2 F sPl sRo n v5 s4)
def f_X6_lookByStops (F : Nat) (sPl : MS) (sRo : MS) (sPb : MS) : Option MS := f_X6_lookByStops_2 F sPl sRo F (0 : Int32) sPb

def f_X6_leastWithin (F : Nat) (sPl : MS) (sRo : MS) (p2 : Int32) (sPb : MS) : Option (Int32 × MS) := bd (f_X6_lookByStops F sPl sRo sPb) fun o1 => gd (vpb p2 10) <| gd (vpb (sRo.1 1) 41) <| lz (o1.2.2.2 p2.toNatClampNeg (sRo.1 1).toNatClampNeg) fun v4 => bd (f_X6_answer F v4) fun o5 => some (o5, o1)

def f_X6_fewestStops_7 (F : Nat) (sPl : MS) (sRo : MS) : Nat → Int32 → MS → Option (Int32 × MS)
  | 0, _, _ => none
  | n + 1, x2, sPb => if (9 : Int32) < x2 then (some ((-2 : Int32), sPb)) else (gd (vpb x2 10) <| gd (vpb (sRo.1 1) 41) <| lz (sPb.2.2.2 x2.toNatClampNeg (sRo.1 1).toNatClampNeg) fun v5 => if (0 : Int32) ≤ (lg_cmp v5 (1099511627776 : Int64)) then (lz (x2 + (1 : Int32)) fun v7 => f_X6_fewestStops_7 F sPl sRo n v7 sPb) else (some (x2, sPb)))
def f_X6_fewestStops (F : Nat) (sPl : MS) (sRo : MS) (sPb : MS) : Option (Int32 × MS) := bd (f_X6_lookByStops F sPl sRo sPb) fun o1 => f_X6_fewestStops_7 F sPl sRo F (0 : Int32) o1

def f_X6_leastBeginning_8 (F : Nat) (sRo : MS) : Nat → Int32 → MS → MS → Option (Int32 × MS × MS)
  | 0, _, _, _ => none
  | n + 1, x2, sPl, sPc => if (sRo.1 0) < x2 then (some ((-2 : Int32), sPl, sPc)) else (gd (vpb x2 41) <| if (0 : Int32) ≤ (lg_cmp (sPl.2.2.2 1 x2.toNatClampNeg) (1099511627776 : Int64)) then (lz (x2 + (1 : Int32)) fun v5 => f_X6_leastBeginning_8 F sRo n v5 sPl sPc) else (some (x2, sPl, sPc)))
def f_X6_leastBeginning (F : Nat) (sRo : MS) (sPl : MS) (sPc : MS) : Option (Int32 × MS × MS) := bd (f_X6_look F sRo (-1 : Int32) sPl sPc) fun o1 => f_X6_leastBeginning_8 F sRo F (0 : Int32) o1.1 o1.2

def f_X5_stopAt_151 (F : Nat) (sNc : MS) (sRo : MS) (p2 : Int32) (p3 : Int32) (k64 : Int32 → Int32 → Int32 → Int32 → Int32 → MS → Option MS) (x5 : Int32) (x6 : Int32) (x7 : Int32) (x8 : Int32) (x9 : Int32) (sNe : MS) : Option MS := gd (vpb p2 9) <| lz (x9 + (1 : Int32)) fun v33 => k64 x5 x6 x7 x8 v33 sNe
def f_X5_stopAt_123 (F : Nat) (sNc : MS) (sRo : MS) (p2 : Int32) (p3 : Int32) (k64 : Int32 → Int32 → Int32 → Int32 → Int32 → MS → Option MS) (x5 : Int32) (x6 : Int32) (x7 : Int32) (x8 : Int32) (x9 : Int32) (sNe : MS) : Option MS := gd (vpb p2 9) <| gd (vpb x9 41) <| lz (sNc.2.2.1 p2.toNatClampNeg x9.toNatClampNeg) fun v27 => if (268435456 : Int32) ≤ v27 then (f_X5_stopAt_151 F sNc sRo p2 p3 k64 x5 x6 x7 x8 x9 sNe) else (gd (vpb x9 41) <| lz (sNc.2.2.1 p2.toNatClampNeg x9.toNatClampNeg) fun v30 => lz (if (v30 - (x6 * x9)) < x8 then (v30 - (x6 * x9)) else x8) fun v31 => f_X5_stopAt_151 F sNc sRo p2 p3 k64 x5 x6 x7 v31 x9 sNe)
def f_X5_stopAt_64 (F : Nat) (sNc : MS) (sRo : MS) (p2 : Int32) (p3 : Int32) : Nat → Int32 → Int32 → Int32 → Int32 → Int32 → MS → Option MS
  | 0, _, _, _, _, _, _ => none
  | n + 1, x5, x6, x7, x8, x9, sNe => gd (vpb p2 9) <| if (sRo.1 0) < x9 then (some sNe) else (gd (vpb x9 41) <| lz (sNc.2.2.1 p2.toNatClampNeg x9.toNatClampNeg) fun v15 => gd (vpb x9 41) <| lz (sA sNe 1 x9.toNatClampNeg v15) fun s17 => if x5 = (0 : Int32) then (f_X5_stopAt_123 F sNc sRo p2 p3 (f_X5_stopAt_64 F sNc sRo p2 p3 n) x5 x6 x7 x8 x9 s17) else (if (268435456 : Int32) ≤ x8 then (f_X5_stopAt_123 F sNc sRo p2 p3 (f_X5_stopAt_64 F sNc sRo p2 p3 n) x5 x6 x7 x8 x9 s17) else (gd (vpb x9 41) <| lz (sNc.2.2.1 p2.toNatClampNeg x9.toNatClampNeg) fun v21 => lz (if ((x8 + (x6 * x9)) + x7) < v21 then ((x8 + (x6 * x9)) + x7) else v21) fun v22 => gd (vpb x9 41) <| lz (sA s17 1 x9.toNatClampNeg v22) fun s24 => f_X5_stopAt_123 F sNc sRo p2 p3 (f_X5_stopAt_64 F sNc sRo p2 p3 n) x5 x6 x7 x8 x9 s24)))
def f_X5_stopAt_55 (F : Nat) (sNc : MS) (sRo : MS) (p2 : Int32) (p3 : Int32) (x5 : Int32) (x6 : Int32) (y0 : Int32) (sNe : MS) : Option MS := gd (vpb p2 9) <| f_X5_stopAt_64 F sNc sRo p2 p3 F x5 x6 y0 (268435456 : Int32) (0 : Int32) sNe
def f_X5_stopAt_38 (F : Nat) (sNc : MS) (sRo : MS) (p2 : Int32) (p3 : Int32) (x5 : Int32) (y0 : Int32) (sNe : MS) : Option MS := gd (vpb p2 9) <| if p3 = (0 : Int32) then (f_X5_stopAt_55 F sNc sRo p2 p3 x5 y0 (sRo.1 2) sNe) else (f_X5_stopAt_55 F sNc sRo p2 p3 x5 y0 (sRo.1 3) sNe)
def f_X5_stopAt_22 (F : Nat) (sNc : MS) (sRo : MS) (p2 : Int32) (p3 : Int32) (y0 : Int32) (sNe : MS) : Option MS := gd (vpb p2 9) <| if p3 = (0 : Int32) then (gd (vpb p2 9) <| lz (sRo.2.2.1 12 p2.toNatClampNeg) fun v8 => f_X5_stopAt_38 F sNc sRo p2 p3 y0 v8 sNe) else (f_X5_stopAt_38 F sNc sRo p2 p3 y0 (0 : Int32) sNe)
def f_X5_stopAt (F : Nat) (sNc : MS) (sRo : MS) (p2 : Int32) (p3 : Int32) (sNe : MS) : Option MS := gd (vpb p2 9) <| gd (vpb p2 9) <| lz (sRo.2.2.1 12 p2.toNatClampNeg) fun v3 => if v3 ≤ (0 : Int32) then (f_X5_stopAt_22 F sNc sRo p2 p3 (0 : Int32) sNe) else (f_X5_stopAt_22 F sNc sRo p2 p3 (1 : Int32) sNe)

def f_X5_goAlong_86 (F : Nat) (sNe : MS) (sRo : MS) (p2 : Int32) (p3 : Int32) (p4 : Int32) (k23 : Int32 → Int32 → Int32 → MS → Option (Int32 × MS)) (x5 : Int32) (x6 : Int32) (x8 : Int32) (sNc : MS) : Option (Int32 × MS) := gd (vpb p3 9) <| lz (x8 + (1 : Int32)) fun v17 => k23 x5 x6 v17 sNc
def f_X5_goAlong_23 (F : Nat) (sNe : MS) (sRo : MS) (p2 : Int32) (p3 : Int32) (p4 : Int32) : Nat → Int32 → Int32 → Int32 → MS → Option (Int32 × MS)
  | 0, _, _, _, _ => none
  | n + 1, x5, x6, x8, sNc => gd (vpb p3 9) <| if (sRo.1 0) < x8 then (gd (bob x5) <| some (x5, sNc)) else (gd (vpb x8 41) <| if (268435456 : Int32) ≤ (sNe.2.2.1 1 x8.toNatClampNeg) then (f_X5_goAlong_86 F sNe sRo p2 p3 p4 (f_X5_goAlong_23 F sNe sRo p2 p3 p4 n) x5 x6 x8 sNc) else (gd (vpb x8 41) <| gd (vpb (x8 - x6) 41) <| lz (sNc.2.2.1 p3.toNatClampNeg (x8 - x6).toNatClampNeg) fun v10 => if v10 ≤ ((sNe.2.2.1 1 x8.toNatClampNeg) + p4) then (f_X5_goAlong_86 F sNe sRo p2 p3 p4 (f_X5_goAlong_23 F sNe sRo p2 p3 p4 n) x5 x6 x8 sNc) else (gd (vpb x8 41) <| lz ((sNe.2.2.1 1 x8.toNatClampNeg) + p4) fun v13 => gd (vpb (x8 - x6) 41) <| lz (sA sNc p3.toNatClampNeg ((x8 - x6).toNatClampNeg) v13) fun s15 => f_X5_goAlong_86 F sNe sRo p2 p3 p4 (f_X5_goAlong_23 F sNe sRo p2 p3 p4 n) (1 : Int32) x6 x8 s15)))
def f_X5_goAlong (F : Nat) (sNe : MS) (sRo : MS) (p2 : Int32) (p3 : Int32) (p4 : Int32) (sNc : MS) : Option (Int32 × MS) := bd (f_X9_pintsOf F sRo p2 p3) fun o1 => gd (vpb p3 9) <| f_X5_goAlong_23 F sNe sRo p2 p3 p4 F (0 : Int32) o1 o1 sNc

def f_X5_goOn_63 (F : Nat) (sNe : MS) (sRo : MS) (p2 : Int32) (p3 : Int32) (k6 : Int32 → Int32 → MS → Option (Int32 × MS)) (x4 : Int32) (x5 : Int32) (sNc : MS) : Option (Int32 × MS) := lz (x5 + (1 : Int32)) fun v10 => k6 x4 v10 sNc
def f_X5_goOn_61 (F : Nat) (sNe : MS) (sRo : MS) (p2 : Int32) (p3 : Int32) (k6 : Int32 → Int32 → MS → Option (Int32 × MS)) (x5 : Int32) (y0 : Int32) (sNc : MS) : Option (Int32 × MS) := f_X5_goOn_63 F sNe sRo p2 p3 k6 y0 x5 sNc
def f_X5_goOn_56 (F : Nat) (sNe : MS) (sRo : MS) (p2 : Int32) (p3 : Int32) (k6 : Int32 → Int32 → MS → Option (Int32 × MS)) (x5 : Int32) (sNc : MS) : Option (Int32 × MS) := f_X5_goOn_61 F sNe sRo p2 p3 k6 x5 (1 : Int32) sNc
def f_X5_goOn_45 (F : Nat) (sNe : MS) (sRo : MS) (p2 : Int32) (p3 : Int32) (k6 : Int32 → Int32 → MS → Option (Int32 × MS)) (x4 : Int32) (x5 : Int32) (y2 : Int32) (y3 : Int32) (y4 : Int32) (sNc : MS) : Option (Int32 × MS) := bd (f_X5_goAlong F sNe sRo y2 y3 y4 sNc) fun o7 => if o7.1 = (0 : Int32) then (if x4 = (0 : Int32) then (f_X5_goOn_61 F sNe sRo p2 p3 k6 x5 (0 : Int32) o7.2) else (f_X5_goOn_56 F sNe sRo p2 p3 k6 x5 o7.2)) else (f_X5_goOn_56 F sNe sRo p2 p3 k6 x5 o7.2)
def f_X5_goOn_6 (F : Nat) (sNe : MS) (sRo : MS) (p2 : Int32) (p3 : Int32) : Nat → Int32 → Int32 → MS → Option (Int32 × MS)
  | 0, _, _, _ => none
  | n + 1, x4, x5, sNc => if (sRo.1 5) ≤ x5 then (gd (bob x4) <| some (x4, sNc)) else (bd (f_X9_isRoad F sRo p2 x5) fun o3 => if o3 = (0 : Int32) then (f_X5_goOn_63 F sNe sRo p2 p3 (f_X5_goOn_6 F sNe sRo p2 p3 n) x4 x5 sNc) else (if p3 = (0 : Int32) then (f_X5_goOn_45 F sNe sRo p2 p3 (f_X5_goOn_6 F sNe sRo p2 p3 n) x4 x5 p2 x5 (0 : Int32) sNc) else (bd (f_X9_minutesOf F sRo p2 x5) fun o6 => f_X5_goOn_45 F sNe sRo p2 p3 (f_X5_goOn_6 F sNe sRo p2 p3 n) x4 x5 p2 x5 o6 sNc)))
def f_X5_goOn (F : Nat) (sNe : MS) (sRo : MS) (p2 : Int32) (p3 : Int32) (sNc : MS) : Option (Int32 × MS) := f_X5_goOn_6 F sNe sRo p2 p3 F (0 : Int32) (0 : Int32) sNc

def f_X5_least_155 (F : Nat) (sRo : MS) (p2 : Int32) (x4 : Int32) (sNe : MS) (sNc : MS) : Option (Int32 × MS × MS) := if x4 = (268435456 : Int32) then (some ((-2 : Int32), sNe, sNc)) else (some (x4, sNe, sNc))
def f_X5_least_121 (F : Nat) (sRo : MS) (p2 : Int32) : Nat → Int32 → Int32 → MS → MS → Option (Int32 × MS × MS)
  | 0, _, _, _, _ => none
  | n + 1, x4, x5, sNe, sNc => if (sRo.1 0) < x5 then (f_X5_least_155 F sRo p2 x4 sNe sNc) else (bd (f_X9_goal F sRo) fun o20 => gd (vpb o20 9) <| gd (vpb x5 41) <| lz (sNc.2.2.1 o20.toNatClampNeg x5.toNatClampNeg) fun v23 => lz (if v23 < x4 then v23 else x4) fun v24 => lz (x5 + (1 : Int32)) fun v25 => f_X5_least_121 F sRo p2 n v24 v25 sNe sNc)
def f_X5_least_114 (F : Nat) (sRo : MS) (p2 : Int32) (sNe : MS) (sNc : MS) : Option (Int32 × MS × MS) := f_X5_least_121 F sRo p2 F (268435456 : Int32) (0 : Int32) sNe sNc
def f_X5_least_108 (F : Nat) (sRo : MS) (p2 : Int32) (k47 : Int32 → Int32 → MS → MS → Option (Int32 × MS × MS)) (x3 : Int32) (x4 : Int32) (sNe : MS) (sNc : MS) : Option (Int32 × MS × MS) := lz (x4 + (1 : Int32)) fun v18 => k47 x3 v18 sNe sNc
def f_X5_least_101 (F : Nat) (sRo : MS) (p2 : Int32) (k64 : Int32 → Int32 → Int32 → MS → MS → Option (Int32 × MS × MS)) (x4 : Int32) (x5 : Int32) (y0 : Int32) (sNe : MS) (sNc : MS) : Option (Int32 × MS × MS) := lz (x5 + (1 : Int32)) fun v17 => k64 y0 x4 v17 sNe sNc
def f_X5_least_96 (F : Nat) (sRo : MS) (p2 : Int32) (k64 : Int32 → Int32 → Int32 → MS → MS → Option (Int32 × MS × MS)) (x4 : Int32) (x5 : Int32) (sNe : MS) (sNc : MS) : Option (Int32 × MS × MS) := f_X5_least_101 F sRo p2 k64 x4 x5 (1 : Int32) sNe sNc
def f_X5_least_64 (F : Nat) (sRo : MS) (p2 : Int32) (k47 : Int32 → Int32 → MS → MS → Option (Int32 × MS × MS)) : Nat → Int32 → Int32 → Int32 → MS → MS → Option (Int32 × MS × MS)
  | 0, _, _, _, _, _ => none
  | n + 1, x3, x4, x5, sNe, sNc => if (sRo.1 5) ≤ x5 then (f_X5_least_108 F sRo p2 k47 x3 x4 sNe sNc) else (bd (f_X5_stopAt F sNc sRo x5 p2 sNe) fun o13 => bd (f_X5_goOn F o13 sRo x5 p2 sNc) fun o14 => if o14.1 = (0 : Int32) then (if x3 = (0 : Int32) then (f_X5_least_101 F sRo p2 (f_X5_least_64 F sRo p2 k47 n) x4 x5 (0 : Int32) o13 o14.2) else (f_X5_least_96 F sRo p2 (f_X5_least_64 F sRo p2 k47 n) x4 x5 o13 o14.2)) else (f_X5_least_96 F sRo p2 (f_X5_least_64 F sRo p2 k47 n) x4 x5 o13 o14.2))
def f_X5_least_47 (F : Nat) (sRo : MS) (p2 : Int32) : Nat → Int32 → Int32 → MS → MS → Option (Int32 × MS × MS)
  | 0, _, _, _, _ => none
  | n + 1, x3, x4, sNe, sNc => if x3 = (0 : Int32) then (f_X5_least_114 F sRo p2 sNe sNc) else (if (369 : Int32) ≤ x4 then (f_X5_least_114 F sRo p2 sNe sNc) else (f_X5_least_64 F sRo p2 (f_X5_least_47 F sRo p2 n) F (0 : Int32) x4 (0 : Int32) sNe sNc))
def f_X5_least_27 (F : Nat) (sRo : MS) (p2 : Int32) (sNe : MS) (sNc : MS) : Option (Int32 × MS × MS) := bd (f_X9_start F sRo) fun o6 => gd (vpb o6 9) <| gd (vpb (sRo.1 1) 41) <| lz (sA sNc o6.toNatClampNeg ((sRo.1 1).toNatClampNeg) (0 : Int32)) fun s9 => f_X5_least_47 F sRo p2 F (1 : Int32) (0 : Int32) sNe s9
def f_X5_least_2 (F : Nat) (sRo : MS) (p2 : Int32) : Nat → Int32 → MS → MS → Option (Int32 × MS × MS)
  | 0, _, _, _ => none
  | n + 1, x3, sNe, sNc => if (sRo.1 5) ≤ x3 then (f_X5_least_27 F sRo p2 sNe sNc) else (gd (vpb x3 9) <| bd (f_J7_fill_53178 F 41 (268435456 : Int32) (sNc.2.2.1 x3.toNatClampNeg)) fun o3 => lz (wA sNc x3.toNatClampNeg o3) fun s4 => lz (x3 + (1 : Int32)) fun v5 => f_X5_least_2 F sRo p2 n v5 sNe s4)
def f_X5_least (F : Nat) (sRo : MS) (p2 : Int32) (sNe : MS) (sNc : MS) : Option (Int32 × MS × MS) := f_X5_least_2 F sRo p2 F (0 : Int32) sNe sNc

def f_X5_fillNext_96 (F : Nat) (sRo : MS) (p2 : Int32) (k5 : Int32 → Int32 → MS → Option (Int32 × MS)) (x3 : Int32) (x4 : Int32) (sNe : MS) : Option (Int32 × MS) := lz (x4 + (1 : Int32)) fun v17 => k5 x3 v17 sNe
def f_X5_fillNext_71 (F : Nat) (sRo : MS) (p2 : Int32) (k5 : Int32 → Int32 → MS → Option (Int32 × MS)) (x3 : Int32) (x4 : Int32) (y0 : Int32) (sNe : MS) : Option (Int32 × MS) := gd (vpb x4 9) <| if y0 ≤ (sNe.2.2.1 2 x4.toNatClampNeg) then (f_X5_fillNext_96 F sRo p2 k5 x3 x4 sNe) else (gd (vpb x4 9) <| lz (sA sNe 2 x4.toNatClampNeg y0) fun s16 => f_X5_fillNext_96 F sRo p2 k5 (1 : Int32) x4 s16)
def f_X5_fillNext_5 (F : Nat) (sRo : MS) (p2 : Int32) : Nat → Int32 → Int32 → MS → Option (Int32 × MS)
  | 0, _, _, _ => none
  | n + 1, x3, x4, sNe => if (sRo.1 5) ≤ x4 then (gd (bob x3) <| some (x3, sNe)) else (bd (f_X9_isRoad F sRo p2 x4) fun o3 => if o3 = (0 : Int32) then (f_X5_fillNext_96 F sRo p2 (f_X5_fillNext_5 F sRo p2 n) x3 x4 sNe) else (gd (vpb p2 9) <| bd (f_X9_pintsOf F sRo p2 x4) fun o6 => if (sNe.2.2.1 2 p2.toNatClampNeg) < o6 then (f_X5_fillNext_96 F sRo p2 (f_X5_fillNext_5 F sRo p2 n) x3 x4 sNe) else (gd (vpb x4 9) <| lz (sRo.2.2.1 12 x4.toNatClampNeg) fun v9 => if v9 ≤ (0 : Int32) then (gd (vpb p2 9) <| bd (f_X9_pintsOf F sRo p2 x4) fun o12 => f_X5_fillNext_71 F sRo p2 (f_X5_fillNext_5 F sRo p2 n) x3 x4 ((sNe.2.2.1 2 p2.toNatClampNeg) - o12) sNe) else (f_X5_fillNext_71 F sRo p2 (f_X5_fillNext_5 F sRo p2 n) x3 x4 (sRo.1 0) sNe))))
def f_X5_fillNext (F : Nat) (sRo : MS) (p2 : Int32) (sNe : MS) : Option (Int32 × MS) := f_X5_fillNext_5 F sRo p2 F (0 : Int32) (0 : Int32) sNe

def f_X5_mostPints_104 (F : Nat) (sRo : MS) (p2 : Int32) (sNe : MS) : Option (Int32 × MS) := gd (vpb p2 9) <| some ((sNe.2.2.1 2 p2.toNatClampNeg), sNe)
def f_X5_mostPints_98 (F : Nat) (sRo : MS) (p2 : Int32) (k46 : Int32 → Int32 → MS → Option (Int32 × MS)) (x3 : Int32) (x4 : Int32) (sNe : MS) : Option (Int32 × MS) := lz (x4 + (1 : Int32)) fun v17 => k46 x3 v17 sNe
def f_X5_mostPints_91 (F : Nat) (sRo : MS) (p2 : Int32) (k63 : Int32 → Int32 → Int32 → MS → Option (Int32 × MS)) (x4 : Int32) (x5 : Int32) (y0 : Int32) (sNe : MS) : Option (Int32 × MS) := lz (x5 + (1 : Int32)) fun v16 => k63 y0 x4 v16 sNe
def f_X5_mostPints_86 (F : Nat) (sRo : MS) (p2 : Int32) (k63 : Int32 → Int32 → Int32 → MS → Option (Int32 × MS)) (x4 : Int32) (x5 : Int32) (sNe : MS) : Option (Int32 × MS) := f_X5_mostPints_91 F sRo p2 k63 x4 x5 (1 : Int32) sNe
def f_X5_mostPints_63 (F : Nat) (sRo : MS) (p2 : Int32) (k46 : Int32 → Int32 → MS → Option (Int32 × MS)) : Nat → Int32 → Int32 → Int32 → MS → Option (Int32 × MS)
  | 0, _, _, _, _ => none
  | n + 1, x3, x4, x5, sNe => if (sRo.1 5) ≤ x5 then (f_X5_mostPints_98 F sRo p2 k46 x3 x4 sNe) else (bd (f_X5_fillNext F sRo x5 sNe) fun o13 => if o13.1 = (0 : Int32) then (if x3 = (0 : Int32) then (f_X5_mostPints_91 F sRo p2 (f_X5_mostPints_63 F sRo p2 k46 n) x4 x5 (0 : Int32) o13.2) else (f_X5_mostPints_86 F sRo p2 (f_X5_mostPints_63 F sRo p2 k46 n) x4 x5 o13.2)) else (f_X5_mostPints_86 F sRo p2 (f_X5_mostPints_63 F sRo p2 k46 n) x4 x5 o13.2))
def f_X5_mostPints_46 (F : Nat) (sRo : MS) (p2 : Int32) : Nat → Int32 → Int32 → MS → Option (Int32 × MS)
  | 0, _, _, _ => none
  | n + 1, x3, x4, sNe => if x3 = (0 : Int32) then (f_X5_mostPints_104 F sRo p2 sNe) else (if (369 : Int32) ≤ x4 then (f_X5_mostPints_104 F sRo p2 sNe) else (f_X5_mostPints_63 F sRo p2 (f_X5_mostPints_46 F sRo p2 n) F (0 : Int32) x4 (0 : Int32) sNe))
def f_X5_mostPints_40 (F : Nat) (sRo : MS) (p2 : Int32) (y1 : Int32) (y2 : Int32) (sNe : MS) : Option (Int32 × MS) := gd (vpb y1 9) <| lz (sA sNe 2 y1.toNatClampNeg y2) fun s9 => f_X5_mostPints_46 F sRo p2 F (1 : Int32) (0 : Int32) s9
def f_X5_mostPints (F : Nat) (sRo : MS) (p2 : Int32) (sNe : MS) : Option (Int32 × MS) := bd (f_J7_fill_53178 F 9 (-2 : Int32) (sNe.2.2.1 2)) fun o1 => lz (wA sNe 2 o1) fun s2 => bd (f_X9_start F sRo) fun o3 => bd (f_X9_start F sRo) fun o4 => gd (vpb o4 9) <| lz (sRo.2.2.1 12 o4.toNatClampNeg) fun v6 => if v6 ≤ (0 : Int32) then (f_X5_mostPints_40 F sRo p2 o3 (sRo.1 1) s2) else (f_X5_mostPints_40 F sRo p2 o3 (sRo.1 0) s2)

def f_X5_nearNext_58 (F : Nat) (sRo : MS) (p2 : Int32) (k2 : Int32 → MS → Option MS) (x3 : Int32) (sNe : MS) : Option MS := lz (x3 + (1 : Int32)) fun v12 => k2 v12 sNe
def f_X5_nearNext_2 (F : Nat) (sRo : MS) (p2 : Int32) : Nat → Int32 → MS → Option MS
  | 0, _, _ => none
  | n + 1, x3, sNe => if (sRo.1 5) ≤ x3 then (some sNe) else (bd (f_X9_isRoad F sRo p2 x3) fun o2 => if o2 = (0 : Int32) then (f_X5_nearNext_58 F sRo p2 (f_X5_nearNext_2 F sRo p2 n) x3 sNe) else (gd (vpb p2 9) <| if (268435456 : Int32) ≤ (sNe.2.2.1 2 p2.toNatClampNeg) then (f_X5_nearNext_58 F sRo p2 (f_X5_nearNext_2 F sRo p2 n) x3 sNe) else (gd (vpb x3 9) <| gd (vpb p2 9) <| bd (f_X9_pintsOf F sRo p2 x3) fun o8 => lz (if ((sNe.2.2.1 2 p2.toNatClampNeg) + o8) < (sNe.2.2.1 2 x3.toNatClampNeg) then ((sNe.2.2.1 2 p2.toNatClampNeg) + o8) else (sNe.2.2.1 2 x3.toNatClampNeg)) fun v9 => gd (vpb x3 9) <| lz (sA sNe 2 x3.toNatClampNeg v9) fun s11 => f_X5_nearNext_58 F sRo p2 (f_X5_nearNext_2 F sRo p2 n) x3 s11)))
def f_X5_nearNext (F : Nat) (sRo : MS) (p2 : Int32) (sNe : MS) : Option MS := f_X5_nearNext_2 F sRo p2 F (0 : Int32) sNe

def f_X5_nearest_57 (F : Nat) (sRo : MS) (p2 : Int32) (p3 : Int32) (sNe : MS) : Option (Int32 × MS) := gd (vpb p3 9) <| if (sNe.2.2.1 2 p3.toNatClampNeg) = (268435456 : Int32) then (some ((-2 : Int32), sNe)) else (gd (vpb p3 9) <| some ((sNe.2.2.1 2 p3.toNatClampNeg), sNe))
def f_X5_nearest_51 (F : Nat) (sRo : MS) (p2 : Int32) (p3 : Int32) (k19 : Int32 → MS → Option (Int32 × MS)) (x4 : Int32) (sNe : MS) : Option (Int32 × MS) := lz (x4 + (1 : Int32)) fun v9 => k19 v9 sNe
def f_X5_nearest_29 (F : Nat) (sRo : MS) (p2 : Int32) (p3 : Int32) (k19 : Int32 → MS → Option (Int32 × MS)) : Nat → Int32 → Int32 → MS → Option (Int32 × MS)
  | 0, _, _, _ => none
  | n + 1, x4, x5, sNe => if (sRo.1 5) ≤ x5 then (f_X5_nearest_51 F sRo p2 p3 k19 x4 sNe) else (bd (f_X5_nearNext F sRo x5 sNe) fun o7 => lz (x5 + (1 : Int32)) fun v8 => f_X5_nearest_29 F sRo p2 p3 k19 n x4 v8 o7)
def f_X5_nearest_19 (F : Nat) (sRo : MS) (p2 : Int32) (p3 : Int32) : Nat → Int32 → MS → Option (Int32 × MS)
  | 0, _, _ => none
  | n + 1, x4, sNe => if (9 : Int32) ≤ x4 then (f_X5_nearest_57 F sRo p2 p3 sNe) else (f_X5_nearest_29 F sRo p2 p3 (f_X5_nearest_19 F sRo p2 p3 n) F x4 (0 : Int32) sNe)
def f_X5_nearest (F : Nat) (sRo : MS) (p2 : Int32) (p3 : Int32) (sNe : MS) : Option (Int32 × MS) := bd (f_J7_fill_53178 F 9 (268435456 : Int32) (sNe.2.2.1 2)) fun o1 => lz (wA sNe 2 o1) fun s2 => gd (vpb p2 9) <| lz (sA s2 2 p2.toNatClampNeg (0 : Int32)) fun s4 => f_X5_nearest_19 F sRo p2 p3 F (0 : Int32) s4

def f_X8_beforeBuying (F : Nat) (p0 : Int32) (p1 : Int32) (p2 : Int64) : Option Int64 := if p1 = (0 : Int32) then (some (0 : Int64)) else (gd (nzb p1) <| if (p0 - p0 / p1 * p1) = (0 : Int32) then (gd (nzb p1) <| if (p0 / p1) ≤ (40 : Int32) then (some (p2 >>> ((p0 / p1).toInt64 &&& 63))) else (some (0 : Int64))) else (some (0 : Int64)))

def f_X8_beforeReceipt (F : Nat) (sRo : MS) (p1 : Int32) (p2 : Int64) : Option Int64 := gd (vpb p1 5) <| lz (sRo.2.2.1 17 p1.toNatClampNeg) fun v2 => gd (vpb p1 5) <| lz (sRo.2.2.1 18 p1.toNatClampNeg) fun v4 => gd (vpb v2 9) <| lz (sRo.2.2.1 12 v2.toNatClampNeg) fun v6 => bd (f_X8_beforeBuying F v4 v6 p2) fun o7 => gd (vpb v2 9) <| lz (sRo.2.2.1 13 v2.toNatClampNeg) fun v9 => bd (f_X8_beforeBuying F v4 v9 p2) fun o10 => some (o7 ||| o10)

def f_X8_fittingBeginnings_108 (F : Nat) (sRe : MS) (sRo : MS) (p2 : Int32) (x5 : Int64) (x7 : Int32) : Option Int64 := if (0 : Int32) ≤ x7 then (some (0 : Int64)) else (some x5)
def f_X8_fittingBeginnings_102 (F : Nat) (sRe : MS) (sRo : MS) (p2 : Int32) (k27 : Int64 → Int64 → Int32 → Int32 → Option Int64) (x3 : Int64) (x5 : Int64) (x7 : Int32) (x8 : Int32) : Option Int64 := lz (x8 + (-1 : Int32)) fun v17 => k27 x3 x5 x7 v17
def f_X8_fittingBeginnings_70 (F : Nat) (sRe : MS) (sRo : MS) (p2 : Int32) (k27 : Int64 → Int64 → Int32 → Int32 → Option Int64) (x3 : Int64) (x5 : Int64) (x7 : Int32) (x8 : Int32) : Option Int64 := if x8 ≤ (0 : Int32) then (f_X8_fittingBeginnings_102 F sRe sRo p2 k27 x3 x5 x7 x8) else (gd (vpb (x8 - (1 : Int32)) 9) <| lz (sRe.2.2.1 7 (x8 - (1 : Int32)).toNatClampNeg) fun v13 => gd (vpb x8 9) <| bd (f_X9_pintsOf F sRo v13 (sRe.2.2.1 7 x8.toNatClampNeg)) fun o15 => lz ((x5 <<< (o15.toInt64 &&& 63)) &&& x3) fun v16 => f_X8_fittingBeginnings_102 F sRe sRo p2 k27 x3 v16 x7 x8)
def f_X8_fittingBeginnings_32 (F : Nat) (sRe : MS) (sRo : MS) (p2 : Int32) (k27 : Int64 → Int64 → Int32 → Int32 → Option Int64) : Nat → Int64 → Int64 → Int32 → Int32 → Option Int64
  | 0, _, _, _, _ => none
  | n + 1, x3, x5, x7, x8 => if x7 < (0 : Int32) then (f_X8_fittingBeginnings_70 F sRe sRo p2 k27 x3 x5 x7 x8) else (gd (vpb x7 5) <| lz (sRo.2.2.1 17 x7.toNatClampNeg) fun v6 => gd (vpb x8 9) <| if v6 = (sRe.2.2.1 7 x8.toNatClampNeg) then (bd (f_X8_beforeReceipt F sRo x7 x5) fun o9 => lz (x7 + (-1 : Int32)) fun v10 => f_X8_fittingBeginnings_32 F sRe sRo p2 k27 n x3 o9 v10 x8) else (f_X8_fittingBeginnings_70 F sRe sRo p2 k27 x3 x5 x7 x8))
def f_X8_fittingBeginnings_27 (F : Nat) (sRe : MS) (sRo : MS) (p2 : Int32) : Nat → Int64 → Int64 → Int32 → Int32 → Option Int64
  | 0, _, _, _, _ => none
  | n + 1, x3, x5, x7, x8 => if x8 < (0 : Int32) then (f_X8_fittingBeginnings_108 F sRe sRo p2 x5 x7) else (f_X8_fittingBeginnings_32 F sRe sRo p2 (f_X8_fittingBeginnings_27 F sRe sRo p2 n) F x3 x5 x7 x8)
def f_X8_fittingBeginnings (F : Nat) (sRe : MS) (sRo : MS) (p2 : Int32) : Option Int64 := lz ((1 : Int64) <<< (((sRo.1 0) + (1 : Int32)).toInt64 &&& 63)) fun v1 => lz ((sRo.1 9) - (1 : Int32)) fun v2 => f_X8_fittingBeginnings_27 F sRe sRo p2 F (v1 - (1 : Int64)) (v1 - (1 : Int64)) v2 (p2 - (1 : Int32))

def f_X8_weigh_82 (F : Nat) (sRo : MS) (p2 : Int32) (p3 : Int32) (y1 : Int32) (sRe : MS) : Option MS := lz (sI sRe 2 y1) fun s10 => lz (sI s10 1 ((s10.1 1) ||| p3)) fun s11 => lz ((s11.1 0) + (1 : Int32)) fun v12 => lz (sI s11 0 v12) fun s13 => some s13
def f_X8_weigh_64 (F : Nat) (sRo : MS) (p2 : Int32) (p3 : Int32) (sRe : MS) : Option MS := if (sRe.1 0) = (0 : Int32) then (f_X8_weigh_82 F sRo p2 p3 p3 sRe) else (f_X8_weigh_82 F sRo p2 p3 ((sRe.1 2) &&& p3) sRe)
def f_X8_weigh (F : Nat) (sRo : MS) (p2 : Int32) (p3 : Int32) (sRe : MS) : Option MS := bd (f_X8_fittingBeginnings F sRe sRo p2) fun o1 => lz (sL sRe 3 ((sRe.2.1 3) ||| o1)) fun s2 => lz ((o1 >>> ((sRo.1 1).toInt64 &&& 63)) &&& (1 : Int64)) fun v3 => if (lg_cmp v3 (0 : Int64)) = (0 : Int32) then (some s2) else (if (s2.1 0) = (s2.1 6) then (gd (vpb p2 10) <| lz (wA s2 4 (va_cpy (s2.2.2.1 7) (s2.2.2.1 4) (0 : Int32).toNatClampNeg (0 : Int32).toNatClampNeg p2.toNatClampNeg)) fun s7 => lz (sI s7 5 p2) fun s8 => f_X8_weigh_64 F sRo p2 p3 s8) else (f_X8_weigh_64 F sRo p2 p3 s2))

def f_X8_extend_88 (F : Nat) (sRo : MS) (p2 : Int32) (p3 : Int32) (rc : Int32 → Int32 → MS → Option MS) (k37 : Int32 → Int32 → MS → Option MS) (x4 : Int32) (x5 : Int32) (sRe : MS) : Option MS := lz (x5 + (1 : Int32)) fun v14 => k37 x4 v14 sRe
def f_X8_extend_37 (F : Nat) (sRo : MS) (p2 : Int32) (p3 : Int32) (rc : Int32 → Int32 → MS → Option MS) : Nat → Int32 → Int32 → MS → Option MS
  | 0, _, _, _ => none
  | n + 1, x4, x5, sRe => if (sRo.1 5) ≤ x5 then (some sRe) else (bd (f_X9_isRoad F sRo x4 x5) fun o8 => if o8 = (0 : Int32) then (f_X8_extend_88 F sRo p2 p3 rc (f_X8_extend_37 F sRo p2 p3 rc n) x4 x5 sRe) else (if ((p3 >>> (x5 &&& 31)) &&& (1 : Int32)) = (0 : Int32) then (gd (vpb p2 9) <| lz (sA sRe 7 p2.toNatClampNeg x5) fun s12 => bd (rc (p2 + (1 : Int32)) (p3 ||| ((1 : Int32) <<< (x5 &&& 31))) s12) fun o13 => f_X8_extend_88 F sRo p2 p3 rc (f_X8_extend_37 F sRo p2 p3 rc n) x4 x5 o13) else (f_X8_extend_88 F sRo p2 p3 rc (f_X8_extend_37 F sRo p2 p3 rc n) x4 x5 sRe)))
def f_X8_extend_b (F : Nat) (sRo : MS) (p2 : Int32) (p3 : Int32) (rc : Int32 → Int32 → MS → Option MS) (sRe : MS) : Option MS := gd (vpb (p2 - (1 : Int32)) 9) <| lz (sRe.2.2.1 7 (p2 - (1 : Int32)).toNatClampNeg) fun v2 => bd (f_X9_goal F sRo) fun o3 => if v2 = o3 then (bd (f_X8_weigh F sRo p2 p3 sRe) fun o6 => some o6) else (if p2 < (9 : Int32) then (f_X8_extend_37 F sRo p2 p3 rc F v2 (0 : Int32) sRe) else (some sRe))
def f_X8_extend (F : Nat) (sRo : MS) : Nat → Int32 → Int32 → MS → Option MS
  | 0, _, _, _ => none
  | d + 1, p2, p3, sRe => f_X8_extend_b F sRo p2 p3 (f_X8_extend F sRo d) sRe

def f_X8_search (F : Nat) (sRo : MS) (p2 : Int32) (sRe : MS) : Option MS := lz (sI sRe 0 (0 : Int32)) fun s1 => lz (sI s1 1 (0 : Int32)) fun s2 => lz (sI s2 2 (0 : Int32)) fun s3 => lz (sL s3 3 (0 : Int64)) fun s4 => lz (sI s4 5 (0 : Int32)) fun s5 => lz (sI s5 6 p2) fun s6 => bd (f_X9_start F sRo) fun o7 => gd (vpb (0 : Int32) 9) <| lz (sA s6 7 ((0 : Int32).toNatClampNeg) o7) fun s9 => bd (f_X9_start F sRo) fun o10 => bd (f_X8_extend F sRo 20 (1 : Int32) ((1 : Int32) <<< (o10 &&& 31)) s9) fun o11 => some o11

def f_X3_seePump (F : Nat) (sRo : MS) (sDw : MS) (sJo : MS) : Option (MS × MS) := gd (vpb (6 : Int32) 7) <| lz (sJo.2.2.1 0 (6 : Int32).toNatClampNeg) fun v2 => lz (sI sDw 0 v2) fun s3 => gd (vpb (0 : Int32) 7) <| lz (sJo.2.2.1 0 (0 : Int32).toNatClampNeg) fun v5 => bd (f_X0_priceSeen F sRo v5 s3) fun o6 => gd (vpb (4 : Int32) 7) <| lz (sA sJo 0 ((4 : Int32).toNatClampNeg) o6.1) fun s8 => gd (vpb (6 : Int32) 7) <| lz (sA s8 0 ((6 : Int32).toNatClampNeg) (o6.2.1 0)) fun s10 => gd (vpb (5 : Int32) 7) <| lz (sA s10 0 ((5 : Int32).toNatClampNeg) (0 : Int32)) fun s12 => some (o6.2, s12)

def f_X3_begin (F : Nat) (sRo : MS) (sDw : MS) (sJo : MS) : Option (MS × MS) := lz (sI sJo 1 (0 : Int32)) fun s1 => lz (sI s1 2 (0 : Int32)) fun s2 => bd (f_J7_fill_53178 F 7 (0 : Int32) (s2.2.2.1 0)) fun o3 => lz (wA s2 0 o3) fun s4 => bd (f_X9_start F sRo) fun o5 => gd (vpb (0 : Int32) 7) <| lz (sA s4 0 ((0 : Int32).toNatClampNeg) o5) fun s7 => gd (vpb (1 : Int32) 7) <| lz (sA s7 0 ((1 : Int32).toNatClampNeg) (sRo.1 1)) fun s9 => bd (f_X3_seePump F sRo sDw s9) fun o10 => some (o10.1, o10.2)

def f_X3_keep (F : Nat) (sJo : MS) (sJk : MS) : Option (MS × MS) := lz (((sJo.1 3) + (1 : Int32)) - ((sJo.1 3) + (1 : Int32)) / (12 : Int32) * (12 : Int32)) fun v1 => lz (sI sJo 3 v1) fun s2 => gd (vpb (s2.1 3) 12) <| lz (wA sJk ((s2.1 3).toNatClampNeg) (va_cpy (s2.2.2.1 0) (sJk.2.2.1 ((s2.1 3).toNatClampNeg)) (0 : Int32).toNatClampNeg (0 : Int32).toNatClampNeg (7 : Int32).toNatClampNeg)) fun s4 => lz (if ((s2.1 1) + (1 : Int32)) < (12 : Int32) then ((s2.1 1) + (1 : Int32)) else (12 : Int32)) fun v5 => lz (sI s2 1 v5) fun s6 => some (s6, s4)

def f_X3_takeIn_46 (F : Nat) (sRo : MS) (p2 : Int32) (sJo : MS) (sJk : MS) : Option (MS × MS) := gd (vpb (1 : Int32) 7) <| lz (sJo.2.2.1 0 (1 : Int32).toNatClampNeg) fun v16 => gd (vpb (1 : Int32) 7) <| lz (sA sJo 0 ((1 : Int32).toNatClampNeg) (v16 + p2)) fun s18 => gd (vpb (2 : Int32) 7) <| lz (s18.2.2.1 0 (2 : Int32).toNatClampNeg) fun v20 => gd (vpb (4 : Int32) 7) <| lz (s18.2.2.1 0 (4 : Int32).toNatClampNeg) fun v22 => gd (vpb (2 : Int32) 7) <| lz (sA s18 0 ((2 : Int32).toNatClampNeg) (v20 + (p2 * v22))) fun s24 => some (s24, sJk)
def f_X3_takeIn (F : Nat) (sRo : MS) (p2 : Int32) (sJo : MS) (sJk : MS) : Option (MS × MS) := bd (f_X3_keep F sJo sJk) fun o1 => gd (vpb (5 : Int32) 7) <| lz (o1.1.2.2.1 0 (5 : Int32).toNatClampNeg) fun v3 => if v3 = (0 : Int32) then (gd (vpb (2 : Int32) 7) <| lz (o1.1.2.2.1 0 (2 : Int32).toNatClampNeg) fun v6 => gd (vpb (2 : Int32) 7) <| lz (sA o1.1 0 ((2 : Int32).toNatClampNeg) (v6 + (sRo.1 2))) fun s8 => gd (vpb (3 : Int32) 7) <| lz (s8.2.2.1 0 (3 : Int32).toNatClampNeg) fun v10 => gd (vpb (3 : Int32) 7) <| lz (sA s8 0 ((3 : Int32).toNatClampNeg) (v10 + (sRo.1 3))) fun s12 => gd (vpb (5 : Int32) 7) <| lz (sA s12 0 ((5 : Int32).toNatClampNeg) (1 : Int32)) fun s14 => f_X3_takeIn_46 F sRo p2 s14 o1.2) else (f_X3_takeIn_46 F sRo p2 o1.1 o1.2)

def f_X3_canGo (F : Nat) (sJo : MS) (sRo : MS) (p2 : Int32) : Option Int32 := gd (vpb (0 : Int32) 7) <| lz (sJo.2.2.1 0 (0 : Int32).toNatClampNeg) fun v2 => bd (f_X9_isRoad F sRo v2 p2) fun o3 => if o3 = (0 : Int32) then (some (0 : Int32)) else (gd (vpb (1 : Int32) 7) <| lz (sJo.2.2.1 0 (1 : Int32).toNatClampNeg) fun v6 => gd (vpb (0 : Int32) 7) <| lz (sJo.2.2.1 0 (0 : Int32).toNatClampNeg) fun v8 => bd (f_X9_pintsOf F sRo v8 p2) fun o9 => if v6 < o9 then (some (0 : Int32)) else (some (1 : Int32)))

def f_X3_goTo (F : Nat) (sRo : MS) (p2 : Int32) (sDw : MS) (sJo : MS) (sJk : MS) : Option (MS × MS × MS) := bd (f_X3_keep F sJo sJk) fun o1 => gd (vpb (1 : Int32) 7) <| lz (o1.1.2.2.1 0 (1 : Int32).toNatClampNeg) fun v3 => gd (vpb (0 : Int32) 7) <| lz (o1.1.2.2.1 0 (0 : Int32).toNatClampNeg) fun v5 => bd (f_X9_pintsOf F sRo v5 p2) fun o6 => gd (vpb (1 : Int32) 7) <| lz (sA o1.1 0 ((1 : Int32).toNatClampNeg) (v3 - o6)) fun s8 => gd (vpb (3 : Int32) 7) <| lz (s8.2.2.1 0 (3 : Int32).toNatClampNeg) fun v10 => gd (vpb (0 : Int32) 7) <| lz (s8.2.2.1 0 (0 : Int32).toNatClampNeg) fun v12 => bd (f_X9_minutesOf F sRo v12 p2) fun o13 => gd (vpb (3 : Int32) 7) <| lz (sA s8 0 ((3 : Int32).toNatClampNeg) (v10 + o13)) fun s15 => gd (vpb (0 : Int32) 7) <| lz (sA s15 0 ((0 : Int32).toNatClampNeg) p2) fun s17 => bd (f_X3_seePump F sRo sDw s17) fun o18 => some (o18.1, o18.2, o1.2)

def f_X3_stay (F : Nat) (sRo : MS) (sDw : MS) (sJo : MS) (sJk : MS) : Option (MS × MS × MS) := bd (f_X3_keep F sJo sJk) fun o1 => gd (vpb (3 : Int32) 7) <| lz (o1.1.2.2.1 0 (3 : Int32).toNatClampNeg) fun v3 => gd (vpb (3 : Int32) 7) <| lz (sA o1.1 0 ((3 : Int32).toNatClampNeg) (v3 + (10 : Int32))) fun s5 => bd (f_X3_seePump F sRo sDw s5) fun o6 => some (o6.1, o6.2, o1.2)

def f_X3_takeBack (F : Nat) (sJk : MS) (sJo : MS) : Option MS := gd (vpb (sJo.1 3) 12) <| lz (wA sJo 0 (va_cpy (sJk.2.2.1 ((sJo.1 3).toNatClampNeg)) (sJo.2.2.1 0) (0 : Int32).toNatClampNeg (0 : Int32).toNatClampNeg (7 : Int32).toNatClampNeg)) fun s2 => lz ((((s2.1 3) + (12 : Int32)) - (1 : Int32)) - (((s2.1 3) + (12 : Int32)) - (1 : Int32)) / (12 : Int32) * (12 : Int32)) fun v3 => lz (sI s2 3 v3) fun s4 => lz ((s4.1 1) - (1 : Int32)) fun v5 => lz (sI s4 1 v5) fun s6 => some s6

def f_X3_picture (F : Nat) (sJo : MS) (sJi : MS) : Option (Int32 × MS × MS) := gd (vpb (sJo.1 2) 3) <| lz (wA sJi ((sJo.1 2).toNatClampNeg) (va_cpy (sJo.2.2.1 0) (sJi.2.2.1 ((sJo.1 2).toNatClampNeg)) (0 : Int32).toNatClampNeg (0 : Int32).toNatClampNeg (7 : Int32).toNatClampNeg)) fun s2 => lz ((sJo.1 2) + (1 : Int32)) fun v3 => lz (sI sJo 2 v3) fun s4 => some (((s4.1 2) - (1 : Int32)), s4, s2)

def f_X3_returnTo (F : Nat) (sJi : MS) (p1 : Int32) (sJo : MS) : Option MS := gd (vpb p1 3) <| lz (wA sJo 0 (va_cpy (sJi.2.2.1 p1.toNatClampNeg) (sJo.2.2.1 0) (0 : Int32).toNatClampNeg (0 : Int32).toNatClampNeg (7 : Int32).toNatClampNeg)) fun s2 => lz (sI s2 1 (0 : Int32)) fun s3 => some s3

def f_X3_openPlace_35 (F : Nat) (sJo : MS) (sRo : MS) (p2 : Int32) (k5 : Int32 → Int32 → Option Int32) (x3 : Int32) (x4 : Int32) : Option Int32 := lz (x4 + (1 : Int32)) fun v6 => k5 x3 v6
def f_X3_openPlace_5 (F : Nat) (sJo : MS) (sRo : MS) (p2 : Int32) : Nat → Int32 → Int32 → Option Int32
  | 0, _, _ => none
  | n + 1, x3, x4 => if (sRo.1 5) ≤ x4 then (some (-1 : Int32)) else (bd (f_X3_canGo F sJo sRo x4) fun o2 => if o2 = (0 : Int32) then (f_X3_openPlace_35 F sJo sRo p2 (f_X3_openPlace_5 F sJo sRo p2 n) x3 x4) else (if x3 = p2 then (some x4) else (lz (x3 + (1 : Int32)) fun v5 => f_X3_openPlace_35 F sJo sRo p2 (f_X3_openPlace_5 F sJo sRo p2 n) v5 x4)))
def f_X3_openPlace (F : Nat) (sJo : MS) (sRo : MS) (p2 : Int32) : Option Int32 := f_X3_openPlace_5 F sJo sRo p2 F (0 : Int32) (0 : Int32)

def f_X7_runLength_39 (F : Nat) (sRd : MS) (nTp : Nat) (fTp : (Nat → Int32)) (p1 : Int32) (p2 : Int32) (x3 : Int32) : Option Int32 := some (x3 - (sRd.1 6))
def f_X7_runLength_5 (F : Nat) (sRd : MS) (nTp : Nat) (fTp : (Nat → Int32)) (p1 : Int32) (p2 : Int32) : Nat → Int32 → Option Int32
  | 0, _ => none
  | n + 1, x3 => if (sRd.1 3) ≤ x3 then (f_X7_runLength_39 F sRd nTp fTp p1 p2 x3) else (gd (vpb x3 nTp) <| if (fTp x3.toNatClampNeg) < p1 then (f_X7_runLength_39 F sRd nTp fTp p1 p2 x3) else (gd (vpb x3 nTp) <| if p2 < (fTp x3.toNatClampNeg) then (f_X7_runLength_39 F sRd nTp fTp p1 p2 x3) else (lz (x3 + (1 : Int32)) fun v6 => f_X7_runLength_5 F sRd nTp fTp p1 p2 n v6)))
def f_X7_runLength (F : Nat) (sRd : MS) (nTp : Nat) (fTp : (Nat → Int32)) (p1 : Int32) (p2 : Int32) : Option Int32 := f_X7_runLength_5 F sRd nTp fTp p1 p2 F (sRd.1 6)

def f_X7_lookOn_192 (F : Nat) (nTp : Nat) (fTp : (Nat → Int32)) (y1 : Int32) (sRd : MS) : Option MS := lz (sI sRd 5 y1) fun s25 => some s25
def f_X7_lookOn_176 (F : Nat) (nTp : Nat) (fTp : (Nat → Int32)) (y1 : Int32) (sRd : MS) : Option MS := lz (sI sRd 5 y1) fun s24 => some s24
def f_X7_lookOn_155 (F : Nat) (nTp : Nat) (fTp : (Nat → Int32)) (y1 : Int32) (sRd : MS) : Option MS := lz (sI sRd 5 y1) fun s23 => some s23
def f_X7_lookOn_122 (F : Nat) (nTp : Nat) (fTp : (Nat → Int32)) (x1 : Int32) (x2 : Int32) (y0 : Int32) (sRd : MS) : Option MS := lz (if (1 : Int32) < (x1 + x2) then (x1 + x2) else (1 : Int32)) fun v16 => lz (sI sRd 7 ((sRd.1 6) + v16)) fun s17 => if x1 ≤ (0 : Int32) then (if x2 ≤ (0 : Int32) then (if y0 = (0 : Int32) then (f_X7_lookOn_192 F nTp fTp (4 : Int32) s17) else (f_X7_lookOn_192 F nTp fTp (3 : Int32) s17)) else (if (3 : Int32) < x2 then (f_X7_lookOn_176 F nTp fTp (4 : Int32) s17) else (f_X7_lookOn_176 F nTp fTp (2 : Int32) s17))) else (if (8 : Int32) < x1 then (f_X7_lookOn_155 F nTp fTp (4 : Int32) s17) else (f_X7_lookOn_155 F nTp fTp (1 : Int32) s17))
def f_X7_lookOn_117 (F : Nat) (nTp : Nat) (fTp : (Nat → Int32)) (x1 : Int32) (x2 : Int32) (sRd : MS) : Option MS := f_X7_lookOn_122 F nTp fTp x1 x2 (1 : Int32) sRd
def f_X7_lookOn_46 (F : Nat) (nTp : Nat) (fTp : (Nat → Int32)) (sRd : MS) : Option MS := if (sRd.1 6) < (sRd.1 3) then (bd (f_X7_runLength F sRd nTp fTp (97 : Int32) (122 : Int32)) fun o8 => bd (f_X7_runLength F sRd nTp fTp (48 : Int32) (57 : Int32)) fun o9 => gd (vpb (sRd.1 6) nTp) <| if (fTp (sRd.1 6).toNatClampNeg) = (59 : Int32) then (f_X7_lookOn_117 F nTp fTp o8 o9 sRd) else (gd (vpb (sRd.1 6) nTp) <| if (fTp (sRd.1 6).toNatClampNeg) = (44 : Int32) then (f_X7_lookOn_117 F nTp fTp o8 o9 sRd) else (f_X7_lookOn_122 F nTp fTp o8 o9 (0 : Int32) sRd))) else (lz (sI sRd 7 (sRd.1 6)) fun s14 => lz (sI s14 5 (0 : Int32)) fun s15 => some s15)
def f_X7_lookOn_8 (F : Nat) (nTp : Nat) (fTp : (Nat → Int32)) : Nat → MS → Option MS
  | 0, _ => none
  | n + 1, sRd => if (sRd.1 3) ≤ (sRd.1 6) then (f_X7_lookOn_46 F nTp fTp sRd) else (gd (vpb (sRd.1 6) nTp) <| if (fTp (sRd.1 6).toNatClampNeg) = (32 : Int32) then (lz ((sRd.1 6) + (1 : Int32)) fun v5 => lz (sI sRd 6 v5) fun s6 => f_X7_lookOn_8 F nTp fTp n s6) else (f_X7_lookOn_46 F nTp fTp sRd))
def f_X7_lookOn (F : Nat) (nTp : Nat) (fTp : (Nat → Int32)) (sRd : MS) : Option MS := lz (sI sRd 6 (sRd.1 7)) fun s1 => f_X7_lookOn_8 F nTp fTp F s1

def f_X7_failAt (F : Nat) (p1 : Int32) (p2 : Int32) (sRd : MS) : Option (Int32 × MS) := lz (sI sRd 0 p1) fun s1 => lz (sI s1 1 p2) fun s2 => some ((0 : Int32), s2)

def f_X7_failWith (F : Nat) (p1 : Int32) (sRd : MS) : Option (Int32 × MS) := bd (f_X7_failAt F p1 (sRd.1 6) sRd) fun o1 => gd (bob o1.1) <| some (o1.1, o1.2)

def f_X7_passWhole_75 (F : Nat) (nTp : Nat) (fTp : (Nat → Int32)) (p1 : Int32) (p2 : Int32) (sRd : MS) : Option (Int32 × MS) := bd (f_X7_failWith F (4 : Int32) sRd) fun o13 => gd (bob o13.1) <| some (o13.1, o13.2)
def f_X7_passWhole_59 (F : Nat) (nTp : Nat) (fTp : (Nat → Int32)) (p1 : Int32) (p2 : Int32) (sRd : MS) : Option (Int32 × MS) := if (sRd.1 8) < p1 then (f_X7_passWhole_75 F nTp fTp p1 p2 sRd) else (if (sRd.1 8) ≤ p2 then (bd (f_X7_lookOn F nTp fTp sRd) fun o12 => some ((1 : Int32), o12)) else (f_X7_passWhole_75 F nTp fTp p1 p2 sRd))
def f_X7_passWhole_24 (F : Nat) (nTp : Nat) (fTp : (Nat → Int32)) (p1 : Int32) (p2 : Int32) : Nat → Int32 → MS → Option (Int32 × MS)
  | 0, _, _ => none
  | n + 1, x3, sRd => if (sRd.1 7) ≤ x3 then (f_X7_passWhole_59 F nTp fTp p1 p2 sRd) else (gd (vpb x3 nTp) <| lz (((sRd.1 8) * (10 : Int32)) + (fTp x3.toNatClampNeg)) fun v7 => lz (sI sRd 8 (v7 - (48 : Int32))) fun s8 => lz (x3 + (1 : Int32)) fun v9 => f_X7_passWhole_24 F nTp fTp p1 p2 n v9 s8)
def f_X7_passWhole (F : Nat) (nTp : Nat) (fTp : (Nat → Int32)) (p1 : Int32) (p2 : Int32) (sRd : MS) : Option (Int32 × MS) := if (sRd.1 5) = (2 : Int32) then (lz (sI sRd 8 (0 : Int32)) fun s2 => f_X7_passWhole_24 F nTp fTp p1 p2 F (s2.1 6) s2) else (bd (f_X7_failWith F (1 : Int32) sRd) fun o3 => gd (bob o3.1) <| some (o3.1, o3.2))

def f_X7_isSign (F : Nat) (sRd : MS) (nTp : Nat) (fTp : (Nat → Int32)) (p1 : Int32) : Option Int32 := if (sRd.1 5) = (3 : Int32) then (gd (vpb (sRd.1 6) nTp) <| if (fTp (sRd.1 6).toNatClampNeg) = p1 then (some (1 : Int32)) else (some (0 : Int32))) else (some (0 : Int32))

def f_X7_passSign (F : Nat) (nTp : Nat) (fTp : (Nat → Int32)) (p1 : Int32) (sRd : MS) : Option (Int32 × MS) := bd (f_X7_isSign F sRd nTp fTp p1) fun o1 => if o1 = (0 : Int32) then (bd (f_X7_failWith F (1 : Int32) sRd) fun o4 => gd (bob o4.1) <| some (o4.1, o4.2)) else (bd (f_X7_lookOn F nTp fTp sRd) fun o3 => some ((1 : Int32), o3))

def f_X7_isSameName_31 (F : Nat) (sRd : MS) (nTp : Nat) (fTp : (Nat → Int32)) (p1 : Int32) : Nat → Int32 → Int32 → Option Int32
  | 0, _, _ => none
  | n + 1, x2, x3 => if x2 ≤ x3 then (some (1 : Int32)) else (gd (vpb p1 9) <| gd (vpb ((sRd.2.2.1 9 p1.toNatClampNeg) + x3) nTp) <| lz (fTp ((sRd.2.2.1 9 p1.toNatClampNeg) + x3).toNatClampNeg) fun v9 => gd (vpb ((sRd.1 6) + x3) nTp) <| lz (fTp ((sRd.1 6) + x3).toNatClampNeg) fun v11 => if v9 = v11 then (lz (x3 + (1 : Int32)) fun v13 => f_X7_isSameName_31 F sRd nTp fTp p1 n x2 v13) else (some (0 : Int32)))
def f_X7_isSameName (F : Nat) (sRd : MS) (nTp : Nat) (fTp : (Nat → Int32)) (p1 : Int32) : Option Int32 := gd (vpb p1 9) <| lz (sRd.2.2.1 10 p1.toNatClampNeg) fun v2 => gd (vpb p1 9) <| lz (v2 - (sRd.2.2.1 9 p1.toNatClampNeg)) fun v4 => if v4 = ((sRd.1 7) - (sRd.1 6)) then (f_X7_isSameName_31 F sRd nTp fTp p1 F v4 (0 : Int32)) else (some (0 : Int32))

def f_X7_placeNamed_2 (F : Nat) (sRd : MS) (nTp : Nat) (fTp : (Nat → Int32)) (sRo : MS) : Nat → Int32 → Option Int32
  | 0, _ => none
  | n + 1, x1 => if (sRo.1 5) ≤ x1 then (some (-1 : Int32)) else (bd (f_X7_isSameName F sRd nTp fTp x1) fun o2 => if o2 = (0 : Int32) then (lz (x1 + (1 : Int32)) fun v4 => f_X7_placeNamed_2 F sRd nTp fTp sRo n v4) else (some x1))
def f_X7_placeNamed (F : Nat) (sRd : MS) (nTp : Nat) (fTp : (Nat → Int32)) (sRo : MS) : Option Int32 := f_X7_placeNamed_2 F sRd nTp fTp sRo F (0 : Int32)

def f_X10_putBytes_3 (F : Nat) (nTp : Nat) (p1 : Int32) : Nat → Int32 → MS → (Nat → Int32) → Option (MS × (Nat → Int32))
  | 0, _, _, _ => none
  | n + 1, x2, sMn, fTp => if x2 < (0 : Int32) then (some (sMn, fTp)) else (lz ((p1 >>> (x2 &&& 31)).toInt8.toInt32) fun v2 => gd (vpb (sMn.1 1) nTp) <| lz (upd fTp ((sMn.1 1).toNatClampNeg) (vp_nar .byte v2)) fun g4 => lz ((sMn.1 1) + (1 : Int32)) fun v5 => lz (sI sMn 1 v5) fun s6 => lz (x2 + (-8 : Int32)) fun v7 => f_X10_putBytes_3 F nTp p1 n v7 s6 g4)
def f_X10_putBytes (F : Nat) (nTp : Nat) (p1 : Int32) (sMn : MS) (fTp : (Nat → Int32)) : Option (MS × (Nat → Int32)) := f_X10_putBytes_3 F nTp p1 F (24 : Int32) sMn fTp

def f_X10_feed (F : Nat) (nTp : Nat) (p1 : Int32) (p2 : Int32) (p3 : Int32) (p4 : Int32) (p5 : Int32) (sMn : MS) (fTp : (Nat → Int32)) : Option (Int32 × MS × (Nat → Int32)) := if ((sMn.1 1) + (20 : Int32)) ≤ (800 : Int32) then (bd (f_X10_putBytes F nTp p1 sMn fTp) fun o2 => bd (f_X10_putBytes F nTp p2 o2.1 o2.2) fun o3 => bd (f_X10_putBytes F nTp p3 o3.1 o3.2) fun o4 => bd (f_X10_putBytes F nTp p4 o4.1 o4.2) fun o5 => bd (f_X10_putBytes F nTp p5 o5.1 o5.2) fun o6 => some ((o6.1.1 1), o6.1, o6.2)) else (some ((-1 : Int32), sMn, fTp))

def f_X10_refuse (F : Nat) (p1 : Int32) (sMn : MS) : Option (Int32 × MS) := lz (sI sMn 11 p1) fun s1 => some ((-1 : Int32), s1)

def f_X10_accept (F : Nat) (p1 : Int32) (sMn : MS) : Option (Int32 × MS) := lz (sI sMn 11 (0 : Int32)) fun s1 => some (p1, s1)

def f_X10_fault (F : Nat) (sMn : MS) : Option Int32 := some (sMn.1 12)

def f_X10_where (F : Nat) (sMn : MS) : Option Int32 := if (sMn.1 11) = (4 : Int32) then (some (sMn.1 13)) else (some (-1 : Int32))

def f_X10_areTwoPlaces (F : Nat) (sMn : MS) (sRo : MS) (p1 : Int32) (p2 : Int32) : Option Int32 := bd (f_X9_isPlace F sRo p1) fun o1 => if o1 = (0 : Int32) then (some (0 : Int32)) else (bd (f_X9_isPlace F sRo p2) fun o3 => if o3 = (0 : Int32) then (some (0 : Int32)) else (if p1 = p2 then (some (0 : Int32)) else (some (1 : Int32))))

def f_X10_takes_60 (F : Nat) (sRo : MS) (p1 : Int32) (p2 : Int32) (p3 : Int32) (y1 : Int32) (sMn : MS) : Option (Int32 × MS) := bd (f_X10_accept F y1 sMn) fun o10 => some (o10.1, o10.2)
def f_X10_takes (F : Nat) (sRo : MS) (p1 : Int32) (p2 : Int32) (p3 : Int32) (sMn : MS) : Option (Int32 × MS) := bd (f_X10_areTwoPlaces F sMn sRo p1 p2) fun o1 => if o1 = (0 : Int32) then (bd (f_X10_refuse F (1 : Int32) sMn) fun o9 => some (o9.1, o9.2)) else (bd (f_X9_isRoad F sRo p1 p2) fun o3 => if o3 = (0 : Int32) then (bd (f_X10_accept F (-2 : Int32) sMn) fun o8 => some (o8.1, o8.2)) else (if p3 = (0 : Int32) then (bd (f_X9_pintsOf F sRo p1 p2) fun o6 => f_X10_takes_60 F sRo p1 p2 p3 o6 sMn) else (bd (f_X9_minutesOf F sRo p1 p2) fun o7 => f_X10_takes_60 F sRo p1 p2 p3 o7 sMn)))

def f_X10_pump_20 (F : Nat) (sRo : MS) (p1 : Int32) (p2 : Int32) (sMn : MS) : Option (Int32 × MS) := bd (f_X10_refuse F (1 : Int32) sMn) fun o19 => some (o19.1, o19.2)
def f_X10_pump_100 (F : Nat) (sRo : MS) (p1 : Int32) (p2 : Int32) (y1 : Int32) (sMn : MS) : Option (Int32 × MS) := bd (f_X10_accept F y1 sMn) fun o18 => some (o18.1, o18.2)
def f_X10_pump (F : Nat) (sRo : MS) (p1 : Int32) (p2 : Int32) (sMn : MS) : Option (Int32 × MS) := bd (f_X9_isPlace F sRo p1) fun o1 => if o1 = (0 : Int32) then (f_X10_pump_20 F sRo p1 p2 sMn) else (if p2 < (0 : Int32) then (f_X10_pump_20 F sRo p1 p2 sMn) else (if p2 ≤ (2 : Int32) then (gd (vpb p1 9) <| lz (sRo.2.2.1 12 p1.toNatClampNeg) fun v6 => if v6 = (0 : Int32) then (bd (f_X10_refuse F (6 : Int32) sMn) fun o17 => some (o17.1, o17.2)) else (if p2 = (0 : Int32) then (bd (f_X10_accept F v6 sMn) fun o16 => some (o16.1, o16.2)) else (if p2 = (2 : Int32) then (gd (vpb p1 9) <| lz (sRo.2.2.1 14 p1.toNatClampNeg) fun v14 => bd (f_X10_accept F v14 sMn) fun o15 => some (o15.1, o15.2)) else (gd (vpb p1 9) <| lz (sRo.2.2.1 13 p1.toNatClampNeg) fun v11 => if v11 = (0 : Int32) then (f_X10_pump_100 F sRo p1 p2 (-2 : Int32) sMn) else (f_X10_pump_100 F sRo p1 p2 v11 sMn))))) else (f_X10_pump_20 F sRo p1 p2 sMn)))

def f_X10_station (F : Nat) (sRo : MS) (p1 : Int32) (sMn : MS) : Option (Int32 × MS) := bd (f_X9_isStation F sRo p1) fun o1 => if o1 = (0 : Int32) then (bd (f_X10_refuse F (1 : Int32) sMn) fun o6 => some (o6.1, o6.2)) else (gd (vpb p1 9) <| lz (sRo.2.2.1 15 p1.toNatClampNeg) fun v4 => bd (f_X10_accept F v4 sMn) fun o5 => some (o5.1, o5.2))

def f_X10_legs_27 (F : Nat) (sRo : MS) (p1 : Int32) (p2 : Int32) (sMn : MS) : Option (Int32 × MS) := bd (f_X10_refuse F (1 : Int32) sMn) fun o8 => some (o8.1, o8.2)
def f_X10_legs (F : Nat) (sRo : MS) (p1 : Int32) (p2 : Int32) (sMn : MS) : Option (Int32 × MS) := bd (f_X9_isStation F sRo p1) fun o1 => if o1 = (0 : Int32) then (f_X10_legs_27 F sRo p1 p2 sMn) else (bd (f_X9_isStation F sRo p2) fun o3 => if o3 = (0 : Int32) then (f_X10_legs_27 F sRo p1 p2 sMn) else (if p1 < p2 then (bd (f_X9_legsPints F sRo p1 p2) fun o6 => bd (f_X10_accept F o6 sMn) fun o7 => some (o7.1, o7.2)) else (f_X10_legs_27 F sRo p1 p2 sMn)))

def f_X10_lasts (F : Nat) (sRo : MS) (p1 : Int32) (p2 : Int32) (sMn : MS) : Option (Int32 × MS) := bd (f_X9_isStation F sRo p1) fun o1 => if o1 = (0 : Int32) then (bd (f_X10_refuse F (1 : Int32) sMn) fun o8 => some (o8.1, o8.2)) else (bd (f_X9_isLevel F sRo p2) fun o3 => if o3 = (0 : Int32) then (bd (f_X10_refuse F (2 : Int32) sMn) fun o7 => some (o7.1, o7.2)) else (bd (f_X9_lastReached F sRo p1 p2) fun o5 => bd (f_X10_accept F o5 sMn) fun o6 => some (o6.1, o6.2)))

def f_X10_deny (F : Nat) (p1 : Int32) (sMn : MS) : Option (Int32 × MS) := lz (sI sMn 11 p1) fun s1 => some ((0 : Int32), s1)

def f_X10_allow (F : Nat) (sMn : MS) : Option (Int32 × MS) := lz (sI sMn 11 (0 : Int32)) fun s1 => some ((1 : Int32), s1)

def f_X10_plan (F : Nat) (sRo : MS) (p1 : Int32) (p2 : Int32) (sMn : MS) (sPl : MS) : Option (Int32 × MS × MS) := bd (f_X9_isLeft F sRo p1) fun o1 => if o1 = (0 : Int32) then (bd (f_X10_deny F (1 : Int32) sMn) fun o11 => gd (bob o11.1) <| some (o11.1, o11.2, sPl)) else (bd (f_X9_isLevel F sRo p2) fun o3 => if o3 = (0 : Int32) then (bd (f_X10_deny F (2 : Int32) sMn) fun o9 => gd (bob o9.1) <| some (o9.1, o9.2, sPl)) else (gd (vpb p1 9) <| lz (sA sPl 0 p1.toNatClampNeg p2) fun s6 => bd (f_X10_allow F sMn) fun o7 => gd (bob o7.1) <| some (o7.1, o7.2, s6)))

def f_X10_judge (F : Nat) (sPl : MS) (sRo : MS) (sMn : MS) : Option (Int32 × MS) := bd (f_X9_isTold F sRo) fun o1 => if o1 = (0 : Int32) then (bd (f_X10_refuse F (1 : Int32) sMn) fun o5 => some (o5.1, o5.2)) else (bd (f_X6_failsAt F sPl sRo) fun o3 => bd (f_X10_accept F o3 sMn) fun o4 => some (o4.1, o4.2))

def f_X10_cost (F : Nat) (sPl : MS) (sRo : MS) (sMn : MS) : Option (Int32 × MS) := bd (f_X9_isTold F sRo) fun o1 => if o1 = (0 : Int32) then (bd (f_X10_refuse F (1 : Int32) sMn) fun o8 => some (o8.1, o8.2)) else (bd (f_X6_failsAt F sPl sRo) fun o3 => if o3 = (-2 : Int32) then (bd (f_X6_pence F sPl sRo) fun o5 => bd (f_X10_accept F o5 sMn) fun o6 => some (o6.1, o6.2)) else (bd (f_X10_refuse F (5 : Int32) sMn) fun o7 => some (o7.1, o7.2)))

def f_X10_cheapest (F : Nat) (sRo : MS) (sMn : MS) (sPl : MS) (sPc : MS) : Option (Int32 × MS × MS × MS) := bd (f_X9_isTold F sRo) fun o1 => if o1 = (0 : Int32) then (bd (f_X10_refuse F (1 : Int32) sMn) fun o5 => some (o5.1, o5.2, sPl, sPc)) else (bd (f_X6_leastCost F sRo (-1 : Int32) sPl sPc) fun o3 => bd (f_X10_accept F o3.1 sMn) fun o4 => some (o4.1, o4.2, o3.2.1, o3.2.2))

def f_X10_how (F : Nat) (sRo : MS) (p1 : Int32) (sMn : MS) (sPl : MS) (sPc : MS) : Option (Int32 × MS × MS × MS) := bd (f_X9_isLeft F sRo p1) fun o1 => if o1 = (0 : Int32) then (bd (f_X10_refuse F (1 : Int32) sMn) fun o5 => some (o5.1, o5.2, sPl, sPc)) else (bd (f_X6_cheapestPints F sRo p1 sPl sPc) fun o3 => bd (f_X10_accept F o3.1 sMn) fun o4 => some (o4.1, o4.2, o3.2.1, o3.2.2))

def f_X10_fewest (F : Nat) (sPl : MS) (sRo : MS) (sMn : MS) (sPb : MS) : Option (Int32 × MS × MS) := bd (f_X9_isTold F sRo) fun o1 => if o1 = (0 : Int32) then (bd (f_X10_refuse F (1 : Int32) sMn) fun o5 => some (o5.1, o5.2, sPb)) else (bd (f_X6_fewestStops F sPl sRo sPb) fun o3 => bd (f_X10_accept F o3.1 sMn) fun o4 => some (o4.1, o4.2, o3.2))

def f_X10_time (F : Nat) (sPl : MS) (sRo : MS) (sMn : MS) : Option (Int32 × MS) := bd (f_X9_isTold F sRo) fun o1 => if o1 = (0 : Int32) then (bd (f_X10_refuse F (1 : Int32) sMn) fun o8 => some (o8.1, o8.2)) else (bd (f_X6_failsAt F sPl sRo) fun o3 => if o3 = (-2 : Int32) then (bd (f_X6_minutes F sPl sRo) fun o5 => bd (f_X10_accept F o5 sMn) fun o6 => some (o6.1, o6.2)) else (bd (f_X10_refuse F (5 : Int32) sMn) fun o7 => some (o7.1, o7.2)))

def f_X10_without (F : Nat) (sRo : MS) (p1 : Int32) (sMn : MS) (sPl : MS) (sPc : MS) : Option (Int32 × MS × MS × MS) := bd (f_X9_isLeft F sRo p1) fun o1 => if o1 = (0 : Int32) then (bd (f_X10_refuse F (1 : Int32) sMn) fun o8 => some (o8.1, o8.2, sPl, sPc)) else (bd (f_X9_hasPumpAt F sRo p1) fun o3 => if o3 = (0 : Int32) then (bd (f_X10_refuse F (6 : Int32) sMn) fun o7 => some (o7.1, o7.2, sPl, sPc)) else (bd (f_X6_leastCost F sRo p1 sPl sPc) fun o5 => bd (f_X10_accept F o5.1 sMn) fun o6 => some (o6.1, o6.2, o5.2.1, o5.2.2)))

def f_X10_gap (F : Nat) (sRo : MS) (sMn : MS) (sPl : MS) (sPc : MS) : Option (Int32 × MS × MS × MS) := bd (f_X9_isTold F sRo) fun o1 => if o1 = (0 : Int32) then (bd (f_X10_refuse F (1 : Int32) sMn) fun o7 => some (o7.1, o7.2, sPl, sPc)) else (bd (f_X6_worstGap F sRo sPl sPc) fun o3 => if o3.1 = (-1 : Int32) then (bd (f_X10_refuse F (6 : Int32) sMn) fun o6 => some (o6.1, o6.2, o3.2.1, o3.2.2)) else (bd (f_X10_accept F o3.1 sMn) fun o5 => some (o5.1, o5.2, o3.2.1, o3.2.2)))

def f_X10_within_26 (F : Nat) (sPl : MS) (sRo : MS) (p1 : Int32) (sMn : MS) (sPb : MS) : Option (Int32 × MS × MS) := bd (f_X10_refuse F (2 : Int32) sMn) fun o8 => some (o8.1, o8.2, sPb)
def f_X10_within (F : Nat) (sPl : MS) (sRo : MS) (p1 : Int32) (sMn : MS) (sPb : MS) : Option (Int32 × MS × MS) := bd (f_X9_isTold F sRo) fun o1 => if o1 = (0 : Int32) then (bd (f_X10_refuse F (1 : Int32) sMn) fun o7 => some (o7.1, o7.2, sPb)) else (if p1 < (0 : Int32) then (f_X10_within_26 F sPl sRo p1 sMn sPb) else (if p1 ≤ (9 : Int32) then (bd (f_X6_leastWithin F sPl sRo p1 sPb) fun o5 => bd (f_X10_accept F o5.1 sMn) fun o6 => some (o6.1, o6.2, o5.2)) else (f_X10_within_26 F sPl sRo p1 sMn sPb)))

def f_X10_rest (F : Nat) (sRo : MS) (sMn : MS) (sPl : MS) (sPc : MS) : Option (Int32 × MS × MS × MS) := bd (f_X9_isTold F sRo) fun o1 => if o1 = (0 : Int32) then (bd (f_X10_refuse F (1 : Int32) sMn) fun o5 => some (o5.1, o5.2, sPl, sPc)) else (bd (f_X6_cheapestRest F sRo sPl sPc) fun o3 => bd (f_X10_accept F o3.1 sMn) fun o4 => some (o4.1, o4.2, o3.2.1, o3.2.2))

def f_X10_need (F : Nat) (sRo : MS) (sMn : MS) (sPl : MS) (sPc : MS) : Option (Int32 × MS × MS × MS) := bd (f_X9_isTold F sRo) fun o1 => if o1 = (0 : Int32) then (bd (f_X10_refuse F (1 : Int32) sMn) fun o5 => some (o5.1, o5.2, sPl, sPc)) else (bd (f_X6_leastBeginning F sRo sPl sPc) fun o3 => bd (f_X10_accept F o3.1 sMn) fun o4 => some (o4.1, o4.2, o3.2.1, o3.2.2))

def f_X10_isRule (F : Nat) (p0 : Int32) : Option Int32 := if p0 < (0 : Int32) then (some (0 : Int32)) else (if (4 : Int32) ≤ p0 then (some (0 : Int32)) else (some (1 : Int32)))

def f_X10_whyNoBuying (F : Nat) (sMn : MS) (sRo : MS) (p1 : Int32) (p2 : Int32) (p3 : Int32) : Option Int32 := bd (f_X9_isLeft F sRo p1) fun o1 => if o1 = (0 : Int32) then (some (1 : Int32)) else (bd (f_X9_isLevel F sRo p2) fun o3 => if o3 = (0 : Int32) then (some (2 : Int32)) else (bd (f_X9_priceAt F sRo p1 p3) fun o5 => if o5 = (0 : Int32) then (some (6 : Int32)) else (some (0 : Int32))))

def f_X10_buys_19 (F : Nat) (sDr : MS) (sRo : MS) (p1 : Int32) (p2 : Int32) (p3 : Int32) (p4 : Int32) (y0 : Int32) (sMn : MS) : Option (Int32 × MS) := if y0 = (0 : Int32) then (bd (f_X9_priceAt F sRo p2 p4) fun o5 => bd (f_X1_pintsByRule F sDr sRo p1 p2 p3 o5) fun o6 => bd (f_X10_accept F o6 sMn) fun o7 => some (o7.1, o7.2)) else (bd (f_X10_refuse F y0 sMn) fun o8 => some (o8.1, o8.2))
def f_X10_buys (F : Nat) (sDr : MS) (sRo : MS) (p1 : Int32) (p2 : Int32) (p3 : Int32) (p4 : Int32) (sMn : MS) : Option (Int32 × MS) := bd (f_X10_isRule F p1) fun o1 => if o1 = (0 : Int32) then (f_X10_buys_19 F sDr sRo p1 p2 p3 p4 (1 : Int32) sMn) else (bd (f_X10_whyNoBuying F sMn sRo p2 p3 p4) fun o3 => f_X10_buys_19 F sDr sRo p1 p2 p3 p4 o3 sMn)

def f_X10_isRuleOfRoad (F : Nat) (sMn : MS) (sRo : MS) (p1 : Int32) : Option Int32 := bd (f_X9_isTold F sRo) fun o1 => if o1 = (0 : Int32) then (some (0 : Int32)) else (bd (f_X10_isRule F p1) fun o3 => if o3 = (0 : Int32) then (some (0 : Int32)) else (some (1 : Int32)))

def f_X10_byRule (F : Nat) (sRo : MS) (p1 : Int32) (sMn : MS) (sDr : MS) (sDw : MS) : Option (Int32 × MS × MS × MS) := bd (f_X10_isRuleOfRoad F sMn sRo p1) fun o1 => if o1 = (0 : Int32) then (bd (f_X10_refuse F (1 : Int32) sMn) fun o5 => some (o5.1, o5.2, sDr, sDw)) else (bd (f_X1_travelOpen F sRo p1 sDr sDw) fun o3 => bd (f_X10_accept F o3.1 sMn) fun o4 => some (o4.1, o4.2, o3.2.1, o3.2.2))

def f_X10_stuckAt (F : Nat) (sRo : MS) (p1 : Int32) (sMn : MS) (sDr : MS) (sDw : MS) : Option (Int32 × MS × MS × MS) := bd (f_X10_isRuleOfRoad F sMn sRo p1) fun o1 => if o1 = (0 : Int32) then (bd (f_X10_refuse F (1 : Int32) sMn) fun o5 => some (o5.1, o5.2, sDr, sDw)) else (bd (f_X1_travelOpen F sRo p1 sDr sDw) fun o3 => bd (f_X10_accept F (o3.2.1.1 0) sMn) fun o4 => some (o4.1, o4.2, o3.2.1, o3.2.2))

def f_X10_acceptFraction (F : Nat) (sFr : MS) (p1 : Int32) (sMn : MS) : Option (Int64 × MS) := lz (sI sMn 11 (0 : Int32)) fun s1 => if p1 = (0 : Int32) then (some ((sFr.2.1 0), s1)) else (some ((sFr.2.1 1), s1))

def f_X10_odds (F : Nat) (nDc : Nat) (nDd : Nat) (sRo : MS) (p1 : Int32) (p2 : Int32) (sMn : MS) (sDr : MS) (fDc : (Nat → Int32)) (fDd : (Nat → Int32)) (sFr : MS) : Option (Int64 × MS × MS × (Nat → Int32) × (Nat → Int32) × MS) := bd (f_X10_isRuleOfRoad F sMn sRo p1) fun o1 => if o1 = (0 : Int32) then (bd (f_X10_refuse F (1 : Int32) sMn) fun o5 => some (o5.1.toInt64, o5.2, sDr, fDc, fDd, sFr)) else (bd (f_X1_reckonOdds F nDc nDd sRo p1 sDr fDc fDd sFr) fun o3 => bd (f_X10_acceptFraction F o3.2.2.2 p2 sMn) fun o4 => some (o4.1, o4.2, o3.1, o3.2.1, o3.2.2.1, o3.2.2.2))

def f_X10_mean (F : Nat) (nDc : Nat) (nDd : Nat) (sRo : MS) (p1 : Int32) (p2 : Int32) (sMn : MS) (sDr : MS) (fDc : (Nat → Int32)) (fDd : (Nat → Int32)) (sFr : MS) : Option (Int64 × MS × MS × (Nat → Int32) × (Nat → Int32) × MS) := bd (f_X10_isRuleOfRoad F sMn sRo p1) fun o1 => if o1 = (0 : Int32) then (bd (f_X10_refuse F (1 : Int32) sMn) fun o5 => some (o5.1.toInt64, o5.2, sDr, fDc, fDd, sFr)) else (bd (f_X1_reckonMean F nDc nDd sRo p1 sDr fDc fDd sFr) fun o3 => bd (f_X10_acceptFraction F o3.2.2.2 p2 sMn) fun o4 => some (o4.1, o4.2, o3.1, o3.2.1, o3.2.2.1, o3.2.2.2))

def f_X10_bestRule (F : Nat) (nDc : Nat) (nDd : Nat) (sRo : MS) (sMn : MS) (sDr : MS) (fDc : (Nat → Int32)) (fDd : (Nat → Int32)) : Option (Int32 × MS × MS × (Nat → Int32) × (Nat → Int32)) := bd (f_X9_isTold F sRo) fun o1 => if o1 = (0 : Int32) then (bd (f_X10_refuse F (1 : Int32) sMn) fun o5 => some (o5.1, o5.2, sDr, fDc, fDd)) else (bd (f_X1_ruleOfLeastMean F nDc nDd sRo sDr fDc fDd) fun o3 => bd (f_X10_accept F o3.1 sMn) fun o4 => some (o4.1, o4.2, o3.2.1, o3.2.2.1, o3.2.2.2))

def f_X10_bestMean (F : Nat) (nDc : Nat) (nDd : Nat) (sRo : MS) (p1 : Int32) (sMn : MS) (sDr : MS) (fDc : (Nat → Int32)) (fDd : (Nat → Int32)) (sFr : MS) : Option (Int64 × MS × MS × (Nat → Int32) × (Nat → Int32) × MS) := bd (f_X9_isTold F sRo) fun o1 => if o1 = (0 : Int32) then (bd (f_X10_refuse F (1 : Int32) sMn) fun o5 => some (o5.1.toInt64, o5.2, sDr, fDc, fDd, sFr)) else (bd (f_X1_reckonMean F nDc nDd sRo (4 : Int32) sDr fDc fDd sFr) fun o3 => bd (f_X10_acceptFraction F o3.2.2.2 p1 sMn) fun o4 => some (o4.1, o4.2, o3.1, o3.2.1, o3.2.2.1, o3.2.2.2))

def f_X10_buy (F : Nat) (nDc : Nat) (nDd : Nat) (sRo : MS) (p1 : Int32) (p2 : Int32) (p3 : Int32) (sMn : MS) (sDr : MS) (fDc : (Nat → Int32)) (fDd : (Nat → Int32)) : Option (Int32 × MS × MS × (Nat → Int32) × (Nat → Int32)) := bd (f_X10_whyNoBuying F sMn sRo p1 p2 p3) fun o1 => if o1 = (0 : Int32) then (bd (f_X9_priceAt F sRo p1 p3) fun o3 => bd (f_X1_bestPints F nDc nDd sRo p1 p2 o3 sDr fDc fDd) fun o4 => bd (f_X10_accept F o4.1 sMn) fun o5 => some (o5.1, o5.2, o4.2.1, o4.2.2.1, o4.2.2.2)) else (bd (f_X10_refuse F o1 sMn) fun o6 => some (o6.1, o6.2, sDr, fDc, fDd))

def f_X10_sure (F : Nat) (nDc : Nat) (nDd : Nat) (sRo : MS) (p1 : Int32) (sMn : MS) (sDr : MS) (fDc : (Nat → Int32)) (fDd : (Nat → Int32)) (sFr : MS) : Option (Int64 × MS × MS × (Nat → Int32) × (Nat → Int32) × MS) := bd (f_X9_isTold F sRo) fun o1 => if o1 = (0 : Int32) then (bd (f_X10_refuse F (1 : Int32) sMn) fun o5 => some (o5.1.toInt64, o5.2, sDr, fDc, fDd, sFr)) else (bd (f_X1_reckonOdds F nDc nDd sRo (0 : Int32) sDr fDc fDd sFr) fun o3 => bd (f_X10_acceptFraction F o3.2.2.2 p1 sMn) fun o4 => some (o4.1, o4.2, o3.1, o3.2.1, o3.2.2.1, o3.2.2.2))

def f_X10_net (F : Nat) (sRo : MS) (p1 : Int32) (sMn : MS) (sNe : MS) (sNc : MS) : Option (Int32 × MS × MS × MS) := bd (f_X9_isTold F sRo) fun o1 => if o1 = (0 : Int32) then (bd (f_X10_refuse F (1 : Int32) sMn) fun o5 => some (o5.1, o5.2, sNe, sNc)) else (bd (f_X5_least F sRo p1 sNe sNc) fun o3 => bd (f_X10_accept F o3.1 sMn) fun o4 => some (o4.1, o4.2, o3.2.1, o3.2.2))

def f_X10_most (F : Nat) (sRo : MS) (p1 : Int32) (sMn : MS) (sNe : MS) : Option (Int32 × MS × MS) := bd (f_X9_isPlace F sRo p1) fun o1 => if o1 = (0 : Int32) then (bd (f_X10_refuse F (1 : Int32) sMn) fun o5 => some (o5.1, o5.2, sNe)) else (bd (f_X5_mostPints F sRo p1 sNe) fun o3 => bd (f_X10_accept F o3.1 sMn) fun o4 => some (o4.1, o4.2, o3.2))

def f_X10_near (F : Nat) (sRo : MS) (p1 : Int32) (p2 : Int32) (sMn : MS) (sNe : MS) : Option (Int32 × MS × MS) := bd (f_X10_areTwoPlaces F sMn sRo p1 p2) fun o1 => if o1 = (0 : Int32) then (bd (f_X10_refuse F (1 : Int32) sMn) fun o5 => some (o5.1, o5.2, sNe)) else (bd (f_X5_nearest F sRo p1 p2 sNe) fun o3 => bd (f_X10_accept F o3.1 sMn) fun o4 => some (o4.1, o4.2, o3.2))

def f_X10_worth_63 (F : Nat) (sRo : MS) (y1 : Int32) (sMn : MS) (sPl : MS) (sPc : MS) (sNe : MS) (sNc : MS) : Option (Int32 × MS × MS × MS × MS × MS) := bd (f_X10_accept F y1 sMn) fun o8 => some (o8.1, o8.2, sPl, sPc, sNe, sNc)
def f_X10_worth_55 (F : Nat) (sRo : MS) (sMn : MS) (sPl : MS) (sPc : MS) (sNe : MS) (sNc : MS) : Option (Int32 × MS × MS × MS × MS × MS) := f_X10_worth_63 F sRo (-2 : Int32) sMn sPl sPc sNe sNc
def f_X10_worth (F : Nat) (sRo : MS) (sMn : MS) (sPl : MS) (sPc : MS) (sNe : MS) (sNc : MS) : Option (Int32 × MS × MS × MS × MS × MS) := bd (f_X9_isTold F sRo) fun o1 => if o1 = (0 : Int32) then (bd (f_X10_refuse F (1 : Int32) sMn) fun o7 => some (o7.1, o7.2, sPl, sPc, sNe, sNc)) else (bd (f_X6_leastCost F sRo (-1 : Int32) sPl sPc) fun o3 => bd (f_X5_least F sRo (0 : Int32) sNe sNc) fun o4 => if o3.1 = (-2 : Int32) then (f_X10_worth_55 F sRo sMn o3.2.1 o3.2.2 o4.2.1 o4.2.2) else (if o4.1 = (-2 : Int32) then (f_X10_worth_55 F sRo sMn o3.2.1 o3.2.2 o4.2.1 o4.2.2) else (f_X10_worth_63 F sRo (o3.1 - o4.1) sMn o3.2.1 o3.2.2 o4.2.1 o4.2.2)))

def f_X10_addParts_49 (F : Nat) (sMn : MS) (sRo : MS) (p1 : Int32) (p2 : Int32) (p3 : Int32) (k12 : Int32 → MS → Option MS) (x4 : Int32) (y1 : Int64) (y2 : Int64) (sFr : MS) : Option MS := bd (f_X2_plus F y1 y2 sFr) fun o4 => lz (x4 + (1 : Int32)) fun v5 => k12 v5 o4
def f_X10_addParts_12 (F : Nat) (sMn : MS) (sRo : MS) (p1 : Int32) (p2 : Int32) (p3 : Int32) : Nat → Int32 → MS → Option MS
  | 0, _, _ => none
  | n + 1, x4, sFr => if p3 < x4 then (some sFr) else (if p1 = (0 : Int32) then (f_X10_addParts_49 F sMn sRo p1 p2 p3 (f_X10_addParts_12 F sMn sRo p1 p2 p3 n) x4 ((sRo.1 0).toInt64) ((((2 : Int32) * x4) - (1 : Int32)).toInt64) sFr) else (f_X10_addParts_49 F sMn sRo p1 p2 p3 (f_X10_addParts_12 F sMn sRo p1 p2 p3 n) x4 ((sRo.1 0).toInt64) (((2 : Int32) * x4).toInt64) sFr))
def f_X10_addParts (F : Nat) (sMn : MS) (sRo : MS) (p1 : Int32) (p2 : Int32) (p3 : Int32) (sFr : MS) : Option MS := bd (f_X2_become F (0 : Int64) (1 : Int64) sFr) fun o1 => f_X10_addParts_12 F sMn sRo p1 p2 p3 F p2 o1

def f_X10_far_28 (F : Nat) (sRo : MS) (p1 : Int32) (p2 : Int32) (p3 : Int32) (sMn : MS) (sFr : MS) : Option (Int64 × MS × MS) := bd (f_X10_refuse F (2 : Int32) sMn) fun o8 => some (o8.1.toInt64, o8.2, sFr)
def f_X10_far (F : Nat) (sRo : MS) (p1 : Int32) (p2 : Int32) (p3 : Int32) (sMn : MS) (sFr : MS) : Option (Int64 × MS × MS) := bd (f_X9_isTold F sRo) fun o1 => if o1 = (0 : Int32) then (bd (f_X10_refuse F (1 : Int32) sMn) fun o7 => some (o7.1.toInt64, o7.2, sFr)) else (if p1 < (1 : Int32) then (f_X10_far_28 F sRo p1 p2 p3 sMn sFr) else (if p1 ≤ (12 : Int32) then (bd (f_X10_addParts F sMn sRo p2 (1 : Int32) p1 sFr) fun o5 => bd (f_X10_acceptFraction F o5 p3 sMn) fun o6 => some (o6.1, o6.2, o5)) else (f_X10_far_28 F sRo p1 p2 p3 sMn sFr)))

def f_X10_fewestLoads_2 (F : Nat) (sMn : MS) (sRo : MS) (p1 : Int32) (p2 : Int32) : Nat → Int32 → MS → Option (Int32 × MS)
  | 0, _, _ => none
  | n + 1, x3, sFr => if (12 : Int32) < x3 then (some ((-2 : Int32), sFr)) else (bd (f_X10_addParts F sMn sRo p2 (1 : Int32) x3 sFr) fun o2 => if (lg_cmp (o2.2.1 0) (p1.toInt64 * (o2.2.1 1))) < (0 : Int32) then (lz (x3 + (1 : Int32)) fun v4 => f_X10_fewestLoads_2 F sMn sRo p1 p2 n v4 o2) else (some (x3, o2)))
def f_X10_fewestLoads (F : Nat) (sMn : MS) (sRo : MS) (p1 : Int32) (p2 : Int32) (sFr : MS) : Option (Int32 × MS) := f_X10_fewestLoads_2 F sMn sRo p1 p2 F (0 : Int32) sFr

def f_X10_loads_27 (F : Nat) (sRo : MS) (p1 : Int32) (p2 : Int32) (sMn : MS) (sFr : MS) : Option (Int32 × MS × MS) := bd (f_X10_refuse F (2 : Int32) sMn) fun o8 => some (o8.1, o8.2, sFr)
def f_X10_loads (F : Nat) (sRo : MS) (p1 : Int32) (p2 : Int32) (sMn : MS) (sFr : MS) : Option (Int32 × MS × MS) := bd (f_X9_isTold F sRo) fun o1 => if o1 = (0 : Int32) then (bd (f_X10_refuse F (1 : Int32) sMn) fun o7 => some (o7.1, o7.2, sFr)) else (if p1 < (0 : Int32) then (f_X10_loads_27 F sRo p1 p2 sMn sFr) else (if p1 ≤ (999 : Int32) then (bd (f_X10_fewestLoads F sMn sRo p1 p2 sFr) fun o5 => bd (f_X10_accept F o5.1 sMn) fun o6 => some (o6.1, o6.2, o5.2)) else (f_X10_loads_27 F sRo p1 p2 sMn sFr)))

def f_X10_depot_28 (F : Nat) (sRo : MS) (p1 : Int32) (p2 : Int32) (p3 : Int32) (p4 : Int32) (sMn : MS) (sFr : MS) : Option (Int64 × MS × MS) := bd (f_X10_refuse F (2 : Int32) sMn) fun o11 => some (o11.1.toInt64, o11.2, sFr)
def f_X10_depot_45 (F : Nat) (sRo : MS) (p1 : Int32) (p2 : Int32) (p3 : Int32) (p4 : Int32) (sMn : MS) (sFr : MS) : Option (Int64 × MS × MS) := bd (f_X10_refuse F (1 : Int32) sMn) fun o10 => some (o10.1.toInt64, o10.2, sFr)
def f_X10_depot (F : Nat) (sRo : MS) (p1 : Int32) (p2 : Int32) (p3 : Int32) (p4 : Int32) (sMn : MS) (sFr : MS) : Option (Int64 × MS × MS) := bd (f_X9_isTold F sRo) fun o1 => if o1 = (0 : Int32) then (bd (f_X10_refuse F (1 : Int32) sMn) fun o9 => some (o9.1.toInt64, o9.2, sFr)) else (if p1 < (2 : Int32) then (f_X10_depot_28 F sRo p1 p2 p3 p4 sMn sFr) else (if p1 ≤ (12 : Int32) then (if p3 < (1 : Int32) then (f_X10_depot_45 F sRo p1 p2 p3 p4 sMn sFr) else (if p3 < p1 then (bd (f_X10_addParts F sMn sRo p2 ((p1 - p3) + (1 : Int32)) p1 sFr) fun o7 => bd (f_X10_acceptFraction F o7 p4 sMn) fun o8 => some (o8.1, o8.2, o7)) else (f_X10_depot_45 F sRo p1 p2 p3 p4 sMn sFr))) else (f_X10_depot_28 F sRo p1 p2 p3 p4 sMn sFr)))

def f_X10_convoy_28 (F : Nat) (sRo : MS) (p1 : Int32) (p2 : Int32) (sMn : MS) (sFr : MS) : Option (Int64 × MS × MS) := bd (f_X10_refuse F (2 : Int32) sMn) fun o11 => some (o11.1.toInt64, o11.2, sFr)
def f_X10_convoy_74 (F : Nat) (sRo : MS) (p1 : Int32) (p2 : Int32) (sMn : MS) (sFr : MS) : Option (Int64 × MS × MS) := bd (f_X10_acceptFraction F sFr p2 sMn) fun o10 => some (o10.1, o10.2, sFr)
def f_X10_convoy_46 (F : Nat) (sRo : MS) (p1 : Int32) (p2 : Int32) : Nat → Int32 → MS → MS → Option (Int64 × MS × MS)
  | 0, _, _, _ => none
  | n + 1, x3, sMn, sFr => if p1 < x3 then (f_X10_convoy_74 F sRo p1 p2 sMn sFr) else (bd (f_X2_plus F ((sRo.1 0).toInt64) x3.toInt64 sFr) fun o8 => lz (x3 + (1 : Int32)) fun v9 => f_X10_convoy_46 F sRo p1 p2 n v9 sMn o8)
def f_X10_convoy (F : Nat) (sRo : MS) (p1 : Int32) (p2 : Int32) (sMn : MS) (sFr : MS) : Option (Int64 × MS × MS) := bd (f_X9_isTold F sRo) fun o1 => if o1 = (0 : Int32) then (bd (f_X10_refuse F (1 : Int32) sMn) fun o6 => some (o6.1.toInt64, o6.2, sFr)) else (if p1 < (1 : Int32) then (f_X10_convoy_28 F sRo p1 p2 sMn sFr) else (if p1 ≤ (12 : Int32) then (bd (f_X2_become F (0 : Int64) (1 : Int64) sFr) fun o5 => f_X10_convoy_46 F sRo p1 p2 F (1 : Int32) sMn o5) else (f_X10_convoy_28 F sRo p1 p2 sMn sFr)))

def f_X10_fits (F : Nat) (sRo : MS) (sMn : MS) (sRe : MS) : Option (Int32 × MS × MS) := bd (f_X9_isTold F sRo) fun o1 => if o1 = (0 : Int32) then (bd (f_X10_refuse F (1 : Int32) sMn) fun o5 => some (o5.1, o5.2, sRe)) else (bd (f_X8_search F sRo (-1 : Int32) sRe) fun o3 => bd (f_X10_accept F (o3.1 0) sMn) fun o4 => some (o4.1, o4.2, o3))

def f_X10_fit_14 (F : Nat) (sRo : MS) (p1 : Int32) (p2 : Int32) (sMn : MS) (sRe : MS) : Option (Int32 × MS × MS) := bd (f_X10_refuse F (1 : Int32) sMn) fun o11 => some (o11.1, o11.2, sRe)
def f_X10_fit_58 (F : Nat) (sRo : MS) (p1 : Int32) (p2 : Int32) (sMn : MS) (sRe : MS) : Option (Int32 × MS × MS) := bd (f_X10_refuse F (1 : Int32) sMn) fun o10 => some (o10.1, o10.2, sRe)
def f_X10_fit (F : Nat) (sRo : MS) (p1 : Int32) (p2 : Int32) (sMn : MS) (sRe : MS) : Option (Int32 × MS × MS) := bd (f_X9_isTold F sRo) fun o1 => if o1 = (0 : Int32) then (f_X10_fit_14 F sRo p1 p2 sMn sRe) else (if (0 : Int32) ≤ p1 then (bd (f_X8_search F sRo p1 sRe) fun o4 => if (o4.1 0) ≤ p1 then (f_X10_fit_58 F sRo p1 p2 sMn o4) else (if p2 < (0 : Int32) then (f_X10_fit_58 F sRo p1 p2 sMn o4) else (if p2 < (o4.1 5) then (gd (vpb p2 9) <| bd (f_X10_accept F (o4.2.2.1 4 p2.toNatClampNeg) sMn) fun o9 => some (o9.1, o9.2, o4)) else (f_X10_fit_58 F sRo p1 p2 sMn o4)))) else (f_X10_fit_14 F sRo p1 p2 sMn sRe))

def f_X10_went_50 (F : Nat) (sRo : MS) (p1 : Int32) (y1 : Int32) (sMn : MS) (sRe : MS) : Option (Int32 × MS × MS) := bd (f_X10_accept F y1 sMn) fun o6 => some (o6.1, o6.2, sRe)
def f_X10_went (F : Nat) (sRo : MS) (p1 : Int32) (sMn : MS) (sRe : MS) : Option (Int32 × MS × MS) := bd (f_X9_isTold F sRo) fun o1 => if o1 = (0 : Int32) then (bd (f_X10_refuse F (1 : Int32) sMn) fun o5 => some (o5.1, o5.2, sRe)) else (bd (f_X8_search F sRo (-1 : Int32) sRe) fun o3 => if p1 = (0 : Int32) then (f_X10_went_50 F sRo p1 (o3.1 1) sMn o3) else (f_X10_went_50 F sRo p1 (o3.1 2) sMn o3))

def f_X10_needle_68 (F : Nat) (sRo : MS) (p1 : Int32) (y1 : Int32) (sMn : MS) (sRe : MS) : Option (Int32 × MS × MS) := bd (f_X10_accept F y1 sMn) fun o10 => some (o10.1, o10.2, sRe)
def f_X10_needle (F : Nat) (sRo : MS) (p1 : Int32) (sMn : MS) (sRe : MS) : Option (Int32 × MS × MS) := bd (f_X9_isTold F sRo) fun o1 => if o1 = (0 : Int32) then (bd (f_X10_refuse F (1 : Int32) sMn) fun o9 => some (o9.1, o9.2, sRe)) else (bd (f_X8_search F sRo (-1 : Int32) sRe) fun o3 => if (lg_cmp (o3.2.1 3) (0 : Int64)) = (0 : Int32) then (bd (f_X10_accept F (-2 : Int32) sMn) fun o8 => some (o8.1, o8.2, o3)) else (if p1 = (0 : Int32) then (bd (f_J13_numberOfTrailingZeros_95d88 F (o3.2.1 3)) fun o6 => f_X10_needle_68 F sRo p1 o6 sMn o3) else (bd (f_J13_numberOfLeadingZeros_95d88 F (o3.2.1 3)) fun o7 => f_X10_needle_68 F sRo p1 ((63 : Int32) - o7) sMn o3)))

def f_X10_isSeed (F : Nat) (p0 : Int32) : Option Int32 := if p0 < (0 : Int32) then (some (0 : Int32)) else (if (65537 : Int32) ≤ p0 then (some (0 : Int32)) else (some (1 : Int32)))

def f_X10_whyNoRuns (F : Nat) (sMn : MS) (sRo : MS) (p1 : Int32) (p2 : Int32) (p3 : Int32) : Option Int32 := bd (f_X10_isRuleOfRoad F sMn sRo p1) fun o1 => if o1 = (0 : Int32) then (some (1 : Int32)) else (bd (f_X10_isSeed F p2) fun o3 => if o3 = (0 : Int32) then (some (2 : Int32)) else (if p3 < (1 : Int32) then (some (2 : Int32)) else (if (50 : Int32) < p3 then (some (2 : Int32)) else (some (0 : Int32)))))

def f_X10_run (F : Nat) (sRo : MS) (p1 : Int32) (p2 : Int32) (sMn : MS) (sDr : MS) (sDw : MS) : Option (Int32 × MS × MS × MS) := bd (f_X10_whyNoRuns F sMn sRo p1 p2 (1 : Int32)) fun o1 => if o1 = (0 : Int32) then (bd (f_X1_travelDrawn F sRo p1 p2 sDr sDw) fun o3 => bd (f_X10_accept F o3.1 sMn) fun o4 => some (o4.1, o4.2, o3.2.1, o3.2.2)) else (bd (f_X10_refuse F o1 sMn) fun o5 => some (o5.1, o5.2, sDr, sDw))

def f_X10_through_67 (F : Nat) (sRo : MS) (p1 : Int32) (p2 : Int32) (p3 : Int32) (x5 : Int32) (sMn : MS) (sDr : MS) (sDw : MS) : Option (Int32 × MS × MS × MS) := bd (f_X10_accept F x5 sMn) fun o10 => some (o10.1, o10.2, sDr, sDw)
def f_X10_through_61 (F : Nat) (sRo : MS) (p1 : Int32) (p2 : Int32) (p3 : Int32) (k27 : Int32 → Int32 → MS → MS → MS → Option (Int32 × MS × MS × MS)) (x5 : Int32) (x6 : Int32) (sMn : MS) (sDr : MS) (sDw : MS) : Option (Int32 × MS × MS × MS) := lz (x6 + (1 : Int32)) fun v9 => k27 x5 v9 sMn sDr sDw
def f_X10_through_27 (F : Nat) (sRo : MS) (p1 : Int32) (p2 : Int32) (p3 : Int32) : Nat → Int32 → Int32 → MS → MS → MS → Option (Int32 × MS × MS × MS)
  | 0, _, _, _, _, _ => none
  | n + 1, x5, x6, sMn, sDr, sDw => if p3 ≤ x6 then (f_X10_through_67 F sRo p1 p2 p3 x5 sMn sDr sDw) else (lz ((p2 + x6) - (p2 + x6) / (65537 : Int32) * (65537 : Int32)) fun v5 => bd (f_X1_travelDrawn F sRo p1 v5 sDr sDw) fun o6 => if o6.1 = (-2 : Int32) then (f_X10_through_61 F sRo p1 p2 p3 (f_X10_through_27 F sRo p1 p2 p3 n) x5 x6 sMn o6.2.1 o6.2.2) else (lz (x5 + (1 : Int32)) fun v8 => f_X10_through_61 F sRo p1 p2 p3 (f_X10_through_27 F sRo p1 p2 p3 n) v8 x6 sMn o6.2.1 o6.2.2))
def f_X10_through (F : Nat) (sRo : MS) (p1 : Int32) (p2 : Int32) (p3 : Int32) (sMn : MS) (sDr : MS) (sDw : MS) : Option (Int32 × MS × MS × MS) := bd (f_X10_whyNoRuns F sMn sRo p1 p2 p3) fun o1 => if o1 = (0 : Int32) then (f_X10_through_27 F sRo p1 p2 p3 F (0 : Int32) (0 : Int32) sMn sDr sDw) else (bd (f_X10_refuse F o1 sMn) fun o3 => some (o3.1, o3.2, sDr, sDw))

def f_X10_beats_120 (F : Nat) (sRo : MS) (p1 : Int32) (p2 : Int32) (p3 : Int32) (p4 : Int32) (x6 : Int32) (sMn : MS) (sDr : MS) (sDw : MS) : Option (Int32 × MS × MS × MS) := bd (f_X10_accept F x6 sMn) fun o16 => some (o16.1, o16.2, sDr, sDw)
def f_X10_beats_114 (F : Nat) (sRo : MS) (p1 : Int32) (p2 : Int32) (p3 : Int32) (p4 : Int32) (k39 : Int32 → Int32 → MS → MS → MS → Option (Int32 × MS × MS × MS)) (x6 : Int32) (x7 : Int32) (sMn : MS) (sDr : MS) (sDw : MS) : Option (Int32 × MS × MS × MS) := lz (x7 + (1 : Int32)) fun v15 => k39 x6 v15 sMn sDr sDw
def f_X10_beats_111 (F : Nat) (sRo : MS) (p1 : Int32) (p2 : Int32) (p3 : Int32) (p4 : Int32) (k39 : Int32 → Int32 → MS → MS → MS → Option (Int32 × MS × MS × MS)) (x6 : Int32) (x7 : Int32) (sMn : MS) (sDr : MS) (sDw : MS) : Option (Int32 × MS × MS × MS) := lz (x6 + (1 : Int32)) fun v14 => f_X10_beats_114 F sRo p1 p2 p3 p4 k39 v14 x7 sMn sDr sDw
def f_X10_beats_39 (F : Nat) (sRo : MS) (p1 : Int32) (p2 : Int32) (p3 : Int32) (p4 : Int32) : Nat → Int32 → Int32 → MS → MS → MS → Option (Int32 × MS × MS × MS)
  | 0, _, _, _, _, _ => none
  | n + 1, x6, x7, sMn, sDr, sDw => if p4 ≤ x7 then (f_X10_beats_120 F sRo p1 p2 p3 p4 x6 sMn sDr sDw) else (lz ((p3 + x7) - (p3 + x7) / (65537 : Int32) * (65537 : Int32)) fun v7 => bd (f_X1_travelDrawn F sRo p1 v7 sDr sDw) fun o8 => lz ((p3 + x7) - (p3 + x7) / (65537 : Int32) * (65537 : Int32)) fun v9 => bd (f_X1_travelDrawn F sRo p2 v9 o8.2.1 o8.2.2) fun o10 => if o8.1 = (-2 : Int32) then (f_X10_beats_114 F sRo p1 p2 p3 p4 (f_X10_beats_39 F sRo p1 p2 p3 p4 n) x6 x7 sMn o10.2.1 o10.2.2) else (if o10.1 = (-2 : Int32) then (f_X10_beats_111 F sRo p1 p2 p3 p4 (f_X10_beats_39 F sRo p1 p2 p3 p4 n) x6 x7 sMn o10.2.1 o10.2.2) else (if o10.1 ≤ o8.1 then (f_X10_beats_114 F sRo p1 p2 p3 p4 (f_X10_beats_39 F sRo p1 p2 p3 p4 n) x6 x7 sMn o10.2.1 o10.2.2) else (f_X10_beats_111 F sRo p1 p2 p3 p4 (f_X10_beats_39 F sRo p1 p2 p3 p4 n) x6 x7 sMn o10.2.1 o10.2.2))))
def f_X10_beats_19 (F : Nat) (sRo : MS) (p1 : Int32) (p2 : Int32) (p3 : Int32) (p4 : Int32) (y0 : Int32) (sMn : MS) (sDr : MS) (sDw : MS) : Option (Int32 × MS × MS × MS) := if y0 = (0 : Int32) then (f_X10_beats_39 F sRo p1 p2 p3 p4 F (0 : Int32) (0 : Int32) sMn sDr sDw) else (bd (f_X10_refuse F y0 sMn) fun o5 => some (o5.1, o5.2, sDr, sDw))
def f_X10_beats (F : Nat) (sRo : MS) (p1 : Int32) (p2 : Int32) (p3 : Int32) (p4 : Int32) (sMn : MS) (sDr : MS) (sDw : MS) : Option (Int32 × MS × MS × MS) := bd (f_X10_isRule F p2) fun o1 => if o1 = (0 : Int32) then (f_X10_beats_19 F sRo p1 p2 p3 p4 (1 : Int32) sMn sDr sDw) else (bd (f_X10_whyNoRuns F sMn sRo p1 p3 p4) fun o3 => f_X10_beats_19 F sRo p1 p2 p3 p4 o3 sMn sDr sDw)

def f_X10_car_19 (F : Nat) (sJo : MS) (sRo : MS) (p1 : Int32) (sMn : MS) : Option (Int32 × MS) := bd (f_X10_refuse F (1 : Int32) sMn) fun o7 => some (o7.1, o7.2)
def f_X10_car (F : Nat) (sJo : MS) (sRo : MS) (p1 : Int32) (sMn : MS) : Option (Int32 × MS) := bd (f_X9_isTold F sRo) fun o1 => if o1 = (0 : Int32) then (f_X10_car_19 F sJo sRo p1 sMn) else (if p1 < (0 : Int32) then (f_X10_car_19 F sJo sRo p1 sMn) else (if p1 ≤ (4 : Int32) then (gd (vpb p1 7) <| bd (f_X10_accept F (sJo.2.2.1 0 p1.toNatClampNeg) sMn) fun o6 => some (o6.1, o6.2)) else (f_X10_car_19 F sJo sRo p1 sMn)))

def f_X10_fill_63 (F : Nat) (sRo : MS) (p1 : Int32) (sMn : MS) (sJo : MS) (sJk : MS) : Option (Int32 × MS × MS × MS) := bd (f_X10_refuse F (2 : Int32) sMn) fun o16 => some (o16.1, o16.2, sJo, sJk)
def f_X10_fill (F : Nat) (sRo : MS) (p1 : Int32) (sMn : MS) (sJo : MS) (sJk : MS) : Option (Int32 × MS × MS × MS) := bd (f_X9_isTold F sRo) fun o1 => if o1 = (0 : Int32) then (bd (f_X10_refuse F (1 : Int32) sMn) fun o15 => some (o15.1, o15.2, sJo, sJk)) else (gd (vpb (4 : Int32) 7) <| lz (sJo.2.2.1 0 (4 : Int32).toNatClampNeg) fun v4 => if v4 = (-2 : Int32) then (bd (f_X10_refuse F (6 : Int32) sMn) fun o14 => some (o14.1, o14.2, sJo, sJk)) else (if p1 < (1 : Int32) then (f_X10_fill_63 F sRo p1 sMn sJo sJk) else (gd (vpb (1 : Int32) 7) <| lz (sJo.2.2.1 0 (1 : Int32).toNatClampNeg) fun v8 => if p1 ≤ ((sRo.1 0) - v8) then (bd (f_X3_takeIn F sRo p1 sJo sJk) fun o10 => gd (vpb (2 : Int32) 7) <| lz (o10.1.2.2.1 0 (2 : Int32).toNatClampNeg) fun v12 => bd (f_X10_accept F v12 sMn) fun o13 => some (o13.1, o13.2, o10.1, o10.2)) else (f_X10_fill_63 F sRo p1 sMn sJo sJk))))

def f_X10_drive (F : Nat) (sRo : MS) (p1 : Int32) (sMn : MS) (sJo : MS) (sJk : MS) (sJw : MS) : Option (Int32 × MS × MS × MS × MS) := gd (vpb (0 : Int32) 7) <| lz (sJo.2.2.1 0 (0 : Int32).toNatClampNeg) fun v2 => bd (f_X10_areTwoPlaces F sMn sRo v2 p1) fun o3 => if o3 = (0 : Int32) then (bd (f_X10_refuse F (1 : Int32) sMn) fun o15 => some (o15.1, o15.2, sJo, sJk, sJw)) else (bd (f_X9_isRoad F sRo v2 p1) fun o5 => if o5 = (0 : Int32) then (bd (f_X10_refuse F (6 : Int32) sMn) fun o14 => some (o14.1, o14.2, sJo, sJk, sJw)) else (bd (f_X3_canGo F sJo sRo p1) fun o7 => if o7 = (0 : Int32) then (bd (f_X10_refuse F (5 : Int32) sMn) fun o13 => some (o13.1, o13.2, sJo, sJk, sJw)) else (bd (f_X3_goTo F sRo p1 sJw sJo sJk) fun o9 => gd (vpb (1 : Int32) 7) <| lz (o9.2.1.2.2.1 0 (1 : Int32).toNatClampNeg) fun v11 => bd (f_X10_accept F v11 sMn) fun o12 => some (o12.1, o12.2, o9.2.1, o9.2.2, o9.1))))

def f_X10_waits (F : Nat) (sRo : MS) (sMn : MS) (sJo : MS) (sJk : MS) (sJw : MS) : Option (Int32 × MS × MS × MS × MS) := bd (f_X9_isTold F sRo) fun o1 => if o1 = (0 : Int32) then (bd (f_X10_refuse F (1 : Int32) sMn) fun o7 => some (o7.1, o7.2, sJo, sJk, sJw)) else (bd (f_X3_stay F sRo sJw sJo sJk) fun o3 => gd (vpb (4 : Int32) 7) <| lz (o3.2.1.2.2.1 0 (4 : Int32).toNatClampNeg) fun v5 => bd (f_X10_accept F v5 sMn) fun o6 => some (o6.1, o6.2, o3.2.1, o3.2.2, o3.1))

def f_X10_seed (F : Nat) (sRo : MS) (p1 : Int32) (sMn : MS) (sJo : MS) : Option (Int32 × MS × MS) := bd (f_X9_isTold F sRo) fun o1 => if o1 = (0 : Int32) then (bd (f_X10_deny F (1 : Int32) sMn) fun o11 => gd (bob o11.1) <| some (o11.1, o11.2, sJo)) else (bd (f_X10_isSeed F p1) fun o3 => if o3 = (0 : Int32) then (bd (f_X10_deny F (2 : Int32) sMn) fun o9 => gd (bob o9.1) <| some (o9.1, o9.2, sJo)) else (gd (vpb (6 : Int32) 7) <| lz (sA sJo 0 ((6 : Int32).toNatClampNeg) p1) fun s6 => bd (f_X10_allow F sMn) fun o7 => gd (bob o7.1) <| some (o7.1, o7.2, s6)))

def f_X10_undo (F : Nat) (sJk : MS) (sMn : MS) (sJo : MS) : Option (Int32 × MS × MS) := if (sJo.1 1) = (0 : Int32) then (bd (f_X10_deny F (6 : Int32) sMn) fun o5 => gd (bob o5.1) <| some (o5.1, o5.2, sJo)) else (bd (f_X3_takeBack F sJk sJo) fun o2 => bd (f_X10_allow F sMn) fun o3 => gd (bob o3.1) <| some (o3.1, o3.2, o2))

def f_X10_image (F : Nat) (sRo : MS) (sMn : MS) (sJo : MS) (sJi : MS) : Option (Int32 × MS × MS × MS) := bd (f_X9_isTold F sRo) fun o1 => if o1 = (0 : Int32) then (bd (f_X10_refuse F (1 : Int32) sMn) fun o7 => some (o7.1, o7.2, sJo, sJi)) else (if (sJo.1 2) < (3 : Int32) then (bd (f_X3_picture F sJo sJi) fun o4 => bd (f_X10_accept F o4.1 sMn) fun o5 => some (o5.1, o5.2, o4.2.1, o4.2.2)) else (bd (f_X10_refuse F (3 : Int32) sMn) fun o6 => some (o6.1, o6.2, sJo, sJi)))

def f_X10_back_15 (F : Nat) (sJi : MS) (p1 : Int32) (sMn : MS) (sJo : MS) : Option (Int32 × MS × MS) := bd (f_X10_deny F (1 : Int32) sMn) fun o6 => gd (bob o6.1) <| some (o6.1, o6.2, sJo)
def f_X10_back (F : Nat) (sJi : MS) (p1 : Int32) (sMn : MS) (sJo : MS) : Option (Int32 × MS × MS) := if p1 < (0 : Int32) then (f_X10_back_15 F sJi p1 sMn sJo) else (if p1 < (sJo.1 2) then (bd (f_X3_returnTo F sJi p1 sJo) fun o3 => bd (f_X10_allow F sMn) fun o4 => gd (bob o4.1) <| some (o4.1, o4.2, o3)) else (f_X10_back_15 F sJi p1 sMn sJo))

def f_X10_size (F : Nat) (sMn : MS) (sJo : MS) (sRo : MS) (p1 : Int32) : Option Int32 := if p1 = (10 : Int32) then (gd (vpb (6 : Int32) 7) <| lz (sJo.2.2.1 0 (6 : Int32).toNatClampNeg) fun v3 => some v3) else (if p1 = (11 : Int32) then (some (sJo.1 1)) else (if p1 = (12 : Int32) then (some (sJo.1 2)) else (if p1 = (13 : Int32) then (some (sMn.1 1)) else (bd (f_X9_sizeOf F sRo p1) fun o7 => some o7))))

def f_X10_trouble (F : Nat) (sMn : MS) : Option Int32 := some (sMn.1 11)
