def f_X9_isTold (F : Nat) (sRo : MS) : Option Int32 := if (sRo.1 8) ≤ (0 : Int32) then (some (0 : Int32)) else (some (1 : Int32))

def f_X9_isPlace (F : Nat) (sRo : MS) (p1 : Int32) : Option Int32 := if p1 < (0 : Int32) then (some (0 : Int32)) else (if (sRo.1 5) ≤ p1 then (some (0 : Int32)) else (some (1 : Int32)))

def f_X9_isStation (F : Nat) (sRo : MS) (p1 : Int32) : Option Int32 := if p1 < (0 : Int32) then (some (0 : Int32)) else (if (sRo.1 8) ≤ p1 then (some (0 : Int32)) else (some (1 : Int32)))

def f_X9_isLeft (F : Nat) (sRo : MS) (p1 : Int32) : Option Int32 := if p1 < (0 : Int32) then (some (0 : Int32)) else (if ((sRo.1 8) - (1 : Int32)) ≤ p1 then (some (0 : Int32)) else (some (1 : Int32)))

def f_X9_isLevel (F : Nat) (sRo : MS) (p1 : Int32) : Option Int32 := if p1 < (0 : Int32) then (some (0 : Int32)) else (if (sRo.1 0) < p1 then (some (0 : Int32)) else (some (1 : Int32)))

def f_X9_pintsOf (F : Nat) (sRo : MS) (p1 : Int32) (p2 : Int32) : Option Int32 := gd (vpb ((p1 * (9 : Int32)) + p2) 81) <| lz (sRo.2.2.1 10 ((p1 * (9 : Int32)) + p2).toNatClampNeg) fun v2 => some v2

def f_X9_isRoad (F : Nat) (sRo : MS) (p1 : Int32) (p2 : Int32) : Option Int32 := bd (f_X9_pintsOf F sRo p1 p2) fun x1 => if x1 ≤ (0 : Int32) then (some (0 : Int32)) else (some (1 : Int32))

def f_X9_minutesOf (F : Nat) (sRo : MS) (p1 : Int32) (p2 : Int32) : Option Int32 := gd (vpb ((p1 * (9 : Int32)) + p2) 81) <| lz (sRo.2.2.1 11 ((p1 * (9 : Int32)) + p2).toNatClampNeg) fun v2 => some v2

def f_X9_start (F : Nat) (sRo : MS) : Option Int32 := gd (vpb (0 : Int32) 9) <| lz (sRo.2.2.1 15 (0 : Int32).toNatClampNeg) fun v2 => some v2

def f_X9_goal (F : Nat) (sRo : MS) : Option Int32 := if (sRo.1 8) ≤ (0 : Int32) then (gd (vpb (0 : Int32) 9) <| lz (sRo.2.2.1 15 (0 : Int32).toNatClampNeg) fun v3 => some v3) else (gd (vpb ((sRo.1 8) - (1 : Int32)) 9) <| lz (sRo.2.2.1 15 ((sRo.1 8) - (1 : Int32)).toNatClampNeg) fun v5 => some v5)

def f_X9_legPints (F : Nat) (sRo : MS) (p1 : Int32) : Option Int32 := gd (vpb (p1 + (1 : Int32)) 9) <| lz (sRo.2.2.1 16 (p1 + (1 : Int32)).toNatClampNeg) fun v2 => gd (vpb p1 9) <| lz (sRo.2.2.1 16 p1.toNatClampNeg) fun v4 => some (v2 - v4)

def f_X9_legMinutes (F : Nat) (sRo : MS) (p1 : Int32) : Option Int32 := gd (vpb p1 9) <| lz (sRo.2.2.1 15 p1.toNatClampNeg) fun v2 => gd (vpb (p1 + (1 : Int32)) 9) <| lz (sRo.2.2.1 15 (p1 + (1 : Int32)).toNatClampNeg) fun v4 => bd (f_X9_minutesOf F sRo v2 v4) fun x5 => some x5

def f_X9_legsPints (F : Nat) (sRo : MS) (p1 : Int32) (p2 : Int32) : Option Int32 := gd (vpb p2 9) <| lz (sRo.2.2.1 16 p2.toNatClampNeg) fun v2 => gd (vpb p1 9) <| lz (sRo.2.2.1 16 p1.toNatClampNeg) fun v4 => some (v2 - v4)

def f_X9_lastReached_35 (F : Nat) (sRo : MS) (p1 : Int32) (p2 : Int32) (k5 : Int32 → Int32 → Option Int32) (x3 : Int32) (x4 : Int32) : Option Int32 := lz (x4 + (1 : Int32)) fun v7 => k5 x3 v7
def f_X9_lastReached_5 (F : Nat) (sRo : MS) (p1 : Int32) (p2 : Int32) : Nat → Int32 → Int32 → Option Int32
  | 0, _, _ => none
  | n + 1, x3, x4 => if (sRo.1 8) ≤ x4 then (some x3) else (gd (vpb x4 9) <| lz (sRo.2.2.1 16 x4.toNatClampNeg) fun v3 => gd (vpb p1 9) <| lz (sRo.2.2.1 16 p1.toNatClampNeg) fun v5 => if p2 < (v3 - v5) then (f_X9_lastReached_35 F sRo p1 p2 (f_X9_lastReached_5 F sRo p1 p2 n) x3 x4) else (f_X9_lastReached_35 F sRo p1 p2 (f_X9_lastReached_5 F sRo p1 p2 n) x4 x4))
def f_X9_lastReached (F : Nat) (sRo : MS) (p1 : Int32) (p2 : Int32) : Option Int32 := f_X9_lastReached_5 F sRo p1 p2 F p1 p1

def f_X9_hasPumpAt (F : Nat) (sRo : MS) (p1 : Int32) : Option Int32 := gd (vpb p1 9) <| lz (sRo.2.2.1 15 p1.toNatClampNeg) fun v2 => gd (vpb v2 9) <| lz (sRo.2.2.1 12 v2.toNatClampNeg) fun v4 => if v4 ≤ (0 : Int32) then (some (0 : Int32)) else (some (1 : Int32))

def f_X9_priceAt (F : Nat) (sRo : MS) (p1 : Int32) (p2 : Int32) : Option Int32 := if p2 = (0 : Int32) then (gd (vpb p1 9) <| lz (sRo.2.2.1 15 p1.toNatClampNeg) fun v3 => gd (vpb v3 9) <| lz (sRo.2.2.1 12 v3.toNatClampNeg) fun v5 => some v5) else (gd (vpb p1 9) <| lz (sRo.2.2.1 15 p1.toNatClampNeg) fun v7 => gd (vpb v7 9) <| lz (sRo.2.2.1 13 v7.toNatClampNeg) fun v9 => some v9)

def f_X9_sizeOf (F : Nat) (sRo : MS) (p1 : Int32) : Option Int32 := if p1 = (0 : Int32) then (some (sRo.1 0)) else (if p1 = (1 : Int32) then (some (sRo.1 1)) else (if p1 = (2 : Int32) then (some (sRo.1 2)) else (if p1 = (3 : Int32) then (some (sRo.1 3)) else (if p1 = (4 : Int32) then (some (sRo.1 4)) else (if p1 = (5 : Int32) then (some (sRo.1 5)) else (if p1 = (6 : Int32) then (some (sRo.1 6)) else (if p1 = (7 : Int32) then (some (sRo.1 7)) else (if p1 = (8 : Int32) then (some (sRo.1 8)) else (if p1 = (9 : Int32) then (some (sRo.1 9)) else (some (-1 : Int32)))))))))))
