/-! the road as the reference holds it (r), and as the class does -/
def bi (b : Bool) : Int32 := if b then 1 else 0
theorem bi_0 {b : Bool} : bi b = 0 ↔ b = false := by cases b <;> decide
theorem lit_i (n : Nat) (h : n < 2147483648) : (Int32.ofNat n).toInt = n := by
  rw [Int32.toInt_ofNat_of_lt h]
/-- what a road that was read is -/
def ROK (r : Nat → Int32) : Prop :=
  (1 ≤ (r 0).toInt ∧ (r 0).toInt ≤ 40) ∧ (0 ≤ (r 1).toInt ∧ (r 1).toInt ≤ (r 0).toInt) ∧ (0 ≤ (r 2).toInt ∧ (r 2).toInt ≤ 99) ∧ (0 ≤ (r 3).toInt ∧ (r 3).toInt ≤ 60) ∧ (0 ≤ (r 4).toInt ∧ (r 4).toInt ≤ 999) ∧
  (0 ≤ (r 5).toInt ∧ (r 5).toInt ≤ 9) ∧ (0 ≤ (r 6).toInt ∧ (r 6).toInt ≤ 14) ∧ (0 ≤ (r 7).toInt ∧ (r 7).toInt ≤ 8) ∧ (2 ≤ (r 8).toInt ∧ (r 8).toInt ≤ 9) ∧ (0 ≤ (r 9).toInt ∧ (r 9).toInt ≤ 5) ∧
  (∀ a b, a < 9 → b < 9 → 0 ≤ (r (38 + (9 * a + b))).toInt ∧ (r (38 + (9 * a + b))).toInt ≤ 40 ∧ r (38 + (9 * a + b)) = r (38 + (9 * b + a)) ∧ (((r 5).toInt ≤ a ∨ a = b) → (r (38 + (9 * a + b))).toInt = 0)) ∧
  (∀ k, k < 81 → 0 ≤ (r (119 + k)).toInt ∧ (r (119 + k)).toInt ≤ 99) ∧
  (∀ p, p < 9 → (0 ≤ (r (11 + 3 * p)).toInt ∧ (r (11 + 3 * p)).toInt ≤ 99) ∧ (0 ≤ (r (12 + 3 * p)).toInt ∧ (r (12 + 3 * p)).toInt ≤ 99) ∧ (0 ≤ (r (13 + 3 * p)).toInt ∧ (r (13 + 3 * p)).toInt ≤ 9) ∧ (r (11 + 3 * p) = 0 → r (12 + 3 * p) = 0)) ∧
  (∀ i : Nat, (i : Int) < (r 8).toInt → 0 ≤ (r (200 + i)).toInt ∧ (r (200 + i)).toInt < (r 5).toInt) ∧
  (∀ i : Nat, (i : Int) + 1 < (r 8).toInt → 0 < (r (38 + (9 * (r (200 + i)).toNatClampNeg + (r (200 + (i + 1))).toNatClampNeg))).toInt) ∧
  (∀ k : Nat, (k : Int) < (r 9).toInt → (0 ≤ (r (209 + 2 * k)).toInt ∧ (r (209 + 2 * k)).toInt < (r 5).toInt) ∧ (1 ≤ (r (210 + 2 * k)).toInt ∧ (r (210 + 2 * k)).toInt ≤ 999) ∧ 0 < (r (11 + 3 * (r (209 + 2 * k)).toNatClampNeg)).toInt)
/-- the class's Road holds the same; upTo: pints from station 0 -/
def RR (s : MS) (r : Nat → Int32) : Prop :=
  (∀ k, k < 10 → s.1 k = r k) ∧ (∀ k, k < 81 → s.2.2.1 10 k = r (38 + k)) ∧ (∀ k, k < 81 → s.2.2.1 11 k = r (119 + k)) ∧
  (∀ p, p < 9 → s.2.2.1 12 p = r (11 + 3 * p) ∧ s.2.2.1 13 p = r (12 + 3 * p) ∧ s.2.2.1 14 p = r (13 + 3 * p)) ∧
  (∀ i : Nat, (i : Int) < (r 8).toInt → s.2.2.1 15 i = r (200 + i)) ∧ ((s.2.2.1 16 0).toInt = 0) ∧
  (∀ i : Nat, (i : Int) + 1 < (r 8).toInt → (s.2.2.1 16 (i + 1)).toInt = (s.2.2.1 16 i).toInt + (r (38 + (9 * (r (200 + i)).toNatClampNeg + (r (200 + (i + 1))).toNatClampNeg))).toInt) ∧
  (∀ k : Nat, (k : Int) < (r 9).toInt → s.2.2.1 17 k = r (209 + 2 * k) ∧ s.2.2.1 18 k = r (210 + 2 * k))
/-- a road, or none: then all is 0 -/
def HR (r : Nat → Int32) (h : Int32) : Prop := (h = 1 ∧ ROK r) ∨ (h = 0 ∧ ∀ k, k < 300 → r k = 0)
theorem sI_s (s : MS) (k : Nat) (v : Int32) : (sI s k v).1 k = v := by simp [sI, uN]
theorem sI_n (s : MS) (k j : Nat) (v : Int32) (h : j ≠ k) : (sI s k v).1 j = s.1 j := by
  show cond (Nat.beq j k) v (s.1 j) = s.1 j
  have : Nat.beq j k = false := by
    cases e : Nat.beq j k with
    | false => rfl
    | true => exact absurd (Nat.eq_of_beq_eq_true e) h
  rw [this]; rfl
theorem sI_2 (s : MS) (k : Nat) (v : Int32) : (sI s k v).2 = s.2 := rfl
/-- a place of the road -/
def isP (r : Nat → Int32) (p : Int32) : Bool := decide (0 ≤ p.toInt) && decide (p.toInt < (r 5).toInt)
theorem X9_isPlace {F : Nat} {s : MS} {r : Nat → Int32} (hR : RR s r) (p : Int32) : f_X9_isPlace F s p = some (bi (isP r p)) := by
  have h5 : s.1 5 = r 5 := hR.1 5 (by decide)
  unfold f_X9_isPlace isP
  rw [h5]
  simp only [i_lt, i_le]
  have h0 : (0 : Int32).toInt = 0 := rfl
  rw [h0]
  by_cases c1 : p.toInt < 0
  · rw [if_pos c1]
    have : ¬ 0 ≤ p.toInt := by omega
    simp [this, bi]
  · rw [if_neg c1]
    have c2 : 0 ≤ p.toInt := by omega
    by_cases c3 : (r 5).toInt ≤ p.toInt
    · rw [if_pos c3]
      have : ¬ p.toInt < (r 5).toInt := by omega
      simp [this, bi]
    · rw [if_neg c3]
      have : p.toInt < (r 5).toInt := by omega
      simp [this, c2, bi]
