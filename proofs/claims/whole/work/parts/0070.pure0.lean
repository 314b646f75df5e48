/-! pure rows: how the functions are opened -/
theorem gd_t {α : Type} {b : Bool} {k : Option α} (h : b = true) : gd b k = k := by rw [h]; rfl
theorem bd_t {α β : Type} {o : Option α} {x : α} {k : α → Option β} (h : o = some x) : bd o k = k x := by rw [h]; rfl
theorem bd_some {α β : Type} {x : α} {k : α → Option β} : bd (some x) k = k x := rfl
theorem lz_t {α β : Type} {e : α} {k : α → Option β} : lz e k = k e := rfl
/-- numbers: an Int32 as an integer -/
theorem i_lt (a b : Int32) : a < b ↔ a.toInt < b.toInt := Int32.lt_iff_toInt_lt
theorem i_le (a b : Int32) : a ≤ b ↔ a.toInt ≤ b.toInt := Int32.le_iff_toInt_le
theorem i_eq (a b : Int32) : a = b ↔ a.toInt = b.toInt := Int32.toInt_inj.symm
theorem i_rng (x : Int32) : -2147483648 ≤ x.toInt ∧ x.toInt < 2147483648 := ⟨by have := Int32.le_toInt x; simpa using this, by have := Int32.toInt_lt x; simpa using this⟩
theorem i_add (a b : Int32) (h : -2147483648 ≤ a.toInt + b.toInt ∧ a.toInt + b.toInt < 2147483648) : (a + b).toInt = a.toInt + b.toInt := by
  rw [Int32.toInt_add, Int.bmod_eq_of_le (by omega) (by omega)]
theorem i_sub (a b : Int32) (h : -2147483648 ≤ a.toInt - b.toInt ∧ a.toInt - b.toInt < 2147483648) : (a - b).toInt = a.toInt - b.toInt := by
  rw [Int32.toInt_sub, Int.bmod_eq_of_le (by omega) (by omega)]
theorem i_mul (a b : Int32) (h : -2147483648 ≤ a.toInt * b.toInt ∧ a.toInt * b.toInt < 2147483648) : (a * b).toInt = a.toInt * b.toInt := by
  rw [Int32.toInt_mul, Int.bmod_eq_of_le (by omega) (by omega)]
theorem i_nat (x : Int32) (h : 0 ≤ x.toInt) : (x.toNatClampNeg : Int) = x.toInt := by
  have := Int32.toNat_toInt x
  omega
theorem vpb_iff {x : Int32} {n : Nat} : vpb x n = true ↔ 0 ≤ x.toInt ∧ x.toInt < n := by
  unfold vpb
  rw [Bool.and_eq_true, decide_eq_true_eq, decide_eq_true_eq, i_le]
  have h0 : (0 : Int32).toInt = 0 := rfl
  rw [h0]
  constructor
  · rintro ⟨h1, h2⟩
    have := i_nat x h1
    omega
  · rintro ⟨h1, h2⟩
    have := i_nat x h1
    exact ⟨h1, by omega⟩
