/-! needle: the lowest bit, the highest bit -/
theorem usr {X s : Nat} (hX : X < 2147483648) {t : UInt32} (ht : t.toNat % 32 = s) : ((Int32.ofInt (X : Int)).toUInt32 >>> t).toInt32 = Int32.ofInt ((X / 2 ^ s : Nat) : Int) := by
  have q : X / 2 ^ s ≤ X := Nat.div_le_self _ _
  rw [← Int32.toBitVec_inj]
  apply BitVec.eq_of_toNat_eq
  show ((Int32.ofInt (X : Int)).toUInt32 >>> t).toNat = (BitVec.ofInt 32 ((X / 2 ^ s : Nat) : Int)).toNat
  rw [UInt32.toNat_shiftRight, ht]
  show (BitVec.ofInt 32 (X : Int)).toNat >>> s = _
  rw [BitVec.toNat_ofInt, BitVec.toNat_ofInt, Nat.shiftRight_eq_div_pow]
  have e1 : ((X : Int) % ((2 ^ 32 : Nat) : Int)).toNat = X := by omega
  have e2 : (((X / 2 ^ s : Nat) : Int) % ((2 ^ 32 : Nat) : Int)).toNat = X / 2 ^ s := by
    generalize X / 2 ^ s = Y at *
    omega
  rw [e1, e2]
theorem z_16 : (16 : Int32) = Int32.ofInt 16 := rfl
theorem z_256 : (256 : Int32) = Int32.ofInt 256 := rfl
theorem z_31 : (31 : Int32) = Int32.ofInt 31 := rfl
theorem u16 : ((Int32.ofInt 16).toUInt32 &&& (Int32.ofInt 31).toUInt32).toNat % 32 = 16 := by decide
theorem u8 : ((Int32.ofInt 8).toUInt32 &&& (Int32.ofInt 31).toUInt32).toNat % 32 = 8 := by decide
theorem u4 : ((Int32.ofInt 4).toUInt32 &&& (Int32.ofInt 31).toUInt32).toNat % 32 = 4 := by decide
theorem u2 : ((Int32.ofInt 2).toUInt32 &&& (Int32.ofInt 31).toUInt32).toNat % 32 = 2 := by decide
theorem u1 : ((Int32.ofInt 1).toUInt32 &&& (Int32.ofInt 31).toUInt32).toNat % 32 = 1 := by decide
theorem nlz_e {F : Nat} {X : Nat} : ∀ h : Nat, h < 31 → 2 ^ h ≤ X → X < 2 ^ (h + 1) → f_J6_numberOfLeadingZeros_0f7a4 F (Int32.ofInt (X : Int)) = some (Int32.ofInt (31 - (h : Int))) := by
  intro h hh h1 h2
  have hX : X < 2147483648 := by
    have : 2 ^ (h + 1) ≤ 2 ^ 31 := Nat.pow_le_pow_right (by omega) (by omega)
    omega
  have p16 : ∀ Y : Nat, Y < 2147483648 → ((Int32.ofInt (Y : Int)).toUInt32 >>> ((Int32.ofInt 16).toUInt32 &&& (Int32.ofInt 31).toUInt32)).toInt32 = Int32.ofInt ((Y / 65536 : Nat) : Int) := fun Y hY => usr hY u16
  have p8 : ∀ Y : Nat, Y < 2147483648 → ((Int32.ofInt (Y : Int)).toUInt32 >>> ((Int32.ofInt 8).toUInt32 &&& (Int32.ofInt 31).toUInt32)).toInt32 = Int32.ofInt ((Y / 256 : Nat) : Int) := fun Y hY => usr hY u8
  have p4 : ∀ Y : Nat, Y < 2147483648 → ((Int32.ofInt (Y : Int)).toUInt32 >>> ((Int32.ofInt 4).toUInt32 &&& (Int32.ofInt 31).toUInt32)).toInt32 = Int32.ofInt ((Y / 16 : Nat) : Int) := fun Y hY => usr hY u4
  have p2 : ∀ Y : Nat, Y < 2147483648 → ((Int32.ofInt (Y : Int)).toUInt32 >>> ((Int32.ofInt 2).toUInt32 &&& (Int32.ofInt 31).toUInt32)).toInt32 = Int32.ofInt ((Y / 4 : Nat) : Int) := fun Y hY => usr hY u2
  have p1 : ∀ Y : Nat, Y < 2147483648 → ((Int32.ofInt (Y : Int)).toUInt32 >>> ((Int32.ofInt 1).toUInt32 &&& (Int32.ofInt 31).toUInt32)).toInt32 = Int32.ofInt ((Y / 2 : Nat) : Int) := fun Y hY => usr hY u1
  unfold f_J6_numberOfLeadingZeros_0f7a4 f_J6_numberOfLeadingZeros_0f7a4_33 f_J6_numberOfLeadingZeros_0f7a4_48 f_J6_numberOfLeadingZeros_0f7a4_61 f_J6_numberOfLeadingZeros_0f7a4_73
  have fin : ∀ (a b : Int), a = b → some (Int32.ofInt a) = some (Int32.ofInt b) := fun a b e => by rw [e]
  have cs : h = 0 ∨ h = 1 ∨ h = 2 ∨ h = 3 ∨ h = 4 ∨ h = 5 ∨ h = 6 ∨ h = 7 ∨ h = 8 ∨ h = 9 ∨ h = 10 ∨ h = 11 ∨ h = 12 ∨ h = 13 ∨ h = 14 ∨ h = 15 ∨ h = 16 ∨ h = 17 ∨ h = 18 ∨ h = 19 ∨ h = 20 ∨ h = 21 ∨ h = 22 ∨ h = 23 ∨ h = 24 ∨ h = 25 ∨ h = 26 ∨ h = 27 ∨ h = 28 ∨ h = 29 ∨ h = 30 := by omega
  rcases cs with rfl | rfl | rfl | rfl | rfl | rfl | rfl | rfl | rfl | rfl | rfl | rfl | rfl | rfl | rfl | rfl | rfl | rfl | rfl | rfl | rfl | rfl | rfl | rfl | rfl | rfl | rfl | rfl | rfl | rfl | rfl
  all_goals
    simp (disch := omega) only [z_0, z_1, z_2, z_3, z_4, z_5, z_6, z_7, z_8, z_9, z_10, z_11, z_12, z_14, z_18, z_20, z_22, z_24, z_32, z_38, z_40, z_41, z_44, z_48, z_49, z_57, z_59, z_60, z_63, z_65, z_74, z_75, z_81, z_97, z_99, z_104, z_115, z_119, z_122, z_200, z_209, z_210, z_219, z_228, z_255, z_300, z_369, z_999, z_65537, z_268435456, z_1000000000, n_nat, n_add, n_sub, n_mul, n_neg, n_lt, n_le, n_eq, n_ix, n_gd, n_nz, lz_t, bd_some, tn, Int.reduceToNat, tn_1, if_pos, if_neg, if_true, if_false, z_16, z_256, z_31, z_65536, p16, p8, p4, p2, p1]
    apply fin
    omega
def tb' (x : Int32) : Nat := x.toBitVec.toNat
theorem low_x {X l : Nat} (h1 : X.testBit l = true) (h0 : ∀ j, j < l → X.testBit j = false) : X = 2 ^ (l + 1) * (X / 2 ^ (l + 1)) + 2 ^ l := by
  have e : X % 2 ^ (l + 1) = 2 ^ l := by
    apply Nat.eq_of_testBit_eq
    intro i
    rw [Nat.testBit_mod_two_pow, Nat.testBit_two_pow]
    by_cases c : i < l + 1
    · rw [decide_eq_true c, Bool.true_and]
      by_cases c2 : i = l
      · subst c2
        rw [h1, decide_eq_true rfl]
      · rw [h0 i (by omega), decide_eq_false (by omega)]
    · rw [decide_eq_false c, Bool.false_and, decide_eq_false (by omega)]
  have := Nat.div_add_mod X (2 ^ (l + 1))
  rw [e] at this
  exact this.symm
theorem ntz_v {x : Int32} {l : Nat} (hl : l < 32) (h1 : b32 x l = true) (h0 : ∀ j, j < l → b32 x j = false) : (x ^^^ (-1 : Int32)) &&& (x - (1 : Int32)) = Int32.ofNat (2 ^ l - 1) := by
  rw [← Int32.toBitVec_inj]
  apply BitVec.eq_of_getLsbD_eq
  intro i hi
  rw [Int32.toBitVec_and, BitVec.getLsbD_and, Int32.toBitVec_xor, BitVec.getLsbD_xor]
  have m1 : (-1 : Int32).toBitVec.getLsbD i = true := by
    have : ∀ i, i < 32 → (-1 : Int32).toBitVec.getLsbD i = true := by decide
    exact this i hi
  have r1 : (Int32.ofNat (2 ^ l - 1)).toBitVec.getLsbD i = decide (i < l) := by
    show (BitVec.ofNat 32 (2 ^ l - 1)).getLsbD i = _
    rw [BitVec.getLsbD_ofNat, Nat.testBit_two_pow_sub_one, decide_eq_true hi, Bool.true_and]
  have hx := low_x (X := x.toBitVec.toNat) (l := l) h1 h0
  have p1 : 1 ≤ 2 ^ l := Nat.one_le_pow _ _ (by omega)
  have p2 : 2 ^ (l + 1) = 2 * 2 ^ l := by rw [Nat.pow_succ, Nat.mul_comm]
  have xb := x.toBitVec.isLt
  have s1 : (x - (1 : Int32)).toBitVec.toNat = 2 ^ (l + 1) * (x.toBitVec.toNat / 2 ^ (l + 1)) + (2 ^ l - 1) := by
    rw [Int32.toBitVec_sub, BitVec.toNat_sub]
    show (2 ^ 32 - 1 + x.toBitVec.toNat) % 2 ^ 32 = _
    omega
  have s2 : (x - (1 : Int32)).toBitVec.getLsbD i = if i < l + 1 then (2 ^ l - 1).testBit i else (x.toBitVec.toNat / 2 ^ (l + 1)).testBit (i - (l + 1)) := by
    show ((x - (1 : Int32)).toBitVec.toNat).testBit i = _
    rw [s1, Nat.testBit_two_pow_mul_add _ (by omega)]
  have s3 : x.toBitVec.getLsbD i = if i < l + 1 then (2 ^ l).testBit i else (x.toBitVec.toNat / 2 ^ (l + 1)).testBit (i - (l + 1)) := by
    show (x.toBitVec.toNat).testBit i = _
    rw [hx, Nat.testBit_two_pow_mul_add _ (by omega)]
    rw [← hx]
  rw [m1, r1, s2]
  by_cases c : i < l + 1
  · rw [if_pos c, Nat.testBit_two_pow_sub_one]
    rw [if_pos c, Nat.testBit_two_pow] at s3
    rw [s3]
    by_cases c2 : i < l
    · rw [decide_eq_true c2, decide_eq_false (show ¬ l = i by omega)]
      rfl
    · rw [decide_eq_false c2, Bool.and_false]
  · rw [if_neg c]
    rw [if_neg c] at s3
    rw [← s3, decide_eq_false (show ¬ i < l by omega)]
    cases x.toBitVec.getLsbD i <;> rfl
theorem ntz_e {F : Nat} {x : Int32} {l : Nat} (hl : l < 32) (h1 : b32 x l = true) (h0 : ∀ j, j < l → b32 x j = false) : f_J6_numberOfTrailingZeros_0f7a4 F x = some (Int32.ofInt (l : Int)) := by
  have v := ntz_v hl h1 h0
  unfold f_J6_numberOfTrailingZeros_0f7a4
  rw [v, lz_t]
  have : ∀ l : Nat, l < 32 → (if (0 : Int32) < Int32.ofNat (2 ^ l - 1) then (if Int32.ofNat (2 ^ l - 1) ≤ (65536 : Int32) then (f_J6_numberOfTrailingZeros_0f7a4_34 0 (Int32.ofNat (2 ^ l - 1)) (1 : Int32)) else (lz ((1 : Int32) + (16 : Int32)) fun v4 => lz (((Int32.ofNat (2 ^ l - 1)).toUInt32 >>> ((16 : Int32).toUInt32 &&& Int32.toUInt32 31)).toInt32) fun v5 => f_J6_numberOfTrailingZeros_0f7a4_34 0 v5 v4)) else (some (Int32.ofNat (2 ^ l - 1) &&& (32 : Int32)))) = some (Int32.ofInt (l : Int)) := by decide
  exact this l hl
