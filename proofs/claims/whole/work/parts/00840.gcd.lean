/-! gcd -/
theorem m_div (a b : Int) (h0 : 0 ≤ a) (h2 : a < 9223372036854775808) (h3 : 0 < b) (h4 : b < 9223372036854775808) : Int64.ofInt a / Int64.ofInt b = Int64.ofInt (a / b) := by
  have ha := om (z := a) (by omega) h2
  have hb := om (z := b) (by omega) h4
  have hq : 0 ≤ a / b := Int.ediv_nonneg h0 (by omega)
  have hq2 : a / b ≤ a := Int.ediv_le_self b h0
  rw [← Int64.toInt_inj, Int64.toInt_div_of_ne_right _ _ (by
    intro e
    rw [← Int64.toInt_inj, hb] at e
    have : (-1 : Int64).toInt = -1 := rfl
    omega), ha, hb, Int.tdiv_eq_ediv_of_nonneg h0, om (by omega) (by omega)]
theorem m_rem (a b : Nat) (ha : a < 9223372036854775808) (hb : 0 < b) (hb2 : b < 9223372036854775808) : Int64.ofInt (a : Int) - Int64.ofInt (a : Int) / Int64.ofInt (b : Int) * Int64.ofInt (b : Int) = Int64.ofInt ((a % b : Nat) : Int) := by
  rw [m_div _ _ (by omega) (by omega) (by omega) (by omega), m_mul, m_sub]
  congr 1
  rw [Int.natCast_emod]
  have := Int.emod_add_mul_ediv (a : Int) (b : Int)
  have := Int.mul_comm (b : Int) ((a : Int) / b)
  omega
theorem halve {a b k : Nat} (hb : b < 2 ^ (k + 1)) (hb0 : 0 < b) (h0 : 0 < a % b) : b % (a % b) < 2 ^ k := by
  have h1 : a % b < b := Nat.mod_lt _ hb0
  have e : 2 ^ (k + 1) = 2 * 2 ^ k := by rw [Nat.pow_succ, Nat.mul_comm]
  generalize a % b = q at *
  rcases Nat.lt_or_ge b (2 * q) with c | c
  · rw [Nat.mod_eq_sub_mod (by omega), Nat.mod_eq_of_lt (by omega)]
    omega
  · have := Nat.mod_lt b h0
    omega
theorem gcd_st {a b : Nat} : Nat.gcd a b = Nat.gcd b (a % b) := by
  rw [Nat.gcd_comm a b, Nat.gcd_rec b a, Nat.gcd_comm]
theorem z_200' : (200 : Int32) = Int32.ofInt 200 := rfl
theorem cd_go {F : Nat} (p0 p2 : Int64) : ∀ (k a b n st : Nat), b < 2 ^ k → a < 9223372036854775808 → b < 9223372036854775808 → 2 * k < n → st + 2 * k ≤ 200 → f_X2_commonDivisor_9 F p0 p2 n (Int64.ofInt (a : Int)) (Int64.ofInt (b : Int)) (Int32.ofInt (st : Int)) = some (Int64.ofInt ((Nat.gcd a b : Nat) : Int)) := by
  intro k
  induction k with
  | zero =>
    intro a b n st hb ha hb' hn hst
    cases n with
    | zero => omega
    | succ n =>
      have : b = 0 := by omega
      subst this
      rw [f_X2_commonDivisor_9, Nat.gcd_zero_right]
      by_cases c : 200 ≤ st
      · simp (disch := omega) only [z_0, z_1, z_2, z_3, z_4, z_5, z_6, z_7, z_8, z_9, z_10, z_11, z_12, z_14, z_18, z_20, z_22, z_24, z_32, z_38, z_40, z_41, z_44, z_48, z_49, z_57, z_59, z_60, z_63, z_65, z_74, z_75, z_81, z_97, z_99, z_104, z_115, z_119, z_122, z_200, z_209, z_210, z_219, z_228, z_255, z_300, z_369, z_999, z_65537, z_268435456, z_1000000000, n_nat, n_add, n_sub, n_mul, n_neg, n_lt, n_le, n_eq, n_ix, n_gd, n_nz, lz_t, bd_some, tn, Int.reduceToNat, tn_1, if_pos, if_neg, if_true, if_false]
      · simp (disch := omega) only [z_0, z_1, z_2, z_3, z_4, z_5, z_6, z_7, z_8, z_9, z_10, z_11, z_12, z_14, z_18, z_20, z_22, z_24, z_32, z_38, z_40, z_41, z_44, z_48, z_49, z_57, z_59, z_60, z_63, z_65, z_74, z_75, z_81, z_97, z_99, z_104, z_115, z_119, z_122, z_200, z_209, z_210, z_219, z_228, z_255, z_300, z_369, z_999, z_65537, z_268435456, z_1000000000, n_nat, n_add, n_sub, n_mul, n_neg, n_lt, n_le, n_eq, n_ix, n_gd, n_nz, lz_t, bd_some, tn, Int.reduceToNat, tn_1, if_pos, if_neg, if_true, if_false, y_0, c_eq]
  | succ k ih =>
    intro a b n st hb ha hb' hn hst
    cases n with
    | zero => omega
    | succ n =>
      rw [f_X2_commonDivisor_9]
      by_cases c0 : b = 0
      · subst c0
        rw [Nat.gcd_zero_right]
        simp (disch := omega) only [z_0, z_1, z_2, z_3, z_4, z_5, z_6, z_7, z_8, z_9, z_10, z_11, z_12, z_14, z_18, z_20, z_22, z_24, z_32, z_38, z_40, z_41, z_44, z_48, z_49, z_57, z_59, z_60, z_63, z_65, z_74, z_75, z_81, z_97, z_99, z_104, z_115, z_119, z_122, z_200, z_209, z_210, z_219, z_228, z_255, z_300, z_369, z_999, z_65537, z_268435456, z_1000000000, n_nat, n_add, n_sub, n_mul, n_neg, n_lt, n_le, n_eq, n_ix, n_gd, n_nz, lz_t, bd_some, tn, Int.reduceToNat, tn_1, if_pos, if_neg, if_true, if_false, y_0, c_eq]
      · have b0 : 0 < b := by omega
        have m1 := Nat.mod_lt a b0
        simp (disch := omega) only [z_0, z_1, z_2, z_3, z_4, z_5, z_6, z_7, z_8, z_9, z_10, z_11, z_12, z_14, z_18, z_20, z_22, z_24, z_32, z_38, z_40, z_41, z_44, z_48, z_49, z_57, z_59, z_60, z_63, z_65, z_74, z_75, z_81, z_97, z_99, z_104, z_115, z_119, z_122, z_200, z_209, z_210, z_219, z_228, z_255, z_300, z_369, z_999, z_65537, z_268435456, z_1000000000, n_nat, n_add, n_sub, n_mul, n_neg, n_lt, n_le, n_eq, n_ix, n_gd, n_nz, lz_t, bd_some, tn, Int.reduceToNat, tn_1, if_pos, if_neg, if_true, if_false, y_0, c_eq, m_nz, m_rem a b ha b0 hb']
        cases n with
        | zero => omega
        | succ n =>
          rw [f_X2_commonDivisor_9]
          by_cases c1 : a % b = 0
          · rw [c1, gcd_st (a := a) (b := b), c1, Nat.gcd_zero_right]
            simp (disch := omega) only [z_0, z_1, z_2, z_3, z_4, z_5, z_6, z_7, z_8, z_9, z_10, z_11, z_12, z_14, z_18, z_20, z_22, z_24, z_32, z_38, z_40, z_41, z_44, z_48, z_49, z_57, z_59, z_60, z_63, z_65, z_74, z_75, z_81, z_97, z_99, z_104, z_115, z_119, z_122, z_200, z_209, z_210, z_219, z_228, z_255, z_300, z_369, z_999, z_65537, z_268435456, z_1000000000, n_nat, n_add, n_sub, n_mul, n_neg, n_lt, n_le, n_eq, n_ix, n_gd, n_nz, lz_t, bd_some, tn, Int.reduceToNat, tn_1, if_pos, if_neg, if_true, if_false, y_0, c_eq]
          · have h2 := halve (a := a) hb b0 (by omega)
            have m2 := Nat.mod_lt b (show 0 < a % b by omega)
            simp (disch := omega) only [z_0, z_1, z_2, z_3, z_4, z_5, z_6, z_7, z_8, z_9, z_10, z_11, z_12, z_14, z_18, z_20, z_22, z_24, z_32, z_38, z_40, z_41, z_44, z_48, z_49, z_57, z_59, z_60, z_63, z_65, z_74, z_75, z_81, z_97, z_99, z_104, z_115, z_119, z_122, z_200, z_209, z_210, z_219, z_228, z_255, z_300, z_369, z_999, z_65537, z_268435456, z_1000000000, n_nat, n_add, n_sub, n_mul, n_neg, n_lt, n_le, n_eq, n_ix, n_gd, n_nz, lz_t, bd_some, tn, Int.reduceToNat, tn_1, if_pos, if_neg, if_true, if_false, y_0, c_eq, m_nz, m_rem b (a % b) hb' (by omega) (by omega)]
            have := ih (a % b) (b % (a % b)) n (st + 2) h2 (by omega) (by omega) (by omega) (by omega)
            rw [← gcd_st, ← gcd_st] at this
            rw [show (st : Int) + 1 + 1 = ((st + 2 : Nat) : Int) by omega]
            exact this
theorem dv_go {F : Nat} (p0 p2 : Int64) : ∀ (k a b n : Nat), b < 2 ^ k → a < 9223372036854775808 → b < 9223372036854775808 → 2 * k < n → f_X11_dividing_6 F p0 p2 n (Int64.ofInt (a : Int)) (Int64.ofInt (b : Int)) = some (Int64.ofInt ((Nat.gcd a b : Nat) : Int)) := by
  intro k
  induction k with
  | zero =>
    intro a b n hb ha hb' hn
    cases n with
    | zero => omega
    | succ n =>
      have : b = 0 := by omega
      subst this
      rw [f_X11_dividing_6, Nat.gcd_zero_right]
      simp (disch := omega) only [z_0, z_1, z_2, z_3, z_4, z_5, z_6, z_7, z_8, z_9, z_10, z_11, z_12, z_14, z_18, z_20, z_22, z_24, z_32, z_38, z_40, z_41, z_44, z_48, z_49, z_57, z_59, z_60, z_63, z_65, z_74, z_75, z_81, z_97, z_99, z_104, z_115, z_119, z_122, z_200, z_209, z_210, z_219, z_228, z_255, z_300, z_369, z_999, z_65537, z_268435456, z_1000000000, n_nat, n_add, n_sub, n_mul, n_neg, n_lt, n_le, n_eq, n_ix, n_gd, n_nz, lz_t, bd_some, tn, Int.reduceToNat, tn_1, if_pos, if_neg, if_true, if_false, y_0, c_eq]
  | succ k ih =>
    intro a b n hb ha hb' hn
    cases n with
    | zero => omega
    | succ n =>
      rw [f_X11_dividing_6]
      by_cases c0 : b = 0
      · subst c0
        rw [Nat.gcd_zero_right]
        simp (disch := omega) only [z_0, z_1, z_2, z_3, z_4, z_5, z_6, z_7, z_8, z_9, z_10, z_11, z_12, z_14, z_18, z_20, z_22, z_24, z_32, z_38, z_40, z_41, z_44, z_48, z_49, z_57, z_59, z_60, z_63, z_65, z_74, z_75, z_81, z_97, z_99, z_104, z_115, z_119, z_122, z_200, z_209, z_210, z_219, z_228, z_255, z_300, z_369, z_999, z_65537, z_268435456, z_1000000000, n_nat, n_add, n_sub, n_mul, n_neg, n_lt, n_le, n_eq, n_ix, n_gd, n_nz, lz_t, bd_some, tn, Int.reduceToNat, tn_1, if_pos, if_neg, if_true, if_false, y_0, c_eq]
      · have b0 : 0 < b := by omega
        have m1 := Nat.mod_lt a b0
        simp (disch := omega) only [z_0, z_1, z_2, z_3, z_4, z_5, z_6, z_7, z_8, z_9, z_10, z_11, z_12, z_14, z_18, z_20, z_22, z_24, z_32, z_38, z_40, z_41, z_44, z_48, z_49, z_57, z_59, z_60, z_63, z_65, z_74, z_75, z_81, z_97, z_99, z_104, z_115, z_119, z_122, z_200, z_209, z_210, z_219, z_228, z_255, z_300, z_369, z_999, z_65537, z_268435456, z_1000000000, n_nat, n_add, n_sub, n_mul, n_neg, n_lt, n_le, n_eq, n_ix, n_gd, n_nz, lz_t, bd_some, tn, Int.reduceToNat, tn_1, if_pos, if_neg, if_true, if_false, y_0, c_eq, m_nz, m_rem a b ha b0 hb']
        cases n with
        | zero => omega
        | succ n =>
          rw [f_X11_dividing_6]
          by_cases c1 : a % b = 0
          · rw [c1, gcd_st (a := a) (b := b), c1, Nat.gcd_zero_right]
            simp (disch := omega) only [z_0, z_1, z_2, z_3, z_4, z_5, z_6, z_7, z_8, z_9, z_10, z_11, z_12, z_14, z_18, z_20, z_22, z_24, z_32, z_38, z_40, z_41, z_44, z_48, z_49, z_57, z_59, z_60, z_63, z_65, z_74, z_75, z_81, z_97, z_99, z_104, z_115, z_119, z_122, z_200, z_209, z_210, z_219, z_228, z_255, z_300, z_369, z_999, z_65537, z_268435456, z_1000000000, n_nat, n_add, n_sub, n_mul, n_neg, n_lt, n_le, n_eq, n_ix, n_gd, n_nz, lz_t, bd_some, tn, Int.reduceToNat, tn_1, if_pos, if_neg, if_true, if_false, y_0, c_eq]
          · have h2 := halve (a := a) hb b0 (by omega)
            have m2 := Nat.mod_lt b (show 0 < a % b by omega)
            simp (disch := omega) only [z_0, z_1, z_2, z_3, z_4, z_5, z_6, z_7, z_8, z_9, z_10, z_11, z_12, z_14, z_18, z_20, z_22, z_24, z_32, z_38, z_40, z_41, z_44, z_48, z_49, z_57, z_59, z_60, z_63, z_65, z_74, z_75, z_81, z_97, z_99, z_104, z_115, z_119, z_122, z_200, z_209, z_210, z_219, z_228, z_255, z_300, z_369, z_999, z_65537, z_268435456, z_1000000000, n_nat, n_add, n_sub, n_mul, n_neg, n_lt, n_le, n_eq, n_ix, n_gd, n_nz, lz_t, bd_some, tn, Int.reduceToNat, tn_1, if_pos, if_neg, if_true, if_false, y_0, c_eq, m_nz, m_rem b (a % b) hb' (by omega) (by omega)]
            have := ih (a % b) (b % (a % b)) n h2 (by omega) (by omega) (by omega)
            rw [← gcd_st, ← gcd_st] at this
            exact this
theorem cd_e {F : Nat} (hF : 300 ≤ F) {a b : Nat} (ha : a < 1152921504606846976) (hb : b < 1152921504606846976) : f_X2_commonDivisor F (Int64.ofInt (a : Int)) (Int64.ofInt (b : Int)) = some (Int64.ofInt ((Nat.gcd a b : Nat) : Int)) :=
  cd_go _ _ 60 a b F 0 (by omega) (by omega) (by omega) (by omega) (by omega)
theorem dv_e {F : Nat} (hF : 300 ≤ F) {a b : Nat} (ha : a < 1152921504606846976) (hb : b < 1152921504606846976) : f_X11_dividing F (Int64.ofInt (a : Int)) (Int64.ofInt (b : Int)) = some (Int64.ofInt ((Nat.gcd a b : Nat) : Int)) :=
  dv_go _ _ 60 a b F (by omega) (by omega) (by omega) (by omega)
theorem bec_e {F : Nat} (hF : 300 ≤ F) {a b : Nat} (ha : a < 1152921504606846976) (hb : b < 1152921504606846976) (h0 : 0 < b) (s : MS) : f_X2_become F (Int64.ofInt (a : Int)) (Int64.ofInt (b : Int)) s = some (sL (sL s 0 (Int64.ofInt ((a / Nat.gcd a b : Nat) : Int))) 1 (Int64.ofInt ((b / Nat.gcd a b : Nat) : Int))) := by
  have g0 := Nat.gcd_pos_of_pos_right a h0
  have g1 := Nat.gcd_le_right a h0
  unfold f_X2_become f_X2_become_17
  simp (disch := omega) only [z_0, z_1, z_2, z_3, z_4, z_5, z_6, z_7, z_8, z_9, z_10, z_11, z_12, z_14, z_18, z_20, z_22, z_24, z_32, z_38, z_40, z_41, z_44, z_48, z_49, z_57, z_59, z_60, z_63, z_65, z_74, z_75, z_81, z_97, z_99, z_104, z_115, z_119, z_122, z_200, z_209, z_210, z_219, z_228, z_255, z_300, z_369, z_999, z_65537, z_268435456, z_1000000000, n_nat, n_add, n_sub, n_mul, n_neg, n_lt, n_le, n_eq, n_ix, n_gd, n_nz, lz_t, bd_some, tn, Int.reduceToNat, tn_1, if_pos, if_neg, if_true, if_false, y_0, y_1, c_eq, m_nz, cd_e hF ha hb, m_div]
  rfl
theorem low_e {F : Nat} (hF : 300 ≤ F) {a b : Nat} (ha : a < 1152921504606846976) (hb : b < 1152921504606846976) (h0 : 0 < b) (p : Int32) : f_X11_lowest F (Int64.ofInt (a : Int)) (Int64.ofInt (b : Int)) p = some (Int64.ofInt (((if p = 0 then a else b) / Nat.gcd a b : Nat) : Int)) := by
  have g0 := Nat.gcd_pos_of_pos_right a h0
  have g1 := Nat.gcd_le_right a h0
  have d := dv_e (F := F) hF hb ha
  rw [Nat.gcd_comm] at d
  unfold f_X11_lowest f_X11_lowest_10
  by_cases c : p = 0
  · rw [if_pos c, if_pos c]
    simp (disch := omega) only [bd_some, m_nz, d, m_div]
    rfl
  · rw [if_neg c, if_neg c]
    simp (disch := omega) only [bd_some, m_nz, d, m_div]
    rfl
theorem red_k {a b k : Nat} (hk : 0 < k) : (a * k) / Nat.gcd (a * k) (b * k) = a / Nat.gcd a b ∧ (b * k) / Nat.gcd (a * k) (b * k) = b / Nat.gcd a b := by
  rw [Nat.gcd_mul_right, Nat.mul_div_mul_right _ _ hk, Nat.mul_div_mul_right _ _ hk]
  exact ⟨rfl, rfl⟩
