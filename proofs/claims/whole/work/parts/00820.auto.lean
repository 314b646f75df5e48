/-! numbers as integers: the form ofInt -/
theorem n_add (a b : Int) : Int32.ofInt a + Int32.ofInt b = Int32.ofInt (a + b) := (Int32.ofInt_add a b).symm
theorem n_sub (a b : Int) : Int32.ofInt a - Int32.ofInt b = Int32.ofInt (a - b) := (Int32.ofInt_sub a b).symm
theorem n_mul (a b : Int) : Int32.ofInt a * Int32.ofInt b = Int32.ofInt (a * b) := (Int32.ofInt_mul a b).symm
theorem n_neg (a : Int) : -Int32.ofInt a = Int32.ofInt (-a) := (Int32.ofInt_neg a).symm
theorem n_nat (n : Nat) : Int32.ofNat n = Int32.ofInt n := rfl
theorem n_toI (a : Int) (h1 : -2147483648 ≤ a) (h2 : a < 2147483648) : (Int32.ofInt a).toInt = a := oi ⟨h1, h2⟩
theorem n_lt (a b : Int) (h1 : -2147483648 ≤ a) (h2 : a < 2147483648) (h3 : -2147483648 ≤ b) (h4 : b < 2147483648) : (Int32.ofInt a < Int32.ofInt b) = (a < b) := by rw [i_lt, oi ⟨h1, h2⟩, oi ⟨h3, h4⟩]
theorem n_le (a b : Int) (h1 : -2147483648 ≤ a) (h2 : a < 2147483648) (h3 : -2147483648 ≤ b) (h4 : b < 2147483648) : (Int32.ofInt a ≤ Int32.ofInt b) = (a ≤ b) := by rw [i_le, oi ⟨h1, h2⟩, oi ⟨h3, h4⟩]
theorem n_eq (a b : Int) (h1 : -2147483648 ≤ a) (h2 : a < 2147483648) (h3 : -2147483648 ≤ b) (h4 : b < 2147483648) : (Int32.ofInt a = Int32.ofInt b) = (a = b) := by rw [i_eq, oi ⟨h1, h2⟩, oi ⟨h3, h4⟩]
theorem n_ix (a : Int) (h1 : -2147483648 ≤ a) (h2 : a < 2147483648) : (Int32.ofInt a).toNatClampNeg = a.toNat := by
  have h : (Int32.ofInt a).toInt = a := oi ⟨h1, h2⟩
  have := Int32.toNat_toInt (Int32.ofInt a)
  rw [h] at this
  omega
theorem n_gd {α : Type} (a : Int) (n : Nat) (k : Option α) (h1 : 0 ≤ a) (h2 : a < n) (h3 : a < 2147483648) : gd (vpb (Int32.ofInt a) n) k = k := gd_t (vpb_iff.mpr (by rw [oi ⟨by omega, h3⟩]; exact ⟨h1, h2⟩))
theorem n_out (x : Int32) : x = Int32.ofInt x.toInt := (Int32.ofInt_toInt x).symm
theorem m_add (a b : Int) : Int64.ofInt a + Int64.ofInt b = Int64.ofInt (a + b) := (Int64.ofInt_add a b).symm
theorem m_sub (a b : Int) : Int64.ofInt a - Int64.ofInt b = Int64.ofInt (a - b) := (Int64.ofInt_sub a b).symm
theorem m_mul (a b : Int) : Int64.ofInt a * Int64.ofInt b = Int64.ofInt (a * b) := (Int64.ofInt_mul a b).symm
theorem m_neg (a : Int) : -Int64.ofInt a = Int64.ofInt (-a) := (Int64.ofInt_neg a).symm
theorem om {z : Int} (h1 : -9223372036854775808 ≤ z) (h2 : z < 9223372036854775808) : (Int64.ofInt z).toInt = z := by
  have e : (Int64.size : Nat) = 18446744073709551616 := rfl
  rw [Int64.toInt_ofInt, e, Int.bmod_eq_of_le (by omega) (by omega)]
theorem j_rng (x : Int64) : -9223372036854775808 ≤ x.toInt ∧ x.toInt < 9223372036854775808 := ⟨by have := Int64.le_toInt x; simpa using this, by have := Int64.toInt_lt x; simpa using this⟩
theorem m_out (x : Int64) : x = Int64.ofInt x.toInt := (Int64.ofInt_toInt x).symm
theorem m_lt (a b : Int) (h1 : -9223372036854775808 ≤ a) (h2 : a < 9223372036854775808) (h3 : -9223372036854775808 ≤ b) (h4 : b < 9223372036854775808) : (Int64.ofInt a < Int64.ofInt b) = (a < b) := by rw [Int64.lt_iff_toInt_lt, om h1 h2, om h3 h4]
theorem m_le (a b : Int) (h1 : -9223372036854775808 ≤ a) (h2 : a < 9223372036854775808) (h3 : -9223372036854775808 ≤ b) (h4 : b < 9223372036854775808) : (Int64.ofInt a ≤ Int64.ofInt b) = (a ≤ b) := by rw [Int64.le_iff_toInt_le, om h1 h2, om h3 h4]
theorem m_eq (a b : Int) (h1 : -9223372036854775808 ≤ a) (h2 : a < 9223372036854775808) (h3 : -9223372036854775808 ≤ b) (h4 : b < 9223372036854775808) : (Int64.ofInt a = Int64.ofInt b) = (a = b) := by rw [← Int64.toInt_inj, om h1 h2, om h3 h4]
theorem m_of (a : Int) (h1 : -2147483648 ≤ a) (h2 : a < 2147483648) : (Int32.ofInt a).toInt64 = Int64.ofInt a := by
  rw [← Int64.toInt_inj, Int32.toInt_toInt64, oi ⟨h1, h2⟩, om (by omega) (by omega)]
theorem m_to (a : Int) : (Int64.ofInt a).toInt32 = Int32.ofInt a := Int64.toInt32_ofInt
theorem c_gt (a b : Int) (h1 : -9223372036854775808 ≤ a) (h2 : a < 9223372036854775808) (h3 : -9223372036854775808 ≤ b) (h4 : b < 9223372036854775808) : (Int32.ofInt 0 < lg_cmp (Int64.ofInt a) (Int64.ofInt b)) = (b < a) := by
  unfold lg_cmp
  simp only [GT.gt]
  simp only [m_lt b a h3 h4 h1 h2, m_eq a b h1 h2 h3 h4]
  by_cases c : b < a
  · rw [if_pos c, eq_true c]; decide
  · rw [if_neg c, eq_false c]
    by_cases d : a = b
    · rw [if_pos d]; decide
    · rw [if_neg d]; decide
theorem c_ge (a b : Int) (h1 : -9223372036854775808 ≤ a) (h2 : a < 9223372036854775808) (h3 : -9223372036854775808 ≤ b) (h4 : b < 9223372036854775808) : (Int32.ofInt 0 ≤ lg_cmp (Int64.ofInt a) (Int64.ofInt b)) = (b ≤ a) := by
  unfold lg_cmp
  simp only [GT.gt]
  simp only [m_lt b a h3 h4 h1 h2, m_eq a b h1 h2 h3 h4]
  by_cases c : b < a
  · rw [if_pos c, eq_true (show b ≤ a by omega)]; decide
  · rw [if_neg c]
    by_cases d : a = b
    · rw [if_pos d, eq_true (show b ≤ a by omega)]; decide
    · rw [if_neg d, eq_false (show ¬ b ≤ a by omega)]; decide
theorem c_lt (a b : Int) (h1 : -9223372036854775808 ≤ a) (h2 : a < 9223372036854775808) (h3 : -9223372036854775808 ≤ b) (h4 : b < 9223372036854775808) : (lg_cmp (Int64.ofInt a) (Int64.ofInt b) < Int32.ofInt 0) = (a < b) := by
  unfold lg_cmp
  simp only [GT.gt]
  simp only [m_lt b a h3 h4 h1 h2, m_eq a b h1 h2 h3 h4]
  by_cases c : b < a
  · rw [if_pos c, eq_false (show ¬ a < b by omega)]; decide
  · rw [if_neg c]
    by_cases d : a = b
    · rw [if_pos d, eq_false (show ¬ a < b by omega)]; decide
    · rw [if_neg d, eq_true (show a < b by omega)]; decide
theorem c_le (a b : Int) (h1 : -9223372036854775808 ≤ a) (h2 : a < 9223372036854775808) (h3 : -9223372036854775808 ≤ b) (h4 : b < 9223372036854775808) : (lg_cmp (Int64.ofInt a) (Int64.ofInt b) ≤ Int32.ofInt 0) = (a ≤ b) := by
  unfold lg_cmp
  simp only [GT.gt]
  simp only [m_lt b a h3 h4 h1 h2, m_eq a b h1 h2 h3 h4]
  by_cases c : b < a
  · rw [if_pos c, eq_false (show ¬ a ≤ b by omega)]; decide
  · rw [if_neg c]
    by_cases d : a = b
    · rw [if_pos d, eq_true (show a ≤ b by omega)]; decide
    · rw [if_neg d, eq_true (show a ≤ b by omega)]; decide
theorem c_eq (a b : Int) (h1 : -9223372036854775808 ≤ a) (h2 : a < 9223372036854775808) (h3 : -9223372036854775808 ≤ b) (h4 : b < 9223372036854775808) : (lg_cmp (Int64.ofInt a) (Int64.ofInt b) = Int32.ofInt 0) = (a = b) := by
  unfold lg_cmp
  simp only [GT.gt]
  simp only [m_lt b a h3 h4 h1 h2, m_eq a b h1 h2 h3 h4]
  by_cases c : b < a
  · rw [if_pos c, eq_false (show ¬ a = b by omega)]; decide
  · rw [if_neg c]
    by_cases d : a = b
    · rw [if_pos d, eq_true d]; decide
    · rw [if_neg d, eq_false d]; decide
/-! states -/
theorem uN_s {α : Type} (f : Nat → α) (k : Nat) (v : α) : uN f k v k = v := by simp [uN]
theorem uN_n {α : Type} (f : Nat → α) (k j : Nat) (v : α) (h : j ≠ k) : uN f k v j = f j := by
  show cond (Nat.beq j k) v (f j) = f j
  have : Nat.beq j k = false := by
    cases e : Nat.beq j k with
    | false => rfl
    | true => exact absurd (Nat.eq_of_beq_eq_true e) h
  rw [this]; rfl
theorem sI_a (s : MS) (k : Nat) (v : Int32) : (sI s k v).1 = uN s.1 k v := rfl
theorem sI_b (s : MS) (k : Nat) (v : Int32) : (sI s k v).2 = s.2 := rfl
theorem sL_a (s : MS) (k : Nat) (v : Int64) : (sL s k v).1 = s.1 := rfl
theorem sL_b (s : MS) (k : Nat) (v : Int64) : (sL s k v).2.1 = uN s.2.1 k v := rfl
theorem sL_c (s : MS) (k : Nat) (v : Int64) : (sL s k v).2.2 = s.2.2 := rfl
theorem wA_a (s : MS) (k : Nat) (f : Nat → Int32) : (wA s k f).1 = s.1 := rfl
theorem wA_b (s : MS) (k : Nat) (f : Nat → Int32) : (wA s k f).2.1 = s.2.1 := rfl
theorem wA_c (s : MS) (k : Nat) (f : Nat → Int32) : (wA s k f).2.2.1 = uN s.2.2.1 k f := rfl
theorem wA_d (s : MS) (k : Nat) (f : Nat → Int32) : (wA s k f).2.2.2 = s.2.2.2 := rfl
theorem wB_a (s : MS) (k : Nat) (f : Nat → Int64) : (wB s k f).1 = s.1 := rfl
theorem wB_b (s : MS) (k : Nat) (f : Nat → Int64) : (wB s k f).2.1 = s.2.1 := rfl
theorem wB_c (s : MS) (k : Nat) (f : Nat → Int64) : (wB s k f).2.2.1 = s.2.2.1 := rfl
theorem wB_d (s : MS) (k : Nat) (f : Nat → Int64) : (wB s k f).2.2.2 = uN s.2.2.2 k f := rfl
theorem sA_w (s : MS) (a i : Nat) (v : Int32) : sA s a i v = wA s a (upd (s.2.2.1 a) i v) := rfl
theorem sB_w (s : MS) (a i : Nat) (v : Int64) : sB s a i v = wB s a (vp_updL (s.2.2.2 a) i v) := rfl
theorem up_s (f : Nat → Int32) (k : Nat) (v : Int32) : upd f k v k = v := by simp [upd]
theorem up_n (f : Nat → Int32) (k j : Nat) (v : Int32) (h : j ≠ k) : upd f k v j = f j := by simp [upd, h]
theorem ul_s (f : Nat → Int64) (k : Nat) (v : Int64) : vp_updL f k v k = v := by simp [vp_updL]
theorem ul_n (f : Nat → Int64) (k j : Nat) (v : Int64) (h : j ≠ k) : vp_updL f k v j = f j := by simp [vp_updL, h]
theorem p_fst {α β : Type} (a : α) (b : β) : (a, b).1 = a := rfl
theorem p_snd {α β : Type} (a : α) (b : β) : (a, b).2 = b := rfl
theorem tn (n : Nat) : (n : Int).toNat = n := rfl
theorem tn_l (n : Nat) : (OfNat.ofNat n : Int).toNat = n := rfl
theorem tn_1 (n : Nat) : ((n : Int) + 1).toNat = n + 1 := rfl
theorem bi_z (b : Bool) : (bi b = Int32.ofInt 0) = (b = false) := by cases b <;> decide
theorem z_0 : (0 : Int32) = Int32.ofInt 0 := rfl
theorem z_1 : (1 : Int32) = Int32.ofInt 1 := rfl
theorem z_2 : (2 : Int32) = Int32.ofInt 2 := rfl
theorem z_3 : (3 : Int32) = Int32.ofInt 3 := rfl
theorem z_4 : (4 : Int32) = Int32.ofInt 4 := rfl
theorem z_5 : (5 : Int32) = Int32.ofInt 5 := rfl
theorem z_6 : (6 : Int32) = Int32.ofInt 6 := rfl
theorem z_7 : (7 : Int32) = Int32.ofInt 7 := rfl
theorem z_8 : (8 : Int32) = Int32.ofInt 8 := rfl
theorem z_9 : (9 : Int32) = Int32.ofInt 9 := rfl
theorem z_10 : (10 : Int32) = Int32.ofInt 10 := rfl
theorem z_11 : (11 : Int32) = Int32.ofInt 11 := rfl
theorem z_12 : (12 : Int32) = Int32.ofInt 12 := rfl
theorem z_14 : (14 : Int32) = Int32.ofInt 14 := rfl
theorem z_18 : (18 : Int32) = Int32.ofInt 18 := rfl
theorem z_20 : (20 : Int32) = Int32.ofInt 20 := rfl
theorem z_22 : (22 : Int32) = Int32.ofInt 22 := rfl
theorem z_24 : (24 : Int32) = Int32.ofInt 24 := rfl
theorem z_32 : (32 : Int32) = Int32.ofInt 32 := rfl
theorem z_38 : (38 : Int32) = Int32.ofInt 38 := rfl
theorem z_40 : (40 : Int32) = Int32.ofInt 40 := rfl
theorem z_41 : (41 : Int32) = Int32.ofInt 41 := rfl
theorem z_44 : (44 : Int32) = Int32.ofInt 44 := rfl
theorem z_48 : (48 : Int32) = Int32.ofInt 48 := rfl
theorem z_49 : (49 : Int32) = Int32.ofInt 49 := rfl
theorem z_57 : (57 : Int32) = Int32.ofInt 57 := rfl
theorem z_59 : (59 : Int32) = Int32.ofInt 59 := rfl
theorem z_60 : (60 : Int32) = Int32.ofInt 60 := rfl
theorem z_63 : (63 : Int32) = Int32.ofInt 63 := rfl
theorem z_65 : (65 : Int32) = Int32.ofInt 65 := rfl
theorem z_74 : (74 : Int32) = Int32.ofInt 74 := rfl
theorem z_75 : (75 : Int32) = Int32.ofInt 75 := rfl
theorem z_81 : (81 : Int32) = Int32.ofInt 81 := rfl
theorem z_97 : (97 : Int32) = Int32.ofInt 97 := rfl
theorem z_99 : (99 : Int32) = Int32.ofInt 99 := rfl
theorem z_104 : (104 : Int32) = Int32.ofInt 104 := rfl
theorem z_115 : (115 : Int32) = Int32.ofInt 115 := rfl
theorem z_119 : (119 : Int32) = Int32.ofInt 119 := rfl
theorem z_122 : (122 : Int32) = Int32.ofInt 122 := rfl
theorem z_200 : (200 : Int32) = Int32.ofInt 200 := rfl
theorem z_209 : (209 : Int32) = Int32.ofInt 209 := rfl
theorem z_210 : (210 : Int32) = Int32.ofInt 210 := rfl
theorem z_219 : (219 : Int32) = Int32.ofInt 219 := rfl
theorem z_228 : (228 : Int32) = Int32.ofInt 228 := rfl
theorem z_255 : (255 : Int32) = Int32.ofInt 255 := rfl
theorem z_300 : (300 : Int32) = Int32.ofInt 300 := rfl
theorem z_369 : (369 : Int32) = Int32.ofInt 369 := rfl
theorem z_999 : (999 : Int32) = Int32.ofInt 999 := rfl
theorem z_65537 : (65537 : Int32) = Int32.ofInt 65537 := rfl
theorem z_268435456 : (268435456 : Int32) = Int32.ofInt 268435456 := rfl
theorem z_1000000000 : (1000000000 : Int32) = Int32.ofInt 1000000000 := rfl
theorem y_0 : (0 : Int64) = Int64.ofInt 0 := rfl
theorem y_1 : (1 : Int64) = Int64.ofInt 1 := rfl
theorem y_2 : (2 : Int64) = Int64.ofInt 2 := rfl
theorem y_10 : (10 : Int64) = Int64.ofInt 10 := rfl
theorem y_20 : (20 : Int64) = Int64.ofInt 20 := rfl
theorem y_1099511627776 : (1099511627776 : Int64) = Int64.ofInt 1099511627776 := rfl
theorem n_nz {α : Type} (a : Int) (k : Option α) (h0 : a ≠ 0) (h1 : -2147483648 ≤ a) (h2 : a < 2147483648) : gd (nzb (Int32.ofInt a)) k = k := gd_t (by
  unfold nzb
  rw [Bool.not_eq_true', beq_eq_false_iff_ne]
  intro e
  rw [i_eq, oi ⟨h1, h2⟩] at e
  exact h0 e)
theorem m_nz {α : Type} (a : Int) (k : Option α) (h0 : a ≠ 0) (h1 : -9223372036854775808 ≤ a) (h2 : a < 9223372036854775808) : gd (nzl (Int64.ofInt a)) k = k := gd_t (by
  unfold nzl
  rw [Bool.not_eq_true', beq_eq_false_iff_ne]
  intro e
  rw [← Int64.toInt_inj, om h1 h2] at e
  exact h0 e)
theorem if_congr_c {α : Type} {c d : Prop} [Decidable c] [Decidable d] (h : c = d) {a b : α} : (if c then a else b) = (if d then a else b) := by
  by_cases q : d
  · rw [if_pos q, if_pos (h ▸ q)]
  · rw [if_neg q, if_neg (fun z => q (h ▸ z))]
