/-! the reader: bytes, runs -/
theorem byR_x {c t : Int32} (h : byR c t) : ∃ x y : Int, c = Int32.ofInt x ∧ t = Int32.ofInt y ∧ -128 ≤ x ∧ x ≤ 127 ∧ 0 ≤ y ∧ y ≤ 255 ∧ (x = y ∨ (x < 0 ∧ 128 ≤ y)) := by
  obtain ⟨b, b1, b2, b3⟩ := h
  by_cases c0 : b < 128
  · rw [if_pos c0] at b3
    exact ⟨_, _, b3, b2, by omega, by omega, by omega, by omega, Or.inl rfl⟩
  · rw [if_neg c0] at b3
    exact ⟨_, _, b3, b2, by omega, by omega, by omega, by omega, Or.inr ⟨by omega, by omega⟩⟩
def rl (f : Nat → Int32) (lo hi : Int) : Nat → Nat → Nat
  | 0, _ => 0
  | d + 1, k => if lo ≤ (f k).toInt ∧ (f k).toInt ≤ hi then 1 + rl f lo hi d (k + 1) else 0
theorem rl_le (f : Nat → Int32) (lo hi : Int) : ∀ d k, rl f lo hi d k ≤ d := by
  intro d
  induction d with
  | zero => intro k; exact Nat.le_refl 0
  | succ d ih =>
    intro k
    unfold rl
    have := ih (k + 1)
    split <;> omega
theorem rl_in (f : Nat → Int32) (lo hi : Int) : ∀ d k j, j < rl f lo hi d k → lo ≤ (f (k + j)).toInt ∧ (f (k + j)).toInt ≤ hi := by
  intro d
  induction d with
  | zero => intro k j h; exact absurd h (Nat.not_lt_zero j)
  | succ d ih =>
    intro k j h
    unfold rl at h
    by_cases c : lo ≤ (f k).toInt ∧ (f k).toInt ≤ hi
    · rw [if_pos c] at h
      cases j with
      | zero => exact c
      | succ j =>
        have := ih (k + 1) j (by omega)
        rwa [show k + (j + 1) = k + 1 + j by omega]
    · rw [if_neg c] at h
      omega
theorem rlen_go {F : Nat} {sRd : MS} {f : Nat → Int32} {e a : Nat} {lo hi : Int} (he : e ≤ 800) (h3 : sRd.1 3 = Int32.ofInt (e : Int)) (h6 : sRd.1 6 = Int32.ofInt (a : Int)) (ha : a ≤ 800) (l1 : 0 ≤ lo) (l2 : lo ≤ 1000) (l3 : 0 ≤ hi) (l4 : hi ≤ 1000) (hf : ∀ k, k < e → ∃ x : Int, f k = Int32.ofInt x ∧ -128 ≤ x ∧ x ≤ 127) : ∀ (d k n : Nat), k + d = e → d < n → f_X7_runLength_5 F sRd 800 f (Int32.ofInt lo) (Int32.ofInt hi) n (Int32.ofInt (k : Int)) = some (Int32.ofInt ((k : Int) + (rl f lo hi d k : Int) - (a : Int))) := by
  intro d
  induction d with
  | zero =>
    intro k n hk hn
    cases n with
    | zero => omega
    | succ n =>
      rw [f_X7_runLength_5]
      simp (disch := omega) only [z_0, z_1, z_2, z_3, z_4, z_5, z_6, z_7, z_8, z_9, z_10, z_11, z_12, z_14, z_18, z_20, z_22, z_24, z_32, z_38, z_40, z_41, z_44, z_48, z_49, z_57, z_59, z_60, z_63, z_65, z_74, z_75, z_81, z_97, z_99, z_104, z_115, z_119, z_122, z_200, z_209, z_210, z_219, z_228, z_255, z_300, z_369, z_999, z_65537, z_268435456, z_1000000000, n_nat, n_add, n_sub, n_mul, n_neg, n_lt, n_le, n_eq, n_ix, n_gd, n_nz, lz_t, bd_some, tn, Int.reduceToNat, tn_1, if_pos, if_neg, if_true, if_false, h3, h6, f_X7_runLength_39, rl]
      congr 2
  | succ d ih =>
    intro k n hk hn
    cases n with
    | zero => omega
    | succ n =>
      obtain ⟨x, e1, x1, x2⟩ := hf k (by omega)
      have et : (f k).toInt = x := by rw [e1]; exact n_toI _ (by omega) (by omega)
      have i1 := ih (k + 1) n (by omega) (by omega)
      have e8 : (k : Int) + 1 = ((k + 1 : Nat) : Int) := by omega
      rw [f_X7_runLength_5]
      unfold rl
      rw [et]
      by_cases c1 : lo ≤ x ∧ x ≤ hi
      · rw [if_pos c1]
        obtain ⟨c1, c2⟩ := c1
        simp (disch := omega) only [z_0, z_1, z_2, z_3, z_4, z_5, z_6, z_7, z_8, z_9, z_10, z_11, z_12, z_14, z_18, z_20, z_22, z_24, z_32, z_38, z_40, z_41, z_44, z_48, z_49, z_57, z_59, z_60, z_63, z_65, z_74, z_75, z_81, z_97, z_99, z_104, z_115, z_119, z_122, z_200, z_209, z_210, z_219, z_228, z_255, z_300, z_369, z_999, z_65537, z_268435456, z_1000000000, n_nat, n_add, n_sub, n_mul, n_neg, n_lt, n_le, n_eq, n_ix, n_gd, n_nz, lz_t, bd_some, tn, Int.reduceToNat, tn_1, if_pos, if_neg, if_true, if_false, h3, h6, e1, e8, i1]
        congr 2
        omega
      · rw [if_neg c1]
        by_cases c2 : x < lo
        · simp (disch := omega) only [z_0, z_1, z_2, z_3, z_4, z_5, z_6, z_7, z_8, z_9, z_10, z_11, z_12, z_14, z_18, z_20, z_22, z_24, z_32, z_38, z_40, z_41, z_44, z_48, z_49, z_57, z_59, z_60, z_63, z_65, z_74, z_75, z_81, z_97, z_99, z_104, z_115, z_119, z_122, z_200, z_209, z_210, z_219, z_228, z_255, z_300, z_369, z_999, z_65537, z_268435456, z_1000000000, n_nat, n_add, n_sub, n_mul, n_neg, n_lt, n_le, n_eq, n_ix, n_gd, n_nz, lz_t, bd_some, tn, Int.reduceToNat, tn_1, if_pos, if_neg, if_true, if_false, h3, h6, e1, f_X7_runLength_39]
          congr 2
        · simp (disch := omega) only [z_0, z_1, z_2, z_3, z_4, z_5, z_6, z_7, z_8, z_9, z_10, z_11, z_12, z_14, z_18, z_20, z_22, z_24, z_32, z_38, z_40, z_41, z_44, z_48, z_49, z_57, z_59, z_60, z_63, z_65, z_74, z_75, z_81, z_97, z_99, z_104, z_115, z_119, z_122, z_200, z_209, z_210, z_219, z_228, z_255, z_300, z_369, z_999, z_65537, z_268435456, z_1000000000, n_nat, n_add, n_sub, n_mul, n_neg, n_lt, n_le, n_eq, n_ix, n_gd, n_nz, lz_t, bd_some, tn, Int.reduceToNat, tn_1, if_pos, if_neg, if_true, if_false, h3, h6, e1, f_X7_runLength_39]
          congr 2
def TPR (f : Nat → Int32) (s : MS) (e : Nat) : Prop := ∀ k, k < e → byR (f k) (s.2.2.1 1 k)
def FMo (s s' : MS) : Prop := (∀ j, (j < 4 ∨ 9 ≤ j) → s'.1 j = s.1 j) ∧ (∀ a, a ≠ 12 → s'.2.2.1 a = s.2.2.1 a)
def FRd (s s' : MS) : Prop := (∀ j, (j < 5 ∨ j = 8) → s'.1 j = s.1 j) ∧ s'.2 = s.2
def FRw (s s' : MS) : Prop := (∀ j, j < 5 → s'.1 j = s.1 j) ∧ s'.2 = s.2
theorem FRw_t {s s' s2 : MS} (h : FRw s s') (g : FRw s' s2) : FRw s s2 := ⟨fun k hk => (g.1 k hk).trans (h.1 k hk), g.2.trans h.2⟩
theorem FRw_r (s : MS) : FRw s s := ⟨fun _ _ => rfl, rfl⟩
theorem FRd_w {s s' : MS} (h : FRd s s') : FRw s s' := ⟨fun j hj => h.1 j (Or.inl hj), h.2⟩
theorem FRw_i (s : MS) {k : Nat} (v : Int32) (h1 : 5 ≤ k) : FRw s (sI s k v) := ⟨fun j hj => sI_n _ _ _ _ (by omega), rfl⟩
theorem FMo_r (s : MS) : FMo s s := ⟨fun _ _ => rfl, fun _ _ => rfl⟩
theorem FMo_t {s s' s2 : MS} (h : FMo s s') (g : FMo s' s2) : FMo s s2 := ⟨fun k hk => (g.1 k hk).trans (h.1 k hk), fun a ha => (g.2 a ha).trans (h.2 a ha)⟩
theorem FMo_i (s : MS) {k : Nat} (v : Int32) (h1 : 4 ≤ k) (h2 : k < 9) : FMo s (sI s k v) := ⟨fun j hj => sI_n _ _ _ _ (by omega), fun _ _ => rfl⟩
theorem FMo_a (s : MS) (i : Nat) (v : Int32) : FMo s (sA s 12 i v) := ⟨fun _ _ => rfl, fun a ha => uN_n _ _ _ _ ha⟩
theorem FRd_r (s : MS) : FRd s s := ⟨fun _ _ => rfl, rfl⟩
theorem FRd_t {s s' s2 : MS} (h : FRd s s') (g : FRd s' s2) : FRd s s2 := ⟨fun k hk => (g.1 k hk).trans (h.1 k hk), g.2.trans h.2⟩
theorem FRd_i (s : MS) {k : Nat} (v : Int32) (h1 : 5 ≤ k ∧ k < 8) : FRd s (sI s k v) := ⟨fun j hj => sI_n _ _ _ _ (by omega), rfl⟩
theorem TPR_f {f : Nat → Int32} {s s' : MS} {e : Nat} (h : TPR f s e) (g : s'.2.2.1 1 = s.2.2.1 1) : TPR f s' e := by
  intro k hk
  rw [g]
  exact h k hk
theorem look_out {F : Nat} {s : MS} {e : Nat} {k : Nat} (he : e ≤ 800) (h3 : s.1 3 = Int32.ofInt (e : Int)) (hk : e ≤ k) (h8 : k ≤ 1000) : f_X11_look F s (Int32.ofInt (k : Int)) = some (Int32.ofInt (-1)) := by
  unfold f_X11_look
  simp (disch := omega) only [z_0, z_1, z_2, z_3, z_4, z_5, z_6, z_7, z_8, z_9, z_10, z_11, z_12, z_14, z_18, z_20, z_22, z_24, z_32, z_38, z_40, z_41, z_44, z_48, z_49, z_57, z_59, z_60, z_63, z_65, z_74, z_75, z_81, z_97, z_99, z_104, z_115, z_119, z_122, z_200, z_209, z_210, z_219, z_228, z_255, z_300, z_369, z_999, z_65537, z_268435456, z_1000000000, n_nat, n_add, n_sub, n_mul, n_neg, n_lt, n_le, n_eq, n_ix, n_gd, n_nz, lz_t, bd_some, tn, Int.reduceToNat, tn_1, if_pos, if_neg, if_true, if_false, h3]
theorem look_in {F : Nat} {s : MS} {e : Nat} {k : Nat} (he : e ≤ 800) (h3 : s.1 3 = Int32.ofInt (e : Int)) (hk : k < e) : f_X11_look F s (Int32.ofInt (k : Int)) = some (s.2.2.1 1 k) := by
  unfold f_X11_look
  simp (disch := omega) only [z_0, z_1, z_2, z_3, z_4, z_5, z_6, z_7, z_8, z_9, z_10, z_11, z_12, z_14, z_18, z_20, z_22, z_24, z_32, z_38, z_40, z_41, z_44, z_48, z_49, z_57, z_59, z_60, z_63, z_65, z_74, z_75, z_81, z_97, z_99, z_104, z_115, z_119, z_122, z_200, z_209, z_210, z_219, z_228, z_255, z_300, z_369, z_999, z_65537, z_268435456, z_1000000000, n_nat, n_add, n_sub, n_mul, n_neg, n_lt, n_le, n_eq, n_ix, n_gd, n_nz, lz_t, bd_some, tn, Int.reduceToNat, tn_1, if_pos, if_neg, if_true, if_false, h3]
theorem sm_y {F : Nat} {y : Int} (h1 : -1 ≤ y) (h2 : y ≤ 255) : f_X11_isSmall F (Int32.ofInt y) = some (if 97 ≤ y ∧ y ≤ 122 then 1 else 0) := by
  unfold f_X11_isSmall
  by_cases c1 : y < 97
  · rw [if_neg (c := 97 ≤ y ∧ y ≤ 122) (by omega)]
    simp (disch := omega) only [z_0, z_1, z_2, z_3, z_4, z_5, z_6, z_7, z_8, z_9, z_10, z_11, z_12, z_14, z_18, z_20, z_22, z_24, z_32, z_38, z_40, z_41, z_44, z_48, z_49, z_57, z_59, z_60, z_63, z_65, z_74, z_75, z_81, z_97, z_99, z_104, z_115, z_119, z_122, z_200, z_209, z_210, z_219, z_228, z_255, z_300, z_369, z_999, z_65537, z_268435456, z_1000000000, n_nat, n_add, n_sub, n_mul, n_neg, n_lt, n_le, n_eq, n_ix, n_gd, n_nz, lz_t, bd_some, tn, Int.reduceToNat, tn_1, if_pos, if_neg, if_true, if_false]
  · by_cases c2 : 122 < y
    · rw [if_neg (c := 97 ≤ y ∧ y ≤ 122) (by omega)]
      simp (disch := omega) only [z_0, z_1, z_2, z_3, z_4, z_5, z_6, z_7, z_8, z_9, z_10, z_11, z_12, z_14, z_18, z_20, z_22, z_24, z_32, z_38, z_40, z_41, z_44, z_48, z_49, z_57, z_59, z_60, z_63, z_65, z_74, z_75, z_81, z_97, z_99, z_104, z_115, z_119, z_122, z_200, z_209, z_210, z_219, z_228, z_255, z_300, z_369, z_999, z_65537, z_268435456, z_1000000000, n_nat, n_add, n_sub, n_mul, n_neg, n_lt, n_le, n_eq, n_ix, n_gd, n_nz, lz_t, bd_some, tn, Int.reduceToNat, tn_1, if_pos, if_neg, if_true, if_false]
    · rw [if_pos (c := 97 ≤ y ∧ y ≤ 122) (by omega)]
      simp (disch := omega) only [z_0, z_1, z_2, z_3, z_4, z_5, z_6, z_7, z_8, z_9, z_10, z_11, z_12, z_14, z_18, z_20, z_22, z_24, z_32, z_38, z_40, z_41, z_44, z_48, z_49, z_57, z_59, z_60, z_63, z_65, z_74, z_75, z_81, z_97, z_99, z_104, z_115, z_119, z_122, z_200, z_209, z_210, z_219, z_228, z_255, z_300, z_369, z_999, z_65537, z_268435456, z_1000000000, n_nat, n_add, n_sub, n_mul, n_neg, n_lt, n_le, n_eq, n_ix, n_gd, n_nz, lz_t, bd_some, tn, Int.reduceToNat, tn_1, if_pos, if_neg, if_true, if_false]
theorem dg_y {F : Nat} {y : Int} (h1 : -1 ≤ y) (h2 : y ≤ 255) : f_X11_isDigit F (Int32.ofInt y) = some (if 48 ≤ y ∧ y ≤ 57 then 1 else 0) := by
  unfold f_X11_isDigit
  by_cases c1 : y < 48
  · rw [if_neg (c := 48 ≤ y ∧ y ≤ 57) (by omega)]
    simp (disch := omega) only [z_0, z_1, z_2, z_3, z_4, z_5, z_6, z_7, z_8, z_9, z_10, z_11, z_12, z_14, z_18, z_20, z_22, z_24, z_32, z_38, z_40, z_41, z_44, z_48, z_49, z_57, z_59, z_60, z_63, z_65, z_74, z_75, z_81, z_97, z_99, z_104, z_115, z_119, z_122, z_200, z_209, z_210, z_219, z_228, z_255, z_300, z_369, z_999, z_65537, z_268435456, z_1000000000, n_nat, n_add, n_sub, n_mul, n_neg, n_lt, n_le, n_eq, n_ix, n_gd, n_nz, lz_t, bd_some, tn, Int.reduceToNat, tn_1, if_pos, if_neg, if_true, if_false]
  · by_cases c2 : 57 < y
    · rw [if_neg (c := 48 ≤ y ∧ y ≤ 57) (by omega)]
      simp (disch := omega) only [z_0, z_1, z_2, z_3, z_4, z_5, z_6, z_7, z_8, z_9, z_10, z_11, z_12, z_14, z_18, z_20, z_22, z_24, z_32, z_38, z_40, z_41, z_44, z_48, z_49, z_57, z_59, z_60, z_63, z_65, z_74, z_75, z_81, z_97, z_99, z_104, z_115, z_119, z_122, z_200, z_209, z_210, z_219, z_228, z_255, z_300, z_369, z_999, z_65537, z_268435456, z_1000000000, n_nat, n_add, n_sub, n_mul, n_neg, n_lt, n_le, n_eq, n_ix, n_gd, n_nz, lz_t, bd_some, tn, Int.reduceToNat, tn_1, if_pos, if_neg, if_true, if_false]
    · rw [if_pos (c := 48 ≤ y ∧ y ≤ 57) (by omega)]
      simp (disch := omega) only [z_0, z_1, z_2, z_3, z_4, z_5, z_6, z_7, z_8, z_9, z_10, z_11, z_12, z_14, z_18, z_20, z_22, z_24, z_32, z_38, z_40, z_41, z_44, z_48, z_49, z_57, z_59, z_60, z_63, z_65, z_74, z_75, z_81, z_97, z_99, z_104, z_115, z_119, z_122, z_200, z_209, z_210, z_219, z_228, z_255, z_300, z_369, z_999, z_65537, z_268435456, z_1000000000, n_nat, n_add, n_sub, n_mul, n_neg, n_lt, n_le, n_eq, n_ix, n_gd, n_nz, lz_t, bd_some, tn, Int.reduceToNat, tn_1, if_pos, if_neg, if_true, if_false]
