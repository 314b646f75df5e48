/-! plans: the least of a row, the first of them -/
def minTo (c : Nat → Int) : Nat → Nat
  | 0 => 0
  | n + 1 => if c (n + 1) < c (minTo c n) then n + 1 else minTo c n
theorem minTo_le (c : Nat → Int) : ∀ n, minTo c n ≤ n
  | 0 => Nat.le_refl 0
  | n + 1 => by
    have := minTo_le c n
    unfold minTo
    split <;> omega
theorem minTo_min (c : Nat → Int) : ∀ n m, m ≤ n → c (minTo c n) ≤ c m
  | 0, m, h => by have : m = 0 := by omega
                  subst this; exact Int.le_refl _
  | n + 1, m, h => by
    unfold minTo
    by_cases e : m = n + 1
    · subst e
      split <;> omega
    · have := minTo_min c n m (by omega)
      split <;> omega
theorem minTo_first (c : Nat → Int) : ∀ n m, m < minTo c n → c (minTo c n) < c m
  | 0, m, h => by exact absurd h (by unfold minTo; omega)
  | n + 1, m, h => by
    unfold minTo at h ⊢
    split at h
    · rename_i q
      rw [if_pos q]
      have := minTo_min c n m (by omega)
      omega
    · rename_i q
      rw [if_neg q]
      exact minTo_first c n m h
theorem minTo_u (c : Nat → Int) (n m : Nat) (h1 : m ≤ n) (h2 : ∀ k, k ≤ n → c m ≤ c k) (h3 : ∀ k, k < m → c m < c k) : minTo c n = m := by
  have a1 := minTo_le c n
  have a2 := minTo_min c n m h1
  have a3 := h2 _ a1
  rcases Nat.lt_trichotomy (minTo c n) m with h | h | h
  · have := h3 _ h
    omega
  · exact h
  · have := minTo_first c n m h
    omega
/-! Levels.leave -/
theorem leave_go {F : Nat} (T l st : Int) (f0 : Nat → Int) (hT : T ≤ 40) (hl : 0 ≤ l) (hl2 : l ≤ 40) : ∀ (d n : Nat) (fq : Nat → Int64), d < n → (d : Int) ≤ T + 1 → (∀ x : Nat, (x : Int) < d → fq x = Int64.ofInt (f0 x)) →
    ∃ g, f_X4_leave_3 F 41 (Int32.ofInt T) (Int32.ofInt l) (Int64.ofInt st) n (Int32.ofInt ((d : Int) - 1)) fq = some g ∧ (∀ x : Nat, (x : Int) < d → g x = Int64.ofInt (if (x : Int) < l then st else f0 (x - l.toNat))) ∧ (∀ x : Nat, ¬ (x : Int) < d → g x = fq x) := by
  intro d
  induction d with
  | zero =>
    intro n fq hn hd hf
    cases n with
    | zero => omega
    | succ n =>
      refine ⟨fq, ?_, ?_, fun _ _ => rfl⟩
      · rw [f_X4_leave_3]
        simp (disch := omega) only [z_0, z_1, z_2, z_3, z_4, z_5, z_6, z_7, z_8, z_9, z_10, z_11, z_12, z_14, z_18, z_20, z_22, z_24, z_32, z_38, z_40, z_41, z_44, z_48, z_49, z_57, z_59, z_60, z_63, z_65, z_74, z_75, z_81, z_97, z_99, z_104, z_115, z_119, z_122, z_200, z_209, z_210, z_219, z_228, z_255, z_300, z_369, z_999, z_65537, z_268435456, z_1000000000, n_nat, n_add, n_sub, n_mul, n_neg, n_lt, n_le, n_eq, n_ix, n_gd, n_nz, lz_t, bd_some, tn, Int.reduceToNat, tn_1, if_pos, if_neg, if_true, if_false, sI_a, sI_b, sL_a, sL_b, sL_c, wA_a, wA_b, wA_c, wA_d, wB_a, wB_b, wB_c, wB_d, sA_w, sB_w, uN_s, uN_n, up_s, up_n, ul_s, ul_n, p_fst, p_snd, y_0, y_1, y_2, y_10, y_20, y_1099511627776, m_add, m_sub, m_mul, m_neg, m_lt, m_le, m_eq, m_of, m_nz, m_to, c_gt, c_ge, c_lt, c_le, c_eq]
      · intro x hx
        omega
  | succ d ih =>
    intro n fq hn hd hf
    cases n with
    | zero => omega
    | succ n =>
      have e1 : ((d + 1 : Nat) : Int) - 1 = d := by omega
      rw [f_X4_leave_3, e1]
      by_cases c : (d : Int) < l
      · simp (disch := omega) only [f_X4_leave_27, z_0, z_1, z_2, z_3, z_4, z_5, z_6, z_7, z_8, z_9, z_10, z_11, z_12, z_14, z_18, z_20, z_22, z_24, z_32, z_38, z_40, z_41, z_44, z_48, z_49, z_57, z_59, z_60, z_63, z_65, z_74, z_75, z_81, z_97, z_99, z_104, z_115, z_119, z_122, z_200, z_209, z_210, z_219, z_228, z_255, z_300, z_369, z_999, z_65537, z_268435456, z_1000000000, n_nat, n_add, n_sub, n_mul, n_neg, n_lt, n_le, n_eq, n_ix, n_gd, n_nz, lz_t, bd_some, tn, Int.reduceToNat, tn_1, if_pos, if_neg, if_true, if_false, sI_a, sI_b, sL_a, sL_b, sL_c, wA_a, wA_b, wA_c, wA_d, wB_a, wB_b, wB_c, wB_d, sA_w, sB_w, uN_s, uN_n, up_s, up_n, ul_s, ul_n, p_fst, p_snd, y_0, y_1, y_2, y_10, y_20, y_1099511627776, m_add, m_sub, m_mul, m_neg, m_lt, m_le, m_eq, m_of, m_nz, m_to, c_gt, c_ge, c_lt, c_le, c_eq]
        obtain ⟨g, g1, g2, g3⟩ := ih n (vp_updL fq d (Int64.ofInt st)) (by omega) (by omega) (fun x hx => by rw [ul_n _ _ _ _ (by omega), hf x (by omega)])
        refine ⟨g, g1, ?_, ?_⟩
        · intro x hx
          by_cases e : x = d
          · subst e
            rw [g3 x (by omega), ul_s, if_pos c]
          · exact g2 x (by omega)
        · intro x hx
          rw [g3 x (by omega), ul_n _ _ _ _ (by omega)]
      · have e2 : ((d : Int) - l).toNat = d - l.toNat := by omega
        simp (disch := omega) only [f_X4_leave_27, z_0, z_1, z_2, z_3, z_4, z_5, z_6, z_7, z_8, z_9, z_10, z_11, z_12, z_14, z_18, z_20, z_22, z_24, z_32, z_38, z_40, z_41, z_44, z_48, z_49, z_57, z_59, z_60, z_63, z_65, z_74, z_75, z_81, z_97, z_99, z_104, z_115, z_119, z_122, z_200, z_209, z_210, z_219, z_228, z_255, z_300, z_369, z_999, z_65537, z_268435456, z_1000000000, n_nat, n_add, n_sub, n_mul, n_neg, n_lt, n_le, n_eq, n_ix, n_gd, n_nz, lz_t, bd_some, tn, Int.reduceToNat, tn_1, if_pos, if_neg, if_true, if_false, sI_a, sI_b, sL_a, sL_b, sL_c, wA_a, wA_b, wA_c, wA_d, wB_a, wB_b, wB_c, wB_d, sA_w, sB_w, uN_s, uN_n, up_s, up_n, ul_s, ul_n, p_fst, p_snd, y_0, y_1, y_2, y_10, y_20, y_1099511627776, m_add, m_sub, m_mul, m_neg, m_lt, m_le, m_eq, m_of, m_nz, m_to, c_gt, c_ge, c_lt, c_le, c_eq, e2]
        rw [hf (d - l.toNat) (by omega)]
        obtain ⟨g, g1, g2, g3⟩ := ih n (vp_updL fq d (Int64.ofInt (f0 (d - l.toNat)))) (by omega) (by omega) (fun x hx => by rw [ul_n _ _ _ _ (by omega), hf x (by omega)])
        refine ⟨g, g1, ?_, ?_⟩
        · intro x hx
          by_cases e : x = d
          · subst e
            rw [g3 x (by omega), ul_s, if_neg c]
          · exact g2 x (by omega)
        · intro x hx
          rw [g3 x (by omega), ul_n _ _ _ _ (by omega)]
