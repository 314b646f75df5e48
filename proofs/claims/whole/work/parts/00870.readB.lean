/-! the reference's runs -/
theorem word_go {F : Nat} {f : Nat → Int32} {e a : Nat} (he : e ≤ 800) : ∀ (d k n : Nat) (s : MS), k + d = e → d < n → a ≤ k → s.1 3 = Int32.ofInt (e : Int) → TPR f s e → s.1 8 = Int32.ofInt ((k - a : Nat) : Int) → ∃ s', f_X11_next_67 F n (Int32.ofInt (k : Int)) s = some s' ∧ s'.1 5 = Int32.ofInt ((k + rl f 97 122 d k : Nat) : Int) ∧ s'.1 8 = Int32.ofInt ((k + rl f 97 122 d k - a : Nat) : Int) ∧ s'.1 6 = (if k + rl f 97 122 d k - a ≤ 8 then 2 else 1) ∧ s'.1 4 = s.1 4 ∧ FMo s s' ∧ (∀ j, k - a ≤ j → j < k + rl f 97 122 d k - a → j < 8 → s'.2.2.1 12 j = f (a + j)) ∧ (∀ j, j < k - a → s'.2.2.1 12 j = s.2.2.1 12 j) := by
  intro d
  have endw : ∀ (k : Nat) (s : MS), k ≤ e → a ≤ k → s.1 8 = Int32.ofInt ((k - a : Nat) : Int) → f_X11_next_117 F (Int32.ofInt (k : Int)) s = some (sI (sI s 5 (Int32.ofInt (k : Int))) 6 (if k - a ≤ 8 then 2 else 1)) := by
    intro k s hk hak h8
    have e8 : (sI s 5 (Int32.ofInt (k : Int))).1 8 = Int32.ofInt ((k - a : Nat) : Int) := by rw [sI_n _ _ _ _ (by decide), h8]
    unfold f_X11_next_117 f_X11_next_137
    by_cases c : k - a ≤ 8
    · rw [if_pos c]
      simp (disch := omega) only [z_0, z_1, z_2, z_3, z_4, z_5, z_6, z_7, z_8, z_9, z_10, z_11, z_12, z_14, z_18, z_20, z_22, z_24, z_32, z_38, z_40, z_41, z_44, z_48, z_49, z_57, z_59, z_60, z_63, z_65, z_74, z_75, z_81, z_97, z_99, z_104, z_115, z_119, z_122, z_200, z_209, z_210, z_219, z_228, z_255, z_300, z_369, z_999, z_65537, z_268435456, z_1000000000, n_nat, n_add, n_sub, n_mul, n_neg, n_lt, n_le, n_eq, n_ix, n_gd, n_nz, lz_t, bd_some, tn, Int.reduceToNat, tn_1, if_pos, if_neg, if_true, if_false, e8]
    · rw [if_neg c]
      simp (disch := omega) only [z_0, z_1, z_2, z_3, z_4, z_5, z_6, z_7, z_8, z_9, z_10, z_11, z_12, z_14, z_18, z_20, z_22, z_24, z_32, z_38, z_40, z_41, z_44, z_48, z_49, z_57, z_59, z_60, z_63, z_65, z_74, z_75, z_81, z_97, z_99, z_104, z_115, z_119, z_122, z_200, z_209, z_210, z_219, z_228, z_255, z_300, z_369, z_999, z_65537, z_268435456, z_1000000000, n_nat, n_add, n_sub, n_mul, n_neg, n_lt, n_le, n_eq, n_ix, n_gd, n_nz, lz_t, bd_some, tn, Int.reduceToNat, tn_1, if_pos, if_neg, if_true, if_false, e8]
  have fin : ∀ (k : Nat) (s : MS), a ≤ k → s.1 8 = Int32.ofInt ((k - a : Nat) : Int) → ∃ s', some (sI (sI s 5 (Int32.ofInt (k : Int))) 6 (if k - a ≤ 8 then 2 else 1)) = some s' ∧ s'.1 5 = Int32.ofInt ((k + 0 : Nat) : Int) ∧ s'.1 8 = Int32.ofInt ((k + 0 - a : Nat) : Int) ∧ s'.1 6 = (if k + 0 - a ≤ 8 then 2 else 1) ∧ s'.1 4 = s.1 4 ∧ FMo s s' ∧ (∀ j, k - a ≤ j → j < k + 0 - a → j < 8 → s'.2.2.1 12 j = f (a + j)) ∧ (∀ j, j < k - a → s'.2.2.1 12 j = s.2.2.1 12 j) := by
    intro k s hk h8
    refine ⟨_, rfl, ?_, ?_, ?_, ?_, FMo_t (FMo_i s _ (by omega) (by omega)) (FMo_i _ _ (by omega) (by omega)), fun j h1 h2 => by omega, fun _ _ => rfl⟩
    · rw [sI_n _ _ _ _ (by decide), sI_s]; rfl
    · rw [sI_n _ _ _ _ (by decide), sI_n _ _ _ _ (by decide), h8]; rfl
    · rw [sI_s]; rfl
    · rw [sI_n _ _ _ _ (by decide), sI_n _ _ _ _ (by decide)]
  induction d with
  | zero =>
    intro k n s hk hn ha h3 hT h8
    cases n with
    | zero => omega
    | succ n =>
      have e1 := look_out (F := F) (k := k) he h3 (by omega) (by omega)
      have e2 := sm_y (F := F) (y := -1) (by omega) (by omega)
      rw [if_neg (by omega)] at e2
      have e3 := endw k s (by omega) ha h8
      obtain ⟨s', w⟩ := fin k s ha h8
      refine ⟨s', ?_, w.2⟩
      rw [f_X11_next_67, e1, bd_some, e2, bd_some, if_pos rfl, e3]
      exact w.1
  | succ d ih =>
    intro k n s hk hn ha h3 hT h8
    cases n with
    | zero => omega
    | succ n =>
      have e1 := look_in (F := F) (k := k) he h3 (by omega)
      obtain ⟨x, y, x1, y1, b1, b2, b3, b4, b5⟩ := byR_x (hT k (by omega))
      have et : (f k).toInt = x := by rw [x1]; exact n_toI _ (by omega) (by omega)
      have e2 := sm_y (F := F) (y := y) (by omega) (by omega)
      rw [y1] at e1
      by_cases c : 97 ≤ x ∧ x ≤ 122
      · have er : rl f 97 122 (d + 1) k = 1 + rl f 97 122 d (k + 1) := by
          show (if 97 ≤ (f k).toInt ∧ (f k).toInt ≤ 122 then 1 + rl f 97 122 d (k + 1) else 0) = _
          rw [et, if_pos c]
        have exy : x = y := by omega
        rw [if_pos (by omega)] at e2
        have e9 : (k : Int) + 1 = ((k + 1 : Nat) : Int) := by omega
        have e10 : ((k - a : Nat) : Int) + 1 = ((k + 1 - a : Nat) : Int) := by omega
        have ek : k + 1 + rl f 97 122 d (k + 1) = k + rl f 97 122 (d + 1) k := by omega
        by_cases c8 : 8 ≤ k - a
        · obtain ⟨s', z1, z2, z3, z4, z5, z6, z7, z8⟩ := ih (k + 1) n (sI s 8 (Int32.ofInt ((k + 1 - a : Nat) : Int))) (by omega) (by omega) (by omega) (by rw [sI_n _ _ _ _ (by decide), h3]) hT (sI_s _ _ _)
          rw [ek] at z2 z3 z4 z7
          refine ⟨s', ?_, z2, z3, z4, ?_, FMo_t (FMo_i s _ (by omega) (by omega)) z6, fun j h1 h2 h3 => by omega, ?_⟩
          · rw [f_X11_next_67, e1, bd_some, e2, bd_some, if_neg (by decide), h8, if_pos (by rw [show (8 : Int32) = Int32.ofInt 8 from rfl, n_le _ _ (by omega) (by omega) (by omega) (by omega)]; omega)]
            unfold f_X11_next_101
            rw [h8, lz_t, lz_t, lz_t, z_1, n_add, n_add, e9, e10]
            exact z1
          · rw [z5, sI_n _ _ _ _ (by decide)]
          · intro j hj
            exact z8 j (by omega)
        · obtain ⟨s', z1, z2, z3, z4, z5, z6, z7, z8⟩ := ih (k + 1) n (sI (sA s 12 (k - a) (Int32.ofInt y)) 8 (Int32.ofInt ((k + 1 - a : Nat) : Int))) (by omega) (by omega) (by omega) (by rw [sI_n _ _ _ _ (by decide)]; exact h3) (TPR_f hT rfl) (sI_s _ _ _)
          rw [ek] at z2 z3 z4 z7
          refine ⟨s', ?_, z2, z3, z4, ?_, FMo_t (FMo_t (FMo_a s _ _) (FMo_i _ _ (by omega) (by omega))) z6, ?_, ?_⟩
          · rw [f_X11_next_67, e1, bd_some, e2, bd_some, if_neg (by decide), h8, if_neg (by rw [show (8 : Int32) = Int32.ofInt 8 from rfl, n_le _ _ (by omega) (by omega) (by omega) (by omega)]; omega), bd_some, n_gd _ _ _ (by omega) (by omega) (by omega), n_ix _ (by omega) (by omega), tn, lz_t]
            unfold f_X11_next_101
            have e12 : (sA s 12 (k - a) (Int32.ofInt y)).1 8 = Int32.ofInt ((k - a : Nat) : Int) := h8
            rw [e12, lz_t, lz_t, lz_t, z_1, n_add, n_add, e9, e10]
            exact z1
          · rw [z5, sI_n _ _ _ _ (by decide)]; rfl
          · intro j h1 h2 h3
            by_cases cj : j = k - a
            · subst cj
              rw [z8 _ (by omega)]
              show upd (s.2.2.1 12) (k - a) (Int32.ofInt y) (k - a) = _
              rw [up_s, show a + (k - a) = k by omega, x1, exy]
            · exact z7 j (by omega) h2 h3
          · intro j hj
            rw [z8 j (by omega)]
            show upd (s.2.2.1 12) (k - a) (Int32.ofInt y) j = _
            rw [up_n _ _ _ _ (by omega)]
      · have er : rl f 97 122 (d + 1) k = 0 := by
          show (if 97 ≤ (f k).toInt ∧ (f k).toInt ≤ 122 then 1 + rl f 97 122 d (k + 1) else 0) = _
          rw [et, if_neg c]
        rw [if_neg (by omega)] at e2
        rw [er]
        obtain ⟨s', w⟩ := fin k s ha h8
        refine ⟨s', ?_, w.2⟩
        rw [f_X11_next_67, e1, bd_some, e2, bd_some, if_pos rfl, endw k s (by omega) ha h8]
        exact w.1
def dv (f : Nat → Int32) (a : Nat) : Nat → Int
  | 0 => 0
  | m + 1 => 10 * dv f a m + (f (a + m)).toInt - 48
theorem digs_go {F : Nat} {f : Nat → Int32} {e a : Nat} (he : e ≤ 800) : ∀ (d k n : Nat) (s : MS), k + d = e → d < n → a ≤ k → s.1 3 = Int32.ofInt (e : Int) → TPR f s e → s.1 7 = Int32.ofInt (dv f a (min 3 (k - a))) → ∃ s', f_X11_next_152 F n (Int32.ofInt (k : Int)) (Int32.ofInt ((k - a : Nat) : Int)) s = some s' ∧ s'.1 5 = Int32.ofInt ((k + rl f 48 57 d k : Nat) : Int) ∧ s'.1 7 = Int32.ofInt (dv f a (min 3 (k + rl f 48 57 d k - a))) ∧ s'.1 6 = (if k + rl f 48 57 d k - a ≤ 3 then 3 else 1) ∧ s'.1 4 = s.1 4 ∧ FMo s s' := by
  intro d
  have endw : ∀ (k : Nat) (s : MS), k ≤ e → a ≤ k → f_X11_next_197 F (Int32.ofInt (k : Int)) (Int32.ofInt ((k - a : Nat) : Int)) s = some (sI (sI s 5 (Int32.ofInt (k : Int))) 6 (if k - a ≤ 3 then 3 else 1)) := by
    intro k s hk hak
    unfold f_X11_next_197 f_X11_next_213
    by_cases c : k - a ≤ 3
    · rw [if_pos c]
      simp (disch := omega) only [z_0, z_1, z_2, z_3, z_4, z_5, z_6, z_7, z_8, z_9, z_10, z_11, z_12, z_14, z_18, z_20, z_22, z_24, z_32, z_38, z_40, z_41, z_44, z_48, z_49, z_57, z_59, z_60, z_63, z_65, z_74, z_75, z_81, z_97, z_99, z_104, z_115, z_119, z_122, z_200, z_209, z_210, z_219, z_228, z_255, z_300, z_369, z_999, z_65537, z_268435456, z_1000000000, n_nat, n_add, n_sub, n_mul, n_neg, n_lt, n_le, n_eq, n_ix, n_gd, n_nz, lz_t, bd_some, tn, Int.reduceToNat, tn_1, if_pos, if_neg, if_true, if_false]
    · rw [if_neg c]
      simp (disch := omega) only [z_0, z_1, z_2, z_3, z_4, z_5, z_6, z_7, z_8, z_9, z_10, z_11, z_12, z_14, z_18, z_20, z_22, z_24, z_32, z_38, z_40, z_41, z_44, z_48, z_49, z_57, z_59, z_60, z_63, z_65, z_74, z_75, z_81, z_97, z_99, z_104, z_115, z_119, z_122, z_200, z_209, z_210, z_219, z_228, z_255, z_300, z_369, z_999, z_65537, z_268435456, z_1000000000, n_nat, n_add, n_sub, n_mul, n_neg, n_lt, n_le, n_eq, n_ix, n_gd, n_nz, lz_t, bd_some, tn, Int.reduceToNat, tn_1, if_pos, if_neg, if_true, if_false]
  have fin : ∀ (k : Nat) (s : MS), a ≤ k → s.1 7 = Int32.ofInt (dv f a (min 3 (k - a))) → ∃ s', some (sI (sI s 5 (Int32.ofInt (k : Int))) 6 (if k - a ≤ 3 then 3 else 1)) = some s' ∧ s'.1 5 = Int32.ofInt ((k + 0 : Nat) : Int) ∧ s'.1 7 = Int32.ofInt (dv f a (min 3 (k + 0 - a))) ∧ s'.1 6 = (if k + 0 - a ≤ 3 then 3 else 1) ∧ s'.1 4 = s.1 4 ∧ FMo s s' := by
    intro k s hk h8
    refine ⟨_, rfl, ?_, ?_, ?_, ?_, FMo_t (FMo_i s _ (by omega) (by omega)) (FMo_i _ _ (by omega) (by omega))⟩
    · rw [sI_n _ _ _ _ (by decide), sI_s]; rfl
    · rw [sI_n _ _ _ _ (by decide), sI_n _ _ _ _ (by decide), h8]; rfl
    · rw [sI_s]; rfl
    · rw [sI_n _ _ _ _ (by decide), sI_n _ _ _ _ (by decide)]
  induction d with
  | zero =>
    intro k n s hk hn ha h3 hT h8
    cases n with
    | zero => omega
    | succ n =>
      have e1 := look_out (F := F) (k := k) he h3 (by omega) (by omega)
      have e2 := dg_y (F := F) (y := -1) (by omega) (by omega)
      rw [if_neg (by omega)] at e2
      have e3 := endw k s (by omega) ha
      obtain ⟨s', w⟩ := fin k s ha h8
      refine ⟨s', ?_, w.2⟩
      rw [f_X11_next_152, e1, bd_some, e2, bd_some, if_pos rfl, e3]
      exact w.1
  | succ d ih =>
    intro k n s hk hn ha h3 hT h8
    cases n with
    | zero => omega
    | succ n =>
      have e1 := look_in (F := F) (k := k) he h3 (by omega)
      obtain ⟨x, y, x1, y1, b1, b2, b3, b4, b5⟩ := byR_x (hT k (by omega))
      have et : (f k).toInt = x := by rw [x1]; exact n_toI _ (by omega) (by omega)
      have e2 := dg_y (F := F) (y := y) (by omega) (by omega)
      rw [y1] at e1
      by_cases c : 48 ≤ x ∧ x ≤ 57
      · have er : rl f 48 57 (d + 1) k = 1 + rl f 48 57 d (k + 1) := by
          show (if 48 ≤ (f k).toInt ∧ (f k).toInt ≤ 57 then 1 + rl f 48 57 d (k + 1) else 0) = _
          rw [et, if_pos c]
        have exy : x = y := by omega
        rw [if_pos (by omega)] at e2
        have e9 : (k : Int) + 1 = ((k + 1 : Nat) : Int) := by omega
        have e10 : ((k - a : Nat) : Int) + 1 = ((k + 1 - a : Nat) : Int) := by omega
        have ek : k + 1 + rl f 48 57 d (k + 1) = k + rl f 48 57 (d + 1) k := by omega
        by_cases c8 : 3 ≤ k - a
        · obtain ⟨s', z1, z2, z3, z4, z5, z6⟩ := ih (k + 1) n s (by omega) (by omega) (by omega) h3 hT (by rw [h8, show min 3 (k + 1 - a) = min 3 (k - a) by omega])
          rw [ek] at z2 z3 z4
          refine ⟨s', ?_, z2, z3, z4, z5, z6⟩
          rw [f_X11_next_152, e1, bd_some, e2, bd_some, if_neg (by decide), if_pos (by rw [show (3 : Int32) = Int32.ofInt 3 from rfl, n_le _ _ (by omega) (by omega) (by omega) (by omega)]; omega)]
          unfold f_X11_next_188
          rw [lz_t, lz_t, z_1, n_add, n_add, e9, e10]
          exact z1
        · have ed : dv f a (min 3 (k + 1 - a)) = 10 * dv f a (min 3 (k - a)) + y - 48 := by
            rw [show min 3 (k + 1 - a) = (k - a) + 1 by omega, show min 3 (k - a) = k - a by omega]
            show 10 * dv f a (k - a) + (f (a + (k - a))).toInt - 48 = _
            rw [show a + (k - a) = k by omega, et, exy]
          obtain ⟨s', z1, z2, z3, z4, z5, z6⟩ := ih (k + 1) n (sI s 7 (Int32.ofInt (10 * dv f a (min 3 (k - a)) + y - 48))) (by omega) (by omega) (by omega) (by rw [sI_n _ _ _ _ (by decide), h3]) hT (by rw [sI_s, ed])
          rw [ek] at z2 z3 z4
          refine ⟨s', ?_, z2, z3, z4, ?_, FMo_t (FMo_i s _ (by omega) (by omega)) z6⟩
          · rw [f_X11_next_152, e1, bd_some, e2, bd_some, if_neg (by decide), if_neg (by rw [show (3 : Int32) = Int32.ofInt 3 from rfl, n_le _ _ (by omega) (by omega) (by omega) (by omega)]; omega), bd_some, h8, lz_t, lz_t, z_10, z_48, n_mul, n_add, n_sub]
            unfold f_X11_next_188
            rw [lz_t, lz_t, z_1, n_add, n_add, e9, e10]
            exact z1
          · rw [z5, sI_n _ _ _ _ (by decide)]
      · have er : rl f 48 57 (d + 1) k = 0 := by
          show (if 48 ≤ (f k).toInt ∧ (f k).toInt ≤ 57 then 1 + rl f 48 57 d (k + 1) else 0) = _
          rw [et, if_neg c]
        rw [if_neg (by omega)] at e2
        rw [er]
        obtain ⟨s', w⟩ := fin k s ha h8
        refine ⟨s', ?_, w.2⟩
        rw [f_X11_next_152, e1, bd_some, e2, bd_some, if_pos rfl, endw k s (by omega) ha]
        exact w.1
