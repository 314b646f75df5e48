/-! within, fewest -/
theorem FW1 (s : MS) (a i : Nat) (v : Int32) : FW s (sA s a i v) a a := FW_a s a a i v
theorem tn_369 (a b c : Nat) : (369 * (a : Int) + 41 * (b : Int) + (c : Int)).toNat = 369 * a + 41 * b + c := by omega
theorem wi106 {F : Nat} (hF : 100 ≤ F) {r : Nat → Int32} (h : ROK r) {kk i st : Nat} (hkk : kk ≤ 9) (hst : st ≤ kk) (hi : (i : Int) + 1 < rd r 8) (k98 : Int32 → Int32 → MS → Option (Int32 × MS)) : ∀ (d f n : Nat) (s : MS), (f : Int) + d = rd r 0 + 1 → d < n → s.2.2.1 15 = r → wI r kk (i + 1) s →
    ∃ s', f_X11_within_106 F (Int32.ofInt (kk : Int)) k98 n (Int32.ofInt (i : Int)) (Int32.ofInt (st : Int)) (Int32.ofInt (f : Int)) s = k98 (Int32.ofInt (i : Int)) (Int32.ofInt ((st : Int) + 1)) s' ∧ FW s s' 25 25 ∧ (∀ x : Nat, f ≤ x → (x : Int) ≤ rd r 0 → s'.2.2.1 25 (369 * st + 41 * i + x) = Int32.ofInt (wR r ((rd r 8).toNat - 1 - i) st x)) ∧ (∀ j, (j < 369 * st + 41 * i + f ∨ 369 * st + 41 * (i + 1) ≤ j) → s'.2.2.1 25 j = s.2.2.1 25 j) := by
  obtain ⟨t0, t1, t2, t3, t4, t5, t8, t9⟩ := ROKb h
  intro d
  induction d with
  | zero =>
    intro f n s hf hn hs hI
    cases n with
    | zero => omega
    | succ n =>
      have r0 : s.2.2.1 15 0 = Int32.ofInt (rd r 0) := by rw [hs]; exact rd_e r 0
      refine ⟨s, ?_, FW_r s 25 25, fun x h1 h2 => by omega, fun _ _ => rfl⟩
      rw [f_X11_within_106]
      simp (disch := omega) only [f_X11_within_149, z_0, z_1, z_2, z_3, z_4, z_5, z_6, z_7, z_8, z_9, z_10, z_11, z_12, z_14, z_18, z_20, z_22, z_24, z_32, z_38, z_40, z_41, z_44, z_48, z_49, z_57, z_59, z_60, z_63, z_65, z_74, z_75, z_81, z_97, z_99, z_104, z_115, z_119, z_122, z_200, z_209, z_210, z_219, z_228, z_255, z_300, z_369, z_999, z_65537, z_268435456, z_1000000000, n_nat, n_add, n_sub, n_mul, n_neg, n_lt, n_le, n_eq, n_ix, n_gd, n_nz, lz_t, bd_some, tn, Int.reduceToNat, tn_1, if_pos, if_neg, if_true, if_false, sI_a, sI_b, sL_a, sL_b, sL_c, wA_a, wA_b, wA_c, wA_d, wB_a, wB_b, wB_c, wB_d, sA_w, sB_w, uN_s, uN_n, up_s, up_n, ul_s, ul_n, p_fst, p_snd, r0]
  | succ d ih =>
    intro f n s hf hn hs hI
    cases n with
    | zero => omega
    | succ n =>
      have r0 : s.2.2.1 15 0 = Int32.ofInt (rd r 0) := by rw [hs]; exact rd_e r 0
      have hd : (rd r 8).toNat - 1 - i = ((rd r 8).toNat - 2 - i) + 1 := by omega
      have hi2 : (rd r 8).toNat - 2 - ((rd r 8).toNat - 2 - i) = i := by omega
      have hl := leastBy_go (F := F) h hkk hst hi (f := f) (by omega) hs hI rfl rfl (stN (rd r 0).toNat (decide (0 < rp r i)) st f + 1) 0 F (by omega) (by have := stN_le (rd r 0).toNat (decide (0 < rp r i)) st f; omega)
      have hl' : f_X11_leastBy F s (Int32.ofInt (i : Int)) (Int32.ofInt (st : Int)) (Int32.ofInt (f : Int)) = some (Int32.ofInt (wR r ((rd r 8).toNat - 1 - i) st f)) := by
        rw [hd]
        show _ = some (Int32.ofInt (cW _ _ _ _ _ _ (minTo _ (stN _ _ _ _))))
        rw [hi2]
        exact hl
      obtain ⟨s', a1, a2, a3, a4⟩ := ih (f + 1) n (sA s 25 (369 * st + 41 * i + f) (Int32.ofInt (wR r ((rd r 8).toNat - 1 - i) st f))) (by omega) (by omega) (by
        simp (disch := omega) only [sI_a, sI_b, sL_a, sL_b, sL_c, wA_a, wA_b, wA_c, wA_d, wB_a, wB_b, wB_c, wB_d, sA_w, sB_w, uN_s, uN_n, up_s, up_n, ul_s, ul_n, p_fst, p_snd]
        exact hs) (by
        intro j h1 h2 u hu x hx
        simp (disch := omega) only [sI_a, sI_b, sL_a, sL_b, sL_c, wA_a, wA_b, wA_c, wA_d, wB_a, wB_b, wB_c, wB_d, sA_w, sB_w, uN_s, uN_n, up_s, up_n, ul_s, ul_n, p_fst, p_snd]
        exact hI j h1 h2 u hu x hx)
      refine ⟨s', ?_, FW_t (FW1 _ _ _ _) a2, ?_, ?_⟩
      · rw [f_X11_within_106]
        simp (disch := omega) only [z_0, z_1, z_2, z_3, z_4, z_5, z_6, z_7, z_8, z_9, z_10, z_11, z_12, z_14, z_18, z_20, z_22, z_24, z_32, z_38, z_40, z_41, z_44, z_48, z_49, z_57, z_59, z_60, z_63, z_65, z_74, z_75, z_81, z_97, z_99, z_104, z_115, z_119, z_122, z_200, z_209, z_210, z_219, z_228, z_255, z_300, z_369, z_999, z_65537, z_268435456, z_1000000000, n_nat, n_add, n_sub, n_mul, n_neg, n_lt, n_le, n_eq, n_ix, n_gd, n_nz, lz_t, bd_some, tn, Int.reduceToNat, tn_1, if_pos, if_neg, if_true, if_false, r0, hl', tn_369]
        exact a1
      · intro x h1 h2
        by_cases e : x = f
        · subst e
          rw [a4 _ (by omega)]
          simp (disch := omega) only [sI_a, sI_b, sL_a, sL_b, sL_c, wA_a, wA_b, wA_c, wA_d, wB_a, wB_b, wB_c, wB_d, sA_w, sB_w, uN_s, uN_n, up_s, up_n, ul_s, ul_n, p_fst, p_snd]
        · exact a3 x (by omega) h2
      · intro j hj
        rw [a4 j (by omega)]
        simp (disch := omega) only [sI_a, sI_b, sL_a, sL_b, sL_c, wA_a, wA_b, wA_c, wA_d, wB_a, wB_b, wB_c, wB_d, sA_w, sB_w, uN_s, uN_n, up_s, up_n, ul_s, ul_n, p_fst, p_snd]
theorem wi98 {F : Nat} (hF : 100 ≤ F) {r : Nat → Int32} (h : ROK r) {kk i : Nat} (hkk : kk ≤ 9) (hi : (i : Int) + 1 < rd r 8) (k92 : Int32 → MS → Option (Int32 × MS)) : ∀ (d st n : Nat) (s : MS), st + d = kk + 1 → d < n → s.2.2.1 15 = r → wI r kk (i + 1) s → (∀ u, u < st → ∀ x : Nat, (x : Int) ≤ rd r 0 → s.2.2.1 25 (369 * u + 41 * i + x) = Int32.ofInt (wR r ((rd r 8).toNat - 1 - i) u x)) →
    ∃ s', f_X11_within_98 F (Int32.ofInt (kk : Int)) k92 n (Int32.ofInt (i : Int)) (Int32.ofInt (st : Int)) s = k92 (Int32.ofInt ((i : Int) + -1)) s' ∧ FW s s' 25 25 ∧ wI r kk i s' := by
  obtain ⟨t0, t1, t2, t3, t4, t5, t8, t9⟩ := ROKb h
  intro d
  induction d with
  | zero =>
    intro st n s hst hn hs hI hJ
    cases n with
    | zero => omega
    | succ n =>
      refine ⟨s, ?_, FW_r s 25 25, ?_⟩
      · rw [f_X11_within_98]
        simp (disch := omega) only [f_X11_within_155, z_0, z_1, z_2, z_3, z_4, z_5, z_6, z_7, z_8, z_9, z_10, z_11, z_12, z_14, z_18, z_20, z_22, z_24, z_32, z_38, z_40, z_41, z_44, z_48, z_49, z_57, z_59, z_60, z_63, z_65, z_74, z_75, z_81, z_97, z_99, z_104, z_115, z_119, z_122, z_200, z_209, z_210, z_219, z_228, z_255, z_300, z_369, z_999, z_65537, z_268435456, z_1000000000, n_nat, n_add, n_sub, n_mul, n_neg, n_lt, n_le, n_eq, n_ix, n_gd, n_nz, lz_t, bd_some, tn, Int.reduceToNat, tn_1, if_pos, if_neg, if_true, if_false, sI_a, sI_b, sL_a, sL_b, sL_c, wA_a, wA_b, wA_c, wA_d, wB_a, wB_b, wB_c, wB_d, sA_w, sB_w, uN_s, uN_n, up_s, up_n, ul_s, ul_n, p_fst, p_snd]
      · intro j h1 h2 u hu x hx
        by_cases e : j = i
        · subst e; exact hJ u (by omega) x hx
        · exact hI j (by omega) h2 u hu x hx
  | succ d ih =>
    intro st n s hst hn hs hI hJ
    cases n with
    | zero => omega
    | succ n =>
      obtain ⟨s1, a1, a2, a3, a4⟩ := wi106 (F := F) hF h hkk (st := st) (by omega) hi (f_X11_within_98 F (Int32.ofInt (kk : Int)) k92 n) ((rd r 0).toNat + 1) 0 F s (by omega) (by omega) hs hI
      obtain ⟨s2, b1, b2, b3⟩ := ih (st + 1) n s1 (by omega) (by omega) (by rw [a2.2.2.2 15 (by omega) (by omega)]; exact hs) (by
        intro j h1 h2 u hu x hx
        rw [a4 _ (by omega)]
        exact hI j h1 h2 u hu x hx) (by
        intro u hu x hx
        by_cases e : u = st
        · subst e
          exact a3 x (by omega) hx
        · rw [a4 _ (by omega)]
          exact hJ u (by omega) x hx)
      refine ⟨s2, ?_, FW_t a2 b2, b3⟩
      rw [f_X11_within_98]
      simp (disch := omega) only [z_0, z_1, z_2, z_3, z_4, z_5, z_6, z_7, z_8, z_9, z_10, z_11, z_12, z_14, z_18, z_20, z_22, z_24, z_32, z_38, z_40, z_41, z_44, z_48, z_49, z_57, z_59, z_60, z_63, z_65, z_74, z_75, z_81, z_97, z_99, z_104, z_115, z_119, z_122, z_200, z_209, z_210, z_219, z_228, z_255, z_300, z_369, z_999, z_65537, z_268435456, z_1000000000, n_nat, n_add, n_sub, n_mul, n_neg, n_lt, n_le, n_eq, n_ix, n_gd, n_nz, lz_t, bd_some, tn, Int.reduceToNat, tn_1, if_pos, if_neg, if_true, if_false]
      have a1' : f_X11_within_106 F (Int32.ofInt (kk : Int)) (f_X11_within_98 F (Int32.ofInt (kk : Int)) k92 n) F (Int32.ofInt (i : Int)) (Int32.ofInt (st : Int)) (Int32.ofInt 0) s = _ := a1
      rw [a1']
      exact b1
theorem wi92 {F : Nat} (hF : 100 ≤ F) {r : Nat → Int32} (h : ROK r) {kk : Nat} (hkk : kk ≤ 9) : ∀ (e n : Nat) (s : MS), (e : Int) < rd r 8 → e < n → s.2.2.1 15 = r → wI r kk e s →
    ∃ s', f_X11_within_92 F (Int32.ofInt (kk : Int)) n (Int32.ofInt ((e : Int) - 1)) s = some (Int32.ofInt (ans (wR r ((rd r 8).toNat - 1) kk (rd r 1).toNat)), s') ∧ FW s s' 25 25 := by
  obtain ⟨t0, t1, t2, t3, t4, t5, t8, t9⟩ := ROKb h
  intro e
  induction e with
  | zero =>
    intro n s he hn hs hI
    cases n with
    | zero => omega
    | succ n =>
      refine ⟨s, ?_, FW_r s 25 25⟩
      have r1 : s.2.2.1 15 1 = Int32.ofInt (rd r 1) := by rw [hs]; exact rd_e r 1
      have ex : (369 * (kk : Int) + rd r 1).toNat = 369 * kk + (rd r 1).toNat := by omega
      have cell := hI 0 (by omega) (by omega) kk (by omega) (rd r 1).toNat (by omega)
      rw [Nat.mul_zero, Nat.add_zero, Nat.sub_zero] at cell
      have ok := wR_ok h ((rd r 8).toNat - 1) (by omega) kk (rd r 1).toNat (by omega)
      rw [f_X11_within_92]
      unfold ans
      by_cases c : wR r ((rd r 8).toNat - 1) kk (rd r 1).toNat = 1000000000
      · simp (disch := omega) only [f_X11_within_161, z_0, z_1, z_2, z_3, z_4, z_5, z_6, z_7, z_8, z_9, z_10, z_11, z_12, z_14, z_18, z_20, z_22, z_24, z_32, z_38, z_40, z_41, z_44, z_48, z_49, z_57, z_59, z_60, z_63, z_65, z_74, z_75, z_81, z_97, z_99, z_104, z_115, z_119, z_122, z_200, z_209, z_210, z_219, z_228, z_255, z_300, z_369, z_999, z_65537, z_268435456, z_1000000000, n_nat, n_add, n_sub, n_mul, n_neg, n_lt, n_le, n_eq, n_ix, n_gd, n_nz, lz_t, bd_some, tn, Int.reduceToNat, tn_1, if_pos, if_neg, if_true, if_false, sI_a, sI_b, sL_a, sL_b, sL_c, wA_a, wA_b, wA_c, wA_d, wB_a, wB_b, wB_c, wB_d, sA_w, sB_w, uN_s, uN_n, up_s, up_n, ul_s, ul_n, p_fst, p_snd, r1, ex, cell]
      · simp (disch := omega) only [f_X11_within_161, z_0, z_1, z_2, z_3, z_4, z_5, z_6, z_7, z_8, z_9, z_10, z_11, z_12, z_14, z_18, z_20, z_22, z_24, z_32, z_38, z_40, z_41, z_44, z_48, z_49, z_57, z_59, z_60, z_63, z_65, z_74, z_75, z_81, z_97, z_99, z_104, z_115, z_119, z_122, z_200, z_209, z_210, z_219, z_228, z_255, z_300, z_369, z_999, z_65537, z_268435456, z_1000000000, n_nat, n_add, n_sub, n_mul, n_neg, n_lt, n_le, n_eq, n_ix, n_gd, n_nz, lz_t, bd_some, tn, Int.reduceToNat, tn_1, if_pos, if_neg, if_true, if_false, sI_a, sI_b, sL_a, sL_b, sL_c, wA_a, wA_b, wA_c, wA_d, wB_a, wB_b, wB_c, wB_d, sA_w, sB_w, uN_s, uN_n, up_s, up_n, ul_s, ul_n, p_fst, p_snd, r1, ex, cell]
  | succ e ih =>
    intro n s he hn hs hI
    cases n with
    | zero => omega
    | succ n =>
      have e1 : ((e + 1 : Nat) : Int) - 1 = e := by omega
      obtain ⟨s1, a1, a2, a3⟩ := wi98 (F := F) hF h hkk (i := e) (by omega) (f_X11_within_92 F (Int32.ofInt (kk : Int)) n) (kk + 1) 0 F s (by omega) (by omega) hs hI (fun u hu => by omega)
      obtain ⟨s2, b1, b2⟩ := ih n s1 (by omega) (by omega) (by rw [a2.2.2.2 15 (by omega) (by omega)]; exact hs) a3
      refine ⟨s2, ?_, FW_t a2 b2⟩
      rw [f_X11_within_92, e1]
      simp (disch := omega) only [z_0, z_1, z_2, z_3, z_4, z_5, z_6, z_7, z_8, z_9, z_10, z_11, z_12, z_14, z_18, z_20, z_22, z_24, z_32, z_38, z_40, z_41, z_44, z_48, z_49, z_57, z_59, z_60, z_63, z_65, z_74, z_75, z_81, z_97, z_99, z_104, z_115, z_119, z_122, z_200, z_209, z_210, z_219, z_228, z_255, z_300, z_369, z_999, z_65537, z_268435456, z_1000000000, n_nat, n_add, n_sub, n_mul, n_neg, n_lt, n_le, n_eq, n_ix, n_gd, n_nz, lz_t, bd_some, tn, Int.reduceToNat, tn_1, if_pos, if_neg, if_true, if_false]
      have a1' : f_X11_within_98 F (Int32.ofInt (kk : Int)) (f_X11_within_92 F (Int32.ofInt (kk : Int)) n) F (Int32.ofInt (e : Int)) (Int32.ofInt 0) s = _ := a1
      rw [a1']
      exact b1
theorem wi42 {F : Nat} {r : Nat → Int32} (h : ROK r) {kk st : Nat} (hkk : kk ≤ 9) (hst : st ≤ kk) (k35 : Int32 → MS → Option (Int32 × MS)) : ∀ (d f n : Nat) (s : MS), (f : Int) + d = rd r 0 + 1 → d < n → s.2.2.1 15 = r →
    ∃ s', f_X11_within_42 F (Int32.ofInt (kk : Int)) k35 n (Int32.ofInt (st : Int)) (Int32.ofInt (f : Int)) s = k35 (Int32.ofInt ((st : Int) + 1)) s' ∧ FW s s' 25 25 ∧ (∀ x : Nat, f ≤ x → (x : Int) ≤ rd r 0 → s'.2.2.1 25 (369 * st + 41 * ((rd r 8).toNat - 1) + x) = Int32.ofInt 0) ∧ (∀ j, (j < 369 * st + 41 * ((rd r 8).toNat - 1) + f ∨ 369 * (st + 1) ≤ j) → s'.2.2.1 25 j = s.2.2.1 25 j) := by
  obtain ⟨t0, t1, t2, t3, t4, t5, t8, t9⟩ := ROKb h
  intro d
  induction d with
  | zero =>
    intro f n s hf hn hs
    cases n with
    | zero => omega
    | succ n =>
      have r0 : s.2.2.1 15 0 = Int32.ofInt (rd r 0) := by rw [hs]; exact rd_e r 0
      refine ⟨s, ?_, FW_r s 25 25, fun x h1 h2 => by omega, fun _ _ => rfl⟩
      rw [f_X11_within_42]
      simp (disch := omega) only [f_X11_within_79, z_0, z_1, z_2, z_3, z_4, z_5, z_6, z_7, z_8, z_9, z_10, z_11, z_12, z_14, z_18, z_20, z_22, z_24, z_32, z_38, z_40, z_41, z_44, z_48, z_49, z_57, z_59, z_60, z_63, z_65, z_74, z_75, z_81, z_97, z_99, z_104, z_115, z_119, z_122, z_200, z_209, z_210, z_219, z_228, z_255, z_300, z_369, z_999, z_65537, z_268435456, z_1000000000, n_nat, n_add, n_sub, n_mul, n_neg, n_lt, n_le, n_eq, n_ix, n_gd, n_nz, lz_t, bd_some, tn, Int.reduceToNat, tn_1, if_pos, if_neg, if_true, if_false, sI_a, sI_b, sL_a, sL_b, sL_c, wA_a, wA_b, wA_c, wA_d, wB_a, wB_b, wB_c, wB_d, sA_w, sB_w, uN_s, uN_n, up_s, up_n, ul_s, ul_n, p_fst, p_snd, r0]
  | succ d ih =>
    intro f n s hf hn hs
    cases n with
    | zero => omega
    | succ n =>
      have r0 : s.2.2.1 15 0 = Int32.ofInt (rd r 0) := by rw [hs]; exact rd_e r 0
      have ex : (369 * (st : Int) + 41 * (rd r 8 - 1) + (f : Int)).toNat = 369 * st + 41 * ((rd r 8).toNat - 1) + f := by omega
      obtain ⟨s', a1, a2, a3, a4⟩ := ih (f + 1) n (sA s 25 (369 * st + 41 * ((rd r 8).toNat - 1) + f) (Int32.ofInt 0)) (by omega) (by omega) (by
        simp (disch := omega) only [sI_a, sI_b, sL_a, sL_b, sL_c, wA_a, wA_b, wA_c, wA_d, wB_a, wB_b, wB_c, wB_d, sA_w, sB_w, uN_s, uN_n, up_s, up_n, ul_s, ul_n, p_fst, p_snd]
        exact hs)
      refine ⟨s', ?_, FW_t (FW1 _ _ _ _) a2, ?_, ?_⟩
      · rw [f_X11_within_42]
        simp (disch := omega) only [z_0, z_1, z_2, z_3, z_4, z_5, z_6, z_7, z_8, z_9, z_10, z_11, z_12, z_14, z_18, z_20, z_22, z_24, z_32, z_38, z_40, z_41, z_44, z_48, z_49, z_57, z_59, z_60, z_63, z_65, z_74, z_75, z_81, z_97, z_99, z_104, z_115, z_119, z_122, z_200, z_209, z_210, z_219, z_228, z_255, z_300, z_369, z_999, z_65537, z_268435456, z_1000000000, n_nat, n_add, n_sub, n_mul, n_neg, n_lt, n_le, n_eq, n_ix, n_gd, n_nz, lz_t, bd_some, tn, Int.reduceToNat, tn_1, if_pos, if_neg, if_true, if_false, r0, A11_last hs h, ex]
        exact a1
      · intro x h1 h2
        by_cases e : x = f
        · subst e
          rw [a4 _ (by omega)]
          simp (disch := omega) only [sI_a, sI_b, sL_a, sL_b, sL_c, wA_a, wA_b, wA_c, wA_d, wB_a, wB_b, wB_c, wB_d, sA_w, sB_w, uN_s, uN_n, up_s, up_n, ul_s, ul_n, p_fst, p_snd]
        · exact a3 x (by omega) h2
      · intro j hj
        rw [a4 j (by omega)]
        simp (disch := omega) only [sI_a, sI_b, sL_a, sL_b, sL_c, wA_a, wA_b, wA_c, wA_d, wB_a, wB_b, wB_c, wB_d, sA_w, sB_w, uN_s, uN_n, up_s, up_n, ul_s, ul_n, p_fst, p_snd]
theorem wi35 {F : Nat} (hF : 100 ≤ F) {r : Nat → Int32} (h : ROK r) {kk : Nat} (hkk : kk ≤ 9) : ∀ (d st n : Nat) (s : MS), st + d = kk + 1 → d < n → s.2.2.1 15 = r → (∀ u, u < st → ∀ x : Nat, (x : Int) ≤ rd r 0 → s.2.2.1 25 (369 * u + 41 * ((rd r 8).toNat - 1) + x) = Int32.ofInt 0) →
    ∃ s', f_X11_within_35 F (Int32.ofInt (kk : Int)) n (Int32.ofInt (st : Int)) s = some (Int32.ofInt (ans (wR r ((rd r 8).toNat - 1) kk (rd r 1).toNat)), s') ∧ FW s s' 25 25 := by
  obtain ⟨t0, t1, t2, t3, t4, t5, t8, t9⟩ := ROKb h
  intro d
  induction d with
  | zero =>
    intro st n s hst hn hs hI
    cases n with
    | zero => omega
    | succ n =>
      obtain ⟨s', a1, a2⟩ := wi92 (F := F) hF h hkk ((rd r 8).toNat - 1) F s (by omega) (by omega) hs (by
        intro j h1 h2 u hu x hx
        have e : j = (rd r 8).toNat - 1 := by omega
        subst e
        rw [hI u (by omega) x hx, Nat.sub_self]
        rfl)
      refine ⟨s', ?_, a2⟩
      rw [f_X11_within_35]
      simp (disch := omega) only [f_X11_within_85, z_0, z_1, z_2, z_3, z_4, z_5, z_6, z_7, z_8, z_9, z_10, z_11, z_12, z_14, z_18, z_20, z_22, z_24, z_32, z_38, z_40, z_41, z_44, z_48, z_49, z_57, z_59, z_60, z_63, z_65, z_74, z_75, z_81, z_97, z_99, z_104, z_115, z_119, z_122, z_200, z_209, z_210, z_219, z_228, z_255, z_300, z_369, z_999, z_65537, z_268435456, z_1000000000, n_nat, n_add, n_sub, n_mul, n_neg, n_lt, n_le, n_eq, n_ix, n_gd, n_nz, lz_t, bd_some, tn, Int.reduceToNat, tn_1, if_pos, if_neg, if_true, if_false, A11_last hs h]
      rw [show (((rd r 8).toNat - 1 : Nat) : Int) - 1 = rd r 8 - 1 - 1 by omega] at a1
      exact a1
  | succ d ih =>
    intro st n s hst hn hs hI
    cases n with
    | zero => omega
    | succ n =>
      obtain ⟨s1, a1, a2, a3, a4⟩ := wi42 (F := F) h hkk (st := st) (by omega) (f_X11_within_35 F (Int32.ofInt (kk : Int)) n) ((rd r 0).toNat + 1) 0 F s (by omega) (by omega) hs
      obtain ⟨s2, b1, b2⟩ := ih (st + 1) n s1 (by omega) (by omega) (by rw [a2.2.2.2 15 (by omega) (by omega)]; exact hs) (by
        intro u hu x hx
        by_cases e : u = st
        · subst e
          exact a3 x (by omega) hx
        · rw [a4 _ (by omega)]
          exact hI u (by omega) x hx)
      refine ⟨s2, ?_, FW_t a2 b2⟩
      rw [f_X11_within_35]
      simp (disch := omega) only [z_0, z_1, z_2, z_3, z_4, z_5, z_6, z_7, z_8, z_9, z_10, z_11, z_12, z_14, z_18, z_20, z_22, z_24, z_32, z_38, z_40, z_41, z_44, z_48, z_49, z_57, z_59, z_60, z_63, z_65, z_74, z_75, z_81, z_97, z_99, z_104, z_115, z_119, z_122, z_200, z_209, z_210, z_219, z_228, z_255, z_300, z_369, z_999, z_65537, z_268435456, z_1000000000, n_nat, n_add, n_sub, n_mul, n_neg, n_lt, n_le, n_eq, n_ix, n_gd, n_nz, lz_t, bd_some, tn, Int.reduceToNat, tn_1, if_pos, if_neg, if_true, if_false]
      have a1' : f_X11_within_42 F (Int32.ofInt (kk : Int)) (f_X11_within_35 F (Int32.ofInt (kk : Int)) n) F (Int32.ofInt (st : Int)) (Int32.ofInt 0) s = _ := a1
      rw [a1']
      exact b1
theorem P_within {F : Nat} (hF : 100 ≤ F) {sMn sRo sPl sPb sMo : MS} (hR : RR sRo (sMo.2.2.1 15)) (H : HR (sMo.2.2.1 15) (sMo.1 14)) (p : Int32) :
    ∃ v sMn' sPb' sMo', f_X10_within F sPl sRo p sMn sPb = some (v, sMn', sPb') ∧ f_X11_within F p sMo = some (v, sMo') ∧ TU sMn sMo sMn' sMo' := by
  unfold f_X10_within f_X11_within
  rw [X9_isTold hR H, bd_some, X11_good', bd_some, gQ_14]
  rcases H with ⟨h1, h2⟩ | ⟨h1, h2⟩
  · obtain ⟨t0, t1, t2, t3, t4, t5, t8, t9⟩ := ROKb h2
    obtain ⟨q0, q1, q2, q3, q4, q5, q8, q9⟩ := RRb hR
    rw [h1, if_neg (c := (1 : Int32) = 0) (by decide), if_neg (c := (1 : Int32) = 0) (by decide), X11_in, bd_some]
    have z0 : (0 : Int32).toInt = 0 := rfl
    have z9 : (9 : Int32).toInt = 9 := rfl
    rw [z0, z9]
    simp only [i_lt p, i_le p, z0, z9]
    by_cases c1 : p.toInt < 0
    · have e : (decide (0 ≤ p.toInt) && decide (p.toInt ≤ 9)) = false := by
        have : ¬ 0 ≤ p.toInt := by omega
        simp [this]
      rw [if_pos c1, e]
      exact ⟨-1, _, _, _, rfl, rfl, TU_n (KP_r _) 2⟩
    · rw [if_neg c1]
      by_cases c2 : p.toInt ≤ 9
      · have e : (decide (0 ≤ p.toInt) && decide (p.toInt ≤ 9)) = true := by
          have : 0 ≤ p.toInt := by omega
          simp [this, c2]
        rw [if_pos c2, e, if_neg (c := bi true = 0) (by decide)]
        obtain ⟨kk, hkk, rfl⟩ : ∃ kk : Nat, kk ≤ 9 ∧ p = Int32.ofInt (kk : Int) := ⟨p.toInt.toNat, by omega, by rw [i_eq, oi (by omega)]; omega⟩
        obtain ⟨s', a1, a2⟩ := wi35 (F := F) hF h2 hkk (kk + 1) 0 F (gQ sMo) (by omega) (by omega) rfl (fun u hu => by omega)
        obtain ⟨sb, b1, b2⟩ := bys_e (F := F) hF (sPl := sPl) hR h2 sPb
        dsimp only [rowsA] at b2
        have cell := b2 kk hkk (rd (sMo.2.2.1 15) 1).toNat (by omega)
        have ok := wR_ok h2 ((rd (sMo.2.2.1 15) 8).toNat - 1) (by omega) kk (rd (sMo.2.2.1 15) 1).toNat (by omega)
        have an := answer_e (F := F) (v := wR (sMo.2.2.1 15) ((rd (sMo.2.2.1 15) 8).toNat - 1) kk (rd (sMo.2.2.1 15) 1).toNat) (by omega)
        have lw : f_X6_leastWithin F sPl sRo (Int32.ofInt (kk : Int)) sPb = some (Int32.ofInt (ans (wR (sMo.2.2.1 15) ((rd (sMo.2.2.1 15) 8).toNat - 1) kk (rd (sMo.2.2.1 15) 1).toNat)), sb) := by
          unfold f_X6_leastWithin
          simp (disch := omega) only [z_0, z_1, z_2, z_3, z_4, z_5, z_6, z_7, z_8, z_9, z_10, z_11, z_12, z_14, z_18, z_20, z_22, z_24, z_32, z_38, z_40, z_41, z_44, z_48, z_49, z_57, z_59, z_60, z_63, z_65, z_74, z_75, z_81, z_97, z_99, z_104, z_115, z_119, z_122, z_200, z_209, z_210, z_219, z_228, z_255, z_300, z_369, z_999, z_65537, z_268435456, z_1000000000, n_nat, n_add, n_sub, n_mul, n_neg, n_lt, n_le, n_eq, n_ix, n_gd, n_nz, lz_t, bd_some, tn, Int.reduceToNat, tn_1, if_pos, if_neg, if_true, if_false, b1, q1, cell, an]
        have a1' : f_X11_within_35 F (Int32.ofInt (kk : Int)) F 0 (gQ sMo) = _ := a1
        rw [lw, bd_some, X10_accept, bd_some, a1']
        exact ⟨_, _, _, _, rfl, rfl, TU_k (KP_f a2 (by omega) (by omega))⟩
      · have e : (decide (0 ≤ p.toInt) && decide (p.toInt ≤ 9)) = false := by simp [c2]
        rw [if_neg c2, e]
        exact ⟨-1, _, _, _, rfl, rfl, TU_n (KP_r _) 2⟩
  · rw [h1, if_pos rfl, if_pos rfl]
    exact ⟨-1, _, _, _, rfl, rfl, TU_n (KP_r _) 1⟩
/-! fewest -/
theorem vT_le {r : Nat → Int32} (h : ROK r) (sh : Int) : ∀ d : Nat, (d : Int) < rd r 8 → ∀ f : Nat, (f : Int) ≤ rd r 0 → vR r true sh d f = 1000000000 ∨ (0 ≤ vR r true sh d f ∧ vR r true sh d f ≤ d)
  | 0, _ => fun f _ => Or.inr ⟨Int.le_refl _, Int.le_refl _⟩
  | d + 1, hd => by
    obtain ⟨t0, t1, t2, t3, t4, t5, t8, t9⟩ := ROKb h
    intro f hf
    have ih := vT_le h sh d (by omega)
    have l := lg_c h (i := (rd r 8).toNat - 2 - d) (by omega)
    have hle := stepB_le (rd r 0).toNat (lg r ((rd r 8).toNat - 2 - d)) 0 1 (decide (0 < rp r ((rd r 8).toNat - 2 - d)) && !decide ((((rd r 8).toNat - 2 - d : Nat) : Int) = sh)) (vR r true sh d) f
    show cR _ 0 1 f (stepB (rd r 0).toNat (lg r ((rd r 8).toNat - 2 - d)) 0 1 (decide (0 < rp r ((rd r 8).toNat - 2 - d)) && !decide ((((rd r 8).toNat - 2 - d : Nat) : Int) = sh)) (vR r true sh d) f) = _ ∨ (0 ≤ cR _ 0 1 f (stepB (rd r 0).toNat (lg r ((rd r 8).toNat - 2 - d)) 0 1 (decide (0 < rp r ((rd r 8).toNat - 2 - d)) && !decide ((((rd r 8).toNat - 2 - d : Nat) : Int) = sh)) (vR r true sh d) f) ∧ cR _ 0 1 f (stepB (rd r 0).toNat (lg r ((rd r 8).toNat - 2 - d)) 0 1 (decide (0 < rp r ((rd r 8).toNat - 2 - d)) && !decide ((((rd r 8).toNat - 2 - d : Nat) : Int) = sh)) (vR r true sh d) f) ≤ _)
    generalize stepB (rd r 0).toNat (lg r ((rd r 8).toNat - 2 - d)) 0 1 (decide (0 < rp r ((rd r 8).toNat - 2 - d)) && !decide ((((rd r 8).toNat - 2 - d : Nat) : Int) = sh)) (vR r true sh d) f = n at hle ⊢
    unfold cR lM
    by_cases c : ((f + n : Nat) : Int) < lg r ((rd r 8).toNat - 2 - d)
    · rw [if_pos c, if_pos rfl]; exact Or.inl rfl
    · rw [if_neg c]
      rcases ih (f + n - (lg r ((rd r 8).toNat - 2 - d)).toNat) (by omega) with z | z
      · rw [if_pos z]; exact Or.inl rfl
      · by_cases c2 : vR r true sh d (f + n - (lg r ((rd r 8).toNat - 2 - d)).toNat) = 1000000000
        · rw [if_pos c2]; exact Or.inl rfl
        · rw [if_neg c2]
          right
          split <;> omega
theorem few_eq {r : Nat → Int32} (h : ROK r) : ∀ d : Nat, (d : Int) < rd r 8 → ∀ (f : Nat), (f : Int) ≤ rd r 0 → ∀ st : Nat, st ≤ 9 → (vR r true (-1) d f ≤ st ↔ wR r d st f ≠ 1000000000) := by
  obtain ⟨t0, t1, t2, t3, t4, t5, t8, t9⟩ := ROKb h
  intro d
  induction d with
  | zero =>
    intro _ f _ st _
    show (0 : Int) ≤ st ↔ (0 : Int) ≠ 1000000000
    omega
  | succ d ih =>
    intro hd f hf st hst
    have okv := vR_ok h true (-1) d (by omega)
    have okw := wR_ok h d (by omega)
    have l := lg_c h (i := (rd r 8).toNat - 2 - d) (by omega)
    have p := rp_b h (i := (rd r 8).toNat - 2 - d) (by omega)
    have same : ∀ x : Nat, (x : Int) ≤ rd r 0 → ∀ st : Nat, st ≤ 9 → (lM (lg r ((rd r 8).toNat - 2 - d)) (vR r true (-1) d) x ≤ st ↔ lM (lg r ((rd r 8).toNat - 2 - d)) (wR r d st) x ≠ 1000000000) := by
      intro x hx st hst
      unfold lM
      by_cases c : (x : Int) < lg r ((rd r 8).toNat - 2 - d)
      · rw [if_pos c, if_pos c]; omega
      · rw [if_neg c, if_neg c]
        exact ih (by omega) _ (by omega) st hst
    have op : (decide (0 < rp r ((rd r 8).toNat - 2 - d)) && !decide ((((rd r 8).toNat - 2 - d : Nat) : Int) = -1)) = decide (0 < rp r ((rd r 8).toNat - 2 - d)) := by
      have : ¬ ((((rd r 8).toNat - 2 - d : Nat) : Int) = -1) := by omega
      simp [this]
    have e1 : vR r true (-1) (d + 1) f = cR (lM (lg r ((rd r 8).toNat - 2 - d)) (vR r true (-1) d)) 0 1 f (minTo (cR (lM (lg r ((rd r 8).toNat - 2 - d)) (vR r true (-1) d)) 0 1 f) (if decide (0 < rp r ((rd r 8).toNat - 2 - d)) then (rd r 0).toNat - f else 0)) := by
      show stepV _ _ 0 1 _ _ _ = _
      rw [op]
      rfl
    have e2 : wR r (d + 1) st f = cW (lg r ((rd r 8).toNat - 2 - d)) (rp r ((rd r 8).toNat - 2 - d)) (rd r 2) (wR r d st) (wR r d (st - 1)) f (minTo (cW (lg r ((rd r 8).toNat - 2 - d)) (rp r ((rd r 8).toNat - 2 - d)) (rd r 2) (wR r d st) (wR r d (st - 1)) f) (stN (rd r 0).toNat (decide (0 < rp r ((rd r 8).toNat - 2 - d))) st f)) := rfl
    rw [e1, e2]
    have nv := minTo_le (cR (lM (lg r ((rd r 8).toNat - 2 - d)) (vR r true (-1) d)) 0 1 f) (if decide (0 < rp r ((rd r 8).toNat - 2 - d)) then (rd r 0).toNat - f else 0)
    have mv := minTo_min (cR (lM (lg r ((rd r 8).toNat - 2 - d)) (vR r true (-1) d)) 0 1 f) (if decide (0 < rp r ((rd r 8).toNat - 2 - d)) then (rd r 0).toNat - f else 0)
    have nw := minTo_le (cW (lg r ((rd r 8).toNat - 2 - d)) (rp r ((rd r 8).toNat - 2 - d)) (rd r 2) (wR r d st) (wR r d (st - 1)) f) (stN (rd r 0).toNat (decide (0 < rp r ((rd r 8).toNat - 2 - d))) st f)
    have mw := minTo_min (cW (lg r ((rd r 8).toNat - 2 - d)) (rp r ((rd r 8).toNat - 2 - d)) (rd r 2) (wR r d st) (wR r d (st - 1)) f) (stN (rd r 0).toNat (decide (0 < rp r ((rd r 8).toNat - 2 - d))) st f)
    generalize minTo (cR (lM (lg r ((rd r 8).toNat - 2 - d)) (vR r true (-1) d)) 0 1 f) (if decide (0 < rp r ((rd r 8).toNat - 2 - d)) then (rd r 0).toNat - f else 0) = n at nv mv ⊢
    generalize minTo (cW (lg r ((rd r 8).toNat - 2 - d)) (rp r ((rd r 8).toNat - 2 - d)) (rd r 2) (wR r d st) (wR r d (st - 1)) f) (stN (rd r 0).toNat (decide (0 < rp r ((rd r 8).toNat - 2 - d))) st f) = m at nw mw ⊢
    have sl := stN_le (rd r 0).toNat (decide (0 < rp r ((rd r 8).toNat - 2 - d))) st f
    have vl : (if decide (0 < rp r ((rd r 8).toNat - 2 - d)) then (rd r 0).toNat - f else 0) ≤ (rd r 0).toNat - f := by split <;> omega
    constructor
    · intro hv hw
      -- the best by stops is a candidate
      have hall : ∀ k, k ≤ stN (rd r 0).toNat (decide (0 < rp r ((rd r 8).toNat - 2 - d))) st f → cW (lg r ((rd r 8).toNat - 2 - d)) (rp r ((rd r 8).toNat - 2 - d)) (rd r 2) (wR r d st) (wR r d (st - 1)) f k = 1000000000 := by
        intro k hk
        have := mw k hk
        rcases cW_ok (T := (rd r 0).toNat) (by omega) (okw st) (okw (st - 1)) (l := lg r ((rd r 8).toNat - 2 - d)) (p := rp r ((rd r 8).toNat - 2 - d)) (s := rd r 2) (by omega) (by omega) (by omega) (by omega) (by omega) (f := f) (n := k) (by omega) with z | z <;> omega
      by_cases n0 : n = 0
      · subst n0
        have z := hall 0 (by omega)
        have z' : lM (lg r ((rd r 8).toNat - 2 - d)) (wR r d st) f = 1000000000 := z
        have hv' : lM (lg r ((rd r 8).toNat - 2 - d)) (vR r true (-1) d) f ≤ st := by
          unfold cR at hv
          rw [Nat.add_zero, if_pos rfl] at hv
          split at hv <;> omega
        exact absurd z' ((same f hf st hst).mp hv')
      · have hv' : lM (lg r ((rd r 8).toNat - 2 - d)) (vR r true (-1) d) (f + n) + 1 ≤ st := by
          unfold cR at hv
          rw [if_neg n0] at hv
          split at hv <;> omega
        have hnn := lM_ok (l := lg r ((rd r 8).toNat - 2 - d)) (by omega) okv (f + n) (by omega)
        have hst1 : 1 ≤ st := by omega
        have hp : 0 < rp r ((rd r 8).toNat - 2 - d) := by
          by_cases c : 0 < rp r ((rd r 8).toNat - 2 - d)
          · exact c
          · simp [c] at nv; omega
        have es : stN (rd r 0).toNat (decide (0 < rp r ((rd r 8).toNat - 2 - d))) st f = (rd r 0).toNat - f := by
          unfold stN
          rw [if_pos (by simp [hp]; omega)]
        have z := hall n (by omega)
        unfold cW at z
        rw [if_neg n0] at z
        have hs1 := (same (f + n) (by omega) (st - 1) (by omega)).mp (by omega)
        rcases cR_ok (T := (rd r 0).toNat) (p := rp r ((rd r 8).toNat - 2 - d)) (s := rd r 2) (by omega) (lM_ok (l := lg r ((rd r 8).toNat - 2 - d)) (by omega) (okw (st - 1))) (by omega) (by omega) (by omega) (by omega) (f := f) (n := n) (by omega) with q | q
        · exact hs1 q.2
        · omega
    · intro hw
      by_cases m0 : m = 0
      · subst m0
        have hw' : lM (lg r ((rd r 8).toNat - 2 - d)) (wR r d st) f ≠ 1000000000 := hw
        have := (same f hf st hst).mpr hw'
        have z := mv 0 (by omega)
        have : cR (lM (lg r ((rd r 8).toNat - 2 - d)) (vR r true (-1) d)) 0 1 f 0 ≤ st := by
          unfold cR
          rw [Nat.add_zero, if_pos rfl]
          split <;> omega
        omega
      · have hsp : 0 < st ∧ 0 < rp r ((rd r 8).toNat - 2 - d) := by
          unfold stN at nw
          by_cases c2 : (decide (0 < rp r ((rd r 8).toNat - 2 - d)) && decide (0 < st)) = true
          · rw [Bool.and_eq_true, decide_eq_true_eq, decide_eq_true_eq] at c2
            exact ⟨c2.2, c2.1⟩
          · rw [if_neg c2] at nw; omega
        unfold cW at hw
        rw [if_neg m0] at hw
        have hs1 : lM (lg r ((rd r 8).toNat - 2 - d)) (wR r d (st - 1)) (f + m) ≠ 1000000000 := by
          rcases cR_ok (T := (rd r 0).toNat) (p := rp r ((rd r 8).toNat - 2 - d)) (s := rd r 2) (by omega) (lM_ok (l := lg r ((rd r 8).toNat - 2 - d)) (by omega) (okw (st - 1))) (by omega) (by omega) (by omega) (by omega) (f := f) (n := m) (by omega) with q | q
          · exact absurd q.1 hw
          · exact q.2.2.1
        have hv := (same (f + m) (by omega) (st - 1) (by omega)).mpr hs1
        have z := mv m (by rw [if_pos (by simp [hsp.2])]; omega)
        have : cR (lM (lg r ((rd r 8).toNat - 2 - d)) (vR r true (-1) d)) 0 1 f m ≤ st := by
          unfold cR
          rw [if_neg m0]
          split <;> omega
        omega
theorem few_go {F : Nat} {sRo sPl sPb : MS} {r : Nat → Int32} (hR : RR sRo r) (h : ROK r) (hI : rowsA (rd r 0).toNat (fun st x => cM (wR r ((rd r 8).toNat - 1) st x)) sPb) : ∀ (d k n : Nat), k + d = 10 → d < n → (∀ u : Nat, u < k → ¬ vR r true (-1) ((rd r 8).toNat - 1) (rd r 1).toNat ≤ u) → f_X6_fewestStops_7 F sPl sRo n (Int32.ofInt (k : Int)) sPb = some (Int32.ofInt (ans (vR r true (-1) ((rd r 8).toNat - 1) (rd r 1).toNat)), sPb) := by
  obtain ⟨q0, q1, q2, q3, q4, q5, q8, q9⟩ := RRb hR
  obtain ⟨t0, t1, t2, t3, t4, t5, t8, t9⟩ := ROKb h
  dsimp only [rowsA] at hI
  have hv := vT_le h (-1) ((rd r 8).toNat - 1) (by omega) (rd r 1).toNat (by omega)
  intro d
  induction d with
  | zero =>
    intro k n hk hn hu
    cases n with
    | zero => omega
    | succ n =>
      have := hu 9 (by omega)
      have e : vR r true (-1) ((rd r 8).toNat - 1) (rd r 1).toNat = 1000000000 := by omega
      rw [f_X6_fewestStops_7, e]
      simp (disch := omega) only [z_0, z_1, z_2, z_3, z_4, z_5, z_6, z_7, z_8, z_9, z_10, z_11, z_12, z_14, z_18, z_20, z_22, z_24, z_32, z_38, z_40, z_41, z_44, z_48, z_49, z_57, z_59, z_60, z_63, z_65, z_74, z_75, z_81, z_97, z_99, z_104, z_115, z_119, z_122, z_200, z_209, z_210, z_219, z_228, z_255, z_300, z_369, z_999, z_65537, z_268435456, z_1000000000, n_nat, n_add, n_sub, n_mul, n_neg, n_lt, n_le, n_eq, n_ix, n_gd, n_nz, lz_t, bd_some, tn, Int.reduceToNat, tn_1, if_pos, if_neg, if_true, if_false, sI_a, sI_b, sL_a, sL_b, sL_c, wA_a, wA_b, wA_c, wA_d, wB_a, wB_b, wB_c, wB_d, sA_w, sB_w, uN_s, uN_n, up_s, up_n, ul_s, ul_n, p_fst, p_snd, ans]
  | succ d ih =>
    intro k n hk hn hu
    cases n with
    | zero => omega
    | succ n =>
      have cell := hI k (by omega) (rd r 1).toNat (by omega)
      have fe := few_eq h ((rd r 8).toNat - 1) (by omega) (rd r 1).toNat (by omega) k (by omega)
      have ok := wR_ok h ((rd r 8).toNat - 1) (by omega) k (rd r 1).toNat (by omega)
      rw [f_X6_fewestStops_7]
      by_cases c : wR r ((rd r 8).toNat - 1) k (rd r 1).toNat = 1000000000
      · have nx := ih (k + 1) n (by omega) (by omega) (by
          intro u hu1
          by_cases e : u = k
          · subst e
            intro q
            exact (fe.mp q) c
          · exact hu u (by omega))
        simp (disch := omega) only [z_0, z_1, z_2, z_3, z_4, z_5, z_6, z_7, z_8, z_9, z_10, z_11, z_12, z_14, z_18, z_20, z_22, z_24, z_32, z_38, z_40, z_41, z_44, z_48, z_49, z_57, z_59, z_60, z_63, z_65, z_74, z_75, z_81, z_97, z_99, z_104, z_115, z_119, z_122, z_200, z_209, z_210, z_219, z_228, z_255, z_300, z_369, z_999, z_65537, z_268435456, z_1000000000, n_nat, n_add, n_sub, n_mul, n_neg, n_lt, n_le, n_eq, n_ix, n_gd, n_nz, lz_t, bd_some, tn, Int.reduceToNat, tn_1, if_pos, if_neg, if_true, if_false, sI_a, sI_b, sL_a, sL_b, sL_c, wA_a, wA_b, wA_c, wA_d, wB_a, wB_b, wB_c, wB_d, sA_w, sB_w, uN_s, uN_n, up_s, up_n, ul_s, ul_n, p_fst, p_snd, y_0, y_1, y_2, y_10, y_20, y_1099511627776, m_add, m_sub, m_mul, m_neg, m_lt, m_le, m_eq, m_of, m_nz, m_to, c_gt, c_ge, c_lt, c_le, c_eq, q1, cell, c, cM]
        exact nx
      · have hle := fe.mpr c
        have e : vR r true (-1) ((rd r 8).toNat - 1) (rd r 1).toNat = k := by
          by_cases k0 : k = 0
          · omega
          · have := hu (k - 1) (by omega); omega
        have e2 : cM (wR r ((rd r 8).toNat - 1) k (rd r 1).toNat) = wR r ((rd r 8).toNat - 1) k (rd r 1).toNat := by
          unfold cM
          rw [if_neg c]
        have e3 : ans (vR r true (-1) ((rd r 8).toNat - 1) (rd r 1).toNat) = k := by
          unfold ans
          rw [if_neg (by omega), e]
        rw [e3]
        simp (disch := omega) only [z_0, z_1, z_2, z_3, z_4, z_5, z_6, z_7, z_8, z_9, z_10, z_11, z_12, z_14, z_18, z_20, z_22, z_24, z_32, z_38, z_40, z_41, z_44, z_48, z_49, z_57, z_59, z_60, z_63, z_65, z_74, z_75, z_81, z_97, z_99, z_104, z_115, z_119, z_122, z_200, z_209, z_210, z_219, z_228, z_255, z_300, z_369, z_999, z_65537, z_268435456, z_1000000000, n_nat, n_add, n_sub, n_mul, n_neg, n_lt, n_le, n_eq, n_ix, n_gd, n_nz, lz_t, bd_some, tn, Int.reduceToNat, tn_1, if_pos, if_neg, if_true, if_false, sI_a, sI_b, sL_a, sL_b, sL_c, wA_a, wA_b, wA_c, wA_d, wB_a, wB_b, wB_c, wB_d, sA_w, sB_w, uN_s, uN_n, up_s, up_n, ul_s, ul_n, p_fst, p_snd, y_0, y_1, y_2, y_10, y_20, y_1099511627776, m_add, m_sub, m_mul, m_neg, m_lt, m_le, m_eq, m_of, m_nz, m_to, c_gt, c_ge, c_lt, c_le, c_eq, q1, cell, e2]
theorem P_fewest {F : Nat} (hF : 100 ≤ F) {sMn sRo sPl sPb sMo : MS} (hR : RR sRo (sMo.2.2.1 15)) (H : HR (sMo.2.2.1 15) (sMo.1 14)) :
    ∃ v sMn' sPb' sMo', f_X10_fewest F sPl sRo sMn sPb = some (v, sMn', sPb') ∧ f_X11_fewest F sMo = some (v, sMo') ∧ TU sMn sMo sMn' sMo' := by
  unfold f_X10_fewest f_X11_fewest
  rw [X9_isTold hR H, bd_some, X11_good', bd_some, gQ_14]
  rcases H with ⟨h1, h2⟩ | ⟨h1, h2⟩
  · obtain ⟨t0, t1, t2, t3, t4, t5, t8, t9⟩ := ROKb h2
    obtain ⟨sb, b1, b2⟩ := bys_e (F := F) hF (sPl := sPl) hR h2 sPb
    obtain ⟨s', l1, l2, l3⟩ := lay_e (F := F) hF h2 true (-1) (by omega) (by omega) (gQ sMo) rfl
    have lf := leastFrom_e (F := F) h2 l3 (x := (rd (sMo.2.2.1 15) 1).toNat) (by omega)
    have r1 : s'.2.2.1 15 1 = Int32.ofInt (((rd (sMo.2.2.1 15) 1).toNat : Nat) : Int) := by
      rw [l2.2.2.2 15 (by omega) (by omega), gQ_15, rd_e (sMo.2.2.1 15) 1]
      congr 1
      omega
    have l1' : f_X11_layPlans F 1 (-1) (gQ sMo) = some s' := l1
    have fg := few_go (F := F) (sPl := sPl) hR h2 b2 10 0 F (by omega) (by omega) (fun u hu => by omega)
    have fg' : f_X6_fewestStops_7 F sPl sRo F 0 sb = _ := fg
    unfold f_X6_fewestStops
    rw [h1, if_neg (by decide), if_neg (by decide), b1, bd_some, fg', bd_some, X10_accept, bd_some, l1', bd_some, gd_t (by decide), lz_t]
    show ∃ v sMn' sPb' sMo', _ ∧ (bd (f_X11_leastFrom F s' (s'.2.2.1 15 1)) fun o6 => some (o6, s')) = some (v, sMo') ∧ _
    rw [r1, lf, bd_some]
    exact ⟨_, _, _, _, rfl, rfl, TU_k (KP_f l2 (by omega) (by omega))⟩
  · rw [h1, if_pos rfl, if_pos rfl]
    exact ⟨-1, _, _, _, rfl, rfl, TU_n (KP_r _) 1⟩
