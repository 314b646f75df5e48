/-! calls: far, loads, depot, convoy -/
theorem i_ex (p : Int32) : ∃ z : Int, -2147483648 ≤ z ∧ z < 2147483648 ∧ p = Int32.ofInt z := ⟨p.toInt, (i_rng p).1, (i_rng p).2, n_out p⟩
theorem rT {sRo : MS} {r : Nat → Int32} (hR : RR sRo r) (h : ROK r) : ∃ T : Nat, T ≤ 40 ∧ sRo.1 0 = Int32.ofInt (T : Int) ∧ r 0 = Int32.ofInt (T : Int) := by
  obtain ⟨q0, -⟩ := RRb hR
  obtain ⟨t0, -⟩ := ROKb h
  refine ⟨(rd r 0).toNat, by omega, ?_, ?_⟩
  · rw [q0]; congr 1; omega
  · rw [rd_e r 0]; congr 1; omega
theorem accF' {F : Nat} {s : MS} {a b : Int64} (h0 : s.2.1 0 = a) (h1 : s.2.1 1 = b) (p : Int32) (sMn : MS) : f_X10_acceptFraction F s p sMn = some (if p = 0 then a else b, sI sMn 11 0) := by
  unfold f_X10_acceptFraction
  rw [lz_t, h0, h1]
  by_cases c : p = 0
  · rw [if_pos c, if_pos c]
  · rw [if_neg c, if_neg c]
theorem hd_1 (hm : Int32) : hd hm 1 = if hm = 0 then 1 else 2 := by
  unfold hd
  split <;> rfl
/-- layFar is the same fraction -/
theorem lf_e {F : Nat} (hF : 300 ≤ F) {T : Nat} (hT : T ≤ 40) (hm : Int32) {n : Nat} (hn : n ≤ 12) (s : MS) (hr : s.2.2.1 15 0 = Int32.ofInt (T : Int)) :
    ∃ s', f_X11_layFar F (Int32.ofInt (n : Int)) hm s = some s' ∧ s'.2.1 31 = Int64.ofInt (((fra T 2 n (hd hm 1) 0 1).1 : Nat) : Int) ∧ s'.2.1 32 = Int64.ofInt (((fra T 2 n (hd hm 1) 0 1).2 : Nat) : Int) ∧ KP s s' := by
  unfold f_X11_layFar f_X11_layFar_10 f_X11_layFar_25
  by_cases c : hm = 0
  · have e1 : hd hm 1 = 1 := by rw [hd_1, if_pos c]
    rw [e1, if_pos c, if_pos c]
    by_cases n0 : n = 0
    · subst n0
      refine ⟨sL (sL s 31 0) 32 1, ?_, ?_, ?_, F2_KP (a := 31) (b := 32) ⟨rfl, rfl, ?_⟩⟩
      · unfold f_X11_layParts
        cases F with
        | zero => omega
        | succ F =>
          rw [lz_t, lz_t, f_X11_layParts_13]
          simp (disch := omega) only [z_0, z_1, z_2, z_3, z_4, z_5, z_6, z_7, z_8, z_9, z_10, z_11, z_12, z_14, z_18, z_20, z_22, z_24, z_32, z_38, z_40, z_41, z_44, z_48, z_49, z_57, z_59, z_60, z_63, z_65, z_74, z_75, z_81, z_97, z_99, z_104, z_115, z_119, z_122, z_200, z_209, z_210, z_219, z_228, z_255, z_300, z_369, z_999, z_65537, z_268435456, z_1000000000, n_nat, n_add, n_sub, n_mul, n_neg, n_lt, n_le, n_eq, n_ix, n_gd, n_nz, lz_t, bd_some, tn, Int.reduceToNat, tn_1, if_pos, if_neg, if_true, if_false]
      · simp (disch := omega) only [sI_a, sI_b, sL_a, sL_b, sL_c, wA_a, wA_b, wA_c, wA_d, wB_a, wB_b, wB_c, wB_d, sA_w, sB_w, uN_s, uN_n, up_s, up_n, ul_s, ul_n, p_fst, p_snd]; rfl
      · simp (disch := omega) only [sI_a, sI_b, sL_a, sL_b, sL_c, wA_a, wA_b, wA_c, wA_d, wB_a, wB_b, wB_c, wB_d, sA_w, sB_w, uN_s, uN_n, up_s, up_n, ul_s, ul_n, p_fst, p_snd]; rfl
      · intro k k1 k2
        simp (disch := omega) only [sI_a, sI_b, sL_a, sL_b, sL_c, wA_a, wA_b, wA_c, wA_d, wB_a, wB_b, wB_c, wB_d, sA_w, sB_w, uN_s, uN_n, up_s, up_n, ul_s, ul_n, p_fst, p_snd]
    · obtain ⟨s', z1, z2, z3, z4⟩ := lp_e (F := F) hF hT (to := 2 * n - 1) (step := 2) (n := n) (d := 1) (by omega) (by omega) (by omega) hn (by omega) (by omega) (by omega) (prd_b2 1 (by omega) n (by omega) (by omega)) s hr
      refine ⟨s', ?_, z2, z3, z4⟩
      have e : (2 : Int) * (n : Int) - 1 = ((2 * n - 1 : Nat) : Int) := by omega
      rw [← e] at z1
      simp (disch := omega) only [z_0, z_1, z_2, z_3, z_4, z_5, z_6, z_7, z_8, z_9, z_10, z_11, z_12, z_14, z_18, z_20, z_22, z_24, z_32, z_38, z_40, z_41, z_44, z_48, z_49, z_57, z_59, z_60, z_63, z_65, z_74, z_75, z_81, z_97, z_99, z_104, z_115, z_119, z_122, z_200, z_209, z_210, z_219, z_228, z_255, z_300, z_369, z_999, z_65537, z_268435456, z_1000000000, n_nat, n_add, n_sub, n_mul, n_neg, n_lt, n_le, n_eq, n_ix, n_gd, n_nz, lz_t, bd_some, tn, Int.reduceToNat, tn_1, if_pos, if_neg, if_true, if_false]
      have z1' : f_X11_layParts F (Int32.ofInt 1) (Int32.ofInt (2 * (n : Int) - 1)) (Int32.ofInt 2) s = some s' := z1
      rw [z1', bd_some]
  · have e1 : hd hm 1 = 2 := by rw [hd_1, if_neg c]
    rw [e1, if_neg c, if_neg c]
    obtain ⟨s', z1, z2, z3, z4⟩ := lp_e (F := F) hF hT (to := 2 * n) (step := 2) (n := n) (d := 2) (by omega) (by omega) (by omega) hn (by omega) (by omega) (by omega) (prd_b2 2 (by omega) n (by omega) (by omega)) s hr
    refine ⟨s', ?_, z2, z3, z4⟩
    have e : (2 : Int) * (n : Int) = ((2 * n : Nat) : Int) := by omega
    rw [← e] at z1
    simp (disch := omega) only [z_0, z_1, z_2, z_3, z_4, z_5, z_6, z_7, z_8, z_9, z_10, z_11, z_12, z_14, z_18, z_20, z_22, z_24, z_32, z_38, z_40, z_41, z_44, z_48, z_49, z_57, z_59, z_60, z_63, z_65, z_74, z_75, z_81, z_97, z_99, z_104, z_115, z_119, z_122, z_200, z_209, z_210, z_219, z_228, z_255, z_300, z_369, z_999, z_65537, z_268435456, z_1000000000, n_nat, n_add, n_sub, n_mul, n_neg, n_lt, n_le, n_eq, n_ix, n_gd, n_nz, lz_t, bd_some, tn, Int.reduceToNat, tn_1, if_pos, if_neg, if_true, if_false]
    have z1' : f_X11_layParts F (Int32.ofInt 2) (Int32.ofInt (2 * (n : Int))) (Int32.ofInt 2) s = some s' := z1
    rw [z1', bd_some]
theorem P_far {F : Nat} (hF : 300 ≤ F) {sMn sRo sFr sMo : MS} (hR : RR sRo (sMo.2.2.1 15)) (H : HR (sMo.2.2.1 15) (sMo.1 14)) (p hm q : Int32) :
    ∃ v sMn' sFr' sMo', f_X10_far F sRo p hm q sMn sFr = some (v, sMn', sFr') ∧ f_X11_far F p hm q sMo = some (v, sMo') ∧ TU sMn sMo sMn' sMo' := by
  unfold f_X10_far f_X11_far f_X10_far_28
  rw [X9_isTold hR H, bd_some, X11_good', bd_some, gQ_14]
  rcases H with ⟨h1, h2⟩ | ⟨h1, h2⟩
  · obtain ⟨T, t1, t2, t3⟩ := rT hR h2
    obtain ⟨z, z1, z2, rfl⟩ := i_ex p
    rw [h1, if_neg (c := (1 : Int32) = 0) (by decide), if_neg (c := (1 : Int32) = 0) (by decide)]
    by_cases c1 : 1 ≤ z ∧ z ≤ 12
    · obtain ⟨n, rfl⟩ := toN (show 0 ≤ z by omega)
      obtain ⟨s1, a1, a2, a3⟩ := ap_e (F := F) hF (sMn := sMn) t1 t2 hm (fr := 1) (to := n) (by omega) (by omega) (by omega) sFr
      obtain ⟨s2, b1, b2, b3, b4⟩ := lf_e (F := F) hF t1 hm (n := n) (by omega) (gQ sMo) t3
      rw [Nat.add_sub_cancel] at a2 a3
      have a1' : f_X10_addParts F sMn sRo hm (Int32.ofInt 1) (Int32.ofInt (n : Int)) sFr = some s1 := a1
      refine ⟨if q = 0 then s1.2.1 0 else s1.2.1 1, sI sMn 11 0, s1, s2, ?_, ?_, TU_k b4⟩
      · simp (disch := omega) only [z_0, z_1, z_2, z_3, z_4, z_5, z_6, z_7, z_8, z_9, z_10, z_11, z_12, z_14, z_18, z_20, z_22, z_24, z_32, z_38, z_40, z_41, z_44, z_48, z_49, z_57, z_59, z_60, z_63, z_65, z_74, z_75, z_81, z_97, z_99, z_104, z_115, z_119, z_122, z_200, z_209, z_210, z_219, z_228, z_255, z_300, z_369, z_999, z_65537, z_268435456, z_1000000000, n_nat, n_add, n_sub, n_mul, n_neg, n_lt, n_le, n_eq, n_ix, n_gd, n_nz, lz_t, bd_some, tn, Int.reduceToNat, tn_1, if_pos, if_neg, if_true, if_false, a1', accF' rfl rfl]
      · simp (disch := omega) only [z_0, z_1, z_2, z_3, z_4, z_5, z_6, z_7, z_8, z_9, z_10, z_11, z_12, z_14, z_18, z_20, z_22, z_24, z_32, z_38, z_40, z_41, z_44, z_48, z_49, z_57, z_59, z_60, z_63, z_65, z_74, z_75, z_81, z_97, z_99, z_104, z_115, z_119, z_122, z_200, z_209, z_210, z_219, z_228, z_255, z_300, z_369, z_999, z_65537, z_268435456, z_1000000000, n_nat, n_add, n_sub, n_mul, n_neg, n_lt, n_le, n_eq, n_ix, n_gd, n_nz, lz_t, bd_some, tn, Int.reduceToNat, tn_1, if_pos, if_neg, if_true, if_false, f_X11_in, b1]
        rw [a2, a3, b2, b3]
        by_cases cq : q = Int32.ofInt 0
        · rw [if_pos cq, if_pos cq]
        · rw [if_neg cq, if_neg cq]
    · refine ⟨-1, sI sMn 11 2, sFr, sI (gQ sMo) 11 2, ?_, ?_, TU_n (KP_r _) 2⟩
      · by_cases c2 : z < 1
        · simp (disch := omega) only [z_0, z_1, z_2, z_3, z_4, z_5, z_6, z_7, z_8, z_9, z_10, z_11, z_12, z_14, z_18, z_20, z_22, z_24, z_32, z_38, z_40, z_41, z_44, z_48, z_49, z_57, z_59, z_60, z_63, z_65, z_74, z_75, z_81, z_97, z_99, z_104, z_115, z_119, z_122, z_200, z_209, z_210, z_219, z_228, z_255, z_300, z_369, z_999, z_65537, z_268435456, z_1000000000, n_nat, n_add, n_sub, n_mul, n_neg, n_lt, n_le, n_eq, n_ix, n_gd, n_nz, lz_t, bd_some, tn, Int.reduceToNat, tn_1, if_pos, if_neg, if_true, if_false, X10_refuse]; rfl
        · simp (disch := omega) only [z_0, z_1, z_2, z_3, z_4, z_5, z_6, z_7, z_8, z_9, z_10, z_11, z_12, z_14, z_18, z_20, z_22, z_24, z_32, z_38, z_40, z_41, z_44, z_48, z_49, z_57, z_59, z_60, z_63, z_65, z_74, z_75, z_81, z_97, z_99, z_104, z_115, z_119, z_122, z_200, z_209, z_210, z_219, z_228, z_255, z_300, z_369, z_999, z_65537, z_268435456, z_1000000000, n_nat, n_add, n_sub, n_mul, n_neg, n_lt, n_le, n_eq, n_ix, n_gd, n_nz, lz_t, bd_some, tn, Int.reduceToNat, tn_1, if_pos, if_neg, if_true, if_false, X10_refuse]; rfl
      · by_cases c2 : z < 1
        · simp (disch := omega) only [z_0, z_1, z_2, z_3, z_4, z_5, z_6, z_7, z_8, z_9, z_10, z_11, z_12, z_14, z_18, z_20, z_22, z_24, z_32, z_38, z_40, z_41, z_44, z_48, z_49, z_57, z_59, z_60, z_63, z_65, z_74, z_75, z_81, z_97, z_99, z_104, z_115, z_119, z_122, z_200, z_209, z_210, z_219, z_228, z_255, z_300, z_369, z_999, z_65537, z_268435456, z_1000000000, n_nat, n_add, n_sub, n_mul, n_neg, n_lt, n_le, n_eq, n_ix, n_gd, n_nz, lz_t, bd_some, tn, Int.reduceToNat, tn_1, if_pos, if_neg, if_true, if_false, f_X11_in, X11_no]; rfl
        · simp (disch := omega) only [z_0, z_1, z_2, z_3, z_4, z_5, z_6, z_7, z_8, z_9, z_10, z_11, z_12, z_14, z_18, z_20, z_22, z_24, z_32, z_38, z_40, z_41, z_44, z_48, z_49, z_57, z_59, z_60, z_63, z_65, z_74, z_75, z_81, z_97, z_99, z_104, z_115, z_119, z_122, z_200, z_209, z_210, z_219, z_228, z_255, z_300, z_369, z_999, z_65537, z_268435456, z_1000000000, n_nat, n_add, n_sub, n_mul, n_neg, n_lt, n_le, n_eq, n_ix, n_gd, n_nz, lz_t, bd_some, tn, Int.reduceToNat, tn_1, if_pos, if_neg, if_true, if_false, f_X11_in, X11_no]; rfl
  · rw [h1, if_pos rfl, if_pos rfl]
    exact ⟨_, _, _, _, rfl, rfl, TU_n (KP_r _) 1⟩
theorem ld_go {F : Nat} (hF : 300 ≤ F) {sMn sRo : MS} {T : Nat} (t1 : T ≤ 40) (t2 : sRo.1 0 = Int32.ofInt (T : Int)) (hm : Int32) {m : Int} (m1 : 0 ≤ m) (m2 : m ≤ 999) : ∀ (d k n n2 : Nat) (sFr s : MS), k + d = 13 → d < n → d < n2 → s.2.2.1 15 0 = Int32.ofInt (T : Int) →
    ∃ v sFr' s', f_X10_fewestLoads_2 F sMn sRo (Int32.ofInt m) hm n (Int32.ofInt (k : Int)) sFr = some (v, sFr') ∧ f_X11_loads_36 F (Int32.ofInt m) hm n2 (Int32.ofInt (k : Int)) s = some (v, s') ∧ KP s s' := by
  intro d
  induction d with
  | zero =>
    intro k n n2 sFr s hk hn hn2 hr
    cases n with
    | zero => omega
    | succ n =>
      cases n2 with
      | zero => omega
      | succ n2 =>
        refine ⟨Int32.ofInt (-2), sFr, s, ?_, ?_, KP_r s⟩
        · rw [f_X10_fewestLoads_2]
          simp (disch := omega) only [z_0, z_1, z_2, z_3, z_4, z_5, z_6, z_7, z_8, z_9, z_10, z_11, z_12, z_14, z_18, z_20, z_22, z_24, z_32, z_38, z_40, z_41, z_44, z_48, z_49, z_57, z_59, z_60, z_63, z_65, z_74, z_75, z_81, z_97, z_99, z_104, z_115, z_119, z_122, z_200, z_209, z_210, z_219, z_228, z_255, z_300, z_369, z_999, z_65537, z_268435456, z_1000000000, n_nat, n_add, n_sub, n_mul, n_neg, n_lt, n_le, n_eq, n_ix, n_gd, n_nz, lz_t, bd_some, tn, Int.reduceToNat, tn_1, if_pos, if_neg, if_true, if_false]
        · rw [f_X11_loads_36]
          simp (disch := omega) only [z_0, z_1, z_2, z_3, z_4, z_5, z_6, z_7, z_8, z_9, z_10, z_11, z_12, z_14, z_18, z_20, z_22, z_24, z_32, z_38, z_40, z_41, z_44, z_48, z_49, z_57, z_59, z_60, z_63, z_65, z_74, z_75, z_81, z_97, z_99, z_104, z_115, z_119, z_122, z_200, z_209, z_210, z_219, z_228, z_255, z_300, z_369, z_999, z_65537, z_268435456, z_1000000000, n_nat, n_add, n_sub, n_mul, n_neg, n_lt, n_le, n_eq, n_ix, n_gd, n_nz, lz_t, bd_some, tn, Int.reduceToNat, tn_1, if_pos, if_neg, if_true, if_false]
  | succ d ih =>
    intro k n n2 sFr s hk hn hn2 hr
    cases n with
    | zero => omega
    | succ n =>
      cases n2 with
      | zero => omega
      | succ n2 =>
        obtain ⟨s1, a1, a2, a3⟩ := ap_e (F := F) hF (sMn := sMn) t1 t2 hm (fr := 1) (to := k) (by omega) (by omega) (by omega) sFr
        obtain ⟨s2, b1, b2, b3, b4⟩ := lf_e (F := F) hF t1 hm (n := k) (by omega) s hr
        rw [Nat.add_sub_cancel] at a2 a3
        have a1' : f_X10_addParts F sMn sRo hm (Int32.ofInt 1) (Int32.ofInt (k : Int)) sFr = some s1 := a1
        have hr2 : s2.2.2.1 15 0 = Int32.ofInt (T : Int) := by rw [b4.2 15 (by omega)]; exact hr
        rw [f_X10_fewestLoads_2, f_X11_loads_36]
        by_cases c : lg_cmp (s1.2.1 0) (Int64.ofInt m * s1.2.1 1) < Int32.ofInt 0
        · obtain ⟨v, c1, c2, e1, e2, e3⟩ := ih (k + 1) n n2 s1 s2 (by omega) (by omega) (by omega) hr2
          refine ⟨v, c1, c2, ?_, ?_, KP_t b4 e3⟩
          · simp (disch := omega) only [z_0, z_1, z_2, z_3, z_4, z_5, z_6, z_7, z_8, z_9, z_10, z_11, z_12, z_14, z_18, z_20, z_22, z_24, z_32, z_38, z_40, z_41, z_44, z_48, z_49, z_57, z_59, z_60, z_63, z_65, z_74, z_75, z_81, z_97, z_99, z_104, z_115, z_119, z_122, z_200, z_209, z_210, z_219, z_228, z_255, z_300, z_369, z_999, z_65537, z_268435456, z_1000000000, n_lt, n_add, lz_t, bd_some, if_neg, m_of, a1', if_pos c]
            exact e1
          · rw [a2, a3, ← b2, ← b3] at c
            simp (disch := omega) only [z_0, z_1, z_2, z_3, z_4, z_5, z_6, z_7, z_8, z_9, z_10, z_11, z_12, z_14, z_18, z_20, z_22, z_24, z_32, z_38, z_40, z_41, z_44, z_48, z_49, z_57, z_59, z_60, z_63, z_65, z_74, z_75, z_81, z_97, z_99, z_104, z_115, z_119, z_122, z_200, z_209, z_210, z_219, z_228, z_255, z_300, z_369, z_999, z_65537, z_268435456, z_1000000000, n_lt, n_add, lz_t, bd_some, if_neg, m_of, b1, if_pos c]
            exact e2
        · refine ⟨Int32.ofInt (k : Int), s1, s2, ?_, ?_, b4⟩
          · simp (disch := omega) only [z_0, z_1, z_2, z_3, z_4, z_5, z_6, z_7, z_8, z_9, z_10, z_11, z_12, z_14, z_18, z_20, z_22, z_24, z_32, z_38, z_40, z_41, z_44, z_48, z_49, z_57, z_59, z_60, z_63, z_65, z_74, z_75, z_81, z_97, z_99, z_104, z_115, z_119, z_122, z_200, z_209, z_210, z_219, z_228, z_255, z_300, z_369, z_999, z_65537, z_268435456, z_1000000000, n_lt, n_add, lz_t, bd_some, if_neg, m_of, a1', if_neg c]
          · rw [a2, a3, ← b2, ← b3] at c
            simp (disch := omega) only [z_0, z_1, z_2, z_3, z_4, z_5, z_6, z_7, z_8, z_9, z_10, z_11, z_12, z_14, z_18, z_20, z_22, z_24, z_32, z_38, z_40, z_41, z_44, z_48, z_49, z_57, z_59, z_60, z_63, z_65, z_74, z_75, z_81, z_97, z_99, z_104, z_115, z_119, z_122, z_200, z_209, z_210, z_219, z_228, z_255, z_300, z_369, z_999, z_65537, z_268435456, z_1000000000, n_lt, n_add, lz_t, bd_some, if_neg, m_of, b1, if_neg c]
theorem P_loads {F : Nat} (hF : 300 ≤ F) {sMn sRo sFr sMo : MS} (hR : RR sRo (sMo.2.2.1 15)) (H : HR (sMo.2.2.1 15) (sMo.1 14)) (p hm : Int32) :
    ∃ v sMn' sFr' sMo', f_X10_loads F sRo p hm sMn sFr = some (v, sMn', sFr') ∧ f_X11_loads F p hm sMo = some (v, sMo') ∧ TU sMn sMo sMn' sMo' := by
  unfold f_X10_loads f_X11_loads f_X10_loads_27 f_X10_fewestLoads
  rw [X9_isTold hR H, bd_some, X11_good', bd_some, gQ_14]
  rcases H with ⟨h1, h2⟩ | ⟨h1, h2⟩
  · obtain ⟨T, t1, t2, t3⟩ := rT hR h2
    obtain ⟨z, z1, z2, rfl⟩ := i_ex p
    rw [h1, if_neg (c := (1 : Int32) = 0) (by decide), if_neg (c := (1 : Int32) = 0) (by decide)]
    by_cases c1 : 0 ≤ z ∧ z ≤ 999
    · obtain ⟨v, c1', c2, e1, e2, e3⟩ := ld_go (F := F) hF (sMn := sMn) t1 t2 hm c1.1 c1.2 13 0 F F sFr (gQ sMo) (by omega) (by omega) (by omega) t3
      have e1' : f_X10_fewestLoads_2 F sMn sRo (Int32.ofInt z) hm F (Int32.ofInt 0) sFr = _ := e1
      have e2' : f_X11_loads_36 F (Int32.ofInt z) hm F (Int32.ofInt 0) (gQ sMo) = _ := e2
      refine ⟨v, sI sMn 11 0, c1', c2, ?_, ?_, TU_k e3⟩
      · simp (disch := omega) only [z_0, z_1, z_2, z_3, z_4, z_5, z_6, z_7, z_8, z_9, z_10, z_11, z_12, z_14, z_18, z_20, z_22, z_24, z_32, z_38, z_40, z_41, z_44, z_48, z_49, z_57, z_59, z_60, z_63, z_65, z_74, z_75, z_81, z_97, z_99, z_104, z_115, z_119, z_122, z_200, z_209, z_210, z_219, z_228, z_255, z_300, z_369, z_999, z_65537, z_268435456, z_1000000000, n_nat, n_add, n_sub, n_mul, n_neg, n_lt, n_le, n_eq, n_ix, n_gd, n_nz, lz_t, bd_some, tn, Int.reduceToNat, tn_1, if_pos, if_neg, if_true, if_false, e1', X10_accept]
      · simp (disch := omega) only [z_0, z_1, z_2, z_3, z_4, z_5, z_6, z_7, z_8, z_9, z_10, z_11, z_12, z_14, z_18, z_20, z_22, z_24, z_32, z_38, z_40, z_41, z_44, z_48, z_49, z_57, z_59, z_60, z_63, z_65, z_74, z_75, z_81, z_97, z_99, z_104, z_115, z_119, z_122, z_200, z_209, z_210, z_219, z_228, z_255, z_300, z_369, z_999, z_65537, z_268435456, z_1000000000, n_nat, n_add, n_sub, n_mul, n_neg, n_lt, n_le, n_eq, n_ix, n_gd, n_nz, lz_t, bd_some, tn, Int.reduceToNat, tn_1, if_pos, if_neg, if_true, if_false, f_X11_in, e2']
    · refine ⟨-1, sI sMn 11 2, sFr, sI (gQ sMo) 11 2, ?_, ?_, TU_n (KP_r _) 2⟩
      · by_cases c2 : z < 0
        · simp (disch := omega) only [z_0, z_1, z_2, z_3, z_4, z_5, z_6, z_7, z_8, z_9, z_10, z_11, z_12, z_14, z_18, z_20, z_22, z_24, z_32, z_38, z_40, z_41, z_44, z_48, z_49, z_57, z_59, z_60, z_63, z_65, z_74, z_75, z_81, z_97, z_99, z_104, z_115, z_119, z_122, z_200, z_209, z_210, z_219, z_228, z_255, z_300, z_369, z_999, z_65537, z_268435456, z_1000000000, n_nat, n_add, n_sub, n_mul, n_neg, n_lt, n_le, n_eq, n_ix, n_gd, n_nz, lz_t, bd_some, tn, Int.reduceToNat, tn_1, if_pos, if_neg, if_true, if_false, X10_refuse]
        · simp (disch := omega) only [z_0, z_1, z_2, z_3, z_4, z_5, z_6, z_7, z_8, z_9, z_10, z_11, z_12, z_14, z_18, z_20, z_22, z_24, z_32, z_38, z_40, z_41, z_44, z_48, z_49, z_57, z_59, z_60, z_63, z_65, z_74, z_75, z_81, z_97, z_99, z_104, z_115, z_119, z_122, z_200, z_209, z_210, z_219, z_228, z_255, z_300, z_369, z_999, z_65537, z_268435456, z_1000000000, n_nat, n_add, n_sub, n_mul, n_neg, n_lt, n_le, n_eq, n_ix, n_gd, n_nz, lz_t, bd_some, tn, Int.reduceToNat, tn_1, if_pos, if_neg, if_true, if_false, X10_refuse]
      · by_cases c2 : z < 0
        · simp (disch := omega) only [z_0, z_1, z_2, z_3, z_4, z_5, z_6, z_7, z_8, z_9, z_10, z_11, z_12, z_14, z_18, z_20, z_22, z_24, z_32, z_38, z_40, z_41, z_44, z_48, z_49, z_57, z_59, z_60, z_63, z_65, z_74, z_75, z_81, z_97, z_99, z_104, z_115, z_119, z_122, z_200, z_209, z_210, z_219, z_228, z_255, z_300, z_369, z_999, z_65537, z_268435456, z_1000000000, n_nat, n_add, n_sub, n_mul, n_neg, n_lt, n_le, n_eq, n_ix, n_gd, n_nz, lz_t, bd_some, tn, Int.reduceToNat, tn_1, if_pos, if_neg, if_true, if_false, f_X11_in, X11_no]
        · simp (disch := omega) only [z_0, z_1, z_2, z_3, z_4, z_5, z_6, z_7, z_8, z_9, z_10, z_11, z_12, z_14, z_18, z_20, z_22, z_24, z_32, z_38, z_40, z_41, z_44, z_48, z_49, z_57, z_59, z_60, z_63, z_65, z_74, z_75, z_81, z_97, z_99, z_104, z_115, z_119, z_122, z_200, z_209, z_210, z_219, z_228, z_255, z_300, z_369, z_999, z_65537, z_268435456, z_1000000000, n_nat, n_add, n_sub, n_mul, n_neg, n_lt, n_le, n_eq, n_ix, n_gd, n_nz, lz_t, bd_some, tn, Int.reduceToNat, tn_1, if_pos, if_neg, if_true, if_false, f_X11_in, X11_no]
  · rw [h1, if_pos rfl, if_pos rfl]
    exact ⟨_, _, _, _, rfl, rfl, TU_n (KP_r _) 1⟩
theorem P_depot {F : Nat} (hF : 300 ≤ F) {sMn sRo sFr sMo : MS} (hR : RR sRo (sMo.2.2.1 15)) (H : HR (sMo.2.2.1 15) (sMo.1 14)) (p hm k q : Int32) :
    ∃ v sMn' sFr' sMo', f_X10_depot F sRo p hm k q sMn sFr = some (v, sMn', sFr') ∧ f_X11_depot F p hm k q sMo = some (v, sMo') ∧ TU sMn sMo sMn' sMo' := by
  unfold f_X10_depot f_X11_depot f_X10_depot_28 f_X10_depot_45 f_X11_depot_68
  rw [X9_isTold hR H, bd_some, X11_good', bd_some, gQ_14]
  rcases H with ⟨h1, h2⟩ | ⟨h1, h2⟩
  · obtain ⟨T, t1, t2, t3⟩ := rT hR h2
    obtain ⟨z, z1, z2, rfl⟩ := i_ex p
    obtain ⟨y, y1, y2, rfl⟩ := i_ex k
    rw [h1, if_neg (c := (1 : Int32) = 0) (by decide), if_neg (c := (1 : Int32) = 0) (by decide)]
    by_cases c1 : 2 ≤ z ∧ z ≤ 12
    · by_cases c3 : 1 ≤ y ∧ y < z
      · obtain ⟨n, rfl⟩ := toN (show 0 ≤ z by omega)
        obtain ⟨m, rfl⟩ := toN (show 0 ≤ y by omega)
        obtain ⟨s1, a1, a2, a3⟩ := ap_e (F := F) hF (sMn := sMn) t1 t2 hm (fr := n - m + 1) (to := n) (by omega) (by omega) (by omega) sFr
        rw [show n + 1 - (n - m + 1) = m by omega] at a2 a3
        rw [show ((n - m + 1 : Nat) : Int) = (n : Int) - (m : Int) + 1 by omega] at a1
        have hdb : hd hm (n - m + 1) + 2 * m ≤ 26 ∧ 1 ≤ hd hm (n - m + 1) ∧ hd hm (n - m + 1) < 25 := by unfold hd; split <;> omega
        obtain ⟨s2, b1, b2, b3, b4⟩ := lp_e (F := F) hF t1 (to := hd hm n) (step := 2) (n := m) (d := hd hm (n - m + 1)) (by omega) (by omega) (by unfold hd; split <;> omega) (by omega) hdb.2.1 (by unfold hd; split <;> omega) (by unfold hd; split <;> omega) (prd_b2 _ hdb.2.2 m (by omega) hdb.1) (gQ sMo) t3
        refine ⟨if q = 0 then s1.2.1 0 else s1.2.1 1, sI sMn 11 0, s1, s2, ?_, ?_, TU_k b4⟩
        · simp (disch := omega) only [z_0, z_1, z_2, z_3, z_4, z_5, z_6, z_7, z_8, z_9, z_10, z_11, z_12, z_14, z_18, z_20, z_22, z_24, z_32, z_38, z_40, z_41, z_44, z_48, z_49, z_57, z_59, z_60, z_63, z_65, z_74, z_75, z_81, z_97, z_99, z_104, z_115, z_119, z_122, z_200, z_209, z_210, z_219, z_228, z_255, z_300, z_369, z_999, z_65537, z_268435456, z_1000000000, n_nat, n_add, n_sub, n_mul, n_neg, n_lt, n_le, n_eq, n_ix, n_gd, n_nz, lz_t, bd_some, tn, Int.reduceToNat, tn_1, if_pos, if_neg, if_true, if_false, a1, accF' rfl rfl]
        · by_cases ch : hm = 0
          · have e1 : ((hd hm n : Nat) : Int) = 2 * (n : Int) - 1 := by unfold hd; rw [if_pos ch]; omega
            have e2 : ((hd hm (n - m + 1) : Nat) : Int) = 2 * (n : Int) - 1 - 2 * ((m : Int) - 1) := by unfold hd; rw [if_pos ch]; omega
            rw [e1, e2] at b1
            have b1' : f_X11_layParts F (Int32.ofInt (2 * (n : Int) - 1 - 2 * ((m : Int) - 1))) (Int32.ofInt (2 * (n : Int) - 1)) (Int32.ofInt 2) (gQ sMo) = some s2 := b1
            rw [if_pos ch]
            simp (disch := omega) only [z_0, z_1, z_2, z_3, z_4, z_5, z_6, z_7, z_8, z_9, z_10, z_11, z_12, z_14, z_18, z_20, z_22, z_24, z_32, z_38, z_40, z_41, z_44, z_48, z_49, z_57, z_59, z_60, z_63, z_65, z_74, z_75, z_81, z_97, z_99, z_104, z_115, z_119, z_122, z_200, z_209, z_210, z_219, z_228, z_255, z_300, z_369, z_999, z_65537, z_268435456, z_1000000000, n_nat, n_add, n_sub, n_mul, n_neg, n_lt, n_le, n_eq, n_ix, n_gd, n_nz, lz_t, bd_some, tn, Int.reduceToNat, tn_1, if_pos, if_neg, if_true, if_false, f_X11_in, b1']
            rw [a2, a3, b2, b3]
            by_cases cq : q = Int32.ofInt 0
            · rw [if_pos cq, if_pos cq]
            · rw [if_neg cq, if_neg cq]
          · have e1 : ((hd hm n : Nat) : Int) = 2 * (n : Int) := by unfold hd; rw [if_neg ch]; omega
            have e2 : ((hd hm (n - m + 1) : Nat) : Int) = 2 * (n : Int) - 2 * ((m : Int) - 1) := by unfold hd; rw [if_neg ch]; omega
            rw [e1, e2] at b1
            have b1' : f_X11_layParts F (Int32.ofInt (2 * (n : Int) - 2 * ((m : Int) - 1))) (Int32.ofInt (2 * (n : Int))) (Int32.ofInt 2) (gQ sMo) = some s2 := b1
            rw [if_neg ch]
            simp (disch := omega) only [z_0, z_1, z_2, z_3, z_4, z_5, z_6, z_7, z_8, z_9, z_10, z_11, z_12, z_14, z_18, z_20, z_22, z_24, z_32, z_38, z_40, z_41, z_44, z_48, z_49, z_57, z_59, z_60, z_63, z_65, z_74, z_75, z_81, z_97, z_99, z_104, z_115, z_119, z_122, z_200, z_209, z_210, z_219, z_228, z_255, z_300, z_369, z_999, z_65537, z_268435456, z_1000000000, n_nat, n_add, n_sub, n_mul, n_neg, n_lt, n_le, n_eq, n_ix, n_gd, n_nz, lz_t, bd_some, tn, Int.reduceToNat, tn_1, if_pos, if_neg, if_true, if_false, f_X11_in, b1']
            rw [a2, a3, b2, b3]
            by_cases cq : q = Int32.ofInt 0
            · rw [if_pos cq, if_pos cq]
            · rw [if_neg cq, if_neg cq]
      · refine ⟨-1, sI sMn 11 1, sFr, sI (gQ sMo) 11 1, ?_, ?_, TU_n (KP_r _) 1⟩
        · by_cases c2 : y < 1
          · simp (disch := omega) only [z_0, z_1, z_2, z_3, z_4, z_5, z_6, z_7, z_8, z_9, z_10, z_11, z_12, z_14, z_18, z_20, z_22, z_24, z_32, z_38, z_40, z_41, z_44, z_48, z_49, z_57, z_59, z_60, z_63, z_65, z_74, z_75, z_81, z_97, z_99, z_104, z_115, z_119, z_122, z_200, z_209, z_210, z_219, z_228, z_255, z_300, z_369, z_999, z_65537, z_268435456, z_1000000000, n_nat, n_add, n_sub, n_mul, n_neg, n_lt, n_le, n_eq, n_ix, n_gd, n_nz, lz_t, bd_some, tn, Int.reduceToNat, tn_1, if_pos, if_neg, if_true, if_false, X10_refuse]; rfl
          · simp (disch := omega) only [z_0, z_1, z_2, z_3, z_4, z_5, z_6, z_7, z_8, z_9, z_10, z_11, z_12, z_14, z_18, z_20, z_22, z_24, z_32, z_38, z_40, z_41, z_44, z_48, z_49, z_57, z_59, z_60, z_63, z_65, z_74, z_75, z_81, z_97, z_99, z_104, z_115, z_119, z_122, z_200, z_209, z_210, z_219, z_228, z_255, z_300, z_369, z_999, z_65537, z_268435456, z_1000000000, n_nat, n_add, n_sub, n_mul, n_neg, n_lt, n_le, n_eq, n_ix, n_gd, n_nz, lz_t, bd_some, tn, Int.reduceToNat, tn_1, if_pos, if_neg, if_true, if_false, X10_refuse]; rfl
        · by_cases c2 : y < 1
          · simp (disch := omega) only [z_0, z_1, z_2, z_3, z_4, z_5, z_6, z_7, z_8, z_9, z_10, z_11, z_12, z_14, z_18, z_20, z_22, z_24, z_32, z_38, z_40, z_41, z_44, z_48, z_49, z_57, z_59, z_60, z_63, z_65, z_74, z_75, z_81, z_97, z_99, z_104, z_115, z_119, z_122, z_200, z_209, z_210, z_219, z_228, z_255, z_300, z_369, z_999, z_65537, z_268435456, z_1000000000, n_nat, n_add, n_sub, n_mul, n_neg, n_lt, n_le, n_eq, n_ix, n_gd, n_nz, lz_t, bd_some, tn, Int.reduceToNat, tn_1, if_pos, if_neg, if_true, if_false, f_X11_in, X11_no]; rfl
          · simp (disch := omega) only [z_0, z_1, z_2, z_3, z_4, z_5, z_6, z_7, z_8, z_9, z_10, z_11, z_12, z_14, z_18, z_20, z_22, z_24, z_32, z_38, z_40, z_41, z_44, z_48, z_49, z_57, z_59, z_60, z_63, z_65, z_74, z_75, z_81, z_97, z_99, z_104, z_115, z_119, z_122, z_200, z_209, z_210, z_219, z_228, z_255, z_300, z_369, z_999, z_65537, z_268435456, z_1000000000, n_nat, n_add, n_sub, n_mul, n_neg, n_lt, n_le, n_eq, n_ix, n_gd, n_nz, lz_t, bd_some, tn, Int.reduceToNat, tn_1, if_pos, if_neg, if_true, if_false, f_X11_in, X11_no]; rfl
    · refine ⟨-1, sI sMn 11 2, sFr, sI (gQ sMo) 11 2, ?_, ?_, TU_n (KP_r _) 2⟩
      · by_cases c2 : z < 2
        · simp (disch := omega) only [z_0, z_1, z_2, z_3, z_4, z_5, z_6, z_7, z_8, z_9, z_10, z_11, z_12, z_14, z_18, z_20, z_22, z_24, z_32, z_38, z_40, z_41, z_44, z_48, z_49, z_57, z_59, z_60, z_63, z_65, z_74, z_75, z_81, z_97, z_99, z_104, z_115, z_119, z_122, z_200, z_209, z_210, z_219, z_228, z_255, z_300, z_369, z_999, z_65537, z_268435456, z_1000000000, n_nat, n_add, n_sub, n_mul, n_neg, n_lt, n_le, n_eq, n_ix, n_gd, n_nz, lz_t, bd_some, tn, Int.reduceToNat, tn_1, if_pos, if_neg, if_true, if_false, X10_refuse]; rfl
        · simp (disch := omega) only [z_0, z_1, z_2, z_3, z_4, z_5, z_6, z_7, z_8, z_9, z_10, z_11, z_12, z_14, z_18, z_20, z_22, z_24, z_32, z_38, z_40, z_41, z_44, z_48, z_49, z_57, z_59, z_60, z_63, z_65, z_74, z_75, z_81, z_97, z_99, z_104, z_115, z_119, z_122, z_200, z_209, z_210, z_219, z_228, z_255, z_300, z_369, z_999, z_65537, z_268435456, z_1000000000, n_nat, n_add, n_sub, n_mul, n_neg, n_lt, n_le, n_eq, n_ix, n_gd, n_nz, lz_t, bd_some, tn, Int.reduceToNat, tn_1, if_pos, if_neg, if_true, if_false, X10_refuse]; rfl
      · by_cases c2 : z < 2
        · simp (disch := omega) only [z_0, z_1, z_2, z_3, z_4, z_5, z_6, z_7, z_8, z_9, z_10, z_11, z_12, z_14, z_18, z_20, z_22, z_24, z_32, z_38, z_40, z_41, z_44, z_48, z_49, z_57, z_59, z_60, z_63, z_65, z_74, z_75, z_81, z_97, z_99, z_104, z_115, z_119, z_122, z_200, z_209, z_210, z_219, z_228, z_255, z_300, z_369, z_999, z_65537, z_268435456, z_1000000000, n_nat, n_add, n_sub, n_mul, n_neg, n_lt, n_le, n_eq, n_ix, n_gd, n_nz, lz_t, bd_some, tn, Int.reduceToNat, tn_1, if_pos, if_neg, if_true, if_false, f_X11_in, X11_no]; rfl
        · simp (disch := omega) only [z_0, z_1, z_2, z_3, z_4, z_5, z_6, z_7, z_8, z_9, z_10, z_11, z_12, z_14, z_18, z_20, z_22, z_24, z_32, z_38, z_40, z_41, z_44, z_48, z_49, z_57, z_59, z_60, z_63, z_65, z_74, z_75, z_81, z_97, z_99, z_104, z_115, z_119, z_122, z_200, z_209, z_210, z_219, z_228, z_255, z_300, z_369, z_999, z_65537, z_268435456, z_1000000000, n_nat, n_add, n_sub, n_mul, n_neg, n_lt, n_le, n_eq, n_ix, n_gd, n_nz, lz_t, bd_some, tn, Int.reduceToNat, tn_1, if_pos, if_neg, if_true, if_false, f_X11_in, X11_no]; rfl
  · rw [h1, if_pos rfl, if_pos rfl]
    exact ⟨_, _, _, _, rfl, rfl, TU_n (KP_r _) 1⟩
theorem cv_go {F : Nat} (hF : 300 ≤ F) {sRo : MS} {T : Nat} (hT : T ≤ 40) (e0 : sRo.1 0 = Int32.ofInt (T : Int)) (q : Int32) {to : Nat} (hto : to ≤ 12) (sMn : MS) : ∀ (n k j u l : Nat) (f : Nat) (s : MS), 1 ≤ k → k + n = to + 1 → n < f → okF 1 n k u l j → s.2.1 0 = Int64.ofInt (u : Int) → s.2.1 1 = Int64.ofInt (l : Int) →
    ∃ s', f_X10_convoy_46 F sRo (Int32.ofInt (to : Int)) q f (Int32.ofInt (k : Int)) sMn s = some (if q = 0 then Int64.ofInt (((fra T 1 n k u l).1 : Nat) : Int) else Int64.ofInt (((fra T 1 n k u l).2 : Nat) : Int), sI sMn 11 0, s') := by
  intro n
  induction n with
  | zero =>
    intro k j u l f s hk hn hf ok h0 h1
    cases f with
    | zero => omega
    | succ f =>
      refine ⟨s, ?_⟩
      rw [f_X10_convoy_46]
      simp (disch := omega) only [z_0, z_1, z_2, z_3, z_4, z_5, z_6, z_7, z_8, z_9, z_10, z_11, z_12, z_14, z_18, z_20, z_22, z_24, z_32, z_38, z_40, z_41, z_44, z_48, z_49, z_57, z_59, z_60, z_63, z_65, z_74, z_75, z_81, z_97, z_99, z_104, z_115, z_119, z_122, z_200, z_209, z_210, z_219, z_228, z_255, z_300, z_369, z_999, z_65537, z_268435456, z_1000000000, n_nat, n_add, n_sub, n_mul, n_neg, n_lt, n_le, n_eq, n_ix, n_gd, n_nz, lz_t, bd_some, tn, Int.reduceToNat, tn_1, if_pos, if_neg, if_true, if_false, f_X10_convoy_74, accF' h0 h1, fra]
  | succ n ih =>
    intro k j u l f s hk hn hf ok h0 h1
    cases f with
    | zero => omega
    | succ f =>
      obtain ⟨ok', b1, b2, b3⟩ := okF_s hT ok
      have pl := plus_e (F := F) hF h0 h1 b1 b2 b3
      obtain ⟨s', z1⟩ := ih (k + 1) (j + 1) _ _ f (sL (sL s 0 (Int64.ofInt (((red (u * k + T * l) (l * k)).1 : Nat) : Int))) 1 (Int64.ofInt (((red (u * k + T * l) (l * k)).2 : Nat) : Int))) (by omega) (by omega) (by omega) ok' (by simp (disch := omega) only [sI_a, sI_b, sL_a, sL_b, sL_c, wA_a, wA_b, wA_c, wA_d, wB_a, wB_b, wB_c, wB_d, sA_w, sB_w, uN_s, uN_n, up_s, up_n, ul_s, ul_n, p_fst, p_snd]) (by simp (disch := omega) only [sI_a, sI_b, sL_a, sL_b, sL_c, wA_a, wA_b, wA_c, wA_d, wB_a, wB_b, wB_c, wB_d, sA_w, sB_w, uN_s, uN_n, up_s, up_n, ul_s, ul_n, p_fst, p_snd])
      refine ⟨s', ?_⟩
      rw [f_X10_convoy_46]
      simp (disch := omega) only [z_0, z_1, z_2, z_3, z_4, z_5, z_6, z_7, z_8, z_9, z_10, z_11, z_12, z_14, z_18, z_20, z_22, z_24, z_32, z_38, z_40, z_41, z_44, z_48, z_49, z_57, z_59, z_60, z_63, z_65, z_74, z_75, z_81, z_97, z_99, z_104, z_115, z_119, z_122, z_200, z_209, z_210, z_219, z_228, z_255, z_300, z_369, z_999, z_65537, z_268435456, z_1000000000, n_nat, n_add, n_sub, n_mul, n_neg, n_lt, n_le, n_eq, n_ix, n_gd, n_nz, lz_t, bd_some, tn, Int.reduceToNat, tn_1, if_pos, if_neg, if_true, if_false, m_of, e0, pl]
      exact z1
theorem P_convoy {F : Nat} (hF : 300 ≤ F) {sMn sRo sFr sMo : MS} (hR : RR sRo (sMo.2.2.1 15)) (H : HR (sMo.2.2.1 15) (sMo.1 14)) (p q : Int32) :
    ∃ v sMn' sFr' sMo', f_X10_convoy F sRo p q sMn sFr = some (v, sMn', sFr') ∧ f_X11_convoy F p q sMo = some (v, sMo') ∧ TU sMn sMo sMn' sMo' := by
  unfold f_X10_convoy f_X11_convoy f_X10_convoy_28
  rw [X9_isTold hR H, bd_some, X11_good', bd_some, gQ_14]
  rcases H with ⟨h1, h2⟩ | ⟨h1, h2⟩
  · obtain ⟨T, t1, t2, t3⟩ := rT hR h2
    obtain ⟨z, z1, z2, rfl⟩ := i_ex p
    rw [h1, if_neg (c := (1 : Int32) = 0) (by decide), if_neg (c := (1 : Int32) = 0) (by decide)]
    by_cases c1 : 1 ≤ z ∧ z ≤ 12
    · obtain ⟨n, rfl⟩ := toN (show 0 ≤ z by omega)
      have hp := prd_b1 n (by omega)
      obtain ⟨s1, a1⟩ := cv_go (F := F) hF t1 t2 q (to := n) (by omega) sMn n 1 0 0 1 F (sL (sL sFr 0 (Int64.ofInt ((0 : Nat) : Int))) 1 (Int64.ofInt ((1 : Nat) : Int))) (by omega) (by omega) (by omega) ⟨by omega, by omega, by omega, by omega, by omega, by omega⟩ (by simp (disch := omega) only [sI_a, sI_b, sL_a, sL_b, sL_c, wA_a, wA_b, wA_c, wA_d, wB_a, wB_b, wB_c, wB_d, sA_w, sB_w, uN_s, uN_n, up_s, up_n, ul_s, ul_n, p_fst, p_snd]) (by simp (disch := omega) only [sI_a, sI_b, sL_a, sL_b, sL_c, wA_a, wA_b, wA_c, wA_d, wB_a, wB_b, wB_c, wB_d, sA_w, sB_w, uN_s, uN_n, up_s, up_n, ul_s, ul_n, p_fst, p_snd])
      have a1' : f_X10_convoy_46 F sRo (Int32.ofInt (n : Int)) q F (Int32.ofInt 1) sMn (sL (sL sFr 0 (Int64.ofInt ((0 : Nat) : Int))) 1 (Int64.ofInt ((1 : Nat) : Int))) = _ := a1
      obtain ⟨s2, b1, b2, b3, b4⟩ := lp_e (F := F) hF t1 (to := n) (step := 1) (n := n) (d := 1) (by omega) (by omega) (by omega) (by omega) (by omega) (by omega) (by omega) hp (gQ sMo) t3
      have b1' : f_X11_layParts F (Int32.ofInt 1) (Int32.ofInt (n : Int)) (Int32.ofInt 1) (gQ sMo) = some s2 := b1
      refine ⟨if q = 0 then Int64.ofInt (((fra T 1 n 1 0 1).1 : Nat) : Int) else Int64.ofInt (((fra T 1 n 1 0 1).2 : Nat) : Int), sI sMn 11 0, s1, s2, ?_, ?_, TU_k b4⟩
      · simp (disch := omega) only [z_0, z_1, z_2, z_3, z_4, z_5, z_6, z_7, z_8, z_9, z_10, z_11, z_12, z_14, z_18, z_20, z_22, z_24, z_32, z_38, z_40, z_41, z_44, z_48, z_49, z_57, z_59, z_60, z_63, z_65, z_74, z_75, z_81, z_97, z_99, z_104, z_115, z_119, z_122, z_200, z_209, z_210, z_219, z_228, z_255, z_300, z_369, z_999, z_65537, z_268435456, z_1000000000, n_nat, n_add, n_sub, n_mul, n_neg, n_lt, n_le, n_eq, n_ix, n_gd, n_nz, lz_t, bd_some, tn, Int.reduceToNat, tn_1, if_pos, if_neg, if_true, if_false, become01 hF, a1']
      · simp (disch := omega) only [z_0, z_1, z_2, z_3, z_4, z_5, z_6, z_7, z_8, z_9, z_10, z_11, z_12, z_14, z_18, z_20, z_22, z_24, z_32, z_38, z_40, z_41, z_44, z_48, z_49, z_57, z_59, z_60, z_63, z_65, z_74, z_75, z_81, z_97, z_99, z_104, z_115, z_119, z_122, z_200, z_209, z_210, z_219, z_228, z_255, z_300, z_369, z_999, z_65537, z_268435456, z_1000000000, n_nat, n_add, n_sub, n_mul, n_neg, n_lt, n_le, n_eq, n_ix, n_gd, n_nz, lz_t, bd_some, tn, Int.reduceToNat, tn_1, if_pos, if_neg, if_true, if_false, f_X11_in, b1']
        rw [b2, b3]
        by_cases cq : q = Int32.ofInt 0
        · rw [if_pos cq, if_pos cq]
        · rw [if_neg cq, if_neg cq]
    · refine ⟨-1, sI sMn 11 2, sFr, sI (gQ sMo) 11 2, ?_, ?_, TU_n (KP_r _) 2⟩
      · by_cases c2 : z < 1
        · simp (disch := omega) only [z_0, z_1, z_2, z_3, z_4, z_5, z_6, z_7, z_8, z_9, z_10, z_11, z_12, z_14, z_18, z_20, z_22, z_24, z_32, z_38, z_40, z_41, z_44, z_48, z_49, z_57, z_59, z_60, z_63, z_65, z_74, z_75, z_81, z_97, z_99, z_104, z_115, z_119, z_122, z_200, z_209, z_210, z_219, z_228, z_255, z_300, z_369, z_999, z_65537, z_268435456, z_1000000000, n_nat, n_add, n_sub, n_mul, n_neg, n_lt, n_le, n_eq, n_ix, n_gd, n_nz, lz_t, bd_some, tn, Int.reduceToNat, tn_1, if_pos, if_neg, if_true, if_false, X10_refuse]; rfl
        · simp (disch := omega) only [z_0, z_1, z_2, z_3, z_4, z_5, z_6, z_7, z_8, z_9, z_10, z_11, z_12, z_14, z_18, z_20, z_22, z_24, z_32, z_38, z_40, z_41, z_44, z_48, z_49, z_57, z_59, z_60, z_63, z_65, z_74, z_75, z_81, z_97, z_99, z_104, z_115, z_119, z_122, z_200, z_209, z_210, z_219, z_228, z_255, z_300, z_369, z_999, z_65537, z_268435456, z_1000000000, n_nat, n_add, n_sub, n_mul, n_neg, n_lt, n_le, n_eq, n_ix, n_gd, n_nz, lz_t, bd_some, tn, Int.reduceToNat, tn_1, if_pos, if_neg, if_true, if_false, X10_refuse]; rfl
      · by_cases c2 : z < 1
        · simp (disch := omega) only [z_0, z_1, z_2, z_3, z_4, z_5, z_6, z_7, z_8, z_9, z_10, z_11, z_12, z_14, z_18, z_20, z_22, z_24, z_32, z_38, z_40, z_41, z_44, z_48, z_49, z_57, z_59, z_60, z_63, z_65, z_74, z_75, z_81, z_97, z_99, z_104, z_115, z_119, z_122, z_200, z_209, z_210, z_219, z_228, z_255, z_300, z_369, z_999, z_65537, z_268435456, z_1000000000, n_nat, n_add, n_sub, n_mul, n_neg, n_lt, n_le, n_eq, n_ix, n_gd, n_nz, lz_t, bd_some, tn, Int.reduceToNat, tn_1, if_pos, if_neg, if_true, if_false, f_X11_in, X11_no]; rfl
        · simp (disch := omega) only [z_0, z_1, z_2, z_3, z_4, z_5, z_6, z_7, z_8, z_9, z_10, z_11, z_12, z_14, z_18, z_20, z_22, z_24, z_32, z_38, z_40, z_41, z_44, z_48, z_49, z_57, z_59, z_60, z_63, z_65, z_74, z_75, z_81, z_97, z_99, z_104, z_115, z_119, z_122, z_200, z_209, z_210, z_219, z_228, z_255, z_300, z_369, z_999, z_65537, z_268435456, z_1000000000, n_nat, n_add, n_sub, n_mul, n_neg, n_lt, n_le, n_eq, n_ix, n_gd, n_nz, lz_t, bd_some, tn, Int.reduceToNat, tn_1, if_pos, if_neg, if_true, if_false, f_X11_in, X11_no]; rfl
  · rw [h1, if_pos rfl, if_pos rfl]
    exact ⟨_, _, _, _, rfl, rfl, TU_n (KP_r _) 1⟩
