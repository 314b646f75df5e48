/-! without, gap, need -/
theorem P_without {F : Nat} (hF : 100 ≤ F) {sMn sRo sPl sPc sMo : MS} (hR : RR sRo (sMo.2.2.1 15)) (H : HR (sMo.2.2.1 15) (sMo.1 14)) (p : Int32) :
    ∃ v sMn' sPl' sPc' sMo', f_X10_without F sRo p sMn sPl sPc = some (v, sMn', sPl', sPc') ∧ f_X11_without F p sMo = some (v, sMo') ∧ TU sMn sMo sMn' sMo' ∧ sPl'.2.2.1 = sPl.2.2.1 := by
  have h8 := hr_8 H
  unfold f_X10_without f_X11_without
  rw [X9_isLeft hR h8, bd_some, X11_good', bd_some, X11_isStop (s := gQ sMo) H, bd_some, gQ_15]
  cases hf : isF (sMo.2.2.1 15) p with
  | false => exact ⟨-1, _, _, _, _, rfl, rfl, TU_n (KP_r _) 1, rfl⟩
  | true =>
    obtain ⟨i, hi, hi8, rfl⟩ := ix_f h8.2 hf
    have h2 : ROK (sMo.2.2.1 15) := HRok H (i := i) (by omega)
    obtain ⟨t0, t1, t2, t3, t4, t5, t8, t9⟩ := ROKb h2
    have hi9 : (i : Int) + 1 < rd (sMo.2.2.1 15) 8 := hi8
    have hp := rp_b h2 (i := i) (by omega)
    have l9 := A9_has (F := F) hR h2 i (by omega)
    have l11 := A11_price (F := F) (s := gQ sMo) rfl h2 i (by show (i : Int) < rd (sMo.2.2.1 15) 8; omega)
    rw [if_neg (by decide), if_neg (by decide)]
    have l9' : f_X9_hasPumpAt F sRo (Int32.ofNat i) = _ := l9
    have l11' : f_X11_priceAt F (gQ sMo) (Int32.ofNat i) = some (Int32.ofInt (rp (sMo.2.2.1 15) i)) := l11
    rw [l9', bd_some, l11', bd_some]
    by_cases c : 0 < rp (sMo.2.2.1 15) i
    · obtain ⟨a, b, k1, k2, k3⟩ := leastCost_e (F := F) hF hR h2 (i : Int) (by omega) (by omega) sPl sPc
      obtain ⟨s', l1, l2, l3⟩ := lay_e (F := F) hF h2 false (i : Int) (by omega) (by omega) (gQ sMo) rfl
      have lf := leastFrom_e (F := F) h2 l3 (x := (rd (sMo.2.2.1 15) 1).toNat) (by omega)
      have r1 : s'.2.2.1 15 1 = Int32.ofInt (((rd (sMo.2.2.1 15) 1).toNat : Nat) : Int) := by
        rw [l2.2.2.2 15 (by omega) (by omega), gQ_15, rd_e (sMo.2.2.1 15) 1]
        congr 1
        omega
      have l1' : f_X11_layPlans F 0 (Int32.ofNat i) (gQ sMo) = some s' := l1
      have k1' : f_X6_leastCost F sRo (Int32.ofNat i) sPl sPc = _ := k1
      have z : ¬ Int32.ofInt (rp (sMo.2.2.1 15) i) = 0 := by
        rw [z_0, n_eq _ _ (by omega) (by omega) (by omega) (by omega)]; omega
      rw [if_neg (by simp [c, bi]), if_neg z, k1', bd_some, X10_accept, bd_some, l1', bd_some, gd_t (by decide), lz_t]
      show ∃ v sMn' sPl' sPc' sMo', _ ∧ (bd (f_X11_leastFrom F s' (s'.2.2.1 15 1)) fun o6 => some (o6, s')) = some (v, sMo') ∧ _ ∧ _
      rw [r1, lf, bd_some]
      exact ⟨_, _, _, _, _, rfl, rfl, TU_k (KP_f l2 (by omega) (by omega)), k3⟩
    · have e : rp (sMo.2.2.1 15) i = 0 := by omega
      rw [if_pos (by simp [e, bi]), if_pos (by rw [e]; rfl)]
      exact ⟨-1, _, _, _, _, rfl, rfl, TU_n (KP_r _) 6, rfl⟩
theorem gap_go {F : Nat} (hF : 100 ≤ F) {sRo : MS} {r : Nat → Int32} (hR : RR sRo r) (h : ROK r) : ∀ (d k n n' : Nat) (best most : Int) (sPl sPc s : MS), (k : Int) + 1 + d = rd r 8 → d < n → d < n' → -1 ≤ best → best < 9 → -1 ≤ most → most ≤ 100000 → s.2.2.1 15 = r →
    ∃ (w : Int) (sPl' sPc' s' : MS), f_X6_worstGap_20 F sRo n (Int32.ofInt best) (Int32.ofInt most) (Int32.ofInt (k : Int)) sPl sPc = some (Int32.ofInt w, sPl', sPc') ∧ f_X11_gap_51 F n' (Int32.ofInt best) (Int32.ofInt most) (Int32.ofInt (k : Int)) s = (if 0 ≤ w then some (Int32.ofInt w, s') else some (-1, sI s' 11 6)) ∧ KP s s' ∧ sPl'.2.2.1 = sPl.2.2.1 ∧ -1 ≤ w ∧ w < 9 := by
  obtain ⟨q0, q1, q2, q3, q4, q5, q8, q9⟩ := RRb hR
  obtain ⟨t0, t1, t2, t3, t4, t5, t8, t9⟩ := ROKb h
  intro d
  induction d with
  | zero =>
    intro k n n' best most sPl sPc s hk hn hn' b1 b2 m1 m2 hs
    cases n with
    | zero => omega
    | succ n =>
      cases n' with
      | zero => omega
      | succ n' =>
        refine ⟨best, sPl, sPc, s, ?_, ?_, KP_r s, rfl, b1, b2⟩
        · rw [f_X6_worstGap_20]
          simp (disch := omega) only [z_0, z_1, z_2, z_3, z_4, z_5, z_6, z_7, z_8, z_9, z_10, z_11, z_12, z_14, z_18, z_20, z_22, z_24, z_32, z_38, z_40, z_41, z_44, z_48, z_49, z_57, z_59, z_60, z_63, z_65, z_74, z_75, z_81, z_97, z_99, z_104, z_115, z_119, z_122, z_200, z_209, z_210, z_219, z_228, z_255, z_300, z_369, z_999, z_65537, z_268435456, z_1000000000, n_nat, n_add, n_sub, n_mul, n_neg, n_lt, n_le, n_eq, n_ix, n_gd, n_nz, lz_t, bd_some, tn, Int.reduceToNat, tn_1, if_pos, if_neg, if_true, if_false, sI_a, sI_b, sL_a, sL_b, sL_c, wA_a, wA_b, wA_c, wA_d, wB_a, wB_b, wB_c, wB_d, sA_w, sB_w, uN_s, uN_n, up_s, up_n, ul_s, ul_n, p_fst, p_snd, q8]
        · rw [f_X11_gap_51]
          by_cases c : 0 ≤ best
          · simp (disch := omega) only [z_0, z_1, z_2, z_3, z_4, z_5, z_6, z_7, z_8, z_9, z_10, z_11, z_12, z_14, z_18, z_20, z_22, z_24, z_32, z_38, z_40, z_41, z_44, z_48, z_49, z_57, z_59, z_60, z_63, z_65, z_74, z_75, z_81, z_97, z_99, z_104, z_115, z_119, z_122, z_200, z_209, z_210, z_219, z_228, z_255, z_300, z_369, z_999, z_65537, z_268435456, z_1000000000, n_nat, n_add, n_sub, n_mul, n_neg, n_lt, n_le, n_eq, n_ix, n_gd, n_nz, lz_t, bd_some, tn, Int.reduceToNat, tn_1, if_pos, if_neg, if_true, if_false, sI_a, sI_b, sL_a, sL_b, sL_c, wA_a, wA_b, wA_c, wA_d, wB_a, wB_b, wB_c, wB_d, sA_w, sB_w, uN_s, uN_n, up_s, up_n, ul_s, ul_n, p_fst, p_snd, A11_last hs h, f_X11_gap_117]
          · simp (disch := omega) only [z_0, z_1, z_2, z_3, z_4, z_5, z_6, z_7, z_8, z_9, z_10, z_11, z_12, z_14, z_18, z_20, z_22, z_24, z_32, z_38, z_40, z_41, z_44, z_48, z_49, z_57, z_59, z_60, z_63, z_65, z_74, z_75, z_81, z_97, z_99, z_104, z_115, z_119, z_122, z_200, z_209, z_210, z_219, z_228, z_255, z_300, z_369, z_999, z_65537, z_268435456, z_1000000000, n_nat, n_add, n_sub, n_mul, n_neg, n_lt, n_le, n_eq, n_ix, n_gd, n_nz, lz_t, bd_some, tn, Int.reduceToNat, tn_1, if_pos, if_neg, if_true, if_false, sI_a, sI_b, sL_a, sL_b, sL_c, wA_a, wA_b, wA_c, wA_d, wB_a, wB_b, wB_c, wB_d, sA_w, sB_w, uN_s, uN_n, up_s, up_n, ul_s, ul_n, p_fst, p_snd, A11_last hs h, f_X11_gap_117, X11_no]
  | succ d ih =>
    intro k n n' best most sPl sPc s hk hn hn' b1 b2 m1 m2 hs
    cases n with
    | zero => omega
    | succ n =>
      cases n' with
      | zero => omega
      | succ n' =>
        have hp := rp_b h (i := k) (by omega)
        rw [f_X6_worstGap_20, f_X11_gap_51]
        by_cases c : 0 < rp r k
        · obtain ⟨a, b, k1, k2, k3⟩ := leastCost_e (F := F) hF hR h (k : Int) (by omega) (by omega) sPl sPc
          obtain ⟨s', l1, l2, l3⟩ := lay_e (F := F) hF h false (k : Int) (by omega) (by omega) s hs
          have lf := leastFrom_e (F := F) h l3 (x := (rd r 1).toNat) (by omega)
          have hs' : s'.2.2.1 15 = r := by rw [l2.2.2.2 15 (by omega) (by omega)]; exact hs
          have r1 : s'.2.2.1 15 1 = Int32.ofInt (((rd r 1).toNat : Nat) : Int) := by
            rw [hs', rd_e r 1]
            congr 1
            omega
          have l1' : f_X11_layPlans F (Int32.ofInt 0) (Int32.ofInt (k : Int)) s = some s' := l1
          have ok := vR_ok h false (k : Int) ((rd r 8).toNat - 1) (by omega) (rd r 1).toNat (by omega)
          by_cases c2 : vR r false (k : Int) ((rd r 8).toNat - 1) (rd r 1).toNat = 1000000000
          · refine ⟨(k : Int), a, b, s', ?_, ?_, KP_f l2 (by omega) (by omega), k3, by omega, by omega⟩
            · simp (disch := omega) only [z_0, z_1, z_2, z_3, z_4, z_5, z_6, z_7, z_8, z_9, z_10, z_11, z_12, z_14, z_18, z_20, z_22, z_24, z_32, z_38, z_40, z_41, z_44, z_48, z_49, z_57, z_59, z_60, z_63, z_65, z_74, z_75, z_81, z_97, z_99, z_104, z_115, z_119, z_122, z_200, z_209, z_210, z_219, z_228, z_255, z_300, z_369, z_999, z_65537, z_268435456, z_1000000000, n_nat, n_add, n_sub, n_mul, n_neg, n_lt, n_le, n_eq, n_ix, n_gd, n_nz, lz_t, bd_some, tn, Int.reduceToNat, tn_1, if_pos, if_neg, if_true, if_false, sI_a, sI_b, sL_a, sL_b, sL_c, wA_a, wA_b, wA_c, wA_d, wB_a, wB_b, wB_c, wB_d, sA_w, sB_w, uN_s, uN_n, up_s, up_n, ul_s, ul_n, p_fst, p_snd, q8, A9_has hR h, bi_z, decide_eq_false_iff_not, k1, c2, ans]
            · simp (disch := omega) only [z_0, z_1, z_2, z_3, z_4, z_5, z_6, z_7, z_8, z_9, z_10, z_11, z_12, z_14, z_18, z_20, z_22, z_24, z_32, z_38, z_40, z_41, z_44, z_48, z_49, z_57, z_59, z_60, z_63, z_65, z_74, z_75, z_81, z_97, z_99, z_104, z_115, z_119, z_122, z_200, z_209, z_210, z_219, z_228, z_255, z_300, z_369, z_999, z_65537, z_268435456, z_1000000000, n_nat, n_add, n_sub, n_mul, n_neg, n_lt, n_le, n_eq, n_ix, n_gd, n_nz, lz_t, bd_some, tn, Int.reduceToNat, tn_1, if_pos, if_neg, if_true, if_false, sI_a, sI_b, sL_a, sL_b, sL_c, wA_a, wA_b, wA_c, wA_d, wB_a, wB_b, wB_c, wB_d, sA_w, sB_w, uN_s, uN_n, up_s, up_n, ul_s, ul_n, p_fst, p_snd, A11_last hs h, A11_price hs h, l1', r1, lf, c2, ans]
          · have an : ans (vR r false (k : Int) ((rd r 8).toNat - 1) (rd r 1).toNat) = vR r false (k : Int) ((rd r 8).toNat - 1) (rd r 1).toNat := by
              unfold ans
              rw [if_neg c2]
            rw [an] at k1 lf
            by_cases c3 : most < vR r false (k : Int) ((rd r 8).toNat - 1) (rd r 1).toNat
            · obtain ⟨w, a', b', s2, j1, j2, j3, j4, j5⟩ := ih (k + 1) n n' (k : Int) (vR r false (k : Int) ((rd r 8).toNat - 1) (rd r 1).toNat) a b s' (by omega) (by omega) (by omega) (by omega) (by omega) (by omega) (by omega) hs'
              refine ⟨w, a', b', s2, ?_, ?_, KP_t (KP_f l2 (by omega) (by omega)) j3, by rw [j4, k3], j5⟩
              · simp (disch := omega) only [z_0, z_1, z_2, z_3, z_4, z_5, z_6, z_7, z_8, z_9, z_10, z_11, z_12, z_14, z_18, z_20, z_22, z_24, z_32, z_38, z_40, z_41, z_44, z_48, z_49, z_57, z_59, z_60, z_63, z_65, z_74, z_75, z_81, z_97, z_99, z_104, z_115, z_119, z_122, z_200, z_209, z_210, z_219, z_228, z_255, z_300, z_369, z_999, z_65537, z_268435456, z_1000000000, n_nat, n_add, n_sub, n_mul, n_neg, n_lt, n_le, n_eq, n_ix, n_gd, n_nz, lz_t, bd_some, tn, Int.reduceToNat, tn_1, if_pos, if_neg, if_true, if_false, sI_a, sI_b, sL_a, sL_b, sL_c, wA_a, wA_b, wA_c, wA_d, wB_a, wB_b, wB_c, wB_d, sA_w, sB_w, uN_s, uN_n, up_s, up_n, ul_s, ul_n, p_fst, p_snd, q8, A9_has hR h, bi_z, decide_eq_false_iff_not, k1, f_X6_worstGap_71]
                exact j1
              · simp (disch := omega) only [z_0, z_1, z_2, z_3, z_4, z_5, z_6, z_7, z_8, z_9, z_10, z_11, z_12, z_14, z_18, z_20, z_22, z_24, z_32, z_38, z_40, z_41, z_44, z_48, z_49, z_57, z_59, z_60, z_63, z_65, z_74, z_75, z_81, z_97, z_99, z_104, z_115, z_119, z_122, z_200, z_209, z_210, z_219, z_228, z_255, z_300, z_369, z_999, z_65537, z_268435456, z_1000000000, n_nat, n_add, n_sub, n_mul, n_neg, n_lt, n_le, n_eq, n_ix, n_gd, n_nz, lz_t, bd_some, tn, Int.reduceToNat, tn_1, if_pos, if_neg, if_true, if_false, sI_a, sI_b, sL_a, sL_b, sL_c, wA_a, wA_b, wA_c, wA_d, wB_a, wB_b, wB_c, wB_d, sA_w, sB_w, uN_s, uN_n, up_s, up_n, ul_s, ul_n, p_fst, p_snd, A11_last hs h, A11_price hs h, l1', r1, lf, f_X11_gap_111]
                exact j2
            · obtain ⟨w, a', b', s2, j1, j2, j3, j4, j5⟩ := ih (k + 1) n n' best most a b s' (by omega) (by omega) (by omega) (by omega) (by omega) (by omega) (by omega) hs'
              refine ⟨w, a', b', s2, ?_, ?_, KP_t (KP_f l2 (by omega) (by omega)) j3, by rw [j4, k3], j5⟩
              · simp (disch := omega) only [z_0, z_1, z_2, z_3, z_4, z_5, z_6, z_7, z_8, z_9, z_10, z_11, z_12, z_14, z_18, z_20, z_22, z_24, z_32, z_38, z_40, z_41, z_44, z_48, z_49, z_57, z_59, z_60, z_63, z_65, z_74, z_75, z_81, z_97, z_99, z_104, z_115, z_119, z_122, z_200, z_209, z_210, z_219, z_228, z_255, z_300, z_369, z_999, z_65537, z_268435456, z_1000000000, n_nat, n_add, n_sub, n_mul, n_neg, n_lt, n_le, n_eq, n_ix, n_gd, n_nz, lz_t, bd_some, tn, Int.reduceToNat, tn_1, if_pos, if_neg, if_true, if_false, sI_a, sI_b, sL_a, sL_b, sL_c, wA_a, wA_b, wA_c, wA_d, wB_a, wB_b, wB_c, wB_d, sA_w, sB_w, uN_s, uN_n, up_s, up_n, ul_s, ul_n, p_fst, p_snd, q8, A9_has hR h, bi_z, decide_eq_false_iff_not, k1, f_X6_worstGap_71]
                exact j1
              · simp (disch := omega) only [z_0, z_1, z_2, z_3, z_4, z_5, z_6, z_7, z_8, z_9, z_10, z_11, z_12, z_14, z_18, z_20, z_22, z_24, z_32, z_38, z_40, z_41, z_44, z_48, z_49, z_57, z_59, z_60, z_63, z_65, z_74, z_75, z_81, z_97, z_99, z_104, z_115, z_119, z_122, z_200, z_209, z_210, z_219, z_228, z_255, z_300, z_369, z_999, z_65537, z_268435456, z_1000000000, n_nat, n_add, n_sub, n_mul, n_neg, n_lt, n_le, n_eq, n_ix, n_gd, n_nz, lz_t, bd_some, tn, Int.reduceToNat, tn_1, if_pos, if_neg, if_true, if_false, sI_a, sI_b, sL_a, sL_b, sL_c, wA_a, wA_b, wA_c, wA_d, wB_a, wB_b, wB_c, wB_d, sA_w, sB_w, uN_s, uN_n, up_s, up_n, ul_s, ul_n, p_fst, p_snd, A11_last hs h, A11_price hs h, l1', r1, lf, f_X11_gap_111]
                exact j2
        · obtain ⟨w, a', b', s2, j1, j2, j3, j4, j5⟩ := ih (k + 1) n n' best most sPl sPc s (by omega) (by omega) (by omega) (by omega) (by omega) (by omega) (by omega) hs
          refine ⟨w, a', b', s2, ?_, ?_, j3, j4, j5⟩
          · simp (disch := omega) only [z_0, z_1, z_2, z_3, z_4, z_5, z_6, z_7, z_8, z_9, z_10, z_11, z_12, z_14, z_18, z_20, z_22, z_24, z_32, z_38, z_40, z_41, z_44, z_48, z_49, z_57, z_59, z_60, z_63, z_65, z_74, z_75, z_81, z_97, z_99, z_104, z_115, z_119, z_122, z_200, z_209, z_210, z_219, z_228, z_255, z_300, z_369, z_999, z_65537, z_268435456, z_1000000000, n_nat, n_add, n_sub, n_mul, n_neg, n_lt, n_le, n_eq, n_ix, n_gd, n_nz, lz_t, bd_some, tn, Int.reduceToNat, tn_1, if_pos, if_neg, if_true, if_false, sI_a, sI_b, sL_a, sL_b, sL_c, wA_a, wA_b, wA_c, wA_d, wB_a, wB_b, wB_c, wB_d, sA_w, sB_w, uN_s, uN_n, up_s, up_n, ul_s, ul_n, p_fst, p_snd, q8, A9_has hR h, bi_z, decide_eq_false_iff_not, f_X6_worstGap_71]
            exact j1
          · simp (disch := omega) only [z_0, z_1, z_2, z_3, z_4, z_5, z_6, z_7, z_8, z_9, z_10, z_11, z_12, z_14, z_18, z_20, z_22, z_24, z_32, z_38, z_40, z_41, z_44, z_48, z_49, z_57, z_59, z_60, z_63, z_65, z_74, z_75, z_81, z_97, z_99, z_104, z_115, z_119, z_122, z_200, z_209, z_210, z_219, z_228, z_255, z_300, z_369, z_999, z_65537, z_268435456, z_1000000000, n_nat, n_add, n_sub, n_mul, n_neg, n_lt, n_le, n_eq, n_ix, n_gd, n_nz, lz_t, bd_some, tn, Int.reduceToNat, tn_1, if_pos, if_neg, if_true, if_false, sI_a, sI_b, sL_a, sL_b, sL_c, wA_a, wA_b, wA_c, wA_d, wB_a, wB_b, wB_c, wB_d, sA_w, sB_w, uN_s, uN_n, up_s, up_n, ul_s, ul_n, p_fst, p_snd, A11_last hs h, A11_price hs h, f_X11_gap_111]
            exact j2
theorem P_gap {F : Nat} (hF : 100 ≤ F) {sMn sRo sPl sPc sMo : MS} (hR : RR sRo (sMo.2.2.1 15)) (H : HR (sMo.2.2.1 15) (sMo.1 14)) :
    ∃ v sMn' sPl' sPc' sMo', f_X10_gap F sRo sMn sPl sPc = some (v, sMn', sPl', sPc') ∧ f_X11_gap F sMo = some (v, sMo') ∧ TU sMn sMo sMn' sMo' ∧ sPl'.2.2.1 = sPl.2.2.1 := by
  unfold f_X10_gap f_X11_gap
  rw [X9_isTold hR H, bd_some, X11_good', bd_some, gQ_14]
  rcases H with ⟨h1, h2⟩ | ⟨h1, h2⟩
  · obtain ⟨t0, t1, t2, t3, t4, t5, t8, t9⟩ := ROKb h2
    obtain ⟨a, b, k1, k2, k3⟩ := leastCost_e (F := F) hF hR h2 (-1) (by omega) (by omega) sPl sPc
    obtain ⟨s', l1, l2, l3⟩ := lay_e (F := F) hF h2 false (-1) (by omega) (by omega) (gQ sMo) rfl
    have lf := leastFrom_e (F := F) h2 l3 (x := (rd (sMo.2.2.1 15) 1).toNat) (by omega)
    have hs' : s'.2.2.1 15 = sMo.2.2.1 15 := by rw [l2.2.2.2 15 (by omega) (by omega), gQ_15]
    have r1 : s'.2.2.1 15 1 = Int32.ofInt (((rd (sMo.2.2.1 15) 1).toNat : Nat) : Int) := by
      rw [hs', rd_e (sMo.2.2.1 15) 1]
      congr 1
      omega
    have l1' : f_X11_layPlans F 0 (-1) (gQ sMo) = some s' := l1
    have k1' : f_X6_leastCost F sRo (-1) sPl sPc = _ := k1
    have ok := vR_ok h2 false (-1) ((rd (sMo.2.2.1 15) 8).toNat - 1) (by omega) (rd (sMo.2.2.1 15) 1).toNat (by omega)
    rw [h1, if_neg (by decide), if_neg (by decide), l1', bd_some, gd_t (by decide), lz_t]
    unfold f_X6_worstGap
    rw [k1', bd_some]
    show ∃ v sMn' sPl' sPc' sMo', _ ∧ (bd (f_X11_leastFrom F s' (s'.2.2.1 15 1)) fun o6 => if o6 = (-2 : Int32) then (bd (f_X11_no F (6 : Int32) s') fun o8 => some (o8.1, o8.2)) else f_X11_gap_51 F F (Int32.ofInt (-1)) (Int32.ofInt (-1)) (Int32.ofInt ((0 : Nat) : Int)) s') = some (v, sMo') ∧ _ ∧ _
    rw [r1, lf, bd_some, n_m2, if_congr_c (ne2 _ (by omega)), if_congr_c (ne2 _ (by omega))]
    by_cases c : vR (sMo.2.2.1 15) false (-1) ((rd (sMo.2.2.1 15) 8).toNat - 1) (rd (sMo.2.2.1 15) 1).toNat = 1000000000
    · rw [if_pos c, if_pos c, bd_some, if_pos rfl, X10_refuse, bd_some, X11_no, bd_some]
      exact ⟨_, _, _, _, _, rfl, rfl, TU_n (KP_f l2 (by omega) (by omega)) 6, k3⟩
    · rw [if_neg c, if_neg c]
      obtain ⟨w, a', b', s2, j1, j2, j3, j4, j5, j6⟩ := gap_go (F := F) hF hR h2 ((rd (sMo.2.2.1 15) 8).toNat - 1) 0 F F (-1) (-1) a b s' (by omega) (by omega) (by omega) (by omega) (by omega) (by omega) (by omega) hs'
      have j1' : f_X6_worstGap_20 F sRo F (-1) (-1) 0 a b = some (Int32.ofInt w, a', b') := j1
      rw [j2]
      show ∃ v sMn' sPl' sPc' sMo', bd (f_X6_worstGap_20 F sRo F (-1) (-1) 0 a b) _ = _ ∧ _ ∧ _ ∧ _
      rw [j1', bd_some]
      by_cases c2 : 0 ≤ w
      · have z : ¬ Int32.ofInt w = -1 := by
          rw [n_m1, n_eq _ _ (by omega) (by omega) (by omega) (by omega)]; omega
        rw [if_pos c2, if_neg z, X10_accept, bd_some]
        exact ⟨_, _, _, _, _, rfl, rfl, TU_k (KP_t (KP_f l2 (by omega) (by omega)) j3), by rw [j4, k3]⟩
      · have z : w = -1 := by omega
        rw [if_neg c2, z, if_pos (show ((Int32.ofInt (-1), a', b').1 = (-1 : Int32)) from rfl), X10_refuse, bd_some]
        exact ⟨_, _, _, _, _, rfl, rfl, TU_n (KP_t (KP_f l2 (by omega) (by omega)) j3) 6, by rw [j4, k3]⟩
  · rw [h1, if_pos rfl, if_pos rfl]
    exact ⟨-1, _, _, _, _, rfl, rfl, TU_n (KP_r _) 1, rfl⟩
/-! what can be: the same by pence and by stops -/
theorem step_feas {T : Nat} {B : Int} {nx : Nat → Int} {l p s : Int} {o : Bool} {f : Nat} (hT : T ≤ 40) (hB : B ≤ 100000) (h : okV T B nx) (hl : 0 ≤ l) (hp : 0 ≤ p) (hp2 : p ≤ 99) (hs : 0 ≤ s) (hs2 : s ≤ 99) (hf : f ≤ T) : stepV T l p s o nx f ≠ 1000000000 ↔ ∃ n, n ≤ (if o then T - f else 0) ∧ lM l nx (f + n) ≠ 1000000000 := by
  have b := stepB_le T l p s o nx f
  have hle : (if o then T - f else 0) ≤ T - f := by cases o <;> simp
  have m1 := minTo_le (cR (lM l nx) p s f) (if o then T - f else 0)
  constructor
  · intro hv
    refine ⟨stepB T l p s o nx f, m1, ?_⟩
    rcases cR_ok hT (lM_ok hl h) hp hp2 hs hs2 (f := f) (n := stepB T l p s o nx f) (by omega) with q | q
    · exact absurd q.1 hv
    · exact q.2.2.1
  · rintro ⟨n, h1, h2⟩ hv
    have m2 := minTo_min (cR (lM l nx) p s f) (if o then T - f else 0) n h1
    have hv' : cR (lM l nx) p s f (minTo (cR (lM l nx) p s f) (if o then T - f else 0)) = 1000000000 := hv
    rcases cR_ok hT (lM_ok hl h) hp hp2 hs hs2 (f := f) (n := n) (by omega) with q | q
    · exact h2 q.2
    · omega
theorem feas_eq {r : Nat → Int32} (h : ROK r) (sh : Int) : ∀ d : Nat, (d : Int) < rd r 8 → ∀ f : Nat, (f : Int) ≤ rd r 0 → (vR r false sh d f = 1000000000 ↔ vR r true sh d f = 1000000000) := by
  obtain ⟨t0, t1, t2, t3, t4, t5, t8, t9⟩ := ROKb h
  intro d
  induction d with
  | zero => intro _ f _; exact Iff.rfl
  | succ d ih =>
    intro hd f hf
    have ok1 := vR_ok h false sh d (by omega)
    have ok2 := vR_ok h true sh d (by omega)
    have l := lg_c h (i := (rd r 8).toNat - 2 - d) (by omega)
    have p := rp_b h (i := (rd r 8).toNat - 2 - d) (by omega)
    have s1 := step_feas (T := (rd r 0).toNat) (l := lg r ((rd r 8).toNat - 2 - d)) (p := rp r ((rd r 8).toNat - 2 - d)) (s := rd r 2) (o := (decide (0 < rp r ((rd r 8).toNat - 2 - d)) && !decide ((((rd r 8).toNat - 2 - d : Nat) : Int) = sh))) (f := f) (by omega) (by omega) ok1 (by omega) (by omega) (by omega) (by omega) (by omega) (by omega)
    have s2 := step_feas (T := (rd r 0).toNat) (l := lg r ((rd r 8).toNat - 2 - d)) (p := 0) (s := 1) (o := (decide (0 < rp r ((rd r 8).toNat - 2 - d)) && !decide ((((rd r 8).toNat - 2 - d : Nat) : Int) = sh))) (f := f) (by omega) (by omega) ok2 (by omega) (by omega) (by omega) (by omega) (by omega) (by omega)
    have same : ∀ x : Nat, (x : Int) ≤ rd r 0 → (lM (lg r ((rd r 8).toNat - 2 - d)) (vR r false sh d) x ≠ 1000000000 ↔ lM (lg r ((rd r 8).toNat - 2 - d)) (vR r true sh d) x ≠ 1000000000) := by
      intro x hx
      unfold lM
      by_cases c : (x : Int) < lg r ((rd r 8).toNat - 2 - d)
      · rw [if_pos c, if_pos c]
      · rw [if_neg c, if_neg c]
        exact not_congr (ih (by omega) _ (by omega))
    have key : stepV (rd r 0).toNat (lg r ((rd r 8).toNat - 2 - d)) (rp r ((rd r 8).toNat - 2 - d)) (rd r 2) (decide (0 < rp r ((rd r 8).toNat - 2 - d)) && !decide ((((rd r 8).toNat - 2 - d : Nat) : Int) = sh)) (vR r false sh d) f ≠ 1000000000 ↔ stepV (rd r 0).toNat (lg r ((rd r 8).toNat - 2 - d)) 0 1 (decide (0 < rp r ((rd r 8).toNat - 2 - d)) && !decide ((((rd r 8).toNat - 2 - d : Nat) : Int) = sh)) (vR r true sh d) f ≠ 1000000000 := by
      rw [s1, s2]
      have hle : (if (decide (0 < rp r ((rd r 8).toNat - 2 - d)) && !decide ((((rd r 8).toNat - 2 - d : Nat) : Int) = sh)) then (rd r 0).toNat - f else 0) ≤ (rd r 0).toNat - f := by split <;> omega
      constructor
      · rintro ⟨n, h1, h2⟩
        exact ⟨n, h1, (same (f + n) (by omega)).mp h2⟩
      · rintro ⟨n, h1, h2⟩
        exact ⟨n, h1, (same (f + n) (by omega)).mpr h2⟩
    have e1 : vR r false sh (d + 1) f = stepV (rd r 0).toNat (lg r ((rd r 8).toNat - 2 - d)) (rp r ((rd r 8).toNat - 2 - d)) (rd r 2) (decide (0 < rp r ((rd r 8).toNat - 2 - d)) && !decide ((((rd r 8).toNat - 2 - d : Nat) : Int) = sh)) (vR r false sh d) f := rfl
    have e2 : vR r true sh (d + 1) f = stepV (rd r 0).toNat (lg r ((rd r 8).toNat - 2 - d)) 0 1 (decide (0 < rp r ((rd r 8).toNat - 2 - d)) && !decide ((((rd r 8).toNat - 2 - d : Nat) : Int) = sh)) (vR r true sh d) f := rfl
    rw [e1, e2]
    constructor
    · intro q
      exact Classical.byContradiction (fun z => (key.mpr z) q)
    · intro q
      exact Classical.byContradiction (fun z => (key.mp z) q)
theorem need_go {F : Nat} {sRo sPl sPc s : MS} {r : Nat → Int32} (hR : RR sRo r) (h : ROK r) (hs : s.2.2.1 15 = r) (hI : lookI r (-1) 0 sPl sPc) (hL : layI r true (-1) 0 s) : ∀ (d k n n' : Nat), (k : Int) + d = rd r 0 + 1 → d < n → d < n' → ∃ v, f_X6_leastBeginning_8 F sRo n (Int32.ofInt (k : Int)) sPl sPc = some (v, sPl, sPc) ∧ f_X11_need_25 F n' (Int32.ofInt (k : Int)) s = some (v, s) := by
  obtain ⟨q0, q1, q2, q3, q4, q5, q8, q9⟩ := RRb hR
  obtain ⟨t0, t1, t2, t3, t4, t5, t8, t9⟩ := ROKb h
  have r0 : s.2.2.1 15 0 = Int32.ofInt (rd r 0) := by rw [hs]; exact rd_e r 0
  intro d
  induction d with
  | zero =>
    intro k n n' hk hn hn'
    cases n with
    | zero => omega
    | succ n =>
      cases n' with
      | zero => omega
      | succ n' =>
        refine ⟨-2, ?_, ?_⟩
        · rw [f_X6_leastBeginning_8]
          simp (disch := omega) only [z_0, z_1, z_2, z_3, z_4, z_5, z_6, z_7, z_8, z_9, z_10, z_11, z_12, z_14, z_18, z_20, z_22, z_24, z_32, z_38, z_40, z_41, z_44, z_48, z_49, z_57, z_59, z_60, z_63, z_65, z_74, z_75, z_81, z_97, z_99, z_104, z_115, z_119, z_122, z_200, z_209, z_210, z_219, z_228, z_255, z_300, z_369, z_999, z_65537, z_268435456, z_1000000000, n_nat, n_add, n_sub, n_mul, n_neg, n_lt, n_le, n_eq, n_ix, n_gd, n_nz, lz_t, bd_some, tn, Int.reduceToNat, tn_1, if_pos, if_neg, if_true, if_false, sI_a, sI_b, sL_a, sL_b, sL_c, wA_a, wA_b, wA_c, wA_d, wB_a, wB_b, wB_c, wB_d, sA_w, sB_w, uN_s, uN_n, up_s, up_n, ul_s, ul_n, p_fst, p_snd, q0]
        · rw [f_X11_need_25]
          simp (disch := omega) only [z_0, z_1, z_2, z_3, z_4, z_5, z_6, z_7, z_8, z_9, z_10, z_11, z_12, z_14, z_18, z_20, z_22, z_24, z_32, z_38, z_40, z_41, z_44, z_48, z_49, z_57, z_59, z_60, z_63, z_65, z_74, z_75, z_81, z_97, z_99, z_104, z_115, z_119, z_122, z_200, z_209, z_210, z_219, z_228, z_255, z_300, z_369, z_999, z_65537, z_268435456, z_1000000000, n_nat, n_add, n_sub, n_mul, n_neg, n_lt, n_le, n_eq, n_ix, n_gd, n_nz, lz_t, bd_some, tn, Int.reduceToNat, tn_1, if_pos, if_neg, if_true, if_false, sI_a, sI_b, sL_a, sL_b, sL_c, wA_a, wA_b, wA_c, wA_d, wB_a, wB_b, wB_c, wB_d, sA_w, sB_w, uN_s, uN_n, up_s, up_n, ul_s, ul_n, p_fst, p_snd, r0]
  | succ d ih =>
    intro k n n' hk hn hn'
    cases n with
    | zero => omega
    | succ n =>
      cases n' with
      | zero => omega
      | succ n' =>
        have ok1 := vR_ok h false (-1) ((rd r 8).toNat - 1) (by omega) k (by omega)
        have ok2 := vR_ok h true (-1) ((rd r 8).toNat - 1) (by omega) k (by omega)
        have fe := feas_eq h (-1) ((rd r 8).toNat - 1) (by omega) k (by omega)
        have hv := hI.1 k (by omega)
        rw [Nat.sub_zero] at hv
        have lf := leastFrom_e (F := F) h hL (x := k) (by omega)
        rw [f_X6_leastBeginning_8, f_X11_need_25]
        by_cases c : vR r false (-1) ((rd r 8).toNat - 1) k = 1000000000
        · obtain ⟨v, v1, v2⟩ := ih (k + 1) n n' (by omega) (by omega) (by omega)
          refine ⟨v, ?_, ?_⟩
          · simp (disch := omega) only [z_0, z_1, z_2, z_3, z_4, z_5, z_6, z_7, z_8, z_9, z_10, z_11, z_12, z_14, z_18, z_20, z_22, z_24, z_32, z_38, z_40, z_41, z_44, z_48, z_49, z_57, z_59, z_60, z_63, z_65, z_74, z_75, z_81, z_97, z_99, z_104, z_115, z_119, z_122, z_200, z_209, z_210, z_219, z_228, z_255, z_300, z_369, z_999, z_65537, z_268435456, z_1000000000, n_nat, n_add, n_sub, n_mul, n_neg, n_lt, n_le, n_eq, n_ix, n_gd, n_nz, lz_t, bd_some, tn, Int.reduceToNat, tn_1, if_pos, if_neg, if_true, if_false, sI_a, sI_b, sL_a, sL_b, sL_c, wA_a, wA_b, wA_c, wA_d, wB_a, wB_b, wB_c, wB_d, sA_w, sB_w, uN_s, uN_n, up_s, up_n, ul_s, ul_n, p_fst, p_snd, y_0, y_1, y_2, y_10, y_20, y_1099511627776, m_add, m_sub, m_mul, m_neg, m_lt, m_le, m_eq, m_of, m_nz, m_to, c_gt, c_ge, c_lt, c_le, c_eq, q0, hv, c, cM]
            exact v1
          · simp (disch := omega) only [z_0, z_1, z_2, z_3, z_4, z_5, z_6, z_7, z_8, z_9, z_10, z_11, z_12, z_14, z_18, z_20, z_22, z_24, z_32, z_38, z_40, z_41, z_44, z_48, z_49, z_57, z_59, z_60, z_63, z_65, z_74, z_75, z_81, z_97, z_99, z_104, z_115, z_119, z_122, z_200, z_209, z_210, z_219, z_228, z_255, z_300, z_369, z_999, z_65537, z_268435456, z_1000000000, n_nat, n_add, n_sub, n_mul, n_neg, n_lt, n_le, n_eq, n_ix, n_gd, n_nz, lz_t, bd_some, tn, Int.reduceToNat, tn_1, if_pos, if_neg, if_true, if_false, sI_a, sI_b, sL_a, sL_b, sL_c, wA_a, wA_b, wA_c, wA_d, wB_a, wB_b, wB_c, wB_d, sA_w, sB_w, uN_s, uN_n, up_s, up_n, ul_s, ul_n, p_fst, p_snd, r0, lf, fe.mp c, ans]
            exact v2
        · have c' : ¬ vR r true (-1) ((rd r 8).toNat - 1) k = 1000000000 := fun z => c (fe.mpr z)
          refine ⟨Int32.ofInt (k : Int), ?_, ?_⟩
          · have e : cM (vR r false (-1) ((rd r 8).toNat - 1) k) = vR r false (-1) ((rd r 8).toNat - 1) k := by
              unfold cM
              rw [if_neg c]
            simp (disch := omega) only [z_0, z_1, z_2, z_3, z_4, z_5, z_6, z_7, z_8, z_9, z_10, z_11, z_12, z_14, z_18, z_20, z_22, z_24, z_32, z_38, z_40, z_41, z_44, z_48, z_49, z_57, z_59, z_60, z_63, z_65, z_74, z_75, z_81, z_97, z_99, z_104, z_115, z_119, z_122, z_200, z_209, z_210, z_219, z_228, z_255, z_300, z_369, z_999, z_65537, z_268435456, z_1000000000, n_nat, n_add, n_sub, n_mul, n_neg, n_lt, n_le, n_eq, n_ix, n_gd, n_nz, lz_t, bd_some, tn, Int.reduceToNat, tn_1, if_pos, if_neg, if_true, if_false, sI_a, sI_b, sL_a, sL_b, sL_c, wA_a, wA_b, wA_c, wA_d, wB_a, wB_b, wB_c, wB_d, sA_w, sB_w, uN_s, uN_n, up_s, up_n, ul_s, ul_n, p_fst, p_snd, y_0, y_1, y_2, y_10, y_20, y_1099511627776, m_add, m_sub, m_mul, m_neg, m_lt, m_le, m_eq, m_of, m_nz, m_to, c_gt, c_ge, c_lt, c_le, c_eq, q0, hv, e]
          · have e : ans (vR r true (-1) ((rd r 8).toNat - 1) k) = vR r true (-1) ((rd r 8).toNat - 1) k := by
              unfold ans
              rw [if_neg c']
            rw [e] at lf
            simp (disch := omega) only [z_0, z_1, z_2, z_3, z_4, z_5, z_6, z_7, z_8, z_9, z_10, z_11, z_12, z_14, z_18, z_20, z_22, z_24, z_32, z_38, z_40, z_41, z_44, z_48, z_49, z_57, z_59, z_60, z_63, z_65, z_74, z_75, z_81, z_97, z_99, z_104, z_115, z_119, z_122, z_200, z_209, z_210, z_219, z_228, z_255, z_300, z_369, z_999, z_65537, z_268435456, z_1000000000, n_nat, n_add, n_sub, n_mul, n_neg, n_lt, n_le, n_eq, n_ix, n_gd, n_nz, lz_t, bd_some, tn, Int.reduceToNat, tn_1, if_pos, if_neg, if_true, if_false, sI_a, sI_b, sL_a, sL_b, sL_c, wA_a, wA_b, wA_c, wA_d, wB_a, wB_b, wB_c, wB_d, sA_w, sB_w, uN_s, uN_n, up_s, up_n, ul_s, ul_n, p_fst, p_snd, r0, lf]
theorem P_need {F : Nat} (hF : 100 ≤ F) {sMn sRo sPl sPc sMo : MS} (hR : RR sRo (sMo.2.2.1 15)) (H : HR (sMo.2.2.1 15) (sMo.1 14)) :
    ∃ v sMn' sPl' sPc' sMo', f_X10_need F sRo sMn sPl sPc = some (v, sMn', sPl', sPc') ∧ f_X11_need F sMo = some (v, sMo') ∧ TU sMn sMo sMn' sMo' ∧ sPl'.2.2.1 = sPl.2.2.1 := by
  unfold f_X10_need f_X11_need
  rw [X9_isTold hR H, bd_some, X11_good', bd_some, gQ_14]
  rcases H with ⟨h1, h2⟩ | ⟨h1, h2⟩
  · obtain ⟨t0, t1, t2, t3, t4, t5, t8, t9⟩ := ROKb h2
    obtain ⟨a, b, k1, k2, k3⟩ := look_e (F := F) hF hR h2 (-1) (by omega) (by omega) sPl sPc
    obtain ⟨s', l1, l2, l3⟩ := lay_e (F := F) hF h2 true (-1) (by omega) (by omega) (gQ sMo) rfl
    have hs' : s'.2.2.1 15 = sMo.2.2.1 15 := by rw [l2.2.2.2 15 (by omega) (by omega), gQ_15]
    obtain ⟨v, v1, v2⟩ := need_go (F := F) hR h2 hs' k2 l3 ((rd (sMo.2.2.1 15) 0).toNat + 1) 0 F F (by omega) (by omega) (by omega)
    have l1' : f_X11_layPlans F 1 (-1) (gQ sMo) = some s' := l1
    have k1' : f_X6_look F sRo (-1) sPl sPc = _ := k1
    have v1' : f_X6_leastBeginning_8 F sRo F 0 a b = _ := v1
    have v2' : f_X11_need_25 F F 0 s' = _ := v2
    unfold f_X6_leastBeginning
    rw [h1, if_neg (by decide), if_neg (by decide), k1', bd_some, v1', bd_some, l1', bd_some, v2', X10_accept, bd_some]
    exact ⟨_, _, _, _, _, rfl, rfl, TU_k (KP_f l2 (by omega) (by omega)), k3⟩
  · rw [h1, if_pos rfl, if_pos rfl]
    exact ⟨-1, _, _, _, _, rfl, rfl, TU_n (KP_r _) 1, rfl⟩
