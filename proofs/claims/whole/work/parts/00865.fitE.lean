/-! calls: fits, fit, went -/
theorem se_e {F : Nat} (hF : 100 ≤ F) {sRo : MS} {r : Nat → Int32} (hR : RR sRo r) (h : ROK r) {f : Nat} (hf : f ≤ nT r) (p2 : Int32) (sRe s : MS) (hr : s.2.2.1 15 = r) :
    ∃ sRe' s', f_X8_search F sRo p2 sRe = some sRe' ∧ f_X11_seekWays F (Int32.ofInt (f : Int)) p2 s = some s' ∧ RE r f sRe' s' ∧ KP s s' ∧ s'.1 35 = p2 := by
  obtain ⟨t0, t1, t2, t3, t4, t5, t8, t9⟩ := ROKb h
  obtain ⟨w1, w2⟩ := wp_b h (i := 0) (by omega)
  have wR := hR.2.2.2.2.1 0 (by show ((0 : Nat) : Int) < rd r 8; omega)
  rw [w2] at wR
  have u1 : UB ((1 : Int32) <<< (Int32.ofInt (wp r 0 : Int) &&& 31)) (fun _ => wp r 0) 1 := by
    refine ⟨?_, ?_, ?_⟩
    · intro j hj
      by_cases c : j < 32
      · rw [b32_one _ w1 j c]; exact decide_eq_false (by omega)
      · unfold b32
        exact BitVec.getLsbD_of_ge _ _ (by omega)
    · intro j hj
      show b32 _ (wp r 0) = true
      rw [b32_one _ w1 _ (by omega)]; exact decide_eq_true rfl
    · have : ∀ t, t < 9 → cnt (b32 ((1 : Int32) <<< (Int32.ofInt ((t : Nat) : Int) &&& 31))) 9 = 1 := by decide
      exact this _ w1
  obtain ⟨sRe', s', z1, z2, -, -, z5, z6, -⟩ := ex_go (F := F) hF hR h hf 8 1 20 20 (fun _ => wp r 0) ((1 : Int32) <<< (Int32.ofInt (wp r 0 : Int) &&& 31)) 0 (sA (sI (sI (sL (sI (sI (sI sRe 0 (Int32.ofInt 0)) 1 (Int32.ofInt 0)) 2 (Int32.ofInt 0)) 3 0) 5 (Int32.ofInt 0)) 6 p2) 7 0 (Int32.ofInt (wp r 0 : Int))) (sA (sI (sI (sI (sI (sI s 39 (Int32.ofInt (f : Int))) 35 p2) 36 (Int32.ofInt 0)) 37 511) 38 (Int32.ofInt 0)) 33 0 (Int32.ofInt (wp r 0 : Int))) (by omega) (by omega) (by omega) (by omega) (by decide) ⟨by
      intro j hj
      have : j = 0 := by omega
      subst this
      refine ⟨?_, w1⟩
      simp (disch := omega) only [sI_a, sI_b, sL_a, sL_b, sL_c, wA_a, wA_b, wA_c, wA_d, wB_a, wB_b, wB_c, wB_d, sA_w, sB_w, uN_s, uN_n, up_s, up_n, ul_s, ul_n, p_fst, p_snd], by
      intro j hj
      have : j = 0 := by omega
      subst this
      refine ⟨?_, w1⟩
      simp (disch := omega) only [sI_a, sI_b, sL_a, sL_b, sL_c, wA_a, wA_b, wA_c, wA_d, wB_a, wB_b, wB_c, wB_d, sA_w, sB_w, uN_s, uN_n, up_s, up_n, ul_s, ul_n, p_fst, p_snd], fun i j hi hj _ => by omega, u1, by
      refine ⟨?_, ⟨0, by omega, ?_⟩, ?_, fun _ => ⟨?_, ?_, ?_, fun _ => ⟨?_, ?_⟩, fun z => absurd ?_ z, fun lt nn => ?_⟩⟩
      · simp (disch := omega) only [sI_a, sI_b, sL_a, sL_b, sL_c, wA_a, wA_b, wA_c, wA_d, wB_a, wB_b, wB_c, wB_d, sA_w, sB_w, uN_s, uN_n, up_s, up_n, ul_s, ul_n, p_fst, p_snd, b64_0]
        rfl
      · simp (disch := omega) only [sI_a, sI_b, sL_a, sL_b, sL_c, wA_a, wA_b, wA_c, wA_d, wB_a, wB_b, wB_c, wB_d, sA_w, sB_w, uN_s, uN_n, up_s, up_n, ul_s, ul_n, p_fst, p_snd]; rfl
      · intro x _
        simp (disch := omega) only [sI_a, sI_b, sL_a, sL_b, sL_c, wA_a, wA_b, wA_c, wA_d, wB_a, wB_b, wB_c, wB_d, sA_w, sB_w, uN_s, uN_n, up_s, up_n, ul_s, ul_n, p_fst, p_snd, b64_0]
      · simp (disch := omega) only [sI_a, sI_b, sL_a, sL_b, sL_c, wA_a, wA_b, wA_c, wA_d, wB_a, wB_b, wB_c, wB_d, sA_w, sB_w, uN_s, uN_n, up_s, up_n, ul_s, ul_n, p_fst, p_snd]
      · simp (disch := omega) only [sI_a, sI_b, sL_a, sL_b, sL_c, wA_a, wA_b, wA_c, wA_d, wB_a, wB_b, wB_c, wB_d, sA_w, sB_w, uN_s, uN_n, up_s, up_n, ul_s, ul_n, p_fst, p_snd]
      · simp (disch := omega) only [sI_a, sI_b, sL_a, sL_b, sL_c, wA_a, wA_b, wA_c, wA_d, wB_a, wB_b, wB_c, wB_d, sA_w, sB_w, uN_s, uN_n, up_s, up_n, ul_s, ul_n, p_fst, p_snd]
      · simp (disch := omega) only [sI_a, sI_b, sL_a, sL_b, sL_c, wA_a, wA_b, wA_c, wA_d, wB_a, wB_b, wB_c, wB_d, sA_w, sB_w, uN_s, uN_n, up_s, up_n, ul_s, ul_n, p_fst, p_snd]
      · simp (disch := omega) only [sI_a, sI_b, sL_a, sL_b, sL_c, wA_a, wA_b, wA_c, wA_d, wB_a, wB_b, wB_c, wB_d, sA_w, sB_w, uN_s, uN_n, up_s, up_n, ul_s, ul_n, p_fst, p_snd]; rfl
      · simp (disch := omega) only [sI_a, sI_b, sL_a, sL_b, sL_c, wA_a, wA_b, wA_c, wA_d, wB_a, wB_b, wB_c, wB_d, sA_w, sB_w, uN_s, uN_n, up_s, up_n, ul_s, ul_n, p_fst, p_snd]; rfl
      · simp (disch := omega) only [sI_a, sI_b, sL_a, sL_b, sL_c, wA_a, wA_b, wA_c, wA_d, wB_a, wB_b, wB_c, wB_d, sA_w, sB_w, uN_s, uN_n, up_s, up_n, ul_s, ul_n, p_fst, p_snd] at lt nn
        rw [i_lt, oi ⟨by omega, by omega⟩] at lt
        omega, by simp (disch := omega) only [sI_a, sI_b, sL_a, sL_b, sL_c, wA_a, wA_b, wA_c, wA_d, wB_a, wB_b, wB_c, wB_d, sA_w, sB_w, uN_s, uN_n, up_s, up_n, ul_s, ul_n, p_fst, p_snd], by simp (disch := omega) only [sI_a, sI_b, sL_a, sL_b, sL_c, wA_a, wA_b, wA_c, wA_d, wB_a, wB_b, wB_c, wB_d, sA_w, sB_w, uN_s, uN_n, up_s, up_n, ul_s, ul_n, p_fst, p_snd]; rfl, by simp (disch := omega) only [sI_a, sI_b, sL_a, sL_b, sL_c, wA_a, wA_b, wA_c, wA_d, wB_a, wB_b, wB_c, wB_d, sA_w, sB_w, uN_s, uN_n, up_s, up_n, ul_s, ul_n, p_fst, p_snd]; exact hr⟩
  refine ⟨sRe', s', ?_, ?_, z5, KP_t ?_ z6.1, ?_⟩
  · unfold f_X8_search f_X9_start
    have z1' : f_X8_extend F sRo 20 (Int32.ofInt 1) ((Int32.ofInt 1) <<< (Int32.ofInt (wp r 0 : Int) &&& 31)) (sA (sI (sI (sL (sI (sI (sI sRe 0 (Int32.ofInt 0)) 1 (Int32.ofInt 0)) 2 (Int32.ofInt 0)) 3 (Int64.ofInt 0)) 5 (Int32.ofInt 0)) 6 p2) 7 0 (Int32.ofInt (wp r 0 : Int))) = some sRe' := z1
    simp (disch := omega) only [z_0, z_1, z_2, z_3, z_4, z_5, z_6, z_7, z_8, z_9, z_10, z_11, z_12, z_14, z_18, z_20, z_22, z_24, z_32, z_38, z_40, z_41, z_44, z_48, z_49, z_57, z_59, z_60, z_63, z_65, z_74, z_75, z_81, z_97, z_99, z_104, z_115, z_119, z_122, z_200, z_209, z_210, z_219, z_228, z_255, z_300, z_369, z_999, z_65537, z_268435456, z_1000000000, n_nat, n_add, n_sub, n_mul, n_neg, n_lt, n_le, n_eq, n_ix, n_gd, n_nz, lz_t, bd_some, tn, Int.reduceToNat, tn_1, if_pos, if_neg, if_true, if_false, y_0, wR, z1']
  · unfold f_X11_seekWays
    have hr' : (sI (sI (sI (sI (sI s 39 (Int32.ofInt (f : Int))) 35 p2) 36 (Int32.ofInt 0)) 37 511) 38 (Int32.ofInt 0)).2.2.1 15 = r := hr
    have pl : f_X11_placeOf F (sI (sI (sI (sI (sI s 39 (Int32.ofInt (f : Int))) 35 p2) 36 (Int32.ofInt 0)) 37 511) 38 (Int32.ofInt 0)) (Int32.ofInt 0) = some (Int32.ofInt (wp r 0 : Int)) := A11_place (F := F) hr' h (i := 0) (by omega)
    have z2' : f_X11_wayFrom F 20 (Int32.ofInt 1) ((Int32.ofInt 1) <<< (Int32.ofInt (wp r 0 : Int) &&& 31)) (sA (sI (sI (sI (sI (sI s 39 (Int32.ofInt (f : Int))) 35 p2) 36 (Int32.ofInt 0)) 37 511) 38 (Int32.ofInt 0)) 33 0 (Int32.ofInt (wp r 0 : Int))) = some s' := z2
    have w0 : (sA (sI (sI (sI (sI (sI s 39 (Int32.ofInt (f : Int))) 35 p2) 36 (Int32.ofInt 0)) 37 511) 38 (Int32.ofInt 0)) 33 0 (Int32.ofInt (wp r 0 : Int))).2.2.1 33 0 = Int32.ofInt (wp r 0 : Int) := by simp (disch := omega) only [sI_a, sI_b, sL_a, sL_b, sL_c, wA_a, wA_b, wA_c, wA_d, wB_a, wB_b, wB_c, wB_d, sA_w, sB_w, uN_s, uN_n, up_s, up_n, ul_s, ul_n, p_fst, p_snd]
    simp (disch := omega) only [z_0, z_1, z_2, z_3, z_4, z_5, z_6, z_7, z_8, z_9, z_10, z_11, z_12, z_14, z_18, z_20, z_22, z_24, z_32, z_38, z_40, z_41, z_44, z_48, z_49, z_57, z_59, z_60, z_63, z_65, z_74, z_75, z_81, z_97, z_99, z_104, z_115, z_119, z_122, z_200, z_209, z_210, z_219, z_228, z_255, z_300, z_369, z_999, z_65537, z_268435456, z_1000000000, n_nat, n_add, n_sub, n_mul, n_neg, n_lt, n_le, n_eq, n_ix, n_gd, n_nz, lz_t, bd_some, tn, Int.reduceToNat, tn_1, if_pos, if_neg, if_true, if_false, pl, w0, z2']
  · exact ⟨fun j hj => by simp (disch := omega) only [sI_a, sI_b, sL_a, sL_b, sL_c, wA_a, wA_b, wA_c, wA_d, wB_a, wB_b, wB_c, wB_d, sA_w, sB_w, uN_s, uN_n, up_s, up_n, ul_s, ul_n, p_fst, p_snd], fun a ha => by simp (disch := omega) only [sI_a, sI_b, sL_a, sL_b, sL_c, wA_a, wA_b, wA_c, wA_d, wB_a, wB_b, wB_c, wB_d, sA_w, sB_w, uN_s, uN_n, up_s, up_n, ul_s, ul_n, p_fst, p_snd]⟩
  · rw [z6.2.2]
    simp (disch := omega) only [sI_a, sI_b, sL_a, sL_b, sL_c, wA_a, wA_b, wA_c, wA_d, wB_a, wB_b, wB_c, wB_d, sA_w, sB_w, uN_s, uN_n, up_s, up_n, ul_s, ul_n, p_fst, p_snd]
theorem has_n {r : Nat → Int32} (h : ROK r) : ∃ n : Nat, n ≤ nT r ∧ rd r 1 = (n : Int) ∧ r 1 = Int32.ofInt (n : Int) := by
  obtain ⟨t0, t1, -⟩ := ROKb h
  obtain ⟨n, hn⟩ := toN t1.1
  refine ⟨n, by unfold nT; omega, hn, ?_⟩
  rw [rd_e r 1, hn]
theorem P_fits {F : Nat} (hF : 100 ≤ F) {sMn sRo sRe sMo : MS} (hR : RR sRo (sMo.2.2.1 15)) (H : HR (sMo.2.2.1 15) (sMo.1 14)) :
    ∃ v sMn' sRe' sMo', f_X10_fits F sRo sMn sRe = some (v, sMn', sRe') ∧ f_X11_fits F sMo = some (v, sMo') ∧ TU sMn sMo sMn' sMo' := by
  unfold f_X10_fits f_X11_fits
  rw [X9_isTold hR H, bd_some, X11_good', bd_some, gQ_14]
  rcases H with ⟨h1, h2⟩ | ⟨h1, h2⟩
  · obtain ⟨n, n1, n2, n3⟩ := has_n h2
    obtain ⟨sRe', s', e1, e2, e3, e4, e5⟩ := se_e (F := F) hF hR h2 n1 (-1) sRe (gQ sMo) (gQ_15 sMo)
    have r1 : (gQ sMo).2.2.1 15 (1 : Int32).toNatClampNeg = Int32.ofInt (n : Int) := n3
    rw [h1, if_neg (by decide), if_neg (by decide), e1, bd_some, X10_accept, bd_some, gd_t (by decide), lz_t, r1, e2, bd_some]
    obtain ⟨g0, -⟩ := e3.2.2.2 n2.symm
    exact ⟨_, _, _, _, rfl, by rw [g0], TU_k e4⟩
  · rw [h1, if_pos rfl, if_pos rfl]
    exact ⟨_, _, _, _, rfl, rfl, TU_n (KP_r _) 1⟩
theorem P_went {F : Nat} (hF : 100 ≤ F) {sMn sRo sRe sMo : MS} (hR : RR sRo (sMo.2.2.1 15)) (H : HR (sMo.2.2.1 15) (sMo.1 14)) (p : Int32) :
    ∃ v sMn' sRe' sMo', f_X10_went F sRo p sMn sRe = some (v, sMn', sRe') ∧ f_X11_went F p sMo = some (v, sMo') ∧ TU sMn sMo sMn' sMo' := by
  unfold f_X10_went f_X11_went f_X10_went_50
  rw [X9_isTold hR H, bd_some, X11_good', bd_some, gQ_14]
  rcases H with ⟨h1, h2⟩ | ⟨h1, h2⟩
  · obtain ⟨n, n1, n2, n3⟩ := has_n h2
    obtain ⟨sRe', s', e1, e2, e3, e4, e5⟩ := se_e (F := F) hF hR h2 n1 (-1) sRe (gQ sMo) (gQ_15 sMo)
    have r1 : (gQ sMo).2.2.1 15 (1 : Int32).toNatClampNeg = Int32.ofInt (n : Int) := n3
    rw [h1, if_neg (c := (1 : Int32) = 0) (by decide), if_neg (c := (1 : Int32) = 0) (by decide), e1, bd_some, X10_accept, bd_some, X10_accept, bd_some, gd_t (by decide), lz_t, r1, e2, bd_some]
    obtain ⟨g0, g1, g2, g3, g4, g5⟩ := e3.2.2.2 n2.symm
    by_cases c : p = 0
    · rw [if_pos c, if_pos c]
      exact ⟨_, _, _, _, rfl, by rw [g1], TU_k e4⟩
    · rw [if_neg c, if_neg c]
      by_cases c0 : s'.1 36 = 0
      · rw [if_pos c0]
        exact ⟨_, _, _, _, rfl, by rw [(g3 c0).2], TU_k e4⟩
      · rw [if_neg c0]
        exact ⟨_, _, _, _, rfl, by rw [g4 c0], TU_k e4⟩
  · rw [h1, if_pos rfl, if_pos rfl]
    exact ⟨_, _, _, _, rfl, rfl, TU_n (KP_r _) 1⟩
theorem P_fit {F : Nat} (hF : 100 ≤ F) {sMn sRo sRe sMo : MS} (hR : RR sRo (sMo.2.2.1 15)) (H : HR (sMo.2.2.1 15) (sMo.1 14)) (p i : Int32) :
    ∃ v sMn' sRe' sMo', f_X10_fit F sRo p i sMn sRe = some (v, sMn', sRe') ∧ f_X11_fit F p i sMo = some (v, sMo') ∧ TU sMn sMo sMn' sMo' := by
  unfold f_X10_fit f_X11_fit f_X10_fit_14 f_X10_fit_58 f_X11_fit_15 f_X11_fit_68
  rw [X9_isTold hR H, bd_some, X11_good', bd_some, gQ_14]
  rcases H with ⟨h1, h2⟩ | ⟨h1, h2⟩
  · obtain ⟨n, n1, n2, n3⟩ := has_n h2
    obtain ⟨z, z1, z2, rfl⟩ := i_ex p
    obtain ⟨y, y1, y2, rfl⟩ := i_ex i
    rw [h1, if_neg (c := (1 : Int32) = 0) (by decide), if_neg (c := (1 : Int32) = 0) (by decide)]
    by_cases c : 0 ≤ z
    · obtain ⟨sRe', s', e1, e2, e3, e4, e5⟩ := se_e (F := F) hF hR h2 n1 (Int32.ofInt z) sRe (gQ sMo) (gQ_15 sMo)
      obtain ⟨-, ⟨m, m1, m2⟩, -, e6⟩ := e3
      obtain ⟨g0, g1, g2, g3, g4, g5⟩ := e6 n2.symm
      have r1 : (gQ sMo).2.2.1 15 1 = Int32.ofInt (n : Int) := n3
      have g0' : sRe'.1 0 = Int32.ofInt (m : Int) := by rw [g0, m2]
      by_cases c1 : (m : Int) ≤ z
      · refine ⟨-1, sI sMn 11 1, sRe', sI s' 11 1, ?_, ?_, TU_n e4 1⟩
        · simp (disch := omega) only [z_0, z_1, z_2, z_3, z_4, z_5, z_6, z_7, z_8, z_9, z_10, z_11, z_12, z_14, z_18, z_20, z_22, z_24, z_32, z_38, z_40, z_41, z_44, z_48, z_49, z_57, z_59, z_60, z_63, z_65, z_74, z_75, z_81, z_97, z_99, z_104, z_115, z_119, z_122, z_200, z_209, z_210, z_219, z_228, z_255, z_300, z_369, z_999, z_65537, z_268435456, z_1000000000, n_nat, n_add, n_sub, n_mul, n_neg, n_lt, n_le, n_eq, n_ix, n_gd, n_nz, lz_t, bd_some, tn, Int.reduceToNat, tn_1, if_pos, if_neg, if_true, if_false, e1, g0', X10_refuse]
        · simp (disch := omega) only [z_0, z_1, z_2, z_3, z_4, z_5, z_6, z_7, z_8, z_9, z_10, z_11, z_12, z_14, z_18, z_20, z_22, z_24, z_32, z_38, z_40, z_41, z_44, z_48, z_49, z_57, z_59, z_60, z_63, z_65, z_74, z_75, z_81, z_97, z_99, z_104, z_115, z_119, z_122, z_200, z_209, z_210, z_219, z_228, z_255, z_300, z_369, z_999, z_65537, z_268435456, z_1000000000, n_nat, n_add, n_sub, n_mul, n_neg, n_lt, n_le, n_eq, n_ix, n_gd, n_nz, lz_t, bd_some, tn, Int.reduceToNat, tn_1, if_pos, if_neg, if_true, if_false, r1, e2, m2, X11_no]
      · obtain ⟨q, k1, k2, k3, k4⟩ := g5 (by
          rw [e5, m2, i_lt, oi ⟨by omega, by omega⟩, oi ⟨by omega, by omega⟩]
          omega) (by
          rw [e5, oi ⟨by omega, by omega⟩]
          exact c)
        by_cases c2 : 0 ≤ y ∧ y < q
        · obtain ⟨j, rfl⟩ := toN c2.1
          obtain ⟨a, b⟩ := k3 j (by omega)
          refine ⟨s'.2.2.1 34 j, sI sMn 11 0, sRe', s', ?_, ?_, TU_k e4⟩
          · simp (disch := omega) only [z_0, z_1, z_2, z_3, z_4, z_5, z_6, z_7, z_8, z_9, z_10, z_11, z_12, z_14, z_18, z_20, z_22, z_24, z_32, z_38, z_40, z_41, z_44, z_48, z_49, z_57, z_59, z_60, z_63, z_65, z_74, z_75, z_81, z_97, z_99, z_104, z_115, z_119, z_122, z_200, z_209, z_210, z_219, z_228, z_255, z_300, z_369, z_999, z_65537, z_268435456, z_1000000000, n_nat, n_add, n_sub, n_mul, n_neg, n_lt, n_le, n_eq, n_ix, n_gd, n_nz, lz_t, bd_some, tn, Int.reduceToNat, tn_1, if_pos, if_neg, if_true, if_false, e1, g0', k2, a, X10_accept]
          · have nlt : ¬ (s'.2.2.1 34 j < Int32.ofInt 0) := by
              rw [i_lt, oi ⟨by omega, by omega⟩]
              omega
            simp (disch := omega) only [z_0, z_1, z_2, z_3, z_4, z_5, z_6, z_7, z_8, z_9, z_10, z_11, z_12, z_14, z_18, z_20, z_22, z_24, z_32, z_38, z_40, z_41, z_44, z_48, z_49, z_57, z_59, z_60, z_63, z_65, z_74, z_75, z_81, z_97, z_99, z_104, z_115, z_119, z_122, z_200, z_209, z_210, z_219, z_228, z_255, z_300, z_369, z_999, z_65537, z_268435456, z_1000000000, n_nat, n_add, n_sub, n_mul, n_neg, n_lt, n_le, n_eq, n_ix, n_gd, n_nz, lz_t, bd_some, tn, Int.reduceToNat, tn_1, if_pos, if_neg, if_true, if_false, r1, e2, m2, f_X11_in, if_neg nlt]
        · refine ⟨-1, sI sMn 11 1, sRe', sI s' 11 1, ?_, ?_, TU_n e4 1⟩
          · by_cases c3 : y < 0
            · simp (disch := omega) only [z_0, z_1, z_2, z_3, z_4, z_5, z_6, z_7, z_8, z_9, z_10, z_11, z_12, z_14, z_18, z_20, z_22, z_24, z_32, z_38, z_40, z_41, z_44, z_48, z_49, z_57, z_59, z_60, z_63, z_65, z_74, z_75, z_81, z_97, z_99, z_104, z_115, z_119, z_122, z_200, z_209, z_210, z_219, z_228, z_255, z_300, z_369, z_999, z_65537, z_268435456, z_1000000000, n_nat, n_add, n_sub, n_mul, n_neg, n_lt, n_le, n_eq, n_ix, n_gd, n_nz, lz_t, bd_some, tn, Int.reduceToNat, tn_1, if_pos, if_neg, if_true, if_false, e1, g0', X10_refuse]
            · simp (disch := omega) only [z_0, z_1, z_2, z_3, z_4, z_5, z_6, z_7, z_8, z_9, z_10, z_11, z_12, z_14, z_18, z_20, z_22, z_24, z_32, z_38, z_40, z_41, z_44, z_48, z_49, z_57, z_59, z_60, z_63, z_65, z_74, z_75, z_81, z_97, z_99, z_104, z_115, z_119, z_122, z_200, z_209, z_210, z_219, z_228, z_255, z_300, z_369, z_999, z_65537, z_268435456, z_1000000000, n_nat, n_add, n_sub, n_mul, n_neg, n_lt, n_le, n_eq, n_ix, n_gd, n_nz, lz_t, bd_some, tn, Int.reduceToNat, tn_1, if_pos, if_neg, if_true, if_false, e1, g0', k2, X10_refuse]
          · by_cases c3 : y < 0
            · simp (disch := omega) only [z_0, z_1, z_2, z_3, z_4, z_5, z_6, z_7, z_8, z_9, z_10, z_11, z_12, z_14, z_18, z_20, z_22, z_24, z_32, z_38, z_40, z_41, z_44, z_48, z_49, z_57, z_59, z_60, z_63, z_65, z_74, z_75, z_81, z_97, z_99, z_104, z_115, z_119, z_122, z_200, z_209, z_210, z_219, z_228, z_255, z_300, z_369, z_999, z_65537, z_268435456, z_1000000000, n_nat, n_add, n_sub, n_mul, n_neg, n_lt, n_le, n_eq, n_ix, n_gd, n_nz, lz_t, bd_some, tn, Int.reduceToNat, tn_1, if_pos, if_neg, if_true, if_false, r1, e2, m2, f_X11_in, X11_no]
            · by_cases c4 : 8 < y
              · simp (disch := omega) only [z_0, z_1, z_2, z_3, z_4, z_5, z_6, z_7, z_8, z_9, z_10, z_11, z_12, z_14, z_18, z_20, z_22, z_24, z_32, z_38, z_40, z_41, z_44, z_48, z_49, z_57, z_59, z_60, z_63, z_65, z_74, z_75, z_81, z_97, z_99, z_104, z_115, z_119, z_122, z_200, z_209, z_210, z_219, z_228, z_255, z_300, z_369, z_999, z_65537, z_268435456, z_1000000000, n_nat, n_add, n_sub, n_mul, n_neg, n_lt, n_le, n_eq, n_ix, n_gd, n_nz, lz_t, bd_some, tn, Int.reduceToNat, tn_1, if_pos, if_neg, if_true, if_false, r1, e2, m2, f_X11_in, X11_no]
              · obtain ⟨j, rfl⟩ := toN (show 0 ≤ y by omega)
                have kj := k4 j (by omega) (by omega)
                simp (disch := omega) only [z_0, z_1, z_2, z_3, z_4, z_5, z_6, z_7, z_8, z_9, z_10, z_11, z_12, z_14, z_18, z_20, z_22, z_24, z_32, z_38, z_40, z_41, z_44, z_48, z_49, z_57, z_59, z_60, z_63, z_65, z_74, z_75, z_81, z_97, z_99, z_104, z_115, z_119, z_122, z_200, z_209, z_210, z_219, z_228, z_255, z_300, z_369, z_999, z_65537, z_268435456, z_1000000000, n_nat, n_add, n_sub, n_mul, n_neg, n_lt, n_le, n_eq, n_ix, n_gd, n_nz, lz_t, bd_some, tn, Int.reduceToNat, tn_1, if_pos, if_neg, if_true, if_false, r1, e2, m2, f_X11_in, kj, X11_no]
    · refine ⟨-1, sI sMn 11 1, sRe, sI (gQ sMo) 11 1, ?_, ?_, TU_n (KP_r _) 1⟩
      · simp (disch := omega) only [z_0, z_1, z_2, z_3, z_4, z_5, z_6, z_7, z_8, z_9, z_10, z_11, z_12, z_14, z_18, z_20, z_22, z_24, z_32, z_38, z_40, z_41, z_44, z_48, z_49, z_57, z_59, z_60, z_63, z_65, z_74, z_75, z_81, z_97, z_99, z_104, z_115, z_119, z_122, z_200, z_209, z_210, z_219, z_228, z_255, z_300, z_369, z_999, z_65537, z_268435456, z_1000000000, n_nat, n_add, n_sub, n_mul, n_neg, n_lt, n_le, n_eq, n_ix, n_gd, n_nz, lz_t, bd_some, tn, Int.reduceToNat, tn_1, if_pos, if_neg, if_true, if_false, X10_refuse]
      · simp (disch := omega) only [z_0, z_1, z_2, z_3, z_4, z_5, z_6, z_7, z_8, z_9, z_10, z_11, z_12, z_14, z_18, z_20, z_22, z_24, z_32, z_38, z_40, z_41, z_44, z_48, z_49, z_57, z_59, z_60, z_63, z_65, z_74, z_75, z_81, z_97, z_99, z_104, z_115, z_119, z_122, z_200, z_209, z_210, z_219, z_228, z_255, z_300, z_369, z_999, z_65537, z_268435456, z_1000000000, n_nat, n_add, n_sub, n_mul, n_neg, n_lt, n_le, n_eq, n_ix, n_gd, n_nz, lz_t, bd_some, tn, Int.reduceToNat, tn_1, if_pos, if_neg, if_true, if_false, X11_no]
  · rw [h1, if_pos rfl, if_pos rfl]
    exact ⟨_, _, _, _, rfl, rfl, TU_n (KP_r _) 1⟩
