/-! calls: net, worth -/
theorem nt6 {F : Nat} {s : MS} {r : Nat → Int32} (h : ROK r) (hr : s.2.2.1 15 = r) {M Q : Nat → Nat → Int} (hM : RG M) (hs : rep s M Q) {p : Nat} (hp : p < 9) : ∀ (d k n : Nat), k + d = nT r + 1 → d < n → f_X11_netTo_6 F s (Int32.ofInt (p : Int)) n (Int32.ofInt (mnF (M p) k)) (Int32.ofInt (k : Int)) = some (Int32.ofInt (ans (mnF (M p) (nT r + 1)))) := by
  obtain ⟨c1, c2, c3, c4, c5⟩ := nTP h
  have r0 : s.2.2.1 15 0 = Int32.ofInt (rd r 0) := by rw [hr]; exact rd_e r 0
  have mb : ∀ k, 0 ≤ mnF (M p) k ∧ mnF (M p) k ≤ 1000000000 := by
    intro k
    induction k with
    | zero => exact (by decide : (0 : Int) ≤ 1000000000 ∧ (1000000000 : Int) ≤ 1000000000)
    | succ k ih =>
      have := hM p k
      rw [mnF_s]
      split <;> omega
  intro d
  induction d with
  | zero =>
    intro k n hk hn
    cases n with
    | zero => omega
    | succ n =>
      have : k = nT r + 1 := hk
      subst this
      have := mb (nT r + 1)
      rw [f_X11_netTo_6]
      unfold ans
      by_cases c : mnF (M p) (nT r + 1) = 1000000000
      · simp (disch := omega) only [z_0, z_1, z_2, z_3, z_4, z_5, z_6, z_7, z_8, z_9, z_10, z_11, z_12, z_14, z_18, z_20, z_22, z_24, z_32, z_38, z_40, z_41, z_44, z_48, z_49, z_57, z_59, z_60, z_63, z_65, z_74, z_75, z_81, z_97, z_99, z_104, z_115, z_119, z_122, z_200, z_209, z_210, z_219, z_228, z_255, z_300, z_369, z_999, z_65537, z_268435456, z_1000000000, n_nat, n_add, n_sub, n_mul, n_neg, n_lt, n_le, n_eq, n_ix, n_gd, n_nz, lz_t, bd_some, tn, Int.reduceToNat, tn_1, if_pos, if_neg, if_true, if_false, r0, f_X11_netTo_53]
      · simp (disch := omega) only [z_0, z_1, z_2, z_3, z_4, z_5, z_6, z_7, z_8, z_9, z_10, z_11, z_12, z_14, z_18, z_20, z_22, z_24, z_32, z_38, z_40, z_41, z_44, z_48, z_49, z_57, z_59, z_60, z_63, z_65, z_74, z_75, z_81, z_97, z_99, z_104, z_115, z_119, z_122, z_200, z_209, z_210, z_219, z_228, z_255, z_300, z_369, z_999, z_65537, z_268435456, z_1000000000, n_nat, n_add, n_sub, n_mul, n_neg, n_lt, n_le, n_eq, n_ix, n_gd, n_nz, lz_t, bd_some, tn, Int.reduceToNat, tn_1, if_pos, if_neg, if_true, if_false, r0, f_X11_netTo_53]
  | succ d ih =>
    intro k n hk hn
    cases n with
    | zero => omega
    | succ n =>
      have nx := ih (k + 1) n (by omega) (by omega)
      have := mb k
      have mk := hM p k
      have cell := (hs p k hp (by omega)).1
      rw [mnF_s] at nx
      rw [f_X11_netTo_6]
      by_cases c : M p k < mnF (M p) k
      · rw [if_pos c] at nx
        simp (disch := omega) only [z_0, z_1, z_2, z_3, z_4, z_5, z_6, z_7, z_8, z_9, z_10, z_11, z_12, z_14, z_18, z_20, z_22, z_24, z_32, z_38, z_40, z_41, z_44, z_48, z_49, z_57, z_59, z_60, z_63, z_65, z_74, z_75, z_81, z_97, z_99, z_104, z_115, z_119, z_122, z_200, z_209, z_210, z_219, z_228, z_255, z_300, z_369, z_999, z_65537, z_268435456, z_1000000000, n_nat, n_add, n_sub, n_mul, n_neg, n_lt, n_le, n_eq, n_ix, n_gd, n_nz, lz_t, bd_some, tn, Int.reduceToNat, tn_1, if_pos, if_neg, if_true, if_false, r0, tn_41, cell, f_X11_netTo_46]
        exact nx
      · rw [if_neg c] at nx
        simp (disch := omega) only [z_0, z_1, z_2, z_3, z_4, z_5, z_6, z_7, z_8, z_9, z_10, z_11, z_12, z_14, z_18, z_20, z_22, z_24, z_32, z_38, z_40, z_41, z_44, z_48, z_49, z_57, z_59, z_60, z_63, z_65, z_74, z_75, z_81, z_97, z_99, z_104, z_115, z_119, z_122, z_200, z_209, z_210, z_219, z_228, z_255, z_300, z_369, z_999, z_65537, z_268435456, z_1000000000, n_nat, n_add, n_sub, n_mul, n_neg, n_lt, n_le, n_eq, n_ix, n_gd, n_nz, lz_t, bd_some, tn, Int.reduceToNat, tn_1, if_pos, if_neg, if_true, if_false, r0, tn_41, cell, f_X11_netTo_46]
        exact nx
theorem netTo_e {F : Nat} (hF : 100 ≤ F) {s : MS} {r : Nat → Int32} (h : ROK r) (hr : s.2.2.1 15 = r) {M Q : Nat → Nat → Int} (hM : RG M) (hs : rep s M Q) {p : Nat} (hp : p < 9) : f_X11_netTo F s (Int32.ofInt (p : Int)) = some (Int32.ofInt (ans (mnF (M p) (nT r + 1)))) := by
  obtain ⟨c1, c2, c3, c4, c5⟩ := nTP h
  exact nt6 h hr hM hs hp (nT r + 1) 0 F (by omega) (by omega)
theorem mp_mn (mp : Int32) : mp = 0 ↔ (!decide (mp = 0)) = false := by
  by_cases c : mp = 0
  · simp [c]
  · simp [c]
/-- both lay the net and find the least -/
theorem net_b {F : Nat} (hF : 800000000000 ≤ F) {sRo : MS} {r : Nat → Int32} (hR : RR sRo r) (h : ROK r) (mp : Int32) (s : MS) (hr : s.2.2.1 15 = r) (sNe sNc : MS) :
    ∃ (v : Int32) (sNe' sNc' s' : MS), f_X5_least F sRo mp sNe sNc = some (v, sNe', sNc') ∧ f_X11_layNet F mp s = some s' ∧ KP s s' ∧ f_X11_lastStation F s' = some (Int32.ofInt (((rd r 8).toNat - 1 : Nat) : Int)) ∧ f_X11_placeOf F s' (Int32.ofInt (((rd r 8).toNat - 1 : Nat) : Int)) = some (Int32.ofInt (wp r ((rd r 8).toNat - 1) : Int)) ∧ f_X11_netTo F s' (Int32.ofInt (wp r ((rd r 8).toNat - 1) : Int)) = some v := by
  obtain ⟨t0, t1, t2, t3, t4, t5, t8, t9⟩ := ROKb h
  obtain ⟨c1, c2, c3, c4, c5⟩ := nTP h
  obtain ⟨s', M, Q, l1, l2, l3, l4, l5, l6, l7⟩ := layNet_e (F := F) hF h (mp_mn mp) s hr
  have hr' : s'.2.2.1 15 = r := (l7.2 15 (by omega)).trans hr
  obtain ⟨s1, s2, k1⟩ := ls2 (F := F) (by omega) hR h (mp_mn mp) l3 l6 l5 (nP r) 0 F sNe sNc (by omega) (by omega) (fun p f hp _ => by omega)
  have w9 := (wp_b h (i := (rd r 8).toNat - 1) (by omega)).1
  refine ⟨_, s1, s2, s', k1, l1, l7, ?_, A11_place hr' h (by omega), netTo_e (by omega) h hr' l3 l2 w9⟩
  rw [A11_last hr' h]
  congr 2
  omega
theorem P_net {F : Nat} (hF : 800000000000 ≤ F) {sMn sRo sNe sNc sMo : MS} (hR : RR sRo (sMo.2.2.1 15)) (H : HR (sMo.2.2.1 15) (sMo.1 14)) (p : Int32) :
    ∃ v sMn' sNe' sNc' sMo', f_X10_net F sRo p sMn sNe sNc = some (v, sMn', sNe', sNc') ∧ f_X11_net F p sMo = some (v, sMo') ∧ TU sMn sMo sMn' sMo' := by
  unfold f_X10_net f_X11_net
  rw [X9_isTold hR H, bd_some, X11_good', bd_some, gQ_14]
  rcases H with ⟨h1, h2⟩ | ⟨h1, h2⟩
  · obtain ⟨v, s1, s2, s', e1, e2, e3, e4, e5, e6⟩ := net_b (F := F) hF hR h2 p (gQ sMo) (gQ_15 sMo) sNe sNc
    rw [h1, if_neg (by decide), if_neg (by decide), e1, bd_some, X10_accept, bd_some, e2, bd_some, e4, bd_some, e5, bd_some, e6, bd_some]
    exact ⟨_, _, _, _, _, rfl, rfl, TU_k e3⟩
  · rw [h1, if_pos rfl, if_pos rfl]
    exact ⟨_, _, _, _, _, rfl, rfl, TU_n (KP_r _) 1⟩
theorem P_worth {F : Nat} (hF : 800000000000 ≤ F) {sMn sRo sPl sPc sNe sNc sMo : MS} (hR : RR sRo (sMo.2.2.1 15)) (H : HR (sMo.2.2.1 15) (sMo.1 14)) :
    ∃ v sMn' sPl' sPc' sNe' sNc' sMo', f_X10_worth F sRo sMn sPl sPc sNe sNc = some (v, sMn', sPl', sPc', sNe', sNc') ∧ f_X11_worth F sMo = some (v, sMo') ∧ TU sMn sMo sMn' sMo' ∧ sPl'.2.2.1 = sPl.2.2.1 := by
  unfold f_X10_worth f_X11_worth f_X10_worth_55 f_X10_worth_63 f_X11_worth_64
  rw [X9_isTold hR H, bd_some, X11_good', bd_some, gQ_14]
  rcases H with ⟨h1, h2⟩ | ⟨h1, h2⟩
  · obtain ⟨t0, t1, t2, t3, t4, t5, t8, t9⟩ := ROKb h2
    obtain ⟨a, b, k1, k2, k3⟩ := leastCost_e (F := F) (by omega) hR h2 (-1) (by omega) (by omega) sPl sPc
    obtain ⟨s', l1, l2, l3⟩ := lay_e (F := F) (by omega) h2 false (-1) (by omega) (by omega) (gQ sMo) rfl
    have lf := leastFrom_e (F := F) h2 l3 (x := (rd (sMo.2.2.1 15) 1).toNat) (by omega)
    have s15 : s'.2.2.1 15 = sMo.2.2.1 15 := l2.2.2.2 15 (by omega) (by omega)
    have r1 : s'.2.2.1 15 (1 : Int32).toNatClampNeg = Int32.ofInt (((rd (sMo.2.2.1 15) 1).toNat : Nat) : Int) := by
      show s'.2.2.1 15 1 = _
      rw [s15, rd_e (sMo.2.2.1 15) 1]
      congr 1
      omega
    have l1' : f_X11_layPlans F 0 (-1) (gQ sMo) = some s' := l1
    have k1' : f_X6_leastCost F sRo (-1) sPl sPc = _ := k1
    obtain ⟨v, s1, s2, s3, e1, e2, e3, e4, e5, e6⟩ := net_b (F := F) hF hR h2 0 s' s15 sNe sNc
    rw [h1, if_neg (by decide), if_neg (by decide), k1', bd_some, e1, bd_some, X10_accept, bd_some, X10_accept, bd_some, l1', bd_some, gd_t (by decide), lz_t, r1, lf, bd_some, e2, bd_some, e4, bd_some, e5, bd_some, e6, bd_some]
    have kk : KP (gQ sMo) s3 := KP_t (KP_f l2 (by omega) (by omega)) e3
    generalize Int32.ofInt (ans (vR (sMo.2.2.1 15) false (-1) ((rd (sMo.2.2.1 15) 8).toNat - 1) (rd (sMo.2.2.1 15) 1).toNat)) = A
    show ∃ v_1 sMn' sPl' sPc' sNe' sNc' sMo', (if A = -2 then _ else if v = -2 then _ else _) = _ ∧ _
    by_cases c1 : A = -2
    · rw [if_pos c1, if_pos c1]
      exact ⟨_, _, _, _, _, _, _, rfl, rfl, TU_k kk, k3⟩
    · rw [if_neg c1, if_neg c1]
      by_cases c2 : v = -2
      · rw [if_pos c2, if_pos c2]
        exact ⟨_, _, _, _, _, _, _, rfl, rfl, TU_k kk, k3⟩
      · rw [if_neg c2, if_neg c2]
        exact ⟨_, _, _, _, _, _, _, rfl, rfl, TU_k kk, k3⟩
  · rw [h1, if_pos rfl, if_pos rfl]
    exact ⟨_, _, _, _, _, _, _, rfl, rfl, TU_n (KP_r _) 1, rfl⟩
