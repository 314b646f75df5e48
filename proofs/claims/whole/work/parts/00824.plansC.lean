/-! look: the class's plans from the last station back -/
def lookI (r : Nat → Int32) (sh : Int) (e : Nat) (sPl sPc : MS) : Prop :=
  (∀ x : Nat, x ≤ (rd r 0).toNat → sPl.2.2.2 1 x = Int64.ofInt (cM (vR r false sh ((rd r 8).toNat - 1 - e) x))) ∧
  (∀ i : Nat, e ≤ i → (i : Int) + 1 < rd r 8 → ∀ x : Nat, x ≤ (rd r 0).toNat → vR r false sh ((rd r 8).toNat - 1 - i) x ≠ 1000000000 → sPc.2.2.1 i x = Int32.ofInt ((x + bR r false sh ((rd r 8).toNat - 2 - i) x : Nat) : Int))
theorem look_go {F : Nat} (hF : 100 ≤ F) {sRo : MS} {r : Nat → Int32} (hR : RR sRo r) (h : ROK r) (sh : Int) (hsh : -1 ≤ sh) (hsh2 : sh < 9) : ∀ (e n : Nat) (sPl sPc : MS), (e : Int) < rd r 8 → e < n → lookI r sh e sPl sPc →
    ∃ sPl' sPc', f_X6_look_15 F sRo (Int32.ofInt sh) n (Int32.ofInt ((e : Int) - 1)) sPl sPc = some (sPl', sPc') ∧ lookI r sh 0 sPl' sPc' ∧ sPl'.2.2.1 = sPl.2.2.1 := by
  obtain ⟨q0, q1, q2, q3, q4, q5, q8, q9⟩ := RRb hR
  obtain ⟨t0, t1, t2, t3, t4, t5, t8, t9⟩ := ROKb h
  intro e
  induction e with
  | zero =>
    intro n sPl sPc he hn hI
    cases n with
    | zero => omega
    | succ n =>
      refine ⟨sPl, sPc, ?_, hI, rfl⟩
      rw [f_X6_look_15]
      simp (disch := omega) only [z_0, z_1, z_2, z_3, z_4, z_5, z_6, z_7, z_8, z_9, z_10, z_11, z_12, z_14, z_18, z_20, z_22, z_24, z_32, z_38, z_40, z_41, z_44, z_48, z_49, z_57, z_59, z_60, z_63, z_65, z_74, z_75, z_81, z_97, z_99, z_104, z_115, z_119, z_122, z_200, z_209, z_210, z_219, z_228, z_255, z_300, z_369, z_999, z_65537, z_268435456, z_1000000000, n_nat, n_add, n_sub, n_mul, n_neg, n_lt, n_le, n_eq, n_ix, n_gd, n_nz, lz_t, bd_some, tn, Int.reduceToNat, tn_1, if_pos, if_neg, if_true, if_false, sI_a, sI_b, sL_a, sL_b, sL_c, wA_a, wA_b, wA_c, wA_d, wB_a, wB_b, wB_c, wB_d, sA_w, sB_w, uN_s, uN_n, up_s, up_n, ul_s, ul_n, p_fst, p_snd]
  | succ e ih =>
    intro n sPl sPc he hn hI
    cases n with
    | zero => omega
    | succ n =>
      obtain ⟨i1, i2⟩ := hI
      have e1 : ((e + 1 : Nat) : Int) - 1 = e := by omega
      have l := lg_c h (i := e) (by omega)
      have p := rp_b h (i := e) (by omega)
      have hd : (rd r 8).toNat - 1 - e = ((rd r 8).toNat - 1 - (e + 1)) + 1 := by omega
      have hd2 : (rd r 8).toNat - 2 - e = (rd r 8).toNat - 1 - (e + 1) := by omega
      have hi : (rd r 8).toNat - 2 - ((rd r 8).toNat - 1 - (e + 1)) = e := by omega
      have ok := vR_ok h false sh ((rd r 8).toNat - 1 - (e + 1)) (by omega)
      have okl := lM_ok (l := lg r e) (by omega) ok
      -- leaving
      obtain ⟨g, g1, g2, g3⟩ := leave_go (F := F) (rd r 0) (lg r e) 1099511627776 (fun x => cM (vR r false sh ((rd r 8).toNat - 1 - (e + 1)) x)) (by omega) (by omega) (by omega) ((rd r 0).toNat + 1) F (sPl.2.2.2 1) (by omega) (by omega) (fun x hx => i1 x (by omega))
      have g1' : f_X4_leave F 41 (Int32.ofInt (rd r 0)) (Int32.ofInt (lg r e)) (Int64.ofInt 1099511627776) (sPl.2.2.2 1) = some g := by
        rw [show (((rd r 0).toNat + 1 : Nat) : Int) - 1 = rd r 0 by omega] at g1
        exact g1
      have g2' : ∀ x : Nat, x ≤ (rd r 0).toNat → g x = Int64.ofInt (cM (lM (lg r e) (vR r false sh ((rd r 8).toNat - 1 - (e + 1))) x)) := by
        intro x hx
        rw [g2 x (by omega)]
        unfold lM
        by_cases c : (x : Int) < lg r e
        · rw [if_pos c, if_pos c]; rfl
        · rw [if_neg c, if_neg c]
      rw [f_X6_look_15, e1]
      -- what a step is
      have vE : ∀ x, vR r false sh ((rd r 8).toNat - 1 - e) x = stepV (rd r 0).toNat (lg r e) (rp r e) (rd r 2) (decide (0 < rp r e) && !decide ((e : Int) = sh)) (vR r false sh ((rd r 8).toNat - 1 - (e + 1))) x := by
        intro x
        rw [hd]
        show stepV _ _ _ _ _ _ _ = _
        rw [hi]
        rfl
      have bE : ∀ x, bR r false sh ((rd r 8).toNat - 2 - e) x = stepB (rd r 0).toNat (lg r e) (rp r e) (rd r 2) (decide (0 < rp r e) && !decide ((e : Int) = sh)) (vR r false sh ((rd r 8).toNat - 1 - (e + 1))) x := by
        intro x
        rw [hd2]
        unfold bR
        rw [hi]
        rfl
      by_cases c : 0 < rp r e ∧ (e : Int) ≠ sh
      · -- an open pump
        have hop : (decide (0 < rp r e) && !decide ((e : Int) = sh)) = true := by simp [c.1, c.2]
        rw [hop] at vE bE
        obtain ⟨ch, k1, k2, k3⟩ := choose_go (F := F) (rd r 0).toNat (fun x => cM (lM (lg r e) (vR r false sh ((rd r 8).toNat - 1 - (e + 1))) x)) (rp r e) (rd r 2) (by omega) (by omega) (by omega) (by omega) (by omega) g (fun x hx => ⟨g2' x hx, by
          have := okl x hx
          show 0 ≤ cM _
          unfold cM
          split <;> omega, by
          have := okl x hx
          show cM _ ≤ _
          unfold cM
          split <;> omega⟩) ((rd r 0).toNat + 1) (rd r 0).toNat F (sPc.2.2.1 e) (by omega) (by omega) (by omega) (by omega) (by omega)
        have k1' : f_X4_choose F 41 g 41 (Int32.ofInt (rd r 0)) (Int64.ofInt (rp r e)) (Int64.ofInt (rd r 2)) (sPc.2.2.1 e) = some ch := by
          rw [show (((rd r 0).toNat + 1 : Nat) : Int) - 1 = rd r 0 by omega, show (((rd r 0).toNat : Nat) : Int) = rd r 0 by omega] at k1
          exact k1
        have step := fun (f : Nat) (hf : f ≤ (rd r 0).toNat) => step_cls (p := rp r e) (s := rd r 2) (by omega) (by omega) ok (by omega) (by omega) (by omega) (by omega) (by omega) hf (lv' := fun x => cM (lM (lg r e) (vR r false sh ((rd r 8).toNat - 1 - (e + 1))) x)) (fun x hx => rfl)
        obtain ⟨w, w1, w2, w3⟩ := buyBest_go (F := F) (sRo := sRo) (T := (rd r 0).toNat) (rp r e) (rd r 2) (Int32.ofInt (e : Int)) (fun x => cM (lM (lg r e) (vR r false sh ((rd r 8).toNat - 1 - (e + 1))) x)) (fun x => minTo (cC (fun x => cM (lM (lg r e) (vR r false sh ((rd r 8).toNat - 1 - (e + 1))) x)) (rp r e) (rd r 2) x) ((rd r 0).toNat - x)) ch (by omega) (by rw [q0]; congr 1; omega) q2 (by omega) (by omega) (by omega) (by omega) (fun x hx => ⟨k2 x (by omega), by
            have := minTo_le (cC (fun x => cM (lM (lg r e) (vR r false sh ((rd r 8).toNat - 1 - (e + 1))) x)) (rp r e) (rd r 2) x) ((rd r 0).toNat - x)
            omega⟩) ((rd r 0).toNat + 1) 0 F (wB sPl 1 g) (by omega) (by omega) (fun x _ hx => by
            simp (disch := omega) only [sI_a, sI_b, sL_a, sL_b, sL_c, wA_a, wA_b, wA_c, wA_d, wB_a, wB_b, wB_c, wB_d, sA_w, sB_w, uN_s, uN_n, up_s, up_n, ul_s, ul_n, p_fst, p_snd]
            exact g2' x hx)
        have w1' : f_X6_buyBest F sRo 41 (Int32.ofInt (e : Int)) (wB sPl 1 g) (sPc.2.2.1 e) = some (wB (wB sPl 1 g) 1 w, ch) := by
          unfold f_X6_buyBest
          simp (disch := omega) only [z_0, z_1, z_2, z_3, z_4, z_5, z_6, z_7, z_8, z_9, z_10, z_11, z_12, z_14, z_18, z_20, z_22, z_24, z_32, z_38, z_40, z_41, z_44, z_48, z_49, z_57, z_59, z_60, z_63, z_65, z_74, z_75, z_81, z_97, z_99, z_104, z_115, z_119, z_122, z_200, z_209, z_210, z_219, z_228, z_255, z_300, z_369, z_999, z_65537, z_268435456, z_1000000000, n_nat, n_add, n_sub, n_mul, n_neg, n_lt, n_le, n_eq, n_ix, n_gd, n_nz, lz_t, bd_some, tn, Int.reduceToNat, tn_1, if_pos, if_neg, if_true, if_false, sI_a, sI_b, sL_a, sL_b, sL_c, wA_a, wA_b, wA_c, wA_d, wB_a, wB_b, wB_c, wB_d, sA_w, sB_w, uN_s, uN_n, up_s, up_n, ul_s, ul_n, p_fst, p_snd, y_0, y_1, y_2, y_10, y_20, y_1099511627776, m_add, m_sub, m_mul, m_neg, m_lt, m_le, m_eq, m_of, m_nz, m_to, c_gt, c_ge, c_lt, c_le, c_eq, A9_price hR h, q0, q2, k1']
          exact w1
        obtain ⟨a, b, j1, j2, j3⟩ := ih n (wB (wB sPl 1 g) 1 w) (wA sPc e ch) (by omega) (by omega) ⟨by
          intro x hx
          simp (disch := omega) only [sI_a, sI_b, sL_a, sL_b, sL_c, wA_a, wA_b, wA_c, wA_d, wB_a, wB_b, wB_c, wB_d, sA_w, sB_w, uN_s, uN_n, up_s, up_n, ul_s, ul_n, p_fst, p_snd]
          rw [w2 x (by omega) hx, (step x hx).1, vE], by
          intro i hi1 hi2 x hx hv
          by_cases ei : i = e
          · subst ei
            simp (disch := omega) only [sI_a, sI_b, sL_a, sL_b, sL_c, wA_a, wA_b, wA_c, wA_d, wB_a, wB_b, wB_c, wB_d, sA_w, sB_w, uN_s, uN_n, up_s, up_n, ul_s, ul_n, p_fst, p_snd]
            rw [vE] at hv
            rw [k2 x (by omega), bE, (step x hx).2 hv]
          · simp (disch := omega) only [sI_a, sI_b, sL_a, sL_b, sL_c, wA_a, wA_b, wA_c, wA_d, wB_a, wB_b, wB_c, wB_d, sA_w, sB_w, uN_s, uN_n, up_s, up_n, ul_s, ul_n, p_fst, p_snd]
            exact i2 i (by omega) hi2 x hx hv⟩
        refine ⟨a, b, ?_, j2, by rw [j3]; simp (disch := omega) only [sI_a, sI_b, sL_a, sL_b, sL_c, wA_a, wA_b, wA_c, wA_d, wB_a, wB_b, wB_c, wB_d, sA_w, sB_w, uN_s, uN_n, up_s, up_n, ul_s, ul_n, p_fst, p_snd]⟩
        simp (disch := omega) only [z_0, z_1, z_2, z_3, z_4, z_5, z_6, z_7, z_8, z_9, z_10, z_11, z_12, z_14, z_18, z_20, z_22, z_24, z_32, z_38, z_40, z_41, z_44, z_48, z_49, z_57, z_59, z_60, z_63, z_65, z_74, z_75, z_81, z_97, z_99, z_104, z_115, z_119, z_122, z_200, z_209, z_210, z_219, z_228, z_255, z_300, z_369, z_999, z_65537, z_268435456, z_1000000000, n_nat, n_add, n_sub, n_mul, n_neg, n_lt, n_le, n_eq, n_ix, n_gd, n_nz, lz_t, bd_some, tn, Int.reduceToNat, tn_1, if_pos, if_neg, if_true, if_false, sI_a, sI_b, sL_a, sL_b, sL_c, wA_a, wA_b, wA_c, wA_d, wB_a, wB_b, wB_c, wB_d, sA_w, sB_w, uN_s, uN_n, up_s, up_n, ul_s, ul_n, p_fst, p_snd, y_0, y_1, y_2, y_10, y_20, y_1099511627776, m_add, m_sub, m_mul, m_neg, m_lt, m_le, m_eq, m_of, m_nz, m_to, c_gt, c_ge, c_lt, c_le, c_eq, A9_leg hR h, A9_has hR h, q0, g1', f_X6_look_75, w1', bi_z, decide_eq_false_iff_not]
        exact j1
      · -- no pump, or shut
        have hop : (decide (0 < rp r e) && !decide ((e : Int) = sh)) = false := by
          by_cases c2 : (e : Int) = sh
          · simp [c2]
          · have : ¬ 0 < rp r e := fun q => c ⟨q, c2⟩
            simp [this]
        rw [hop] at vE bE
        obtain ⟨ch, k1, k2⟩ := buyNothing_e (F := F) hF (sPc.2.2.1 e)
        obtain ⟨a, b, j1, j2, j3⟩ := ih n (wB sPl 1 g) (wA sPc e ch) (by omega) (by omega) ⟨by
          intro x hx
          simp (disch := omega) only [sI_a, sI_b, sL_a, sL_b, sL_c, wA_a, wA_b, wA_c, wA_d, wB_a, wB_b, wB_c, wB_d, sA_w, sB_w, uN_s, uN_n, up_s, up_n, ul_s, ul_n, p_fst, p_snd]
          rw [g2' x hx, vE, (step_shut x).1], by
          intro i hi1 hi2 x hx hv
          by_cases ei : i = e
          · subst ei
            simp (disch := omega) only [sI_a, sI_b, sL_a, sL_b, sL_c, wA_a, wA_b, wA_c, wA_d, wB_a, wB_b, wB_c, wB_d, sA_w, sB_w, uN_s, uN_n, up_s, up_n, ul_s, ul_n, p_fst, p_snd]
            rw [k2 x (by omega), bE, (step_shut x).2, Nat.add_zero]
          · simp (disch := omega) only [sI_a, sI_b, sL_a, sL_b, sL_c, wA_a, wA_b, wA_c, wA_d, wB_a, wB_b, wB_c, wB_d, sA_w, sB_w, uN_s, uN_n, up_s, up_n, ul_s, ul_n, p_fst, p_snd]
            exact i2 i (by omega) hi2 x hx hv⟩
        refine ⟨a, b, ?_, j2, by rw [j3]; simp (disch := omega) only [sI_a, sI_b, sL_a, sL_b, sL_c, wA_a, wA_b, wA_c, wA_d, wB_a, wB_b, wB_c, wB_d, sA_w, sB_w, uN_s, uN_n, up_s, up_n, ul_s, ul_n, p_fst, p_snd]⟩
        by_cases c2 : (e : Int) = sh
        · simp (disch := omega) only [z_0, z_1, z_2, z_3, z_4, z_5, z_6, z_7, z_8, z_9, z_10, z_11, z_12, z_14, z_18, z_20, z_22, z_24, z_32, z_38, z_40, z_41, z_44, z_48, z_49, z_57, z_59, z_60, z_63, z_65, z_74, z_75, z_81, z_97, z_99, z_104, z_115, z_119, z_122, z_200, z_209, z_210, z_219, z_228, z_255, z_300, z_369, z_999, z_65537, z_268435456, z_1000000000, n_nat, n_add, n_sub, n_mul, n_neg, n_lt, n_le, n_eq, n_ix, n_gd, n_nz, lz_t, bd_some, tn, Int.reduceToNat, tn_1, if_pos, if_neg, if_true, if_false, sI_a, sI_b, sL_a, sL_b, sL_c, wA_a, wA_b, wA_c, wA_d, wB_a, wB_b, wB_c, wB_d, sA_w, sB_w, uN_s, uN_n, up_s, up_n, ul_s, ul_n, p_fst, p_snd, y_0, y_1, y_2, y_10, y_20, y_1099511627776, m_add, m_sub, m_mul, m_neg, m_lt, m_le, m_eq, m_of, m_nz, m_to, c_gt, c_ge, c_lt, c_le, c_eq, A9_leg hR h, q0, g1', f_X6_look_70, f_X6_look_75, k1]
          exact j1
        · have c3 : ¬ 0 < rp r e := fun q => c ⟨q, c2⟩
          simp (disch := omega) only [z_0, z_1, z_2, z_3, z_4, z_5, z_6, z_7, z_8, z_9, z_10, z_11, z_12, z_14, z_18, z_20, z_22, z_24, z_32, z_38, z_40, z_41, z_44, z_48, z_49, z_57, z_59, z_60, z_63, z_65, z_74, z_75, z_81, z_97, z_99, z_104, z_115, z_119, z_122, z_200, z_209, z_210, z_219, z_228, z_255, z_300, z_369, z_999, z_65537, z_268435456, z_1000000000, n_nat, n_add, n_sub, n_mul, n_neg, n_lt, n_le, n_eq, n_ix, n_gd, n_nz, lz_t, bd_some, tn, Int.reduceToNat, tn_1, if_pos, if_neg, if_true, if_false, sI_a, sI_b, sL_a, sL_b, sL_c, wA_a, wA_b, wA_c, wA_d, wB_a, wB_b, wB_c, wB_d, sA_w, sB_w, uN_s, uN_n, up_s, up_n, ul_s, ul_n, p_fst, p_snd, y_0, y_1, y_2, y_10, y_20, y_1099511627776, m_add, m_sub, m_mul, m_neg, m_lt, m_le, m_eq, m_of, m_nz, m_to, c_gt, c_ge, c_lt, c_le, c_eq, A9_leg hR h, A9_has hR h, q0, g1', f_X6_look_70, f_X6_look_75, k1, bi_z, decide_eq_false_iff_not]
          exact j1
theorem look_e {F : Nat} (hF : 100 ≤ F) {sRo : MS} {r : Nat → Int32} (hR : RR sRo r) (h : ROK r) (sh : Int) (hsh : -1 ≤ sh) (hsh2 : sh < 9) (sPl sPc : MS) :
    ∃ sPl' sPc', f_X6_look F sRo (Int32.ofInt sh) sPl sPc = some (sPl', sPc') ∧ lookI r sh 0 sPl' sPc' ∧ sPl'.2.2.1 = sPl.2.2.1 := by
  obtain ⟨q0, q1, q2, q3, q4, q5, q8, q9⟩ := RRb hR
  obtain ⟨t0, t1, t2, t3, t4, t5, t8, t9⟩ := ROKb h
  obtain ⟨g, g1, g2, g3⟩ := fillL (F := F) hF (Int64.ofInt 0) (sPl.2.2.2 1)
  obtain ⟨a, b, j1, j2, j3⟩ := look_go (F := F) hF hR h sh hsh hsh2 ((rd r 8).toNat - 1) F (wB sPl 1 g) sPc (by omega) (by omega) ⟨by
    intro x hx
    simp (disch := omega) only [sI_a, sI_b, sL_a, sL_b, sL_c, wA_a, wA_b, wA_c, wA_d, wB_a, wB_b, wB_c, wB_d, sA_w, sB_w, uN_s, uN_n, up_s, up_n, ul_s, ul_n, p_fst, p_snd]
    rw [g2 x (by omega), Nat.sub_self]
    rfl, by
    intro i h1 h2
    omega⟩
  refine ⟨a, b, ?_, j2, by rw [j3]; simp (disch := omega) only [sI_a, sI_b, sL_a, sL_b, sL_c, wA_a, wA_b, wA_c, wA_d, wB_a, wB_b, wB_c, wB_d, sA_w, sB_w, uN_s, uN_n, up_s, up_n, ul_s, ul_n, p_fst, p_snd]⟩
  unfold f_X6_look
  simp (disch := omega) only [z_0, z_1, z_2, z_3, z_4, z_5, z_6, z_7, z_8, z_9, z_10, z_11, z_12, z_14, z_18, z_20, z_22, z_24, z_32, z_38, z_40, z_41, z_44, z_48, z_49, z_57, z_59, z_60, z_63, z_65, z_74, z_75, z_81, z_97, z_99, z_104, z_115, z_119, z_122, z_200, z_209, z_210, z_219, z_228, z_255, z_300, z_369, z_999, z_65537, z_268435456, z_1000000000, n_nat, n_add, n_sub, n_mul, n_neg, n_lt, n_le, n_eq, n_ix, n_gd, n_nz, lz_t, bd_some, tn, Int.reduceToNat, tn_1, if_pos, if_neg, if_true, if_false, sI_a, sI_b, sL_a, sL_b, sL_c, wA_a, wA_b, wA_c, wA_d, wB_a, wB_b, wB_c, wB_d, sA_w, sB_w, uN_s, uN_n, up_s, up_n, ul_s, ul_n, p_fst, p_snd, y_0, y_1, y_2, y_10, y_20, y_1099511627776, m_add, m_sub, m_mul, m_neg, m_lt, m_le, m_eq, m_of, m_nz, m_to, c_gt, c_ge, c_lt, c_le, c_eq, g1, q8]
  rw [show (((rd r 8).toNat - 1 : Nat) : Int) - 1 = rd r 8 - 2 by omega] at j1
  exact j1
