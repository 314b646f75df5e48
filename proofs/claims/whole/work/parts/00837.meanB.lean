/-! the class's look down -/
theorem leaveS_e {F : Nat} (hF : 100 ≤ F) {sRo : MS} {r : Nat → Int32} (hR : RR sRo r) (h : ROK r) (ch : Bool) {e : Nat} (he : (e : Int) + 1 < rd r 8) {S : Int} (hS : 0 ≤ S ∧ S ≤ 25600000000) {A : Nat → Int} {sDr : MS} (hA : ∀ x, x ≤ (rd r 0).toNat → sDr.2.2.2 2 x = Int64.ofInt (A x)) (h5 : sDr.2.1 5 = Int64.ofInt S) :
    ∃ g, f_X1_leaveStation F sRo (Int32.ofInt (e : Int)) (Int32.ofInt (if ch then 1 else 0)) sDr = some (wB sDr 2 g) ∧ (∀ x, x ≤ (rd r 0).toNat → g x = Int64.ofInt (lvA (if ch then 0 else rd r 4 * S) (lg r e) A x)) := by
  obtain ⟨q0, q1, q2, q3, q4, q5, q8, q9⟩ := RRb hR
  obtain ⟨t0, t1, t2, t3, t4, t5, t8, t9⟩ := ROKb h
  have l := lg_c h he
  have lp := A9_leg (F := F) hR h e he
  obtain ⟨g, g1, g2, g3⟩ := leave_go (F := F) (rd r 0) (lg r e) (if ch then 0 else rd r 4 * S) A (by omega) (by omega) (by omega) ((rd r 0).toNat + 1) F (sDr.2.2.2 2) (by omega) (by omega) (fun x hx => hA x (by omega))
  have g1' : f_X4_leave F 41 (Int32.ofInt (rd r 0)) (Int32.ofInt (lg r e)) (Int64.ofInt (if ch then 0 else rd r 4 * S)) (sDr.2.2.2 2) = some g := by
    rw [show (((rd r 0).toNat + 1 : Nat) : Int) - 1 = rd r 0 by omega] at g1
    exact g1
  refine ⟨g, ?_, fun x hx => g2 x (by omega)⟩
  unfold f_X1_leaveStation f_X1_leaveStation_31
  cases ch with
  | true =>
    rw [if_pos rfl] at g1' ⊢
    simp (disch := omega) only [z_0, z_1, z_2, z_3, z_4, z_5, z_6, z_7, z_8, z_9, z_10, z_11, z_12, z_14, z_18, z_20, z_22, z_24, z_32, z_38, z_40, z_41, z_44, z_48, z_49, z_57, z_59, z_60, z_63, z_65, z_74, z_75, z_81, z_97, z_99, z_104, z_115, z_119, z_122, z_200, z_209, z_210, z_219, z_228, z_255, z_300, z_369, z_999, z_65537, z_268435456, z_1000000000, n_nat, n_add, n_sub, n_mul, n_neg, n_lt, n_le, n_eq, n_ix, n_gd, n_nz, lz_t, bd_some, tn, Int.reduceToNat, tn_1, if_pos, if_neg, if_true, if_false, lp, q0, y_0, g1']
  | false =>
    rw [if_neg (by decide)] at g1' ⊢
    simp (disch := omega) only [z_0, z_1, z_2, z_3, z_4, z_5, z_6, z_7, z_8, z_9, z_10, z_11, z_12, z_14, z_18, z_20, z_22, z_24, z_32, z_38, z_40, z_41, z_44, z_48, z_49, z_57, z_59, z_60, z_63, z_65, z_74, z_75, z_81, z_97, z_99, z_104, z_115, z_119, z_122, z_200, z_209, z_210, z_219, z_228, z_255, z_300, z_369, z_999, z_65537, z_268435456, z_1000000000, n_nat, n_add, n_sub, n_mul, n_neg, n_lt, n_le, n_eq, n_ix, n_gd, n_nz, lz_t, bd_some, tn, Int.reduceToNat, tn_1, if_pos, if_neg, if_true, if_false, y_0, y_1, y_2, y_10, y_20, y_1099511627776, m_add, m_sub, m_mul, m_neg, m_lt, m_le, m_eq, m_of, m_nz, m_to, c_gt, c_ge, c_lt, c_le, c_eq, lp, q0, q4, h5, g1']
theorem meetP_e {F : Nat} (hF : 100 ≤ F) {sRo : MS} {r : Nat → Int32} (hR : RR sRo r) (h : ROK r) {rule : Int} (hr1 : 0 ≤ rule) (hr2 : rule ≤ 4) {e : Nat} (he : (e : Int) + 1 < rd r 8) {pen : Int} (hn : 0 ≤ pen) (hn2 : pen ≤ 25600000000) {lv : Nat → Int} {sDr : MS} (hlv : ∀ x, x ≤ (rd r 0).toNat → sDr.2.2.2 2 x = Int64.ofInt (lv x) ∧ 0 ≤ lv x ∧ lv x ≤ 1000000000000000) (fc fd : Nat → Int32) :
    ∃ g c d, f_X1_meetPump F 41 41 sRo (Int32.ofInt rule) (Int32.ofInt (e : Int)) (Int64.ofInt pen) sDr fc fd = some (wB sDr 2 g, c, d) ∧ (∀ x, x ≤ (rd r 0).toNat → g x = Int64.ofInt (mA1 r rule pen e lv x)) := by
  obtain ⟨q0, q1, q2, q3, q4, q5, q8, q9⟩ := RRb hR
  obtain ⟨t0, t1, t2, t3, t4, t5, t8, t9⟩ := ROKb h
  obtain ⟨w1, w2⟩ := wp_b h (i := e) (by omega)
  have wR := hR.2.2.2.2.1 e (by show (e : Int) < rd r 8; omega)
  rw [w2] at wR
  obtain ⟨a1, a2, a3⟩ := hR.2.2.2.1 (wp r e) w1
  rw [rd_e r] at a3
  have pb := pumpB h w1
  have rb := rp_b h (i := e) (by omega)
  have db := dr_b h (i := e) (by omega)
  have pp := A9_price (F := F) hR h e (by omega)
  have pm : f_X9_priceAt F sRo (Int32.ofInt (e : Int)) (Int32.ofInt 1) = some (Int32.ofInt (rd r (12 + 3 * wp r e))) := A9_pm hR h (by omega) (Int32.ofInt 1)
  obtain ⟨c, c1, c2⟩ := chAll_e (F := F) hF hR h hr1 hr2 he rb.1 rb.2 hn hn2 lv hlv fc
  obtain ⟨d, d1, d2⟩ := chAll_e (F := F) hF hR h hr1 hr2 he db.1 db.2 hn hn2 lv hlv fd
  obtain ⟨g, g1, g2, g3⟩ := meet_go (F := F) (sRo := sRo) (T := (rd r 0).toNat) (rp r e) (dr r e) (rd r (13 + 3 * wp r e)) (rd r 2 * pen) pen (Int32.ofInt rule) (Int32.ofInt (e : Int)) lv (chN r rule e lv pen (rp r e)) (chN r rule e lv pen (dr r e)) c d (by omega) (by rw [q0]; congr 1; omega) rb db pb.2.2 (fun x hx => ⟨c2 x hx, chN_b h hx⟩) (fun x hx => ⟨d2 x hx, chN_b h hx⟩) ((rd r 0).toNat + 1) 0 F sDr (by omega) (by omega) (fun x _ hx => (hlv x hx).1)
  refine ⟨g, c, d, ?_, fun x hx => g2 x (by omega) hx⟩
  have e28 : f_X1_meetPump_28 F 41 41 sRo (Int32.ofInt rule) (Int32.ofInt (e : Int)) (Int64.ofInt pen) (Int32.ofInt (rp r e)) (Int32.ofInt (dr r e)) sDr fc fd = some (wB sDr 2 g, c, d) := by
    unfold f_X1_meetPump_28
    simp (disch := omega) only [z_0, z_1, z_2, z_3, z_4, z_5, z_6, z_7, z_8, z_9, z_10, z_11, z_12, z_14, z_18, z_20, z_22, z_24, z_32, z_38, z_40, z_41, z_44, z_48, z_49, z_57, z_59, z_60, z_63, z_65, z_74, z_75, z_81, z_97, z_99, z_104, z_115, z_119, z_122, z_200, z_209, z_210, z_219, z_228, z_255, z_300, z_369, z_999, z_65537, z_268435456, z_1000000000, n_nat, n_add, n_sub, n_mul, n_neg, n_lt, n_le, n_eq, n_ix, n_gd, n_nz, lz_t, bd_some, tn, Int.reduceToNat, tn_1, if_pos, if_neg, if_true, if_false, y_0, y_1, y_2, y_10, y_20, y_1099511627776, m_add, m_sub, m_mul, m_neg, m_lt, m_le, m_eq, m_of, m_nz, m_to, c_gt, c_ge, c_lt, c_le, c_eq, c1, d1, wR, a3, q2]
    exact g1
  unfold f_X1_meetPump
  by_cases k : 0 < rd r (12 + 3 * wp r e)
  · have ed : dr r e = rd r (12 + 3 * wp r e) := by unfold dr; rw [if_pos k]
    rw [ed] at e28
    simp (disch := omega) only [z_0, z_1, z_2, z_3, z_4, z_5, z_6, z_7, z_8, z_9, z_10, z_11, z_12, z_14, z_18, z_20, z_22, z_24, z_32, z_38, z_40, z_41, z_44, z_48, z_49, z_57, z_59, z_60, z_63, z_65, z_74, z_75, z_81, z_97, z_99, z_104, z_115, z_119, z_122, z_200, z_209, z_210, z_219, z_228, z_255, z_300, z_369, z_999, z_65537, z_268435456, z_1000000000, n_nat, n_add, n_sub, n_mul, n_neg, n_lt, n_le, n_eq, n_ix, n_gd, n_nz, lz_t, bd_some, tn, Int.reduceToNat, tn_1, if_pos, if_neg, if_true, if_false, pp, pm, e28]
  · have ed : dr r e = rp r e := by unfold dr; rw [if_neg k]
    rw [ed] at e28
    simp (disch := omega) only [z_0, z_1, z_2, z_3, z_4, z_5, z_6, z_7, z_8, z_9, z_10, z_11, z_12, z_14, z_18, z_20, z_22, z_24, z_32, z_38, z_40, z_41, z_44, z_48, z_49, z_57, z_59, z_60, z_63, z_65, z_74, z_75, z_81, z_97, z_99, z_104, z_115, z_119, z_122, z_200, z_209, z_210, z_219, z_228, z_255, z_300, z_369, z_999, z_65537, z_268435456, z_1000000000, n_nat, n_add, n_sub, n_mul, n_neg, n_lt, n_le, n_eq, n_ix, n_gd, n_nz, lz_t, bd_some, tn, Int.reduceToNat, tn_1, if_pos, if_neg, if_true, if_false, pp, pm, e28]
theorem lookD_go {F : Nat} (hF : 100 ≤ F) {sRo : MS} {r : Nat → Int32} (hR : RR sRo r) (h : ROK r) {rule : Int} (hr1 : 0 ≤ rule) (hr2 : rule ≤ 4) (ch : Bool) (stn : Nat) : ∀ (j e n : Nat) (sDr : MS) (fc fd : Nat → Int32), e = stn + j → (e : Int) < rd r 8 → j < n → (∀ x, x ≤ (rd r 0).toNat → sDr.2.2.2 2 x = Int64.ofInt (mA r rule ch ((rd r 8).toNat - 1 - e) x)) → sDr.2.1 5 = Int64.ofInt (mS r ((rd r 8).toNat - 1 - e)) →
    ∃ s' c d, f_X1_lookDownTo_29 F 41 41 sRo (Int32.ofInt rule) (Int32.ofInt (if ch then 1 else 0)) (Int32.ofInt (stn : Int)) n (Int32.ofInt ((e : Int) - 1)) sDr fc fd = some (s', c, d) ∧ (∀ x, x ≤ (rd r 0).toNat → s'.2.2.2 2 x = Int64.ofInt (mA r rule ch ((rd r 8).toNat - 1 - stn) x)) ∧ s'.2.1 5 = Int64.ofInt (mS r ((rd r 8).toNat - 1 - stn)) := by
  obtain ⟨q0, q1, q2, q3, q4, q5, q8, q9⟩ := RRb hR
  obtain ⟨t0, t1, t2, t3, t4, t5, t8, t9⟩ := ROKb h
  intro j
  induction j with
  | zero =>
    intro e n sDr fc fd he he2 hn hA h5
    cases n with
    | zero => omega
    | succ n =>
      have : e = stn := he
      subst this
      refine ⟨sDr, fc, fd, ?_, hA, h5⟩
      rw [f_X1_lookDownTo_29]
      simp (disch := omega) only [z_0, z_1, z_2, z_3, z_4, z_5, z_6, z_7, z_8, z_9, z_10, z_11, z_12, z_14, z_18, z_20, z_22, z_24, z_32, z_38, z_40, z_41, z_44, z_48, z_49, z_57, z_59, z_60, z_63, z_65, z_74, z_75, z_81, z_97, z_99, z_104, z_115, z_119, z_122, z_200, z_209, z_210, z_219, z_228, z_255, z_300, z_369, z_999, z_65537, z_268435456, z_1000000000, n_nat, n_add, n_sub, n_mul, n_neg, n_lt, n_le, n_eq, n_ix, n_gd, n_nz, lz_t, bd_some, tn, Int.reduceToNat, tn_1, if_pos, if_neg, if_true, if_false]
  | succ j ih =>
    intro e n sDr fc fd he he2 hn hA h5
    cases n with
    | zero => omega
    | succ n =>
      have e1 : (e : Int) - 1 = ((e - 1 : Nat) : Int) := by omega
      have hd : (rd r 8).toNat - 1 - (e - 1) = ((rd r 8).toNat - 1 - e) + 1 := by omega
      have hi : (rd r 8).toNat - 2 - ((rd r 8).toNat - 1 - e) = e - 1 := by omega
      have qb := QB_b ((rd r 8).toNat - 1 - e) (by omega)
      have sb := mS_b r ((rd r 8).toNat - 1 - e)
      have ab := mA_b h rule ch ((rd r 8).toNat - 1 - e) (by omega)
      have l := lg_c h (i := e - 1) (by omega)
      have rb := rp_b h (i := e - 1) (by omega)
      have m4 := mulg t4.1 t4.2 (by omega) sb.2
      obtain ⟨g, g1, g2⟩ := leaveS_e (F := F) hF hR h ch (e := e - 1) (by omega) (by omega) hA h5
      have lb : ∀ x, x ≤ (rd r 0).toNat → 0 ≤ lvA (if ch then 0 else rd r 4 * mS r ((rd r 8).toNat - 1 - e)) (lg r (e - 1)) (mA r rule ch ((rd r 8).toNat - 1 - e)) x ∧ lvA (if ch then 0 else rd r 4 * mS r ((rd r 8).toNat - 1 - e)) (lg r (e - 1)) (mA r rule ch ((rd r 8).toNat - 1 - e)) x ≤ Bd ((rd r 8).toNat - 1 - e) := lvA_b (by omega) (by cases ch <;> simp <;> omega) (by cases ch <;> simp <;> omega) ab
      have aE : ∀ x, mA r rule ch ((rd r 8).toNat - 1 - (e - 1)) x = if 0 < rp r (e - 1) then mA1 r rule (if ch then 0 else mS r ((rd r 8).toNat - 1 - e)) (e - 1) (lvA (if ch then 0 else rd r 4 * mS r ((rd r 8).toNat - 1 - e)) (lg r (e - 1)) (mA r rule ch ((rd r 8).toNat - 1 - e))) x else lvA (if ch then 0 else rd r 4 * mS r ((rd r 8).toNat - 1 - e)) (lg r (e - 1)) (mA r rule ch ((rd r 8).toNat - 1 - e)) x := by
        intro x
        rw [hd, mA_s]
        unfold mL
        rw [hi]
      have sE : mS r ((rd r 8).toNat - 1 - (e - 1)) = if 0 < rp r (e - 1) then mS r ((rd r 8).toNat - 1 - e) * 20 else mS r ((rd r 8).toNat - 1 - e) := by
        rw [hd, mS_s, hi]
      have w5 : (wB sDr 2 g).2.1 5 = Int64.ofInt (mS r ((rd r 8).toNat - 1 - e)) := h5
      by_cases c : 0 < rp r (e - 1)
      · obtain ⟨g', fc', fd', k1, k2⟩ := meetP_e (F := F) hF hR h hr1 hr2 (e := e - 1) (by omega) (pen := if ch then 0 else mS r ((rd r 8).toNat - 1 - e)) (by cases ch <;> simp <;> omega) (by cases ch <;> simp <;> omega) (sDr := wB sDr 2 g) (fun x hx => ⟨by
            simp (disch := omega) only [sI_a, sI_b, sL_a, sL_b, sL_c, wA_a, wA_b, wA_c, wA_d, wB_a, wB_b, wB_c, wB_d, sA_w, sB_w, uN_s, uN_n, up_s, up_n, ul_s, ul_n, p_fst, p_snd]
            exact g2 x hx, (lb x hx).1, by have := (lb x hx).2; omega⟩) fc fd
        rw [wB_wB] at k1
        obtain ⟨s', c', d', z1, z2, z3⟩ := ih (e - 1) n (sL (wB sDr 2 g') 5 (Int64.ofInt (mS r ((rd r 8).toNat - 1 - e) * 20))) fc' fd' (by omega) (by omega) (by omega) (by
          intro x hx
          rw [aE, if_pos c]
          simp (disch := omega) only [sI_a, sI_b, sL_a, sL_b, sL_c, wA_a, wA_b, wA_c, wA_d, wB_a, wB_b, wB_c, wB_d, sA_w, sB_w, uN_s, uN_n, up_s, up_n, ul_s, ul_n, p_fst, p_snd]
          exact k2 x hx) (by
          rw [sE, if_pos c]
          simp (disch := omega) only [sI_a, sI_b, sL_a, sL_b, sL_c, wA_a, wA_b, wA_c, wA_d, wB_a, wB_b, wB_c, wB_d, sA_w, sB_w, uN_s, uN_n, up_s, up_n, ul_s, ul_n, p_fst, p_snd])
        refine ⟨s', c', d', ?_, z2, z3⟩
        have w5' : (wB sDr 2 g').2.1 5 = Int64.ofInt (mS r ((rd r 8).toNat - 1 - e)) := h5
        rw [f_X1_lookDownTo_29, e1]
        cases ch with
        | true =>
          rw [if_pos rfl] at g1 k1 z1 ⊢
          simp (disch := omega) only [z_0, z_1, z_2, z_3, z_4, z_5, z_6, z_7, z_8, z_9, z_10, z_11, z_12, z_14, z_18, z_20, z_22, z_24, z_32, z_38, z_40, z_41, z_44, z_48, z_49, z_57, z_59, z_60, z_63, z_65, z_74, z_75, z_81, z_97, z_99, z_104, z_115, z_119, z_122, z_200, z_209, z_210, z_219, z_228, z_255, z_300, z_369, z_999, z_65537, z_268435456, z_1000000000, n_nat, n_add, n_sub, n_mul, n_neg, n_lt, n_le, n_eq, n_ix, n_gd, n_nz, lz_t, bd_some, tn, Int.reduceToNat, tn_1, if_pos, if_neg, if_true, if_false, y_0, y_20, m_mul, g1, k1, A9_has hR h, bi_z, decide_eq_false_iff_not, f_X1_lookDownTo_70, f_X1_lookDownTo_85, p_fst, p_snd, w5']
          exact z1
        | false =>
          rw [if_neg (c := false = true) (by decide)] at g1 k1 z1 ⊢
          simp (disch := omega) only [z_0, z_1, z_2, z_3, z_4, z_5, z_6, z_7, z_8, z_9, z_10, z_11, z_12, z_14, z_18, z_20, z_22, z_24, z_32, z_38, z_40, z_41, z_44, z_48, z_49, z_57, z_59, z_60, z_63, z_65, z_74, z_75, z_81, z_97, z_99, z_104, z_115, z_119, z_122, z_200, z_209, z_210, z_219, z_228, z_255, z_300, z_369, z_999, z_65537, z_268435456, z_1000000000, n_nat, n_add, n_sub, n_mul, n_neg, n_lt, n_le, n_eq, n_ix, n_gd, n_nz, lz_t, bd_some, tn, Int.reduceToNat, tn_1, if_pos, if_neg, if_true, if_false, y_0, y_20, m_mul, g1, k1, A9_has hR h, bi_z, decide_eq_false_iff_not, f_X1_lookDownTo_70, f_X1_lookDownTo_85, p_fst, p_snd, w5, w5']
          exact z1
      · obtain ⟨s', c', d', z1, z2, z3⟩ := ih (e - 1) n (wB sDr 2 g) fc fd (by omega) (by omega) (by omega) (by
          intro x hx
          rw [aE, if_neg c]
          simp (disch := omega) only [sI_a, sI_b, sL_a, sL_b, sL_c, wA_a, wA_b, wA_c, wA_d, wB_a, wB_b, wB_c, wB_d, sA_w, sB_w, uN_s, uN_n, up_s, up_n, ul_s, ul_n, p_fst, p_snd]
          exact g2 x hx) (by
          rw [sE, if_neg c]
          exact w5)
        refine ⟨s', c', d', ?_, z2, z3⟩
        rw [f_X1_lookDownTo_29, e1]
        simp (disch := omega) only [z_0, z_1, z_2, z_3, z_4, z_5, z_6, z_7, z_8, z_9, z_10, z_11, z_12, z_14, z_18, z_20, z_22, z_24, z_32, z_38, z_40, z_41, z_44, z_48, z_49, z_57, z_59, z_60, z_63, z_65, z_74, z_75, z_81, z_97, z_99, z_104, z_115, z_119, z_122, z_200, z_209, z_210, z_219, z_228, z_255, z_300, z_369, z_999, z_65537, z_268435456, z_1000000000, n_nat, n_add, n_sub, n_mul, n_neg, n_lt, n_le, n_eq, n_ix, n_gd, n_nz, lz_t, bd_some, tn, Int.reduceToNat, tn_1, if_pos, if_neg, if_true, if_false, g1, A9_has hR h, bi_z, decide_eq_false_iff_not, f_X1_lookDownTo_85]
        exact z1
theorem lookD_e {F : Nat} (hF : 100 ≤ F) {sRo : MS} {r : Nat → Int32} (hR : RR sRo r) (h : ROK r) {rule : Int} (hr1 : 0 ≤ rule) (hr2 : rule ≤ 4) (ch : Bool) {stn : Nat} (hst : (stn : Int) < rd r 8) (sDr : MS) (fc fd : Nat → Int32) :
    ∃ s' c d, f_X1_lookDownTo F 41 41 sRo (Int32.ofInt rule) (Int32.ofInt (if ch then 1 else 0)) (Int32.ofInt (stn : Int)) sDr fc fd = some (s', c, d) ∧ (∀ x, x ≤ (rd r 0).toNat → s'.2.2.2 2 x = Int64.ofInt (mA r rule ch ((rd r 8).toNat - 1 - stn) x)) ∧ s'.2.1 5 = Int64.ofInt (mS r ((rd r 8).toNat - 1 - stn)) := by
  obtain ⟨q0, q1, q2, q3, q4, q5, q8, q9⟩ := RRb hR
  obtain ⟨t0, t1, t2, t3, t4, t5, t8, t9⟩ := ROKb h
  obtain ⟨g, g1, g2, -⟩ := fillL (F := F) hF (Int64.ofInt (if ch then 1 else 0)) (sDr.2.2.2 2)
  have ez : (rd r 8).toNat - 1 - ((rd r 8).toNat - 1) = 0 := by omega
  obtain ⟨s', c', d', z1, z2, z3⟩ := lookD_go (F := F) hF hR h hr1 hr2 ch stn ((rd r 8).toNat - 1 - stn) ((rd r 8).toNat - 1) F (wB (sL sDr 5 (Int64.ofInt 1)) 2 g) fc fd (by omega) (by omega) (by omega) (by
    intro x hx
    rw [ez, mA_z]
    simp (disch := omega) only [sI_a, sI_b, sL_a, sL_b, sL_c, wA_a, wA_b, wA_c, wA_d, wB_a, wB_b, wB_c, wB_d, sA_w, sB_w, uN_s, uN_n, up_s, up_n, ul_s, ul_n, p_fst, p_snd]
    exact g2 x (by omega)) (by
    rw [ez]
    simp (disch := omega) only [sI_a, sI_b, sL_a, sL_b, sL_c, wA_a, wA_b, wA_c, wA_d, wB_a, wB_b, wB_c, wB_d, sA_w, sB_w, uN_s, uN_n, up_s, up_n, ul_s, ul_n, p_fst, p_snd]
    rfl)
  refine ⟨s', c', d', ?_, z2, z3⟩
  have e1 : (((rd r 8).toNat - 1 : Nat) : Int) - 1 = rd r 8 - 2 := by omega
  rw [e1] at z1
  unfold f_X1_lookDownTo f_X1_lookDownTo_18
  cases ch with
  | true =>
    rw [if_pos rfl] at g1 z1 ⊢
    have g1' : f_J7_fill_d0a16 F 41 (Int64.ofInt 1) ((sL sDr 5 (Int64.ofInt 1)).2.2.2 2) = some g := g1
    simp (disch := omega) only [z_0, z_1, z_2, z_3, z_4, z_5, z_6, z_7, z_8, z_9, z_10, z_11, z_12, z_14, z_18, z_20, z_22, z_24, z_32, z_38, z_40, z_41, z_44, z_48, z_49, z_57, z_59, z_60, z_63, z_65, z_74, z_75, z_81, z_97, z_99, z_104, z_115, z_119, z_122, z_200, z_209, z_210, z_219, z_228, z_255, z_300, z_369, z_999, z_65537, z_268435456, z_1000000000, n_nat, n_add, n_sub, n_mul, n_neg, n_lt, n_le, n_eq, n_ix, n_gd, n_nz, lz_t, bd_some, tn, Int.reduceToNat, tn_1, if_pos, if_neg, if_true, if_false, y_0, y_1, g1', q8]
    exact z1
  | false =>
    rw [if_neg (by decide)] at g1 z1 ⊢
    have g1' : f_J7_fill_d0a16 F 41 (Int64.ofInt 0) ((sL sDr 5 (Int64.ofInt 1)).2.2.2 2) = some g := g1
    simp (disch := omega) only [z_0, z_1, z_2, z_3, z_4, z_5, z_6, z_7, z_8, z_9, z_10, z_11, z_12, z_14, z_18, z_20, z_22, z_24, z_32, z_38, z_40, z_41, z_44, z_48, z_49, z_57, z_59, z_60, z_63, z_65, z_74, z_75, z_81, z_97, z_99, z_104, z_115, z_119, z_122, z_200, z_209, z_210, z_219, z_228, z_255, z_300, z_369, z_999, z_65537, z_268435456, z_1000000000, n_nat, n_add, n_sub, n_mul, n_neg, n_lt, n_le, n_eq, n_ix, n_gd, n_nz, lz_t, bd_some, tn, Int.reduceToNat, tn_1, if_pos, if_neg, if_true, if_false, y_0, y_1, g1', q8]
    exact z1
theorem bestP_e {F : Nat} (hF : 100 ≤ F) {sRo : MS} {r : Nat → Int32} (hR : RR sRo r) (h : ROK r) {i x : Nat} (hi : (i : Int) + 1 < rd r 8) (hx : x ≤ (rd r 0).toNat) {price : Int} (hp : 0 ≤ price) (hp2 : price ≤ 99) (sDr : MS) (fc fd : Nat → Int32) :
    ∃ s' c d, f_X1_bestPints F 41 41 sRo (Int32.ofInt (i : Int)) (Int32.ofInt (x : Int)) (Int32.ofInt price) sDr fc fd = some (Int32.ofInt ((minTo (cC (mL r false ((rd r 8).toNat - 2 - i) (mA r 4 false ((rd r 8).toNat - 2 - i))) (price * mS r ((rd r 8).toNat - 2 - i)) (rd r 2 * mS r ((rd r 8).toNat - 2 - i)) x) ((rd r 0).toNat - x) : Nat) : Int), s', c, d) := by
  obtain ⟨q0, q1, q2, q3, q4, q5, q8, q9⟩ := RRb hR
  obtain ⟨t0, t1, t2, t3, t4, t5, t8, t9⟩ := ROKb h
  have hd : (rd r 8).toNat - 1 - (i + 1) = (rd r 8).toNat - 2 - i := by omega
  have hi2 : (rd r 8).toNat - 2 - ((rd r 8).toNat - 2 - i) = i := by omega
  have qb := QB_b ((rd r 8).toNat - 2 - i) (by omega)
  have sb := mS_b r ((rd r 8).toNat - 2 - i)
  have ab := mA_b h 4 false ((rd r 8).toNat - 2 - i) (by omega)
  have l := lg_c h hi
  have m4 := mulg t4.1 t4.2 (by omega) sb.2
  obtain ⟨s', c', d', z1, z2, z3⟩ := lookD_e (F := F) hF hR h (rule := 4) (by omega) (by omega) false (stn := i + 1) (by omega) sDr fc fd
  rw [if_neg (by decide)] at z1
  rw [hd] at z2 z3
  obtain ⟨g, g1, g2⟩ := leaveS_e (F := F) hF hR h false (e := i) hi (by omega) z2 z3
  rw [if_neg (by decide)] at g1
  have lb : ∀ x, x ≤ (rd r 0).toNat → 0 ≤ lvA (if false then 0 else rd r 4 * mS r ((rd r 8).toNat - 2 - i)) (lg r i) (mA r 4 false ((rd r 8).toNat - 2 - i)) x ∧ lvA (if false then 0 else rd r 4 * mS r ((rd r 8).toNat - 2 - i)) (lg r i) (mA r 4 false ((rd r 8).toNat - 2 - i)) x ≤ Bd ((rd r 8).toNat - 2 - i) := lvA_b (by omega) (by simp; omega) (by simp; omega) ab
  obtain ⟨c, c1, c2⟩ := chAll_e (F := F) hF (sDr := wB s' 2 g) hR h (rule := 4) (by omega) (by omega) hi hp hp2 (pen := mS r ((rd r 8).toNat - 2 - i)) (by omega) (by omega) _ (fun x hx => ⟨by
    simp (disch := omega) only [sI_a, sI_b, sL_a, sL_b, sL_c, wA_a, wA_b, wA_c, wA_d, wB_a, wB_b, wB_c, wB_d, sA_w, sB_w, uN_s, uN_n, up_s, up_n, ul_s, ul_n, p_fst, p_snd]
    exact g2 x hx, (lb x hx).1, by have := (lb x hx).2; omega⟩) c'
  have c2x := c2 x hx
  unfold chN at c2x
  rw [if_pos rfl] at c2x
  have w5 : (wB s' 2 g).2.1 5 = Int64.ofInt (mS r ((rd r 8).toNat - 2 - i)) := z3
  refine ⟨wB s' 2 g, c, d', ?_⟩
  unfold f_X1_bestPints mL
  rw [hi2]
  have z1' : f_X1_lookDownTo F 41 41 sRo (Int32.ofInt 4) (Int32.ofInt 0) (Int32.ofInt ((i : Int) + 1)) sDr fc fd = some (s', c', d') := z1
  simp (disch := omega) only [z_0, z_1, z_2, z_3, z_4, z_5, z_6, z_7, z_8, z_9, z_10, z_11, z_12, z_14, z_18, z_20, z_22, z_24, z_32, z_38, z_40, z_41, z_44, z_48, z_49, z_57, z_59, z_60, z_63, z_65, z_74, z_75, z_81, z_97, z_99, z_104, z_115, z_119, z_122, z_200, z_209, z_210, z_219, z_228, z_255, z_300, z_369, z_999, z_65537, z_268435456, z_1000000000, n_nat, n_add, n_sub, n_mul, n_neg, n_lt, n_le, n_eq, n_ix, n_gd, n_nz, lz_t, bd_some, tn, Int.reduceToNat, tn_1, if_pos, if_neg, if_true, if_false, z1', g1, w5, c1, c2x, p_fst, p_snd]
  congr 3
  omega
