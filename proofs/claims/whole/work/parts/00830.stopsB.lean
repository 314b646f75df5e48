/-! lookByStops -/
def rowsA (T : Nat) (v : Nat → Nat → Int) (s : MS) : Prop := ∀ st, st ≤ 9 → ∀ x, x ≤ T → s.2.2.2 st x = Int64.ofInt (v st x)
theorem gd_nb {α : Type} {a b : Nat} {k : Option α} (h : a ≠ b) : gd (!(Nat.beq a b)) k = k := gd_t (by
  cases e : Nat.beq a b with
  | false => rfl
  | true => exact absurd (Nat.eq_of_beq_eq_true e) h)
theorem wR_s0 {r : Nat → Int32} {d st f : Nat} (h : stN (rd r 0).toNat (decide (0 < rp r ((rd r 8).toNat - 2 - d))) st f = 0) : wR r (d + 1) st f = lM (lg r ((rd r 8).toNat - 2 - d)) (wR r d st) f := by
  show cW _ _ _ _ _ _ (minTo _ (stN _ _ _ _)) = _
  rw [h]
  rfl
theorem bys37 {F : Nat} (hF : 100 ≤ F) {sRo sPl : MS} {r : Nat → Int32} (hR : RR sRo r) (h : ROK r) {i : Nat} (hi : (i : Int) + 1 < rd r 8) (k31 : Int32 → MS → Option MS) (w : Nat → Nat → Int) : ∀ (d k n : Nat) (s : MS), k + d = 10 → d < n → rowsA (rd r 0).toNat (fun st x => if st < k then cM (lM (lg r i) (w st) x) else cM (w st x)) s →
    ∃ s', f_X6_lookByStops_37 F sPl sRo k31 n (Int32.ofInt (i : Int)) (Int32.ofInt (k : Int)) s = f_X6_lookByStops_70 F sPl sRo k31 (Int32.ofInt (i : Int)) s' ∧ rowsA (rd r 0).toNat (fun st x => cM (lM (lg r i) (w st) x)) s' := by
  obtain ⟨q0, q1, q2, q3, q4, q5, q8, q9⟩ := RRb hR
  obtain ⟨t0, t1, t2, t3, t4, t5, t8, t9⟩ := ROKb h
  have l := lg_c h hi
  intro d
  induction d with
  | zero =>
    intro k n s hk hn hI
    have hI0 := hI
    dsimp only [rowsA] at hI
    cases n with
    | zero => omega
    | succ n =>
      refine ⟨s, ?_, ?_⟩
      · rw [f_X6_lookByStops_37]
        simp (disch := omega) only [z_0, z_1, z_2, z_3, z_4, z_5, z_6, z_7, z_8, z_9, z_10, z_11, z_12, z_14, z_18, z_20, z_22, z_24, z_32, z_38, z_40, z_41, z_44, z_48, z_49, z_57, z_59, z_60, z_63, z_65, z_74, z_75, z_81, z_97, z_99, z_104, z_115, z_119, z_122, z_200, z_209, z_210, z_219, z_228, z_255, z_300, z_369, z_999, z_65537, z_268435456, z_1000000000, n_nat, n_add, n_sub, n_mul, n_neg, n_lt, n_le, n_eq, n_ix, n_gd, n_nz, lz_t, bd_some, tn, Int.reduceToNat, tn_1, if_pos, if_neg, if_true, if_false, sI_a, sI_b, sL_a, sL_b, sL_c, wA_a, wA_b, wA_c, wA_d, wB_a, wB_b, wB_c, wB_d, sA_w, sB_w, uN_s, uN_n, up_s, up_n, ul_s, ul_n, p_fst, p_snd]
      · intro st hst x hx
        rw [hI st hst x hx, if_pos (by omega)]
  | succ d ih =>
    intro k n s hk hn hI
    have hI0 := hI
    dsimp only [rowsA] at hI
    cases n with
    | zero => omega
    | succ n =>
      obtain ⟨g, g1, g2, g3⟩ := leave_go (F := F) (rd r 0) (lg r i) 1099511627776 (fun x => cM (w k x)) (by omega) (by omega) (by omega) ((rd r 0).toNat + 1) F (s.2.2.2 k) (by omega) (by omega) (fun x hx => by rw [hI k (by omega) x (by omega), if_neg (by omega)])
      have g1' : f_X4_leave F 41 (Int32.ofInt (rd r 0)) (Int32.ofInt (lg r i)) (Int64.ofInt 1099511627776) (s.2.2.2 k) = some g := by
        rw [show (((rd r 0).toNat + 1 : Nat) : Int) - 1 = rd r 0 by omega] at g1
        exact g1
      have g2' : ∀ x : Nat, x ≤ (rd r 0).toNat → g x = Int64.ofInt (cM (lM (lg r i) (w k) x)) := by
        intro x hx
        rw [g2 x (by omega)]
        unfold lM
        by_cases c : (x : Int) < lg r i
        · rw [if_pos c, if_pos c]; rfl
        · rw [if_neg c, if_neg c]
      obtain ⟨s', a1, a2⟩ := ih (k + 1) n (wB s k g) (by omega) (by omega) (by
        intro st hst x hx
        dsimp only
        by_cases e : st = k
        · subst e
          simp (disch := omega) only [sI_a, sI_b, sL_a, sL_b, sL_c, wA_a, wA_b, wA_c, wA_d, wB_a, wB_b, wB_c, wB_d, sA_w, sB_w, uN_s, uN_n, up_s, up_n, ul_s, ul_n, p_fst, p_snd]
          rw [g2' x hx, if_pos (by omega)]
        · simp (disch := omega) only [sI_a, sI_b, sL_a, sL_b, sL_c, wA_a, wA_b, wA_c, wA_d, wB_a, wB_b, wB_c, wB_d, sA_w, sB_w, uN_s, uN_n, up_s, up_n, ul_s, ul_n, p_fst, p_snd]
          rw [hI st hst x hx]
          by_cases c : st < k
          · rw [if_pos c, if_pos (by omega)]
          · rw [if_neg c, if_neg (by omega)])
      refine ⟨s', ?_, a2⟩
      rw [f_X6_lookByStops_37]
      simp (disch := omega) only [z_0, z_1, z_2, z_3, z_4, z_5, z_6, z_7, z_8, z_9, z_10, z_11, z_12, z_14, z_18, z_20, z_22, z_24, z_32, z_38, z_40, z_41, z_44, z_48, z_49, z_57, z_59, z_60, z_63, z_65, z_74, z_75, z_81, z_97, z_99, z_104, z_115, z_119, z_122, z_200, z_209, z_210, z_219, z_228, z_255, z_300, z_369, z_999, z_65537, z_268435456, z_1000000000, n_nat, n_add, n_sub, n_mul, n_neg, n_lt, n_le, n_eq, n_ix, n_gd, n_nz, lz_t, bd_some, tn, Int.reduceToNat, tn_1, if_pos, if_neg, if_true, if_false, sI_a, sI_b, sL_a, sL_b, sL_c, wA_a, wA_b, wA_c, wA_d, wB_a, wB_b, wB_c, wB_d, sA_w, sB_w, uN_s, uN_n, up_s, up_n, ul_s, ul_n, p_fst, p_snd, y_0, y_1, y_2, y_10, y_20, y_1099511627776, m_add, m_sub, m_mul, m_neg, m_lt, m_le, m_eq, m_of, m_nz, m_to, c_gt, c_ge, c_lt, c_le, c_eq, A9_leg hR h, q0, g1']
      exact a1
theorem bys81 {F : Nat} (hF : 100 ≤ F) {sRo sPl : MS} {r : Nat → Int32} (hR : RR sRo r) (h : ROK r) {d i : Nat} (hd : (d : Int) + 1 < rd r 8) (hi : i = (rd r 8).toNat - 2 - d) (hp : 0 < rp r i) (k31 : Int32 → MS → Option MS) : ∀ (k n : Nat) (s : MS), k ≤ 9 → k < n → rowsA (rd r 0).toNat (fun st x => if k < st then cM (wR r (d + 1) st x) else cM (lM (lg r i) (wR r d st) x)) s →
    ∃ s', f_X6_lookByStops_81 F sPl sRo k31 n (Int32.ofInt (i : Int)) (Int32.ofInt (k : Int)) s = k31 (Int32.ofInt ((i : Int) + -1)) s' ∧ rowsA (rd r 0).toNat (fun st x => cM (wR r (d + 1) st x)) s' := by
  obtain ⟨q0, q1, q2, q3, q4, q5, q8, q9⟩ := RRb hR
  obtain ⟨t0, t1, t2, t3, t4, t5, t8, t9⟩ := ROKb h
  have l := lg_c h (i := i) (by omega)
  have p := rp_b h (i := i) (by omega)
  have ok := wR_ok h d (by omega)
  intro k
  induction k with
  | zero =>
    intro n s hk hn hI
    have hI0 := hI
    dsimp only [rowsA] at hI
    cases n with
    | zero => omega
    | succ n =>
      refine ⟨s, ?_, ?_⟩
      · rw [f_X6_lookByStops_81]
        simp (disch := omega) only [f_X6_lookByStops_115, z_0, z_1, z_2, z_3, z_4, z_5, z_6, z_7, z_8, z_9, z_10, z_11, z_12, z_14, z_18, z_20, z_22, z_24, z_32, z_38, z_40, z_41, z_44, z_48, z_49, z_57, z_59, z_60, z_63, z_65, z_74, z_75, z_81, z_97, z_99, z_104, z_115, z_119, z_122, z_200, z_209, z_210, z_219, z_228, z_255, z_300, z_369, z_999, z_65537, z_268435456, z_1000000000, n_nat, n_add, n_sub, n_mul, n_neg, n_lt, n_le, n_eq, n_ix, n_gd, n_nz, lz_t, bd_some, tn, Int.reduceToNat, tn_1, if_pos, if_neg, if_true, if_false, sI_a, sI_b, sL_a, sL_b, sL_c, wA_a, wA_b, wA_c, wA_d, wB_a, wB_b, wB_c, wB_d, sA_w, sB_w, uN_s, uN_n, up_s, up_n, ul_s, ul_n, p_fst, p_snd]
      · intro st hst x hx
        dsimp only
        rw [hI st hst x hx]
        by_cases c : 0 < st
        · rw [if_pos c]
        · rw [if_neg c, wR_s0 (by
            unfold stN
            rw [if_neg (by simp [c])]), ← hi]
  | succ k ih =>
    intro n s hk hn hI
    have hI0 := hI
    dsimp only [rowsA] at hI
    cases n with
    | zero => omega
    | succ n =>
      have hb : ∀ (st : Nat) (x : Nat), x ≤ (rd r 0).toNat → 0 ≤ cM (lM (lg r i) (wR r d st) x) ∧ cM (lM (lg r i) (wR r d st) x) ≤ 1099511627776 := by
        intro st x hx
        have := lM_ok (l := lg r i) (by omega) (ok st) x hx
        unfold cM
        split <;> omega
      obtain ⟨g, g1, g2, g3⟩ := stopHere_go (F := F) (sRo := sRo) (T := (rd r 0).toNat) (p := rp r i) (s := rd r 2) (lv0 := fun x => cM (lM (lg r i) (wR r d (k + 1)) x)) (lv1 := fun x => cM (lM (lg r i) (wR r d k) x)) (by omega) (by omega) (by omega) q2 (by omega) (by omega) (s.2.2.2 k) (fun x hx => ⟨by rw [hI k (by omega) x hx, if_neg (by omega)], hb k x hx⟩) (fun x hx => hb (k + 1) x hx) ((rd r 0).toNat + 1) (rd r 0).toNat F (s.2.2.2 (k + 1)) (by omega) (by omega) (by omega) (by omega) (by omega) (fun x hx => by rw [hI (k + 1) (by omega) x (by omega), if_neg (by omega)])
      have g1' : f_X6_stopHere F sRo 41 41 (s.2.2.2 k) (Int32.ofInt (rp r i)) (s.2.2.2 (k + 1)) = some g := by
        unfold f_X6_stopHere
        rw [q0, ← g1, show (((rd r 0).toNat + 1 : Nat) : Int) - 1 = rd r 0 by omega, show (((rd r 0).toNat : Nat) : Int) = rd r 0 by omega]
      have g2' : ∀ x : Nat, x ≤ (rd r 0).toNat → g x = Int64.ofInt (cM (wR r (d + 1) (k + 1) x)) := by
        intro x hx
        obtain ⟨w, w1, w2⟩ := g2 x (by omega)
        rw [w1, stopS_e (by omega) (by omega) (ok (k + 1)) (ok k) (fun y hy => wR_mono h d (by omega) k y (by omega)) (by omega) (by omega) (by omega) (by omega) (by omega) hx w2]
        congr 2
        have es : stN (rd r 0).toNat (decide (0 < rp r i)) (k + 1) x = (rd r 0).toNat - x := by
          unfold stN
          rw [if_pos (by simp [hp])]
        show _ = cW _ _ _ _ _ _ (minTo _ (stN _ _ _ _))
        rw [← hi, es, Nat.add_sub_cancel]
      have e1 : ((k + 1 : Nat) : Int) - 1 = (k : Int) := by omega
      have e2 : ((k + 1 : Nat) : Int) + -1 = (k : Int) := by omega
      obtain ⟨s', a1, a2⟩ := ih n (wB (wB s (k + 1) g) k (s.2.2.2 k)) (by omega) (by omega) (by
        intro st hst x hx
        dsimp only
        by_cases c1 : st = k + 1
        · subst c1
          simp (disch := omega) only [sI_a, sI_b, sL_a, sL_b, sL_c, wA_a, wA_b, wA_c, wA_d, wB_a, wB_b, wB_c, wB_d, sA_w, sB_w, uN_s, uN_n, up_s, up_n, ul_s, ul_n, p_fst, p_snd]
          rw [g2' x hx, if_pos (by omega)]
        · by_cases c2 : st = k
          · subst c2
            simp (disch := omega) only [sI_a, sI_b, sL_a, sL_b, sL_c, wA_a, wA_b, wA_c, wA_d, wB_a, wB_b, wB_c, wB_d, sA_w, sB_w, uN_s, uN_n, up_s, up_n, ul_s, ul_n, p_fst, p_snd]
            rw [hI st hst x hx, if_neg (by omega), if_neg (by omega)]
          · simp (disch := omega) only [sI_a, sI_b, sL_a, sL_b, sL_c, wA_a, wA_b, wA_c, wA_d, wB_a, wB_b, wB_c, wB_d, sA_w, sB_w, uN_s, uN_n, up_s, up_n, ul_s, ul_n, p_fst, p_snd]
            rw [hI st hst x hx]
            by_cases c3 : k < st
            · rw [if_pos c3, if_pos (by omega)]
            · rw [if_neg c3, if_neg (by omega)])
      refine ⟨s', ?_, a2⟩
      rw [f_X6_lookByStops_81]
      simp (disch := omega) only [z_0, z_1, z_2, z_3, z_4, z_5, z_6, z_7, z_8, z_9, z_10, z_11, z_12, z_14, z_18, z_20, z_22, z_24, z_32, z_38, z_40, z_41, z_44, z_48, z_49, z_57, z_59, z_60, z_63, z_65, z_74, z_75, z_81, z_97, z_99, z_104, z_115, z_119, z_122, z_200, z_209, z_210, z_219, z_228, z_255, z_300, z_369, z_999, z_65537, z_268435456, z_1000000000, n_nat, n_add, n_sub, n_mul, n_neg, n_lt, n_le, n_eq, n_ix, n_gd, n_nz, lz_t, bd_some, tn, Int.reduceToNat, tn_1, if_pos, if_neg, if_true, if_false, gd_nb, e1, e2, A9_price hR h, g1']
      exact a1
theorem bys31 {F : Nat} (hF : 100 ≤ F) {sRo sPl : MS} {r : Nat → Int32} (hR : RR sRo r) (h : ROK r) : ∀ (e n : Nat) (s : MS), (e : Int) < rd r 8 → e < n → rowsA (rd r 0).toNat (fun st x => cM (wR r ((rd r 8).toNat - 1 - e) st x)) s →
    ∃ s', f_X6_lookByStops_31 F sPl sRo n (Int32.ofInt ((e : Int) - 1)) s = some s' ∧ rowsA (rd r 0).toNat (fun st x => cM (wR r ((rd r 8).toNat - 1) st x)) s' := by
  obtain ⟨q0, q1, q2, q3, q4, q5, q8, q9⟩ := RRb hR
  obtain ⟨t0, t1, t2, t3, t4, t5, t8, t9⟩ := ROKb h
  intro e
  induction e with
  | zero =>
    intro n s he hn hI
    have hI0 := hI
    dsimp only [rowsA] at hI
    cases n with
    | zero => omega
    | succ n =>
      refine ⟨s, ?_, hI0⟩
      rw [f_X6_lookByStops_31]
      simp (disch := omega) only [z_0, z_1, z_2, z_3, z_4, z_5, z_6, z_7, z_8, z_9, z_10, z_11, z_12, z_14, z_18, z_20, z_22, z_24, z_32, z_38, z_40, z_41, z_44, z_48, z_49, z_57, z_59, z_60, z_63, z_65, z_74, z_75, z_81, z_97, z_99, z_104, z_115, z_119, z_122, z_200, z_209, z_210, z_219, z_228, z_255, z_300, z_369, z_999, z_65537, z_268435456, z_1000000000, n_nat, n_add, n_sub, n_mul, n_neg, n_lt, n_le, n_eq, n_ix, n_gd, n_nz, lz_t, bd_some, tn, Int.reduceToNat, tn_1, if_pos, if_neg, if_true, if_false, sI_a, sI_b, sL_a, sL_b, sL_c, wA_a, wA_b, wA_c, wA_d, wB_a, wB_b, wB_c, wB_d, sA_w, sB_w, uN_s, uN_n, up_s, up_n, ul_s, ul_n, p_fst, p_snd]
  | succ e ih =>
    intro n s he hn hI
    have hI0 := hI
    dsimp only [rowsA] at hI
    cases n with
    | zero => omega
    | succ n =>
      have e1 : ((e + 1 : Nat) : Int) - 1 = e := by omega
      have hd : (rd r 8).toNat - 1 - e = ((rd r 8).toNat - 1 - (e + 1)) + 1 := by omega
      have hi : e = (rd r 8).toNat - 2 - ((rd r 8).toNat - 1 - (e + 1)) := by omega
      have p := rp_b h (i := e) (by omega)
      obtain ⟨s1, a1, a2⟩ := bys37 (F := F) hF (sPl := sPl) hR h (i := e) (by omega) (f_X6_lookByStops_31 F sPl sRo n) (wR r ((rd r 8).toNat - 1 - (e + 1))) 10 0 F s (by omega) (by omega) (by
        intro st hst x hx
        dsimp only
        rw [hI st hst x hx, if_neg (by omega)])
      rw [f_X6_lookByStops_31, e1]
      simp (disch := omega) only [z_0, z_1, z_2, z_3, z_4, z_5, z_6, z_7, z_8, z_9, z_10, z_11, z_12, z_14, z_18, z_20, z_22, z_24, z_32, z_38, z_40, z_41, z_44, z_48, z_49, z_57, z_59, z_60, z_63, z_65, z_74, z_75, z_81, z_97, z_99, z_104, z_115, z_119, z_122, z_200, z_209, z_210, z_219, z_228, z_255, z_300, z_369, z_999, z_65537, z_268435456, z_1000000000, n_lt, if_neg]
      have a1' : f_X6_lookByStops_37 F sPl sRo (f_X6_lookByStops_31 F sPl sRo n) F (Int32.ofInt (e : Int)) (Int32.ofInt 0) s = _ := a1
      rw [a1']
      unfold f_X6_lookByStops_70
      by_cases c : 0 < rp r e
      · obtain ⟨s2, b1, b2⟩ := bys81 (F := F) hF (sPl := sPl) hR h (d := (rd r 8).toNat - 1 - (e + 1)) (i := e) (by omega) hi c (f_X6_lookByStops_31 F sPl sRo n) 9 F s1 (by omega) (by omega) (by
          intro st hst x hx
          dsimp only
          rw [a2 st hst x hx, if_neg (by omega)])
        rw [← hd] at b2
        obtain ⟨s3, c1, c2⟩ := ih n s2 (by omega) (by omega) b2
        refine ⟨s3, ?_, c2⟩
        simp (disch := omega) only [z_0, z_1, z_2, z_3, z_4, z_5, z_6, z_7, z_8, z_9, z_10, z_11, z_12, z_14, z_18, z_20, z_22, z_24, z_32, z_38, z_40, z_41, z_44, z_48, z_49, z_57, z_59, z_60, z_63, z_65, z_74, z_75, z_81, z_97, z_99, z_104, z_115, z_119, z_122, z_200, z_209, z_210, z_219, z_228, z_255, z_300, z_369, z_999, z_65537, z_268435456, z_1000000000, n_nat, n_add, n_sub, n_mul, n_neg, n_lt, n_le, n_eq, n_ix, n_gd, n_nz, lz_t, bd_some, tn, Int.reduceToNat, tn_1, if_pos, if_neg, if_true, if_false, A9_has hR h, bi_z, decide_eq_false_iff_not]
        have b1' : f_X6_lookByStops_81 F sPl sRo (f_X6_lookByStops_31 F sPl sRo n) F (Int32.ofInt (e : Int)) (Int32.ofInt 9) s1 = _ := b1
        rw [b1']
        exact c1
      · obtain ⟨s3, c1, c2⟩ := ih n s1 (by omega) (by omega) (by
          intro st hst x hx
          dsimp only
          rw [a2 st hst x hx, hd, wR_s0 (by
            rw [← hi]
            unfold stN
            rw [if_neg (by simp [c])]), ← hi])
        refine ⟨s3, ?_, c2⟩
        simp (disch := omega) only [z_0, z_1, z_2, z_3, z_4, z_5, z_6, z_7, z_8, z_9, z_10, z_11, z_12, z_14, z_18, z_20, z_22, z_24, z_32, z_38, z_40, z_41, z_44, z_48, z_49, z_57, z_59, z_60, z_63, z_65, z_74, z_75, z_81, z_97, z_99, z_104, z_115, z_119, z_122, z_200, z_209, z_210, z_219, z_228, z_255, z_300, z_369, z_999, z_65537, z_268435456, z_1000000000, n_nat, n_add, n_sub, n_mul, n_neg, n_lt, n_le, n_eq, n_ix, n_gd, n_nz, lz_t, bd_some, tn, Int.reduceToNat, tn_1, if_pos, if_neg, if_true, if_false, A9_has hR h, bi_z, decide_eq_false_iff_not, f_X6_lookByStops_115]
        exact c1
theorem bys2 {F : Nat} (hF : 100 ≤ F) {sRo sPl : MS} {r : Nat → Int32} (hR : RR sRo r) (h : ROK r) : ∀ (d k n : Nat) (s : MS), k + d = 10 → d < n → (∀ st, st < k → ∀ x, x ≤ 40 → s.2.2.2 st x = Int64.ofInt 0) →
    ∃ s', f_X6_lookByStops_2 F sPl sRo n (Int32.ofInt (k : Int)) s = some s' ∧ rowsA (rd r 0).toNat (fun st x => cM (wR r ((rd r 8).toNat - 1) st x)) s' := by
  obtain ⟨q0, q1, q2, q3, q4, q5, q8, q9⟩ := RRb hR
  obtain ⟨t0, t1, t2, t3, t4, t5, t8, t9⟩ := ROKb h
  intro d
  induction d with
  | zero =>
    intro k n s hk hn hI
    cases n with
    | zero => omega
    | succ n =>
      obtain ⟨s', a1, a2⟩ := bys31 (F := F) hF (sPl := sPl) hR h ((rd r 8).toNat - 1) F s (by omega) (by omega) (by
        intro st hst x hx
        dsimp only
        rw [hI st (by omega) x (by omega), Nat.sub_self]
        rfl)
      refine ⟨s', ?_, a2⟩
      rw [f_X6_lookByStops_2]
      simp (disch := omega) only [f_X6_lookByStops_24, z_0, z_1, z_2, z_3, z_4, z_5, z_6, z_7, z_8, z_9, z_10, z_11, z_12, z_14, z_18, z_20, z_22, z_24, z_32, z_38, z_40, z_41, z_44, z_48, z_49, z_57, z_59, z_60, z_63, z_65, z_74, z_75, z_81, z_97, z_99, z_104, z_115, z_119, z_122, z_200, z_209, z_210, z_219, z_228, z_255, z_300, z_369, z_999, z_65537, z_268435456, z_1000000000, n_nat, n_add, n_sub, n_mul, n_neg, n_lt, n_le, n_eq, n_ix, n_gd, n_nz, lz_t, bd_some, tn, Int.reduceToNat, tn_1, if_pos, if_neg, if_true, if_false, q8]
      rw [show (((rd r 8).toNat - 1 : Nat) : Int) - 1 = rd r 8 - 2 by omega] at a1
      exact a1
  | succ d ih =>
    intro k n s hk hn hI
    cases n with
    | zero => omega
    | succ n =>
      obtain ⟨g, g1, g2, g3⟩ := fillL (F := F) hF (Int64.ofInt 0) (s.2.2.2 k)
      obtain ⟨s', a1, a2⟩ := ih (k + 1) n (wB s k g) (by omega) (by omega) (by
        intro st hst x hx
        by_cases e : st = k
        · subst e
          simp (disch := omega) only [sI_a, sI_b, sL_a, sL_b, sL_c, wA_a, wA_b, wA_c, wA_d, wB_a, wB_b, wB_c, wB_d, sA_w, sB_w, uN_s, uN_n, up_s, up_n, ul_s, ul_n, p_fst, p_snd]
          exact g2 x (by omega)
        · simp (disch := omega) only [sI_a, sI_b, sL_a, sL_b, sL_c, wA_a, wA_b, wA_c, wA_d, wB_a, wB_b, wB_c, wB_d, sA_w, sB_w, uN_s, uN_n, up_s, up_n, ul_s, ul_n, p_fst, p_snd]
          exact hI st (by omega) x hx)
      refine ⟨s', ?_, a2⟩
      rw [f_X6_lookByStops_2]
      simp (disch := omega) only [z_0, z_1, z_2, z_3, z_4, z_5, z_6, z_7, z_8, z_9, z_10, z_11, z_12, z_14, z_18, z_20, z_22, z_24, z_32, z_38, z_40, z_41, z_44, z_48, z_49, z_57, z_59, z_60, z_63, z_65, z_74, z_75, z_81, z_97, z_99, z_104, z_115, z_119, z_122, z_200, z_209, z_210, z_219, z_228, z_255, z_300, z_369, z_999, z_65537, z_268435456, z_1000000000, n_nat, n_add, n_sub, n_mul, n_neg, n_lt, n_le, n_eq, n_ix, n_gd, n_nz, lz_t, bd_some, tn, Int.reduceToNat, tn_1, if_pos, if_neg, if_true, if_false, y_0, g1]
      exact a1
theorem bys_e {F : Nat} (hF : 100 ≤ F) {sRo sPl : MS} {r : Nat → Int32} (hR : RR sRo r) (h : ROK r) (s : MS) : ∃ s', f_X6_lookByStops F sPl sRo s = some s' ∧ rowsA (rd r 0).toNat (fun st x => cM (wR r ((rd r 8).toNat - 1) st x)) s' := bys2 hF hR h 10 0 F s (by omega) (by omega) (fun st hst => by omega)
/-! leastBy, within -/
def wI (r : Nat → Int32) (kk e : Nat) (s : MS) : Prop := ∀ i : Nat, e ≤ i → (i : Int) < rd r 8 → ∀ st, st ≤ kk → ∀ x : Nat, (x : Int) ≤ rd r 0 → s.2.2.1 25 (369 * st + 41 * i + x) = Int32.ofInt (wR r ((rd r 8).toNat - 1 - i) st x)
theorem leastBy_go {F : Nat} {r : Nat → Int32} (h : ROK r) {kk i st f : Nat} (hkk : kk ≤ 9) (hst : st ≤ kk) (hi : (i : Int) + 1 < rd r 8) (hf : (f : Int) ≤ rd r 0) {s : MS} (hs : s.2.2.1 15 = r) (hI : wI r kk (i + 1) s) {d0 : Nat} (hd0 : d0 = (rd r 8).toNat - 2 - i) {c : Nat → Int} (hc : c = cW (lg r i) (rp r i) (rd r 2) (wR r d0 st) (wR r d0 (st - 1)) f) : ∀ (d k n : Nat), k + d = stN (rd r 0).toNat (decide (0 < rp r i)) st f + 1 → d < n →
    f_X11_leastBy_8 F s (Int32.ofInt (i : Int)) (Int32.ofInt (st : Int)) (Int32.ofInt (f : Int)) n (Int32.ofInt (curV c k)) (Int32.ofInt (k : Int)) = some (Int32.ofInt (c (minTo c (stN (rd r 0).toNat (decide (0 < rp r i)) st f)))) := by
  obtain ⟨t0, t1, t2, t3, t4, t5, t8, t9⟩ := ROKb h
  have l := lg_c h hi
  have p := rp_b h (i := i) (by omega)
  have ok := wR_ok h d0 (by omega)
  have sl := stN_le (rd r 0).toNat (decide (0 < rp r i)) st f
  have r0 : s.2.2.1 15 0 = Int32.ofInt (rd r 0) := by rw [hs]; exact rd_e r 0
  have r2 : s.2.2.1 15 2 = Int32.ofInt (rd r 2) := by rw [hs]; exact rd_e r 2
  have cb : ∀ n : Nat, (f : Int) + n ≤ rd r 0 → 0 ≤ c n ∧ c n ≤ 1000000000 := by
    intro n hn
    rw [hc]
    rcases cW_ok (T := (rd r 0).toNat) (by omega) (ok st) (ok (st - 1)) (l := lg r i) (p := rp r i) (s := rd r 2) (by omega) (by omega) (by omega) (by omega) (by omega) (f := f) (n := n) (by omega) with z | z <;> omega
  have hcell : ∀ (u : Nat), u ≤ kk → ∀ x : Nat, (x : Int) ≤ rd r 0 → s.2.2.1 25 (369 * u + 41 * (i + 1) + x) = Int32.ofInt (wR r d0 u x) := by
    intro u hu x hx
    rw [hI (i + 1) (by omega) (by omega) u hu x hx, hd0, show (rd r 8).toNat - 1 - (i + 1) = (rd r 8).toNat - 2 - i by omega]
  intro d
  induction d with
  | zero =>
    intro k n hk hn
    cases n with
    | zero => omega
    | succ n =>
      have e1 : curV c k = c (minTo c (stN (rd r 0).toNat (decide (0 < rp r i)) st f)) := by
        unfold curV
        rw [if_neg (by omega), show k - 1 = stN (rd r 0).toNat (decide (0 < rp r i)) st f by omega]
      rw [f_X11_leastBy_8, ← e1]
      by_cases c1 : rd r 0 < (f : Int) + k
      · simp (disch := omega) only [z_0, z_1, z_2, z_3, z_4, z_5, z_6, z_7, z_8, z_9, z_10, z_11, z_12, z_14, z_18, z_20, z_22, z_24, z_32, z_38, z_40, z_41, z_44, z_48, z_49, z_57, z_59, z_60, z_63, z_65, z_74, z_75, z_81, z_97, z_99, z_104, z_115, z_119, z_122, z_200, z_209, z_210, z_219, z_228, z_255, z_300, z_369, z_999, z_65537, z_268435456, z_1000000000, n_nat, n_add, n_sub, n_mul, n_neg, n_lt, n_le, n_eq, n_ix, n_gd, n_nz, lz_t, bd_some, tn, Int.reduceToNat, tn_1, if_pos, if_neg, if_true, if_false, sI_a, sI_b, sL_a, sL_b, sL_c, wA_a, wA_b, wA_c, wA_d, wB_a, wB_b, wB_c, wB_d, sA_w, sB_w, uN_s, uN_n, up_s, up_n, ul_s, ul_n, p_fst, p_snd, r0]
      · have hN : stN (rd r 0).toNat (decide (0 < rp r i)) st f = 0 ∧ ¬ (0 < rp r i ∧ 0 < st) := by
          unfold stN at hk ⊢
          by_cases c2 : (decide (0 < rp r i) && decide (0 < st)) = true
          · rw [if_pos c2] at hk; omega
          · rw [if_neg c2]
            refine ⟨rfl, fun z => c2 (by simp [z.1, z.2])⟩
        by_cases c3 : 0 < st
        · simp (disch := omega) only [z_0, z_1, z_2, z_3, z_4, z_5, z_6, z_7, z_8, z_9, z_10, z_11, z_12, z_14, z_18, z_20, z_22, z_24, z_32, z_38, z_40, z_41, z_44, z_48, z_49, z_57, z_59, z_60, z_63, z_65, z_74, z_75, z_81, z_97, z_99, z_104, z_115, z_119, z_122, z_200, z_209, z_210, z_219, z_228, z_255, z_300, z_369, z_999, z_65537, z_268435456, z_1000000000, n_nat, n_add, n_sub, n_mul, n_neg, n_lt, n_le, n_eq, n_ix, n_gd, n_nz, lz_t, bd_some, tn, Int.reduceToNat, tn_1, if_pos, if_neg, if_true, if_false, sI_a, sI_b, sL_a, sL_b, sL_c, wA_a, wA_b, wA_c, wA_d, wB_a, wB_b, wB_c, wB_d, sA_w, sB_w, uN_s, uN_n, up_s, up_n, ul_s, ul_n, p_fst, p_snd, r0, A11_price hs h]
        · simp (disch := omega) only [z_0, z_1, z_2, z_3, z_4, z_5, z_6, z_7, z_8, z_9, z_10, z_11, z_12, z_14, z_18, z_20, z_22, z_24, z_32, z_38, z_40, z_41, z_44, z_48, z_49, z_57, z_59, z_60, z_63, z_65, z_74, z_75, z_81, z_97, z_99, z_104, z_115, z_119, z_122, z_200, z_209, z_210, z_219, z_228, z_255, z_300, z_369, z_999, z_65537, z_268435456, z_1000000000, n_nat, n_add, n_sub, n_mul, n_neg, n_lt, n_le, n_eq, n_ix, n_gd, n_nz, lz_t, bd_some, tn, Int.reduceToNat, tn_1, if_pos, if_neg, if_true, if_false, sI_a, sI_b, sL_a, sL_b, sL_c, wA_a, wA_b, wA_c, wA_d, wB_a, wB_b, wB_c, wB_d, sA_w, sB_w, uN_s, uN_n, up_s, up_n, ul_s, ul_n, p_fst, p_snd, r0]
  | succ d ih =>
    intro k n hk hn
    cases n with
    | zero => omega
    | succ n =>
      have hk1 : (f : Int) + k ≤ rd r 0 := by omega
      have cs := (cur_s c k (cb 0 (by omega)).2).1
      have ckb := cb k hk1
      have cvb : 0 ≤ curV c k ∧ curV c k ≤ 1000000000 := by
        unfold curV
        split
        · omega
        · have := minTo_le c (k - 1)
          exact cb _ (by omega)
      have m := mulc (p := rp r i) (x := k) (by omega) (by omega) (by omega)
      have nxt := ih (k + 1) n (by omega) (by omega)
      rw [cs] at nxt
      -- the body
      have body : f_X11_leastBy_38 F s (Int32.ofInt (i : Int)) (Int32.ofInt (st : Int)) (Int32.ofInt (f : Int)) (f_X11_leastBy_8 F s (Int32.ofInt (i : Int)) (Int32.ofInt (st : Int)) (Int32.ofInt (f : Int)) n) (Int32.ofInt (curV c k)) (Int32.ofInt (k : Int)) = some (Int32.ofInt (c (minTo c (stN (rd r 0).toNat (decide (0 < rp r i)) st f)))) := by
        rw [← nxt]
        by_cases c1 : (f : Int) + k < lg r i
        · have e : c k = 1000000000 := by
            rw [hc]
            unfold cW cR lM
            by_cases k0 : k = 0
            · subst k0; rw [if_pos rfl, if_pos (by omega)]
            · rw [if_neg k0, if_pos (by rw [if_pos (by omega)])]
          rw [e]
          simp (disch := omega) only [f_X11_leastBy_38, f_X11_leastBy_150, z_0, z_1, z_2, z_3, z_4, z_5, z_6, z_7, z_8, z_9, z_10, z_11, z_12, z_14, z_18, z_20, z_22, z_24, z_32, z_38, z_40, z_41, z_44, z_48, z_49, z_57, z_59, z_60, z_63, z_65, z_74, z_75, z_81, z_97, z_99, z_104, z_115, z_119, z_122, z_200, z_209, z_210, z_219, z_228, z_255, z_300, z_369, z_999, z_65537, z_268435456, z_1000000000, n_nat, n_add, n_sub, n_mul, n_neg, n_lt, n_le, n_eq, n_ix, n_gd, n_nz, lz_t, bd_some, tn, Int.reduceToNat, tn_1, if_pos, if_neg, if_true, if_false, sI_a, sI_b, sL_a, sL_b, sL_c, wA_a, wA_b, wA_c, wA_d, wB_a, wB_b, wB_c, wB_d, sA_w, sB_w, uN_s, uN_n, up_s, up_n, ul_s, ul_n, p_fst, p_snd, A11_leg hs h]
          rfl
        · by_cases k0 : k = 0
          · subst k0
            have e : c 0 = wR r d0 st (f - (lg r i).toNat) := by
              rw [hc]
              unfold cW lM
              rw [if_pos rfl, if_neg (by omega)]
            have cell := hcell st hst (f - (lg r i).toNat) (by omega)
            have ex : (369 * (st : Int) + 41 * ((i : Int) + 1) + ((f : Int) + ((0 : Nat) : Int) - lg r i)).toNat = 369 * st + 41 * (i + 1) + (f - (lg r i).toNat) := by omega
            have ob := ok st (f - (lg r i).toNat) (by omega)
            by_cases c2 : wR r d0 st (f - (lg r i).toNat) = 1000000000
            · simp (disch := omega) only [f_X11_leastBy_38, f_X11_leastBy_77, f_X11_leastBy_132, f_X11_leastBy_148, f_X11_leastBy_150, z_0, z_1, z_2, z_3, z_4, z_5, z_6, z_7, z_8, z_9, z_10, z_11, z_12, z_14, z_18, z_20, z_22, z_24, z_32, z_38, z_40, z_41, z_44, z_48, z_49, z_57, z_59, z_60, z_63, z_65, z_74, z_75, z_81, z_97, z_99, z_104, z_115, z_119, z_122, z_200, z_209, z_210, z_219, z_228, z_255, z_300, z_369, z_999, z_65537, z_268435456, z_1000000000, n_nat, n_add, n_sub, n_mul, n_neg, n_lt, n_le, n_eq, n_ix, n_gd, n_nz, lz_t, bd_some, tn, Int.reduceToNat, tn_1, if_pos, if_neg, if_true, if_false, sI_a, sI_b, sL_a, sL_b, sL_c, wA_a, wA_b, wA_c, wA_d, wB_a, wB_b, wB_c, wB_d, sA_w, sB_w, uN_s, uN_n, up_s, up_n, ul_s, ul_n, p_fst, p_snd, A11_leg hs h, ex, cell, e, c2]
              rfl
            · by_cases c3 : c 0 < curV c 0
              · simp (disch := omega) only [f_X11_leastBy_38, f_X11_leastBy_77, f_X11_leastBy_131, f_X11_leastBy_132, f_X11_leastBy_148, f_X11_leastBy_150, z_0, z_1, z_2, z_3, z_4, z_5, z_6, z_7, z_8, z_9, z_10, z_11, z_12, z_14, z_18, z_20, z_22, z_24, z_32, z_38, z_40, z_41, z_44, z_48, z_49, z_57, z_59, z_60, z_63, z_65, z_74, z_75, z_81, z_97, z_99, z_104, z_115, z_119, z_122, z_200, z_209, z_210, z_219, z_228, z_255, z_300, z_369, z_999, z_65537, z_268435456, z_1000000000, n_nat, n_add, n_sub, n_mul, n_neg, n_lt, n_le, n_eq, n_ix, n_gd, n_nz, lz_t, bd_some, tn, Int.reduceToNat, tn_1, if_pos, if_neg, if_true, if_false, sI_a, sI_b, sL_a, sL_b, sL_c, wA_a, wA_b, wA_c, wA_d, wB_a, wB_b, wB_c, wB_d, sA_w, sB_w, uN_s, uN_n, up_s, up_n, ul_s, ul_n, p_fst, p_snd, A11_leg hs h, ex, cell, e]
                rw [Int.add_zero]
                rfl
              · simp (disch := omega) only [f_X11_leastBy_38, f_X11_leastBy_77, f_X11_leastBy_131, f_X11_leastBy_132, f_X11_leastBy_148, f_X11_leastBy_150, z_0, z_1, z_2, z_3, z_4, z_5, z_6, z_7, z_8, z_9, z_10, z_11, z_12, z_14, z_18, z_20, z_22, z_24, z_32, z_38, z_40, z_41, z_44, z_48, z_49, z_57, z_59, z_60, z_63, z_65, z_74, z_75, z_81, z_97, z_99, z_104, z_115, z_119, z_122, z_200, z_209, z_210, z_219, z_228, z_255, z_300, z_369, z_999, z_65537, z_268435456, z_1000000000, n_nat, n_add, n_sub, n_mul, n_neg, n_lt, n_le, n_eq, n_ix, n_gd, n_nz, lz_t, bd_some, tn, Int.reduceToNat, tn_1, if_pos, if_neg, if_true, if_false, sI_a, sI_b, sL_a, sL_b, sL_c, wA_a, wA_b, wA_c, wA_d, wB_a, wB_b, wB_c, wB_d, sA_w, sB_w, uN_s, uN_n, up_s, up_n, ul_s, ul_n, p_fst, p_snd, A11_leg hs h, ex, cell, e]
                rfl
          · have hst0 : 0 < st ∧ 0 < rp r i := by
              unfold stN at hk
              by_cases c2 : (decide (0 < rp r i) && decide (0 < st)) = true
              · rw [Bool.and_eq_true, decide_eq_true_eq, decide_eq_true_eq] at c2
                exact ⟨c2.2, c2.1⟩
              · rw [if_neg c2] at hk; omega
            have e : c k = if wR r d0 (st - 1) (f + k - (lg r i).toNat) = 1000000000 then 1000000000 else wR r d0 (st - 1) (f + k - (lg r i).toNat) + ((k : Int) * rp r i + rd r 2) := by
              have hlm : lM (lg r i) (wR r d0 (st - 1)) (f + k) = wR r d0 (st - 1) (f + k - (lg r i).toNat) := by
                unfold lM
                rw [if_neg (by omega)]
              rw [hc]
              unfold cW cR
              rw [if_neg k0, hlm, if_neg k0]
            have cell := hcell (st - 1) (by omega) (f + k - (lg r i).toNat) (by omega)
            have ex : (369 * ((st : Int) - 1) + 41 * ((i : Int) + 1) + ((f : Int) + (k : Int) - lg r i)).toNat = 369 * (st - 1) + 41 * (i + 1) + (f + k - (lg r i).toNat) := by omega
            have ob := ok (st - 1) (f + k - (lg r i).toNat) (by omega)
            by_cases c2 : wR r d0 (st - 1) (f + k - (lg r i).toNat) = 1000000000
            · rw [if_pos c2] at e
              simp (disch := omega) only [f_X11_leastBy_38, f_X11_leastBy_77, f_X11_leastBy_132, f_X11_leastBy_148, f_X11_leastBy_150, z_0, z_1, z_2, z_3, z_4, z_5, z_6, z_7, z_8, z_9, z_10, z_11, z_12, z_14, z_18, z_20, z_22, z_24, z_32, z_38, z_40, z_41, z_44, z_48, z_49, z_57, z_59, z_60, z_63, z_65, z_74, z_75, z_81, z_97, z_99, z_104, z_115, z_119, z_122, z_200, z_209, z_210, z_219, z_228, z_255, z_300, z_369, z_999, z_65537, z_268435456, z_1000000000, n_nat, n_add, n_sub, n_mul, n_neg, n_lt, n_le, n_eq, n_ix, n_gd, n_nz, lz_t, bd_some, tn, Int.reduceToNat, tn_1, if_pos, if_neg, if_true, if_false, sI_a, sI_b, sL_a, sL_b, sL_c, wA_a, wA_b, wA_c, wA_d, wB_a, wB_b, wB_c, wB_d, sA_w, sB_w, uN_s, uN_n, up_s, up_n, ul_s, ul_n, p_fst, p_snd, A11_leg hs h, ex, cell, e, c2]
              rfl
            · rw [if_neg c2] at e
              by_cases c3 : c k < curV c k
              · simp (disch := omega) only [f_X11_leastBy_38, f_X11_leastBy_77, f_X11_leastBy_131, f_X11_leastBy_132, f_X11_leastBy_148, f_X11_leastBy_150, z_0, z_1, z_2, z_3, z_4, z_5, z_6, z_7, z_8, z_9, z_10, z_11, z_12, z_14, z_18, z_20, z_22, z_24, z_32, z_38, z_40, z_41, z_44, z_48, z_49, z_57, z_59, z_60, z_63, z_65, z_74, z_75, z_81, z_97, z_99, z_104, z_115, z_119, z_122, z_200, z_209, z_210, z_219, z_228, z_255, z_300, z_369, z_999, z_65537, z_268435456, z_1000000000, n_nat, n_add, n_sub, n_mul, n_neg, n_lt, n_le, n_eq, n_ix, n_gd, n_nz, lz_t, bd_some, tn, Int.reduceToNat, tn_1, if_pos, if_neg, if_true, if_false, sI_a, sI_b, sL_a, sL_b, sL_c, wA_a, wA_b, wA_c, wA_d, wB_a, wB_b, wB_c, wB_d, sA_w, sB_w, uN_s, uN_n, up_s, up_n, ul_s, ul_n, p_fst, p_snd, A11_leg hs h, A11_price hs h, ex, cell, e, r2]
                rfl
              · simp (disch := omega) only [f_X11_leastBy_38, f_X11_leastBy_77, f_X11_leastBy_131, f_X11_leastBy_132, f_X11_leastBy_148, f_X11_leastBy_150, z_0, z_1, z_2, z_3, z_4, z_5, z_6, z_7, z_8, z_9, z_10, z_11, z_12, z_14, z_18, z_20, z_22, z_24, z_32, z_38, z_40, z_41, z_44, z_48, z_49, z_57, z_59, z_60, z_63, z_65, z_74, z_75, z_81, z_97, z_99, z_104, z_115, z_119, z_122, z_200, z_209, z_210, z_219, z_228, z_255, z_300, z_369, z_999, z_65537, z_268435456, z_1000000000, n_nat, n_add, n_sub, n_mul, n_neg, n_lt, n_le, n_eq, n_ix, n_gd, n_nz, lz_t, bd_some, tn, Int.reduceToNat, tn_1, if_pos, if_neg, if_true, if_false, sI_a, sI_b, sL_a, sL_b, sL_c, wA_a, wA_b, wA_c, wA_d, wB_a, wB_b, wB_c, wB_d, sA_w, sB_w, uN_s, uN_n, up_s, up_n, ul_s, ul_n, p_fst, p_snd, A11_leg hs h, A11_price hs h, ex, cell, e, r2]
                rfl
      rw [f_X11_leastBy_8]
      by_cases k0 : k = 0
      · simp (disch := omega) only [z_0, z_1, z_2, z_3, z_4, z_5, z_6, z_7, z_8, z_9, z_10, z_11, z_12, z_14, z_18, z_20, z_22, z_24, z_32, z_38, z_40, z_41, z_44, z_48, z_49, z_57, z_59, z_60, z_63, z_65, z_74, z_75, z_81, z_97, z_99, z_104, z_115, z_119, z_122, z_200, z_209, z_210, z_219, z_228, z_255, z_300, z_369, z_999, z_65537, z_268435456, z_1000000000, n_nat, n_add, n_sub, n_mul, n_neg, n_lt, n_le, n_eq, n_ix, n_gd, n_nz, lz_t, bd_some, tn, Int.reduceToNat, tn_1, if_pos, if_neg, if_true, if_false, r0]
        exact body
      · have hst0 : 0 < st ∧ 0 < rp r i := by
          unfold stN at hk
          by_cases c2 : (decide (0 < rp r i) && decide (0 < st)) = true
          · rw [Bool.and_eq_true, decide_eq_true_eq, decide_eq_true_eq] at c2
            exact ⟨c2.2, c2.1⟩
          · rw [if_neg c2] at hk; omega
        simp (disch := omega) only [z_0, z_1, z_2, z_3, z_4, z_5, z_6, z_7, z_8, z_9, z_10, z_11, z_12, z_14, z_18, z_20, z_22, z_24, z_32, z_38, z_40, z_41, z_44, z_48, z_49, z_57, z_59, z_60, z_63, z_65, z_74, z_75, z_81, z_97, z_99, z_104, z_115, z_119, z_122, z_200, z_209, z_210, z_219, z_228, z_255, z_300, z_369, z_999, z_65537, z_268435456, z_1000000000, n_nat, n_add, n_sub, n_mul, n_neg, n_lt, n_le, n_eq, n_ix, n_gd, n_nz, lz_t, bd_some, tn, Int.reduceToNat, tn_1, if_pos, if_neg, if_true, if_false, r0, A11_price hs h]
        exact body
