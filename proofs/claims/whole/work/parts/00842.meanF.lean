/-! calls: odds, mean, bestMean, sure, bestRule, buy -/
theorem toN {z : Int} (h : 0 ≤ z) : ∃ n : Nat, z = (n : Int) := ⟨z.toNat, by omega⟩
/-- the fraction that both answer -/
theorem frac_e {r : Nat → Int32} (h : ROK r) {how rule : Int} {ch : Bool} (hm : MR how rule ch) : ∃ a b K : Nat, mA r rule ch ((rd r 8).toNat - 1) (rd r 1).toNat = (a : Int) ∧ mS r ((rd r 8).toNat - 1) = (b : Int) ∧ mM r how ((rd r 8).toNat - 1) (rd r 1).toNat = ((a * K : Nat) : Int) ∧ Qd ((rd r 8).toNat - 1) = ((b * K : Nat) : Int) ∧ 0 < K ∧ 0 < b ∧ a < 1152921504606846976 ∧ b < 1152921504606846976 ∧ a * K < 1152921504606846976 ∧ b * K < 1152921504606846976 := by
  obtain ⟨t0, t1, t2, t3, t4, t5, t8, t9⟩ := ROKb h
  have qb := QB_b ((rd r 8).toNat - 1) (by omega)
  have sb := mS_b r ((rd r 8).toNat - 1)
  have kb := Kd_b r ((rd r 8).toNat - 1)
  have kq := Kd_q r ((rd r 8).toNat - 1)
  have ab := mA_b h rule ch ((rd r 8).toNat - 1) (by omega) (rd r 1).toNat (by omega)
  have mb := mM_b h how ((rd r 8).toNat - 1) (by omega) (rd r 1).toNat (by omega)
  have me := mM_eq h hm ((rd r 8).toNat - 1) (by omega) (rd r 1).toNat (by omega)
  obtain ⟨a, ha⟩ := toN ab.1
  obtain ⟨b, hb⟩ := toN (show 0 ≤ mS r ((rd r 8).toNat - 1) by omega)
  obtain ⟨K, hK⟩ := toN (show 0 ≤ Kd r ((rd r 8).toNat - 1) by omega)
  rw [ha, hK] at me
  rw [hb, hK] at kq
  refine ⟨a, b, K, ha, hb, by rw [me, Int.natCast_mul], by rw [kq, Int.natCast_mul], by omega, by omega, by omega, by omega, ?_, ?_⟩
  · have : ((a * K : Nat) : Int) ≤ 1000000000000000 := by rw [Int.natCast_mul, ← me]; omega
    omega
  · have : ((b * K : Nat) : Int) ≤ 25600000000 := by rw [Int.natCast_mul, ← kq]; omega
    omega
theorem accF {F : Nat} (sFr : MS) (a b : Int64) (p : Int32) (sMn : MS) : f_X10_acceptFraction F (sL (sL sFr 0 a) 1 b) p sMn = some (if p = 0 then a else b, sI sMn 11 0) := by
  unfold f_X10_acceptFraction
  rw [lz_t]
  by_cases c : p = 0
  · rw [if_pos c, if_pos c]
    simp (disch := omega) only [sI_a, sI_b, sL_a, sL_b, sL_c, wA_a, wA_b, wA_c, wA_d, wB_a, wB_b, wB_c, wB_d, sA_w, sB_w, uN_s, uN_n, up_s, up_n, ul_s, ul_n, p_fst, p_snd]
  · rw [if_neg c, if_neg c]
    simp (disch := omega) only [sI_a, sI_b, sL_a, sL_b, sL_c, wA_a, wA_b, wA_c, wA_d, wB_a, wB_b, wB_c, wB_d, sA_w, sB_w, uN_s, uN_n, up_s, up_n, ul_s, ul_n, p_fst, p_snd]
theorem ofI_if (p : Int32) (a b g : Nat) : Int64.ofInt (((if p = 0 then a else b) / g : Nat) : Int) = if p = 0 then Int64.ofInt ((a / g : Nat) : Int) else Int64.ofInt ((b / g : Nat) : Int) := by
  by_cases c : p = 0
  · rw [if_pos c, if_pos c]
  · rw [if_neg c, if_neg c]
theorem rMean_e {F : Nat} (hF : 300 ≤ F) {sRo : MS} {r : Nat → Int32} (hR : RR sRo r) (h : ROK r) {how rule : Int} {ch : Bool} (hm : MR how rule ch) (sDr sFr : MS) (fc fd : Nat → Int32) {s : MS} (hs : s.2.2.1 15 = r) :
    ∃ (u v : Int64) (sDr' : MS) (c d : Nat → Int32) (s' : MS), (if ch then f_X1_reckonOdds F 41 41 sRo (Int32.ofInt rule) sDr fc fd sFr else f_X1_reckonMean F 41 41 sRo (Int32.ofInt rule) sDr fc fd sFr) = some (sDr', c, d, sL (sL sFr 0 u) 1 v) ∧ (∀ p : Int32, f_X11_meanOf F (Int32.ofInt how) p s = some (if p = 0 then u else v, s')) ∧ KP s s' := by
  obtain ⟨q0, q1, q2, q3, q4, q5, q8, q9⟩ := RRb hR
  obtain ⟨t0, t1, t2, t3, t4, t5, t8, t9⟩ := ROKb h
  have hb : 0 ≤ rule ∧ rule ≤ 4 ∧ 0 ≤ how ∧ how ≤ 9 := by
    rcases hm with ⟨h1, h2, h3, h4⟩ | ⟨h1, h2, h3, h4⟩ | ⟨h1, h2, h3⟩ <;> omega
  obtain ⟨a, b, K, e1, e2, e3, e4, k0, b0, f1, f2, f3, f4⟩ := frac_e h hm
  obtain ⟨s1, c, d, z1, z2, z3⟩ := lookD_e (F := F) (by omega) hR h hb.1 hb.2.1 ch (stn := 0) (by omega) sDr fc fd
  obtain ⟨s', y1, y2, y3⟩ := lm_e (F := F) (by omega) h hb.2.2.1 hb.2.2.2 s hs
  have za := z2 (rd r 1).toNat (by omega)
  rw [Nat.sub_zero] at za z3
  rw [e1] at za
  rw [e2] at z3
  have ya := y3 0 (by omega) (by omega) (rd r 1).toNat (by omega)
  rw [Nat.sub_zero, e3, show 41 * 0 + (rd r 1).toNat = (rd r 1).toNat by omega] at ya
  have hs' : s'.2.2.1 15 = r := by rw [y2.2.2.1]; exact hs
  have tw := tw_e (F := F) (by omega) hs' h (k := 0) (by omega)
  rw [Nat.sub_zero, e4] at tw
  have tw' : f_X11_twenties F s' (Int32.ofInt 0) = _ := tw
  have bec := bec_e (F := F) hF f1 f2 b0 sFr
  have r1 : s'.2.2.1 15 1 = Int32.ofInt (rd r 1) := by rw [hs']; exact rd_e r 1
  have z1' : f_X1_lookDownTo F 41 41 sRo (Int32.ofInt rule) (Int32.ofInt (if ch then 1 else 0)) (Int32.ofInt 0) sDr fc fd = some (s1, c, d) := z1
  refine ⟨Int64.ofInt ((a / Nat.gcd a b : Nat) : Int), Int64.ofInt ((b / Nat.gcd a b : Nat) : Int), s1, c, d, s', ?_, ?_, FL_KP y2⟩
  · cases ch with
    | true =>
      rw [if_pos rfl] at z1' ⊢
      unfold f_X1_reckonOdds
      simp (disch := omega) only [z_0, z_1, z_2, z_3, z_4, z_5, z_6, z_7, z_8, z_9, z_10, z_11, z_12, z_14, z_18, z_20, z_22, z_24, z_32, z_38, z_40, z_41, z_44, z_48, z_49, z_57, z_59, z_60, z_63, z_65, z_74, z_75, z_81, z_97, z_99, z_104, z_115, z_119, z_122, z_200, z_209, z_210, z_219, z_228, z_255, z_300, z_369, z_999, z_65537, z_268435456, z_1000000000, n_nat, n_add, n_sub, n_mul, n_neg, n_lt, n_le, n_eq, n_ix, n_gd, n_nz, lz_t, bd_some, tn, Int.reduceToNat, tn_1, if_pos, if_neg, if_true, if_false, z1', q1, p_fst, p_snd, za, z3, bec]
    | false =>
      rw [if_neg (c := false = true) (by decide)] at z1' ⊢
      unfold f_X1_reckonMean
      simp (disch := omega) only [z_0, z_1, z_2, z_3, z_4, z_5, z_6, z_7, z_8, z_9, z_10, z_11, z_12, z_14, z_18, z_20, z_22, z_24, z_32, z_38, z_40, z_41, z_44, z_48, z_49, z_57, z_59, z_60, z_63, z_65, z_74, z_75, z_81, z_97, z_99, z_104, z_115, z_119, z_122, z_200, z_209, z_210, z_219, z_228, z_255, z_300, z_369, z_999, z_65537, z_268435456, z_1000000000, n_nat, n_add, n_sub, n_mul, n_neg, n_lt, n_le, n_eq, n_ix, n_gd, n_nz, lz_t, bd_some, tn, Int.reduceToNat, tn_1, if_pos, if_neg, if_true, if_false, z1', q1, p_fst, p_snd, za, z3, bec]
  · intro p
    have lo := low_e (F := F) hF f3 f4 (Nat.mul_pos b0 k0) p
    rw [ofI_if, (red_k k0).1, (red_k k0).2] at lo
    unfold f_X11_meanOf
    simp (disch := omega) only [z_0, z_1, z_2, z_3, z_4, z_5, z_6, z_7, z_8, z_9, z_10, z_11, z_12, z_14, z_18, z_20, z_22, z_24, z_32, z_38, z_40, z_41, z_44, z_48, z_49, z_57, z_59, z_60, z_63, z_65, z_74, z_75, z_81, z_97, z_99, z_104, z_115, z_119, z_122, z_200, z_209, z_210, z_219, z_228, z_255, z_300, z_369, z_999, z_65537, z_268435456, z_1000000000, n_nat, n_add, n_sub, n_mul, n_neg, n_lt, n_le, n_eq, n_ix, n_gd, n_nz, lz_t, bd_some, tn, Int.reduceToNat, tn_1, if_pos, if_neg, if_true, if_false, y1, r1, ya, tw', lo]
theorem P_mean {F : Nat} (hF : 300 ≤ F) {sMn sRo sDr sFr sMo : MS} {fc fd : Nat → Int32} (hR : RR sRo (sMo.2.2.1 15)) (H : HR (sMo.2.2.1 15) (sMo.1 14)) (p q : Int32) :
    ∃ v t sMn' sDr' c d sFr' sMo', f_X10_mean F 41 41 sRo p q sMn sDr fc fd sFr = some (v, t, sMn', sDr', c, d, sFr') ∧ f_X11_mean F p q sMo = some (v, sMo') ∧ TU sMn sMo sMn' sMo' := by
  unfold f_X10_mean f_X11_mean
  rw [X10_irr hR H, bd_some, X11_good', bd_some, X11_irr, bd_some, gQ_14]
  rcases H with ⟨h1, h2⟩ | ⟨h1, h2⟩
  · rw [h1, if_neg (c := (1 : Int32) = 0) (by decide)]
    cases c : isR p with
    | false => exact ⟨_, _, _, _, _, _, _, _, rfl, rfl, TU_n (KP_r _) 1⟩
    | true =>
      obtain ⟨z, z1, z2, rfl⟩ := isR_i c
      obtain ⟨u, v, sDr', c, d, s', e1, e2, e3⟩ := rMean_e (F := F) hF hR h2 (how := z) (rule := z) (ch := false) (Or.inl ⟨rfl, rfl, z1, by omega⟩) sDr sFr fc fd (gQ_15 sMo)
      rw [if_neg (by decide)] at e1
      rw [if_neg (by decide), if_neg (by decide), e1, bd_some, accF, bd_some, e2, bd_some]
      exact ⟨_, _, _, _, _, _, _, _, rfl, rfl, TU_k e3⟩
  · rw [h1, if_pos rfl]
    exact ⟨_, _, _, _, _, _, _, _, rfl, rfl, TU_n (KP_r _) 1⟩
theorem P_odds {F : Nat} (hF : 300 ≤ F) {sMn sRo sDr sFr sMo : MS} {fc fd : Nat → Int32} (hR : RR sRo (sMo.2.2.1 15)) (H : HR (sMo.2.2.1 15) (sMo.1 14)) (p q : Int32) :
    ∃ v t sMn' sDr' c d sFr' sMo', f_X10_odds F 41 41 sRo p q sMn sDr fc fd sFr = some (v, t, sMn', sDr', c, d, sFr') ∧ f_X11_odds F p q sMo = some (v, sMo') ∧ TU sMn sMo sMn' sMo' := by
  unfold f_X10_odds f_X11_odds
  rw [X10_irr hR H, bd_some, X11_good', bd_some, X11_irr, bd_some, gQ_14]
  rcases H with ⟨h1, h2⟩ | ⟨h1, h2⟩
  · rw [h1, if_neg (c := (1 : Int32) = 0) (by decide)]
    cases c : isR p with
    | false => exact ⟨_, _, _, _, _, _, _, _, rfl, rfl, TU_n (KP_r _) 1⟩
    | true =>
      obtain ⟨z, z1, z2, rfl⟩ := isR_i c
      obtain ⟨u, v, sDr', c, d, s', e1, e2, e3⟩ := rMean_e (F := F) hF hR h2 (how := z + 6) (rule := z) (ch := true) (Or.inr (Or.inl ⟨rfl, rfl, z1, by omega⟩)) sDr sFr fc fd (gQ_15 sMo)
      rw [if_pos rfl] at e1
      have e6 : (6 : Int32) + Int32.ofInt z = Int32.ofInt (z + 6) := by
        rw [z_6, n_add, Int.add_comm]
      rw [if_neg (by decide), if_neg (by decide), e1, bd_some, accF, bd_some, e6, e2, bd_some]
      exact ⟨_, _, _, _, _, _, _, _, rfl, rfl, TU_k e3⟩
  · rw [h1, if_pos rfl]
    exact ⟨_, _, _, _, _, _, _, _, rfl, rfl, TU_n (KP_r _) 1⟩
theorem P_bestMean {F : Nat} (hF : 300 ≤ F) {sMn sRo sDr sFr sMo : MS} {fc fd : Nat → Int32} (hR : RR sRo (sMo.2.2.1 15)) (H : HR (sMo.2.2.1 15) (sMo.1 14)) (q : Int32) :
    ∃ v t sMn' sDr' c d sFr' sMo', f_X10_bestMean F 41 41 sRo q sMn sDr fc fd sFr = some (v, t, sMn', sDr', c, d, sFr') ∧ f_X11_bestMean F q sMo = some (v, sMo') ∧ TU sMn sMo sMn' sMo' := by
  unfold f_X10_bestMean f_X11_bestMean
  rw [X9_isTold hR H, bd_some, X11_good', bd_some, gQ_14]
  rcases H with ⟨h1, h2⟩ | ⟨h1, h2⟩
  · obtain ⟨u, v, sDr', c, d, s', e1, e2, e3⟩ := rMean_e (F := F) hF hR h2 (how := 4) (rule := 4) (ch := false) (Or.inl ⟨rfl, rfl, by omega, by omega⟩) sDr sFr fc fd (gQ_15 sMo)
    rw [if_neg (by decide)] at e1
    have e1' : f_X1_reckonMean F 41 41 sRo 4 sDr fc fd sFr = _ := e1
    have e2' : f_X11_meanOf F 4 q (gQ sMo) = _ := e2 q
    rw [h1, if_neg (by decide), if_neg (by decide), e1', bd_some, accF, bd_some, e2', bd_some]
    exact ⟨_, _, _, _, _, _, _, _, rfl, rfl, TU_k e3⟩
  · rw [h1, if_pos rfl, if_pos rfl]
    exact ⟨_, _, _, _, _, _, _, _, rfl, rfl, TU_n (KP_r _) 1⟩
theorem P_sure {F : Nat} (hF : 300 ≤ F) {sMn sRo sDr sFr sMo : MS} {fc fd : Nat → Int32} (hR : RR sRo (sMo.2.2.1 15)) (H : HR (sMo.2.2.1 15) (sMo.1 14)) (q : Int32) :
    ∃ v t sMn' sDr' c d sFr' sMo', f_X10_sure F 41 41 sRo q sMn sDr fc fd sFr = some (v, t, sMn', sDr', c, d, sFr') ∧ f_X11_sure F q sMo = some (v, sMo') ∧ TU sMn sMo sMn' sMo' := by
  unfold f_X10_sure f_X11_sure
  rw [X9_isTold hR H, bd_some, X11_good', bd_some, gQ_14]
  rcases H with ⟨h1, h2⟩ | ⟨h1, h2⟩
  · obtain ⟨u, v, sDr', c, d, s', e1, e2, e3⟩ := rMean_e (F := F) hF hR h2 (how := 5) (rule := 0) (ch := true) (Or.inr (Or.inr ⟨rfl, rfl, rfl⟩)) sDr sFr fc fd (gQ_15 sMo)
    rw [if_pos rfl] at e1
    have e1' : f_X1_reckonOdds F 41 41 sRo 0 sDr fc fd sFr = _ := e1
    have e2' : f_X11_meanOf F 5 q (gQ sMo) = _ := e2 q
    rw [h1, if_neg (by decide), if_neg (by decide), e1', bd_some, accF, bd_some, e2', bd_some]
    exact ⟨_, _, _, _, _, _, _, _, rfl, rfl, TU_k e3⟩
  · rw [h1, if_pos rfl, if_pos rfl]
    exact ⟨_, _, _, _, _, _, _, _, rfl, rfl, TU_n (KP_r _) 1⟩
/-! the rule of the least mean -/
def bestU (f : Nat → Int) : Nat → Nat := fun k => minTo f (k - 1)
theorem brc_go {F : Nat} (hF : 300 ≤ F) {sRo : MS} {r : Nat → Int32} (hR : RR sRo r) (h : ROK r) {f : Nat → Int} (hf : f = fun (k : Nat) => mA r (k : Int) false ((rd r 8).toNat - 1) (rd r 1).toNat) : ∀ (d k n : Nat) (sDr : MS) (fc fd : Nat → Int32) (b l : Int), k + d = 4 → d < n → (k = 0 → b = 0) → (0 < k → b = (minTo f (k - 1) : Nat) ∧ l = f (minTo f (k - 1))) →
    ∃ sDr' c d', f_X1_ruleOfLeastMean_7 F 41 41 sRo n (Int32.ofInt b) (Int64.ofInt l) (Int32.ofInt (k : Int)) sDr fc fd = some (Int32.ofInt ((minTo f 3 : Nat) : Int), sDr', c, d') := by
  obtain ⟨q0, q1, q2, q3, q4, q5, q8, q9⟩ := RRb hR
  obtain ⟨t0, t1, t2, t3, t4, t5, t8, t9⟩ := ROKb h
  have qb := QB_b ((rd r 8).toNat - 1) (by omega)
  have fb : ∀ k : Nat, 0 ≤ f k ∧ f k ≤ 1000000000000000 := by
    intro k
    have := mA_b h (k : Int) false ((rd r 8).toNat - 1) (by omega) (rd r 1).toNat (by omega)
    rw [hf]
    show 0 ≤ mA r (k : Int) false ((rd r 8).toNat - 1) (rd r 1).toNat ∧ mA r (k : Int) false ((rd r 8).toNat - 1) (rd r 1).toNat ≤ _
    omega
  intro d
  induction d with
  | zero =>
    intro k n sDr fc fd b l hk hn h0 h1
    cases n with
    | zero => omega
    | succ n =>
      have e : k = 4 := hk
      subst e
      have := (h1 (by omega)).1
      subst this
      refine ⟨sDr, fc, fd, ?_⟩
      rw [f_X1_ruleOfLeastMean_7]
      simp (disch := omega) only [z_0, z_1, z_2, z_3, z_4, z_5, z_6, z_7, z_8, z_9, z_10, z_11, z_12, z_14, z_18, z_20, z_22, z_24, z_32, z_38, z_40, z_41, z_44, z_48, z_49, z_57, z_59, z_60, z_63, z_65, z_74, z_75, z_81, z_97, z_99, z_104, z_115, z_119, z_122, z_200, z_209, z_210, z_219, z_228, z_255, z_300, z_369, z_999, z_65537, z_268435456, z_1000000000, n_nat, n_add, n_sub, n_mul, n_neg, n_lt, n_le, n_eq, n_ix, n_gd, n_nz, lz_t, bd_some, tn, Int.reduceToNat, tn_1, if_pos, if_neg, if_true, if_false]
  | succ d ih =>
    intro k n sDr fc fd b l hk hn h0 h1
    cases n with
    | zero => omega
    | succ n =>
      obtain ⟨s1, c, d1, z1, z2, z3⟩ := lookD_e (F := F) (by omega) hR h (rule := (k : Int)) (by omega) (by omega) false (stn := 0) (by omega) sDr fc fd
      rw [if_neg (by decide)] at z1
      have za := z2 (rd r 1).toNat (by omega)
      rw [Nat.sub_zero] at za
      have za' : s1.2.2.2 2 (rd r 1).toNat = Int64.ofInt (f k) := by rw [za, hf]
      have z1' : f_X1_lookDownTo F 41 41 sRo (Int32.ofInt (k : Int)) (Int32.ofInt 0) (Int32.ofInt 0) sDr fc fd = some (s1, c, d1) := z1
      have fk := fb k
      rw [f_X1_ruleOfLeastMean_7]
      by_cases k0 : k = 0
      · subst k0
        obtain ⟨a1, a2, a3, y1⟩ := ih 1 n s1 c d1 0 (f 0) (by omega) (by omega) (by omega) (fun _ => ⟨rfl, rfl⟩)
        refine ⟨a1, a2, a3, ?_⟩
        simp (disch := omega) only [z_0, z_1, z_2, z_3, z_4, z_5, z_6, z_7, z_8, z_9, z_10, z_11, z_12, z_14, z_18, z_20, z_22, z_24, z_32, z_38, z_40, z_41, z_44, z_48, z_49, z_57, z_59, z_60, z_63, z_65, z_74, z_75, z_81, z_97, z_99, z_104, z_115, z_119, z_122, z_200, z_209, z_210, z_219, z_228, z_255, z_300, z_369, z_999, z_65537, z_268435456, z_1000000000, n_nat, n_add, n_sub, n_mul, n_neg, n_lt, n_le, n_eq, n_ix, n_gd, n_nz, lz_t, bd_some, tn, Int.reduceToNat, tn_1, if_pos, if_neg, if_true, if_false, z1', q1, p_fst, p_snd, za', f_X1_ruleOfLeastMean_41, f_X1_ruleOfLeastMean_54]
        exact y1
      · obtain ⟨hb, hl⟩ := h1 (by omega)
        have lb := fb (minTo f (k - 1))
        have mE : minTo f k = if f k < f (minTo f (k - 1)) then k else minTo f (k - 1) := by
          have : k = (k - 1) + 1 := by omega
          rw [this]
          rfl
        by_cases c2 : f k < f (minTo f (k - 1))
        · rw [if_pos c2] at mE
          obtain ⟨a1, a2, a3, y1⟩ := ih (k + 1) n s1 c d1 (k : Int) (f k) (by omega) (by omega) (by omega) (fun _ => by rw [Nat.add_sub_cancel, mE]; exact ⟨rfl, rfl⟩)
          refine ⟨a1, a2, a3, ?_⟩
          simp (disch := omega) only [z_0, z_1, z_2, z_3, z_4, z_5, z_6, z_7, z_8, z_9, z_10, z_11, z_12, z_14, z_18, z_20, z_22, z_24, z_32, z_38, z_40, z_41, z_44, z_48, z_49, z_57, z_59, z_60, z_63, z_65, z_74, z_75, z_81, z_97, z_99, z_104, z_115, z_119, z_122, z_200, z_209, z_210, z_219, z_228, z_255, z_300, z_369, z_999, z_65537, z_268435456, z_1000000000, n_nat, n_add, n_sub, n_mul, n_neg, n_lt, n_le, n_eq, n_ix, n_gd, n_nz, lz_t, bd_some, tn, Int.reduceToNat, tn_1, if_pos, if_neg, if_true, if_false, z1', q1, p_fst, p_snd, za', c_ge, f_X1_ruleOfLeastMean_41, f_X1_ruleOfLeastMean_54]
          exact y1
        · rw [if_neg c2] at mE
          obtain ⟨a1, a2, a3, y1⟩ := ih (k + 1) n s1 c d1 b l (by omega) (by omega) (by omega) (fun _ => by rw [Nat.add_sub_cancel, mE]; exact ⟨hb, hl⟩)
          refine ⟨a1, a2, a3, ?_⟩
          simp (disch := omega) only [z_0, z_1, z_2, z_3, z_4, z_5, z_6, z_7, z_8, z_9, z_10, z_11, z_12, z_14, z_18, z_20, z_22, z_24, z_32, z_38, z_40, z_41, z_44, z_48, z_49, z_57, z_59, z_60, z_63, z_65, z_74, z_75, z_81, z_97, z_99, z_104, z_115, z_119, z_122, z_200, z_209, z_210, z_219, z_228, z_255, z_300, z_369, z_999, z_65537, z_268435456, z_1000000000, n_nat, n_add, n_sub, n_mul, n_neg, n_lt, n_le, n_eq, n_ix, n_gd, n_nz, lz_t, bd_some, tn, Int.reduceToNat, tn_1, if_pos, if_neg, if_true, if_false, z1', q1, p_fst, p_snd, za', c_ge, f_X1_ruleOfLeastMean_41, f_X1_ruleOfLeastMean_54]
          exact y1
theorem brr_go {F : Nat} (hF : 300 ≤ F) {r : Nat → Int32} (h : ROK r) {f : Nat → Int} (hf : f = fun (k : Nat) => mM r (k : Int) ((rd r 8).toNat - 1) (rd r 1).toNat) : ∀ (d k n : Nat) (s : MS) (b l : Int), k + d = 4 → d < n → s.2.2.1 15 = r → (k = 0 → b = 0 ∧ l = -1) → (0 < k → b = (minTo f (k - 1) : Nat) ∧ l = f (minTo f (k - 1))) →
    ∃ s', f_X11_bestRule_26 F n (Int32.ofInt b) (Int64.ofInt l) (Int32.ofInt (k : Int)) s = some (Int32.ofInt ((minTo f 3 : Nat) : Int), s') ∧ KP s s' := by
  obtain ⟨t0, t1, t2, t3, t4, t5, t8, t9⟩ := ROKb h
  have qb := QB_b ((rd r 8).toNat - 1) (by omega)
  have fb : ∀ k : Nat, 0 ≤ f k ∧ f k ≤ 1000000000000000 := by
    intro k
    have := mM_b h (k : Int) ((rd r 8).toNat - 1) (by omega) (rd r 1).toNat (by omega)
    rw [hf]
    show 0 ≤ mM r (k : Int) ((rd r 8).toNat - 1) (rd r 1).toNat ∧ mM r (k : Int) ((rd r 8).toNat - 1) (rd r 1).toNat ≤ _
    omega
  intro d
  induction d with
  | zero =>
    intro k n s b l hk hn hs h0 h1
    cases n with
    | zero => omega
    | succ n =>
      have e : k = 4 := hk
      subst e
      have := (h1 (by omega)).1
      subst this
      refine ⟨s, ?_, KP_r s⟩
      rw [f_X11_bestRule_26]
      simp (disch := omega) only [z_0, z_1, z_2, z_3, z_4, z_5, z_6, z_7, z_8, z_9, z_10, z_11, z_12, z_14, z_18, z_20, z_22, z_24, z_32, z_38, z_40, z_41, z_44, z_48, z_49, z_57, z_59, z_60, z_63, z_65, z_74, z_75, z_81, z_97, z_99, z_104, z_115, z_119, z_122, z_200, z_209, z_210, z_219, z_228, z_255, z_300, z_369, z_999, z_65537, z_268435456, z_1000000000, n_nat, n_add, n_sub, n_mul, n_neg, n_lt, n_le, n_eq, n_ix, n_gd, n_nz, lz_t, bd_some, tn, Int.reduceToNat, tn_1, if_pos, if_neg, if_true, if_false]
  | succ d ih =>
    intro k n s b l hk hn hs h0 h1
    cases n with
    | zero => omega
    | succ n =>
      obtain ⟨s1, y1, y2, y3⟩ := lm_e (F := F) (by omega) h (how := (k : Int)) (by omega) (by omega) s hs
      have hs1 : s1.2.2.1 15 = r := by rw [y2.2.2.1]; exact hs
      have ya := y3 0 (by omega) (by omega) (rd r 1).toNat (by omega)
      rw [Nat.sub_zero, show 41 * 0 + (rd r 1).toNat = (rd r 1).toNat by omega] at ya
      have ya' : s1.2.2.2 27 (rd r 1).toNat = Int64.ofInt (f k) := by rw [ya, hf]
      have r1 : s1.2.2.1 15 1 = Int32.ofInt (rd r 1) := by rw [hs1]; exact rd_e r 1
      have fk := fb k
      rw [f_X11_bestRule_26]
      by_cases k0 : k = 0
      · subst k0
        obtain ⟨hb, hl⟩ := h0 rfl
        obtain ⟨a1, z1, z2⟩ := ih 1 n s1 0 (f 0) (by omega) (by omega) hs1 (by omega) (fun _ => ⟨rfl, rfl⟩)
        refine ⟨a1, ?_, KP_t (FL_KP y2) z2⟩
        simp (disch := omega) only [z_0, z_1, z_2, z_3, z_4, z_5, z_6, z_7, z_8, z_9, z_10, z_11, z_12, z_14, z_18, z_20, z_22, z_24, z_32, z_38, z_40, z_41, z_44, z_48, z_49, z_57, z_59, z_60, z_63, z_65, z_74, z_75, z_81, z_97, z_99, z_104, z_115, z_119, z_122, z_200, z_209, z_210, z_219, z_228, z_255, z_300, z_369, z_999, z_65537, z_268435456, z_1000000000, n_nat, n_add, n_sub, n_mul, n_neg, n_lt, n_le, n_eq, n_ix, n_gd, n_nz, lz_t, bd_some, tn, Int.reduceToNat, tn_1, if_pos, if_neg, if_true, if_false, y1, r1, ya', y_0, c_lt, f_X11_bestRule_63, f_X11_bestRule_78]
        exact z1
      · obtain ⟨hb, hl⟩ := h1 (by omega)
        have lb := fb (minTo f (k - 1))
        have mE : minTo f k = if f k < f (minTo f (k - 1)) then k else minTo f (k - 1) := by
          have : k = (k - 1) + 1 := by omega
          rw [this]
          rfl
        by_cases c2 : f k < f (minTo f (k - 1))
        · rw [if_pos c2] at mE
          obtain ⟨a1, z1, z2⟩ := ih (k + 1) n s1 (k : Int) (f k) (by omega) (by omega) hs1 (by omega) (fun _ => by rw [Nat.add_sub_cancel, mE]; exact ⟨rfl, rfl⟩)
          refine ⟨a1, ?_, KP_t (FL_KP y2) z2⟩
          simp (disch := omega) only [z_0, z_1, z_2, z_3, z_4, z_5, z_6, z_7, z_8, z_9, z_10, z_11, z_12, z_14, z_18, z_20, z_22, z_24, z_32, z_38, z_40, z_41, z_44, z_48, z_49, z_57, z_59, z_60, z_63, z_65, z_74, z_75, z_81, z_97, z_99, z_104, z_115, z_119, z_122, z_200, z_209, z_210, z_219, z_228, z_255, z_300, z_369, z_999, z_65537, z_268435456, z_1000000000, n_nat, n_add, n_sub, n_mul, n_neg, n_lt, n_le, n_eq, n_ix, n_gd, n_nz, lz_t, bd_some, tn, Int.reduceToNat, tn_1, if_pos, if_neg, if_true, if_false, y1, r1, ya', y_0, c_lt, f_X11_bestRule_63, f_X11_bestRule_78]
          exact z1
        · rw [if_neg c2] at mE
          obtain ⟨a1, z1, z2⟩ := ih (k + 1) n s1 b l (by omega) (by omega) hs1 (by omega) (fun _ => by rw [Nat.add_sub_cancel, mE]; exact ⟨hb, hl⟩)
          refine ⟨a1, ?_, KP_t (FL_KP y2) z2⟩
          simp (disch := omega) only [z_0, z_1, z_2, z_3, z_4, z_5, z_6, z_7, z_8, z_9, z_10, z_11, z_12, z_14, z_18, z_20, z_22, z_24, z_32, z_38, z_40, z_41, z_44, z_48, z_49, z_57, z_59, z_60, z_63, z_65, z_74, z_75, z_81, z_97, z_99, z_104, z_115, z_119, z_122, z_200, z_209, z_210, z_219, z_228, z_255, z_300, z_369, z_999, z_65537, z_268435456, z_1000000000, n_nat, n_add, n_sub, n_mul, n_neg, n_lt, n_le, n_eq, n_ix, n_gd, n_nz, lz_t, bd_some, tn, Int.reduceToNat, tn_1, if_pos, if_neg, if_true, if_false, y1, r1, ya', y_0, c_lt, f_X11_bestRule_63, f_X11_bestRule_78]
          exact z1
theorem P_bestRule {F : Nat} (hF : 300 ≤ F) {sMn sRo sDr sMo : MS} {fc fd : Nat → Int32} (hR : RR sRo (sMo.2.2.1 15)) (H : HR (sMo.2.2.1 15) (sMo.1 14)) :
    ∃ v t sMn' sDr' c d sMo', f_X10_bestRule F 41 41 sRo sMn sDr fc fd = some (v, t, sMn', sDr', c, d) ∧ f_X11_bestRule F sMo = some (v, sMo') ∧ TU sMn sMo sMn' sMo' := by
  unfold f_X10_bestRule f_X11_bestRule f_X1_ruleOfLeastMean
  rw [X9_isTold hR H, bd_some, X11_good', bd_some, gQ_14]
  rcases H with ⟨h1, h2⟩ | ⟨h1, h2⟩
  · obtain ⟨t0, t1, t2, t3, t4, t5, t8, t9⟩ := ROKb h2
    obtain ⟨a1, a2, a3, y1⟩ := brc_go (F := F) hF hR h2 rfl 4 0 F sDr fc fd 0 0 (by omega) (by omega) (by omega) (by omega)
    obtain ⟨b1, z1, z2⟩ := brr_go (F := F) hF h2 rfl 4 0 F (gQ sMo) 0 (-1) (by omega) (by omega) (gQ_15 sMo) (fun _ => ⟨rfl, rfl⟩) (by omega)
    have mk : minTo (fun (k : Nat) => mM (sMo.2.2.1 15) (k : Int) ((rd (sMo.2.2.1 15) 8).toNat - 1) (rd (sMo.2.2.1 15) 1).toNat) 3 = minTo (fun (k : Nat) => mA (sMo.2.2.1 15) (k : Int) false ((rd (sMo.2.2.1 15) 8).toNat - 1) (rd (sMo.2.2.1 15) 1).toNat) 3 := minTo_k (k := Kd (sMo.2.2.1 15) ((rd (sMo.2.2.1 15) 8).toNat - 1)) (by have := Kd_b (sMo.2.2.1 15) ((rd (sMo.2.2.1 15) 8).toNat - 1); omega) (fun n hn => mM_eq h2 (Or.inl ⟨rfl, rfl, by omega, by omega⟩) _ (by omega) _ (by omega))
    rw [mk] at z1
    have y1' : f_X1_ruleOfLeastMean_7 F 41 41 sRo F 0 0 0 sDr fc fd = _ := y1
    have z1' : f_X11_bestRule_26 F F 0 (-1) 0 (gQ sMo) = _ := z1
    rw [h1, if_neg (by decide), if_neg (by decide), y1', bd_some, X10_accept, bd_some, z1']
    exact ⟨_, _, _, _, _, _, _, rfl, rfl, TU_k z2⟩
  · rw [h1, if_pos rfl, if_pos rfl]
    exact ⟨_, _, _, _, _, _, _, rfl, rfl, TU_n (KP_r _) 1⟩
theorem P_buy {F : Nat} (hF : 300 ≤ F) {sMn sRo sDr sMo : MS} {fc fd : Nat → Int32} (hR : RR sRo (sMo.2.2.1 15)) (H : HR (sMo.2.2.1 15) (sMo.1 14)) (i q m : Int32) :
    ∃ v t sMn' sDr' c d sMo', f_X10_buy F 41 41 sRo i q m sMn sDr fc fd = some (v, t, sMn', sDr', c, d) ∧ f_X11_buy F i q m sMo = some (v, sMo') ∧ TU sMn sMo sMn' sMo' := by
  unfold f_X10_buy f_X11_buy
  rw [X10_whyB hR H, bd_some, X11_good', bd_some, X11_whyB (s := gQ sMo) H, bd_some, gQ_15]
  by_cases e : wBy (sMo.2.2.1 15) i q m = 0
  · obtain ⟨h2, h1, k, z, k1, rfl, z1, z2, rfl, z3⟩ := wBy_0 H e
    obtain ⟨t0, t1, t2, t3, t4, t5, t8, t9⟩ := ROKb h2
    obtain ⟨x, rfl⟩ := toN z1
    have rb := rq_b h2 (i := k) (by omega) m
    have qb := QB_b ((rd (sMo.2.2.1 15) 8).toNat - 2 - k) (by omega)
    obtain ⟨s1, c, d, e1⟩ := bestP_e (F := F) (by omega) hR h2 k1 (x := x) (by omega) rb.1 rb.2 sDr fc fd
    obtain ⟨s', y1, y2, y3⟩ := lm_e (F := F) (by omega) h2 (how := 4) (by omega) (by omega) (gQ sMo) (gQ_15 sMo)
    have hs' : s'.2.2.1 15 = sMo.2.2.1 15 := by rw [y2.2.2.1]; rfl
    have row := y3 (k + 1) (by omega) (by omega)
    have hd : (rd (sMo.2.2.1 15) 8).toNat - 1 - (k + 1) = (rd (sMo.2.2.1 15) 8).toNat - 2 - k := by omega
    have hi2 : (rd (sMo.2.2.1 15) 8).toNat - 2 - ((rd (sMo.2.2.1 15) 8).toNat - 2 - k) = k := by omega
    rw [hd] at row
    have bb := bb_e (F := F) (by omega) hs' h2 (how := 4) (Or.inl rfl) k1 row (mM_b h2 4 _ (by omega)) (x := x) (by omega) rb.1 rb.2
    have kb := Kd_b (sMo.2.2.1 15) ((rd (sMo.2.2.1 15) 8).toNat - 2 - k)
    have eN : rN (sMo.2.2.1 15) 4 k (lvA (if decide (5 ≤ (4 : Int)) then 0 else rd (sMo.2.2.1 15) 4 * Qd ((rd (sMo.2.2.1 15) 8).toNat - 2 - k)) (lg (sMo.2.2.1 15) k) (mM (sMo.2.2.1 15) 4 ((rd (sMo.2.2.1 15) 8).toNat - 2 - k))) (Qd ((rd (sMo.2.2.1 15) 8).toNat - 2 - k)) (rq (sMo.2.2.1 15) k m) x = minTo (cC (mL (sMo.2.2.1 15) false ((rd (sMo.2.2.1 15) 8).toNat - 2 - k) (mA (sMo.2.2.1 15) 4 false ((rd (sMo.2.2.1 15) 8).toNat - 2 - k))) (rq (sMo.2.2.1 15) k m * mS (sMo.2.2.1 15) ((rd (sMo.2.2.1 15) 8).toNat - 2 - k)) (rd (sMo.2.2.1 15) 2 * mS (sMo.2.2.1 15) ((rd (sMo.2.2.1 15) 8).toNat - 2 - k)) x) ((rd (sMo.2.2.1 15) 0).toNat - x) := by
      unfold rN
      rw [if_pos rfl]
      apply minTo_k (k := Kd (sMo.2.2.1 15) ((rd (sMo.2.2.1 15) 8).toNat - 2 - k)) (by omega)
      intro n hn
      rw [Kd_q (sMo.2.2.1 15)]
      refine (rc_eq (lv := mL (sMo.2.2.1 15) false ((rd (sMo.2.2.1 15) 8).toNat - 2 - k) (mA (sMo.2.2.1 15) 4 false ((rd (sMo.2.2.1 15) 8).toNat - 2 - k))) ?_).trans ?_
      · unfold mL lvA
        rw [hi2]
        by_cases c : ((x + n : Nat) : Int) < lg (sMo.2.2.1 15) k
        · rw [if_pos c, if_pos c]
          simp only [show ¬ (5 ≤ (4 : Int)) by omega, decide_false, Bool.false_eq_true, if_false]
          rw [Int.mul_assoc]
        · rw [if_neg c, if_neg c]
          exact mM_eq h2 (Or.inl ⟨rfl, rfl, by omega, by omega⟩) _ (by omega) _ (by omega)
      · rfl
    rw [eN] at bb
    have y1' : f_X11_layMeans F 4 (gQ sMo) = _ := y1
    have bb' : f_X11_bestBuy F s' 4 (Int32.ofInt (k : Int)) (Int32.ofInt (x : Int)) (Int32.ofInt (rq (sMo.2.2.1 15) k m)) = _ := bb
    rw [if_pos e, if_pos e, A9_pm hR h2 (i := k) (by omega), bd_some, e1, bd_some, X10_accept, bd_some]
    rw [y1', bd_some, A11_place hs' h2 (i := k) (by omega), bd_some, ite_a (fun w => f_X11_buy_49 F (Int32.ofInt (k : Int)) (Int32.ofInt (x : Int)) m 4 (Int32.ofInt (k : Int)) (Int32.ofInt (x : Int)) (Int32.ofInt (wp (sMo.2.2.1 15) k : Int)) w s')]
    unfold f_X11_buy_49
    rw [A11_pm hs' h2 (i := k) (by omega), bd_some, bb', bd_some]
    exact ⟨_, _, _, _, _, _, _, rfl, rfl, TU_k (FL_KP y2)⟩
  · rw [if_neg e, if_neg e]
    exact ⟨_, _, _, _, _, _, _, rfl, rfl, TU_n (KP_r _) _⟩
