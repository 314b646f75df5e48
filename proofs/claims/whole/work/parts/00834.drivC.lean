/-! calls: buys, byRule, stuckAt, run, through, beats -/
def isR (p : Int32) : Bool := decide (0 ≤ p.toInt) && decide (p.toInt ≤ 3)
theorem X10_isRule {F : Nat} (p : Int32) : f_X10_isRule F p = some (bi (isR p)) := by
  unfold f_X10_isRule isR
  simp only [i_lt, i_le]
  rw [show (0 : Int32).toInt = 0 from rfl, show (4 : Int32).toInt = 4 from rfl]
  by_cases c1 : p.toInt < 0
  · rw [if_pos c1]
    have : ¬ 0 ≤ p.toInt := by omega
    simp [this, bi]
  · rw [if_neg c1]
    have c2 : 0 ≤ p.toInt := by omega
    by_cases c3 : 4 ≤ p.toInt
    · rw [if_pos c3]
      have : ¬ p.toInt ≤ 3 := by omega
      simp [this, bi]
    · rw [if_neg c3]
      have : p.toInt ≤ 3 := by omega
      simp [this, c2, bi]
theorem bi_if2 {b : Bool} : (if bi b = (0 : Int32) then some (0 : Int32) else some (1 : Int32)) = some (bi b) := by cases b <;> rfl
theorem X10_irr {F : Nat} {sMn sRo : MS} {r : Nat → Int32} {h : Int32} (hR : RR sRo r) (H : HR r h) (p : Int32) : f_X10_isRuleOfRoad F sMn sRo p = some (if h = 0 then 0 else bi (isR p)) := by
  unfold f_X10_isRuleOfRoad
  rw [X9_isTold hR H, bd_some, X10_isRule, bd_some, bi_if2]
  by_cases c : h = 0
  · rw [if_pos c, if_pos c]
  · rw [if_neg c, if_neg c]
theorem X11_irr {F : Nat} {s : MS} (p : Int32) : f_X11_isRule F s p = some (if s.1 14 = 0 then 0 else bi (isR p)) := by
  unfold f_X11_isRule
  rw [X11_in, bd_some, bi_if2]
  by_cases c : s.1 14 = 0
  · rw [if_pos c, if_pos c]
  · rw [if_neg c, if_neg c]; rfl
theorem isR_i {p : Int32} (h : isR p = true) : ∃ z : Int, 0 ≤ z ∧ z ≤ 3 ∧ p = Int32.ofInt z := by
  unfold isR at h
  rw [Bool.and_eq_true, decide_eq_true_eq, decide_eq_true_eq] at h
  exact ⟨p.toInt, h.1, h.2, n_out p⟩
theorem KP_1 {s s' : MS} {k : Nat} (h : F1 s s' k) (hk : 23 ≤ k) : KP s s' := ⟨fun j hj => h.2 j (by omega), fun a _ => by rw [h.1]⟩
theorem open_e {F : Nat} (hF : 100 ≤ F) {sRo : MS} {r : Nat → Int32} (hR : RR sRo r) (h : ROK r) {rule : Int} (hr1 : 0 ≤ rule) (hr2 : rule ≤ 3) (sDr sDw : MS) : ∃ sDr', f_X1_travelOpen F sRo (Int32.ofInt rule) sDr sDw = some (Int32.ofInt (tv r rule (rp r) ((rd r 8).toNat - 1) 0 (rd r 1) 0).1, sDr', sDw) ∧ sDr'.1 0 = Int32.ofInt (tv r rule (rp r) ((rd r 8).toNat - 1) 0 (rd r 1) 0).2 := by
  obtain ⟨q0, q1, q2, q3, q4, q5, q8, q9⟩ := RRb hR
  obtain ⟨t0, t1, t2, t3, t4, t5, t8, t9⟩ := ROKb h
  obtain ⟨sDr', e1, e2⟩ := tro_go (F := F) hF hR h hr1 hr2 sDw ((rd r 8).toNat - 1) 0 F (rd r 1) 0 (sI sDr 0 (Int32.ofInt (-2))) (by omega) (by omega) (by omega) (by omega) (by omega) (by omega) (sI_s _ _ _)
  refine ⟨sDr', ?_, e2⟩
  unfold f_X1_travelOpen f_X1_travel
  rw [q1, lz_t]
  have e1' : f_X1_travel_18 F sRo (Int32.ofInt rule) 0 F (Int32.ofInt (rd r 1)) 0 0 (sI sDr 0 (-2)) sDw = _ := e1
  rw [e1', bd_some]
theorem drawn_t {F : Nat} (hF : 100 ≤ F) {sRo : MS} {r : Nat → Int32} (hR : RR sRo r) (h : ROK r) {rule : Int} (hr1 : 0 ≤ rule) (hr2 : rule ≤ 3) {z : Int} (hz : 0 ≤ z ∧ z < 65537) (sDr sDw : MS) : ∃ sDr' sDw', f_X1_travelDrawn F sRo (Int32.ofInt rule) (Int32.ofInt z) sDr sDw = some (Int32.ofInt (tv r rule (pd r z) ((rd r 8).toNat - 1) 0 (rd r 1) 0).1, sDr', sDw') := by
  obtain ⟨q0, q1, q2, q3, q4, q5, q8, q9⟩ := RRb hR
  obtain ⟨t0, t1, t2, t3, t4, t5, t8, t9⟩ := ROKb h
  obtain ⟨sDr', sDw', e1⟩ := trd_go (F := F) hF hR h hr1 hr2 hz ((rd r 8).toNat - 1) 0 F (rd r 1) 0 (sI sDr 0 (Int32.ofInt (-2))) (sI sDw 0 (Int32.ofInt z)) (by omega) (by omega) (by omega) (by omega) (by omega) (by omega) (sI_s _ _ _)
  refine ⟨sDr', sDw', ?_⟩
  unfold f_X1_travelDrawn f_X1_travel
  rw [q1, lz_t, lz_t]
  have e1' : f_X1_travel_18 F sRo (Int32.ofInt rule) 1 F (Int32.ofInt (rd r 1)) 0 0 (sI sDr 0 (-2)) (sI sDw 0 (Int32.ofInt z)) = _ := e1
  rw [e1', bd_some]
theorem paid_e {F : Nat} (hF : 100 ≤ F) {r : Nat → Int32} (h : ROK r) {rule : Int} (hr1 : 0 ≤ rule) (hr2 : rule ≤ 3) (s : MS) (hs : s.2.2.1 15 = r) : ∃ s', f_X11_paidBy F (Int32.ofInt rule) s = some (Int32.ofInt (tv r rule (rp r) ((rd r 8).toNat - 1) 0 (rd r 1) 0).1, s') ∧ s'.1 26 = Int32.ofInt (if (tv r rule (rp r) ((rd r 8).toNat - 1) 0 (rd r 1) 0).2 = -2 then -1 else (tv r rule (rp r) ((rd r 8).toNat - 1) 0 (rd r 1) 0).2) ∧ KP s s' := by
  obtain ⟨t0, t1, t2, t3, t4, t5, t8, t9⟩ := ROKb h
  obtain ⟨s', e1, e2, e3⟩ := paid_go (F := F) hF h hr1 hr2 ((rd r 8).toNat - 1) 0 F (rd r 1) 0 (sI s 26 (Int32.ofInt (-1))) (by omega) (by omega) (by omega) (by omega) (by omega) (by omega) hs (sI_s _ _ _)
  refine ⟨s', ?_, e2, KP_t (KP_i s _ (by decide)) (KP_1 e3 (by decide))⟩
  unfold f_X11_paidBy
  have r1 : s.2.2.1 15 (1 : Int32).toNatClampNeg = Int32.ofInt (rd r 1) := by rw [hs]; exact rd_e r 1
  rw [gd_t (by decide), lz_t, lz_t, r1]
  exact e1
theorem run_e {F : Nat} (hF : 100 ≤ F) {r : Nat → Int32} (h : ROK r) {rule : Int} (hr1 : 0 ≤ rule) (hr2 : rule ≤ 3) {z : Int} (hz : 0 ≤ z ∧ z < 65537) (s : MS) (hs : s.2.2.1 15 = r) : ∃ s', f_X11_runBy F (Int32.ofInt rule) (Int32.ofInt z) s = some (Int32.ofInt (tv r rule (pd r z) ((rd r 8).toNat - 1) 0 (rd r 1) 0).1, s') ∧ KP s s' := by
  obtain ⟨t0, t1, t2, t3, t4, t5, t8, t9⟩ := ROKb h
  obtain ⟨s', e1, e3⟩ := run_go (F := F) hF h hr1 hr2 (Int32.ofInt z) hz ((rd r 8).toNat - 1) 0 F (rd r 1) 0 (sI s 40 (Int32.ofInt z)) (by omega) (by omega) (by omega) (by omega) (by omega) (by omega) hs (sI_s _ _ _)
  refine ⟨s', ?_, KP_t (KP_i s _ (by decide)) (KP_1 e3 (by decide))⟩
  unfold f_X11_runBy
  have r1 : (sI s 40 (Int32.ofInt z)).2.2.1 15 (1 : Int32).toNatClampNeg = Int32.ofInt (rd r 1) := by rw [sI_b, hs]; exact rd_e r 1
  rw [lz_t, gd_t (by decide), lz_t, r1]
  exact e1
theorem P_byRule {F : Nat} (hF : 100 ≤ F) {sMn sRo sDr sDw sMo : MS} (hR : RR sRo (sMo.2.2.1 15)) (H : HR (sMo.2.2.1 15) (sMo.1 14)) (p : Int32) :
    ∃ v t sMn' sDr' sDw' sMo', f_X10_byRule F sRo p sMn sDr sDw = some (v, t, sMn', sDr', sDw') ∧ f_X11_byRule F p sMo = some (v, sMo') ∧ TU sMn sMo sMn' sMo' := by
  unfold f_X10_byRule f_X11_byRule
  rw [X10_irr hR H, bd_some, X11_good', bd_some, X11_irr, bd_some, gQ_14]
  rcases H with ⟨h1, h2⟩ | ⟨h1, h2⟩
  · rw [h1, if_neg (c := (1 : Int32) = 0) (by decide)]
    cases c : isR p with
    | false => exact ⟨_, _, _, _, _, _, rfl, rfl, TU_n (KP_r _) 1⟩
    | true =>
      obtain ⟨z, z1, z2, rfl⟩ := isR_i c
      obtain ⟨sDr', e1, -⟩ := open_e (F := F) hF hR h2 z1 z2 sDr sDw
      obtain ⟨s', g1, -, g3⟩ := paid_e (F := F) hF h2 z1 z2 (gQ sMo) (gQ_15 sMo)
      rw [if_neg (by decide), if_neg (by decide), e1, bd_some, X10_accept, bd_some, g1, bd_some]
      exact ⟨_, _, _, _, _, _, rfl, rfl, TU_k g3⟩
  · rw [h1, if_pos rfl]
    exact ⟨_, _, _, _, _, _, rfl, rfl, TU_n (KP_r _) 1⟩
theorem P_stuckAt {F : Nat} (hF : 100 ≤ F) {sMn sRo sDr sDw sMo : MS} (hR : RR sRo (sMo.2.2.1 15)) (H : HR (sMo.2.2.1 15) (sMo.1 14)) (p : Int32) :
    ∃ v t sMn' sDr' sDw' sMo', f_X10_stuckAt F sRo p sMn sDr sDw = some (v, t, sMn', sDr', sDw') ∧ f_X11_stuckAt F p sMo = some (v, sMo') ∧ TU sMn sMo sMn' sMo' := by
  unfold f_X10_stuckAt f_X11_stuckAt
  rw [X10_irr hR H, bd_some, X11_good', bd_some, X11_irr, bd_some, gQ_14]
  rcases H with ⟨h1, h2⟩ | ⟨h1, h2⟩
  · rw [h1, if_neg (c := (1 : Int32) = 0) (by decide)]
    cases c : isR p with
    | false => exact ⟨_, _, _, _, _, _, rfl, rfl, TU_n (KP_r _) 1⟩
    | true =>
      obtain ⟨z, z1, z2, rfl⟩ := isR_i c
      obtain ⟨t0, t1, t2, t3, t4, t5, t8, t9⟩ := ROKb h2
      obtain ⟨sDr', e1, e2⟩ := open_e (F := F) hF hR h2 z1 z2 sDr sDw
      obtain ⟨s', g1, g2, g3⟩ := paid_e (F := F) hF h2 z1 z2 (gQ sMo) (gQ_15 sMo)
      rw [if_neg (by decide), if_neg (by decide), e1, bd_some, X10_accept, bd_some, g1, bd_some]
      rcases tv_2 (sMo.2.2.1 15) z (rp (sMo.2.2.1 15)) ((rd (sMo.2.2.1 15) 8).toNat - 1) 0 (rd (sMo.2.2.1 15) 1) 0 with q | q
      · rw [q] at e2 g2
        refine ⟨_, _, _, _, _, _, rfl, ?_, TU_k g3⟩
        rw [if_neg]
        · rw [e2]; rfl
        · rw [g2]; decide
      · rw [if_neg (by omega)] at g2
        refine ⟨_, _, _, _, _, _, rfl, ?_, TU_k g3⟩
        rw [if_pos]
        · rw [e2, g2]
        · rw [g2]
          simp (disch := omega) only [z_0, z_1, z_2, z_3, z_4, z_5, z_6, z_7, z_8, z_9, z_10, z_11, z_12, z_14, z_18, z_20, z_22, z_24, z_32, z_38, z_40, z_41, z_44, z_48, z_49, z_57, z_59, z_60, z_63, z_65, z_74, z_75, z_81, z_97, z_99, z_104, z_115, z_119, z_122, z_200, z_209, z_210, z_219, z_228, z_255, z_300, z_369, z_999, z_65537, z_268435456, z_1000000000, n_nat, n_add, n_sub, n_mul, n_neg, n_lt, n_le, n_eq, n_ix, n_gd, n_nz, lz_t, bd_some, tn, Int.reduceToNat, tn_1, if_pos, if_neg, if_true, if_false]
          omega
  · rw [h1, if_pos rfl]
    exact ⟨_, _, _, _, _, _, rfl, rfl, TU_n (KP_r _) 1⟩
def isZ (p : Int32) : Bool := decide (0 ≤ p.toInt) && decide (p.toInt ≤ 65536)
def isN (p : Int32) : Bool := decide (1 ≤ p.toInt) && decide (p.toInt ≤ 50)
theorem isZ_i {p : Int32} (h : isZ p = true) : ∃ z : Int, (0 ≤ z ∧ z < 65537) ∧ p = Int32.ofInt z := by
  unfold isZ at h
  rw [Bool.and_eq_true, decide_eq_true_eq, decide_eq_true_eq] at h
  exact ⟨p.toInt, by omega, n_out p⟩
theorem isN_i {p : Int32} (h : isN p = true) : ∃ z : Nat, z ≤ 50 ∧ p = Int32.ofInt (z : Int) := by
  unfold isN at h
  rw [Bool.and_eq_true, decide_eq_true_eq, decide_eq_true_eq] at h
  refine ⟨p.toInt.toNat, by omega, ?_⟩
  rw [show ((p.toInt.toNat : Nat) : Int) = p.toInt by omega]
  exact n_out p
theorem X11_inZ {F : Nat} (p : Int32) : f_X11_in F p 0 65536 = some (bi (isZ p)) := X11_in p 0 65536
theorem X11_inN {F : Nat} (p : Int32) : f_X11_in F p 1 50 = some (bi (isN p)) := X11_in p 1 50
theorem X10_why {F : Nat} {sMn sRo : MS} {r : Nat → Int32} {h : Int32} (hR : RR sRo r) (H : HR r h) (p q n : Int32) : f_X10_whyNoRuns F sMn sRo p q n = some (if h = 0 then 1 else if isR p = false then 1 else if isZ q = false then 2 else if isN n = false then 2 else 0) := by
  unfold f_X10_whyNoRuns f_X10_isSeed
  rw [X10_irr hR H, bd_some]
  by_cases c : h = 0
  · rw [if_pos c, if_pos c]; rfl
  · rw [if_neg c, if_neg c]
    cases e : isR p with
    | false => rfl
    | true =>
      rw [if_neg (c := bi true = 0) (by decide), if_neg (c := true = false) (by decide)]
      unfold isZ isN
      simp only [i_lt, i_le]
      rw [show (0 : Int32).toInt = 0 from rfl, show (1 : Int32).toInt = 1 from rfl, show (50 : Int32).toInt = 50 from rfl, show (65537 : Int32).toInt = 65537 from rfl]
      by_cases c1 : q.toInt < 0
      · rw [if_pos c1, bd_some, if_pos rfl, if_pos]
        simp; omega
      · rw [if_neg c1]
        by_cases c2 : 65537 ≤ q.toInt
        · rw [if_pos c2, bd_some, if_pos rfl, if_pos]
          simp; omega
        · rw [if_neg c2, bd_some, if_neg (by decide)]
          have a1 : 0 ≤ q.toInt := by omega
          have a2 : q.toInt ≤ 65536 := by omega
          rw [if_neg (c := (decide (0 ≤ q.toInt) && decide (q.toInt ≤ 65536)) = false) (by simp [a1, a2])]
          by_cases c3 : n.toInt < 1
          · rw [if_pos c3, if_pos]
            simp; omega
          · rw [if_neg c3]
            by_cases c4 : 50 < n.toInt
            · rw [if_pos c4, if_pos]
              simp; omega
            · rw [if_neg c4, if_neg]
              have a3 : 1 ≤ n.toInt := by omega
              have a4 : n.toInt ≤ 50 := by omega
              simp [a3, a4]
theorem P_run {F : Nat} (hF : 100 ≤ F) {sMn sRo sDr sDw sMo : MS} (hR : RR sRo (sMo.2.2.1 15)) (H : HR (sMo.2.2.1 15) (sMo.1 14)) (p q : Int32) :
    ∃ v t sMn' sDr' sDw' sMo', f_X10_run F sRo p q sMn sDr sDw = some (v, t, sMn', sDr', sDw') ∧ f_X11_run F p q sMo = some (v, sMo') ∧ TU sMn sMo sMn' sMo' := by
  unfold f_X10_run f_X11_run
  rw [X10_why hR H, bd_some, X11_good', bd_some, X11_irr, bd_some, gQ_14, X11_inZ, bd_some]
  rcases H with ⟨h1, h2⟩ | ⟨h1, h2⟩
  · rw [h1, if_neg (c := (1 : Int32) = 0) (by decide), if_neg (c := (1 : Int32) = 0) (by decide)]
    cases c : isR p with
    | false => exact ⟨_, _, _, _, _, _, rfl, rfl, TU_n (KP_r _) 1⟩
    | true =>
      cases c2 : isZ q with
      | false => exact ⟨_, _, _, _, _, _, rfl, rfl, TU_n (KP_r _) 2⟩
      | true =>
        obtain ⟨z, z1, z2, rfl⟩ := isR_i c
        obtain ⟨y, y1, rfl⟩ := isZ_i c2
        obtain ⟨sDr', sDw', e1⟩ := drawn_t (F := F) hF hR h2 z1 z2 y1 sDr sDw
        obtain ⟨s', g1, g3⟩ := run_e (F := F) hF h2 z1 z2 y1 (gQ sMo) (gQ_15 sMo)
        rw [if_neg (c := true = false) (by decide), if_neg (c := true = false) (by decide), if_neg (c := isN 1 = false) (by decide), if_pos rfl, if_neg (by decide), if_neg (by decide), e1, bd_some, X10_accept, bd_some, g1, bd_some]
        exact ⟨_, _, _, _, _, _, rfl, rfl, TU_k g3⟩
  · rw [h1, if_pos rfl]
    exact ⟨_, _, _, _, _, _, rfl, rfl, TU_n (KP_r _) 1⟩
theorem md_b {y : Int} (hy : 0 ≤ y ∧ y < 65537) {k : Nat} (hk : k ≤ 50) : 0 ≤ y + k - (y + k) / 65537 * 65537 ∧ y + k - (y + k) / 65537 * 65537 < 65537 := by omega
theorem thr_go {F : Nat} (hF : 100 ≤ F) {sRo : MS} {r : Nat → Int32} (hR : RR sRo r) (h : ROK r) {z : Int} (z1 : 0 ≤ z) (z2 : z ≤ 3) {y : Int} (hy : 0 ≤ y ∧ y < 65537) {m : Nat} (hm : m ≤ 50) (sMn : MS) : ∀ (d k n n2 : Nat) (c : Int32) (sDr sDw s : MS), k + d = m → d < n → d < n2 → s.2.2.1 15 = r →
    ∃ v sDr' sDw' s', f_X10_through_27 F sRo (Int32.ofInt z) (Int32.ofInt y) (Int32.ofInt (m : Int)) n c (Int32.ofInt (k : Int)) sMn sDr sDw = some (v, 0, sI sMn 11 0, sDr', sDw') ∧ f_X11_through_51 F (Int32.ofInt z) (Int32.ofInt y) (Int32.ofInt (m : Int)) n2 c (Int32.ofInt (k : Int)) s = some (v, s') ∧ KP s s' := by
  intro d
  induction d with
  | zero =>
    intro k n n2 c sDr sDw s hk hn hn2 hs
    cases n with
    | zero => omega
    | succ n =>
      cases n2 with
      | zero => omega
      | succ n2 =>
        refine ⟨c, sDr, sDw, s, ?_, ?_, KP_r s⟩
        · rw [f_X10_through_27]
          simp (disch := omega) only [z_0, z_1, z_2, z_3, z_4, z_5, z_6, z_7, z_8, z_9, z_10, z_11, z_12, z_14, z_18, z_20, z_22, z_24, z_32, z_38, z_40, z_41, z_44, z_48, z_49, z_57, z_59, z_60, z_63, z_65, z_74, z_75, z_81, z_97, z_99, z_104, z_115, z_119, z_122, z_200, z_209, z_210, z_219, z_228, z_255, z_300, z_369, z_999, z_65537, z_268435456, z_1000000000, n_nat, n_add, n_sub, n_mul, n_neg, n_lt, n_le, n_eq, n_ix, n_gd, n_nz, lz_t, bd_some, tn, Int.reduceToNat, tn_1, if_pos, if_neg, if_true, if_false, f_X10_through_67, X10_accept]
        · rw [f_X11_through_51]
          simp (disch := omega) only [z_0, z_1, z_2, z_3, z_4, z_5, z_6, z_7, z_8, z_9, z_10, z_11, z_12, z_14, z_18, z_20, z_22, z_24, z_32, z_38, z_40, z_41, z_44, z_48, z_49, z_57, z_59, z_60, z_63, z_65, z_74, z_75, z_81, z_97, z_99, z_104, z_115, z_119, z_122, z_200, z_209, z_210, z_219, z_228, z_255, z_300, z_369, z_999, z_65537, z_268435456, z_1000000000, n_nat, n_add, n_sub, n_mul, n_neg, n_lt, n_le, n_eq, n_ix, n_gd, n_nz, lz_t, bd_some, tn, Int.reduceToNat, tn_1, if_pos, if_neg, if_true, if_false]
  | succ d ih =>
    intro k n n2 c sDr sDw s hk hn hn2 hs
    cases n with
    | zero => omega
    | succ n =>
      cases n2 with
      | zero => omega
      | succ n2 =>
        obtain ⟨sDr', sDw', e1⟩ := drawn_t (F := F) hF hR h z1 z2 (md_b hy (k := k) (by omega)) sDr sDw
        obtain ⟨s', g1, g3⟩ := run_e (F := F) hF h z1 z2 (md_b hy (k := k) (by omega)) s hs
        have hs' : s'.2.2.1 15 = r := (g3.2 15 (by omega)).trans hs
        by_cases c2 : Int32.ofInt (tv r z (pd r (y + k - (y + k) / 65537 * 65537)) ((rd r 8).toNat - 1) 0 (rd r 1) 0).1 = Int32.ofInt (-2)
        · obtain ⟨v, a1, a2, a3, b1, b2, b3⟩ := ih (k + 1) n n2 (c + Int32.ofInt 0) sDr' sDw' s' (by omega) (by omega) (by omega) hs'
          refine ⟨v, a1, a2, a3, ?_, ?_, KP_t g3 b3⟩
          · rw [f_X10_through_27]
            simp (disch := omega) only [z_0, z_1, z_2, z_3, z_4, z_5, z_6, z_7, z_8, z_9, z_10, z_11, z_12, z_14, z_18, z_20, z_22, z_24, z_32, z_38, z_40, z_41, z_44, z_48, z_49, z_57, z_59, z_60, z_63, z_65, z_74, z_75, z_81, z_97, z_99, z_104, z_115, z_119, z_122, z_200, z_209, z_210, z_219, z_228, z_255, z_300, z_369, z_999, z_65537, z_268435456, z_1000000000, n_nat, n_add, n_sub, n_mul, n_neg, n_lt, n_le, n_eq, n_ix, n_gd, n_nz, lz_t, bd_some, tn, Int.reduceToNat, tn_1, if_pos, if_neg, if_true, if_false, n_div, n_m2, e1, f_X10_through_61, p_fst, p_snd, c2]
            rw [show c + Int32.ofInt 0 = c from Int32.add_zero c] at b1
            exact b1
          · rw [f_X11_through_51]
            simp (disch := omega) only [z_0, z_1, z_2, z_3, z_4, z_5, z_6, z_7, z_8, z_9, z_10, z_11, z_12, z_14, z_18, z_20, z_22, z_24, z_32, z_38, z_40, z_41, z_44, z_48, z_49, z_57, z_59, z_60, z_63, z_65, z_74, z_75, z_81, z_97, z_99, z_104, z_115, z_119, z_122, z_200, z_209, z_210, z_219, z_228, z_255, z_300, z_369, z_999, z_65537, z_268435456, z_1000000000, n_nat, n_add, n_sub, n_mul, n_neg, n_lt, n_le, n_eq, n_ix, n_gd, n_nz, lz_t, bd_some, tn, Int.reduceToNat, tn_1, if_pos, if_neg, if_true, if_false, n_div, n_m2, g1, f_X11_through_82, p_fst, p_snd, c2]
            exact b2
        · obtain ⟨v, a1, a2, a3, b1, b2, b3⟩ := ih (k + 1) n n2 (c + Int32.ofInt 1) sDr' sDw' s' (by omega) (by omega) (by omega) hs'
          refine ⟨v, a1, a2, a3, ?_, ?_, KP_t g3 b3⟩
          · rw [f_X10_through_27]
            simp (disch := omega) only [z_0, z_1, z_2, z_3, z_4, z_5, z_6, z_7, z_8, z_9, z_10, z_11, z_12, z_14, z_18, z_20, z_22, z_24, z_32, z_38, z_40, z_41, z_44, z_48, z_49, z_57, z_59, z_60, z_63, z_65, z_74, z_75, z_81, z_97, z_99, z_104, z_115, z_119, z_122, z_200, z_209, z_210, z_219, z_228, z_255, z_300, z_369, z_999, z_65537, z_268435456, z_1000000000, n_nat, n_add, n_sub, n_mul, n_neg, n_le, lz_t, bd_some, if_pos, if_neg, n_div, n_m2, e1, f_X10_through_61, p_fst, p_snd, if_neg c2]
            exact b1
          · rw [f_X11_through_51]
            simp (disch := omega) only [z_0, z_1, z_2, z_3, z_4, z_5, z_6, z_7, z_8, z_9, z_10, z_11, z_12, z_14, z_18, z_20, z_22, z_24, z_32, z_38, z_40, z_41, z_44, z_48, z_49, z_57, z_59, z_60, z_63, z_65, z_74, z_75, z_81, z_97, z_99, z_104, z_115, z_119, z_122, z_200, z_209, z_210, z_219, z_228, z_255, z_300, z_369, z_999, z_65537, z_268435456, z_1000000000, n_nat, n_add, n_sub, n_mul, n_neg, n_le, lz_t, bd_some, if_pos, if_neg, n_div, n_m2, g1, f_X11_through_82, p_fst, p_snd, if_neg c2]
            exact b2
theorem P_through {F : Nat} (hF : 100 ≤ F) {sMn sRo sDr sDw sMo : MS} (hR : RR sRo (sMo.2.2.1 15)) (H : HR (sMo.2.2.1 15) (sMo.1 14)) (p q n : Int32) :
    ∃ v t sMn' sDr' sDw' sMo', f_X10_through F sRo p q n sMn sDr sDw = some (v, t, sMn', sDr', sDw') ∧ f_X11_through F p q n sMo = some (v, sMo') ∧ TU sMn sMo sMn' sMo' := by
  unfold f_X10_through f_X11_through f_X11_through_39
  rw [X10_why hR H, bd_some, X11_good', bd_some, X11_irr, bd_some, gQ_14, X11_inZ, bd_some, X11_inN, bd_some]
  rcases H with ⟨h1, h2⟩ | ⟨h1, h2⟩
  · rw [h1, if_neg (c := (1 : Int32) = 0) (by decide), if_neg (c := (1 : Int32) = 0) (by decide)]
    cases c : isR p with
    | false => exact ⟨_, _, _, _, _, _, rfl, rfl, TU_n (KP_r _) 1⟩
    | true =>
      cases c2 : isZ q with
      | false => exact ⟨_, _, _, _, _, _, rfl, rfl, TU_n (KP_r _) 2⟩
      | true =>
        cases c3 : isN n with
        | false => exact ⟨_, _, _, _, _, _, rfl, rfl, TU_n (KP_r _) 2⟩
        | true =>
          obtain ⟨z, z1, z2, rfl⟩ := isR_i c
          obtain ⟨y, y1, rfl⟩ := isZ_i c2
          obtain ⟨m, m1, rfl⟩ := isN_i c3
          obtain ⟨v, a1, a2, a3, b1, b2, b3⟩ := thr_go (F := F) hF hR h2 z1 z2 y1 m1 sMn m 0 F F 0 sDr sDw (gQ sMo) (by omega) (by omega) (by omega) (gQ_15 sMo)
          refine ⟨v, 0, _, a1, a2, a3, ?_, ?_, TU_k b3⟩
          · exact b1
          · exact b2
  · rw [h1, if_pos rfl]
    exact ⟨_, _, _, _, _, _, rfl, rfl, TU_n (KP_r _) 1⟩
