theorem bea_go {F : Nat} (hF : 100 ≤ F) {sRo : MS} {r : Nat → Int32} (hR : RR sRo r) (h : ROK r) {z : Int} (z1 : 0 ≤ z) (z2 : z ≤ 3) {z' : Int} (z1' : 0 ≤ z') (z2' : z' ≤ 3) {y : Int} (hy : 0 ≤ y ∧ y < 65537) {m : Nat} (hm : m ≤ 50) (sMn : MS) : ∀ (d k n n2 : Nat) (c : Int32) (sDr sDw s : MS), k + d = m → d < n → d < n2 → s.2.2.1 15 = r →
    ∃ v sDr' sDw' s', f_X10_beats_39 F sRo (Int32.ofInt z) (Int32.ofInt z') (Int32.ofInt y) (Int32.ofInt (m : Int)) n c (Int32.ofInt (k : Int)) sMn sDr sDw = some (v, 0, sI sMn 11 0, sDr', sDw') ∧ f_X11_beats_60 F (Int32.ofInt z) (Int32.ofInt z') (Int32.ofInt y) (Int32.ofInt (m : Int)) n2 c (Int32.ofInt (k : Int)) s = some (v, s') ∧ KP s s' := by
  intro d
  induction d with
  | zero =>
    intro k n n2 c sDr sDw s hk hn hn2 hs
    cases n with
    | zero => omega
    | succ n =>
      cases n2 with
      | zero => omega
      | succ n2 =>
        refine ⟨c, sDr, sDw, s, ?_, ?_, KP_r s⟩
        · rw [f_X10_beats_39]
          simp (disch := omega) only [z_0, z_1, z_2, z_3, z_4, z_5, z_6, z_7, z_8, z_9, z_10, z_11, z_12, z_14, z_18, z_20, z_22, z_24, z_32, z_38, z_40, z_41, z_44, z_48, z_49, z_57, z_59, z_60, z_63, z_65, z_74, z_75, z_81, z_97, z_99, z_104, z_115, z_119, z_122, z_200, z_209, z_210, z_219, z_228, z_255, z_300, z_369, z_999, z_65537, z_268435456, z_1000000000, n_nat, n_add, n_sub, n_mul, n_neg, n_lt, n_le, n_eq, n_ix, n_gd, n_nz, lz_t, bd_some, tn, Int.reduceToNat, tn_1, if_pos, if_neg, if_true, if_false, f_X10_beats_120, X10_accept]
        · rw [f_X11_beats_60]
          simp (disch := omega) only [z_0, z_1, z_2, z_3, z_4, z_5, z_6, z_7, z_8, z_9, z_10, z_11, z_12, z_14, z_18, z_20, z_22, z_24, z_32, z_38, z_40, z_41, z_44, z_48, z_49, z_57, z_59, z_60, z_63, z_65, z_74, z_75, z_81, z_97, z_99, z_104, z_115, z_119, z_122, z_200, z_209, z_210, z_219, z_228, z_255, z_300, z_369, z_999, z_65537, z_268435456, z_1000000000, n_nat, n_add, n_sub, n_mul, n_neg, n_lt, n_le, n_eq, n_ix, n_gd, n_nz, lz_t, bd_some, tn, Int.reduceToNat, tn_1, if_pos, if_neg, if_true, if_false]
  | succ d ih =>
    intro k n n2 c sDr sDw s hk hn hn2 hs
    cases n with
    | zero => omega
    | succ n =>
      cases n2 with
      | zero => omega
      | succ n2 =>
        obtain ⟨sDr', sDw', e1⟩ := drawn_t (F := F) hF hR h z1 z2 (md_b hy (k := k) (by omega)) sDr sDw
        obtain ⟨s', g1, g3⟩ := run_e (F := F) hF h z1 z2 (md_b hy (k := k) (by omega)) s hs
        have hs' : s'.2.2.1 15 = r := (g3.2 15 (by omega)).trans hs
        obtain ⟨sDr2, sDw2, e2⟩ := drawn_t (F := F) hF hR h z1' z2' (md_b hy (k := k) (by omega)) sDr' sDw'
        obtain ⟨s2, g2, g4⟩ := run_e (F := F) hF h z1' z2' (md_b hy (k := k) (by omega)) s' hs'
        have hs2 : s2.2.2.1 15 = r := (g4.2 15 (by omega)).trans hs'
        generalize Int32.ofInt (tv r z (pd r (y + k - (y + k) / 65537 * 65537)) ((rd r 8).toNat - 1) 0 (rd r 1) 0).1 = A at e1 g1
        generalize Int32.ofInt (tv r z' (pd r (y + k - (y + k) / 65537 * 65537)) ((rd r 8).toNat - 1) 0 (rd r 1) 0).1 = B at e2 g2
        have L0 : ∃ v sDr' sDw' s', f_X10_beats_39 F sRo (Int32.ofInt z) (Int32.ofInt z') (Int32.ofInt y) (Int32.ofInt (m : Int)) n c (Int32.ofInt ((k : Int) + 1)) sMn sDr2 sDw2 = some (v, 0, sI sMn 11 (Int32.ofInt 0), sDr', sDw') ∧ f_X11_beats_60 F (Int32.ofInt z) (Int32.ofInt z') (Int32.ofInt y) (Int32.ofInt (m : Int)) n2 (c + Int32.ofInt 0) (Int32.ofInt ((k : Int) + 1)) s2 = some (v, s') ∧ KP s s' := by
          obtain ⟨v, a1, a2, a3, b1, b2, b3⟩ := ih (k + 1) n n2 c sDr2 sDw2 s2 (by omega) (by omega) (by omega) hs2
          rw [show c + Int32.ofInt 0 = c from Int32.add_zero c]
          exact ⟨v, a1, a2, a3, b1, b2, KP_t g3 (KP_t g4 b3)⟩
        have L1 : ∃ v sDr' sDw' s', f_X10_beats_39 F sRo (Int32.ofInt z) (Int32.ofInt z') (Int32.ofInt y) (Int32.ofInt (m : Int)) n (c + Int32.ofInt 1) (Int32.ofInt ((k : Int) + 1)) sMn sDr2 sDw2 = some (v, 0, sI sMn 11 (Int32.ofInt 0), sDr', sDw') ∧ f_X11_beats_60 F (Int32.ofInt z) (Int32.ofInt z') (Int32.ofInt y) (Int32.ofInt (m : Int)) n2 (c + Int32.ofInt 1) (Int32.ofInt ((k : Int) + 1)) s2 = some (v, s') ∧ KP s s' := by
          obtain ⟨v, a1, a2, a3, b1, b2, b3⟩ := ih (k + 1) n n2 (c + Int32.ofInt 1) sDr2 sDw2 s2 (by omega) (by omega) (by omega) hs2
          exact ⟨v, a1, a2, a3, b1, b2, KP_t g3 (KP_t g4 b3)⟩
        rw [f_X10_beats_39, f_X11_beats_60]
        by_cases c1 : A = Int32.ofInt (-2)
        · simp (disch := omega) only [z_0, z_1, z_2, z_3, z_4, z_5, z_6, z_7, z_8, z_9, z_10, z_11, z_12, z_14, z_18, z_20, z_22, z_24, z_32, z_38, z_40, z_41, z_44, z_48, z_49, z_57, z_59, z_60, z_63, z_65, z_74, z_75, z_81, z_97, z_99, z_104, z_115, z_119, z_122, z_200, z_209, z_210, z_219, z_228, z_255, z_300, z_369, z_999, z_65537, z_268435456, z_1000000000, n_nat, n_add, n_sub, n_mul, n_neg, n_le, lz_t, bd_some, if_pos, if_neg, n_div, n_m2, e1, e2, g1, g2, f_X10_beats_114, f_X10_beats_111, f_X11_beats_124, f_X11_beats_120, f_X11_beats_125, p_fst, p_snd, if_pos c1]
          exact L0
        · by_cases c2 : B = Int32.ofInt (-2)
          · simp (disch := omega) only [z_0, z_1, z_2, z_3, z_4, z_5, z_6, z_7, z_8, z_9, z_10, z_11, z_12, z_14, z_18, z_20, z_22, z_24, z_32, z_38, z_40, z_41, z_44, z_48, z_49, z_57, z_59, z_60, z_63, z_65, z_74, z_75, z_81, z_97, z_99, z_104, z_115, z_119, z_122, z_200, z_209, z_210, z_219, z_228, z_255, z_300, z_369, z_999, z_65537, z_268435456, z_1000000000, n_nat, n_add, n_sub, n_mul, n_neg, n_le, lz_t, bd_some, if_pos, if_neg, n_div, n_m2, e1, e2, g1, g2, f_X10_beats_114, f_X10_beats_111, f_X11_beats_124, f_X11_beats_120, f_X11_beats_125, p_fst, p_snd, if_neg c1, if_pos c2]
            exact L1
          · by_cases c3 : B ≤ A
            · simp (disch := omega) only [z_0, z_1, z_2, z_3, z_4, z_5, z_6, z_7, z_8, z_9, z_10, z_11, z_12, z_14, z_18, z_20, z_22, z_24, z_32, z_38, z_40, z_41, z_44, z_48, z_49, z_57, z_59, z_60, z_63, z_65, z_74, z_75, z_81, z_97, z_99, z_104, z_115, z_119, z_122, z_200, z_209, z_210, z_219, z_228, z_255, z_300, z_369, z_999, z_65537, z_268435456, z_1000000000, n_nat, n_add, n_sub, n_mul, n_neg, n_le, lz_t, bd_some, if_pos, if_neg, n_div, n_m2, e1, e2, g1, g2, f_X10_beats_114, f_X10_beats_111, f_X11_beats_124, f_X11_beats_120, f_X11_beats_125, p_fst, p_snd, if_neg c1, if_neg c2, if_pos c3]
              exact L0
            · simp (disch := omega) only [z_0, z_1, z_2, z_3, z_4, z_5, z_6, z_7, z_8, z_9, z_10, z_11, z_12, z_14, z_18, z_20, z_22, z_24, z_32, z_38, z_40, z_41, z_44, z_48, z_49, z_57, z_59, z_60, z_63, z_65, z_74, z_75, z_81, z_97, z_99, z_104, z_115, z_119, z_122, z_200, z_209, z_210, z_219, z_228, z_255, z_300, z_369, z_999, z_65537, z_268435456, z_1000000000, n_nat, n_add, n_sub, n_mul, n_neg, n_le, lz_t, bd_some, if_pos, if_neg, n_div, n_m2, e1, e2, g1, g2, f_X10_beats_114, f_X10_beats_111, f_X11_beats_124, f_X11_beats_120, f_X11_beats_125, p_fst, p_snd, if_neg c1, if_neg c2, if_neg c3]
              exact L1
theorem P_beats {F : Nat} (hF : 100 ≤ F) {sMn sRo sDr sDw sMo : MS} (hR : RR sRo (sMo.2.2.1 15)) (H : HR (sMo.2.2.1 15) (sMo.1 14)) (p p' q n : Int32) :
    ∃ v t sMn' sDr' sDw' sMo', f_X10_beats F sRo p p' q n sMn sDr sDw = some (v, t, sMn', sDr', sDw') ∧ f_X11_beats F p p' q n sMo = some (v, sMo') ∧ TU sMn sMo sMn' sMo' := by
  unfold f_X10_beats f_X11_beats f_X11_beats_20 f_X11_beats_48 f_X10_beats_19
  rw [X10_isRule, bd_some, X10_why hR H, bd_some, X11_good', bd_some, X11_irr, bd_some, X11_irr, bd_some, gQ_14, X11_inZ, bd_some, X11_inN, bd_some]
  rcases H with ⟨h1, h2⟩ | ⟨h1, h2⟩
  · rw [h1, if_neg (c := (1 : Int32) = 0) (by decide), if_neg (c := (1 : Int32) = 0) (by decide), if_neg (c := (1 : Int32) = 0) (by decide), if_neg (c := (1 : Int32) = 0) (by decide)]
    cases c' : isR p' with
    | false =>
      cases c : isR p with
      | false => exact ⟨_, _, _, _, _, _, rfl, rfl, TU_n (KP_r _) 1⟩
      | true => exact ⟨_, _, _, _, _, _, rfl, rfl, TU_n (KP_r _) 1⟩
    | true =>
      cases c : isR p with
      | false => exact ⟨_, _, _, _, _, _, rfl, rfl, TU_n (KP_r _) 1⟩
      | true =>
        cases c2 : isZ q with
        | false => exact ⟨_, _, _, _, _, _, rfl, rfl, TU_n (KP_r _) 2⟩
        | true =>
          cases c3 : isN n with
          | false => exact ⟨_, _, _, _, _, _, rfl, rfl, TU_n (KP_r _) 2⟩
          | true =>
            obtain ⟨z, z1, z2, rfl⟩ := isR_i c
            obtain ⟨z', z1', z2', rfl⟩ := isR_i c'
            obtain ⟨y, y1, rfl⟩ := isZ_i c2
            obtain ⟨m, m1, rfl⟩ := isN_i c3
            obtain ⟨v, a1, a2, a3, b1, b2, b3⟩ := bea_go (F := F) hF hR h2 z1 z2 z1' z2' y1 m1 sMn m 0 F F 0 sDr sDw (gQ sMo) (by omega) (by omega) (by omega) (gQ_15 sMo)
            refine ⟨v, 0, _, a1, a2, a3, ?_, ?_, TU_k b3⟩
            · exact b1
            · exact b2
  · cases c' : isR p' with
    | false =>
      rw [h1, if_pos rfl]
      exact ⟨_, _, _, _, _, _, rfl, rfl, TU_n (KP_r _) 1⟩
    | true =>
      rw [h1, if_pos (c := (0 : Int32) = 0) rfl, if_pos (c := (0 : Int32) = 0) rfl]
      exact ⟨_, _, _, _, _, _, rfl, rfl, TU_n (KP_r _) 1⟩
/-! buys -/
def rq (r : Nat → Int32) (i : Nat) (m : Int32) : Int := if m = 0 then rd r (11 + 3 * wp r i) else rd r (12 + 3 * wp r i)
theorem rq_b {r : Nat → Int32} (h : ROK r) {i : Nat} (hi : (i : Int) < rd r 8) (m : Int32) : 0 ≤ rq r i m ∧ rq r i m ≤ 99 := by
  have := pumpB h (wp_b h hi).1
  unfold rq
  split <;> omega
theorem A9_pm {F : Nat} {s : MS} {r : Nat → Int32} (hR : RR s r) (h : ROK r) {i : Nat} (hi : (i : Int) < rd r 8) (m : Int32) : f_X9_priceAt F s (Int32.ofInt (i : Int)) m = some (Int32.ofInt (rq r i m)) := by
  obtain ⟨t0, t1, t2, t3, t4, t5, t8, t9⟩ := ROKb h
  obtain ⟨w1, w2⟩ := wp_b h hi
  have wR := hR.2.2.2.2.1 i hi
  rw [w2] at wR
  obtain ⟨a1, a2, a3⟩ := hR.2.2.2.1 (wp r i) w1
  rw [rd_e r] at a1 a2
  unfold f_X9_priceAt rq
  by_cases c : m = 0
  · rw [if_pos c, if_pos c]
    simp (disch := omega) only [z_0, z_1, z_2, z_3, z_4, z_5, z_6, z_7, z_8, z_9, z_10, z_11, z_12, z_14, z_18, z_20, z_22, z_24, z_32, z_38, z_40, z_41, z_44, z_48, z_49, z_57, z_59, z_60, z_63, z_65, z_74, z_75, z_81, z_97, z_99, z_104, z_115, z_119, z_122, z_200, z_209, z_210, z_219, z_228, z_255, z_300, z_369, z_999, z_65537, z_268435456, z_1000000000, n_nat, n_add, n_sub, n_mul, n_neg, n_lt, n_le, n_eq, n_ix, n_gd, n_nz, lz_t, bd_some, tn, Int.reduceToNat, tn_1, if_pos, if_neg, if_true, if_false, sI_a, sI_b, sL_a, sL_b, sL_c, wA_a, wA_b, wA_c, wA_d, wB_a, wB_b, wB_c, wB_d, sA_w, sB_w, uN_s, uN_n, up_s, up_n, ul_s, ul_n, p_fst, p_snd, wR, a1]
  · rw [if_neg c, if_neg c]
    simp (disch := omega) only [z_0, z_1, z_2, z_3, z_4, z_5, z_6, z_7, z_8, z_9, z_10, z_11, z_12, z_14, z_18, z_20, z_22, z_24, z_32, z_38, z_40, z_41, z_44, z_48, z_49, z_57, z_59, z_60, z_63, z_65, z_74, z_75, z_81, z_97, z_99, z_104, z_115, z_119, z_122, z_200, z_209, z_210, z_219, z_228, z_255, z_300, z_369, z_999, z_65537, z_268435456, z_1000000000, n_nat, n_add, n_sub, n_mul, n_neg, n_lt, n_le, n_eq, n_ix, n_gd, n_nz, lz_t, bd_some, tn, Int.reduceToNat, tn_1, if_pos, if_neg, if_true, if_false, sI_a, sI_b, sL_a, sL_b, sL_c, wA_a, wA_b, wA_c, wA_d, wB_a, wB_b, wB_c, wB_d, sA_w, sB_w, uN_s, uN_n, up_s, up_n, ul_s, ul_n, p_fst, p_snd, wR, a2]
theorem isF_i {r : Nat → Int32} {p : Int32} (h : isF r p = true) (h8 : rd r 8 ≤ 9) : ∃ i : Nat, (i : Int) + 1 < rd r 8 ∧ p = Int32.ofInt (i : Int) := by
  unfold isF at h
  rw [Bool.and_eq_true, decide_eq_true_eq, decide_eq_true_eq] at h
  refine ⟨p.toInt.toNat, ?_, ?_⟩
  · have e : rd r 8 = (r 8).toInt := rfl
    omega
  · rw [show ((p.toInt.toNat : Nat) : Int) = p.toInt by omega]
    exact n_out p
theorem isL_i {r : Nat → Int32} {p : Int32} (h : isL r p = true) : ∃ z : Int, 0 ≤ z ∧ z ≤ rd r 0 ∧ p = Int32.ofInt z := by
  unfold isL at h
  rw [Bool.and_eq_true, decide_eq_true_eq, decide_eq_true_eq] at h
  exact ⟨p.toInt, h.1, h.2, n_out p⟩
def wBy (r : Nat → Int32) (p q m : Int32) : Int32 := if isF r p = false then 1 else if isL r q = false then 2 else if rq r p.toNatClampNeg m = 0 then 6 else 0
theorem ni (i : Nat) (hi : i < 2147483648) : (Int32.ofInt (i : Int)).toNatClampNeg = i := by
  rw [n_ix _ (by omega) (by omega)]; rfl
theorem X10_whyB {F : Nat} {sMn sRo : MS} {r : Nat → Int32} {h : Int32} (hR : RR sRo r) (H : HR r h) (p q m : Int32) : f_X10_whyNoBuying F sMn sRo p q m = some (wBy r p q m) := by
  unfold f_X10_whyNoBuying wBy
  rw [X9_isLeft hR (hr_8 H), bd_some, X9_isLevel hR, bd_some]
  cases c1 : isF r p with
  | false => rfl
  | true =>
    cases c2 : isL r q with
    | false => rfl
    | true =>
      obtain ⟨i, hi, rfl⟩ := isF_i c1 (hr_8 H).2
      have h8 := (hr_8 H).2
      have h8' : rd r 8 = (r 8).toInt := rfl
      rcases H with ⟨h1, h2⟩ | ⟨h1, h2⟩
      · have rb := rq_b h2 (i := i) (by omega) m
        rw [A9_pm hR h2 (i := i) (by omega), bd_some, ni i (by omega)]
        by_cases c3 : rq r i m = 0
        · simp (disch := omega) [c3]; rfl
        · have : ¬ (Int32.ofInt (rq r i m) = 0) := by
            rw [z_0, n_eq _ _ (by omega) (by omega) (by omega) (by omega)]; exact c3
          simp [c3, this, bi]
      · have := h2 8 (by omega)
        rw [this] at h8'
        have : (0 : Int32).toInt = 0 := rfl
        omega
theorem A11_pm {F : Nat} {s : MS} {r : Nat → Int32} (hs : s.2.2.1 15 = r) (h : ROK r) {i : Nat} (hi : (i : Int) < rd r 8) (m : Int32) : f_X11_pumpOf F s (Int32.ofInt (wp r i : Int)) (if m = 0 then 0 else 1) = some (Int32.ofInt (rq r i m)) := by
  obtain ⟨p0, p1, -⟩ := A11_pump (F := F) hs (wp_b h hi).1
  unfold rq
  by_cases c : m = 0
  · rw [if_pos c, if_pos c]; exact p0
  · rw [if_neg c, if_neg c]; exact p1
theorem ite_a {α β : Type} {c : Prop} [Decidable c] (f : α → β) (a b : α) : (if c then f a else f b) = f (if c then a else b) := by
  split <;> rfl
theorem X11_whyB {F : Nat} {s : MS} (H : HR (s.2.2.1 15) (s.1 14)) (p q m : Int32) : f_X11_pumpWhy F s p q m = some (wBy (s.2.2.1 15) p q m) := by
  unfold f_X11_pumpWhy wBy
  rw [X11_isStop H, bd_some, gd_t (by decide), lz_t, X11_in, bd_some]
  cases c1 : isF (s.2.2.1 15) p with
  | false => rfl
  | true =>
    rw [if_neg (c := bi true = 0) (by decide), if_neg (c := true = false) (by decide)]
    show (if bi (isL (s.2.2.1 15) q) = 0 then some 2 else _) = _
    cases c2 : isL (s.2.2.1 15) q with
    | false => rfl
    | true =>
      rw [if_neg (c := bi true = 0) (by decide), if_neg (c := true = false) (by decide)]
      obtain ⟨i, hi, rfl⟩ := isF_i c1 (hr_8 H).2
      have h8 := (hr_8 H).2
      have h8' : rd (s.2.2.1 15) 8 = (s.2.2.1 15 8).toInt := rfl
      rcases H with ⟨h1, h2⟩ | ⟨h1, h2⟩
      · have rb := rq_b h2 (i := i) (by omega) m
        rw [A11_place rfl h2 (i := i) (by omega), bd_some, ite_a (f_X11_pumpWhy_41 F s (Int32.ofInt (i : Int)) q m (Int32.ofInt (wp (s.2.2.1 15) i : Int)))]
        unfold f_X11_pumpWhy_41
        rw [A11_pm rfl h2 (i := i) (by omega), bd_some, ni i (by omega)]
        by_cases c3 : rq (s.2.2.1 15) i m = 0
        · simp (disch := omega) [c3]
        · have : ¬ (Int32.ofInt (rq (s.2.2.1 15) i m) = 0) := by
            rw [z_0, n_eq _ _ (by omega) (by omega) (by omega) (by omega)]; exact c3
          simp [c3, this]
      · have := h2 8 (by omega)
        rw [this] at h8'
        have : (0 : Int32).toInt = 0 := rfl
        omega
theorem wBy_0 {r : Nat → Int32} {h : Int32} (H : HR r h) {p q m : Int32} (e : wBy r p q m = 0) : ROK r ∧ h = 1 ∧ ∃ (i : Nat) (z : Int), (i : Int) + 1 < rd r 8 ∧ p = Int32.ofInt (i : Int) ∧ 0 ≤ z ∧ z ≤ rd r 0 ∧ q = Int32.ofInt z ∧ rq r i m ≠ 0 := by
  unfold wBy at e
  cases c1 : isF r p with
  | false => rw [c1, if_pos rfl] at e; exact absurd e (by decide)
  | true =>
    cases c2 : isL r q with
    | false => rw [c1, c2, if_neg (by decide), if_pos rfl] at e; exact absurd e (by decide)
    | true =>
      obtain ⟨i, hi, rfl⟩ := isF_i c1 (hr_8 H).2
      obtain ⟨z, z1, z2, rfl⟩ := isL_i c2
      have h8 := (hr_8 H).2
      have h8' : rd r 8 = (r 8).toInt := rfl
      rcases H with ⟨h1, h2⟩ | ⟨h1, h2⟩
      · refine ⟨h2, h1, i, z, hi, rfl, z1, z2, rfl, ?_⟩
        intro c3
        rw [c1, c2, ni i (by omega), if_pos c3] at e
        exact absurd e (by decide)
      · have := h2 8 (by omega)
        rw [this] at h8'
        have : (0 : Int32).toInt = 0 := rfl
        omega
theorem wBy_n {r : Nat → Int32} (h : ∀ k, k < 300 → r k = 0) (p q m : Int32) : wBy r p q m = 1 := by
  unfold wBy isF
  rw [if_pos]
  rw [h 8 (by omega)]
  have : (0 : Int32).toInt = 0 := rfl
  simp only [this]
  simp
  omega
theorem P_buys {F : Nat} (hF : 100 ≤ F) {sMn sRo sDr sMo : MS} (hR : RR sRo (sMo.2.2.1 15)) (H : HR (sMo.2.2.1 15) (sMo.1 14)) (p i q m : Int32) :
    ∃ v sMn' sMo', f_X10_buys F sDr sRo p i q m sMn = some (v, sMn') ∧ f_X11_buys F p i q m sMo = some (v, sMo') ∧ TU sMn sMo sMn' sMo' := by
  unfold f_X10_buys f_X11_buys f_X10_buys_19
  rw [X10_isRule, bd_some, X10_whyB hR H, bd_some, X11_good', bd_some, X11_irr, bd_some, X11_whyB (s := gQ sMo) H, bd_some, gQ_15, gQ_14]
  cases c : isR p with
  | false =>
    rcases H with ⟨h1, h2⟩ | ⟨h1, h2⟩
    · rw [h1]
      exact ⟨_, _, _, rfl, rfl, TU_n (KP_r _) 1⟩
    · rw [h1]
      exact ⟨_, _, _, rfl, rfl, TU_n (KP_r _) 1⟩
  | true =>
    rw [if_neg (c := bi true = 0) (by decide)]
    by_cases e : wBy (sMo.2.2.1 15) i q m = 0
    · obtain ⟨h2, h1, k, z, k1, rfl, z1, z2, rfl, z3⟩ := wBy_0 H e
      obtain ⟨y, y1, y2, rfl⟩ := isR_i c
      have rb := rq_b h2 (i := k) (by omega) m
      rw [if_pos e, if_pos e, h1, if_neg (c := (1 : Int32) = 0) (by decide), if_neg (c := bi true = 0) (by decide)]
      rw [A9_pm hR h2 (i := k) (by omega), bd_some, C_bo hF hR h2 y1 y2 k1 z1 z2 rb.1 rb.2, bd_some, X10_accept, bd_some]
      rw [A11_place (gQ_15 sMo) h2 (i := k) (by omega), bd_some, ite_a (fun w => f_X11_buys_62 F (Int32.ofInt y) (Int32.ofInt (k : Int)) (Int32.ofInt z) m (Int32.ofInt y) (Int32.ofInt (k : Int)) (Int32.ofInt z) (Int32.ofInt (wp (sMo.2.2.1 15) k : Int)) w (gQ sMo))]
      unfold f_X11_buys_62
      rw [A11_pm (gQ_15 sMo) h2 (i := k) (by omega), bd_some, R_bo hF (gQ_15 sMo) h2 y1 y2 k1 z1 z2 rb.1 rb.2, bd_some]
      exact ⟨_, _, _, rfl, rfl, TU_k (KP_r _)⟩
    · rcases H with ⟨h1, h2⟩ | ⟨h1, h2⟩
      · rw [if_neg e, if_neg e, h1]
        exact ⟨_, _, _, rfl, rfl, TU_n (KP_r _) _⟩
      · rw [wBy_n h2, h1]
        exact ⟨_, _, _, rfl, rfl, TU_n (KP_r _) 1⟩
