/-! a desert: fractions in lowest terms -/
def red (a b : Nat) : Nat × Nat := (a / Nat.gcd a b, b / Nat.gcd a b)
def fra (T step : Nat) : Nat → Nat → Nat → Nat → Nat × Nat
  | 0, _, u, l => (u, l)
  | n + 1, d, u, l => fra T step n (d + step) (red (u * d + T * l) (l * d)).1 (red (u * d + T * l) (l * d)).2
def prd (step : Nat) : Nat → Nat → Nat
  | 0, _ => 1
  | n + 1, d => d * prd step n (d + step)
theorem prd_1 (step : Nat) : ∀ n d, 1 ≤ d → 1 ≤ prd step n d
  | 0, _, _ => Nat.le_refl _
  | n + 1, d, h => by
    have := prd_1 step n (d + step) (by omega)
    exact Nat.mul_le_mul h this
def CC : Nat := 2000000000000
theorem prd_b2 : ∀ d, d < 25 → ∀ n, n < 13 → d + 2 * n ≤ 26 → prd 2 n d ≤ CC := by decide
theorem prd_b1 : ∀ n, n < 13 → prd 1 n 1 ≤ CC := by decide
/-- u, l with n steps to go, k done -/
def okF (step n d u l k : Nat) : Prop := 1 ≤ l ∧ 1 ≤ d ∧ d + step * n ≤ 30 ∧ k + n ≤ 12 ∧ l * prd step n d ≤ CC ∧ u * prd step n d ≤ 40 * k * CC
theorem okF_b {step n d u l k : Nat} (h : okF step n d u l k) : u ≤ 1000000000000000 ∧ l ≤ 1000000000000000 := by
  obtain ⟨h1, h2, h3, h4, h5, h6⟩ := h
  have p1 := prd_1 step n d h2
  have a1 := Nat.le_mul_of_pos_right l (show 0 < prd step n d by omega)
  have a2 := Nat.le_mul_of_pos_right u (show 0 < prd step n d by omega)
  have hk : 40 * k * CC ≤ 480 * CC := Nat.mul_le_mul_right CC (by omega)
  have : CC = 2000000000000 := rfl
  omega
theorem okF_s {T step n d u l k : Nat} (hT : T ≤ 40) (h : okF step (n + 1) d u l k) : okF step n (d + step) (red (u * d + T * l) (l * d)).1 (red (u * d + T * l) (l * d)).2 (k + 1) ∧ u * d + T * l ≤ 1000000000000000 ∧ l * d ≤ 1000000000000000 ∧ 0 < l * d := by
  obtain ⟨h1, h2, h3, h4, h5, h6⟩ := h
  have e3 : step * (n + 1) = step * n + step := Nat.mul_succ _ _
  have pe : prd step (n + 1) d = d * prd step n (d + step) := rfl
  have p1 := prd_1 step n (d + step) (by omega)
  rw [pe] at h5 h6
  have l0 : 0 < l * d := Nat.mul_pos h1 h2
  have g0 := Nat.gcd_pos_of_pos_right (u * d + T * l) l0
  have g1 := Nat.gcd_le_right (u * d + T * l) l0
  have b5 : l * d * prd step n (d + step) ≤ CC := by rw [Nat.mul_assoc]; exact h5
  have b6 : (u * d + T * l) * prd step n (d + step) ≤ 40 * (k + 1) * CC := by
    rw [Nat.add_mul, Nat.mul_assoc u]
    have c1 : T * l * prd step n (d + step) ≤ 40 * CC := by
      rw [Nat.mul_assoc]
      refine Nat.mul_le_mul hT (Nat.le_trans ?_ b5)
      exact Nat.mul_le_mul_right _ (Nat.le_mul_of_pos_right l h2)
    have e : 40 * (k + 1) * CC = 40 * k * CC + 40 * CC := by rw [Nat.mul_add, Nat.add_mul]
    omega
  have a1 := Nat.le_mul_of_pos_right (l * d) (show 0 < prd step n (d + step) by omega)
  have a2 := Nat.le_mul_of_pos_right (u * d + T * l) (show 0 < prd step n (d + step) by omega)
  have hk : 40 * (k + 1) * CC ≤ 480 * CC := Nat.mul_le_mul_right CC (by omega)
  have hC : CC = 2000000000000 := rfl
  refine ⟨⟨?_, by omega, by omega, by omega, ?_, ?_⟩, by omega, by omega, l0⟩
  · exact Nat.div_pos g1 g0
  · exact Nat.le_trans (Nat.mul_le_mul_right _ (Nat.div_le_self _ _)) b5
  · exact Nat.le_trans (Nat.mul_le_mul_right _ (Nat.div_le_self _ _)) b6
theorem plus_e {F : Nat} (hF : 300 ≤ F) {T u l d : Nat} {s : MS} (h0 : s.2.1 0 = Int64.ofInt (u : Int)) (h1 : s.2.1 1 = Int64.ofInt (l : Int)) (b1 : u * d + T * l ≤ 1000000000000000) (b2 : l * d ≤ 1000000000000000) (b3 : 0 < l * d) : f_X2_plus F (Int64.ofInt (T : Int)) (Int64.ofInt (d : Int)) s = some (sL (sL s 0 (Int64.ofInt (((red (u * d + T * l) (l * d)).1 : Nat) : Int))) 1 (Int64.ofInt (((red (u * d + T * l) (l * d)).2 : Nat) : Int))) := by
  have be := bec_e (F := F) hF (a := u * d + T * l) (b := l * d) (by omega) (by omega) b3 s
  unfold f_X2_plus
  rw [h0, h1, m_mul, m_mul, m_mul, m_add]
  rw [show (u : Int) * (d : Int) + (T : Int) * (l : Int) = ((u * d + T * l : Nat) : Int) by push_cast; rfl, show (l : Int) * (d : Int) = ((l * d : Nat) : Int) by push_cast; rfl, be, bd_some]
  rfl
def hd (hm : Int32) (k : Nat) : Nat := if hm = 0 then 2 * k - 1 else 2 * k
theorem ap_go {F : Nat} (hF : 300 ≤ F) {sMn sRo : MS} {T : Nat} (hT : T ≤ 40) (e0 : sRo.1 0 = Int32.ofInt (T : Int)) (hm p2 : Int32) {to : Nat} (hto : to ≤ 12) : ∀ (n k j u l : Nat) (f : Nat) (s : MS), 1 ≤ k → k + n = to + 1 → n < f → okF 2 n (hd hm k) u l j → s.2.1 0 = Int64.ofInt (u : Int) → s.2.1 1 = Int64.ofInt (l : Int) →
    ∃ s', f_X10_addParts_12 F sMn sRo hm p2 (Int32.ofInt (to : Int)) f (Int32.ofInt (k : Int)) s = some s' ∧ s'.2.1 0 = Int64.ofInt (((fra T 2 n (hd hm k) u l).1 : Nat) : Int) ∧ s'.2.1 1 = Int64.ofInt (((fra T 2 n (hd hm k) u l).2 : Nat) : Int) := by
  intro n
  induction n with
  | zero =>
    intro k j u l f s hk hn hf ok h0 h1
    cases f with
    | zero => omega
    | succ f =>
      refine ⟨s, ?_, h0, h1⟩
      rw [f_X10_addParts_12]
      simp (disch := omega) only [z_0, z_1, z_2, z_3, z_4, z_5, z_6, z_7, z_8, z_9, z_10, z_11, z_12, z_14, z_18, z_20, z_22, z_24, z_32, z_38, z_40, z_41, z_44, z_48, z_49, z_57, z_59, z_60, z_63, z_65, z_74, z_75, z_81, z_97, z_99, z_104, z_115, z_119, z_122, z_200, z_209, z_210, z_219, z_228, z_255, z_300, z_369, z_999, z_65537, z_268435456, z_1000000000, n_nat, n_add, n_sub, n_mul, n_neg, n_lt, n_le, n_eq, n_ix, n_gd, n_nz, lz_t, bd_some, tn, Int.reduceToNat, tn_1, if_pos, if_neg, if_true, if_false]
  | succ n ih =>
    intro k j u l f s hk hn hf ok h0 h1
    cases f with
    | zero => omega
    | succ f =>
      obtain ⟨ok', b1, b2, b3⟩ := okF_s hT ok
      have hs : hd hm k + 2 = hd hm (k + 1) := by unfold hd; split <;> omega
      rw [hs] at ok'
      have pl := plus_e (F := F) hF h0 h1 b1 b2 b3
      obtain ⟨s', z1, z2, z3⟩ := ih (k + 1) (j + 1) _ _ f (sL (sL s 0 (Int64.ofInt (((red (u * hd hm k + T * l) (l * hd hm k)).1 : Nat) : Int))) 1 (Int64.ofInt (((red (u * hd hm k + T * l) (l * hd hm k)).2 : Nat) : Int))) (by omega) (by omega) (by omega) ok' (by simp (disch := omega) only [sI_a, sI_b, sL_a, sL_b, sL_c, wA_a, wA_b, wA_c, wA_d, wB_a, wB_b, wB_c, wB_d, sA_w, sB_w, uN_s, uN_n, up_s, up_n, ul_s, ul_n, p_fst, p_snd]) (by simp (disch := omega) only [sI_a, sI_b, sL_a, sL_b, sL_c, wA_a, wA_b, wA_c, wA_d, wB_a, wB_b, wB_c, wB_d, sA_w, sB_w, uN_s, uN_n, up_s, up_n, ul_s, ul_n, p_fst, p_snd])
      have fe : fra T 2 (n + 1) (hd hm k) u l = fra T 2 n (hd hm (k + 1)) (red (u * hd hm k + T * l) (l * hd hm k)).1 (red (u * hd hm k + T * l) (l * hd hm k)).2 := by
        rw [← hs]; rfl
      refine ⟨s', ?_, by rw [fe]; exact z2, by rw [fe]; exact z3⟩
      rw [f_X10_addParts_12]
      by_cases c : hm = 0
      · have ed : (2 : Int) * (k : Int) - 1 = ((hd hm k : Nat) : Int) := by unfold hd; rw [if_pos c]; omega
        rw [if_pos c]
        simp (disch := omega) only [z_0, z_1, z_2, z_3, z_4, z_5, z_6, z_7, z_8, z_9, z_10, z_11, z_12, z_14, z_18, z_20, z_22, z_24, z_32, z_38, z_40, z_41, z_44, z_48, z_49, z_57, z_59, z_60, z_63, z_65, z_74, z_75, z_81, z_97, z_99, z_104, z_115, z_119, z_122, z_200, z_209, z_210, z_219, z_228, z_255, z_300, z_369, z_999, z_65537, z_268435456, z_1000000000, n_nat, n_add, n_sub, n_mul, n_neg, n_lt, n_le, n_eq, n_ix, n_gd, n_nz, lz_t, bd_some, tn, Int.reduceToNat, tn_1, if_pos, if_neg, if_true, if_false, m_of, f_X10_addParts_49, e0, ed, pl]
        exact z1
      · have ed : (2 : Int) * (k : Int) = ((hd hm k : Nat) : Int) := by unfold hd; rw [if_neg c]; omega
        rw [if_neg c]
        simp (disch := omega) only [z_0, z_1, z_2, z_3, z_4, z_5, z_6, z_7, z_8, z_9, z_10, z_11, z_12, z_14, z_18, z_20, z_22, z_24, z_32, z_38, z_40, z_41, z_44, z_48, z_49, z_57, z_59, z_60, z_63, z_65, z_74, z_75, z_81, z_97, z_99, z_104, z_115, z_119, z_122, z_200, z_209, z_210, z_219, z_228, z_255, z_300, z_369, z_999, z_65537, z_268435456, z_1000000000, n_nat, n_add, n_sub, n_mul, n_neg, n_lt, n_le, n_eq, n_ix, n_gd, n_nz, lz_t, bd_some, tn, Int.reduceToNat, tn_1, if_pos, if_neg, if_true, if_false, m_of, f_X10_addParts_49, e0, ed, pl]
        exact z1
theorem become01 {F : Nat} (hF : 300 ≤ F) (s : MS) : f_X2_become F 0 1 s = some (sL (sL s 0 (Int64.ofInt ((0 : Nat) : Int))) 1 (Int64.ofInt ((1 : Nat) : Int))) := bec_e (F := F) hF (a := 0) (b := 1) (by omega) (by omega) (by omega) s
theorem ap_e {F : Nat} (hF : 300 ≤ F) {sMn sRo : MS} {T : Nat} (hT : T ≤ 40) (e0 : sRo.1 0 = Int32.ofInt (T : Int)) (hm : Int32) {fr to : Nat} (hto : to ≤ 12) (hf1 : 1 ≤ fr) (hf2 : fr ≤ to + 1) (s : MS) :
    ∃ s', f_X10_addParts F sMn sRo hm (Int32.ofInt (fr : Int)) (Int32.ofInt (to : Int)) s = some s' ∧ s'.2.1 0 = Int64.ofInt (((fra T 2 (to + 1 - fr) (hd hm fr) 0 1).1 : Nat) : Int) ∧ s'.2.1 1 = Int64.ofInt (((fra T 2 (to + 1 - fr) (hd hm fr) 0 1).2 : Nat) : Int) := by
  have ok : okF 2 (to + 1 - fr) (hd hm fr) 0 1 0 := by
    have hb : 1 ≤ hd hm fr ∧ hd hm fr ≤ 2 * fr := by unfold hd; split <;> omega
    refine ⟨by omega, hb.1, by omega, by omega, ?_, by omega⟩
    rw [Nat.one_mul]
    by_cases c : hd hm fr < 25
    · exact prd_b2 _ c _ (by omega) (by omega)
    · rw [show to + 1 - fr = 0 by omega]
      show 1 ≤ CC
      decide
  obtain ⟨s', z1, z2, z3⟩ := ap_go (F := F) hF (sMn := sMn) hT e0 hm (Int32.ofInt (fr : Int)) hto (to + 1 - fr) fr 0 0 1 F (sL (sL s 0 (Int64.ofInt ((0 : Nat) : Int))) 1 (Int64.ofInt ((1 : Nat) : Int))) hf1 (by omega) (by omega) ok (by simp (disch := omega) only [sI_a, sI_b, sL_a, sL_b, sL_c, wA_a, wA_b, wA_c, wA_d, wB_a, wB_b, wB_c, wB_d, sA_w, sB_w, uN_s, uN_n, up_s, up_n, ul_s, ul_n, p_fst, p_snd]) (by simp (disch := omega) only [sI_a, sI_b, sL_a, sL_b, sL_c, wA_a, wA_b, wA_c, wA_d, wB_a, wB_b, wB_c, wB_d, sA_w, sB_w, uN_s, uN_n, up_s, up_n, ul_s, ul_n, p_fst, p_snd])
  refine ⟨s', ?_, z2, z3⟩
  unfold f_X10_addParts
  rw [become01 hF, bd_some]
  exact z1
/-- two longs alone are other -/
def F2 (s s' : MS) (a b : Nat) : Prop := s'.1 = s.1 ∧ s'.2.2 = s.2.2 ∧ ∀ k, k ≠ a → k ≠ b → s'.2.1 k = s.2.1 k
theorem F2_KP {s s' : MS} {a b : Nat} (h : F2 s s' a b) : KP s s' := ⟨fun k _ => by rw [h.1], fun k _ => by rw [h.2.1]⟩
theorem lp_go {F : Nat} (hF : 300 ≤ F) {T : Nat} (hT : T ≤ 40) (p1 : Int32) {to step : Nat} (hs1 : 1 ≤ step) (hs2 : step ≤ 2) (hto : to ≤ 24) : ∀ (n d j u l : Nat) (f : Nat) (s : MS), (d + step * n ≤ to + step) → (to < d + step * n) → n < f → okF step n d u l j → s.2.2.1 15 0 = Int32.ofInt (T : Int) → s.2.1 31 = Int64.ofInt (u : Int) → s.2.1 32 = Int64.ofInt (l : Int) →
    ∃ s', f_X11_layParts_13 F p1 (Int32.ofInt (to : Int)) (Int32.ofInt (step : Int)) f (Int32.ofInt (d : Int)) s = some s' ∧ s'.2.1 31 = Int64.ofInt (((fra T step n d u l).1 : Nat) : Int) ∧ s'.2.1 32 = Int64.ofInt (((fra T step n d u l).2 : Nat) : Int) ∧ F2 s s' 31 32 := by
  intro n
  induction n with
  | zero =>
    intro d j u l f s hd1 hd2 hf ok hr h0 h1
    cases f with
    | zero => omega
    | succ f =>
      refine ⟨s, ?_, h0, h1, rfl, rfl, fun _ _ _ => rfl⟩
      rw [Nat.mul_zero] at hd1 hd2
      rw [f_X11_layParts_13]
      simp (disch := omega) only [z_0, z_1, z_2, z_3, z_4, z_5, z_6, z_7, z_8, z_9, z_10, z_11, z_12, z_14, z_18, z_20, z_22, z_24, z_32, z_38, z_40, z_41, z_44, z_48, z_49, z_57, z_59, z_60, z_63, z_65, z_74, z_75, z_81, z_97, z_99, z_104, z_115, z_119, z_122, z_200, z_209, z_210, z_219, z_228, z_255, z_300, z_369, z_999, z_65537, z_268435456, z_1000000000, n_nat, n_add, n_sub, n_mul, n_neg, n_lt, n_le, n_eq, n_ix, n_gd, n_nz, lz_t, bd_some, tn, Int.reduceToNat, tn_1, if_pos, if_neg, if_true, if_false]
  | succ n ih =>
    intro d j u l f s hd1 hd2 hf ok hr h0 h1
    cases f with
    | zero => omega
    | succ f =>
      have e3 : step * (n + 1) = step * n + step := Nat.mul_succ _ _
      obtain ⟨ok', b1, b2, b3⟩ := okF_s hT ok
      have g0 := Nat.gcd_pos_of_pos_right (u * d + T * l) b3
      have g1 := Nat.gcd_le_right (u * d + T * l) b3
      have dv := dv_e (F := F) hF (a := l * d) (b := u * d + T * l) (by omega) (by omega)
      rw [Nat.gcd_comm] at dv
      have eu : (u : Int) * (d : Int) + (T : Int) * (l : Int) = ((u * d + T * l : Nat) : Int) := by push_cast; rfl
      have el : (l : Int) * (d : Int) = ((l * d : Nat) : Int) := by push_cast; rfl
      obtain ⟨s', z1, z2, z3, z4⟩ := ih (d + step) (j + 1) _ _ f (sL (sL (sL (sL s 31 (Int64.ofInt ((u * d + T * l : Nat) : Int))) 32 (Int64.ofInt ((l * d : Nat) : Int))) 31 (Int64.ofInt ((((u * d + T * l) / Nat.gcd (u * d + T * l) (l * d) : Nat) : Int)))) 32 (Int64.ofInt ((((l * d) / Nat.gcd (u * d + T * l) (l * d) : Nat) : Int)))) (by omega) (by omega) (by omega) ok' hr (by simp (disch := omega) only [sI_a, sI_b, sL_a, sL_b, sL_c, wA_a, wA_b, wA_c, wA_d, wB_a, wB_b, wB_c, wB_d, sA_w, sB_w, uN_s, uN_n, up_s, up_n, ul_s, ul_n, p_fst, p_snd]; rfl) (by simp (disch := omega) only [sI_a, sI_b, sL_a, sL_b, sL_c, wA_a, wA_b, wA_c, wA_d, wB_a, wB_b, wB_c, wB_d, sA_w, sB_w, uN_s, uN_n, up_s, up_n, ul_s, ul_n, p_fst, p_snd]; rfl)
      refine ⟨s', ?_, z2, z3, z4.1, z4.2.1, ?_⟩
      · rw [f_X11_layParts_13]
        have ev : ((u * d + T * l : Nat) : Int) / ((Nat.gcd (u * d + T * l) (l * d) : Nat) : Int) = (((u * d + T * l) / Nat.gcd (u * d + T * l) (l * d) : Nat) : Int) := rfl
        have ev2 : ((l * d : Nat) : Int) / ((Nat.gcd (u * d + T * l) (l * d) : Nat) : Int) = (((l * d) / Nat.gcd (u * d + T * l) (l * d) : Nat) : Int) := rfl
        simp (disch := omega) only [z_0, z_1, z_2, z_3, z_4, z_5, z_6, z_7, z_8, z_9, z_10, z_11, z_12, z_14, z_18, z_20, z_22, z_24, z_32, z_38, z_40, z_41, z_44, z_48, z_49, z_57, z_59, z_60, z_63, z_65, z_74, z_75, z_81, z_97, z_99, z_104, z_115, z_119, z_122, z_200, z_209, z_210, z_219, z_228, z_255, z_300, z_369, z_999, z_65537, z_268435456, z_1000000000, n_nat, n_add, n_sub, n_mul, n_neg, n_lt, n_le, n_eq, n_ix, n_gd, n_nz, lz_t, bd_some, tn, Int.reduceToNat, tn_1, if_pos, if_neg, if_true, if_false, sL_a, sL_b, sL_c, uN_s, uN_n, y_0, y_1, y_2, y_10, y_20, y_1099511627776, m_add, m_sub, m_mul, m_neg, m_lt, m_le, m_eq, m_of, m_nz, m_to, c_gt, c_ge, c_lt, c_le, c_eq, hr, h0, h1, eu, el, dv, m_div, ev, ev2]
        exact z1
      · intro k k1 k2
        rw [z4.2.2 k k1 k2]
        simp (disch := omega) only [sI_a, sI_b, sL_a, sL_b, sL_c, wA_a, wA_b, wA_c, wA_d, wB_a, wB_b, wB_c, wB_d, sA_w, sB_w, uN_s, uN_n, up_s, up_n, ul_s, ul_n, p_fst, p_snd]
theorem lp_e {F : Nat} (hF : 300 ≤ F) {T : Nat} (hT : T ≤ 40) {to step n d : Nat} (hs1 : 1 ≤ step) (hs2 : step ≤ 2) (hto : to ≤ 24) (hn : n ≤ 12) (hd0 : 1 ≤ d) (hd1 : d + step * n ≤ to + step) (hd2 : to < d + step * n) (hp : prd step n d ≤ CC) (s : MS) (hr : s.2.2.1 15 0 = Int32.ofInt (T : Int)) :
    ∃ s', f_X11_layParts F (Int32.ofInt (d : Int)) (Int32.ofInt (to : Int)) (Int32.ofInt (step : Int)) s = some s' ∧ s'.2.1 31 = Int64.ofInt (((fra T step n d 0 1).1 : Nat) : Int) ∧ s'.2.1 32 = Int64.ofInt (((fra T step n d 0 1).2 : Nat) : Int) ∧ KP s s' := by
  have ok : okF step n d 0 1 0 := ⟨by omega, hd0, by omega, by omega, by omega, by omega⟩
  obtain ⟨s', z1, z2, z3, z4⟩ := lp_go (F := F) hF hT (Int32.ofInt (d : Int)) hs1 hs2 hto n d 0 0 1 F (sL (sL s 31 (Int64.ofInt ((0 : Nat) : Int))) 32 (Int64.ofInt ((1 : Nat) : Int))) hd1 hd2 (by omega) ok hr (by simp (disch := omega) only [sI_a, sI_b, sL_a, sL_b, sL_c, wA_a, wA_b, wA_c, wA_d, wB_a, wB_b, wB_c, wB_d, sA_w, sB_w, uN_s, uN_n, up_s, up_n, ul_s, ul_n, p_fst, p_snd]) (by simp (disch := omega) only [sI_a, sI_b, sL_a, sL_b, sL_c, wA_a, wA_b, wA_c, wA_d, wB_a, wB_b, wB_c, wB_d, sA_w, sB_w, uN_s, uN_n, up_s, up_n, ul_s, ul_n, p_fst, p_snd])
  refine ⟨s', z1, z2, z3, F2_KP (a := 31) (b := 32) ⟨z4.1, z4.2.1, ?_⟩⟩
  intro k k1 k2
  rw [z4.2.2 k k1 k2]
  simp (disch := omega) only [sI_a, sI_b, sL_a, sL_b, sL_c, wA_a, wA_b, wA_c, wA_d, wB_a, wB_b, wB_c, wB_d, sA_w, sB_w, uN_s, uN_n, up_s, up_n, ul_s, ul_n, p_fst, p_snd]
