/-! all ways -/
theorem cnt_full {P : Nat → Bool} : ∀ n, cnt P n = n → ∀ v, v < n → P v = true
  | 0, _, v, hv => by omega
  | n + 1, h, v, hv => by
    have l := cnt_le P n
    have e : cnt P (n + 1) = cnt P n + (if P n then 1 else 0) := rfl
    by_cases c : P n = true
    · rw [e, if_pos c] at h
      by_cases ev : v = n
      · rw [ev]; exact c
      · exact cnt_full n (by omega) v (by omega)
    · rw [e, if_neg c] at h
      omega
theorem cnt_add {P Q : Nat → Bool} {q : Nat} (h : ∀ v, v ≠ q → Q v = P v) (h1 : P q = false) (h2 : Q q = true) : ∀ n, q < n → cnt Q n = cnt P n + 1
  | 0, hq => by omega
  | n + 1, hq => by
    show cnt Q n + (if Q n then 1 else 0) = cnt P n + (if P n then 1 else 0) + 1
    have same : ∀ m, m ≤ q → cnt Q m = cnt P m := by
      intro m
      induction m with
      | zero => intro _; rfl
      | succ m ih =>
        intro hm
        show cnt Q m + (if Q m then 1 else 0) = cnt P m + (if P m then 1 else 0)
        rw [ih (by omega), h m (by omega)]
    by_cases e : q = n
    · subst e
      rw [same q (Nat.le_refl _), h1, h2]
      rfl
    · rw [cnt_add h h1 h2 n (by omega), h n (by omega)]
      omega
/-- the places of a row, as bits -/
def UB (u : Int32) (w : Nat → Nat) (k : Nat) : Prop := (∀ j, 9 ≤ j → b32 u j = false) ∧ (∀ j, j < k → b32 u (w j) = true) ∧ cnt (b32 u) 9 = k
theorem UB_s {u : Int32} {w : Nat → Nat} {k q : Nat} (h : UB u w k) (hq : q < 9) (hb : b32 u q = false) : UB (u ||| ((1 : Int32) <<< (Int32.ofInt (q : Int) &&& 31))) (fun j => if j = k then q else w j) (k + 1) := by
  have bt : ∀ x, x < 32 → b32 (u ||| ((1 : Int32) <<< (Int32.ofInt (q : Int) &&& 31))) x = (b32 u x || decide (x = q)) := by
    intro x hx
    rw [b32_or, b32_one q hq x hx]
  refine ⟨?_, ?_, ?_⟩
  · intro j hj
    by_cases c : j < 32
    · rw [bt j c, h.1 j hj, decide_eq_false (by omega)]
      rfl
    · unfold b32
      exact BitVec.getLsbD_of_ge _ _ (by omega)
  · intro j hj
    show b32 _ (if j = k then q else w j) = true
    by_cases c : j = k
    · rw [if_pos c, bt q (by omega), decide_eq_true rfl, Bool.or_true]
    · rw [if_neg c]
      have := h.2.1 j (by omega)
      by_cases c9 : w j < 32
      · rw [bt _ c9, this]
        rfl
      · rw [h.1 (w j) (by omega)] at this
        exact absurd this (by decide)
  · have e9 : ∀ n, n ≤ 9 → cnt (b32 (u ||| ((1 : Int32) <<< (Int32.ofInt (q : Int) &&& 31)))) n = cnt (fun x => b32 u x || decide (x = q)) n := by
      intro n
      induction n with
      | zero => intro _; rfl
      | succ n ih =>
        intro hn
        show cnt _ n + (if b32 (u ||| ((1 : Int32) <<< (Int32.ofInt (q : Int) &&& 31))) n = true then 1 else 0) = cnt _ n + (if (b32 u n || decide (n = q)) = true then 1 else 0)
        rw [ih (by omega), bt n (by omega)]
    rw [e9 9 (Nat.le_refl _), cnt_add (P := b32 u) (q := q) (fun v hv => by
      show (b32 u v || decide (v = q)) = b32 u v
      rw [decide_eq_false hv, Bool.or_false]) hb (by
      show (b32 u q || decide (q = q)) = true
      rw [decide_eq_true rfl, Bool.or_true]) 9 hq, h.2.2]
/-- what a call of both has in common -/
def EX (r : Nat → Int32) (f : Nat) (w : Nat → Nat) (k : Nat) (u : Int32) (n : Nat) (sRe s : MS) : Prop := rowW (sRe.2.2.1 7) w k ∧ rowW (s.2.2.1 33) w k ∧ dis w k ∧ UB u w k ∧ RE r f sRe s ∧ s.1 39 = Int32.ofInt (f : Int) ∧ s.1 36 = Int32.ofInt (n : Int) ∧ s.2.2.1 15 = r
def EY (r : Nat → Int32) (f : Nat) (w : Nat → Nat) (k : Nat) (n B : Nat) (s sRe' s' : MS) : Prop := rowW (sRe'.2.2.1 7) w k ∧ rowW (s'.2.2.1 33) w k ∧ RE r f sRe' s' ∧ KS s s' ∧ ∃ n' : Nat, s'.1 36 = Int32.ofInt (n' : Int) ∧ n' ≤ n + B
theorem rowW_l {f : Nat → Int32} {w w' : Nat → Nat} {k k' : Nat} (h : rowW f w' k') (hk : k ≤ k') (e : ∀ j, j < k → w' j = w j) : rowW f w k := by
  intro j hj
  have := h j (by omega)
  rw [e j hj] at this
  exact this
theorem ex_go {F : Nat} (hF : 100 ≤ F) {sRo : MS} {r : Nat → Int32} (hR : RR sRo r) (h : ROK r) {f : Nat} (hf : f ≤ nT r) : ∀ (m k d1 d2 : Nat) (w : Nat → Nat) (u : Int32) (n : Nat) (sRe s : MS), k + m = 9 → 1 ≤ k → m < d1 → m < d2 → n + 9 ^ m ≤ 100000000 → EX r f w k u n sRe s →
    ∃ sRe' s', f_X8_extend F sRo d1 (Int32.ofInt (k : Int)) u sRe = some sRe' ∧ f_X11_wayFrom F d2 (Int32.ofInt (k : Int)) u s = some s' ∧ EY r f w k n (9 ^ m) s sRe' s' := by
  obtain ⟨q0, q1, q2, q3, q4, q5, q8, q9⟩ := RRb hR
  obtain ⟨c1, c2, c3, c4, c5⟩ := nTP h
  obtain ⟨t0, t1, t2, t3, t4, t5, t8, t9⟩ := ROKb h
  have ln : (rd r 8 - 1) = (((rd r 8).toNat - 1 : Nat) : Int) := by omega
  intro m
  induction m with
  | zero =>
    intro k d1 d2 w u n sRe s hk hk1 hd1 hd2 hn H
    obtain ⟨h1, h2, h3, h4, h5, h6, h7, h8⟩ := H
    obtain ⟨d1, rfl⟩ : ∃ d, d1 = d + 1 := ⟨d1 - 1, by omega⟩
    obtain ⟨d2, rfl⟩ : ∃ d, d2 = d + 1 := ⟨d2 - 1, by omega⟩
    have k9 : k = 9 := by omega
    subst k9
    obtain ⟨wl, wl9⟩ := h1 8 (by omega)
    obtain ⟨wl2, -⟩ := h2 8 (by omega)
    have pg := A11_place (F := F) h8 h (i := (rd r 8).toNat - 1) (by omega)
    have g9 := (wp_b h (i := (rd r 8).toNat - 1) (by omega)).1
    show ∃ sRe' s', f_X8_extend_b F sRo _ u (f_X8_extend F sRo d1) sRe = _ ∧ f_X11_wayFrom_b F _ u (f_X11_wayFrom F d2) s = _ ∧ _
    unfold f_X8_extend_b f_X11_wayFrom_b
    by_cases cg : w 8 = wp r ((rd r 8).toNat - 1)
    · obtain ⟨sRe', s', x1, x2, x3, x4, x5, x6, x7⟩ := weigh_e (F := F) hF hR h h8 (k := 9) (by omega) (by omega) h1 h2 h3 h4.1 hf h6 h5 ⟨n, by omega, h7⟩
      have x1' : f_X8_weigh F sRo (Int32.ofInt 9) u sRe = some sRe' := x1
      refine ⟨sRe', s', ?_, ?_, by rw [x5]; exact h1, by rw [x6]; exact h2, x3, x4, ?_⟩
      · have wl' : sRe.2.2.1 7 8 = Int32.ofInt (wp r ((rd r 8).toNat - 1) : Int) := by rw [wl, cg]
        simp (disch := omega) only [z_0, z_1, z_2, z_3, z_4, z_5, z_6, z_7, z_8, z_9, z_10, z_11, z_12, z_14, z_18, z_20, z_22, z_24, z_32, z_38, z_40, z_41, z_44, z_48, z_49, z_57, z_59, z_60, z_63, z_65, z_74, z_75, z_81, z_97, z_99, z_104, z_115, z_119, z_122, z_200, z_209, z_210, z_219, z_228, z_255, z_300, z_369, z_999, z_65537, z_268435456, z_1000000000, n_nat, n_add, n_sub, n_mul, n_neg, n_lt, n_le, n_eq, n_ix, n_gd, n_nz, lz_t, bd_some, tn, Int.reduceToNat, tn_1, if_pos, if_neg, if_true, if_false, Int.reduceSub, Int.cast_ofNat_Int, wl', goal_e hR h, x1']
      · have wl' : s.2.2.1 33 8 = Int32.ofInt (wp r ((rd r 8).toNat - 1) : Int) := by rw [wl2, cg]
        rw [← x2]
        simp (disch := omega) only [z_0, z_1, z_2, z_3, z_4, z_5, z_6, z_7, z_8, z_9, z_10, z_11, z_12, z_14, z_18, z_20, z_22, z_24, z_32, z_38, z_40, z_41, z_44, z_48, z_49, z_57, z_59, z_60, z_63, z_65, z_74, z_75, z_81, z_97, z_99, z_104, z_115, z_119, z_122, z_200, z_209, z_210, z_219, z_228, z_255, z_300, z_369, z_999, z_65537, z_268435456, z_1000000000, n_nat, n_add, n_sub, n_mul, n_neg, n_lt, n_le, n_eq, n_ix, n_gd, n_nz, lz_t, bd_some, tn, Int.reduceToNat, tn_1, if_pos, if_neg, if_true, if_false, Int.reduceSub, Int.cast_ofNat_Int, wl', A11_last h8 h, ln, pg]
      · rcases x7 n h7 with z | z
        · exact ⟨n, z, by omega⟩
        · exact ⟨n + 1, z, by omega⟩
    · have lp : ∀ (dd q nn : Nat), q + dd = nP r → dd < nn → f_X11_wayFrom_42 F (Int32.ofInt ((9 : Nat) : Int)) u (f_X11_wayFrom F d2) nn (Int32.ofInt (q : Int)) s = some s := by
        have r5 : s.2.2.1 15 5 = Int32.ofInt (rd r 5) := by rw [h8]; exact rd_e r 5
        intro dd
        induction dd with
        | zero =>
          intro q nn hq hnn
          cases nn with
          | zero => omega
          | succ nn =>
            rw [f_X11_wayFrom_42]
            simp (disch := omega) only [z_0, z_1, z_2, z_3, z_4, z_5, z_6, z_7, z_8, z_9, z_10, z_11, z_12, z_14, z_18, z_20, z_22, z_24, z_32, z_38, z_40, z_41, z_44, z_48, z_49, z_57, z_59, z_60, z_63, z_65, z_74, z_75, z_81, z_97, z_99, z_104, z_115, z_119, z_122, z_200, z_209, z_210, z_219, z_228, z_255, z_300, z_369, z_999, z_65537, z_268435456, z_1000000000, n_nat, n_add, n_sub, n_mul, n_neg, n_lt, n_le, n_eq, n_ix, n_gd, n_nz, lz_t, bd_some, tn, Int.reduceToNat, tn_1, if_pos, if_neg, if_true, if_false, r5]
        | succ dd ih =>
          intro q nn hq hnn
          cases nn with
          | zero => omega
          | succ nn =>
            have bt := cnt_full 9 h4.2.2 q (by omega)
            have hb := hasBit_e (F := F) u (t := q) (by omega)
            rw [if_pos bt] at hb
            rw [f_X11_wayFrom_42]
            simp (disch := omega) only [z_0, z_1, z_2, z_3, z_4, z_5, z_6, z_7, z_8, z_9, z_10, z_11, z_12, z_14, z_18, z_20, z_22, z_24, z_32, z_38, z_40, z_41, z_44, z_48, z_49, z_57, z_59, z_60, z_63, z_65, z_74, z_75, z_81, z_97, z_99, z_104, z_115, z_119, z_122, z_200, z_209, z_210, z_219, z_228, z_255, z_300, z_369, z_999, z_65537, z_268435456, z_1000000000, n_nat, n_add, n_sub, n_mul, n_neg, n_lt, n_le, n_eq, n_ix, n_gd, n_nz, lz_t, bd_some, tn, Int.reduceToNat, tn_1, if_pos, if_neg, if_true, if_false, r5, hb, f_X11_wayFrom_98]
            exact ih (q + 1) nn (by omega) (by omega)
      have lp' : f_X11_wayFrom_42 F (Int32.ofInt 9) u (f_X11_wayFrom F d2) F (Int32.ofInt 0) s = some s := lp (nP r) 0 F (by omega) (by omega)
      refine ⟨sRe, s, ?_, ?_, h1, h2, h5, KS_r s, n, h7, by omega⟩
      · simp (disch := omega) only [z_0, z_1, z_2, z_3, z_4, z_5, z_6, z_7, z_8, z_9, z_10, z_11, z_12, z_14, z_18, z_20, z_22, z_24, z_32, z_38, z_40, z_41, z_44, z_48, z_49, z_57, z_59, z_60, z_63, z_65, z_74, z_75, z_81, z_97, z_99, z_104, z_115, z_119, z_122, z_200, z_209, z_210, z_219, z_228, z_255, z_300, z_369, z_999, z_65537, z_268435456, z_1000000000, n_nat, n_add, n_sub, n_mul, n_neg, n_lt, n_le, n_eq, n_ix, n_gd, n_nz, lz_t, bd_some, tn, Int.reduceToNat, tn_1, if_pos, if_neg, if_true, if_false, Int.reduceSub, Int.cast_ofNat_Int, wl, goal_e hR h]
      · simp (disch := omega) only [z_0, z_1, z_2, z_3, z_4, z_5, z_6, z_7, z_8, z_9, z_10, z_11, z_12, z_14, z_18, z_20, z_22, z_24, z_32, z_38, z_40, z_41, z_44, z_48, z_49, z_57, z_59, z_60, z_63, z_65, z_74, z_75, z_81, z_97, z_99, z_104, z_115, z_119, z_122, z_200, z_209, z_210, z_219, z_228, z_255, z_300, z_369, z_999, z_65537, z_268435456, z_1000000000, n_nat, n_add, n_sub, n_mul, n_neg, n_lt, n_le, n_eq, n_ix, n_gd, n_nz, lz_t, bd_some, tn, Int.reduceToNat, tn_1, if_pos, if_neg, if_true, if_false, Int.reduceSub, Int.cast_ofNat_Int, wl2, A11_last h8 h, ln, pg, lp']
  | succ m ih =>
    intro k d1 d2 w u n sRe s hk hk1 hd1 hd2 hn H
    obtain ⟨h1, h2, h3, h4, h5, h6, h7, h8⟩ := H
    obtain ⟨d1, rfl⟩ : ∃ d, d1 = d + 1 := ⟨d1 - 1, by omega⟩
    obtain ⟨d2, rfl⟩ : ∃ d, d2 = d + 1 := ⟨d2 - 1, by omega⟩
    have e9 : 9 ^ (m + 1) = 9 * 9 ^ m := by rw [Nat.pow_succ, Nat.mul_comm]
    obtain ⟨wl, wl9⟩ := h1 (k - 1) (by omega)
    obtain ⟨wl2, -⟩ := h2 (k - 1) (by omega)
    have ek : (k : Int) - 1 = ((k - 1 : Nat) : Int) := by omega
    have pg := A11_place (F := F) h8 h (i := (rd r 8).toNat - 1) (by omega)
    have g9 := (wp_b h (i := (rd r 8).toNat - 1) (by omega)).1
    show ∃ sRe' s', f_X8_extend_b F sRo _ u (f_X8_extend F sRo d1) sRe = _ ∧ f_X11_wayFrom_b F _ u (f_X11_wayFrom F d2) s = _ ∧ _
    unfold f_X8_extend_b f_X11_wayFrom_b
    by_cases cg : w (k - 1) = wp r ((rd r 8).toNat - 1)
    · have p9 : 1 ≤ 9 ^ m := Nat.one_le_pow _ _ (by omega)
      obtain ⟨sRe', s', x1, x2, x3, x4, x5, x6, x7⟩ := weigh_e (F := F) hF hR h h8 (k := k) (by omega) hk1 h1 h2 h3 h4.1 hf h6 h5 ⟨n, by omega, h7⟩
      refine ⟨sRe', s', ?_, ?_, by rw [x5]; exact h1, by rw [x6]; exact h2, x3, x4, ?_⟩
      · have wl' : sRe.2.2.1 7 (k - 1) = Int32.ofInt (wp r ((rd r 8).toNat - 1) : Int) := by rw [wl, cg]
        simp (disch := omega) only [z_0, z_1, z_2, z_3, z_4, z_5, z_6, z_7, z_8, z_9, z_10, z_11, z_12, z_14, z_18, z_20, z_22, z_24, z_32, z_38, z_40, z_41, z_44, z_48, z_49, z_57, z_59, z_60, z_63, z_65, z_74, z_75, z_81, z_97, z_99, z_104, z_115, z_119, z_122, z_200, z_209, z_210, z_219, z_228, z_255, z_300, z_369, z_999, z_65537, z_268435456, z_1000000000, n_nat, n_add, n_sub, n_mul, n_neg, n_lt, n_le, n_eq, n_ix, n_gd, n_nz, lz_t, bd_some, tn, Int.reduceToNat, tn_1, if_pos, if_neg, if_true, if_false, ek, wl', goal_e hR h, x1]
      · have wl' : s.2.2.1 33 (k - 1) = Int32.ofInt (wp r ((rd r 8).toNat - 1) : Int) := by rw [wl2, cg]
        rw [← x2]
        simp (disch := omega) only [z_0, z_1, z_2, z_3, z_4, z_5, z_6, z_7, z_8, z_9, z_10, z_11, z_12, z_14, z_18, z_20, z_22, z_24, z_32, z_38, z_40, z_41, z_44, z_48, z_49, z_57, z_59, z_60, z_63, z_65, z_74, z_75, z_81, z_97, z_99, z_104, z_115, z_119, z_122, z_200, z_209, z_210, z_219, z_228, z_255, z_300, z_369, z_999, z_65537, z_268435456, z_1000000000, n_nat, n_add, n_sub, n_mul, n_neg, n_lt, n_le, n_eq, n_ix, n_gd, n_nz, lz_t, bd_some, tn, Int.reduceToNat, tn_1, if_pos, if_neg, if_true, if_false, ek, wl', A11_last h8 h, ln, pg]
      · rcases x7 n h7 with z | z
        · exact ⟨n, z, by omega⟩
        · exact ⟨n + 1, z, by omega⟩
    · have lp : ∀ (dd q nn n2 n : Nat) (sRe s : MS), q + dd = nP r → dd < nn → dd < n2 → n + dd * 9 ^ m ≤ 100000000 → EX r f w k u n sRe s →
          ∃ sRe' s', f_X8_extend_37 F sRo (Int32.ofInt (k : Int)) u (f_X8_extend F sRo d1) nn (Int32.ofInt (w (k - 1) : Int)) (Int32.ofInt (q : Int)) sRe = some sRe' ∧ f_X11_wayFrom_42 F (Int32.ofInt (k : Int)) u (f_X11_wayFrom F d2) n2 (Int32.ofInt (q : Int)) s = some s' ∧ EY r f w k n (dd * 9 ^ m) s sRe' s' := by
        intro dd
        induction dd with
        | zero =>
          intro q nn n2 n sRe s hq hnn hn2 hb H
          obtain ⟨g1, g2, g3, g4, g5, g6, g7, g8⟩ := H
          have r5 : s.2.2.1 15 5 = Int32.ofInt (rd r 5) := by rw [g8]; exact rd_e r 5
          cases nn with
          | zero => omega
          | succ nn =>
            cases n2 with
            | zero => omega
            | succ n2 =>
              refine ⟨sRe, s, ?_, ?_, g1, g2, g5, KS_r s, n, g7, by omega⟩
              · rw [f_X8_extend_37]
                simp (disch := omega) only [z_0, z_1, z_2, z_3, z_4, z_5, z_6, z_7, z_8, z_9, z_10, z_11, z_12, z_14, z_18, z_20, z_22, z_24, z_32, z_38, z_40, z_41, z_44, z_48, z_49, z_57, z_59, z_60, z_63, z_65, z_74, z_75, z_81, z_97, z_99, z_104, z_115, z_119, z_122, z_200, z_209, z_210, z_219, z_228, z_255, z_300, z_369, z_999, z_65537, z_268435456, z_1000000000, n_nat, n_add, n_sub, n_mul, n_neg, n_lt, n_le, n_eq, n_ix, n_gd, n_nz, lz_t, bd_some, tn, Int.reduceToNat, tn_1, if_pos, if_neg, if_true, if_false, q5]
              · rw [f_X11_wayFrom_42]
                simp (disch := omega) only [z_0, z_1, z_2, z_3, z_4, z_5, z_6, z_7, z_8, z_9, z_10, z_11, z_12, z_14, z_18, z_20, z_22, z_24, z_32, z_38, z_40, z_41, z_44, z_48, z_49, z_57, z_59, z_60, z_63, z_65, z_74, z_75, z_81, z_97, z_99, z_104, z_115, z_119, z_122, z_200, z_209, z_210, z_219, z_228, z_255, z_300, z_369, z_999, z_65537, z_268435456, z_1000000000, n_nat, n_add, n_sub, n_mul, n_neg, n_lt, n_le, n_eq, n_ix, n_gd, n_nz, lz_t, bd_some, tn, Int.reduceToNat, tn_1, if_pos, if_neg, if_true, if_false, r5]
        | succ dd ihd =>
          intro q nn n2 n sRe s hq hnn hn2 hb H
          obtain ⟨g1, g2, g3, g4, g5, g6, g7, g8⟩ := H
          have ed : (dd + 1) * 9 ^ m = dd * 9 ^ m + 9 ^ m := Nat.succ_mul _ _
          have r5 : s.2.2.1 15 5 = Int32.ofInt (rd r 5) := by rw [g8]; exact rd_e r 5
          obtain ⟨vl, vl9⟩ := g2 (k - 1) (by omega)
          have tb := tk_b h wl9 (show q < 9 by omega)
          have Br : f_X11_roadOf F s (Int32.ofInt (w (k - 1) : Int)) (Int32.ofInt (q : Int)) = some (Int32.ofInt (tk r (w (k - 1)) q)) := B_road g8 wl9 (by omega)
          have e9' : f_X9_isRoad F sRo (Int32.ofInt (w (k - 1) : Int)) (Int32.ofInt (q : Int)) = some (bi (decide (0 < tk r (w (k - 1)) q))) := B9_road hR wl9 (by omega)
          have hbit := hasBit_e (F := F) u (t := q) (by omega)
          have tbit := test32 u (t := q) (by omega)
          cases nn with
          | zero => omega
          | succ nn =>
            cases n2 with
            | zero => omega
            | succ n2 =>
              have skip : (f_X8_extend_37 F sRo (Int32.ofInt (k : Int)) u (f_X8_extend F sRo d1) (nn + 1) (Int32.ofInt (w (k - 1) : Int)) (Int32.ofInt (q : Int)) sRe = f_X8_extend_37 F sRo (Int32.ofInt (k : Int)) u (f_X8_extend F sRo d1) nn (Int32.ofInt (w (k - 1) : Int)) (Int32.ofInt ((q : Int) + 1)) sRe) → (f_X11_wayFrom_42 F (Int32.ofInt (k : Int)) u (f_X11_wayFrom F d2) (n2 + 1) (Int32.ofInt (q : Int)) s = f_X11_wayFrom_42 F (Int32.ofInt (k : Int)) u (f_X11_wayFrom F d2) n2 (Int32.ofInt ((q : Int) + 1)) s) → ∃ sRe' s', f_X8_extend_37 F sRo (Int32.ofInt (k : Int)) u (f_X8_extend F sRo d1) (nn + 1) (Int32.ofInt (w (k - 1) : Int)) (Int32.ofInt (q : Int)) sRe = some sRe' ∧ f_X11_wayFrom_42 F (Int32.ofInt (k : Int)) u (f_X11_wayFrom F d2) (n2 + 1) (Int32.ofInt (q : Int)) s = some s' ∧ EY r f w k n ((dd + 1) * 9 ^ m) s sRe' s' := by
                intro s1 s2
                obtain ⟨sRe', s', z1, z2, z3, z4, z5, z6, n', z7, z8⟩ := ihd (q + 1) nn n2 n sRe s (by omega) (by omega) (by omega) (by omega) ⟨g1, g2, g3, g4, g5, g6, g7, g8⟩
                exact ⟨sRe', s', by rw [s1]; exact z1, by rw [s2]; exact z2, z3, z4, z5, z6, n', z7, by omega⟩
              cases cb : b32 u q with
              | true =>
                rw [cb] at hbit tbit
                rw [if_pos rfl] at hbit tbit
                have tbit' : ((u >>> (Int32.ofInt (q : Int) &&& 31)) &&& Int32.ofInt 1) = Int32.ofInt 1 := tbit
                refine skip ?_ ?_
                · rw [f_X8_extend_37]
                  by_cases ct : 0 < tk r (w (k - 1)) q
                  · simp (disch := omega) only [z_0, z_1, z_2, z_3, z_4, z_5, z_6, z_7, z_8, z_9, z_10, z_11, z_12, z_14, z_18, z_20, z_22, z_24, z_32, z_38, z_40, z_41, z_44, z_48, z_49, z_57, z_59, z_60, z_63, z_65, z_74, z_75, z_81, z_97, z_99, z_104, z_115, z_119, z_122, z_200, z_209, z_210, z_219, z_228, z_255, z_300, z_369, z_999, z_65537, z_268435456, z_1000000000, n_nat, n_add, n_sub, n_mul, n_neg, n_lt, n_le, n_eq, n_ix, n_gd, n_nz, lz_t, bd_some, tn, Int.reduceToNat, tn_1, if_pos, if_neg, if_true, if_false, q5, e9', bi_z, decide_eq_false_iff_not, tbit', f_X8_extend_88]
                  · simp (disch := omega) only [z_0, z_1, z_2, z_3, z_4, z_5, z_6, z_7, z_8, z_9, z_10, z_11, z_12, z_14, z_18, z_20, z_22, z_24, z_32, z_38, z_40, z_41, z_44, z_48, z_49, z_57, z_59, z_60, z_63, z_65, z_74, z_75, z_81, z_97, z_99, z_104, z_115, z_119, z_122, z_200, z_209, z_210, z_219, z_228, z_255, z_300, z_369, z_999, z_65537, z_268435456, z_1000000000, n_nat, n_add, n_sub, n_mul, n_neg, n_lt, n_le, n_eq, n_ix, n_gd, n_nz, lz_t, bd_some, tn, Int.reduceToNat, tn_1, if_pos, if_neg, if_true, if_false, q5, e9', bi_z, decide_eq_false_iff_not, f_X8_extend_88]
                · rw [f_X11_wayFrom_42]
                  simp (disch := omega) only [z_0, z_1, z_2, z_3, z_4, z_5, z_6, z_7, z_8, z_9, z_10, z_11, z_12, z_14, z_18, z_20, z_22, z_24, z_32, z_38, z_40, z_41, z_44, z_48, z_49, z_57, z_59, z_60, z_63, z_65, z_74, z_75, z_81, z_97, z_99, z_104, z_115, z_119, z_122, z_200, z_209, z_210, z_219, z_228, z_255, z_300, z_369, z_999, z_65537, z_268435456, z_1000000000, n_nat, n_add, n_sub, n_mul, n_neg, n_lt, n_le, n_eq, n_ix, n_gd, n_nz, lz_t, bd_some, tn, Int.reduceToNat, tn_1, if_pos, if_neg, if_true, if_false, r5, hbit, f_X11_wayFrom_98]
              | false =>
                rw [cb] at hbit tbit
                rw [if_neg (by decide)] at hbit tbit
                have tbit' : ((u >>> (Int32.ofInt (q : Int) &&& 31)) &&& Int32.ofInt 1) = Int32.ofInt 0 := tbit
                have hbit' : f_X11_hasBit F u (Int32.ofInt (q : Int)) = some (Int32.ofInt 0) := hbit
                by_cases ct : 0 < tk r (w (k - 1)) q
                · have wne : ∀ j, j < k → w j ≠ q := by
                    intro j hj e
                    have := g4.2.1 j hj
                    rw [e, cb] at this
                    exact absurd this (by decide)
                  have rw1 : ∀ (a : Nat) (ss : MS), rowW (ss.2.2.1 a) w k → rowW ((sA ss a k (Int32.ofInt (q : Int))).2.2.1 a) (fun j => if j = k then q else w j) (k + 1) := by
                    intro a ss hw j hj
                    by_cases e : j = k
                    · subst e
                      simp (disch := omega) only [sI_a, sI_b, sL_a, sL_b, sL_c, wA_a, wA_b, wA_c, wA_d, wB_a, wB_b, wB_c, wB_d, sA_w, sB_w, uN_s, uN_n, up_s, up_n, ul_s, ul_n, p_fst, p_snd, if_true]
                      exact ⟨trivial, by omega⟩
                    · simp (disch := omega) only [sI_a, sI_b, sL_a, sL_b, sL_c, wA_a, wA_b, wA_c, wA_d, wB_a, wB_b, wB_c, wB_d, sA_w, sB_w, uN_s, uN_n, up_s, up_n, ul_s, ul_n, p_fst, p_snd]
                      rw [if_neg e]
                      exact hw j (by omega)
                  obtain ⟨sR1, s1, y1, y2, y3, y4, y5, y6, n', y7, y8⟩ := ih (k + 1) d1 d2 (fun j => if j = k then q else w j) (u ||| ((1 : Int32) <<< (Int32.ofInt (q : Int) &&& 31))) n (sA sRe 7 k (Int32.ofInt (q : Int))) (sA s 33 k (Int32.ofInt (q : Int))) (by omega) (by omega) (by omega) (by omega) (by omega) ⟨rw1 7 sRe g1, rw1 33 s g2, dis_s g3 wne, UB_s g4 (by omega) cb, by
                    obtain ⟨r1, r2, r3, r4⟩ := g5
                    refine ⟨r1, r2, r3, fun hfe => ?_⟩
                    obtain ⟨v1, v2, v3, v4, v5, v6⟩ := r4 hfe
                    refine ⟨v1, v2, v3, v4, v5, fun a b => ?_⟩
                    obtain ⟨qq, u1, u2, u3, u4⟩ := v6 a b
                    refine ⟨qq, u1, u2, ?_, ?_⟩
                    · intro i hi
                      simp (disch := omega) only [sI_a, sI_b, sL_a, sL_b, sL_c, wA_a, wA_b, wA_c, wA_d, wB_a, wB_b, wB_c, wB_d, sA_w, sB_w, uN_s, uN_n, up_s, up_n, ul_s, ul_n, p_fst, p_snd]
                      exact u3 i hi
                    · intro i h1 h2
                      simp (disch := omega) only [sI_a, sI_b, sL_a, sL_b, sL_c, wA_a, wA_b, wA_c, wA_d, wB_a, wB_b, wB_c, wB_d, sA_w, sB_w, uN_s, uN_n, up_s, up_n, ul_s, ul_n, p_fst, p_snd]
                      exact u4 i h1 h2, g6, g7, by simp (disch := omega) only [sI_a, sI_b, sL_a, sL_b, sL_c, wA_a, wA_b, wA_c, wA_d, wB_a, wB_b, wB_c, wB_d, sA_w, sB_w, uN_s, uN_n, up_s, up_n, ul_s, ul_n, p_fst, p_snd]; exact g8⟩
                  have kk : KS s s1 := KS_t (KS_a s _ _ (by omega)) y6
                  have lw : ∀ j, j < k → (fun j => if j = k then q else w j) j = w j := by
                    intro j hj
                    show (if j = k then q else w j) = w j
                    rw [if_neg (by omega)]
                  obtain ⟨sRe', s', z1, z2, z3, z4, z5, z6, n'', z7, z8⟩ := ihd (q + 1) nn n2 n' sR1 s1 (by omega) (by omega) (by omega) (by omega) ⟨rowW_l y3 (by omega) lw, rowW_l y4 (by omega) lw, g3, g4, y5, kk.2.1.trans g6, y7, (kk.1.2 15 (by omega)).trans g8⟩
                  refine ⟨sRe', s', ?_, ?_, z3, z4, z5, KS_t kk z6, n'', z7, by omega⟩
                  · rw [f_X8_extend_37]
                    have y1' : f_X8_extend F sRo d1 (Int32.ofInt ((k : Int) + 1)) (u ||| ((Int32.ofInt 1) <<< (Int32.ofInt (q : Int) &&& 31))) (sA sRe 7 k (Int32.ofInt (q : Int))) = some sR1 := y1
                    simp (disch := omega) only [z_0, z_1, z_2, z_3, z_4, z_5, z_6, z_7, z_8, z_9, z_10, z_11, z_12, z_14, z_18, z_20, z_22, z_24, z_32, z_38, z_40, z_41, z_44, z_48, z_49, z_57, z_59, z_60, z_63, z_65, z_74, z_75, z_81, z_97, z_99, z_104, z_115, z_119, z_122, z_200, z_209, z_210, z_219, z_228, z_255, z_300, z_369, z_999, z_65537, z_268435456, z_1000000000, n_nat, n_add, n_sub, n_mul, n_neg, n_lt, n_le, n_eq, n_ix, n_gd, n_nz, lz_t, bd_some, tn, Int.reduceToNat, tn_1, if_pos, if_neg, if_true, if_false, q5, e9', bi_z, decide_eq_false_iff_not, tbit', y1', f_X8_extend_88]
                    exact z1
                  · rw [f_X11_wayFrom_42]
                    have y2' : f_X11_wayFrom F d2 (Int32.ofInt ((k : Int) + 1)) (u ||| ((Int32.ofInt 1) <<< (Int32.ofInt (q : Int) &&& 31))) (sA s 33 k (Int32.ofInt (q : Int))) = some s1 := y2
                    simp (disch := omega) only [z_0, z_1, z_2, z_3, z_4, z_5, z_6, z_7, z_8, z_9, z_10, z_11, z_12, z_14, z_18, z_20, z_22, z_24, z_32, z_38, z_40, z_41, z_44, z_48, z_49, z_57, z_59, z_60, z_63, z_65, z_74, z_75, z_81, z_97, z_99, z_104, z_115, z_119, z_122, z_200, z_209, z_210, z_219, z_228, z_255, z_300, z_369, z_999, z_65537, z_268435456, z_1000000000, n_nat, n_add, n_sub, n_mul, n_neg, n_lt, n_le, n_eq, n_ix, n_gd, n_nz, lz_t, bd_some, tn, Int.reduceToNat, tn_1, if_pos, if_neg, if_true, if_false, r5, hbit', ek, vl, Br, y2', f_X11_wayFrom_98]
                    exact z2
                · refine skip ?_ ?_
                  · rw [f_X8_extend_37]
                    simp (disch := omega) only [z_0, z_1, z_2, z_3, z_4, z_5, z_6, z_7, z_8, z_9, z_10, z_11, z_12, z_14, z_18, z_20, z_22, z_24, z_32, z_38, z_40, z_41, z_44, z_48, z_49, z_57, z_59, z_60, z_63, z_65, z_74, z_75, z_81, z_97, z_99, z_104, z_115, z_119, z_122, z_200, z_209, z_210, z_219, z_228, z_255, z_300, z_369, z_999, z_65537, z_268435456, z_1000000000, n_nat, n_add, n_sub, n_mul, n_neg, n_lt, n_le, n_eq, n_ix, n_gd, n_nz, lz_t, bd_some, tn, Int.reduceToNat, tn_1, if_pos, if_neg, if_true, if_false, q5, e9', bi_z, decide_eq_false_iff_not, f_X8_extend_88]
                  · rw [f_X11_wayFrom_42]
                    simp (disch := omega) only [z_0, z_1, z_2, z_3, z_4, z_5, z_6, z_7, z_8, z_9, z_10, z_11, z_12, z_14, z_18, z_20, z_22, z_24, z_32, z_38, z_40, z_41, z_44, z_48, z_49, z_57, z_59, z_60, z_63, z_65, z_74, z_75, z_81, z_97, z_99, z_104, z_115, z_119, z_122, z_200, z_209, z_210, z_219, z_228, z_255, z_300, z_369, z_999, z_65537, z_268435456, z_1000000000, n_nat, n_add, n_sub, n_mul, n_neg, n_lt, n_le, n_eq, n_ix, n_gd, n_nz, lz_t, bd_some, tn, Int.reduceToNat, tn_1, if_pos, if_neg, if_true, if_false, r5, hbit', ek, vl, Br, f_X11_wayFrom_98]
      have nb : nP r * 9 ^ m ≤ 9 * 9 ^ m := Nat.mul_le_mul_right _ (by omega)
      obtain ⟨sRe', s', z1, z2, z3, z4, z5, z6, n', z7, z8⟩ := lp (nP r) 0 F F n sRe s (by omega) (by omega) (by omega) (by omega) ⟨h1, h2, h3, h4, h5, h6, h7, h8⟩
      refine ⟨sRe', s', ?_, ?_, z3, z4, z5, z6, n', z7, by omega⟩
      · have z1' : f_X8_extend_37 F sRo (Int32.ofInt (k : Int)) u (f_X8_extend F sRo d1) F (Int32.ofInt (w (k - 1) : Int)) (Int32.ofInt 0) sRe = some sRe' := z1
        simp (disch := omega) only [z_0, z_1, z_2, z_3, z_4, z_5, z_6, z_7, z_8, z_9, z_10, z_11, z_12, z_14, z_18, z_20, z_22, z_24, z_32, z_38, z_40, z_41, z_44, z_48, z_49, z_57, z_59, z_60, z_63, z_65, z_74, z_75, z_81, z_97, z_99, z_104, z_115, z_119, z_122, z_200, z_209, z_210, z_219, z_228, z_255, z_300, z_369, z_999, z_65537, z_268435456, z_1000000000, n_nat, n_add, n_sub, n_mul, n_neg, n_lt, n_le, n_eq, n_ix, n_gd, n_nz, lz_t, bd_some, tn, Int.reduceToNat, tn_1, if_pos, if_neg, if_true, if_false, ek, wl, goal_e hR h, z1']
      · have z2' : f_X11_wayFrom_42 F (Int32.ofInt (k : Int)) u (f_X11_wayFrom F d2) F (Int32.ofInt 0) s = some s' := z2
        simp (disch := omega) only [z_0, z_1, z_2, z_3, z_4, z_5, z_6, z_7, z_8, z_9, z_10, z_11, z_12, z_14, z_18, z_20, z_22, z_24, z_32, z_38, z_40, z_41, z_44, z_48, z_49, z_57, z_59, z_60, z_63, z_65, z_74, z_75, z_81, z_97, z_99, z_104, z_115, z_119, z_122, z_200, z_209, z_210, z_219, z_228, z_255, z_300, z_369, z_999, z_65537, z_268435456, z_1000000000, n_nat, n_add, n_sub, n_mul, n_neg, n_lt, n_le, n_eq, n_ix, n_gd, n_nz, lz_t, bd_some, tn, Int.reduceToNat, tn_1, if_pos, if_neg, if_true, if_false, ek, wl2, A11_last h8 h, ln, pg, z2']
