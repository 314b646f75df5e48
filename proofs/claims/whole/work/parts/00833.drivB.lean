/-! drivers' journeys -/
theorem z_50 : (50 : Int32) = Int32.ofInt 50 := rfl
theorem z_65536 : (65536 : Int32) = Int32.ofInt 65536 := rfl
theorem mul_b {a b : Int} (h1 : 0 ≤ a) (h2 : a ≤ 40) (h3 : 0 ≤ b) (h4 : b ≤ 99) : 0 ≤ a * b ∧ a * b ≤ 3960 := by
  have g1 := Int.mul_nonneg h1 h3
  have g2 := Int.mul_le_mul h2 h4 h3 (by omega)
  omega
def tn' (r : Nat → Int32) (rule : Int) (i : Nat) (lv p : Int) : Int := if p = 0 then 0 else bo r rule i lv p
def tl (r : Nat → Int32) (rule : Int) (i : Nat) (lv p : Int) : Int := lv + (tn' r rule i lv p - lg r i)
def ts (r : Nat → Int32) (rule : Int) (i : Nat) (lv p s : Int) : Int := s + (if tn' r rule i lv p = 0 then 0 else tn' r rule i lv p * p + rd r 2)
theorem tn_b {r : Nat → Int32} {rule : Int} {i : Nat} {lv p : Int} (h1 : 0 ≤ lv) (h2 : lv ≤ rd r 0) : 0 ≤ tn' r rule i lv p ∧ tn' r rule i lv p ≤ rd r 0 - lv := by
  have b := bo_b (r := r) (rule := rule) (i := i) (price := p) h1 h2
  unfold tn'
  split <;> omega
theorem ts_b {r : Nat → Int32} (h : ROK r) {rule : Int} {i : Nat} {lv p s : Int} (h1 : 0 ≤ lv) (h2 : lv ≤ rd r 0) (hp : 0 ≤ p) (hp2 : p ≤ 99) (hs : 0 ≤ s) (hs2 : s ≤ 5000 * i) : 0 ≤ ts r rule i lv p s ∧ ts r rule i lv p s ≤ 5000 * (i + 1 : Nat) := by
  obtain ⟨t0, t1, t2, t3, t4, t5, t8, t9⟩ := ROKb h
  have b := tn_b (r := r) (rule := rule) (i := i) (p := p) h1 h2
  have m := mul_b b.1 (by omega) hp hp2
  unfold ts
  split <;> omega
theorem tr_58 {F : Nat} (hF : 100 ≤ F) {sRo sDr sDw : MS} {r : Nat → Int32} (hR : RR sRo r) (h : ROK r) {rule : Int} (hr1 : 0 ≤ rule) (hr2 : rule ≤ 3) (p3 : Int32) (k : Int32 → Int32 → Int32 → MS → MS → Option (Int32 × MS × MS)) {i : Nat} (hi : (i : Int) + 1 < rd r 8) {lv s p q : Int} (h1 : 0 ≤ lv) (h2 : lv ≤ rd r 0) (hp : 0 ≤ p) (hp2 : p ≤ 99) (hq : q = p ∨ (q = -2 ∧ p = 0)) (hs : 0 ≤ s) (hs2 : s ≤ 5000 * i) :
    f_X1_travel_58 F sRo (Int32.ofInt rule) p3 k (Int32.ofInt lv) (Int32.ofInt s) (Int32.ofInt (i : Int)) (Int32.ofInt q) sDr sDw = if tl r rule i lv p < 0 then some (Int32.ofInt (-2), sI sDr 0 (Int32.ofInt (i : Int)), sDw) else k (Int32.ofInt (tl r rule i lv p)) (Int32.ofInt (ts r rule i lv p s)) (Int32.ofInt ((i : Int) + 1)) sDr sDw := by
  obtain ⟨q0, q1, q2, q3, q4, q5, q8, q9⟩ := RRb hR
  obtain ⟨t0, t1, t2, t3, t4, t5, t8, t9⟩ := ROKb h
  have lb := lg_c h hi
  have lp := A9_leg (F := F) hR h i hi
  have nb := tn_b (r := r) (rule := rule) (i := i) (p := p) h1 h2
  have mb := mul_b nb.1 (by omega) hp hp2
  unfold f_X1_travel_58 f_X1_travel_81 f_X1_travel_104 f_X1_travel_126
  by_cases c0 : p = 0
  · have e0 : tn' r rule i lv p = 0 := by unfold tn'; rw [if_pos c0]
    have el : tl r rule i lv p = lv + (0 - lg r i) := by unfold tl; rw [e0]
    have es : ts r rule i lv p s = s + 0 := by unfold ts; rw [if_pos e0]
    rw [el, es]
    by_cases c1 : lv + (0 - lg r i) < 0
    · simp (disch := omega) only [z_0, z_1, z_2, z_3, z_4, z_5, z_6, z_7, z_8, z_9, z_10, z_11, z_12, z_14, z_18, z_20, z_22, z_24, z_32, z_38, z_40, z_41, z_44, z_48, z_49, z_57, z_59, z_60, z_63, z_65, z_74, z_75, z_81, z_97, z_99, z_104, z_115, z_119, z_122, z_200, z_209, z_210, z_219, z_228, z_255, z_300, z_369, z_999, z_65537, z_268435456, z_1000000000, n_nat, n_add, n_sub, n_mul, n_neg, n_lt, n_le, n_eq, n_ix, n_gd, n_nz, lz_t, bd_some, tn, Int.reduceToNat, tn_1, if_pos, if_neg, if_true, if_false, sI_a, sI_b, sL_a, sL_b, sL_c, wA_a, wA_b, wA_c, wA_d, wB_a, wB_b, wB_c, wB_d, sA_w, sB_w, uN_s, uN_n, up_s, up_n, ul_s, ul_n, p_fst, p_snd, n_m2, lp]
    · simp (disch := omega) only [z_0, z_1, z_2, z_3, z_4, z_5, z_6, z_7, z_8, z_9, z_10, z_11, z_12, z_14, z_18, z_20, z_22, z_24, z_32, z_38, z_40, z_41, z_44, z_48, z_49, z_57, z_59, z_60, z_63, z_65, z_74, z_75, z_81, z_97, z_99, z_104, z_115, z_119, z_122, z_200, z_209, z_210, z_219, z_228, z_255, z_300, z_369, z_999, z_65537, z_268435456, z_1000000000, n_nat, n_add, n_sub, n_mul, n_neg, n_lt, n_le, n_eq, n_ix, n_gd, n_nz, lz_t, bd_some, tn, Int.reduceToNat, tn_1, if_pos, if_neg, if_true, if_false, sI_a, sI_b, sL_a, sL_b, sL_c, wA_a, wA_b, wA_c, wA_d, wB_a, wB_b, wB_c, wB_d, sA_w, sB_w, uN_s, uN_n, up_s, up_n, ul_s, ul_n, p_fst, p_snd, n_m2, lp]
  · have e0 : tn' r rule i lv p = bo r rule i lv p := by unfold tn'; rw [if_neg c0]
    have cb := C_bo (F := F) hF (sDr := sDr) hR h hr1 hr2 hi h1 h2 hp hp2
    have hqp : q = p := by omega
    subst hqp
    rw [← e0] at cb
    have el : tl r rule i lv q = lv + (tn' r rule i lv q - lg r i) := rfl
    by_cases c2 : tn' r rule i lv q = 0
    · have es : ts r rule i lv q s = s + 0 := by unfold ts; rw [if_pos c2]
      rw [el, es, c2]
      rw [c2] at cb
      by_cases c1 : lv + (0 - lg r i) < 0
      · simp (disch := omega) only [z_0, z_1, z_2, z_3, z_4, z_5, z_6, z_7, z_8, z_9, z_10, z_11, z_12, z_14, z_18, z_20, z_22, z_24, z_32, z_38, z_40, z_41, z_44, z_48, z_49, z_57, z_59, z_60, z_63, z_65, z_74, z_75, z_81, z_97, z_99, z_104, z_115, z_119, z_122, z_200, z_209, z_210, z_219, z_228, z_255, z_300, z_369, z_999, z_65537, z_268435456, z_1000000000, n_nat, n_add, n_sub, n_mul, n_neg, n_lt, n_le, n_eq, n_ix, n_gd, n_nz, lz_t, bd_some, tn, Int.reduceToNat, tn_1, if_pos, if_neg, if_true, if_false, sI_a, sI_b, sL_a, sL_b, sL_c, wA_a, wA_b, wA_c, wA_d, wB_a, wB_b, wB_c, wB_d, sA_w, sB_w, uN_s, uN_n, up_s, up_n, ul_s, ul_n, p_fst, p_snd, n_m2, lp, cb]
      · simp (disch := omega) only [z_0, z_1, z_2, z_3, z_4, z_5, z_6, z_7, z_8, z_9, z_10, z_11, z_12, z_14, z_18, z_20, z_22, z_24, z_32, z_38, z_40, z_41, z_44, z_48, z_49, z_57, z_59, z_60, z_63, z_65, z_74, z_75, z_81, z_97, z_99, z_104, z_115, z_119, z_122, z_200, z_209, z_210, z_219, z_228, z_255, z_300, z_369, z_999, z_65537, z_268435456, z_1000000000, n_nat, n_add, n_sub, n_mul, n_neg, n_lt, n_le, n_eq, n_ix, n_gd, n_nz, lz_t, bd_some, tn, Int.reduceToNat, tn_1, if_pos, if_neg, if_true, if_false, sI_a, sI_b, sL_a, sL_b, sL_c, wA_a, wA_b, wA_c, wA_d, wB_a, wB_b, wB_c, wB_d, sA_w, sB_w, uN_s, uN_n, up_s, up_n, ul_s, ul_n, p_fst, p_snd, n_m2, lp, cb]
    · have es : ts r rule i lv q s = s + (tn' r rule i lv q * q + rd r 2) := by unfold ts; rw [if_neg c2]
      rw [el, es]
      by_cases c1 : lv + (tn' r rule i lv q - lg r i) < 0
      · simp (disch := omega) only [z_0, z_1, z_2, z_3, z_4, z_5, z_6, z_7, z_8, z_9, z_10, z_11, z_12, z_14, z_18, z_20, z_22, z_24, z_32, z_38, z_40, z_41, z_44, z_48, z_49, z_57, z_59, z_60, z_63, z_65, z_74, z_75, z_81, z_97, z_99, z_104, z_115, z_119, z_122, z_200, z_209, z_210, z_219, z_228, z_255, z_300, z_369, z_999, z_65537, z_268435456, z_1000000000, n_nat, n_add, n_sub, n_mul, n_neg, n_lt, n_le, n_eq, n_ix, n_gd, n_nz, lz_t, bd_some, tn, Int.reduceToNat, tn_1, if_pos, if_neg, if_true, if_false, sI_a, sI_b, sL_a, sL_b, sL_c, wA_a, wA_b, wA_c, wA_d, wB_a, wB_b, wB_c, wB_d, sA_w, sB_w, uN_s, uN_n, up_s, up_n, ul_s, ul_n, p_fst, p_snd, n_m2, lp, cb, q2]
      · simp (disch := omega) only [z_0, z_1, z_2, z_3, z_4, z_5, z_6, z_7, z_8, z_9, z_10, z_11, z_12, z_14, z_18, z_20, z_22, z_24, z_32, z_38, z_40, z_41, z_44, z_48, z_49, z_57, z_59, z_60, z_63, z_65, z_74, z_75, z_81, z_97, z_99, z_104, z_115, z_119, z_122, z_200, z_209, z_210, z_219, z_228, z_255, z_300, z_369, z_999, z_65537, z_268435456, z_1000000000, n_nat, n_add, n_sub, n_mul, n_neg, n_lt, n_le, n_eq, n_ix, n_gd, n_nz, lz_t, bd_some, tn, Int.reduceToNat, tn_1, if_pos, if_neg, if_true, if_false, sI_a, sI_b, sL_a, sL_b, sL_c, wA_a, wA_b, wA_c, wA_d, wB_a, wB_b, wB_c, wB_d, sA_w, sB_w, uN_s, uN_n, up_s, up_n, ul_s, ul_n, p_fst, p_snd, n_m2, lp, cb, q2]
def tv (r : Nat → Int32) (rule : Int) (pf : Nat → Int) : Nat → Nat → Int → Int → Int × Int
  | 0, _, _, s => (s, -2)
  | d + 1, i, lv, s => if tl r rule i lv (pf i) < 0 then (-2, (i : Int)) else tv r rule pf d (i + 1) (tl r rule i lv (pf i)) (ts r rule i lv (pf i) s)
theorem tv_y {r : Nat → Int32} {rule : Int} {pf : Nat → Int} {d i : Nat} {lv s : Int} (h : tl r rule i lv (pf i) < 0) : tv r rule pf (d + 1) i lv s = (-2, (i : Int)) := by
  show (if _ then _ else _) = _
  rw [if_pos h]
theorem tv_n {r : Nat → Int32} {rule : Int} {pf : Nat → Int} {d i : Nat} {lv s : Int} (h : ¬ tl r rule i lv (pf i) < 0) : tv r rule pf (d + 1) i lv s = tv r rule pf d (i + 1) (tl r rule i lv (pf i)) (ts r rule i lv (pf i) s) := by
  show (if _ then _ else _) = _
  rw [if_neg h]
theorem tv_2 (r : Nat → Int32) (rule : Int) (pf : Nat → Int) : ∀ (d i : Nat) (lv s : Int), (tv r rule pf d i lv s).2 = -2 ∨ (0 ≤ (tv r rule pf d i lv s).2 ∧ (tv r rule pf d i lv s).2 < i + d)
  | 0, _, _, _ => Or.inl rfl
  | d + 1, i, lv, s => by
    by_cases c : tl r rule i lv (pf i) < 0
    · rw [tv_y c]
      right
      show 0 ≤ (i : Int) ∧ (i : Int) < _
      omega
    · rw [tv_n c]
      rcases tv_2 r rule pf d (i + 1) (tl r rule i lv (pf i)) (ts r rule i lv (pf i) s) with q | q
      · exact Or.inl q
      · right; omega
theorem tl_b {r : Nat → Int32} (h : ROK r) {rule : Int} {i : Nat} (hi : (i : Int) + 1 < rd r 8) {lv p : Int} (h1 : 0 ≤ lv) (h2 : lv ≤ rd r 0) : tl r rule i lv p ≤ rd r 0 := by
  have nb := tn_b (r := r) (rule := rule) (i := i) (p := p) h1 h2
  have lb := lg_c h hi
  unfold tl
  omega
theorem tro_go {F : Nat} (hF : 100 ≤ F) {sRo : MS} {r : Nat → Int32} (hR : RR sRo r) (h : ROK r) {rule : Int} (hr1 : 0 ≤ rule) (hr2 : rule ≤ 3) (sDw : MS) : ∀ (d i n : Nat) (lv s : Int) (sDr : MS), (i : Int) + 1 + d = rd r 8 → d < n → 0 ≤ lv → lv ≤ rd r 0 → 0 ≤ s → s ≤ 5000 * i → sDr.1 0 = Int32.ofInt (-2) →
    ∃ sDr', f_X1_travel_18 F sRo (Int32.ofInt rule) (Int32.ofInt 0) n (Int32.ofInt lv) (Int32.ofInt s) (Int32.ofInt (i : Int)) sDr sDw = some (Int32.ofInt (tv r rule (rp r) d i lv s).1, sDr', sDw) ∧ sDr'.1 0 = Int32.ofInt (tv r rule (rp r) d i lv s).2 := by
  obtain ⟨q0, q1, q2, q3, q4, q5, q8, q9⟩ := RRb hR
  obtain ⟨t0, t1, t2, t3, t4, t5, t8, t9⟩ := ROKb h
  intro d
  induction d with
  | zero =>
    intro i n lv s sDr hi hn h1 h2 hs hs2 h0
    cases n with
    | zero => omega
    | succ n =>
      refine ⟨sDr, ?_, h0⟩
      rw [f_X1_travel_18]
      simp (disch := omega) only [z_0, z_1, z_2, z_3, z_4, z_5, z_6, z_7, z_8, z_9, z_10, z_11, z_12, z_14, z_18, z_20, z_22, z_24, z_32, z_38, z_40, z_41, z_44, z_48, z_49, z_57, z_59, z_60, z_63, z_65, z_74, z_75, z_81, z_97, z_99, z_104, z_115, z_119, z_122, z_200, z_209, z_210, z_219, z_228, z_255, z_300, z_369, z_999, z_65537, z_268435456, z_1000000000, n_nat, n_add, n_sub, n_mul, n_neg, n_lt, n_le, n_eq, n_ix, n_gd, n_nz, lz_t, bd_some, tn, Int.reduceToNat, tn_1, if_pos, if_neg, if_true, if_false, sI_a, sI_b, sL_a, sL_b, sL_c, wA_a, wA_b, wA_c, wA_d, wB_a, wB_b, wB_c, wB_d, sA_w, sB_w, uN_s, uN_n, up_s, up_n, ul_s, ul_n, p_fst, p_snd, q8, tv]
  | succ d ih =>
    intro i n lv s sDr hi hn h1 h2 hs hs2 h0
    cases n with
    | zero => omega
    | succ n =>
      have pb := rp_b h (i := i) (by omega)
      have pp := A9_price (F := F) hR h i (by omega)
      have st := tr_58 (F := F) hF (sDr := sDr) (sDw := sDw) hR h hr1 hr2 (Int32.ofInt 0) (f_X1_travel_18 F sRo (Int32.ofInt rule) (Int32.ofInt 0) n) (i := i) (by omega) h1 h2 pb.1 pb.2 (Or.inl rfl) hs hs2
      have e : f_X1_travel_18 F sRo (Int32.ofInt rule) (Int32.ofInt 0) (n + 1) (Int32.ofInt lv) (Int32.ofInt s) (Int32.ofInt (i : Int)) sDr sDw = f_X1_travel_58 F sRo (Int32.ofInt rule) (Int32.ofInt 0) (f_X1_travel_18 F sRo (Int32.ofInt rule) (Int32.ofInt 0) n) (Int32.ofInt lv) (Int32.ofInt s) (Int32.ofInt (i : Int)) (Int32.ofInt (rp r i)) sDr sDw := by
        rw [f_X1_travel_18]
        simp (disch := omega) only [z_0, z_1, z_2, z_3, z_4, z_5, z_6, z_7, z_8, z_9, z_10, z_11, z_12, z_14, z_18, z_20, z_22, z_24, z_32, z_38, z_40, z_41, z_44, z_48, z_49, z_57, z_59, z_60, z_63, z_65, z_74, z_75, z_81, z_97, z_99, z_104, z_115, z_119, z_122, z_200, z_209, z_210, z_219, z_228, z_255, z_300, z_369, z_999, z_65537, z_268435456, z_1000000000, n_nat, n_add, n_sub, n_mul, n_neg, n_lt, n_le, n_eq, n_ix, n_gd, n_nz, lz_t, bd_some, tn, Int.reduceToNat, tn_1, if_pos, if_neg, if_true, if_false, sI_a, sI_b, sL_a, sL_b, sL_c, wA_a, wA_b, wA_c, wA_d, wB_a, wB_b, wB_c, wB_d, sA_w, sB_w, uN_s, uN_n, up_s, up_n, ul_s, ul_n, p_fst, p_snd, q8, pp]
      rw [e, st]
      by_cases c : tl r rule i lv (rp r i) < 0
      · rw [if_pos c, tv_y c]
        exact ⟨_, rfl, sI_s _ _ _⟩
      · rw [if_neg c, tv_n c]
        have b := ts_b h (rule := rule) h1 h2 pb.1 pb.2 hs hs2
        exact ih (i + 1) n _ _ sDr (by omega) (by omega) (by omega) (tl_b h (by omega) h1 h2) b.1 b.2 h0
/-! runs by draws -/
def wp (r : Nat → Int32) (i : Nat) : Nat := (r (200 + i)).toNatClampNeg
theorem wp_b {r : Nat → Int32} (h : ROK r) {i : Nat} (hi : (i : Int) < rd r 8) : wp r i < 9 ∧ r (200 + i) = Int32.ofInt (wp r i : Int) := by
  obtain ⟨t0, t1, t2, t3, t4, t5, t8, t9⟩ := ROKb h
  have := h.2.2.2.2.2.2.2.2.2.2.2.2.2.1 i hi
  have e := i_nat (r (200 + i)) this.1
  have t5' : (r 5).toInt = rd r 5 := rfl
  constructor
  · unfold wp; omega
  · unfold wp; rw [e]; exact n_out _
def zq (r : Nat → Int32) (z : Int) : Nat → Int
  | 0 => z
  | i + 1 => dpS r (wp r i) (zq r z i)
theorem zq_b {r : Nat → Int32} (h : ROK r) {z : Int} (hz : 0 ≤ z ∧ z < 65537) : ∀ i : Nat, (i : Int) < rd r 8 → 0 ≤ zq r z i ∧ zq r z i < 65537
  | 0, _ => hz
  | i + 1, hi => (dp_b h (wp_b h (i := i) (by omega)).1 (zq_b h hz i (by omega))).1
def pd (r : Nat → Int32) (z : Int) (i : Nat) : Int := dpP r (wp r i) (zq r z i)
theorem trd_go {F : Nat} (hF : 100 ≤ F) {sRo : MS} {r : Nat → Int32} (hR : RR sRo r) (h : ROK r) {rule : Int} (hr1 : 0 ≤ rule) (hr2 : rule ≤ 3) {z : Int} (hz : 0 ≤ z ∧ z < 65537) : ∀ (d i n : Nat) (lv s : Int) (sDr sDw : MS), (i : Int) + 1 + d = rd r 8 → d < n → 0 ≤ lv → lv ≤ rd r 0 → 0 ≤ s → s ≤ 5000 * i → sDw.1 0 = Int32.ofInt (zq r z i) →
    ∃ sDr' sDw', f_X1_travel_18 F sRo (Int32.ofInt rule) (Int32.ofInt 1) n (Int32.ofInt lv) (Int32.ofInt s) (Int32.ofInt (i : Int)) sDr sDw = some (Int32.ofInt (tv r rule (pd r z) d i lv s).1, sDr', sDw') := by
  obtain ⟨q0, q1, q2, q3, q4, q5, q8, q9⟩ := RRb hR
  obtain ⟨t0, t1, t2, t3, t4, t5, t8, t9⟩ := ROKb h
  intro d
  induction d with
  | zero =>
    intro i n lv s sDr sDw hi hn h1 h2 hs hs2 h0
    cases n with
    | zero => omega
    | succ n =>
      refine ⟨sDr, sDw, ?_⟩
      rw [f_X1_travel_18]
      simp (disch := omega) only [z_0, z_1, z_2, z_3, z_4, z_5, z_6, z_7, z_8, z_9, z_10, z_11, z_12, z_14, z_18, z_20, z_22, z_24, z_32, z_38, z_40, z_41, z_44, z_48, z_49, z_57, z_59, z_60, z_63, z_65, z_74, z_75, z_81, z_97, z_99, z_104, z_115, z_119, z_122, z_200, z_209, z_210, z_219, z_228, z_255, z_300, z_369, z_999, z_65537, z_268435456, z_1000000000, n_nat, n_add, n_sub, n_mul, n_neg, n_lt, n_le, n_eq, n_ix, n_gd, n_nz, lz_t, bd_some, tn, Int.reduceToNat, tn_1, if_pos, if_neg, if_true, if_false, sI_a, sI_b, sL_a, sL_b, sL_c, wA_a, wA_b, wA_c, wA_d, wB_a, wB_b, wB_c, wB_d, sA_w, sB_w, uN_s, uN_n, up_s, up_n, ul_s, ul_n, p_fst, p_snd, q8, tv]
  | succ d ih =>
    intro i n lv s sDr sDw hi hn h1 h2 hs hs2 h0
    cases n with
    | zero => omega
    | succ n =>
      obtain ⟨w1, w2⟩ := wp_b h (i := i) (by omega)
      have zb := zq_b h hz i (by omega)
      have wR := hR.2.2.2.2.1 i (by show (i : Int) < rd r 8; omega)
      rw [w2] at wR
      obtain ⟨s2, e1, e2⟩ := seen_e (F := F) hR h w1 zb h0
      have pb := (dp_b h w1 zb).2
      have hq : (if dpP r (wp r i) (zq r z i) = 0 then -2 else dpP r (wp r i) (zq r z i)) = pd r z i ∨ ((if dpP r (wp r i) (zq r z i) = 0 then -2 else dpP r (wp r i) (zq r z i)) = -2 ∧ pd r z i = 0) := by
        by_cases c : dpP r (wp r i) (zq r z i) = 0
        · rw [if_pos c]; exact Or.inr ⟨rfl, c⟩
        · rw [if_neg c]; exact Or.inl rfl
      have st := tr_58 (F := F) hF (sDr := sDr) (sDw := s2) hR h hr1 hr2 (Int32.ofInt 1) (f_X1_travel_18 F sRo (Int32.ofInt rule) (Int32.ofInt 1) n) (i := i) (p := pd r z i) (by omega) h1 h2 pb.1 pb.2 hq hs hs2
      have e : f_X1_travel_18 F sRo (Int32.ofInt rule) (Int32.ofInt 1) (n + 1) (Int32.ofInt lv) (Int32.ofInt s) (Int32.ofInt (i : Int)) sDr sDw = f_X1_travel_58 F sRo (Int32.ofInt rule) (Int32.ofInt 1) (f_X1_travel_18 F sRo (Int32.ofInt rule) (Int32.ofInt 1) n) (Int32.ofInt lv) (Int32.ofInt s) (Int32.ofInt (i : Int)) (Int32.ofInt (if dpP r (wp r i) (zq r z i) = 0 then -2 else dpP r (wp r i) (zq r z i))) sDr s2 := by
        rw [f_X1_travel_18]
        simp (disch := omega) only [z_0, z_1, z_2, z_3, z_4, z_5, z_6, z_7, z_8, z_9, z_10, z_11, z_12, z_14, z_18, z_20, z_22, z_24, z_32, z_38, z_40, z_41, z_44, z_48, z_49, z_57, z_59, z_60, z_63, z_65, z_74, z_75, z_81, z_97, z_99, z_104, z_115, z_119, z_122, z_200, z_209, z_210, z_219, z_228, z_255, z_300, z_369, z_999, z_65537, z_268435456, z_1000000000, n_nat, n_add, n_sub, n_mul, n_neg, n_lt, n_le, n_eq, n_ix, n_gd, n_nz, lz_t, bd_some, tn, Int.reduceToNat, tn_1, if_pos, if_neg, if_true, if_false, sI_a, sI_b, sL_a, sL_b, sL_c, wA_a, wA_b, wA_c, wA_d, wB_a, wB_b, wB_c, wB_d, sA_w, sB_w, uN_s, uN_n, up_s, up_n, ul_s, ul_n, p_fst, p_snd, q8, wR, e1]
      rw [e, st]
      by_cases c : tl r rule i lv (pd r z i) < 0
      · rw [if_pos c, tv_y c]
        exact ⟨_, _, rfl⟩
      · rw [if_neg c, tv_n c]
        have b := ts_b h (rule := rule) h1 h2 pb.1 pb.2 hs hs2
        exact ih (i + 1) n _ _ sDr s2 (by omega) (by omega) (by omega) (tl_b h (by omega) h1 h2) b.1 b.2 e2
/-! the reference's journeys -/
theorem pb_53 {F : Nat} {s : MS} {r : Nat → Int32} (hs' : s.2.2.1 15 = r) (h : ROK r) {rule : Int} (p1 : Int32) (k : Int32 → Int32 → Int32 → MS → Option (Int32 × MS)) {i : Nat} (hi : (i : Int) + 1 < rd r 8) {lv sm : Int} (h1 : 0 ≤ lv) (h2 : lv ≤ rd r 0) (hs : 0 ≤ sm) (hs2 : sm ≤ 5000 * i) :
    f_X11_paidBy_53 F p1 k (Int32.ofInt lv) (Int32.ofInt sm) (Int32.ofInt (i : Int)) (Int32.ofInt (tn' r rule i lv (rp r i))) s = if tl r rule i lv (rp r i) < 0 then some (Int32.ofInt (-2), sI s 26 (Int32.ofInt (i : Int))) else k (Int32.ofInt (tl r rule i lv (rp r i))) (Int32.ofInt (ts r rule i lv (rp r i) sm)) (Int32.ofInt ((i : Int) + 1)) s := by
  obtain ⟨t0, t1, t2, t3, t4, t5, t8, t9⟩ := ROKb h
  have lb := lg_c h hi
  have pb := rp_b h (i := i) (by omega)
  have lp := A11_leg (F := F) hs' h i hi
  have pp := A11_price (F := F) hs' h i (by omega)
  have r2 : s.2.2.1 15 2 = Int32.ofInt (rd r 2) := by rw [hs']; exact rd_e r 2
  have nb := tn_b (r := r) (rule := rule) (i := i) (p := rp r i) h1 h2
  have mb := mul_b nb.1 (by omega) pb.1 pb.2
  have el : tl r rule i lv (rp r i) = lv + (tn' r rule i lv (rp r i) - lg r i) := rfl
  unfold f_X11_paidBy_53 f_X11_paidBy_81 f_X11_paidBy_102
  by_cases c2 : tn' r rule i lv (rp r i) = 0
  · have es : ts r rule i lv (rp r i) sm = sm + 0 := by unfold ts; rw [if_pos c2]
    rw [el, es, c2]
    by_cases c1 : lv + (0 - lg r i) < 0
    · simp (disch := omega) only [z_0, z_1, z_2, z_3, z_4, z_5, z_6, z_7, z_8, z_9, z_10, z_11, z_12, z_14, z_18, z_20, z_22, z_24, z_32, z_38, z_40, z_41, z_44, z_48, z_49, z_57, z_59, z_60, z_63, z_65, z_74, z_75, z_81, z_97, z_99, z_104, z_115, z_119, z_122, z_200, z_209, z_210, z_219, z_228, z_255, z_300, z_369, z_999, z_65537, z_268435456, z_1000000000, n_nat, n_add, n_sub, n_mul, n_neg, n_lt, n_le, n_eq, n_ix, n_gd, n_nz, lz_t, bd_some, tn, Int.reduceToNat, tn_1, if_pos, if_neg, if_true, if_false, n_m2, lp]
    · simp (disch := omega) only [z_0, z_1, z_2, z_3, z_4, z_5, z_6, z_7, z_8, z_9, z_10, z_11, z_12, z_14, z_18, z_20, z_22, z_24, z_32, z_38, z_40, z_41, z_44, z_48, z_49, z_57, z_59, z_60, z_63, z_65, z_74, z_75, z_81, z_97, z_99, z_104, z_115, z_119, z_122, z_200, z_209, z_210, z_219, z_228, z_255, z_300, z_369, z_999, z_65537, z_268435456, z_1000000000, n_nat, n_add, n_sub, n_mul, n_neg, n_lt, n_le, n_eq, n_ix, n_gd, n_nz, lz_t, bd_some, tn, Int.reduceToNat, tn_1, if_pos, if_neg, if_true, if_false, n_m2, lp]
  · have es : ts r rule i lv (rp r i) sm = sm + (tn' r rule i lv (rp r i) * rp r i + rd r 2) := by unfold ts; rw [if_neg c2]
    rw [el, es]
    by_cases c1 : lv + (tn' r rule i lv (rp r i) - lg r i) < 0
    · simp (disch := omega) only [z_0, z_1, z_2, z_3, z_4, z_5, z_6, z_7, z_8, z_9, z_10, z_11, z_12, z_14, z_18, z_20, z_22, z_24, z_32, z_38, z_40, z_41, z_44, z_48, z_49, z_57, z_59, z_60, z_63, z_65, z_74, z_75, z_81, z_97, z_99, z_104, z_115, z_119, z_122, z_200, z_209, z_210, z_219, z_228, z_255, z_300, z_369, z_999, z_65537, z_268435456, z_1000000000, n_nat, n_add, n_sub, n_mul, n_neg, n_lt, n_le, n_eq, n_ix, n_gd, n_nz, lz_t, bd_some, tn, Int.reduceToNat, tn_1, if_pos, if_neg, if_true, if_false, n_m2, lp, pp, r2]
    · simp (disch := omega) only [z_0, z_1, z_2, z_3, z_4, z_5, z_6, z_7, z_8, z_9, z_10, z_11, z_12, z_14, z_18, z_20, z_22, z_24, z_32, z_38, z_40, z_41, z_44, z_48, z_49, z_57, z_59, z_60, z_63, z_65, z_74, z_75, z_81, z_97, z_99, z_104, z_115, z_119, z_122, z_200, z_209, z_210, z_219, z_228, z_255, z_300, z_369, z_999, z_65537, z_268435456, z_1000000000, n_nat, n_add, n_sub, n_mul, n_neg, n_lt, n_le, n_eq, n_ix, n_gd, n_nz, lz_t, bd_some, tn, Int.reduceToNat, tn_1, if_pos, if_neg, if_true, if_false, n_m2, lp, pp, r2]
theorem paid_go {F : Nat} (hF : 100 ≤ F) {r : Nat → Int32} (h : ROK r) {rule : Int} (hr1 : 0 ≤ rule) (hr2 : rule ≤ 3) : ∀ (d i n : Nat) (lv sm : Int) (s : MS), (i : Int) + 1 + d = rd r 8 → d < n → 0 ≤ lv → lv ≤ rd r 0 → 0 ≤ sm → sm ≤ 5000 * i → s.2.2.1 15 = r → s.1 26 = Int32.ofInt (-1) →
    ∃ s', f_X11_paidBy_17 F (Int32.ofInt rule) n (Int32.ofInt lv) (Int32.ofInt sm) (Int32.ofInt (i : Int)) s = some (Int32.ofInt (tv r rule (rp r) d i lv sm).1, s') ∧ s'.1 26 = Int32.ofInt (if (tv r rule (rp r) d i lv sm).2 = -2 then -1 else (tv r rule (rp r) d i lv sm).2) ∧ F1 s s' 26 := by
  obtain ⟨t0, t1, t2, t3, t4, t5, t8, t9⟩ := ROKb h
  intro d
  induction d with
  | zero =>
    intro i n lv sm s hi hn h1 h2 hs hs2 hr h0
    cases n with
    | zero => omega
    | succ n =>
      refine ⟨s, ?_, h0, rfl, fun _ _ => rfl⟩
      rw [f_X11_paidBy_17]
      simp (disch := omega) only [z_0, z_1, z_2, z_3, z_4, z_5, z_6, z_7, z_8, z_9, z_10, z_11, z_12, z_14, z_18, z_20, z_22, z_24, z_32, z_38, z_40, z_41, z_44, z_48, z_49, z_57, z_59, z_60, z_63, z_65, z_74, z_75, z_81, z_97, z_99, z_104, z_115, z_119, z_122, z_200, z_209, z_210, z_219, z_228, z_255, z_300, z_369, z_999, z_65537, z_268435456, z_1000000000, n_nat, n_add, n_sub, n_mul, n_neg, n_lt, n_le, n_eq, n_ix, n_gd, n_nz, lz_t, bd_some, tn, Int.reduceToNat, tn_1, if_pos, if_neg, if_true, if_false, A11_last hr h, tv]
  | succ d ih =>
    intro i n lv sm s hi hn h1 h2 hs hs2 hr h0
    cases n with
    | zero => omega
    | succ n =>
      have pb := rp_b h (i := i) (by omega)
      have pp := A11_price (F := F) hr h i (by omega)
      have rb := R_bo (F := F) hF hr h hr1 hr2 (i := i) (by omega) h1 h2 pb.1 pb.2
      have st := pb_53 (F := F) hr h (rule := rule) (Int32.ofInt rule) (f_X11_paidBy_17 F (Int32.ofInt rule) n) (i := i) (by omega) h1 h2 hs hs2
      have e : f_X11_paidBy_17 F (Int32.ofInt rule) (n + 1) (Int32.ofInt lv) (Int32.ofInt sm) (Int32.ofInt (i : Int)) s = f_X11_paidBy_53 F (Int32.ofInt rule) (f_X11_paidBy_17 F (Int32.ofInt rule) n) (Int32.ofInt lv) (Int32.ofInt sm) (Int32.ofInt (i : Int)) (Int32.ofInt (tn' r rule i lv (rp r i))) s := by
        rw [f_X11_paidBy_17]
        by_cases c0 : rp r i = 0
        · have e0 : tn' r rule i lv (rp r i) = 0 := by unfold tn'; rw [if_pos c0]
          rw [e0]
          simp (disch := omega) only [z_0, z_1, z_2, z_3, z_4, z_5, z_6, z_7, z_8, z_9, z_10, z_11, z_12, z_14, z_18, z_20, z_22, z_24, z_32, z_38, z_40, z_41, z_44, z_48, z_49, z_57, z_59, z_60, z_63, z_65, z_74, z_75, z_81, z_97, z_99, z_104, z_115, z_119, z_122, z_200, z_209, z_210, z_219, z_228, z_255, z_300, z_369, z_999, z_65537, z_268435456, z_1000000000, n_nat, n_add, n_sub, n_mul, n_neg, n_lt, n_le, n_eq, n_ix, n_gd, n_nz, lz_t, bd_some, tn, Int.reduceToNat, tn_1, if_pos, if_neg, if_true, if_false, A11_last hr h, pp]
        · have e0 : tn' r rule i lv (rp r i) = bo r rule i lv (rp r i) := by unfold tn'; rw [if_neg c0]
          rw [e0]
          simp (disch := omega) only [z_0, z_1, z_2, z_3, z_4, z_5, z_6, z_7, z_8, z_9, z_10, z_11, z_12, z_14, z_18, z_20, z_22, z_24, z_32, z_38, z_40, z_41, z_44, z_48, z_49, z_57, z_59, z_60, z_63, z_65, z_74, z_75, z_81, z_97, z_99, z_104, z_115, z_119, z_122, z_200, z_209, z_210, z_219, z_228, z_255, z_300, z_369, z_999, z_65537, z_268435456, z_1000000000, n_nat, n_add, n_sub, n_mul, n_neg, n_lt, n_le, n_eq, n_ix, n_gd, n_nz, lz_t, bd_some, tn, Int.reduceToNat, tn_1, if_pos, if_neg, if_true, if_false, A11_last hr h, pp, rb]
      rw [e, st]
      by_cases c : tl r rule i lv (rp r i) < 0
      · rw [if_pos c, tv_y c]
        refine ⟨_, rfl, ?_, rfl, fun j hj => sI_n _ _ _ _ hj⟩
        rw [sI_s, if_neg (by omega)]
      · rw [if_neg c, tv_n c]
        have b := ts_b h (rule := rule) h1 h2 pb.1 pb.2 hs hs2
        exact ih (i + 1) n _ _ s (by omega) (by omega) (by omega) (tl_b h (by omega) h1 h2) b.1 b.2 hr h0
theorem rb_58 {F : Nat} {s : MS} {r : Nat → Int32} (hs' : s.2.2.1 15 = r) (h : ROK r) {rule : Int} (p1 p2 : Int32) (k : Int32 → Int32 → Int32 → MS → Option (Int32 × MS)) {i : Nat} (hi : (i : Int) + 1 < rd r 8) {lv sm p : Int} (hp : 0 ≤ p) (hp2 : p ≤ 99) (h1 : 0 ≤ lv) (h2 : lv ≤ rd r 0) (hs : 0 ≤ sm) (hs2 : sm ≤ 5000 * i) :
    f_X11_runBy_58 F p1 p2 k (Int32.ofInt lv) (Int32.ofInt sm) (Int32.ofInt (i : Int)) (Int32.ofInt p) (Int32.ofInt (tn' r rule i lv p)) s = if tl r rule i lv p < 0 then some (Int32.ofInt (-2), s) else k (Int32.ofInt (tl r rule i lv p)) (Int32.ofInt (ts r rule i lv p sm)) (Int32.ofInt ((i : Int) + 1)) s := by
  obtain ⟨t0, t1, t2, t3, t4, t5, t8, t9⟩ := ROKb h
  have lb := lg_c h hi
  have lp := A11_leg (F := F) hs' h i hi
  have r2 : s.2.2.1 15 2 = Int32.ofInt (rd r 2) := by rw [hs']; exact rd_e r 2
  have nb := tn_b (r := r) (rule := rule) (i := i) (p := p) h1 h2
  have mb := mul_b nb.1 (by omega) hp hp2
  have el : tl r rule i lv p = lv + (tn' r rule i lv p - lg r i) := rfl
  unfold f_X11_runBy_58 f_X11_runBy_83
  by_cases c2 : tn' r rule i lv p = 0
  · have es : ts r rule i lv p sm = sm + 0 := by unfold ts; rw [if_pos c2]
    rw [el, es, c2]
    by_cases c1 : lv + (0 - lg r i) < 0
    · simp (disch := omega) only [z_0, z_1, z_2, z_3, z_4, z_5, z_6, z_7, z_8, z_9, z_10, z_11, z_12, z_14, z_18, z_20, z_22, z_24, z_32, z_38, z_40, z_41, z_44, z_48, z_49, z_57, z_59, z_60, z_63, z_65, z_74, z_75, z_81, z_97, z_99, z_104, z_115, z_119, z_122, z_200, z_209, z_210, z_219, z_228, z_255, z_300, z_369, z_999, z_65537, z_268435456, z_1000000000, n_nat, n_add, n_sub, n_mul, n_neg, n_lt, n_le, n_eq, n_ix, n_gd, n_nz, lz_t, bd_some, tn, Int.reduceToNat, tn_1, if_pos, if_neg, if_true, if_false, n_m2, lp]
    · simp (disch := omega) only [z_0, z_1, z_2, z_3, z_4, z_5, z_6, z_7, z_8, z_9, z_10, z_11, z_12, z_14, z_18, z_20, z_22, z_24, z_32, z_38, z_40, z_41, z_44, z_48, z_49, z_57, z_59, z_60, z_63, z_65, z_74, z_75, z_81, z_97, z_99, z_104, z_115, z_119, z_122, z_200, z_209, z_210, z_219, z_228, z_255, z_300, z_369, z_999, z_65537, z_268435456, z_1000000000, n_nat, n_add, n_sub, n_mul, n_neg, n_lt, n_le, n_eq, n_ix, n_gd, n_nz, lz_t, bd_some, tn, Int.reduceToNat, tn_1, if_pos, if_neg, if_true, if_false, n_m2, lp]
  · have es : ts r rule i lv p sm = sm + (tn' r rule i lv p * p + rd r 2) := by unfold ts; rw [if_neg c2]
    rw [el, es]
    by_cases c1 : lv + (tn' r rule i lv p - lg r i) < 0
    · simp (disch := omega) only [z_0, z_1, z_2, z_3, z_4, z_5, z_6, z_7, z_8, z_9, z_10, z_11, z_12, z_14, z_18, z_20, z_22, z_24, z_32, z_38, z_40, z_41, z_44, z_48, z_49, z_57, z_59, z_60, z_63, z_65, z_74, z_75, z_81, z_97, z_99, z_104, z_115, z_119, z_122, z_200, z_209, z_210, z_219, z_228, z_255, z_300, z_369, z_999, z_65537, z_268435456, z_1000000000, n_nat, n_add, n_sub, n_mul, n_neg, n_lt, n_le, n_eq, n_ix, n_gd, n_nz, lz_t, bd_some, tn, Int.reduceToNat, tn_1, if_pos, if_neg, if_true, if_false, n_m2, lp, r2]
    · simp (disch := omega) only [z_0, z_1, z_2, z_3, z_4, z_5, z_6, z_7, z_8, z_9, z_10, z_11, z_12, z_14, z_18, z_20, z_22, z_24, z_32, z_38, z_40, z_41, z_44, z_48, z_49, z_57, z_59, z_60, z_63, z_65, z_74, z_75, z_81, z_97, z_99, z_104, z_115, z_119, z_122, z_200, z_209, z_210, z_219, z_228, z_255, z_300, z_369, z_999, z_65537, z_268435456, z_1000000000, n_nat, n_add, n_sub, n_mul, n_neg, n_lt, n_le, n_eq, n_ix, n_gd, n_nz, lz_t, bd_some, tn, Int.reduceToNat, tn_1, if_pos, if_neg, if_true, if_false, n_m2, lp, r2]
theorem A11_place {F : Nat} {s : MS} {r : Nat → Int32} (hs : s.2.2.1 15 = r) (h : ROK r) {i : Nat} (hi : (i : Int) < rd r 8) : f_X11_placeOf F s (Int32.ofInt (i : Int)) = some (Int32.ofInt (wp r i : Int)) := by
  obtain ⟨t0, t1, t2, t3, t4, t5, t8, t9⟩ := ROKb h
  subst hs
  have := X11_placeOf (F := F) (s := s) (i := i) (by omega)
  rw [(wp_b h hi).2] at this
  exact this
theorem run_go {F : Nat} (hF : 100 ≤ F) {r : Nat → Int32} (h : ROK r) {rule : Int} (hr1 : 0 ≤ rule) (hr2 : rule ≤ 3) (p2 : Int32) {z : Int} (hz : 0 ≤ z ∧ z < 65537) : ∀ (d i n : Nat) (lv sm : Int) (s : MS), (i : Int) + 1 + d = rd r 8 → d < n → 0 ≤ lv → lv ≤ rd r 0 → 0 ≤ sm → sm ≤ 5000 * i → s.2.2.1 15 = r → s.1 40 = Int32.ofInt (zq r z i) →
    ∃ s', f_X11_runBy_18 F (Int32.ofInt rule) p2 n (Int32.ofInt lv) (Int32.ofInt sm) (Int32.ofInt (i : Int)) s = some (Int32.ofInt (tv r rule (pd r z) d i lv sm).1, s') ∧ F1 s s' 40 := by
  obtain ⟨t0, t1, t2, t3, t4, t5, t8, t9⟩ := ROKb h
  intro d
  induction d with
  | zero =>
    intro i n lv sm s hi hn h1 h2 hs hs2 hr h0
    cases n with
    | zero => omega
    | succ n =>
      refine ⟨s, ?_, rfl, fun _ _ => rfl⟩
      rw [f_X11_runBy_18]
      simp (disch := omega) only [z_0, z_1, z_2, z_3, z_4, z_5, z_6, z_7, z_8, z_9, z_10, z_11, z_12, z_14, z_18, z_20, z_22, z_24, z_32, z_38, z_40, z_41, z_44, z_48, z_49, z_57, z_59, z_60, z_63, z_65, z_74, z_75, z_81, z_97, z_99, z_104, z_115, z_119, z_122, z_200, z_209, z_210, z_219, z_228, z_255, z_300, z_369, z_999, z_65537, z_268435456, z_1000000000, n_nat, n_add, n_sub, n_mul, n_neg, n_lt, n_le, n_eq, n_ix, n_gd, n_nz, lz_t, bd_some, tn, Int.reduceToNat, tn_1, if_pos, if_neg, if_true, if_false, A11_last hr h, tv]
  | succ d ih =>
    intro i n lv sm s hi hn h1 h2 hs hs2 hr h0
    cases n with
    | zero => omega
    | succ n =>
      obtain ⟨w1, w2⟩ := wp_b h (i := i) (by omega)
      have zb := zq_b h hz i (by omega)
      have pb := (dp_b h w1 zb).2
      have pl := A11_place (F := F) hr h (i := i) (by omega)
      obtain ⟨s2, e1, e2, e3⟩ := draw_e (F := F) hr h w1 zb h0
      have hr2' : s2.2.2.1 15 = r := by rw [e3.1]; exact hr
      have rb := R_bo (F := F) hF hr2' h hr1 hr2 (i := i) (by omega) h1 h2 pb.1 pb.2
      have st := rb_58 (F := F) hr2' h (rule := rule) (Int32.ofInt rule) p2 (f_X11_runBy_18 F (Int32.ofInt rule) p2 n) (i := i) (by omega) pb.1 pb.2 h1 h2 hs hs2
      have e : f_X11_runBy_18 F (Int32.ofInt rule) p2 (n + 1) (Int32.ofInt lv) (Int32.ofInt sm) (Int32.ofInt (i : Int)) s = f_X11_runBy_58 F (Int32.ofInt rule) p2 (f_X11_runBy_18 F (Int32.ofInt rule) p2 n) (Int32.ofInt lv) (Int32.ofInt sm) (Int32.ofInt (i : Int)) (Int32.ofInt (dpP r (wp r i) (zq r z i))) (Int32.ofInt (tn' r rule i lv (dpP r (wp r i) (zq r z i)))) s2 := by
        rw [f_X11_runBy_18]
        by_cases c0 : dpP r (wp r i) (zq r z i) = 0
        · have e0 : tn' r rule i lv (dpP r (wp r i) (zq r z i)) = 0 := by unfold tn'; rw [if_pos c0]
          rw [e0]
          simp (disch := omega) only [z_0, z_1, z_2, z_3, z_4, z_5, z_6, z_7, z_8, z_9, z_10, z_11, z_12, z_14, z_18, z_20, z_22, z_24, z_32, z_38, z_40, z_41, z_44, z_48, z_49, z_57, z_59, z_60, z_63, z_65, z_74, z_75, z_81, z_97, z_99, z_104, z_115, z_119, z_122, z_200, z_209, z_210, z_219, z_228, z_255, z_300, z_369, z_999, z_65537, z_268435456, z_1000000000, n_nat, n_add, n_sub, n_mul, n_neg, n_lt, n_le, n_eq, n_ix, n_gd, n_nz, lz_t, bd_some, tn, Int.reduceToNat, tn_1, if_pos, if_neg, if_true, if_false, p_fst, p_snd, A11_last hr h, pl, e1]
        · have e0 : tn' r rule i lv (dpP r (wp r i) (zq r z i)) = bo r rule i lv (dpP r (wp r i) (zq r z i)) := by unfold tn'; rw [if_neg c0]
          rw [e0]
          simp (disch := omega) only [z_0, z_1, z_2, z_3, z_4, z_5, z_6, z_7, z_8, z_9, z_10, z_11, z_12, z_14, z_18, z_20, z_22, z_24, z_32, z_38, z_40, z_41, z_44, z_48, z_49, z_57, z_59, z_60, z_63, z_65, z_74, z_75, z_81, z_97, z_99, z_104, z_115, z_119, z_122, z_200, z_209, z_210, z_219, z_228, z_255, z_300, z_369, z_999, z_65537, z_268435456, z_1000000000, n_nat, n_add, n_sub, n_mul, n_neg, n_lt, n_le, n_eq, n_ix, n_gd, n_nz, lz_t, bd_some, tn, Int.reduceToNat, tn_1, if_pos, if_neg, if_true, if_false, p_fst, p_snd, A11_last hr h, pl, e1, rb]
      rw [e, st]
      by_cases c : tl r rule i lv (dpP r (wp r i) (zq r z i)) < 0
      · rw [if_pos c, tv_y (pf := pd r z) c]
        exact ⟨_, rfl, e3⟩
      · rw [if_neg c, tv_n (pf := pd r z) c]
        have b := ts_b h (rule := rule) h1 h2 pb.1 pb.2 hs hs2
        obtain ⟨s3, g1, g2⟩ := ih (i + 1) n (tl r rule i lv (pd r z i)) (ts r rule i lv (pd r z i) sm) s2 (by omega) (by omega) (Int.not_lt.mp c) (tl_b h (by omega) h1 h2) b.1 b.2 hr2' e2
        exact ⟨s3, g1, g2.1.trans e3.1, fun j hj => (g2.2 j hj).trans (e3.2 j hj)⟩
