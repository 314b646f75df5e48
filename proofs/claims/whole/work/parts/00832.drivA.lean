/-! drivers by rules: what they buy -/
theorem n_div (a b : Int) (h0 : 0 ≤ a) (h2 : a < 2147483648) (h3 : 0 < b) (h4 : b < 2147483648) : Int32.ofInt a / Int32.ofInt b = Int32.ofInt (a / b) := by
  have ha := oi (z := a) ⟨by omega, h2⟩
  have hb := oi (z := b) ⟨by omega, h4⟩
  have hq : 0 ≤ a / b := Int.ediv_nonneg h0 (by omega)
  have hq2 : a / b ≤ a := Int.ediv_le_self b h0
  rw [i_eq, Int32.toInt_div_of_ne_right _ _ (by
    intro e
    rw [i_eq, hb] at e
    have : (-1 : Int32).toInt = -1 := rfl
    omega), ha, hb, Int.tdiv_eq_ediv_of_nonneg h0, oi ⟨by omega, by omega⟩]
theorem upB {r : Nat → Int32} (h : ROK r) {i : Nat} (hi : (i : Int) < rd r 8) : 0 ≤ up r i ∧ up r i ≤ 360 := by
  have := up_b h i hi
  obtain ⟨t0, t1, t2, t3, t4, t5, t8, t9⟩ := ROKb h
  omega
theorem A9_up {s : MS} {r : Nat → Int32} (hR : RR s r) {i : Nat} (hi : (i : Int) < rd r 8) : s.2.2.1 16 i = Int32.ofInt (up r i) := oi_e (RR_up hR i hi)
theorem A11_legs {F : Nat} (hF : 100 ≤ F) {s : MS} {r : Nat → Int32} (hs : s.2.2.1 15 = r) (h : ROK r) {i j : Nat} (hij : i ≤ j) (hj : (j : Int) < rd r 8) : f_X11_legsOf F s (Int32.ofInt (i : Int)) (Int32.ofInt (j : Int)) = some (Int32.ofInt (up r j - up r i)) := by
  subst hs
  exact X11_legsOf hF h hij hj
def nj (r : Nat → Int32) (cheap : Bool) (price : Int) : Nat → Nat → Nat
  | 0, k => k
  | d + 1, k => if 0 < rp r k ∧ (cheap = true → rp r k < price) then k else nj r cheap price d (k + 1)
theorem nj_b (r : Nat → Int32) (cheap : Bool) (price : Int) : ∀ d k, k ≤ nj r cheap price d k ∧ nj r cheap price d k ≤ k + d
  | 0, k => ⟨Nat.le_refl _, Nat.le_refl _⟩
  | d + 1, k => by
    have := nj_b r cheap price d (k + 1)
    unfold nj
    split <;> omega
theorem nj_y {r : Nat → Int32} {cheap : Bool} {price : Int} {d k : Nat} (h : 0 < rp r k ∧ (cheap = true → rp r k < price)) : nj r cheap price (d + 1) k = k := by
  show (if _ then _ else _) = _
  rw [if_pos h]
theorem nj_n {r : Nat → Int32} {cheap : Bool} {price : Int} {d k : Nat} (h : ¬ (0 < rp r k ∧ (cheap = true → rp r k < price))) : nj r cheap price (d + 1) k = nj r cheap price d (k + 1) := by
  show (if _ then _ else _) = _
  rw [if_neg h]
def boT (r : Nat → Int32) (i j : Nat) (has : Int) : Int := if up r j - up r i ≤ has then 0 else if up r j - up r i ≤ rd r 0 then up r j - up r i - has else rd r 0 - has
def bo (r : Nat → Int32) (rule : Int) (i : Nat) (has price : Int) : Int :=
  if rule = 0 then rd r 0 - has else if rule = 1 then boT r i (nj r true price ((rd r 8).toNat - 2 - i) (i + 1)) has else if rule = 2 then boT r i (nj r false price ((rd r 8).toNat - 2 - i) (i + 1)) has else if rd r 0 ≤ 2 * has then 0 else rd r 0 - has
theorem boT_b {r : Nat → Int32} {i j : Nat} {has : Int} (h1 : 0 ≤ has) (h2 : has ≤ rd r 0) : 0 ≤ boT r i j has ∧ boT r i j has ≤ rd r 0 - has := by
  unfold boT
  split
  · omega
  · split <;> omega
theorem bo_b {r : Nat → Int32} {rule : Int} {i : Nat} {has price : Int} (h1 : 0 ≤ has) (h2 : has ≤ rd r 0) : 0 ≤ bo r rule i has price ∧ bo r rule i has price ≤ rd r 0 - has := by
  have b := fun j => boT_b (r := r) (i := i) (j := j) h1 h2
  unfold bo
  split
  · omega
  · split
    · exact b _
    · split
      · exact b _
      · split <;> omega
theorem cheaper_go {F : Nat} {sRo : MS} {r : Nat → Int32} (hR : RR sRo r) (h : ROK r) (p1 : Int32) (price : Int) (hp : 0 ≤ price) (hp2 : price ≤ 99) : ∀ (d k n : Nat), (k : Int) + 1 + d = rd r 8 → d < n → f_X1_nextCheaper_4 F sRo p1 (Int32.ofInt price) n (Int32.ofInt (k : Int)) = some (Int32.ofInt ((nj r true price d k : Nat) : Int)) := by
  obtain ⟨q0, q1, q2, q3, q4, q5, q8, q9⟩ := RRb hR
  obtain ⟨t0, t1, t2, t3, t4, t5, t8, t9⟩ := ROKb h
  intro d
  induction d with
  | zero =>
    intro k n hk hn
    cases n with
    | zero => omega
    | succ n =>
      rw [f_X1_nextCheaper_4]
      have e : rd r 8 - 1 = k := by omega
      simp (disch := omega) only [z_0, z_1, z_2, z_3, z_4, z_5, z_6, z_7, z_8, z_9, z_10, z_11, z_12, z_14, z_18, z_20, z_22, z_24, z_32, z_38, z_40, z_41, z_44, z_48, z_49, z_57, z_59, z_60, z_63, z_65, z_74, z_75, z_81, z_97, z_99, z_104, z_115, z_119, z_122, z_200, z_209, z_210, z_219, z_228, z_255, z_300, z_369, z_999, z_65537, z_268435456, z_1000000000, n_nat, n_add, n_sub, n_mul, n_neg, n_lt, n_le, n_eq, n_ix, n_gd, n_nz, lz_t, bd_some, tn, Int.reduceToNat, tn_1, if_pos, if_neg, if_true, if_false, sI_a, sI_b, sL_a, sL_b, sL_c, wA_a, wA_b, wA_c, wA_d, wB_a, wB_b, wB_c, wB_d, sA_w, sB_w, uN_s, uN_n, up_s, up_n, ul_s, ul_n, p_fst, p_snd, q8, f_X1_nextCheaper_40, e, nj]
  | succ d ih =>
    intro k n hk hn
    cases n with
    | zero => omega
    | succ n =>
      have b := rp_b h (i := k) (by omega)
      have nx := ih (k + 1) n (by omega) (by omega)
      rw [f_X1_nextCheaper_4]
      by_cases c : 0 < rp r k
      · by_cases c2 : rp r k < price
        · rw [nj_y ⟨c, fun _ => c2⟩]
          simp (disch := omega) only [z_0, z_1, z_2, z_3, z_4, z_5, z_6, z_7, z_8, z_9, z_10, z_11, z_12, z_14, z_18, z_20, z_22, z_24, z_32, z_38, z_40, z_41, z_44, z_48, z_49, z_57, z_59, z_60, z_63, z_65, z_74, z_75, z_81, z_97, z_99, z_104, z_115, z_119, z_122, z_200, z_209, z_210, z_219, z_228, z_255, z_300, z_369, z_999, z_65537, z_268435456, z_1000000000, n_nat, n_add, n_sub, n_mul, n_neg, n_lt, n_le, n_eq, n_ix, n_gd, n_nz, lz_t, bd_some, tn, Int.reduceToNat, tn_1, if_pos, if_neg, if_true, if_false, sI_a, sI_b, sL_a, sL_b, sL_c, wA_a, wA_b, wA_c, wA_d, wB_a, wB_b, wB_c, wB_d, sA_w, sB_w, uN_s, uN_n, up_s, up_n, ul_s, ul_n, p_fst, p_snd, q8, A9_has hR h, A9_price hR h, bi_z, decide_eq_false_iff_not]
        · rw [nj_n (fun z => c2 (z.2 rfl))]
          simp (disch := omega) only [z_0, z_1, z_2, z_3, z_4, z_5, z_6, z_7, z_8, z_9, z_10, z_11, z_12, z_14, z_18, z_20, z_22, z_24, z_32, z_38, z_40, z_41, z_44, z_48, z_49, z_57, z_59, z_60, z_63, z_65, z_74, z_75, z_81, z_97, z_99, z_104, z_115, z_119, z_122, z_200, z_209, z_210, z_219, z_228, z_255, z_300, z_369, z_999, z_65537, z_268435456, z_1000000000, n_nat, n_add, n_sub, n_mul, n_neg, n_lt, n_le, n_eq, n_ix, n_gd, n_nz, lz_t, bd_some, tn, Int.reduceToNat, tn_1, if_pos, if_neg, if_true, if_false, sI_a, sI_b, sL_a, sL_b, sL_c, wA_a, wA_b, wA_c, wA_d, wB_a, wB_b, wB_c, wB_d, sA_w, sB_w, uN_s, uN_n, up_s, up_n, ul_s, ul_n, p_fst, p_snd, q8, A9_has hR h, A9_price hR h, bi_z, decide_eq_false_iff_not, f_X1_nextCheaper_34]
          exact nx
      · rw [nj_n (fun z => c z.1)]
        simp (disch := omega) only [z_0, z_1, z_2, z_3, z_4, z_5, z_6, z_7, z_8, z_9, z_10, z_11, z_12, z_14, z_18, z_20, z_22, z_24, z_32, z_38, z_40, z_41, z_44, z_48, z_49, z_57, z_59, z_60, z_63, z_65, z_74, z_75, z_81, z_97, z_99, z_104, z_115, z_119, z_122, z_200, z_209, z_210, z_219, z_228, z_255, z_300, z_369, z_999, z_65537, z_268435456, z_1000000000, n_nat, n_add, n_sub, n_mul, n_neg, n_lt, n_le, n_eq, n_ix, n_gd, n_nz, lz_t, bd_some, tn, Int.reduceToNat, tn_1, if_pos, if_neg, if_true, if_false, sI_a, sI_b, sL_a, sL_b, sL_c, wA_a, wA_b, wA_c, wA_d, wB_a, wB_b, wB_c, wB_d, sA_w, sB_w, uN_s, uN_n, up_s, up_n, ul_s, ul_n, p_fst, p_snd, q8, A9_has hR h, A9_price hR h, bi_z, decide_eq_false_iff_not, f_X1_nextCheaper_34]
        exact nx
theorem pump_go {F : Nat} {sRo : MS} {r : Nat → Int32} (hR : RR sRo r) (h : ROK r) (p1 : Int32) (price : Int) : ∀ (d k n : Nat), (k : Int) + 1 + d = rd r 8 → d < n → f_X1_nextPump_4 F sRo p1 n (Int32.ofInt (k : Int)) = some (Int32.ofInt ((nj r false price d k : Nat) : Int)) := by
  obtain ⟨q0, q1, q2, q3, q4, q5, q8, q9⟩ := RRb hR
  obtain ⟨t0, t1, t2, t3, t4, t5, t8, t9⟩ := ROKb h
  intro d
  induction d with
  | zero =>
    intro k n hk hn
    cases n with
    | zero => omega
    | succ n =>
      rw [f_X1_nextPump_4]
      have e : rd r 8 - 1 = k := by omega
      simp (disch := omega) only [z_0, z_1, z_2, z_3, z_4, z_5, z_6, z_7, z_8, z_9, z_10, z_11, z_12, z_14, z_18, z_20, z_22, z_24, z_32, z_38, z_40, z_41, z_44, z_48, z_49, z_57, z_59, z_60, z_63, z_65, z_74, z_75, z_81, z_97, z_99, z_104, z_115, z_119, z_122, z_200, z_209, z_210, z_219, z_228, z_255, z_300, z_369, z_999, z_65537, z_268435456, z_1000000000, n_nat, n_add, n_sub, n_mul, n_neg, n_lt, n_le, n_eq, n_ix, n_gd, n_nz, lz_t, bd_some, tn, Int.reduceToNat, tn_1, if_pos, if_neg, if_true, if_false, sI_a, sI_b, sL_a, sL_b, sL_c, wA_a, wA_b, wA_c, wA_d, wB_a, wB_b, wB_c, wB_d, sA_w, sB_w, uN_s, uN_n, up_s, up_n, ul_s, ul_n, p_fst, p_snd, q8, f_X1_nextPump_30, e, nj]
  | succ d ih =>
    intro k n hk hn
    cases n with
    | zero => omega
    | succ n =>
      have b := rp_b h (i := k) (by omega)
      have nx := ih (k + 1) n (by omega) (by omega)
      rw [f_X1_nextPump_4]
      by_cases c : 0 < rp r k
      · rw [nj_y ⟨c, fun z => absurd z (by decide)⟩]
        simp (disch := omega) only [z_0, z_1, z_2, z_3, z_4, z_5, z_6, z_7, z_8, z_9, z_10, z_11, z_12, z_14, z_18, z_20, z_22, z_24, z_32, z_38, z_40, z_41, z_44, z_48, z_49, z_57, z_59, z_60, z_63, z_65, z_74, z_75, z_81, z_97, z_99, z_104, z_115, z_119, z_122, z_200, z_209, z_210, z_219, z_228, z_255, z_300, z_369, z_999, z_65537, z_268435456, z_1000000000, n_nat, n_add, n_sub, n_mul, n_neg, n_lt, n_le, n_eq, n_ix, n_gd, n_nz, lz_t, bd_some, tn, Int.reduceToNat, tn_1, if_pos, if_neg, if_true, if_false, sI_a, sI_b, sL_a, sL_b, sL_c, wA_a, wA_b, wA_c, wA_d, wB_a, wB_b, wB_c, wB_d, sA_w, sB_w, uN_s, uN_n, up_s, up_n, ul_s, ul_n, p_fst, p_snd, q8, A9_has hR h, bi_z, decide_eq_false_iff_not]
      · rw [nj_n (fun z => c z.1)]
        simp (disch := omega) only [z_0, z_1, z_2, z_3, z_4, z_5, z_6, z_7, z_8, z_9, z_10, z_11, z_12, z_14, z_18, z_20, z_22, z_24, z_32, z_38, z_40, z_41, z_44, z_48, z_49, z_57, z_59, z_60, z_63, z_65, z_74, z_75, z_81, z_97, z_99, z_104, z_115, z_119, z_122, z_200, z_209, z_210, z_219, z_228, z_255, z_300, z_369, z_999, z_65537, z_268435456, z_1000000000, n_nat, n_add, n_sub, n_mul, n_neg, n_lt, n_le, n_eq, n_ix, n_gd, n_nz, lz_t, bd_some, tn, Int.reduceToNat, tn_1, if_pos, if_neg, if_true, if_false, sI_a, sI_b, sL_a, sL_b, sL_c, wA_a, wA_b, wA_c, wA_d, wB_a, wB_b, wB_c, wB_d, sA_w, sB_w, uN_s, uN_n, up_s, up_n, ul_s, ul_n, p_fst, p_snd, q8, A9_has hR h, bi_z, decide_eq_false_iff_not]
        exact nx
theorem pintsTo_e {F : Nat} {sRo : MS} {r : Nat → Int32} (hR : RR sRo r) (h : ROK r) {i j : Nat} (hi : (i : Int) < rd r 8) (hj : (j : Int) < rd r 8) {has : Int} (h1 : 0 ≤ has) (h2 : has ≤ rd r 0) : f_X1_pintsTo F sRo (Int32.ofInt (i : Int)) (Int32.ofInt (j : Int)) (Int32.ofInt has) = some (Int32.ofInt (boT r i j has)) := by
  obtain ⟨q0, q1, q2, q3, q4, q5, q8, q9⟩ := RRb hR
  obtain ⟨t0, t1, t2, t3, t4, t5, t8, t9⟩ := ROKb h
  have ui := upB h hi
  have uj := upB h hj
  have ei := A9_up hR hi
  have ej := A9_up hR hj
  unfold f_X1_pintsTo boT
  by_cases c1 : rd r 0 < up r j - up r i
  · simp (disch := omega) only [z_0, z_1, z_2, z_3, z_4, z_5, z_6, z_7, z_8, z_9, z_10, z_11, z_12, z_14, z_18, z_20, z_22, z_24, z_32, z_38, z_40, z_41, z_44, z_48, z_49, z_57, z_59, z_60, z_63, z_65, z_74, z_75, z_81, z_97, z_99, z_104, z_115, z_119, z_122, z_200, z_209, z_210, z_219, z_228, z_255, z_300, z_369, z_999, z_65537, z_268435456, z_1000000000, n_nat, n_add, n_sub, n_mul, n_neg, n_lt, n_le, n_eq, n_ix, n_gd, n_nz, lz_t, bd_some, tn, Int.reduceToNat, tn_1, if_pos, if_neg, if_true, if_false, sI_a, sI_b, sL_a, sL_b, sL_c, wA_a, wA_b, wA_c, wA_d, wB_a, wB_b, wB_c, wB_d, sA_w, sB_w, uN_s, uN_n, up_s, up_n, ul_s, ul_n, p_fst, p_snd, q0, ei, ej]
  · by_cases c2 : 0 < up r j - up r i - has
    · simp (disch := omega) only [z_0, z_1, z_2, z_3, z_4, z_5, z_6, z_7, z_8, z_9, z_10, z_11, z_12, z_14, z_18, z_20, z_22, z_24, z_32, z_38, z_40, z_41, z_44, z_48, z_49, z_57, z_59, z_60, z_63, z_65, z_74, z_75, z_81, z_97, z_99, z_104, z_115, z_119, z_122, z_200, z_209, z_210, z_219, z_228, z_255, z_300, z_369, z_999, z_65537, z_268435456, z_1000000000, n_nat, n_add, n_sub, n_mul, n_neg, n_lt, n_le, n_eq, n_ix, n_gd, n_nz, lz_t, bd_some, tn, Int.reduceToNat, tn_1, if_pos, if_neg, if_true, if_false, sI_a, sI_b, sL_a, sL_b, sL_c, wA_a, wA_b, wA_c, wA_d, wB_a, wB_b, wB_c, wB_d, sA_w, sB_w, uN_s, uN_n, up_s, up_n, ul_s, ul_n, p_fst, p_snd, q0, ei, ej]
    · simp (disch := omega) only [z_0, z_1, z_2, z_3, z_4, z_5, z_6, z_7, z_8, z_9, z_10, z_11, z_12, z_14, z_18, z_20, z_22, z_24, z_32, z_38, z_40, z_41, z_44, z_48, z_49, z_57, z_59, z_60, z_63, z_65, z_74, z_75, z_81, z_97, z_99, z_104, z_115, z_119, z_122, z_200, z_209, z_210, z_219, z_228, z_255, z_300, z_369, z_999, z_65537, z_268435456, z_1000000000, n_nat, n_add, n_sub, n_mul, n_neg, n_lt, n_le, n_eq, n_ix, n_gd, n_nz, lz_t, bd_some, tn, Int.reduceToNat, tn_1, if_pos, if_neg, if_true, if_false, sI_a, sI_b, sL_a, sL_b, sL_c, wA_a, wA_b, wA_c, wA_d, wB_a, wB_b, wB_c, wB_d, sA_w, sB_w, uN_s, uN_n, up_s, up_n, ul_s, ul_n, p_fst, p_snd, q0, ei, ej]
theorem C_bo {F : Nat} (hF : 100 ≤ F) {sDr sRo : MS} {r : Nat → Int32} (hR : RR sRo r) (h : ROK r) {rule : Int} (hr1 : 0 ≤ rule) (hr2 : rule ≤ 3) {i : Nat} (hi : (i : Int) + 1 < rd r 8) {has price : Int} (h1 : 0 ≤ has) (h2 : has ≤ rd r 0) (hp : 0 ≤ price) (hp2 : price ≤ 99) : f_X1_pintsByRule F sDr sRo (Int32.ofInt rule) (Int32.ofInt (i : Int)) (Int32.ofInt has) (Int32.ofInt price) = some (Int32.ofInt (bo r rule i has price)) := by
  obtain ⟨q0, q1, q2, q3, q4, q5, q8, q9⟩ := RRb hR
  obtain ⟨t0, t1, t2, t3, t4, t5, t8, t9⟩ := ROKb h
  have nc := cheaper_go (F := F) hR h (Int32.ofInt (i : Int)) price hp hp2 ((rd r 8).toNat - 2 - i) (i + 1) F (by omega) (by omega)
  have np := pump_go (F := F) hR h (Int32.ofInt (i : Int)) price ((rd r 8).toNat - 2 - i) (i + 1) F (by omega) (by omega)
  have b1 := nj_b r true price ((rd r 8).toNat - 2 - i) (i + 1)
  have b2 := nj_b r false price ((rd r 8).toNat - 2 - i) (i + 1)
  have nc' : f_X1_nextCheaper F sRo (Int32.ofInt (i : Int)) (Int32.ofInt price) = some (Int32.ofInt ((nj r true price ((rd r 8).toNat - 2 - i) (i + 1) : Nat) : Int)) := by
    unfold f_X1_nextCheaper
    simp (disch := omega) only [z_0, z_1, z_2, z_3, z_4, z_5, z_6, z_7, z_8, z_9, z_10, z_11, z_12, z_14, z_18, z_20, z_22, z_24, z_32, z_38, z_40, z_41, z_44, z_48, z_49, z_57, z_59, z_60, z_63, z_65, z_74, z_75, z_81, z_97, z_99, z_104, z_115, z_119, z_122, z_200, z_209, z_210, z_219, z_228, z_255, z_300, z_369, z_999, z_65537, z_268435456, z_1000000000, n_nat, n_add, n_sub, n_mul, n_neg, n_lt, n_le, n_eq, n_ix, n_gd, n_nz, lz_t, bd_some, tn, Int.reduceToNat, tn_1, if_pos, if_neg, if_true, if_false, sI_a, sI_b, sL_a, sL_b, sL_c, wA_a, wA_b, wA_c, wA_d, wB_a, wB_b, wB_c, wB_d, sA_w, sB_w, uN_s, uN_n, up_s, up_n, ul_s, ul_n, p_fst, p_snd]
    exact nc
  have np' : f_X1_nextPump F sRo (Int32.ofInt (i : Int)) = some (Int32.ofInt ((nj r false price ((rd r 8).toNat - 2 - i) (i + 1) : Nat) : Int)) := by
    unfold f_X1_nextPump
    simp (disch := omega) only [z_0, z_1, z_2, z_3, z_4, z_5, z_6, z_7, z_8, z_9, z_10, z_11, z_12, z_14, z_18, z_20, z_22, z_24, z_32, z_38, z_40, z_41, z_44, z_48, z_49, z_57, z_59, z_60, z_63, z_65, z_74, z_75, z_81, z_97, z_99, z_104, z_115, z_119, z_122, z_200, z_209, z_210, z_219, z_228, z_255, z_300, z_369, z_999, z_65537, z_268435456, z_1000000000, n_nat, n_add, n_sub, n_mul, n_neg, n_lt, n_le, n_eq, n_ix, n_gd, n_nz, lz_t, bd_some, tn, Int.reduceToNat, tn_1, if_pos, if_neg, if_true, if_false, sI_a, sI_b, sL_a, sL_b, sL_c, wA_a, wA_b, wA_c, wA_d, wB_a, wB_b, wB_c, wB_d, sA_w, sB_w, uN_s, uN_n, up_s, up_n, ul_s, ul_n, p_fst, p_snd]
    exact np
  have p1 := pintsTo_e (F := F) hR h (i := i) (j := nj r true price ((rd r 8).toNat - 2 - i) (i + 1)) (by omega) (by omega) h1 h2
  have p2 := pintsTo_e (F := F) hR h (i := i) (j := nj r false price ((rd r 8).toNat - 2 - i) (i + 1)) (by omega) (by omega) h1 h2
  unfold f_X1_pintsByRule bo
  by_cases c0 : rule = 0
  · simp (disch := omega) only [z_0, z_1, z_2, z_3, z_4, z_5, z_6, z_7, z_8, z_9, z_10, z_11, z_12, z_14, z_18, z_20, z_22, z_24, z_32, z_38, z_40, z_41, z_44, z_48, z_49, z_57, z_59, z_60, z_63, z_65, z_74, z_75, z_81, z_97, z_99, z_104, z_115, z_119, z_122, z_200, z_209, z_210, z_219, z_228, z_255, z_300, z_369, z_999, z_65537, z_268435456, z_1000000000, n_nat, n_add, n_sub, n_mul, n_neg, n_lt, n_le, n_eq, n_ix, n_gd, n_nz, lz_t, bd_some, tn, Int.reduceToNat, tn_1, if_pos, if_neg, if_true, if_false, sI_a, sI_b, sL_a, sL_b, sL_c, wA_a, wA_b, wA_c, wA_d, wB_a, wB_b, wB_c, wB_d, sA_w, sB_w, uN_s, uN_n, up_s, up_n, ul_s, ul_n, p_fst, p_snd, q0]
  · by_cases c1 : rule = 1
    · simp (disch := omega) only [z_0, z_1, z_2, z_3, z_4, z_5, z_6, z_7, z_8, z_9, z_10, z_11, z_12, z_14, z_18, z_20, z_22, z_24, z_32, z_38, z_40, z_41, z_44, z_48, z_49, z_57, z_59, z_60, z_63, z_65, z_74, z_75, z_81, z_97, z_99, z_104, z_115, z_119, z_122, z_200, z_209, z_210, z_219, z_228, z_255, z_300, z_369, z_999, z_65537, z_268435456, z_1000000000, n_nat, n_add, n_sub, n_mul, n_neg, n_lt, n_le, n_eq, n_ix, n_gd, n_nz, lz_t, bd_some, tn, Int.reduceToNat, tn_1, if_pos, if_neg, if_true, if_false, sI_a, sI_b, sL_a, sL_b, sL_c, wA_a, wA_b, wA_c, wA_d, wB_a, wB_b, wB_c, wB_d, sA_w, sB_w, uN_s, uN_n, up_s, up_n, ul_s, ul_n, p_fst, p_snd, nc', p1]
    · by_cases c2 : rule = 2
      · simp (disch := omega) only [z_0, z_1, z_2, z_3, z_4, z_5, z_6, z_7, z_8, z_9, z_10, z_11, z_12, z_14, z_18, z_20, z_22, z_24, z_32, z_38, z_40, z_41, z_44, z_48, z_49, z_57, z_59, z_60, z_63, z_65, z_74, z_75, z_81, z_97, z_99, z_104, z_115, z_119, z_122, z_200, z_209, z_210, z_219, z_228, z_255, z_300, z_369, z_999, z_65537, z_268435456, z_1000000000, n_nat, n_add, n_sub, n_mul, n_neg, n_lt, n_le, n_eq, n_ix, n_gd, n_nz, lz_t, bd_some, tn, Int.reduceToNat, tn_1, if_pos, if_neg, if_true, if_false, sI_a, sI_b, sL_a, sL_b, sL_c, wA_a, wA_b, wA_c, wA_d, wB_a, wB_b, wB_c, wB_d, sA_w, sB_w, uN_s, uN_n, up_s, up_n, ul_s, ul_n, p_fst, p_snd, np', p2]
      · by_cases c3 : rd r 0 ≤ 2 * has
        · simp (disch := omega) only [z_0, z_1, z_2, z_3, z_4, z_5, z_6, z_7, z_8, z_9, z_10, z_11, z_12, z_14, z_18, z_20, z_22, z_24, z_32, z_38, z_40, z_41, z_44, z_48, z_49, z_57, z_59, z_60, z_63, z_65, z_74, z_75, z_81, z_97, z_99, z_104, z_115, z_119, z_122, z_200, z_209, z_210, z_219, z_228, z_255, z_300, z_369, z_999, z_65537, z_268435456, z_1000000000, n_nat, n_add, n_sub, n_mul, n_neg, n_lt, n_le, n_eq, n_ix, n_gd, n_nz, lz_t, bd_some, tn, Int.reduceToNat, tn_1, if_pos, if_neg, if_true, if_false, sI_a, sI_b, sL_a, sL_b, sL_c, wA_a, wA_b, wA_c, wA_d, wB_a, wB_b, wB_c, wB_d, sA_w, sB_w, uN_s, uN_n, up_s, up_n, ul_s, ul_n, p_fst, p_snd, q0]
        · simp (disch := omega) only [z_0, z_1, z_2, z_3, z_4, z_5, z_6, z_7, z_8, z_9, z_10, z_11, z_12, z_14, z_18, z_20, z_22, z_24, z_32, z_38, z_40, z_41, z_44, z_48, z_49, z_57, z_59, z_60, z_63, z_65, z_74, z_75, z_81, z_97, z_99, z_104, z_115, z_119, z_122, z_200, z_209, z_210, z_219, z_228, z_255, z_300, z_369, z_999, z_65537, z_268435456, z_1000000000, n_nat, n_add, n_sub, n_mul, n_neg, n_lt, n_le, n_eq, n_ix, n_gd, n_nz, lz_t, bd_some, tn, Int.reduceToNat, tn_1, if_pos, if_neg, if_true, if_false, sI_a, sI_b, sL_a, sL_b, sL_c, wA_a, wA_b, wA_c, wA_d, wB_a, wB_b, wB_c, wB_d, sA_w, sB_w, uN_s, uN_n, up_s, up_n, ul_s, ul_n, p_fst, p_snd, q0]
theorem bought_86 {F : Nat} (hF : 100 ≤ F) {s : MS} {r : Nat → Int32} (hs : s.2.2.1 15 = r) (h : ROK r) (p1 p4 : Int32) {i j : Nat} (hij : i ≤ j) (hj : (j : Int) < rd r 8) {has : Int} (h1 : 0 ≤ has) (h2 : has ≤ rd r 0) : f_X11_bought_86 F s p1 (Int32.ofInt (i : Int)) (Int32.ofInt has) p4 (Int32.ofInt (rd r 0 - has)) (Int32.ofInt (j : Int)) = some (Int32.ofInt (boT r i j has)) := by
  obtain ⟨t0, t1, t2, t3, t4, t5, t8, t9⟩ := ROKb h
  have ui := upB h (i := i) (by omega)
  have uj := upB h hj
  have r0 : s.2.2.1 15 0 = Int32.ofInt (rd r 0) := by rw [hs]; exact rd_e r 0
  have al := A11_legs (F := F) hF hs h hij hj
  unfold f_X11_bought_86 boT
  by_cases c1 : has < up r j - up r i
  · by_cases c2 : rd r 0 < up r j - up r i
    · simp (disch := omega) only [z_0, z_1, z_2, z_3, z_4, z_5, z_6, z_7, z_8, z_9, z_10, z_11, z_12, z_14, z_18, z_20, z_22, z_24, z_32, z_38, z_40, z_41, z_44, z_48, z_49, z_57, z_59, z_60, z_63, z_65, z_74, z_75, z_81, z_97, z_99, z_104, z_115, z_119, z_122, z_200, z_209, z_210, z_219, z_228, z_255, z_300, z_369, z_999, z_65537, z_268435456, z_1000000000, n_nat, n_add, n_sub, n_mul, n_neg, n_lt, n_le, n_eq, n_ix, n_gd, n_nz, lz_t, bd_some, tn, Int.reduceToNat, tn_1, if_pos, if_neg, if_true, if_false, sI_a, sI_b, sL_a, sL_b, sL_c, wA_a, wA_b, wA_c, wA_d, wB_a, wB_b, wB_c, wB_d, sA_w, sB_w, uN_s, uN_n, up_s, up_n, ul_s, ul_n, p_fst, p_snd, r0, al]
    · simp (disch := omega) only [z_0, z_1, z_2, z_3, z_4, z_5, z_6, z_7, z_8, z_9, z_10, z_11, z_12, z_14, z_18, z_20, z_22, z_24, z_32, z_38, z_40, z_41, z_44, z_48, z_49, z_57, z_59, z_60, z_63, z_65, z_74, z_75, z_81, z_97, z_99, z_104, z_115, z_119, z_122, z_200, z_209, z_210, z_219, z_228, z_255, z_300, z_369, z_999, z_65537, z_268435456, z_1000000000, n_nat, n_add, n_sub, n_mul, n_neg, n_lt, n_le, n_eq, n_ix, n_gd, n_nz, lz_t, bd_some, tn, Int.reduceToNat, tn_1, if_pos, if_neg, if_true, if_false, sI_a, sI_b, sL_a, sL_b, sL_c, wA_a, wA_b, wA_c, wA_d, wB_a, wB_b, wB_c, wB_d, sA_w, sB_w, uN_s, uN_n, up_s, up_n, ul_s, ul_n, p_fst, p_snd, r0, al]
  · simp (disch := omega) only [z_0, z_1, z_2, z_3, z_4, z_5, z_6, z_7, z_8, z_9, z_10, z_11, z_12, z_14, z_18, z_20, z_22, z_24, z_32, z_38, z_40, z_41, z_44, z_48, z_49, z_57, z_59, z_60, z_63, z_65, z_74, z_75, z_81, z_97, z_99, z_104, z_115, z_119, z_122, z_200, z_209, z_210, z_219, z_228, z_255, z_300, z_369, z_999, z_65537, z_268435456, z_1000000000, n_nat, n_add, n_sub, n_mul, n_neg, n_lt, n_le, n_eq, n_ix, n_gd, n_nz, lz_t, bd_some, tn, Int.reduceToNat, tn_1, if_pos, if_neg, if_true, if_false, sI_a, sI_b, sL_a, sL_b, sL_c, wA_a, wA_b, wA_c, wA_d, wB_a, wB_b, wB_c, wB_d, sA_w, sB_w, uN_s, uN_n, up_s, up_n, ul_s, ul_n, p_fst, p_snd, al]
theorem bought_go {F : Nat} (hF : 100 ≤ F) {s : MS} {r : Nat → Int32} (hs : s.2.2.1 15 = r) (h : ROK r) (cheap : Bool) (price : Int) (hp : 0 ≤ price) (hp2 : price ≤ 99) {i : Nat} {has : Int} (h1 : 0 ≤ has) (h2 : has ≤ rd r 0) : ∀ (d k n : Nat), (k : Int) + 1 + d = rd r 8 → d < n → i ≤ k → f_X11_bought_46 F s (Int32.ofInt (if cheap then 1 else 2)) (Int32.ofInt (i : Int)) (Int32.ofInt has) (Int32.ofInt price) n (Int32.ofInt (rd r 0 - has)) (Int32.ofInt (k : Int)) = some (Int32.ofInt (boT r i (nj r cheap price d k) has)) := by
  obtain ⟨t0, t1, t2, t3, t4, t5, t8, t9⟩ := ROKb h
  intro d
  induction d with
  | zero =>
    intro k n hk hn hik
    cases n with
    | zero => omega
    | succ n =>
      have b86 := bought_86 (F := F) hF hs h (Int32.ofInt (if cheap then 1 else 2)) (Int32.ofInt price) hik (by omega) h1 h2
      rw [f_X11_bought_46]
      simp (disch := omega) only [z_0, z_1, z_2, z_3, z_4, z_5, z_6, z_7, z_8, z_9, z_10, z_11, z_12, z_14, z_18, z_20, z_22, z_24, z_32, z_38, z_40, z_41, z_44, z_48, z_49, z_57, z_59, z_60, z_63, z_65, z_74, z_75, z_81, z_97, z_99, z_104, z_115, z_119, z_122, z_200, z_209, z_210, z_219, z_228, z_255, z_300, z_369, z_999, z_65537, z_268435456, z_1000000000, n_nat, n_add, n_sub, n_mul, n_neg, n_lt, n_le, n_eq, n_ix, n_gd, n_nz, lz_t, bd_some, tn, Int.reduceToNat, tn_1, if_pos, if_neg, if_true, if_false, sI_a, sI_b, sL_a, sL_b, sL_c, wA_a, wA_b, wA_c, wA_d, wB_a, wB_b, wB_c, wB_d, sA_w, sB_w, uN_s, uN_n, up_s, up_n, ul_s, ul_n, p_fst, p_snd, A11_last hs h, nj, b86]
  | succ d ih =>
    intro k n hk hn hik
    cases n with
    | zero => omega
    | succ n =>
      have b := rp_b h (i := k) (by omega)
      have nx := ih (k + 1) n (by omega) (by omega) (by omega)
      have b86 := bought_86 (F := F) hF hs h (Int32.ofInt (if cheap then 1 else 2)) (Int32.ofInt price) hik (by omega) h1 h2
      rw [f_X11_bought_46]
      by_cases c : 0 < rp r k
      · cases cheap with
        | true =>
          rw [if_pos rfl] at nx b86 ⊢
          by_cases c2 : rp r k < price
          · rw [nj_y ⟨c, fun _ => c2⟩]
            simp (disch := omega) only [z_0, z_1, z_2, z_3, z_4, z_5, z_6, z_7, z_8, z_9, z_10, z_11, z_12, z_14, z_18, z_20, z_22, z_24, z_32, z_38, z_40, z_41, z_44, z_48, z_49, z_57, z_59, z_60, z_63, z_65, z_74, z_75, z_81, z_97, z_99, z_104, z_115, z_119, z_122, z_200, z_209, z_210, z_219, z_228, z_255, z_300, z_369, z_999, z_65537, z_268435456, z_1000000000, n_nat, n_add, n_sub, n_mul, n_neg, n_lt, n_le, n_eq, n_ix, n_gd, n_nz, lz_t, bd_some, tn, Int.reduceToNat, tn_1, if_pos, if_neg, if_true, if_false, sI_a, sI_b, sL_a, sL_b, sL_c, wA_a, wA_b, wA_c, wA_d, wB_a, wB_b, wB_c, wB_d, sA_w, sB_w, uN_s, uN_n, up_s, up_n, ul_s, ul_n, p_fst, p_snd, A11_last hs h, A11_price hs h, b86]
          · rw [nj_n (fun z => c2 (z.2 rfl))]
            simp (disch := omega) only [z_0, z_1, z_2, z_3, z_4, z_5, z_6, z_7, z_8, z_9, z_10, z_11, z_12, z_14, z_18, z_20, z_22, z_24, z_32, z_38, z_40, z_41, z_44, z_48, z_49, z_57, z_59, z_60, z_63, z_65, z_74, z_75, z_81, z_97, z_99, z_104, z_115, z_119, z_122, z_200, z_209, z_210, z_219, z_228, z_255, z_300, z_369, z_999, z_65537, z_268435456, z_1000000000, n_nat, n_add, n_sub, n_mul, n_neg, n_lt, n_le, n_eq, n_ix, n_gd, n_nz, lz_t, bd_some, tn, Int.reduceToNat, tn_1, if_pos, if_neg, if_true, if_false, sI_a, sI_b, sL_a, sL_b, sL_c, wA_a, wA_b, wA_c, wA_d, wB_a, wB_b, wB_c, wB_d, sA_w, sB_w, uN_s, uN_n, up_s, up_n, ul_s, ul_n, p_fst, p_snd, A11_last hs h, A11_price hs h, f_X11_bought_80]
            exact nx
        | false =>
          rw [if_neg (by decide)] at nx b86 ⊢
          rw [nj_y ⟨c, fun z => absurd z (by decide)⟩]
          simp (disch := omega) only [z_0, z_1, z_2, z_3, z_4, z_5, z_6, z_7, z_8, z_9, z_10, z_11, z_12, z_14, z_18, z_20, z_22, z_24, z_32, z_38, z_40, z_41, z_44, z_48, z_49, z_57, z_59, z_60, z_63, z_65, z_74, z_75, z_81, z_97, z_99, z_104, z_115, z_119, z_122, z_200, z_209, z_210, z_219, z_228, z_255, z_300, z_369, z_999, z_65537, z_268435456, z_1000000000, n_nat, n_add, n_sub, n_mul, n_neg, n_lt, n_le, n_eq, n_ix, n_gd, n_nz, lz_t, bd_some, tn, Int.reduceToNat, tn_1, if_pos, if_neg, if_true, if_false, sI_a, sI_b, sL_a, sL_b, sL_c, wA_a, wA_b, wA_c, wA_d, wB_a, wB_b, wB_c, wB_d, sA_w, sB_w, uN_s, uN_n, up_s, up_n, ul_s, ul_n, p_fst, p_snd, A11_last hs h, A11_price hs h, b86]
      · rw [nj_n (fun z => c z.1)]
        simp (disch := omega) only [z_0, z_1, z_2, z_3, z_4, z_5, z_6, z_7, z_8, z_9, z_10, z_11, z_12, z_14, z_18, z_20, z_22, z_24, z_32, z_38, z_40, z_41, z_44, z_48, z_49, z_57, z_59, z_60, z_63, z_65, z_74, z_75, z_81, z_97, z_99, z_104, z_115, z_119, z_122, z_200, z_209, z_210, z_219, z_228, z_255, z_300, z_369, z_999, z_65537, z_268435456, z_1000000000, n_nat, n_add, n_sub, n_mul, n_neg, n_lt, n_le, n_eq, n_ix, n_gd, n_nz, lz_t, bd_some, tn, Int.reduceToNat, tn_1, if_pos, if_neg, if_true, if_false, sI_a, sI_b, sL_a, sL_b, sL_c, wA_a, wA_b, wA_c, wA_d, wB_a, wB_b, wB_c, wB_d, sA_w, sB_w, uN_s, uN_n, up_s, up_n, ul_s, ul_n, p_fst, p_snd, A11_last hs h, A11_price hs h, f_X11_bought_80]
        exact nx
theorem R_bo {F : Nat} (hF : 100 ≤ F) {s : MS} {r : Nat → Int32} (hs : s.2.2.1 15 = r) (h : ROK r) {rule : Int} (hr1 : 0 ≤ rule) (hr2 : rule ≤ 3) {i : Nat} (hi : (i : Int) + 1 < rd r 8) {has price : Int} (h1 : 0 ≤ has) (h2 : has ≤ rd r 0) (hp : 0 ≤ price) (hp2 : price ≤ 99) : f_X11_bought F s (Int32.ofInt rule) (Int32.ofInt (i : Int)) (Int32.ofInt has) (Int32.ofInt price) = some (Int32.ofInt (bo r rule i has price)) := by
  obtain ⟨t0, t1, t2, t3, t4, t5, t8, t9⟩ := ROKb h
  have r0 : s.2.2.1 15 0 = Int32.ofInt (rd r 0) := by rw [hs]; exact rd_e r 0
  have g1 := bought_go (F := F) hF hs h true price hp hp2 (i := i) h1 h2 ((rd r 8).toNat - 2 - i) (i + 1) F (by omega) (by omega) (by omega)
  have g2 := bought_go (F := F) hF hs h false price hp hp2 (i := i) h1 h2 ((rd r 8).toNat - 2 - i) (i + 1) F (by omega) (by omega) (by omega)
  rw [if_pos rfl] at g1
  rw [if_neg (by decide)] at g2
  unfold f_X11_bought bo
  by_cases c0 : rule = 0
  · simp (disch := omega) only [z_0, z_1, z_2, z_3, z_4, z_5, z_6, z_7, z_8, z_9, z_10, z_11, z_12, z_14, z_18, z_20, z_22, z_24, z_32, z_38, z_40, z_41, z_44, z_48, z_49, z_57, z_59, z_60, z_63, z_65, z_74, z_75, z_81, z_97, z_99, z_104, z_115, z_119, z_122, z_200, z_209, z_210, z_219, z_228, z_255, z_300, z_369, z_999, z_65537, z_268435456, z_1000000000, n_nat, n_add, n_sub, n_mul, n_neg, n_lt, n_le, n_eq, n_ix, n_gd, n_nz, lz_t, bd_some, tn, Int.reduceToNat, tn_1, if_pos, if_neg, if_true, if_false, sI_a, sI_b, sL_a, sL_b, sL_c, wA_a, wA_b, wA_c, wA_d, wB_a, wB_b, wB_c, wB_d, sA_w, sB_w, uN_s, uN_n, up_s, up_n, ul_s, ul_n, p_fst, p_snd, r0]
  · by_cases c1 : rule = 1
    · subst c1
      simp (disch := omega) only [z_0, z_1, z_2, z_3, z_4, z_5, z_6, z_7, z_8, z_9, z_10, z_11, z_12, z_14, z_18, z_20, z_22, z_24, z_32, z_38, z_40, z_41, z_44, z_48, z_49, z_57, z_59, z_60, z_63, z_65, z_74, z_75, z_81, z_97, z_99, z_104, z_115, z_119, z_122, z_200, z_209, z_210, z_219, z_228, z_255, z_300, z_369, z_999, z_65537, z_268435456, z_1000000000, n_nat, n_add, n_sub, n_mul, n_neg, n_lt, n_le, n_eq, n_ix, n_gd, n_nz, lz_t, bd_some, tn, Int.reduceToNat, tn_1, if_pos, if_neg, if_true, if_false, sI_a, sI_b, sL_a, sL_b, sL_c, wA_a, wA_b, wA_c, wA_d, wB_a, wB_b, wB_c, wB_d, sA_w, sB_w, uN_s, uN_n, up_s, up_n, ul_s, ul_n, p_fst, p_snd, r0]
      exact g1
    · by_cases c2 : rule = 2
      · subst c2
        simp (disch := omega) only [z_0, z_1, z_2, z_3, z_4, z_5, z_6, z_7, z_8, z_9, z_10, z_11, z_12, z_14, z_18, z_20, z_22, z_24, z_32, z_38, z_40, z_41, z_44, z_48, z_49, z_57, z_59, z_60, z_63, z_65, z_74, z_75, z_81, z_97, z_99, z_104, z_115, z_119, z_122, z_200, z_209, z_210, z_219, z_228, z_255, z_300, z_369, z_999, z_65537, z_268435456, z_1000000000, n_nat, n_add, n_sub, n_mul, n_neg, n_lt, n_le, n_eq, n_ix, n_gd, n_nz, lz_t, bd_some, tn, Int.reduceToNat, tn_1, if_pos, if_neg, if_true, if_false, sI_a, sI_b, sL_a, sL_b, sL_c, wA_a, wA_b, wA_c, wA_d, wB_a, wB_b, wB_c, wB_d, sA_w, sB_w, uN_s, uN_n, up_s, up_n, ul_s, ul_n, p_fst, p_snd, r0]
        exact g2
      · by_cases c3 : rd r 0 ≤ 2 * has
        · simp (disch := omega) only [z_0, z_1, z_2, z_3, z_4, z_5, z_6, z_7, z_8, z_9, z_10, z_11, z_12, z_14, z_18, z_20, z_22, z_24, z_32, z_38, z_40, z_41, z_44, z_48, z_49, z_57, z_59, z_60, z_63, z_65, z_74, z_75, z_81, z_97, z_99, z_104, z_115, z_119, z_122, z_200, z_209, z_210, z_219, z_228, z_255, z_300, z_369, z_999, z_65537, z_268435456, z_1000000000, n_nat, n_add, n_sub, n_mul, n_neg, n_lt, n_le, n_eq, n_ix, n_gd, n_nz, lz_t, bd_some, tn, Int.reduceToNat, tn_1, if_pos, if_neg, if_true, if_false, sI_a, sI_b, sL_a, sL_b, sL_c, wA_a, wA_b, wA_c, wA_d, wB_a, wB_b, wB_c, wB_d, sA_w, sB_w, uN_s, uN_n, up_s, up_n, ul_s, ul_n, p_fst, p_snd, r0]
        · simp (disch := omega) only [z_0, z_1, z_2, z_3, z_4, z_5, z_6, z_7, z_8, z_9, z_10, z_11, z_12, z_14, z_18, z_20, z_22, z_24, z_32, z_38, z_40, z_41, z_44, z_48, z_49, z_57, z_59, z_60, z_63, z_65, z_74, z_75, z_81, z_97, z_99, z_104, z_115, z_119, z_122, z_200, z_209, z_210, z_219, z_228, z_255, z_300, z_369, z_999, z_65537, z_268435456, z_1000000000, n_nat, n_add, n_sub, n_mul, n_neg, n_lt, n_le, n_eq, n_ix, n_gd, n_nz, lz_t, bd_some, tn, Int.reduceToNat, tn_1, if_pos, if_neg, if_true, if_false, sI_a, sI_b, sL_a, sL_b, sL_c, wA_a, wA_b, wA_c, wA_d, wB_a, wB_b, wB_c, wB_d, sA_w, sB_w, uN_s, uN_n, up_s, up_n, ul_s, ul_n, p_fst, p_snd, r0]
/-! draws -/
def nx (z : Int) : Int := 75 * z + 74 - (75 * z + 74) / 65537 * 65537
theorem nx_b {z : Int} (h : 0 ≤ z ∧ z < 65537) : 0 ≤ nx z ∧ nx z < 65537 := by
  unfold nx
  omega
def dpS (r : Nat → Int32) (p : Nat) (z : Int) : Int := if rd r (11 + 3 * p) = 0 then z else if rd r (12 + 3 * p) ≤ 0 then nx z else nx (nx z)
def dpP (r : Nat → Int32) (p : Nat) (z : Int) : Int := if rd r (11 + 3 * p) = 0 then 0 else if nx z - nx z / 10 * 10 < rd r (13 + 3 * p) then 0 else if 0 < rd r (12 + 3 * p) ∧ nx (nx z) - nx (nx z) / 2 * 2 = 1 then rd r (12 + 3 * p) else rd r (11 + 3 * p)
theorem pumpB {r : Nat → Int32} (h : ROK r) {p : Nat} (hp : p < 9) : (0 ≤ rd r (11 + 3 * p) ∧ rd r (11 + 3 * p) ≤ 99) ∧ (0 ≤ rd r (12 + 3 * p) ∧ rd r (12 + 3 * p) ≤ 99) ∧ (0 ≤ rd r (13 + 3 * p) ∧ rd r (13 + 3 * p) ≤ 9) := by
  have := h.2.2.2.2.2.2.2.2.2.2.2.2.1 p hp
  exact ⟨this.1, this.2.1, this.2.2.1⟩
theorem dp_b {r : Nat → Int32} (h : ROK r) {p : Nat} (hp : p < 9) {z : Int} (hz : 0 ≤ z ∧ z < 65537) : (0 ≤ dpS r p z ∧ dpS r p z < 65537) ∧ (0 ≤ dpP r p z ∧ dpP r p z ≤ 99) := by
  have pb := pumpB h hp
  have n1 := nx_b hz
  have n2 := nx_b n1
  constructor
  · unfold dpS
    split
    · exact hz
    · split <;> omega
  · unfold dpP
    split
    · omega
    · split
      · omega
      · split <;> omega
theorem next_e {F : Nat} {sDw : MS} {z : Int} (hz : 0 ≤ z ∧ z < 65537) (h0 : sDw.1 0 = Int32.ofInt z) : f_X0_next F sDw = some (Int32.ofInt (nx z), sI sDw 0 (Int32.ofInt (nx z))) := by
  unfold f_X0_next nx
  simp (disch := omega) only [z_0, z_1, z_2, z_3, z_4, z_5, z_6, z_7, z_8, z_9, z_10, z_11, z_12, z_14, z_18, z_20, z_22, z_24, z_32, z_38, z_40, z_41, z_44, z_48, z_49, z_57, z_59, z_60, z_63, z_65, z_74, z_75, z_81, z_97, z_99, z_104, z_115, z_119, z_122, z_200, z_209, z_210, z_219, z_228, z_255, z_300, z_369, z_999, z_65537, z_268435456, z_1000000000, n_nat, n_add, n_sub, n_mul, n_neg, n_lt, n_le, n_eq, n_ix, n_gd, n_nz, lz_t, bd_some, tn, Int.reduceToNat, tn_1, if_pos, if_neg, if_true, if_false, sI_a, sI_b, sL_a, sL_b, sL_c, wA_a, wA_b, wA_c, wA_d, wB_a, wB_b, wB_c, wB_d, sA_w, sB_w, uN_s, uN_n, up_s, up_n, ul_s, ul_n, p_fst, p_snd, n_div, h0]
theorem drawn_e {F : Nat} {z : Int} (hz : 0 ≤ z ∧ z < 65537) : f_X11_drawn F (Int32.ofInt z) = some (Int32.ofInt (nx z)) := by
  unfold f_X11_drawn nx
  simp (disch := omega) only [z_0, z_1, z_2, z_3, z_4, z_5, z_6, z_7, z_8, z_9, z_10, z_11, z_12, z_14, z_18, z_20, z_22, z_24, z_32, z_38, z_40, z_41, z_44, z_48, z_49, z_57, z_59, z_60, z_63, z_65, z_74, z_75, z_81, z_97, z_99, z_104, z_115, z_119, z_122, z_200, z_209, z_210, z_219, z_228, z_255, z_300, z_369, z_999, z_65537, z_268435456, z_1000000000, n_nat, n_add, n_sub, n_mul, n_neg, n_lt, n_le, n_eq, n_ix, n_gd, n_nz, lz_t, bd_some, tn, Int.reduceToNat, tn_1, if_pos, if_neg, if_true, if_false, sI_a, sI_b, sL_a, sL_b, sL_c, wA_a, wA_b, wA_c, wA_d, wB_a, wB_b, wB_c, wB_d, sA_w, sB_w, uN_s, uN_n, up_s, up_n, ul_s, ul_n, p_fst, p_snd, n_div]
theorem n_m2i : Int32.ofInt (-2) = Int32.ofInt (-2) := rfl
theorem seen_e {F : Nat} {sRo sDw : MS} {r : Nat → Int32} (hR : RR sRo r) (h : ROK r) {p : Nat} (hp : p < 9) {z : Int} (hz : 0 ≤ z ∧ z < 65537) (h0 : sDw.1 0 = Int32.ofInt z) :
    ∃ s', f_X0_priceSeen F sRo (Int32.ofInt (p : Int)) sDw = some (Int32.ofInt (if dpP r p z = 0 then -2 else dpP r p z), s') ∧ s'.1 0 = Int32.ofInt (dpS r p z) := by
  have pb := pumpB h hp
  have n1 := nx_b hz
  have n2 := nx_b n1
  obtain ⟨a1, a2, a3⟩ := hR.2.2.2.1 p hp
  rw [rd_e r] at a1 a2 a3
  have e1 := next_e (F := F) hz h0
  have e2 := next_e (F := F) (sDw := sI sDw 0 (Int32.ofInt (nx z))) (z := nx z) n1 (by simp (disch := omega) only [sI_a, sI_b, sL_a, sL_b, sL_c, wA_a, wA_b, wA_c, wA_d, wB_a, wB_b, wB_c, wB_d, sA_w, sB_w, uN_s, uN_n, up_s, up_n, ul_s, ul_n, p_fst, p_snd])
  unfold f_X0_priceSeen f_X0_priceSeen_35 f_X0_priceSeen_63
  by_cases c0 : rd r (11 + 3 * p) = 0
  · refine ⟨sDw, ?_, ?_⟩
    · have d0 : dpP r p z = 0 := by unfold dpP; rw [if_pos c0]
      simp (disch := omega) only [z_0, z_1, z_2, z_3, z_4, z_5, z_6, z_7, z_8, z_9, z_10, z_11, z_12, z_14, z_18, z_20, z_22, z_24, z_32, z_38, z_40, z_41, z_44, z_48, z_49, z_57, z_59, z_60, z_63, z_65, z_74, z_75, z_81, z_97, z_99, z_104, z_115, z_119, z_122, z_200, z_209, z_210, z_219, z_228, z_255, z_300, z_369, z_999, z_65537, z_268435456, z_1000000000, n_nat, n_add, n_sub, n_mul, n_neg, n_lt, n_le, n_eq, n_ix, n_gd, n_nz, lz_t, bd_some, tn, Int.reduceToNat, tn_1, if_pos, if_neg, if_true, if_false, sI_a, sI_b, sL_a, sL_b, sL_c, wA_a, wA_b, wA_c, wA_d, wB_a, wB_b, wB_c, wB_d, sA_w, sB_w, uN_s, uN_n, up_s, up_n, ul_s, ul_n, p_fst, p_snd, a1, d0]
    · rw [h0]; unfold dpS; rw [if_pos c0]
  · by_cases c1 : rd r (12 + 3 * p) ≤ 0
    · refine ⟨sI sDw 0 (Int32.ofInt (nx z)), ?_, ?_⟩
      · by_cases c2 : nx z - nx z / 10 * 10 < rd r (13 + 3 * p)
        · have d0 : dpP r p z = 0 := by unfold dpP; rw [if_neg c0, if_pos c2]
          simp (disch := omega) only [z_0, z_1, z_2, z_3, z_4, z_5, z_6, z_7, z_8, z_9, z_10, z_11, z_12, z_14, z_18, z_20, z_22, z_24, z_32, z_38, z_40, z_41, z_44, z_48, z_49, z_57, z_59, z_60, z_63, z_65, z_74, z_75, z_81, z_97, z_99, z_104, z_115, z_119, z_122, z_200, z_209, z_210, z_219, z_228, z_255, z_300, z_369, z_999, z_65537, z_268435456, z_1000000000, n_nat, n_add, n_sub, n_mul, n_neg, n_lt, n_le, n_eq, n_ix, n_gd, n_nz, lz_t, bd_some, tn, Int.reduceToNat, tn_1, if_pos, if_neg, if_true, if_false, p_fst, p_snd, n_div, a1, a2, a3, e1, d0]
        · have d0 : dpP r p z = rd r (11 + 3 * p) := by unfold dpP; rw [if_neg c0, if_neg c2, if_neg (by omega)]
          simp (disch := omega) only [z_0, z_1, z_2, z_3, z_4, z_5, z_6, z_7, z_8, z_9, z_10, z_11, z_12, z_14, z_18, z_20, z_22, z_24, z_32, z_38, z_40, z_41, z_44, z_48, z_49, z_57, z_59, z_60, z_63, z_65, z_74, z_75, z_81, z_97, z_99, z_104, z_115, z_119, z_122, z_200, z_209, z_210, z_219, z_228, z_255, z_300, z_369, z_999, z_65537, z_268435456, z_1000000000, n_nat, n_add, n_sub, n_mul, n_neg, n_lt, n_le, n_eq, n_ix, n_gd, n_nz, lz_t, bd_some, tn, Int.reduceToNat, tn_1, if_pos, if_neg, if_true, if_false, p_fst, p_snd, n_div, a1, a2, a3, e1, d0]
      · unfold dpS
        rw [if_neg c0, if_pos c1]
        simp (disch := omega) only [sI_a, sI_b, sL_a, sL_b, sL_c, wA_a, wA_b, wA_c, wA_d, wB_a, wB_b, wB_c, wB_d, sA_w, sB_w, uN_s, uN_n, up_s, up_n, ul_s, ul_n, p_fst, p_snd]
    · refine ⟨sI (sI sDw 0 (Int32.ofInt (nx z))) 0 (Int32.ofInt (nx (nx z))), ?_, ?_⟩
      · by_cases c2 : nx z - nx z / 10 * 10 < rd r (13 + 3 * p)
        · have d0 : dpP r p z = 0 := by unfold dpP; rw [if_neg c0, if_pos c2]
          by_cases c3 : nx (nx z) - nx (nx z) / 2 * 2 = 1
          · simp (disch := omega) only [z_0, z_1, z_2, z_3, z_4, z_5, z_6, z_7, z_8, z_9, z_10, z_11, z_12, z_14, z_18, z_20, z_22, z_24, z_32, z_38, z_40, z_41, z_44, z_48, z_49, z_57, z_59, z_60, z_63, z_65, z_74, z_75, z_81, z_97, z_99, z_104, z_115, z_119, z_122, z_200, z_209, z_210, z_219, z_228, z_255, z_300, z_369, z_999, z_65537, z_268435456, z_1000000000, n_nat, n_add, n_sub, n_mul, n_neg, n_lt, n_le, n_eq, n_ix, n_gd, n_nz, lz_t, bd_some, tn, Int.reduceToNat, tn_1, if_pos, if_neg, if_true, if_false, p_fst, p_snd, n_div, a1, a2, a3, e1, e2, d0]
          · simp (disch := omega) only [z_0, z_1, z_2, z_3, z_4, z_5, z_6, z_7, z_8, z_9, z_10, z_11, z_12, z_14, z_18, z_20, z_22, z_24, z_32, z_38, z_40, z_41, z_44, z_48, z_49, z_57, z_59, z_60, z_63, z_65, z_74, z_75, z_81, z_97, z_99, z_104, z_115, z_119, z_122, z_200, z_209, z_210, z_219, z_228, z_255, z_300, z_369, z_999, z_65537, z_268435456, z_1000000000, n_nat, n_add, n_sub, n_mul, n_neg, n_lt, n_le, n_eq, n_ix, n_gd, n_nz, lz_t, bd_some, tn, Int.reduceToNat, tn_1, if_pos, if_neg, if_true, if_false, p_fst, p_snd, n_div, a1, a2, a3, e1, e2, d0]
        · by_cases c3 : nx (nx z) - nx (nx z) / 2 * 2 = 1
          · have d0 : dpP r p z = rd r (12 + 3 * p) := by unfold dpP; rw [if_neg c0, if_neg c2, if_pos ⟨by omega, c3⟩]
            simp (disch := omega) only [z_0, z_1, z_2, z_3, z_4, z_5, z_6, z_7, z_8, z_9, z_10, z_11, z_12, z_14, z_18, z_20, z_22, z_24, z_32, z_38, z_40, z_41, z_44, z_48, z_49, z_57, z_59, z_60, z_63, z_65, z_74, z_75, z_81, z_97, z_99, z_104, z_115, z_119, z_122, z_200, z_209, z_210, z_219, z_228, z_255, z_300, z_369, z_999, z_65537, z_268435456, z_1000000000, n_nat, n_add, n_sub, n_mul, n_neg, n_lt, n_le, n_eq, n_ix, n_gd, n_nz, lz_t, bd_some, tn, Int.reduceToNat, tn_1, if_pos, if_neg, if_true, if_false, p_fst, p_snd, n_div, a1, a2, a3, e1, e2, d0]
          · have d0 : dpP r p z = rd r (11 + 3 * p) := by unfold dpP; rw [if_neg c0, if_neg c2, if_neg (fun q => c3 q.2)]
            simp (disch := omega) only [z_0, z_1, z_2, z_3, z_4, z_5, z_6, z_7, z_8, z_9, z_10, z_11, z_12, z_14, z_18, z_20, z_22, z_24, z_32, z_38, z_40, z_41, z_44, z_48, z_49, z_57, z_59, z_60, z_63, z_65, z_74, z_75, z_81, z_97, z_99, z_104, z_115, z_119, z_122, z_200, z_209, z_210, z_219, z_228, z_255, z_300, z_369, z_999, z_65537, z_268435456, z_1000000000, n_nat, n_add, n_sub, n_mul, n_neg, n_lt, n_le, n_eq, n_ix, n_gd, n_nz, lz_t, bd_some, tn, Int.reduceToNat, tn_1, if_pos, if_neg, if_true, if_false, p_fst, p_snd, n_div, a1, a2, a3, e1, e2, d0]
      · unfold dpS
        rw [if_neg c0, if_neg c1]
        simp (disch := omega) only [sI_a, sI_b, sL_a, sL_b, sL_c, wA_a, wA_b, wA_c, wA_d, wB_a, wB_b, wB_c, wB_d, sA_w, sB_w, uN_s, uN_n, up_s, up_n, ul_s, ul_n, p_fst, p_snd]
theorem A11_pump {F : Nat} {s : MS} {r : Nat → Int32} (hs : s.2.2.1 15 = r) {p : Nat} (hp : p < 9) : f_X11_pumpOf F s (Int32.ofInt (p : Int)) (Int32.ofInt 0) = some (Int32.ofInt (rd r (11 + 3 * p))) ∧ f_X11_pumpOf F s (Int32.ofInt (p : Int)) (Int32.ofInt 1) = some (Int32.ofInt (rd r (12 + 3 * p))) ∧ f_X11_pumpOf F s (Int32.ofInt (p : Int)) (Int32.ofInt 2) = some (Int32.ofInt (rd r (13 + 3 * p))) := by
  subst hs
  have p0 := X11_pumpOf (F := F) (s := s) hp (j := 0) (by decide)
  have p1 := X11_pumpOf (F := F) (s := s) hp (j := 1) (by decide)
  have p2 := X11_pumpOf (F := F) (s := s) hp (j := 2) (by decide)
  rw [show 11 + (3 * p + 0) = 11 + 3 * p by omega, rd_e (s.2.2.1 15)] at p0
  rw [show 11 + (3 * p + 1) = 12 + 3 * p by omega, rd_e (s.2.2.1 15)] at p1
  rw [show 11 + (3 * p + 2) = 13 + 3 * p by omega, rd_e (s.2.2.1 15)] at p2
  exact ⟨p0, p1, p2⟩
/-- one number alone is other -/
def F1 (s s' : MS) (k : Nat) : Prop := s'.2 = s.2 ∧ ∀ j, j ≠ k → s'.1 j = s.1 j
theorem draw_e {F : Nat} {s : MS} {r : Nat → Int32} (hs : s.2.2.1 15 = r) (h : ROK r) {p : Nat} (hp : p < 9) {z : Int} (hz : 0 ≤ z ∧ z < 65537) (h0 : s.1 40 = Int32.ofInt z) :
    ∃ s', f_X11_drawPrice F (Int32.ofInt (p : Int)) s = some (Int32.ofInt (dpP r p z), s') ∧ s'.1 40 = Int32.ofInt (dpS r p z) ∧ F1 s s' 40 := by
  have pb := pumpB h hp
  have n1 := nx_b hz
  have n2 := nx_b n1
  obtain ⟨a1, a2, a3⟩ := A11_pump (F := F) hs hp
  have hs1 : (sI s 40 (Int32.ofInt (nx z))).2.2.1 15 = r := hs
  have hs2 : (sI (sI s 40 (Int32.ofInt (nx z))) 40 (Int32.ofInt (nx (nx z)))).2.2.1 15 = r := hs
  obtain ⟨b1, b2, b3⟩ := A11_pump (F := F) hs1 hp
  obtain ⟨c1', c2', c3'⟩ := A11_pump (F := F) hs2 hp
  have e1 := drawn_e (F := F) hz
  have e2 := drawn_e (F := F) n1
  have g1 : (sI s 40 (Int32.ofInt (nx z))).1 40 = Int32.ofInt (nx z) := sI_s _ _ _
  have g2 : (sI (sI s 40 (Int32.ofInt (nx z))) 40 (Int32.ofInt (nx (nx z)))).1 40 = Int32.ofInt (nx (nx z)) := sI_s _ _ _
  unfold f_X11_drawPrice f_X11_drawPrice_43 f_X11_drawPrice_73
  by_cases c0 : rd r (11 + 3 * p) = 0
  · refine ⟨s, ?_, ?_, rfl, fun _ _ => rfl⟩
    · have d0 : dpP r p z = 0 := by unfold dpP; rw [if_pos c0]
      simp (disch := omega) only [z_0, z_1, z_2, z_3, z_4, z_5, z_6, z_7, z_8, z_9, z_10, z_11, z_12, z_14, z_18, z_20, z_22, z_24, z_32, z_38, z_40, z_41, z_44, z_48, z_49, z_57, z_59, z_60, z_63, z_65, z_74, z_75, z_81, z_97, z_99, z_104, z_115, z_119, z_122, z_200, z_209, z_210, z_219, z_228, z_255, z_300, z_369, z_999, z_65537, z_268435456, z_1000000000, n_nat, n_add, n_sub, n_mul, n_neg, n_lt, n_le, n_eq, n_ix, n_gd, n_nz, lz_t, bd_some, tn, Int.reduceToNat, tn_1, if_pos, if_neg, if_true, if_false, a1, d0]
    · rw [h0]; unfold dpS; rw [if_pos c0]
  · by_cases c1 : rd r (12 + 3 * p) ≤ 0
    · refine ⟨sI s 40 (Int32.ofInt (nx z)), ?_, ?_, rfl, fun j hj => sI_n _ _ _ _ hj⟩
      · by_cases c2 : nx z - nx z / 10 * 10 < rd r (13 + 3 * p)
        · have d0 : dpP r p z = 0 := by unfold dpP; rw [if_neg c0, if_pos c2]
          simp (disch := omega) only [z_0, z_1, z_2, z_3, z_4, z_5, z_6, z_7, z_8, z_9, z_10, z_11, z_12, z_14, z_18, z_20, z_22, z_24, z_32, z_38, z_40, z_41, z_44, z_48, z_49, z_57, z_59, z_60, z_63, z_65, z_74, z_75, z_81, z_97, z_99, z_104, z_115, z_119, z_122, z_200, z_209, z_210, z_219, z_228, z_255, z_300, z_369, z_999, z_65537, z_268435456, z_1000000000, n_nat, n_add, n_sub, n_mul, n_neg, n_lt, n_le, n_eq, n_ix, n_gd, n_nz, lz_t, bd_some, tn, Int.reduceToNat, tn_1, if_pos, if_neg, if_true, if_false, n_div, a1, h0, e1, g1, b1, b2, b3, d0]
        · have d0 : dpP r p z = rd r (11 + 3 * p) := by unfold dpP; rw [if_neg c0, if_neg c2, if_neg (by omega)]
          simp (disch := omega) only [z_0, z_1, z_2, z_3, z_4, z_5, z_6, z_7, z_8, z_9, z_10, z_11, z_12, z_14, z_18, z_20, z_22, z_24, z_32, z_38, z_40, z_41, z_44, z_48, z_49, z_57, z_59, z_60, z_63, z_65, z_74, z_75, z_81, z_97, z_99, z_104, z_115, z_119, z_122, z_200, z_209, z_210, z_219, z_228, z_255, z_300, z_369, z_999, z_65537, z_268435456, z_1000000000, n_nat, n_add, n_sub, n_mul, n_neg, n_lt, n_le, n_eq, n_ix, n_gd, n_nz, lz_t, bd_some, tn, Int.reduceToNat, tn_1, if_pos, if_neg, if_true, if_false, n_div, a1, h0, e1, g1, b1, b2, b3, d0]
      · unfold dpS
        rw [if_neg c0, if_pos c1, g1]
    · refine ⟨sI (sI s 40 (Int32.ofInt (nx z))) 40 (Int32.ofInt (nx (nx z))), ?_, ?_, rfl, fun j hj => by rw [sI_n _ _ _ _ hj, sI_n _ _ _ _ hj]⟩
      · by_cases c2 : nx z - nx z / 10 * 10 < rd r (13 + 3 * p)
        · have d0 : dpP r p z = 0 := by unfold dpP; rw [if_neg c0, if_pos c2]
          simp (disch := omega) only [z_0, z_1, z_2, z_3, z_4, z_5, z_6, z_7, z_8, z_9, z_10, z_11, z_12, z_14, z_18, z_20, z_22, z_24, z_32, z_38, z_40, z_41, z_44, z_48, z_49, z_57, z_59, z_60, z_63, z_65, z_74, z_75, z_81, z_97, z_99, z_104, z_115, z_119, z_122, z_200, z_209, z_210, z_219, z_228, z_255, z_300, z_369, z_999, z_65537, z_268435456, z_1000000000, n_nat, n_add, n_sub, n_mul, n_neg, n_lt, n_le, n_eq, n_ix, n_gd, n_nz, lz_t, bd_some, tn, Int.reduceToNat, tn_1, if_pos, if_neg, if_true, if_false, n_div, a1, h0, e1, e2, g1, g2, b1, b2, b3, d0]
        · by_cases c3 : nx (nx z) - nx (nx z) / 2 * 2 = 1
          · have d0 : dpP r p z = rd r (12 + 3 * p) := by unfold dpP; rw [if_neg c0, if_neg c2, if_pos ⟨by omega, c3⟩]
            simp (disch := omega) only [z_0, z_1, z_2, z_3, z_4, z_5, z_6, z_7, z_8, z_9, z_10, z_11, z_12, z_14, z_18, z_20, z_22, z_24, z_32, z_38, z_40, z_41, z_44, z_48, z_49, z_57, z_59, z_60, z_63, z_65, z_74, z_75, z_81, z_97, z_99, z_104, z_115, z_119, z_122, z_200, z_209, z_210, z_219, z_228, z_255, z_300, z_369, z_999, z_65537, z_268435456, z_1000000000, n_nat, n_add, n_sub, n_mul, n_neg, n_lt, n_le, n_eq, n_ix, n_gd, n_nz, lz_t, bd_some, tn, Int.reduceToNat, tn_1, if_pos, if_neg, if_true, if_false, n_div, a1, h0, e1, e2, g1, g2, b1, b2, b3, c3, c2', d0]
          · have d0 : dpP r p z = rd r (11 + 3 * p) := by unfold dpP; rw [if_neg c0, if_neg c2, if_neg (fun q => c3 q.2)]
            have c3' : nx (nx z) - nx (nx z) / 2 * 2 = 0 := by omega
            simp (disch := omega) only [z_0, z_1, z_2, z_3, z_4, z_5, z_6, z_7, z_8, z_9, z_10, z_11, z_12, z_14, z_18, z_20, z_22, z_24, z_32, z_38, z_40, z_41, z_44, z_48, z_49, z_57, z_59, z_60, z_63, z_65, z_74, z_75, z_81, z_97, z_99, z_104, z_115, z_119, z_122, z_200, z_209, z_210, z_219, z_228, z_255, z_300, z_369, z_999, z_65537, z_268435456, z_1000000000, n_nat, n_add, n_sub, n_mul, n_neg, n_lt, n_le, n_eq, n_ix, n_gd, n_nz, lz_t, bd_some, tn, Int.reduceToNat, tn_1, if_pos, if_neg, if_true, if_false, n_div, a1, h0, e1, e2, g1, g2, b1, b2, b3, c3', c1', d0]
      · unfold dpS
        rw [if_neg c0, if_neg c1, g2]
