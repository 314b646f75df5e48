/-! near -/
def rx (N : Nat → Int) (p q : Nat) (t : Int) : Int := if N p = 1000000000 ∨ t ≤ 0 then N q else if N p + t < N q then N p + t else N q
def relax (r : Nat → Int32) (p q : Nat) (N : Nat → Int) (j : Nat) : Int := if j = q then rx N p q (rd r (38 + (9 * p + q))) else N j
def NOK (N : Nat → Int) (B : Int) : Prop := ∀ j, j < 9 → N j = 1000000000 ∨ (0 ≤ N j ∧ N j ≤ B)
theorem relax_ok {r : Nat → Int32} (h : ROK r) {p q : Nat} (hp : p < 9) (hq : q < 9) {N : Nat → Int} {B : Int} (hN : NOK N B) : NOK (relax r p q N) (B + 40) := by
  intro j hj
  have rb := road_b h hp hq
  have a := hN p hp
  have b := hN j hj
  have c := hN q hq
  unfold relax rx
  split
  · split
    · omega
    · split <;> omega
  · omega
theorem relax_id {r : Nat → Int32} {p q : Nat} (h0 : rd r (38 + (9 * p + q)) = 0) (N : Nat → Int) : relax r p q N = N := by
  funext j
  unfold relax rx
  split
  · rename_i e
    rw [if_pos (Or.inr (by omega)), e]
  · rfl
def nq (r : Nat → Int32) (p : Nat) : Nat → Nat → (Nat → Int) → Nat → Int
  | 0, _, N => N
  | d + 1, k, N => nq r p d (k + 1) (relax r p k N)
theorem nq_ok {r : Nat → Int32} (h : ROK r) {p : Nat} (hp : p < 9) : ∀ (d k : Nat) (N : Nat → Int) (B : Int), k + d ≤ 9 → NOK N B → NOK (nq r p d k N) (B + 40 * d)
  | 0, k, N, B, _, hN => by
    show NOK N _
    intro j hj
    have := hN j hj
    omega
  | d + 1, k, N, B, hk, hN => by
    have := nq_ok h hp d (k + 1) (relax r p k N) (B + 40) (by omega) (relax_ok h hp (by omega) hN)
    intro j hj
    have := this j hj
    show nq r p d (k + 1) (relax r p k N) j = _ ∨ 0 ≤ nq r p d (k + 1) (relax r p k N) j ∧ nq r p d (k + 1) (relax r p k N) j ≤ _
    omega
theorem road_0 {r : Nat → Int32} (h : ROK r) {p q : Nat} (hp : p < 9) (hq : q < 9) (hc : rd r 5 ≤ (p : Int) ∨ rd r 5 ≤ (q : Int)) : rd r (38 + (9 * p + q)) = 0 := by
  rcases hc with hc | hc
  · exact (h.2.2.2.2.2.2.2.2.2.2.1 p q hp hq).2.2.2 (Or.inl hc)
  · have a := (h.2.2.2.2.2.2.2.2.2.2.1 p q hp hq).2.2.1
    have b := (h.2.2.2.2.2.2.2.2.2.2.1 q p hq hp).2.2.2 (Or.inl hc)
    unfold rd
    rw [a]
    exact b
theorem nq_z {r : Nat → Int32} (h : ROK r) {p : Nat} (hp : p < 9) : ∀ (d k : Nat) (N : Nat → Int), k + d ≤ 9 → rd r 5 ≤ (k : Int) → nq r p d k N = N
  | 0, _, _, _, _ => rfl
  | d + 1, k, N, hk, h5 => by
    show nq r p d (k + 1) (relax r p k N) = N
    rw [relax_id (road_0 h hp (by omega) (Or.inr h5)), nq_z h hp d (k + 1) N (by omega) (by omega)]
theorem nq_a {r : Nat → Int32} (p : Nat) : ∀ (a b k : Nat) (N : Nat → Int), nq r p (a + b) k N = nq r p b (k + a) (nq r p a k N)
  | 0, b, k, N => by rw [Nat.zero_add]; rfl
  | a + 1, b, k, N => by
    rw [show a + 1 + b = (a + b) + 1 by omega]
    show nq r p (a + b) (k + 1) (relax r p k N) = nq r p b (k + (a + 1)) (nq r p a (k + 1) (relax r p k N))
    rw [nq_a p a b (k + 1), show k + 1 + a = k + (a + 1) by omega]
theorem nq_9 {r : Nat → Int32} (h : ROK r) {p : Nat} (hp : p < 9) (N : Nat → Int) : nq r p 9 0 N = nq r p (rd r 5).toNat 0 N := by
  obtain ⟨t0, t1, t2, t3, t4, t5, t8, t9⟩ := ROKb h
  have := nq_a (r := r) p (rd r 5).toNat (9 - (rd r 5).toNat) 0 N
  rw [show (rd r 5).toNat + (9 - (rd r 5).toNat) = 9 by omega] at this
  rw [this, nq_z h hp _ _ _ (by omega) (by omega)]
theorem nq_p {r : Nat → Int32} (h : ROK r) {p : Nat} (hp : p < 9) (h5 : rd r 5 ≤ (p : Int)) : ∀ (d k : Nat) (N : Nat → Int), k + d ≤ 9 → nq r p d k N = N
  | 0, _, _, _ => rfl
  | d + 1, k, N, hk => by
    show nq r p d (k + 1) (relax r p k N) = N
    rw [relax_id (road_0 h hp (by omega) (Or.inl h5)), nq_p h hp h5 d (k + 1) N (by omega)]
def np (r : Nat → Int32) : Nat → Nat → (Nat → Int) → Nat → Int
  | 0, _, N => N
  | d + 1, k, N => np r d (k + 1) (nq r k (rd r 5).toNat 0 N)
theorem np_ok {r : Nat → Int32} (h : ROK r) : ∀ (d k : Nat) (N : Nat → Int) (B : Int), k + d ≤ 9 → NOK N B → NOK (np r d k N) (B + 360 * d)
  | 0, k, N, B, _, hN => by
    show NOK N _
    intro j hj
    have := hN j hj
    omega
  | d + 1, k, N, B, hk, hN => by
    obtain ⟨t0, t1, t2, t3, t4, t5, t8, t9⟩ := ROKb h
    have := np_ok h d (k + 1) _ _ (by omega) (nq_ok h (p := k) (by omega) (rd r 5).toNat 0 N B (by omega) hN)
    intro j hj
    have := this j hj
    show np r d (k + 1) (nq r k (rd r 5).toNat 0 N) j = _ ∨ 0 ≤ np r d (k + 1) (nq r k (rd r 5).toNat 0 N) j ∧ np r d (k + 1) (nq r k (rd r 5).toNat 0 N) j ≤ _
    omega
theorem np_z {r : Nat → Int32} (h : ROK r) : ∀ (d k : Nat) (N : Nat → Int), k + d ≤ 9 → rd r 5 ≤ (k : Int) → np r d k N = N
  | 0, _, _, _, _ => rfl
  | d + 1, k, N, hk, h5 => by
    obtain ⟨t0, t1, t2, t3, t4, t5, t8, t9⟩ := ROKb h
    show np r d (k + 1) (nq r k (rd r 5).toNat 0 N) = N
    rw [nq_p h (by omega) h5 _ _ _ (by omega), np_z h d (k + 1) N (by omega) (by omega)]
theorem np_a {r : Nat → Int32} : ∀ (a b k : Nat) (N : Nat → Int), np r (a + b) k N = np r b (k + a) (np r a k N)
  | 0, b, k, N => by rw [Nat.zero_add]; rfl
  | a + 1, b, k, N => by
    rw [show a + 1 + b = (a + b) + 1 by omega]
    show np r (a + b) (k + 1) (nq r k (rd r 5).toNat 0 N) = np r b (k + (a + 1)) (np r a (k + 1) (nq r k (rd r 5).toNat 0 N))
    rw [np_a a b (k + 1), show k + 1 + a = k + (a + 1) by omega]
theorem np_9 {r : Nat → Int32} (h : ROK r) (N : Nat → Int) : np r 9 0 N = np r (rd r 5).toNat 0 N := by
  obtain ⟨t0, t1, t2, t3, t4, t5, t8, t9⟩ := ROKb h
  have := np_a (r := r) (rd r 5).toNat (9 - (rd r 5).toNat) 0 N
  rw [show (rd r 5).toNat + (9 - (rd r 5).toNat) = 9 by omega] at this
  rw [this, np_z h _ _ _ (by omega) (by omega)]
def nr (r : Nat → Int32) : Nat → (Nat → Int) → Nat → Int
  | 0, N => N
  | d + 1, N => nr r d (np r (rd r 5).toNat 0 N)
def cN (v : Int) : Int := if v = 1000000000 then 268435456 else v
/-- the class's -/
theorem nn_go {F : Nat} {sRo : MS} {r : Nat → Int32} (hR : RR sRo r) (h : ROK r) {p : Nat} (hp : p < 9) : ∀ (d k n : Nat) (N : Nat → Int) (B : Int) (s : MS), (k : Int) + d = rd r 5 → d < n → NOK N B → 0 ≤ B → B + 40 * d ≤ 200000000 → (∀ j, j < 9 → s.2.2.1 2 j = Int32.ofInt (cN (N j))) →
    ∃ s', f_X5_nearNext_2 F sRo (Int32.ofInt (p : Int)) n (Int32.ofInt (k : Int)) s = some s' ∧ (∀ j, j < 9 → s'.2.2.1 2 j = Int32.ofInt (cN (nq r p d k N j))) := by
  obtain ⟨q0, q1, q2, q3, q4, q5, q8, q9⟩ := RRb hR
  obtain ⟨t0, t1, t2, t3, t4, t5, t8, t9⟩ := ROKb h
  intro d
  induction d with
  | zero =>
    intro k n N B s hk hn hN hB hB2 hs
    cases n with
    | zero => omega
    | succ n =>
      refine ⟨s, ?_, hs⟩
      rw [f_X5_nearNext_2]
      simp (disch := omega) only [z_0, z_1, z_2, z_3, z_4, z_5, z_6, z_7, z_8, z_9, z_10, z_11, z_12, z_14, z_18, z_20, z_22, z_24, z_32, z_38, z_40, z_41, z_44, z_48, z_49, z_57, z_59, z_60, z_63, z_65, z_74, z_75, z_81, z_97, z_99, z_104, z_115, z_119, z_122, z_200, z_209, z_210, z_219, z_228, z_255, z_300, z_369, z_999, z_65537, z_268435456, z_1000000000, n_nat, n_add, n_sub, n_mul, n_neg, n_lt, n_le, n_eq, n_ix, n_gd, n_nz, lz_t, bd_some, tn, Int.reduceToNat, tn_1, if_pos, if_neg, if_true, if_false, q5]
  | succ d ih =>
    intro k n N B s hk hn hN hB hB2 hs
    cases n with
    | zero => omega
    | succ n =>
      have rb := road_b h hp (show k < 9 by omega)
      have e9 := B9_road (F := F) hR hp (show k < 9 by omega)
      have p9 := B9_pints (F := F) hR hp (show k < 9 by omega)
      have sp := hs p hp
      have sk := hs k (by omega)
      have np' := hN p hp
      have nk := hN k (by omega)
      have ok' := relax_ok h hp (show k < 9 by omega) hN
      rw [f_X5_nearNext_2]
      have go : ∀ s1 : MS, (∀ j, j < 9 → s1.2.2.1 2 j = Int32.ofInt (cN (relax r p k N j))) → ∃ s', f_X5_nearNext_2 F sRo (Int32.ofInt (p : Int)) n (Int32.ofInt ((k : Int) + 1)) s1 = some s' ∧ (∀ j, j < 9 → s'.2.2.1 2 j = Int32.ofInt (cN (nq r p (d + 1) k N j))) := fun s1 h1 => ih (k + 1) n (relax r p k N) (B + 40) s1 (by omega) (by omega) ok' (by omega) (by omega) h1
      by_cases c0 : rd r (38 + (9 * p + k)) = 0
      · obtain ⟨s', z1, z2⟩ := go s (fun j hj => by rw [relax_id c0]; exact hs j hj)
        refine ⟨s', ?_, z2⟩
        simp (disch := omega) only [z_0, z_1, z_2, z_3, z_4, z_5, z_6, z_7, z_8, z_9, z_10, z_11, z_12, z_14, z_18, z_20, z_22, z_24, z_32, z_38, z_40, z_41, z_44, z_48, z_49, z_57, z_59, z_60, z_63, z_65, z_74, z_75, z_81, z_97, z_99, z_104, z_115, z_119, z_122, z_200, z_209, z_210, z_219, z_228, z_255, z_300, z_369, z_999, z_65537, z_268435456, z_1000000000, n_nat, n_add, n_sub, n_mul, n_neg, n_lt, n_le, n_eq, n_ix, n_gd, n_nz, lz_t, bd_some, tn, Int.reduceToNat, tn_1, if_pos, if_neg, if_true, if_false, q5, e9, bi_z, decide_eq_false_iff_not, f_X5_nearNext_58]
        exact z1
      · by_cases c1 : N p = 1000000000
        · have cp : cN (N p) = 268435456 := by unfold cN; rw [if_pos c1]
          rw [cp] at sp
          obtain ⟨s', z1, z2⟩ := go s (fun j hj => by
            unfold relax rx
            rw [if_pos (Or.inl c1)]
            split
            · rename_i e; subst e; exact hs j hj
            · exact hs j hj)
          refine ⟨s', ?_, z2⟩
          simp (disch := omega) only [z_0, z_1, z_2, z_3, z_4, z_5, z_6, z_7, z_8, z_9, z_10, z_11, z_12, z_14, z_18, z_20, z_22, z_24, z_32, z_38, z_40, z_41, z_44, z_48, z_49, z_57, z_59, z_60, z_63, z_65, z_74, z_75, z_81, z_97, z_99, z_104, z_115, z_119, z_122, z_200, z_209, z_210, z_219, z_228, z_255, z_300, z_369, z_999, z_65537, z_268435456, z_1000000000, n_nat, n_add, n_sub, n_mul, n_neg, n_lt, n_le, n_eq, n_ix, n_gd, n_nz, lz_t, bd_some, tn, Int.reduceToNat, tn_1, if_pos, if_neg, if_true, if_false, q5, e9, sp, bi_z, decide_eq_false_iff_not, f_X5_nearNext_58]
          exact z1
        · have cp : cN (N p) = N p := by unfold cN; rw [if_neg c1]
          rw [cp] at sp
          have ck : cN (N k) = 268435456 ∧ N k = 1000000000 ∨ cN (N k) = N k ∧ 0 ≤ N k ∧ N k ≤ B := by
            unfold cN
            split
            · rename_i e; exact Or.inl ⟨rfl, e⟩
            · rename_i e; right; omega
          have rE : rx N p k (rd r (38 + (9 * p + k))) = if N p + rd r (38 + (9 * p + k)) < N k then N p + rd r (38 + (9 * p + k)) else N k := by
            unfold rx
            rw [if_neg (by omega)]
          by_cases c2 : N p + rd r (38 + (9 * p + k)) < N k
          · obtain ⟨s', z1, z2⟩ := go (sA s 2 k (Int32.ofInt (N p + rd r (38 + (9 * p + k))))) (fun j hj => by
              unfold relax
              by_cases e : j = k
              · subst e
                rw [if_pos rfl, rE, if_pos c2]
                simp (disch := omega) only [sI_a, sI_b, sL_a, sL_b, sL_c, wA_a, wA_b, wA_c, wA_d, wB_a, wB_b, wB_c, wB_d, sA_w, sB_w, uN_s, uN_n, up_s, up_n, ul_s, ul_n, p_fst, p_snd]
                unfold cN
                rw [if_neg (by omega)]
              · simp (disch := omega) only [sI_a, sI_b, sL_a, sL_b, sL_c, wA_a, wA_b, wA_c, wA_d, wB_a, wB_b, wB_c, wB_d, sA_w, sB_w, uN_s, uN_n, up_s, up_n, ul_s, ul_n, p_fst, p_snd]
                rw [if_neg e]
                exact hs j hj)
            refine ⟨s', ?_, z2⟩
            simp (disch := omega) only [z_0, z_1, z_2, z_3, z_4, z_5, z_6, z_7, z_8, z_9, z_10, z_11, z_12, z_14, z_18, z_20, z_22, z_24, z_32, z_38, z_40, z_41, z_44, z_48, z_49, z_57, z_59, z_60, z_63, z_65, z_74, z_75, z_81, z_97, z_99, z_104, z_115, z_119, z_122, z_200, z_209, z_210, z_219, z_228, z_255, z_300, z_369, z_999, z_65537, z_268435456, z_1000000000, n_nat, n_add, n_sub, n_mul, n_neg, n_lt, n_le, n_eq, n_ix, n_gd, n_nz, lz_t, bd_some, tn, Int.reduceToNat, tn_1, if_pos, if_neg, if_true, if_false, q5, e9, p9, sp, sk, bi_z, decide_eq_false_iff_not, f_X5_nearNext_58]
            exact z1
          · obtain ⟨s', z1, z2⟩ := go (sA s 2 k (Int32.ofInt (cN (N k)))) (fun j hj => by
              unfold relax
              by_cases e : j = k
              · subst e
                rw [if_pos rfl, rE, if_neg c2]
                simp (disch := omega) only [sI_a, sI_b, sL_a, sL_b, sL_c, wA_a, wA_b, wA_c, wA_d, wB_a, wB_b, wB_c, wB_d, sA_w, sB_w, uN_s, uN_n, up_s, up_n, ul_s, ul_n, p_fst, p_snd]
              · simp (disch := omega) only [sI_a, sI_b, sL_a, sL_b, sL_c, wA_a, wA_b, wA_c, wA_d, wB_a, wB_b, wB_c, wB_d, sA_w, sB_w, uN_s, uN_n, up_s, up_n, ul_s, ul_n, p_fst, p_snd]
                rw [if_neg e]
                exact hs j hj)
            refine ⟨s', ?_, z2⟩
            simp (disch := omega) only [z_0, z_1, z_2, z_3, z_4, z_5, z_6, z_7, z_8, z_9, z_10, z_11, z_12, z_14, z_18, z_20, z_22, z_24, z_32, z_38, z_40, z_41, z_44, z_48, z_49, z_57, z_59, z_60, z_63, z_65, z_74, z_75, z_81, z_97, z_99, z_104, z_115, z_119, z_122, z_200, z_209, z_210, z_219, z_228, z_255, z_300, z_369, z_999, z_65537, z_268435456, z_1000000000, n_nat, n_add, n_sub, n_mul, n_neg, n_lt, n_le, n_eq, n_ix, n_gd, n_nz, lz_t, bd_some, tn, Int.reduceToNat, tn_1, if_pos, if_neg, if_true, if_false, q5, e9, p9, sp, sk, bi_z, decide_eq_false_iff_not, f_X5_nearNext_58]
            exact z1
theorem n29_go {F : Nat} (hF : 100 ≤ F) {sRo : MS} {r : Nat → Int32} (hR : RR sRo r) (h : ROK r) (p2 p3 x4 : Int32) (k19 : Int32 → MS → Option (Int32 × MS)) : ∀ (d k n : Nat) (N : Nat → Int) (B : Int) (s : MS), (k : Int) + d = rd r 5 → d < n → NOK N B → 0 ≤ B → B + 360 * d ≤ 100000000 → (∀ j, j < 9 → s.2.2.1 2 j = Int32.ofInt (cN (N j))) →
    ∃ s', f_X5_nearest_29 F sRo p2 p3 k19 n x4 (Int32.ofInt (k : Int)) s = k19 (x4 + 1) s' ∧ (∀ j, j < 9 → s'.2.2.1 2 j = Int32.ofInt (cN (np r d k N j))) := by
  obtain ⟨q0, q1, q2, q3, q4, q5, q8, q9⟩ := RRb hR
  obtain ⟨t0, t1, t2, t3, t4, t5, t8, t9⟩ := ROKb h
  intro d
  induction d with
  | zero =>
    intro k n N B s hk hn hN hB hB2 hs
    cases n with
    | zero => omega
    | succ n =>
      refine ⟨s, ?_, hs⟩
      rw [f_X5_nearest_29]
      simp (disch := omega) only [z_0, z_1, z_2, z_3, z_4, z_5, z_6, z_7, z_8, z_9, z_10, z_11, z_12, z_14, z_18, z_20, z_22, z_24, z_32, z_38, z_40, z_41, z_44, z_48, z_49, z_57, z_59, z_60, z_63, z_65, z_74, z_75, z_81, z_97, z_99, z_104, z_115, z_119, z_122, z_200, z_209, z_210, z_219, z_228, z_255, z_300, z_369, z_999, z_65537, z_268435456, z_1000000000, n_nat, n_add, n_sub, n_mul, n_neg, n_lt, n_le, n_eq, n_ix, n_gd, n_nz, lz_t, bd_some, tn, Int.reduceToNat, tn_1, if_pos, if_neg, if_true, if_false, q5, f_X5_nearest_51]
  | succ d ih =>
    intro k n N B s hk hn hN hB hB2 hs
    cases n with
    | zero => omega
    | succ n =>
      obtain ⟨s1, y1, y2⟩ := nn_go (F := F) hR h (p := k) (by omega) (rd r 5).toNat 0 F N B s (by omega) (by omega) hN hB (by omega) hs
      obtain ⟨s', z1, z2⟩ := ih (k + 1) n (nq r k (rd r 5).toNat 0 N) (B + 360) s1 (by omega) (by omega) (by
        have := nq_ok h (p := k) (by omega) (rd r 5).toNat 0 N B (by omega) hN
        intro j hj
        have := this j hj
        omega) (by omega) (by omega) y2
      refine ⟨s', ?_, z2⟩
      have y1' : f_X5_nearNext F sRo (Int32.ofInt (k : Int)) s = some s1 := y1
      rw [f_X5_nearest_29]
      simp (disch := omega) only [z_0, z_1, z_2, z_3, z_4, z_5, z_6, z_7, z_8, z_9, z_10, z_11, z_12, z_14, z_18, z_20, z_22, z_24, z_32, z_38, z_40, z_41, z_44, z_48, z_49, z_57, z_59, z_60, z_63, z_65, z_74, z_75, z_81, z_97, z_99, z_104, z_115, z_119, z_122, z_200, z_209, z_210, z_219, z_228, z_255, z_300, z_369, z_999, z_65537, z_268435456, z_1000000000, n_nat, n_add, n_sub, n_mul, n_neg, n_lt, n_le, n_eq, n_ix, n_gd, n_nz, lz_t, bd_some, tn, Int.reduceToNat, tn_1, if_pos, if_neg, if_true, if_false, q5, y1']
      exact z1
theorem n19_go {F : Nat} (hF : 100 ≤ F) {sRo : MS} {r : Nat → Int32} (hR : RR sRo r) (h : ROK r) (p2 p3 : Int32) : ∀ (d k n : Nat) (N : Nat → Int) (B : Int) (s : MS), k + d = 9 → d < n → NOK N B → 0 ≤ B → B + 3600 * d ≤ 10000000 → (∀ j, j < 9 → s.2.2.1 2 j = Int32.ofInt (cN (N j))) →
    ∃ s', f_X5_nearest_19 F sRo p2 p3 n (Int32.ofInt (k : Int)) s = f_X5_nearest_57 F sRo p2 p3 s' ∧ (∀ j, j < 9 → s'.2.2.1 2 j = Int32.ofInt (cN (nr r d N j))) ∧ NOK (nr r d N) 20000000 := by
  obtain ⟨t0, t1, t2, t3, t4, t5, t8, t9⟩ := ROKb h
  intro d
  induction d with
  | zero =>
    intro k n N B s hk hn hN hB hB2 hs
    cases n with
    | zero => omega
    | succ n =>
      refine ⟨s, ?_, hs, fun j hj => by have := hN j hj; show N j = _ ∨ 0 ≤ N j ∧ N j ≤ _; omega⟩
      rw [f_X5_nearest_19]
      simp (disch := omega) only [z_0, z_1, z_2, z_3, z_4, z_5, z_6, z_7, z_8, z_9, z_10, z_11, z_12, z_14, z_18, z_20, z_22, z_24, z_32, z_38, z_40, z_41, z_44, z_48, z_49, z_57, z_59, z_60, z_63, z_65, z_74, z_75, z_81, z_97, z_99, z_104, z_115, z_119, z_122, z_200, z_209, z_210, z_219, z_228, z_255, z_300, z_369, z_999, z_65537, z_268435456, z_1000000000, n_nat, n_add, n_sub, n_mul, n_neg, n_lt, n_le, n_eq, n_ix, n_gd, n_nz, lz_t, bd_some, tn, Int.reduceToNat, tn_1, if_pos, if_neg, if_true, if_false]
  | succ d ih =>
    intro k n N B s hk hn hN hB hB2 hs
    cases n with
    | zero => omega
    | succ n =>
      obtain ⟨s1, y1, y2⟩ := n29_go (F := F) hF hR h p2 p3 (Int32.ofInt (k : Int)) (f_X5_nearest_19 F sRo p2 p3 n) (rd r 5).toNat 0 F N B s (by omega) (by omega) hN hB (by omega) hs
      obtain ⟨s', z1, z2, z3⟩ := ih (k + 1) n (np r (rd r 5).toNat 0 N) (B + 3600) s1 (by omega) (by omega) (by
        have := np_ok h (rd r 5).toNat 0 N B (by omega) hN
        intro j hj
        have := this j hj
        omega) (by omega) (by omega) y2
      refine ⟨s', ?_, z2, z3⟩
      have y1' : f_X5_nearest_29 F sRo p2 p3 (f_X5_nearest_19 F sRo p2 p3 n) F (Int32.ofInt (k : Int)) (Int32.ofInt 0) s = _ := y1
      rw [f_X5_nearest_19, ← z1]
      simp (disch := omega) only [z_0, z_1, z_2, z_3, z_4, z_5, z_6, z_7, z_8, z_9, z_10, z_11, z_12, z_14, z_18, z_20, z_22, z_24, z_32, z_38, z_40, z_41, z_44, z_48, z_49, z_57, z_59, z_60, z_63, z_65, z_74, z_75, z_81, z_97, z_99, z_104, z_115, z_119, z_122, z_200, z_209, z_210, z_219, z_228, z_255, z_300, z_369, z_999, z_65537, z_268435456, z_1000000000, n_nat, n_add, n_sub, n_mul, n_neg, n_lt, n_le, n_eq, n_ix, n_gd, n_nz, lz_t, bd_some, tn, Int.reduceToNat, tn_1, if_pos, if_neg, if_true, if_false, y1']
      rfl
def N0 (a j : Nat) : Int := if j = a then 0 else 1000000000
theorem nearest_e {F : Nat} (hF : 1001 ≤ F) {sRo : MS} {r : Nat → Int32} (hR : RR sRo r) (h : ROK r) {a b : Nat} (ha : a < 9) (hb : b < 9) (s : MS) : ∃ s', f_X5_nearest F sRo (Int32.ofInt (a : Int)) (Int32.ofInt (b : Int)) s = some (Int32.ofInt (ans (nr r 9 (N0 a) b)), s') := by
  obtain ⟨g, g1, g2, -⟩ := fillI (F := F) 9 (by omega) hF (Int32.ofInt 268435456) (s.2.2.1 2)
  obtain ⟨s', z1, z2, z3⟩ := n19_go (F := F) (by omega) hR h (Int32.ofInt (a : Int)) (Int32.ofInt (b : Int)) 9 0 F (N0 a) 0 (sA (wA s 2 g) 2 a (Int32.ofInt 0)) (by omega) (by omega) (fun j hj => by unfold N0; split <;> omega) (by omega) (by omega) (by
    intro j hj
    unfold N0 cN
    by_cases e : j = a
    · subst e
      rw [if_pos rfl]
      simp (disch := omega) only [sI_a, sI_b, sL_a, sL_b, sL_c, wA_a, wA_b, wA_c, wA_d, wB_a, wB_b, wB_c, wB_d, sA_w, sB_w, uN_s, uN_n, up_s, up_n, ul_s, ul_n, p_fst, p_snd]
      rfl
    · simp (disch := omega) only [sI_a, sI_b, sL_a, sL_b, sL_c, wA_a, wA_b, wA_c, wA_d, wB_a, wB_b, wB_c, wB_d, sA_w, sB_w, uN_s, uN_n, up_s, up_n, ul_s, ul_n, p_fst, p_snd]
      rw [if_neg e, if_pos rfl]
      exact g2 j (by omega))
  refine ⟨s', ?_⟩
  have g1' : f_J7_fill_53178 F 9 (Int32.ofInt 268435456) (s.2.2.1 2) = some g := g1
  have z1' : f_X5_nearest_19 F sRo (Int32.ofInt (a : Int)) (Int32.ofInt (b : Int)) F (Int32.ofInt 0) (sA (wA s 2 g) 2 a (Int32.ofInt 0)) = _ := z1
  have vb := z2 b hb
  have nb := z3 b hb
  unfold f_X5_nearest
  simp (disch := omega) only [z_0, z_1, z_2, z_3, z_4, z_5, z_6, z_7, z_8, z_9, z_10, z_11, z_12, z_14, z_18, z_20, z_22, z_24, z_32, z_38, z_40, z_41, z_44, z_48, z_49, z_57, z_59, z_60, z_63, z_65, z_74, z_75, z_81, z_97, z_99, z_104, z_115, z_119, z_122, z_200, z_209, z_210, z_219, z_228, z_255, z_300, z_369, z_999, z_65537, z_268435456, z_1000000000, n_nat, n_add, n_sub, n_mul, n_neg, n_lt, n_le, n_eq, n_ix, n_gd, n_nz, lz_t, bd_some, tn, Int.reduceToNat, tn_1, if_pos, if_neg, if_true, if_false, g1', z1', f_X5_nearest_57, vb]
  unfold cN ans
  by_cases c : nr r 9 (N0 a) b = 1000000000
  · simp (disch := omega) only [z_0, z_1, z_2, z_3, z_4, z_5, z_6, z_7, z_8, z_9, z_10, z_11, z_12, z_14, z_18, z_20, z_22, z_24, z_32, z_38, z_40, z_41, z_44, z_48, z_49, z_57, z_59, z_60, z_63, z_65, z_74, z_75, z_81, z_97, z_99, z_104, z_115, z_119, z_122, z_200, z_209, z_210, z_219, z_228, z_255, z_300, z_369, z_999, z_65537, z_268435456, z_1000000000, n_nat, n_add, n_sub, n_mul, n_neg, n_lt, n_le, n_eq, n_ix, n_gd, n_nz, lz_t, bd_some, tn, Int.reduceToNat, tn_1, if_pos, if_neg, if_true, if_false]
  · simp (disch := omega) only [z_0, z_1, z_2, z_3, z_4, z_5, z_6, z_7, z_8, z_9, z_10, z_11, z_12, z_14, z_18, z_20, z_22, z_24, z_32, z_38, z_40, z_41, z_44, z_48, z_49, z_57, z_59, z_60, z_63, z_65, z_74, z_75, z_81, z_97, z_99, z_104, z_115, z_119, z_122, z_200, z_209, z_210, z_219, z_228, z_255, z_300, z_369, z_999, z_65537, z_268435456, z_1000000000, n_nat, n_add, n_sub, n_mul, n_neg, n_lt, n_le, n_eq, n_ix, n_gd, n_nz, lz_t, bd_some, tn, Int.reduceToNat, tn_1, if_pos, if_neg, if_true, if_false]
/-- the reference's -/
theorem less_e {F : Nat} {n k : Nat} {v w : Int} {f : Nat → Int32} (hk : k < n) (hn : n ≤ 1000) (hf : f k = Int32.ofInt w) (v1 : -2147483648 ≤ v) (v2 : v < 2147483648) (w1 : -2147483648 ≤ w) (w2 : w < 2147483648) : f_X11_less F n (Int32.ofInt (k : Int)) (Int32.ofInt v) f = if v < w then some (Int32.ofInt 1, upd f k (Int32.ofInt v)) else some (Int32.ofInt 0, f) := by
  unfold f_X11_less
  by_cases c : v < w
  · simp (disch := omega) only [z_0, z_1, z_2, z_3, z_4, z_5, z_6, z_7, z_8, z_9, z_10, z_11, z_12, z_14, z_18, z_20, z_22, z_24, z_32, z_38, z_40, z_41, z_44, z_48, z_49, z_57, z_59, z_60, z_63, z_65, z_74, z_75, z_81, z_97, z_99, z_104, z_115, z_119, z_122, z_200, z_209, z_210, z_219, z_228, z_255, z_300, z_369, z_999, z_65537, z_268435456, z_1000000000, n_nat, n_add, n_sub, n_mul, n_neg, n_lt, n_le, n_eq, n_ix, n_gd, n_nz, lz_t, bd_some, tn, Int.reduceToNat, tn_1, if_pos, if_neg, if_true, if_false, hf]
  · simp (disch := omega) only [z_0, z_1, z_2, z_3, z_4, z_5, z_6, z_7, z_8, z_9, z_10, z_11, z_12, z_14, z_18, z_20, z_22, z_24, z_32, z_38, z_40, z_41, z_44, z_48, z_49, z_57, z_59, z_60, z_63, z_65, z_74, z_75, z_81, z_97, z_99, z_104, z_115, z_119, z_122, z_200, z_209, z_210, z_219, z_228, z_255, z_300, z_369, z_999, z_65537, z_268435456, z_1000000000, n_nat, n_add, n_sub, n_mul, n_neg, n_lt, n_le, n_eq, n_ix, n_gd, n_nz, lz_t, bd_some, tn, Int.reduceToNat, tn_1, if_pos, if_neg, if_true, if_false, hf]
theorem KP_w (s : MS) {a : Nat} (f : Nat → Int32) (ha : 23 ≤ a) : KP s (wA s a f) := ⟨fun _ _ => rfl, fun b hb => uN_n _ _ _ _ (by omega)⟩
theorem r84 {F : Nat} {r : Nat → Int32} (h : ROK r) {p : Nat} (hp : p < 9) (p1 p2 x3 : Int32) (k74 : Int32 → Int32 → MS → Option (Int32 × MS)) : ∀ (d k n : Nat) (N : Nat → Int) (B : Int) (s : MS), k + d = 9 → d < n → NOK N B → 0 ≤ B → B + 40 * d ≤ 200000000 → s.2.2.1 15 = r → (∀ j, j < 9 → s.2.2.1 30 j = Int32.ofInt (N j)) →
    ∃ s', f_X11_near_84 F p1 p2 k74 n x3 (Int32.ofInt (p : Int)) (Int32.ofInt (k : Int)) s = k74 x3 (Int32.ofInt ((p : Int) + 1)) s' ∧ (∀ j, j < 9 → s'.2.2.1 30 j = Int32.ofInt (nq r p d k N j)) ∧ KP s s' := by
  obtain ⟨t0, t1, t2, t3, t4, t5, t8, t9⟩ := ROKb h
  intro d
  induction d with
  | zero =>
    intro k n N B s hk hn hN hB hB2 hr hs
    cases n with
    | zero => omega
    | succ n =>
      refine ⟨s, ?_, hs, KP_r s⟩
      rw [f_X11_near_84]
      simp (disch := omega) only [z_0, z_1, z_2, z_3, z_4, z_5, z_6, z_7, z_8, z_9, z_10, z_11, z_12, z_14, z_18, z_20, z_22, z_24, z_32, z_38, z_40, z_41, z_44, z_48, z_49, z_57, z_59, z_60, z_63, z_65, z_74, z_75, z_81, z_97, z_99, z_104, z_115, z_119, z_122, z_200, z_209, z_210, z_219, z_228, z_255, z_300, z_369, z_999, z_65537, z_268435456, z_1000000000, n_nat, n_add, n_sub, n_mul, n_neg, n_lt, n_le, n_eq, n_ix, n_gd, n_nz, lz_t, bd_some, tn, Int.reduceToNat, tn_1, if_pos, if_neg, if_true, if_false, f_X11_near_147]
  | succ d ih =>
    intro k n N B s hk hn hN hB hB2 hr hs
    cases n with
    | zero => omega
    | succ n =>
      have rb := road_b h hp (show k < 9 by omega)
      have Br := B_road (F := F) hr hp (show k < 9 by omega)
      have sp := hs p hp
      have sk := hs k (by omega)
      have np' := hN p hp
      have nk := hN k (by omega)
      have ok' := relax_ok h hp (show k < 9 by omega) hN
      rw [f_X11_near_84]
      have go : ∀ s1 : MS, KP s s1 → (∀ j, j < 9 → s1.2.2.1 30 j = Int32.ofInt (relax r p k N j)) → ∃ s', f_X11_near_84 F p1 p2 k74 n x3 (Int32.ofInt (p : Int)) (Int32.ofInt ((k : Int) + 1)) s1 = k74 x3 (Int32.ofInt ((p : Int) + 1)) s' ∧ (∀ j, j < 9 → s'.2.2.1 30 j = Int32.ofInt (nq r p (d + 1) k N j)) ∧ KP s s' := by
        intro s1 hk1 h1
        obtain ⟨s', z1, z2, z3⟩ := ih (k + 1) n (relax r p k N) (B + 40) s1 (by omega) (by omega) ok' (by omega) (by omega) ((hk1.2 15 (by omega)).trans hr) h1
        exact ⟨s', z1, z2, KP_t hk1 z3⟩
      by_cases c1 : N p = 1000000000
      · obtain ⟨s', z1, z2, z3⟩ := go s (KP_r s) (fun j hj => by
          unfold relax rx
          rw [if_pos (Or.inl c1)]
          split
          · rename_i e; subst e; exact hs j hj
          · exact hs j hj)
        refine ⟨s', ?_, z2, z3⟩
        simp (disch := omega) only [z_0, z_1, z_2, z_3, z_4, z_5, z_6, z_7, z_8, z_9, z_10, z_11, z_12, z_14, z_18, z_20, z_22, z_24, z_32, z_38, z_40, z_41, z_44, z_48, z_49, z_57, z_59, z_60, z_63, z_65, z_74, z_75, z_81, z_97, z_99, z_104, z_115, z_119, z_122, z_200, z_209, z_210, z_219, z_228, z_255, z_300, z_369, z_999, z_65537, z_268435456, z_1000000000, n_nat, n_add, n_sub, n_mul, n_neg, n_lt, n_le, n_eq, n_ix, n_gd, n_nz, lz_t, bd_some, tn, Int.reduceToNat, tn_1, if_pos, if_neg, if_true, if_false, sp, f_X11_near_141]
        exact z1
      · by_cases c0 : rd r (38 + (9 * p + k)) = 0
        · obtain ⟨s', z1, z2, z3⟩ := go s (KP_r s) (fun j hj => by rw [relax_id c0]; exact hs j hj)
          refine ⟨s', ?_, z2, z3⟩
          simp (disch := omega) only [z_0, z_1, z_2, z_3, z_4, z_5, z_6, z_7, z_8, z_9, z_10, z_11, z_12, z_14, z_18, z_20, z_22, z_24, z_32, z_38, z_40, z_41, z_44, z_48, z_49, z_57, z_59, z_60, z_63, z_65, z_74, z_75, z_81, z_97, z_99, z_104, z_115, z_119, z_122, z_200, z_209, z_210, z_219, z_228, z_255, z_300, z_369, z_999, z_65537, z_268435456, z_1000000000, n_nat, n_add, n_sub, n_mul, n_neg, n_lt, n_le, n_eq, n_ix, n_gd, n_nz, lz_t, bd_some, tn, Int.reduceToNat, tn_1, if_pos, if_neg, if_true, if_false, sp, Br, f_X11_near_141]
          exact z1
        · have rE : rx N p k (rd r (38 + (9 * p + k))) = if N p + rd r (38 + (9 * p + k)) < N k then N p + rd r (38 + (9 * p + k)) else N k := by
            unfold rx
            rw [if_neg (by omega)]
          have le := less_e (F := F) (n := 9) (k := k) (v := N p + rd r (38 + (9 * p + k))) (by omega) (by omega) sk (by omega) (by omega) (by omega) (by omega)
          by_cases c2 : N p + rd r (38 + (9 * p + k)) < N k
          · rw [if_pos c2] at le
            obtain ⟨s', z1, z2, z3⟩ := go (wA s 30 (upd (s.2.2.1 30) k (Int32.ofInt (N p + rd r (38 + (9 * p + k)))))) (KP_w _ _ (by omega)) (fun j hj => by
              unfold relax
              by_cases e : j = k
              · subst e
                rw [if_pos rfl, rE, if_pos c2]
                simp (disch := omega) only [sI_a, sI_b, sL_a, sL_b, sL_c, wA_a, wA_b, wA_c, wA_d, wB_a, wB_b, wB_c, wB_d, sA_w, sB_w, uN_s, uN_n, up_s, up_n, ul_s, ul_n, p_fst, p_snd]
              · simp (disch := omega) only [sI_a, sI_b, sL_a, sL_b, sL_c, wA_a, wA_b, wA_c, wA_d, wB_a, wB_b, wB_c, wB_d, sA_w, sB_w, uN_s, uN_n, up_s, up_n, ul_s, ul_n, p_fst, p_snd]
                rw [if_neg e]
                exact hs j hj)
            refine ⟨s', ?_, z2, z3⟩
            simp (disch := omega) only [z_0, z_1, z_2, z_3, z_4, z_5, z_6, z_7, z_8, z_9, z_10, z_11, z_12, z_14, z_18, z_20, z_22, z_24, z_32, z_38, z_40, z_41, z_44, z_48, z_49, z_57, z_59, z_60, z_63, z_65, z_74, z_75, z_81, z_97, z_99, z_104, z_115, z_119, z_122, z_200, z_209, z_210, z_219, z_228, z_255, z_300, z_369, z_999, z_65537, z_268435456, z_1000000000, n_nat, n_add, n_sub, n_mul, n_neg, n_lt, n_le, n_eq, n_ix, n_gd, n_nz, lz_t, bd_some, tn, Int.reduceToNat, tn_1, if_pos, if_neg, if_true, if_false, sp, Br, le, p_snd, f_X11_near_141]
            exact z1
          · rw [if_neg c2] at le
            obtain ⟨s', z1, z2, z3⟩ := go s (KP_r s) (fun j hj => by
              unfold relax
              by_cases e : j = k
              · subst e
                rw [if_pos rfl, rE, if_neg c2]
                exact hs j hj
              · rw [if_neg e]
                exact hs j hj)
            refine ⟨s', ?_, z2, z3⟩
            simp (disch := omega) only [z_0, z_1, z_2, z_3, z_4, z_5, z_6, z_7, z_8, z_9, z_10, z_11, z_12, z_14, z_18, z_20, z_22, z_24, z_32, z_38, z_40, z_41, z_44, z_48, z_49, z_57, z_59, z_60, z_63, z_65, z_74, z_75, z_81, z_97, z_99, z_104, z_115, z_119, z_122, z_200, z_209, z_210, z_219, z_228, z_255, z_300, z_369, z_999, z_65537, z_268435456, z_1000000000, n_nat, n_add, n_sub, n_mul, n_neg, n_lt, n_le, n_eq, n_ix, n_gd, n_nz, lz_t, bd_some, tn, Int.reduceToNat, tn_1, if_pos, if_neg, if_true, if_false, sp, Br, le, p_snd, wA_id, f_X11_near_141]
            exact z1
theorem r74 {F : Nat} (hF : 100 ≤ F) {r : Nat → Int32} (h : ROK r) (p1 p2 x3 : Int32) (k65 : Int32 → MS → Option (Int32 × MS)) : ∀ (d k n : Nat) (N : Nat → Int) (B : Int) (s : MS), k + d = 9 → d < n → NOK N B → 0 ≤ B → B + 360 * d ≤ 100000000 → s.2.2.1 15 = r → (∀ j, j < 9 → s.2.2.1 30 j = Int32.ofInt (N j)) →
    ∃ s', f_X11_near_74 F p1 p2 k65 n x3 (Int32.ofInt (k : Int)) s = k65 (x3 + 1) s' ∧ (∀ j, j < 9 → s'.2.2.1 30 j = Int32.ofInt (np r d k N j)) ∧ KP s s' := by
  obtain ⟨t0, t1, t2, t3, t4, t5, t8, t9⟩ := ROKb h
  intro d
  induction d with
  | zero =>
    intro k n N B s hk hn hN hB hB2 hr hs
    cases n with
    | zero => omega
    | succ n =>
      refine ⟨s, ?_, hs, KP_r s⟩
      rw [f_X11_near_74]
      simp (disch := omega) only [z_0, z_1, z_2, z_3, z_4, z_5, z_6, z_7, z_8, z_9, z_10, z_11, z_12, z_14, z_18, z_20, z_22, z_24, z_32, z_38, z_40, z_41, z_44, z_48, z_49, z_57, z_59, z_60, z_63, z_65, z_74, z_75, z_81, z_97, z_99, z_104, z_115, z_119, z_122, z_200, z_209, z_210, z_219, z_228, z_255, z_300, z_369, z_999, z_65537, z_268435456, z_1000000000, n_nat, n_add, n_sub, n_mul, n_neg, n_lt, n_le, n_eq, n_ix, n_gd, n_nz, lz_t, bd_some, tn, Int.reduceToNat, tn_1, if_pos, if_neg, if_true, if_false, f_X11_near_153]
  | succ d ih =>
    intro k n N B s hk hn hN hB hB2 hr hs
    cases n with
    | zero => omega
    | succ n =>
      obtain ⟨s1, y1, y2, y3⟩ := r84 (F := F) h (p := k) (by omega) p1 p2 x3 (f_X11_near_74 F p1 p2 k65 n) 9 0 F N B s (by omega) (by omega) hN hB (by omega) hr hs
      rw [nq_9 h (by omega)] at y2
      obtain ⟨s', z1, z2, z3⟩ := ih (k + 1) n (nq r k (rd r 5).toNat 0 N) (B + 360) s1 (by omega) (by omega) (by
        have := nq_ok h (p := k) (by omega) (rd r 5).toNat 0 N B (by omega) hN
        intro j hj
        have := this j hj
        omega) (by omega) (by omega) ((y3.2 15 (by omega)).trans hr) y2
      refine ⟨s', ?_, z2, KP_t y3 z3⟩
      have y1' : f_X11_near_84 F p1 p2 (f_X11_near_74 F p1 p2 k65 n) F x3 (Int32.ofInt (k : Int)) (Int32.ofInt 0) s = _ := y1
      rw [f_X11_near_74, ← z1]
      simp (disch := omega) only [z_0, z_1, z_2, z_3, z_4, z_5, z_6, z_7, z_8, z_9, z_10, z_11, z_12, z_14, z_18, z_20, z_22, z_24, z_32, z_38, z_40, z_41, z_44, z_48, z_49, z_57, z_59, z_60, z_63, z_65, z_74, z_75, z_81, z_97, z_99, z_104, z_115, z_119, z_122, z_200, z_209, z_210, z_219, z_228, z_255, z_300, z_369, z_999, z_65537, z_268435456, z_1000000000, n_nat, n_add, n_sub, n_mul, n_neg, n_lt, n_le, n_eq, n_ix, n_gd, n_nz, lz_t, bd_some, tn, Int.reduceToNat, tn_1, if_pos, if_neg, if_true, if_false, y1']
      rfl
theorem r65 {F : Nat} (hF : 100 ≤ F) {r : Nat → Int32} (h : ROK r) (p1 p2 : Int32) : ∀ (d k n : Nat) (N : Nat → Int) (B : Int) (s : MS), k + d = 9 → d < n → NOK N B → 0 ≤ B → B + 3600 * d ≤ 10000000 → s.2.2.1 15 = r → (∀ j, j < 9 → s.2.2.1 30 j = Int32.ofInt (N j)) →
    ∃ s', f_X11_near_65 F p1 p2 n (Int32.ofInt (k : Int)) s = f_X11_near_159 F p1 p2 s' ∧ (∀ j, j < 9 → s'.2.2.1 30 j = Int32.ofInt (nr r d N j)) ∧ KP s s' ∧ NOK (nr r d N) 20000000 := by
  obtain ⟨t0, t1, t2, t3, t4, t5, t8, t9⟩ := ROKb h
  intro d
  induction d with
  | zero =>
    intro k n N B s hk hn hN hB hB2 hr hs
    cases n with
    | zero => omega
    | succ n =>
      refine ⟨s, ?_, hs, KP_r s, fun j hj => by have := hN j hj; show N j = _ ∨ 0 ≤ N j ∧ N j ≤ _; omega⟩
      rw [f_X11_near_65]
      simp (disch := omega) only [z_0, z_1, z_2, z_3, z_4, z_5, z_6, z_7, z_8, z_9, z_10, z_11, z_12, z_14, z_18, z_20, z_22, z_24, z_32, z_38, z_40, z_41, z_44, z_48, z_49, z_57, z_59, z_60, z_63, z_65, z_74, z_75, z_81, z_97, z_99, z_104, z_115, z_119, z_122, z_200, z_209, z_210, z_219, z_228, z_255, z_300, z_369, z_999, z_65537, z_268435456, z_1000000000, n_nat, n_add, n_sub, n_mul, n_neg, n_lt, n_le, n_eq, n_ix, n_gd, n_nz, lz_t, bd_some, tn, Int.reduceToNat, tn_1, if_pos, if_neg, if_true, if_false]
  | succ d ih =>
    intro k n N B s hk hn hN hB hB2 hr hs
    cases n with
    | zero => omega
    | succ n =>
      obtain ⟨s1, y1, y2, y3⟩ := r74 (F := F) hF h p1 p2 (Int32.ofInt (k : Int)) (f_X11_near_65 F p1 p2 n) 9 0 F N B s (by omega) (by omega) hN hB (by omega) hr hs
      rw [np_9 h] at y2
      obtain ⟨s', z1, z2, z3, z4⟩ := ih (k + 1) n (np r (rd r 5).toNat 0 N) (B + 3600) s1 (by omega) (by omega) (by
        have := np_ok h (rd r 5).toNat 0 N B (by omega) hN
        intro j hj
        have := this j hj
        omega) (by omega) (by omega) ((y3.2 15 (by omega)).trans hr) y2
      refine ⟨s', ?_, z2, KP_t y3 z3, z4⟩
      have y1' : f_X11_near_74 F p1 p2 (f_X11_near_65 F p1 p2 n) F (Int32.ofInt (k : Int)) (Int32.ofInt 0) s = _ := y1
      rw [f_X11_near_65, ← z1]
      simp (disch := omega) only [z_0, z_1, z_2, z_3, z_4, z_5, z_6, z_7, z_8, z_9, z_10, z_11, z_12, z_14, z_18, z_20, z_22, z_24, z_32, z_38, z_40, z_41, z_44, z_48, z_49, z_57, z_59, z_60, z_63, z_65, z_74, z_75, z_81, z_97, z_99, z_104, z_115, z_119, z_122, z_200, z_209, z_210, z_219, z_228, z_255, z_300, z_369, z_999, z_65537, z_268435456, z_1000000000, n_nat, n_add, n_sub, n_mul, n_neg, n_lt, n_le, n_eq, n_ix, n_gd, n_nz, lz_t, bd_some, tn, Int.reduceToNat, tn_1, if_pos, if_neg, if_true, if_false, y1']
      rfl
theorem r33 {F : Nat} (hF : 100 ≤ F) {r : Nat → Int32} (h : ROK r) {a b : Nat} (ha : a < 9) (hb : b < 9) : ∀ (d k n : Nat) (s : MS), k + d = 9 → d < n → s.2.2.1 15 = r → (∀ j, j < k → s.2.2.1 30 j = Int32.ofInt (N0 a j)) →
    ∃ s', f_X11_near_33 F (Int32.ofInt (a : Int)) (Int32.ofInt (b : Int)) n (Int32.ofInt (k : Int)) s = some (Int32.ofInt (ans (nr r 9 (N0 a) b)), s') ∧ KP s s' := by
  intro d
  induction d with
  | zero =>
    intro k n s hk hn hr hs
    cases n with
    | zero => omega
    | succ n =>
      obtain ⟨s', z1, z2, z3, z4⟩ := r65 (F := F) hF h (Int32.ofInt (a : Int)) (Int32.ofInt (b : Int)) 9 0 F (N0 a) 0 s (by omega) (by omega) (fun j hj => by unfold N0; split <;> omega) (by omega) (by omega) hr (fun j hj => hs j (by omega))
      have z1' : f_X11_near_65 F (Int32.ofInt (a : Int)) (Int32.ofInt (b : Int)) F (Int32.ofInt 0) s = _ := z1
      have vb := z2 b hb
      have nb := z4 b hb
      refine ⟨s', ?_, z3⟩
      rw [f_X11_near_33]
      simp (disch := omega) only [z_0, z_1, z_2, z_3, z_4, z_5, z_6, z_7, z_8, z_9, z_10, z_11, z_12, z_14, z_18, z_20, z_22, z_24, z_32, z_38, z_40, z_41, z_44, z_48, z_49, z_57, z_59, z_60, z_63, z_65, z_74, z_75, z_81, z_97, z_99, z_104, z_115, z_119, z_122, z_200, z_209, z_210, z_219, z_228, z_255, z_300, z_369, z_999, z_65537, z_268435456, z_1000000000, n_nat, n_add, n_sub, n_mul, n_neg, n_lt, n_le, n_eq, n_ix, n_gd, n_nz, lz_t, bd_some, tn, Int.reduceToNat, tn_1, if_pos, if_neg, if_true, if_false, f_X11_near_63, z1', f_X11_near_159, vb]
      unfold ans
      by_cases c : nr r 9 (N0 a) b = 1000000000
      · simp (disch := omega) only [z_0, z_1, z_2, z_3, z_4, z_5, z_6, z_7, z_8, z_9, z_10, z_11, z_12, z_14, z_18, z_20, z_22, z_24, z_32, z_38, z_40, z_41, z_44, z_48, z_49, z_57, z_59, z_60, z_63, z_65, z_74, z_75, z_81, z_97, z_99, z_104, z_115, z_119, z_122, z_200, z_209, z_210, z_219, z_228, z_255, z_300, z_369, z_999, z_65537, z_268435456, z_1000000000, n_nat, n_add, n_sub, n_mul, n_neg, n_lt, n_le, n_eq, n_ix, n_gd, n_nz, lz_t, bd_some, tn, Int.reduceToNat, tn_1, if_pos, if_neg, if_true, if_false]
      · simp (disch := omega) only [z_0, z_1, z_2, z_3, z_4, z_5, z_6, z_7, z_8, z_9, z_10, z_11, z_12, z_14, z_18, z_20, z_22, z_24, z_32, z_38, z_40, z_41, z_44, z_48, z_49, z_57, z_59, z_60, z_63, z_65, z_74, z_75, z_81, z_97, z_99, z_104, z_115, z_119, z_122, z_200, z_209, z_210, z_219, z_228, z_255, z_300, z_369, z_999, z_65537, z_268435456, z_1000000000, n_nat, n_add, n_sub, n_mul, n_neg, n_lt, n_le, n_eq, n_ix, n_gd, n_nz, lz_t, bd_some, tn, Int.reduceToNat, tn_1, if_pos, if_neg, if_true, if_false]
  | succ d ih =>
    intro k n s hk hn hr hs
    cases n with
    | zero => omega
    | succ n =>
      obtain ⟨s', z1, z2⟩ := ih (k + 1) n (sA s 30 k (Int32.ofInt (N0 a k))) (by omega) (by omega) (by simp (disch := omega) only [sI_a, sI_b, sL_a, sL_b, sL_c, wA_a, wA_b, wA_c, wA_d, wB_a, wB_b, wB_c, wB_d, sA_w, sB_w, uN_s, uN_n, up_s, up_n, ul_s, ul_n, p_fst, p_snd]; exact hr) (fun j hj => by
        by_cases e : j = k
        · subst e
          simp (disch := omega) only [sI_a, sI_b, sL_a, sL_b, sL_c, wA_a, wA_b, wA_c, wA_d, wB_a, wB_b, wB_c, wB_d, sA_w, sB_w, uN_s, uN_n, up_s, up_n, ul_s, ul_n, p_fst, p_snd]
        · simp (disch := omega) only [sI_a, sI_b, sL_a, sL_b, sL_c, wA_a, wA_b, wA_c, wA_d, wB_a, wB_b, wB_c, wB_d, sA_w, sB_w, uN_s, uN_n, up_s, up_n, ul_s, ul_n, p_fst, p_snd]
          exact hs j (by omega))
      refine ⟨s', ?_, KP_t (KP_w _ _ (by omega)) z2⟩
      rw [f_X11_near_33]
      unfold N0 at z1
      by_cases c : k = a
      · rw [if_pos c] at z1
        simp (disch := omega) only [z_0, z_1, z_2, z_3, z_4, z_5, z_6, z_7, z_8, z_9, z_10, z_11, z_12, z_14, z_18, z_20, z_22, z_24, z_32, z_38, z_40, z_41, z_44, z_48, z_49, z_57, z_59, z_60, z_63, z_65, z_74, z_75, z_81, z_97, z_99, z_104, z_115, z_119, z_122, z_200, z_209, z_210, z_219, z_228, z_255, z_300, z_369, z_999, z_65537, z_268435456, z_1000000000, n_nat, n_add, n_sub, n_mul, n_neg, n_lt, n_le, n_eq, n_ix, n_gd, n_nz, lz_t, bd_some, tn, Int.reduceToNat, tn_1, if_pos, if_neg, if_true, if_false, f_X11_near_56]
        exact z1
      · rw [if_neg c] at z1
        simp (disch := omega) only [z_0, z_1, z_2, z_3, z_4, z_5, z_6, z_7, z_8, z_9, z_10, z_11, z_12, z_14, z_18, z_20, z_22, z_24, z_32, z_38, z_40, z_41, z_44, z_48, z_49, z_57, z_59, z_60, z_63, z_65, z_74, z_75, z_81, z_97, z_99, z_104, z_115, z_119, z_122, z_200, z_209, z_210, z_219, z_228, z_255, z_300, z_369, z_999, z_65537, z_268435456, z_1000000000, n_nat, n_add, n_sub, n_mul, n_neg, n_lt, n_le, n_eq, n_ix, n_gd, n_nz, lz_t, bd_some, tn, Int.reduceToNat, tn_1, if_pos, if_neg, if_true, if_false, f_X11_near_56]
        exact z1
theorem P_near {F : Nat} (hF : 1001 ≤ F) {sMn sRo sNe sMo : MS} (hR : RR sRo (sMo.2.2.1 15)) (H : HR (sMo.2.2.1 15) (sMo.1 14)) (p q : Int32) :
    ∃ v sMn' sNe' sMo', f_X10_near F sRo p q sMn sNe = some (v, sMn', sNe') ∧ f_X11_near F p q sMo = some (v, sMo') ∧ TU sMn sMo sMn' sMo' := by
  unfold f_X10_near f_X11_near f_X11_near_25
  rw [X10_areTwo hR, bd_some, X11_good', bd_some, X11_isPlace (s := gQ sMo) H, bd_some, X11_isPlace (s := gQ sMo) H, bd_some, gQ_15]
  cases c1 : isP (sMo.2.2.1 15) p with
  | false => exact ⟨_, _, _, _, rfl, rfl, TU_n (KP_r _) 1⟩
  | true =>
    cases c2 : isP (sMo.2.2.1 15) q with
    | false => exact ⟨_, _, _, _, rfl, rfl, TU_n (KP_r _) 1⟩
    | true =>
      by_cases c : p = q
      · refine ⟨-1, sI sMn 11 1, sNe, sI (gQ sMo) 11 1, ?_, ?_, TU_n (KP_r _) 1⟩
        · rw [decide_eq_true c]; rfl
        · rw [if_neg (by decide), if_neg (by decide), if_pos c]; rfl
      · rcases H with ⟨h1, h2⟩ | ⟨h1, h2⟩
        · obtain ⟨t0, t1, t2, t3, t4, t5, t8, t9⟩ := ROKb h2
          obtain ⟨a, a9, a5, rfl⟩ := isP_x t5.2 c1
          obtain ⟨b, b9, b5, rfl⟩ := isP_x t5.2 c2
          obtain ⟨s1, e1⟩ := nearest_e (F := F) hF hR h2 a9 b9 sNe
          obtain ⟨s2, e2, e3⟩ := r33 (F := F) (by omega) h2 a9 b9 9 0 F (gQ sMo) (by omega) (by omega) (gQ_15 sMo) (fun j hj => by omega)
          have e2' : f_X11_near_33 F (Int32.ofInt (a : Int)) (Int32.ofInt (b : Int)) F 0 (gQ sMo) = _ := e2
          rw [decide_eq_false c, if_neg (by decide), e1, bd_some, X10_accept, bd_some, if_neg (by decide), if_neg (by decide), if_neg c, e2']
          exact ⟨_, _, _, _, rfl, rfl, TU_k e3⟩
        · unfold isP at c1
          rw [h2 5 (by omega), Bool.and_eq_true, decide_eq_true_eq, decide_eq_true_eq] at c1
          have : (0 : Int32).toInt = 0 := rfl
          omega
