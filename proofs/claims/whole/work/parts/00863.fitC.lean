/-! all ways, both in step -/
theorem dis_s {w : Nat → Nat} {k q : Nat} (h : dis w k) (hq : ∀ j, j < k → w j ≠ q) : dis (fun j => if j = k then q else w j) (k + 1) := by
  intro i j hi hj e
  by_cases a : i = k
  · by_cases b : j = k
    · omega
    · have e' : q = w j := by simpa [a, b] using e
      exact absurd e'.symm (hq j (by omega))
  · by_cases b : j = k
    · have e' : w i = q := by simpa [a, b] using e
      exact absurd e' (hq i (by omega))
    · have e' : w i = w j := by simpa [a, b] using e
      exact h i j (by omega) (by omega) e'
theorem Fi_w {r : Nat → Int32} {w w' : Nat → Nat} {k : Nat} (h : ∀ j, j < k → w j = w' j) : ∀ (m i g x : Nat), i < k → fit r w k m i g x = fit r w' k m i g x := by
  intro m
  induction m with
  | zero => intro i g x _; rfl
  | succ m ih =>
    intro i g x hi
    rw [fit_s, fit_s, h i hi]
    have e : fit r w k m i (g + 1) = fit r w' k m i (g + 1) := by
      funext y
      exact ih i (g + 1) y hi
    rw [e]
    by_cases c : i + 1 = k
    · rw [if_pos c, if_pos c]
    · rw [if_neg c, if_neg c, h (i + 1) (by omega), ih (i + 1) g _ (by omega)]
/-- what both have found so far; f: pints at the beginning of the reference's search -/
def RE (r : Nat → Int32) (f : Nat) (sRe s : MS) : Prop := b64 (sRe.2.1 3) f = !(decide (s.1 36 = 0)) ∧ (∃ n : Nat, n ≤ 100000000 ∧ s.1 36 = Int32.ofInt (n : Int)) ∧ (∀ x, nT r < x → b64 (sRe.2.1 3) x = false) ∧
  ((f : Int) = rd r 1 → sRe.1 0 = s.1 36 ∧ sRe.1 1 = s.1 38 ∧ sRe.1 6 = s.1 35 ∧ (s.1 36 = 0 → s.1 37 = 511 ∧ sRe.1 2 = 0) ∧ (s.1 36 ≠ 0 → sRe.1 2 = s.1 37) ∧ (s.1 35 < s.1 36 → 0 ≤ (s.1 35).toInt → ∃ q : Nat, q ≤ 9 ∧ sRe.1 5 = Int32.ofInt (q : Int) ∧ (∀ i, i < q → sRe.2.2.1 4 i = s.2.2.1 34 i ∧ 0 ≤ (s.2.2.1 34 i).toInt) ∧ (∀ i, q ≤ i → i < 9 → s.2.2.1 34 i = Int32.ofInt (-1))))
theorem ew13 {F : Nat} {p2 : Int32} {w : Nat → Nat} {k : Nat} (hk : k ≤ 9) : ∀ (d i n : Nat) (s : MS), i + d = 9 → d < n → rowW (s.2.2.1 33) w k → (∀ j, j < i → s.2.2.1 34 j = if j < k then Int32.ofInt (w j : Int) else Int32.ofInt (-1)) →
    ∃ s', f_X11_endWay_13 F (Int32.ofInt (k : Int)) p2 n (Int32.ofInt (i : Int)) s = f_X11_endWay_46 F (Int32.ofInt (k : Int)) p2 s' ∧ (∀ j, j < 9 → s'.2.2.1 34 j = if j < k then Int32.ofInt (w j : Int) else Int32.ofInt (-1)) ∧ s'.1 = s.1 ∧ (∀ a, a ≠ 34 → s'.2.2.1 a = s.2.2.1 a) := by
  intro d
  induction d with
  | zero =>
    intro i n s hi hn hw hs
    cases n with
    | zero => omega
    | succ n =>
      refine ⟨s, ?_, fun j hj => hs j (by omega), rfl, fun _ _ => rfl⟩
      rw [f_X11_endWay_13]
      simp (disch := omega) only [z_0, z_1, z_2, z_3, z_4, z_5, z_6, z_7, z_8, z_9, z_10, z_11, z_12, z_14, z_18, z_20, z_22, z_24, z_32, z_38, z_40, z_41, z_44, z_48, z_49, z_57, z_59, z_60, z_63, z_65, z_74, z_75, z_81, z_97, z_99, z_104, z_115, z_119, z_122, z_200, z_209, z_210, z_219, z_228, z_255, z_300, z_369, z_999, z_65537, z_268435456, z_1000000000, n_nat, n_add, n_sub, n_mul, n_neg, n_lt, n_le, n_eq, n_ix, n_gd, n_nz, lz_t, bd_some, tn, Int.reduceToNat, tn_1, if_pos, if_neg, if_true, if_false]
  | succ d ih =>
    intro i n s hi hn hw hs
    cases n with
    | zero => omega
    | succ n =>
      obtain ⟨s', z1, z2, z3, z4⟩ := ih (i + 1) n (sA s 34 i (if i < k then Int32.ofInt (w i : Int) else Int32.ofInt (-1))) (by omega) (by omega) (by simp (disch := omega) only [sI_a, sI_b, sL_a, sL_b, sL_c, wA_a, wA_b, wA_c, wA_d, wB_a, wB_b, wB_c, wB_d, sA_w, sB_w, uN_s, uN_n, up_s, up_n, ul_s, ul_n, p_fst, p_snd]; exact hw) (by
        intro j hj
        by_cases e : j = i
        · subst e
          simp (disch := omega) only [sI_a, sI_b, sL_a, sL_b, sL_c, wA_a, wA_b, wA_c, wA_d, wB_a, wB_b, wB_c, wB_d, sA_w, sB_w, uN_s, uN_n, up_s, up_n, ul_s, ul_n, p_fst, p_snd]
        · simp (disch := omega) only [sI_a, sI_b, sL_a, sL_b, sL_c, wA_a, wA_b, wA_c, wA_d, wB_a, wB_b, wB_c, wB_d, sA_w, sB_w, uN_s, uN_n, up_s, up_n, ul_s, ul_n, p_fst, p_snd]
          exact hs j (by omega))
      refine ⟨s', ?_, z2, z3, ?_⟩
      · rw [f_X11_endWay_13]
        by_cases c : i < k
        · have wi := (hw i c).1
          rw [if_pos c] at z1
          simp (disch := omega) only [z_0, z_1, z_2, z_3, z_4, z_5, z_6, z_7, z_8, z_9, z_10, z_11, z_12, z_14, z_18, z_20, z_22, z_24, z_32, z_38, z_40, z_41, z_44, z_48, z_49, z_57, z_59, z_60, z_63, z_65, z_74, z_75, z_81, z_97, z_99, z_104, z_115, z_119, z_122, z_200, z_209, z_210, z_219, z_228, z_255, z_300, z_369, z_999, z_65537, z_268435456, z_1000000000, n_nat, n_add, n_sub, n_mul, n_neg, n_lt, n_le, n_eq, n_ix, n_gd, n_nz, lz_t, bd_some, tn, Int.reduceToNat, tn_1, if_pos, if_neg, if_true, if_false, wi, f_X11_endWay_39]
          exact z1
        · rw [if_neg c] at z1
          simp (disch := omega) only [z_0, z_1, z_2, z_3, z_4, z_5, z_6, z_7, z_8, z_9, z_10, z_11, z_12, z_14, z_18, z_20, z_22, z_24, z_32, z_38, z_40, z_41, z_44, z_48, z_49, z_57, z_59, z_60, z_63, z_65, z_74, z_75, z_81, z_97, z_99, z_104, z_115, z_119, z_122, z_200, z_209, z_210, z_219, z_228, z_255, z_300, z_369, z_999, z_65537, z_268435456, z_1000000000, n_nat, n_add, n_sub, n_mul, n_neg, n_lt, n_le, n_eq, n_ix, n_gd, n_nz, lz_t, bd_some, tn, Int.reduceToNat, tn_1, if_pos, if_neg, if_true, if_false, f_X11_endWay_39]
          exact z1
      · intro a ha
        rw [z4 a ha]
        simp (disch := omega) only [sI_a, sI_b, sL_a, sL_b, sL_c, wA_a, wA_b, wA_c, wA_d, wB_a, wB_b, wB_c, wB_d, sA_w, sB_w, uN_s, uN_n, up_s, up_n, ul_s, ul_n, p_fst, p_snd]
/-- what a search leaves as it was -/
def KS (s s' : MS) : Prop := KP s s' ∧ s'.1 39 = s.1 39 ∧ s'.1 35 = s.1 35
theorem KS_t {s s' s2 : MS} (h : KS s s') (g : KS s' s2) : KS s s2 := ⟨KP_t h.1 g.1, g.2.1.trans h.2.1, g.2.2.trans h.2.2⟩
theorem KS_r (s : MS) : KS s s := ⟨KP_r s, rfl, rfl⟩
theorem KS_a (s : MS) {a : Nat} (i : Nat) (v : Int32) (ha : 23 ≤ a) : KS s (sA s a i v) := ⟨KP_w s _ ha, rfl, rfl⟩
theorem lt_p {a b : Int32} (h : a = b) : ¬ (a < b) := by
  rw [h, i_lt]; omega
theorem weigh_e {F : Nat} (hF : 100 ≤ F) {sRo sRe s : MS} {r : Nat → Int32} (hR : RR sRo r) (h : ROK r) (hr : s.2.2.1 15 = r) {w : Nat → Nat} {k : Nat} (hk : k ≤ 9) (hk1 : 1 ≤ k) (hw : rowW (sRe.2.2.1 7) w k) (hw2 : rowW (s.2.2.1 33) w k) (hd : dis w k) {u : Int32} (hu : ∀ j, 9 ≤ j → b32 u j = false) {f : Nat} (hf : f ≤ nT r) (h39 : s.1 39 = Int32.ofInt (f : Int)) (H : RE r f sRe s) (hn : ∃ n : Nat, n < 100000000 ∧ s.1 36 = Int32.ofInt (n : Int)) :
    ∃ sRe' s', f_X8_weigh F sRo (Int32.ofInt (k : Int)) u sRe = some sRe' ∧ (bd (f_X11_doesFit F s 20 (Int32.ofInt (k : Int)) 0 0 (s.1 39)) fun o6 => if o6 = 0 then some s else bd (f_X11_endWay F (Int32.ofInt (k : Int)) u s) fun o8 => some o8) = some s' ∧ RE r f sRe' s' ∧ KS s s' ∧ sRe'.2.2.1 7 = sRe.2.2.1 7 ∧ s'.2.2.1 33 = s.2.2.1 33 ∧ (∀ n : Nat, s.1 36 = Int32.ofInt (n : Int) → s'.1 36 = Int32.ofInt (n : Int) ∨ s'.1 36 = Int32.ofInt ((n : Int) + 1)) := by
  obtain ⟨q0, q1, q2, q3, q4, q5, q8, q9⟩ := RRb hR
  obtain ⟨c1, c2, c3, c4, c5⟩ := nTP h
  obtain ⟨t0, t1, t2, t3, t4, t5, t8, t9⟩ := ROKb h
  obtain ⟨L, l1, l2⟩ := fb_e (F := F) hF hR h hk hk1 hw hd
  have df := df_e (F := F) hF h hr hk hk1 hw2 hf
  obtain ⟨n, hn1, hn2⟩ := hn
  obtain ⟨E1, -, E3, E4⟩ := H
  obtain ⟨hasN, hhas⟩ := toN t1.1
  have bf : b64 L f = Fi r w k 0 0 f := by
    rw [l2 f (by omega), decide_eq_true hf, Bool.true_and]
  have bh : b64 L hasN = Fi r w k 0 0 hasN := by
    rw [l2 hasN (by omega), decide_eq_true (show hasN ≤ nT r by omega), Bool.true_and]
  have v3 : ((L >>> ((Int32.ofInt (hasN : Int)).toInt64 &&& 63)) &&& 1) = if Fi r w k 0 0 hasN = true then (1 : Int64) else 0 := by
    rw [one64, b64_shr L (by omega)]
    have : (!decide (64 ≤ 0) && if hasN + 0 < 64 then b64 L (hasN + 0) else b64 L 63) = Fi r w k 0 0 hasN := by
      rw [if_pos (by omega), Nat.add_zero, bh]
      rfl
    rw [this]
  have q1' : sRo.1 1 = Int32.ofInt (hasN : Int) := by rw [q1, hhas]
  -- the class's and the reference's, apart
  have hi : ∀ x, nT r < x → b64 (sRe.2.1 3 ||| L) x = false := by
    intro x hx
    rw [b64_or, E3 x hx, Bool.false_or]
    by_cases c : x < 64
    · rw [l2 x c, decide_eq_false (by omega), Bool.false_and]
    · unfold b64
      exact BitVec.getLsbD_of_ge _ _ (by omega)
  have cls : ∃ sRe', f_X8_weigh F sRo (Int32.ofInt (k : Int)) u sRe = some sRe' ∧ sRe'.2.1 3 = sRe.2.1 3 ||| L ∧ sRe'.2.2.1 7 = sRe.2.2.1 7 ∧ sRe'.1 6 = sRe.1 6 ∧ (Fi r w k 0 0 hasN = false → sRe'.1 = sRe.1 ∧ sRe'.2.2.1 = sRe.2.2.1) ∧ (Fi r w k 0 0 hasN = true → sRe'.1 0 = sRe.1 0 + 1 ∧ sRe'.1 1 = sRe.1 1 ||| u ∧ sRe'.1 2 = (if sRe.1 0 = 0 then u else sRe.1 2 &&& u) ∧ (sRe.1 0 = sRe.1 6 → sRe'.1 5 = Int32.ofInt (k : Int) ∧ ∀ i, i < k → sRe'.2.2.1 4 i = sRe.2.2.1 7 i) ∧ (sRe.1 0 ≠ sRe.1 6 → sRe'.1 5 = sRe.1 5 ∧ sRe'.2.2.1 4 = sRe.2.2.1 4)) := by
    unfold f_X8_weigh
    rw [l1, bd_some, lz_t, lz_t, q1', v3]
    cases cf : Fi r w k 0 0 hasN with
    | false =>
      refine ⟨sL sRe 3 (sRe.2.1 3 ||| L), ?_, by simp (disch := omega) only [sI_a, sI_b, sL_a, sL_b, sL_c, wA_a, wA_b, wA_c, wA_d, wB_a, wB_b, wB_c, wB_d, sA_w, sB_w, uN_s, uN_n, up_s, up_n, ul_s, ul_n, p_fst, p_snd], rfl, rfl, fun _ => ⟨rfl, rfl⟩, fun z => absurd z (by decide)⟩
      rw [if_neg (c := false = true) (by decide), if_pos (c := lg_cmp (0 : Int64) 0 = 0) (by decide)]
    | true =>
      have e64 : ∀ s2 : MS, s2.2.1 3 = sRe.2.1 3 ||| L → s2.2.2.1 7 = sRe.2.2.1 7 → s2.1 6 = sRe.1 6 → s2.1 0 = sRe.1 0 → s2.1 1 = sRe.1 1 → s2.1 2 = sRe.1 2 → ∃ sRe', f_X8_weigh_64 F sRo (Int32.ofInt (k : Int)) u s2 = some sRe' ∧ sRe'.2.1 3 = sRe.2.1 3 ||| L ∧ sRe'.2.2.1 7 = sRe.2.2.1 7 ∧ sRe'.1 6 = sRe.1 6 ∧ sRe'.1 0 = sRe.1 0 + 1 ∧ sRe'.1 1 = sRe.1 1 ||| u ∧ sRe'.1 2 = (if sRe.1 0 = 0 then u else sRe.1 2 &&& u) ∧ sRe'.1 5 = s2.1 5 ∧ sRe'.2.2.1 4 = s2.2.2.1 4 := by
        intro s2 a1 a2 a3 a4 a5 a6
        have h82 : ∀ y, ∃ sRe', f_X8_weigh_82 F sRo (Int32.ofInt (k : Int)) u y s2 = some sRe' ∧ sRe'.2.1 3 = sRe.2.1 3 ||| L ∧ sRe'.2.2.1 7 = sRe.2.2.1 7 ∧ sRe'.1 6 = sRe.1 6 ∧ sRe'.1 0 = sRe.1 0 + 1 ∧ sRe'.1 1 = sRe.1 1 ||| u ∧ sRe'.1 2 = y ∧ sRe'.1 5 = s2.1 5 ∧ sRe'.2.2.1 4 = s2.2.2.1 4 := by
          intro y
          refine ⟨sI (sI (sI s2 2 y) 1 ((sI s2 2 y).1 1 ||| u)) 0 ((sI (sI s2 2 y) 1 ((sI s2 2 y).1 1 ||| u)).1 0 + 1), rfl, a1, a2, ?_, ?_, ?_, ?_, ?_, rfl⟩
          · simp (disch := omega) only [sI_a, sI_b, sL_a, sL_b, sL_c, wA_a, wA_b, wA_c, wA_d, wB_a, wB_b, wB_c, wB_d, sA_w, sB_w, uN_s, uN_n, up_s, up_n, ul_s, ul_n, p_fst, p_snd, a3]
          · simp (disch := omega) only [sI_a, sI_b, sL_a, sL_b, sL_c, wA_a, wA_b, wA_c, wA_d, wB_a, wB_b, wB_c, wB_d, sA_w, sB_w, uN_s, uN_n, up_s, up_n, ul_s, ul_n, p_fst, p_snd, a4]
          · simp (disch := omega) only [sI_a, sI_b, sL_a, sL_b, sL_c, wA_a, wA_b, wA_c, wA_d, wB_a, wB_b, wB_c, wB_d, sA_w, sB_w, uN_s, uN_n, up_s, up_n, ul_s, ul_n, p_fst, p_snd, a5]
          · simp (disch := omega) only [sI_a, sI_b, sL_a, sL_b, sL_c, wA_a, wA_b, wA_c, wA_d, wB_a, wB_b, wB_c, wB_d, sA_w, sB_w, uN_s, uN_n, up_s, up_n, ul_s, ul_n, p_fst, p_snd]
          · simp (disch := omega) only [sI_a, sI_b, sL_a, sL_b, sL_c, wA_a, wA_b, wA_c, wA_d, wB_a, wB_b, wB_c, wB_d, sA_w, sB_w, uN_s, uN_n, up_s, up_n, ul_s, ul_n, p_fst, p_snd]
        unfold f_X8_weigh_64
        rw [a4]
        by_cases c0 : sRe.1 0 = 0
        · rw [if_pos c0, if_pos c0]
          exact h82 u
        · rw [if_neg c0, if_neg c0, a6]
          exact h82 _
      rw [if_pos rfl, if_neg (by decide)]
      show ∃ sRe', (if sRe.1 0 = sRe.1 6 then _ else _) = _ ∧ _
      by_cases c6 : sRe.1 0 = sRe.1 6
      · rw [if_pos c6]
        obtain ⟨sRe', z1, z2, z3, z4, z5, z6, z7, z8, z9⟩ := e64 (sI (wA (sL sRe 3 (sRe.2.1 3 ||| L)) 4 (va_cpy (sRe.2.2.1 7) (sRe.2.2.1 4) 0 0 k)) 5 (Int32.ofInt (k : Int))) (by simp (disch := omega) only [sI_a, sI_b, sL_a, sL_b, sL_c, wA_a, wA_b, wA_c, wA_d, wB_a, wB_b, wB_c, wB_d, sA_w, sB_w, uN_s, uN_n, up_s, up_n, ul_s, ul_n, p_fst, p_snd]) (by simp (disch := omega) only [sI_a, sI_b, sL_a, sL_b, sL_c, wA_a, wA_b, wA_c, wA_d, wB_a, wB_b, wB_c, wB_d, sA_w, sB_w, uN_s, uN_n, up_s, up_n, ul_s, ul_n, p_fst, p_snd]) (by simp (disch := omega) only [sI_a, sI_b, sL_a, sL_b, sL_c, wA_a, wA_b, wA_c, wA_d, wB_a, wB_b, wB_c, wB_d, sA_w, sB_w, uN_s, uN_n, up_s, up_n, ul_s, ul_n, p_fst, p_snd]) (by simp (disch := omega) only [sI_a, sI_b, sL_a, sL_b, sL_c, wA_a, wA_b, wA_c, wA_d, wB_a, wB_b, wB_c, wB_d, sA_w, sB_w, uN_s, uN_n, up_s, up_n, ul_s, ul_n, p_fst, p_snd]) (by simp (disch := omega) only [sI_a, sI_b, sL_a, sL_b, sL_c, wA_a, wA_b, wA_c, wA_d, wB_a, wB_b, wB_c, wB_d, sA_w, sB_w, uN_s, uN_n, up_s, up_n, ul_s, ul_n, p_fst, p_snd]) (by simp (disch := omega) only [sI_a, sI_b, sL_a, sL_b, sL_c, wA_a, wA_b, wA_c, wA_d, wB_a, wB_b, wB_c, wB_d, sA_w, sB_w, uN_s, uN_n, up_s, up_n, ul_s, ul_n, p_fst, p_snd])
        refine ⟨sRe', ?_, z2, z3, z4, fun z => absurd z (by decide), fun _ => ⟨z5, z6, z7, fun _ => ⟨?_, ?_⟩, fun z => absurd c6 z⟩⟩
        · rw [← z1]
          simp (disch := omega) only [z_0, z_1, z_2, z_3, z_4, z_5, z_6, z_7, z_8, z_9, z_10, z_11, z_12, z_14, z_18, z_20, z_22, z_24, z_32, z_38, z_40, z_41, z_44, z_48, z_49, z_57, z_59, z_60, z_63, z_65, z_74, z_75, z_81, z_97, z_99, z_104, z_115, z_119, z_122, z_200, z_209, z_210, z_219, z_228, z_255, z_300, z_369, z_999, z_65537, z_268435456, z_1000000000, n_nat, n_add, n_sub, n_mul, n_neg, n_lt, n_le, n_eq, n_ix, n_gd, n_nz, lz_t, bd_some, tn, Int.reduceToNat, tn_1, if_pos, if_neg, if_true, if_false]
          rfl
        · rw [z8]
          simp (disch := omega) only [sI_a, sI_b, sL_a, sL_b, sL_c, wA_a, wA_b, wA_c, wA_d, wB_a, wB_b, wB_c, wB_d, sA_w, sB_w, uN_s, uN_n, up_s, up_n, ul_s, ul_n, p_fst, p_snd]
        · intro i hi'
          rw [z9]
          simp (disch := omega) only [sI_a, sI_b, sL_a, sL_b, sL_c, wA_a, wA_b, wA_c, wA_d, wB_a, wB_b, wB_c, wB_d, sA_w, sB_w, uN_s, uN_n, up_s, up_n, ul_s, ul_n, p_fst, p_snd]
          unfold va_cpy
          rw [if_pos ⟨by omega, by omega⟩]
          exact congrArg _ (by omega)
      · rw [if_neg c6]
        obtain ⟨sRe', z1, z2, z3, z4, z5, z6, z7, z8, z9⟩ := e64 (sL sRe 3 (sRe.2.1 3 ||| L)) (by simp (disch := omega) only [sI_a, sI_b, sL_a, sL_b, sL_c, wA_a, wA_b, wA_c, wA_d, wB_a, wB_b, wB_c, wB_d, sA_w, sB_w, uN_s, uN_n, up_s, up_n, ul_s, ul_n, p_fst, p_snd]) rfl rfl rfl rfl rfl
        exact ⟨sRe', z1, z2, z3, z4, fun z => absurd z (by decide), fun _ => ⟨z5, z6, z7, fun z => absurd z c6, fun _ => ⟨z8, z9⟩⟩⟩
  have ref : ∃ s', (bd (f_X11_doesFit F s 20 (Int32.ofInt (k : Int)) 0 0 (s.1 39)) fun o6 => if o6 = 0 then some s else bd (f_X11_endWay F (Int32.ofInt (k : Int)) u s) fun o8 => some o8) = some s' ∧ KS s s' ∧ s'.2.2.1 33 = s.2.2.1 33 ∧ (Fi r w k 0 0 f = false → s' = s) ∧ (Fi r w k 0 0 f = true → s'.1 36 = Int32.ofInt ((n : Int) + 1) ∧ s'.1 37 = s.1 37 &&& u ∧ s'.1 38 = s.1 38 ||| u ∧ (s.1 36 = s.1 35 → ∀ j, j < 9 → s'.2.2.1 34 j = if j < k then Int32.ofInt (w j : Int) else Int32.ofInt (-1)) ∧ (s.1 36 ≠ s.1 35 → s'.2.2.1 34 = s.2.2.1 34)) := by
    rw [h39, df, bd_some]
    cases cf : Fi r w k 0 0 f with
    | false => exact ⟨s, rfl, KS_r s, rfl, fun _ => rfl, fun z => absurd z (by decide)⟩
    | true =>
      have e46 : ∀ s2 : MS, s2.1 = s.1 → (∀ a, a ≠ 34 → s2.2.2.1 a = s.2.2.1 a) → ∃ s', f_X11_endWay_46 F (Int32.ofInt (k : Int)) u s2 = some s' ∧ KS s s' ∧ s'.2.2.1 33 = s.2.2.1 33 ∧ s'.1 36 = Int32.ofInt ((n : Int) + 1) ∧ s'.1 37 = s.1 37 &&& u ∧ s'.1 38 = s.1 38 ||| u ∧ s'.2.2.1 34 = s2.2.2.1 34 := by
        intro s2 a1 a2
        have e36 : s2.1 36 + 1 = Int32.ofInt ((n : Int) + 1) := by rw [a1, hn2, z_1, n_add]
        refine ⟨sI (sI (sI s2 36 (s2.1 36 + 1)) 37 ((sI s2 36 (s2.1 36 + 1)).1 37 &&& u)) 38 ((sI (sI s2 36 (s2.1 36 + 1)) 37 ((sI s2 36 (s2.1 36 + 1)).1 37 &&& u)).1 38 ||| u), rfl, ⟨⟨?_, ?_⟩, ?_, ?_⟩, a2 33 (by decide), ?_, ?_, ?_, rfl⟩
        · intro j hj
          simp (disch := omega) only [sI_a, sI_b, sL_a, sL_b, sL_c, wA_a, wA_b, wA_c, wA_d, wB_a, wB_b, wB_c, wB_d, sA_w, sB_w, uN_s, uN_n, up_s, up_n, ul_s, ul_n, p_fst, p_snd, a1]
        · intro a ha
          exact a2 a (by omega)
        · simp (disch := omega) only [sI_a, sI_b, sL_a, sL_b, sL_c, wA_a, wA_b, wA_c, wA_d, wB_a, wB_b, wB_c, wB_d, sA_w, sB_w, uN_s, uN_n, up_s, up_n, ul_s, ul_n, p_fst, p_snd, a1]
        · simp (disch := omega) only [sI_a, sI_b, sL_a, sL_b, sL_c, wA_a, wA_b, wA_c, wA_d, wB_a, wB_b, wB_c, wB_d, sA_w, sB_w, uN_s, uN_n, up_s, up_n, ul_s, ul_n, p_fst, p_snd, a1]
        · simp (disch := omega) only [sI_a, sI_b, sL_a, sL_b, sL_c, wA_a, wA_b, wA_c, wA_d, wB_a, wB_b, wB_c, wB_d, sA_w, sB_w, uN_s, uN_n, up_s, up_n, ul_s, ul_n, p_fst, p_snd, e36]
        · simp (disch := omega) only [sI_a, sI_b, sL_a, sL_b, sL_c, wA_a, wA_b, wA_c, wA_d, wB_a, wB_b, wB_c, wB_d, sA_w, sB_w, uN_s, uN_n, up_s, up_n, ul_s, ul_n, p_fst, p_snd, a1]
        · simp (disch := omega) only [sI_a, sI_b, sL_a, sL_b, sL_c, wA_a, wA_b, wA_c, wA_d, wB_a, wB_b, wB_c, wB_d, sA_w, sB_w, uN_s, uN_n, up_s, up_n, ul_s, ul_n, p_fst, p_snd, a1]
      rw [if_neg (by decide)]
      unfold f_X11_endWay
      by_cases c6 : s.1 36 = s.1 35
      · rw [if_pos c6]
        obtain ⟨s2, y1, y2, y3, y4⟩ := ew13 (F := F) (p2 := u) hk 9 0 F s (by omega) (by omega) hw2 (fun j hj => by omega)
        obtain ⟨s', z1, z2, z3, z4, z5, z6, z7⟩ := e46 s2 y3 y4
        have y1' : f_X11_endWay_13 F (Int32.ofInt (k : Int)) u F 0 s = _ := y1
        refine ⟨s', by rw [y1', z1]; rfl, z2, z3, fun z => absurd z (by decide), fun _ => ⟨z4, z5, z6, fun _ j hj => by rw [z7]; exact y2 j hj, fun z => absurd c6 z⟩⟩
      · rw [if_neg c6]
        obtain ⟨s', z1, z2, z3, z4, z5, z6, z7⟩ := e46 s rfl (fun _ _ => rfl)
        exact ⟨s', by rw [z1]; rfl, z2, z3, fun z => absurd z (by decide), fun _ => ⟨z4, z5, z6, fun z => absurd z c6, fun _ => z7⟩⟩
  obtain ⟨sRe', x1, x2, x3, x4, x5, x6⟩ := cls
  obtain ⟨s', y1, y2, y3, y4, y5⟩ := ref
  refine ⟨sRe', s', x1, y1, ?_, y2, x3, y3, ?_⟩
  · refine ⟨?_, ?_, fun x hx => by rw [x2]; exact hi x hx, ?_⟩
    · rw [x2, b64_or, E1, bf]
      cases cf : Fi r w k 0 0 f with
      | false => rw [y4 cf, Bool.or_false]
      | true =>
        have : ¬ s'.1 36 = 0 := by
          rw [(y5 cf).1, z_0, n_eq _ _ (by omega) (by omega) (by omega) (by omega)]
          omega
        rw [decide_eq_false this, Bool.or_true]
        rfl
    · cases cf : Fi r w k 0 0 f with
      | false => rw [y4 cf]; exact ⟨n, by omega, hn2⟩
      | true => exact ⟨n + 1, by omega, (y5 cf).1⟩
    · intro hfe
      have hfn : f = hasN := by omega
      subst hfn
      obtain ⟨g0, g1, g2, g3, g4, g5⟩ := E4 hfe
      cases cf : Fi r w k 0 0 f with
      | false =>
        obtain ⟨a, b⟩ := x5 cf
        rw [y4 cf, a, b]
        exact ⟨g0, g1, g2, g3, g4, g5⟩
      | true =>
        obtain ⟨p0, p1, p2, p3, p4⟩ := x6 cf
        obtain ⟨r1, r2, r3, r4, r5⟩ := y5 cf
        have ne0 : ¬ s'.1 36 = 0 := by
          rw [r1, z_0, n_eq _ _ (by omega) (by omega) (by omega) (by omega)]
          omega
        have e36 : s.1 36 + 1 = s'.1 36 := by rw [hn2, r1, z_1, n_add]
        refine ⟨by rw [p0, g0, e36], by rw [p1, g1, r3], by rw [x4, g2, y2.2.2], fun z => absurd z ne0, ?_, ?_⟩
        · intro _
          rw [p2, r2, g0]
          by_cases c0 : s.1 36 = 0
          · rw [if_pos c0, (g3 c0).1, and511 hu]
          · rw [if_neg c0, g4 c0]
        · intro lt nn
          rw [y2.2.2] at lt nn
          by_cases c6 : s.1 36 = s.1 35
          · obtain ⟨a, b⟩ := p3 (by rw [g0, g2]; exact c6)
            refine ⟨k, hk, a, ?_, ?_⟩
            · intro i hi'
              rw [b i hi', (hw i hi').1, r4 c6 i (by omega), if_pos hi']
              refine ⟨rfl, ?_⟩
              have := (hw i hi').2
              rw [oi ⟨by omega, by omega⟩]
              omega
            · intro i h1 h2
              rw [r4 c6 i h2, if_neg (by omega)]
          · obtain ⟨a, b⟩ := p4 (by rw [g0, g2]; exact c6)
            have lt' : s.1 35 < s.1 36 := by
              rw [r1, i_lt, oi ⟨by omega, by omega⟩] at lt
              rw [hn2] at c6 ⊢
              rw [i_lt, oi ⟨by omega, by omega⟩]
              have : (s.1 35).toInt ≠ (n : Int) := by
                intro z
                apply c6
                rw [← z]
                exact (n_out (s.1 35)).symm
              omega
            obtain ⟨q, k1, k2, k3, k4⟩ := g5 lt' nn
            rw [a, b, r5 c6]
            exact ⟨q, k1, k2, k3, k4⟩
  · intro n' hn'
    cases cf : Fi r w k 0 0 f with
    | false => rw [y4 cf]; exact Or.inl hn'
    | true =>
      right
      rw [(y5 cf).1]
      have : Int32.ofInt (n' : Int) = Int32.ofInt (n : Int) := hn'.symm.trans hn2
      have e1 := n_add (n' : Int) 1
      have e2 := n_add (n : Int) 1
      rw [← e1, ← e2, this]
