/-! the journey: rows, what is kept, images -/
def rowR (r : Nat → Int32) (a b : Nat → Int32) : Prop := a 0 = b 0 ∧ a 1 = b 1 ∧ a 2 = b 2 ∧ a 3 = b 3 ∧ a 5 = b 5 ∧ a 6 = b 6 ∧ a 4 = (if b 4 = 0 then -2 else b 4) ∧ (0 ≤ (b 0).toInt ∧ (b 0).toInt < rd r 5) ∧ (0 ≤ (b 1).toInt ∧ (b 1).toInt ≤ rd r 0) ∧ (0 ≤ (b 4).toInt ∧ (b 4).toInt ≤ 99) ∧ (0 ≤ (b 6).toInt ∧ (b 6).toInt < 65537) ∧ (b 5 = 0 ∨ b 5 = 1)
theorem rowR_c {r : Nat → Int32} {a b a' b' : Nat → Int32} (h : rowR r a b) (ha : ∀ k, k < 7 → a' k = a k) (hb : ∀ k, k < 7 → b' k = b k) : rowR r a' b' := by
  unfold rowR at *
  rw [ha 0 (by omega), ha 1 (by omega), ha 2 (by omega), ha 3 (by omega), ha 4 (by omega), ha 5 (by omega), ha 6 (by omega), hb 0 (by omega), hb 1 (by omega), hb 2 (by omega), hb 3 (by omega), hb 4 (by omega), hb 5 (by omega), hb 6 (by omega)]
  exact h
def JU (r : Nat → Int32) (sJo sJk sMo : MS) : Prop := ∃ u L : Nat, u ≤ 12 ∧ L < 12 ∧ sJo.1 1 = Int32.ofInt (u : Int) ∧ sMo.1 21 = Int32.ofInt (u : Int) ∧ sJo.1 3 = Int32.ofInt (L : Int) ∧ ∀ j, j < u → rowR r (sJk.2.2.1 ((L + 12 - j) % 12)) (fun k => sMo.2.2.1 19 (7 * (u - 1 - j) + k))
def JI (r : Nat → Int32) (sJo sJi sMo : MS) : Prop := ∃ m : Nat, m ≤ 3 ∧ sJo.1 2 = Int32.ofInt (m : Int) ∧ sMo.1 22 = Int32.ofInt (m : Int) ∧ ∀ j, j < m → rowR r (sJi.2.2.1 j) (fun k => sMo.2.2.1 20 (7 * j + k))
def JR (r : Nat → Int32) (h : Int32) (sJo sJk sJi sMo : MS) : Prop := (h = 1 → rowR r (sJo.2.2.1 0) (sMo.2.2.1 18)) ∧ (h = 0 → sJo.2.2.1 0 6 = 0 ∧ sJo.1 1 = 0 ∧ sJo.1 2 = 0) ∧ JU r sJo sJk sMo ∧ JI r sJo sJi sMo
/-- what a call of the journey does to the rest -/
def TJ (sMn sMo sMn' sMo' : MS) : Prop := ∃ t : Int32, sMn' = sI sMn 11 t ∧ sMo'.1 0 = 0 ∧ sMo'.1 11 = t ∧ (∀ k, k < 21 → k ≠ 0 → k ≠ 11 → sMo'.1 k = sMo.1 k) ∧ (∀ a, a < 18 → sMo'.2.2.1 a = sMo.2.2.1 a)
def KJ (s s' : MS) : Prop := (∀ k, k < 21 → s'.1 k = s.1 k) ∧ (∀ a, a < 18 → s'.2.2.1 a = s.2.2.1 a)
theorem KJ_r (s : MS) : KJ s s := ⟨fun _ _ => rfl, fun _ _ => rfl⟩
theorem KJ_t {s s' s2 : MS} (h : KJ s s') (g : KJ s' s2) : KJ s s2 := ⟨fun k hk => (g.1 k hk).trans (h.1 k hk), fun a ha => (g.2 a ha).trans (h.2 a ha)⟩
theorem KJ_i (s : MS) {k : Nat} (v : Int32) (hk : 21 ≤ k) : KJ s (sI s k v) := ⟨fun j hj => uN_n _ _ _ _ (by omega), fun _ _ => rfl⟩
theorem KJ_w (s : MS) {a : Nat} (f : Nat → Int32) (ha : 18 ≤ a) : KJ s (wA s a f) := ⟨fun _ _ => rfl, fun b hb => uN_n _ _ _ _ (by omega)⟩
theorem KJ_a (s : MS) {a : Nat} (i : Nat) (v : Int32) (ha : 18 ≤ a) : KJ s (sA s a i v) := KJ_w s _ ha
theorem TJ_k {sMn sMo s' : MS} (h : KJ (gQ sMo) s') : TJ sMn sMo (sI sMn 11 0) s' := by
  refine ⟨0, rfl, ?_, ?_, ?_, ?_⟩
  · rw [h.1 0 (by omega)]; rfl
  · rw [h.1 11 (by omega)]; rfl
  · intro k h1 h2 h3
    rw [h.1 k h1]
    unfold gQ
    rw [sI_n _ _ _ _ h3, sI_n _ _ _ _ h2]
  · intro a ha
    rw [h.2 a ha]; rfl
theorem TJ_n (sMn sMo : MS) (t : Int32) : TJ sMn sMo (sI sMn 11 t) (sI (gQ sMo) 11 t) := by
  refine ⟨t, rfl, rfl, sI_s _ _ _, ?_, fun _ _ => rfl⟩
  intro k h1 h2 h3
  unfold gQ
  rw [sI_n _ _ _ _ h3, sI_n _ _ _ _ h3, sI_n _ _ _ _ h2]
theorem JR_n {r : Nat → Int32} {h : Int32} {sJo sJk sJi sMo : MS} (H : JR r h sJo sJk sJi sMo) {s' : MS} (h1 : s'.1 21 = sMo.1 21) (h2 : s'.1 22 = sMo.1 22) (h3 : s'.2.2.1 18 = sMo.2.2.1 18) (h4 : s'.2.2.1 19 = sMo.2.2.1 19) (h5 : s'.2.2.1 20 = sMo.2.2.1 20) : JR r h sJo sJk sJi s' := by
  unfold JR JU JI at *
  rw [h1, h2, h3, h4, h5]
  exact H
theorem cp_go {F : Nat} {n0 n1 a b : Nat} {f : Nat → Int32} (ha : a + 7 ≤ n0) (hb : b + 7 ≤ n1) (h0 : n0 ≤ 100) (h1 : n1 ≤ 100) : ∀ (d k n : Nat) (g : Nat → Int32), k + d = 7 → d < n → ∃ g', f_X11_copy_3 F n0 f n1 (Int32.ofInt (a : Int)) (Int32.ofInt (b : Int)) (Int32.ofInt 7) n (Int32.ofInt (k : Int)) g = some g' ∧ (∀ j, k ≤ j → j < 7 → g' (b + j) = f (a + j)) ∧ (∀ j, (j < b + k ∨ b + 7 ≤ j) → g' j = g j) := by
  intro d
  induction d with
  | zero =>
    intro k n g hk hn
    cases n with
    | zero => omega
    | succ n =>
      refine ⟨g, ?_, fun j h1 h2 => by omega, fun _ _ => rfl⟩
      rw [f_X11_copy_3]
      simp (disch := omega) only [z_0, z_1, z_2, z_3, z_4, z_5, z_6, z_7, z_8, z_9, z_10, z_11, z_12, z_14, z_18, z_20, z_22, z_24, z_32, z_38, z_40, z_41, z_44, z_48, z_49, z_57, z_59, z_60, z_63, z_65, z_74, z_75, z_81, z_97, z_99, z_104, z_115, z_119, z_122, z_200, z_209, z_210, z_219, z_228, z_255, z_300, z_369, z_999, z_65537, z_268435456, z_1000000000, n_nat, n_add, n_sub, n_mul, n_neg, n_lt, n_le, n_eq, n_ix, n_gd, n_nz, lz_t, bd_some, tn, Int.reduceToNat, tn_1, if_pos, if_neg, if_true, if_false]
  | succ d ih =>
    intro k n g hk hn
    cases n with
    | zero => omega
    | succ n =>
      obtain ⟨g', z1, z2, z3⟩ := ih (k + 1) n (upd g (b + k) (f (a + k))) (by omega) (by omega)
      have ea : ((a : Int) + (k : Int)).toNat = a + k := by omega
      have eb : ((b : Int) + (k : Int)).toNat = b + k := by omega
      refine ⟨g', ?_, ?_, ?_⟩
      · rw [f_X11_copy_3]
        simp (disch := omega) only [z_0, z_1, z_2, z_3, z_4, z_5, z_6, z_7, z_8, z_9, z_10, z_11, z_12, z_14, z_18, z_20, z_22, z_24, z_32, z_38, z_40, z_41, z_44, z_48, z_49, z_57, z_59, z_60, z_63, z_65, z_74, z_75, z_81, z_97, z_99, z_104, z_115, z_119, z_122, z_200, z_209, z_210, z_219, z_228, z_255, z_300, z_369, z_999, z_65537, z_268435456, z_1000000000, n_nat, n_add, n_sub, n_mul, n_neg, n_lt, n_le, n_eq, n_ix, n_gd, n_nz, lz_t, bd_some, tn, Int.reduceToNat, tn_1, if_pos, if_neg, if_true, if_false, ea, eb]
        exact z1
      · intro j h1 h2
        by_cases e : j = k
        · subst e
          rw [z3 _ (by omega), up_s]
        · exact z2 j (by omega) h2
      · intro j hj
        rw [z3 j (by omega), up_n _ _ _ _ (by omega)]
theorem cp_e {F : Nat} (hF : 100 ≤ F) {n0 n1 a b : Nat} {f : Nat → Int32} (ha : a + 7 ≤ n0) (hb : b + 7 ≤ n1) (h0 : n0 ≤ 100) (h1 : n1 ≤ 100) (g : Nat → Int32) : ∃ g', f_X11_copy F n0 f n1 (Int32.ofInt (a : Int)) (Int32.ofInt (b : Int)) (Int32.ofInt 7) g = some g' ∧ (∀ j, j < 7 → g' (b + j) = f (a + j)) ∧ (∀ j, (j < b ∨ b + 7 ≤ j) → g' j = g j) := by
  obtain ⟨g', z1, z2, z3⟩ := cp_go (F := F) (f := f) ha hb h0 h1 7 0 F g (by omega) (by omega)
  exact ⟨g', z1, fun j hj => z2 j (by omega) hj, fun j hj => z3 j (by omega)⟩
theorem wA_wA (s : MS) (k : Nat) (f g : Nat → Int32) : wA (wA s k f) k g = wA s k g := by
  obtain ⟨a, b, c, e⟩ := s
  show (a, b, uN (uN c k f) k g, e) = (a, b, uN c k g, e)
  congr 3
  funext j
  by_cases q : j = k
  · subst q; rw [uN_s, uN_s]
  · rw [uN_n _ _ _ _ q, uN_n _ _ _ _ q, uN_n _ _ _ _ q]
theorem wA_id (s : MS) (k : Nat) : wA s k (s.2.2.1 k) = s := by
  obtain ⟨a, b, c, e⟩ := s
  show (a, b, uN c k (c k), e) = (a, b, c, e)
  congr 3
  funext j
  by_cases q : j = k
  · subst q; rw [uN_s]
  · rw [uN_n _ _ _ _ q]
theorem z_77 : (77 : Int32) = Int32.ofInt 77 := rfl
theorem sh_go {F : Nat} (f : Nat → Int32) : ∀ (d k n : Nat) (s : MS), k + d = 77 → d < n → (∀ j, k ≤ j → s.2.2.1 19 j = f j) → (∀ j, j < k → s.2.2.1 19 j = f (j + 7)) →
    ∃ g, f_X11_note_11 F n (Int32.ofInt (k : Int)) s = f_X11_note_38 F (wA s 19 g) ∧ (∀ j, j < 77 → g j = f (j + 7)) := by
  intro d
  induction d with
  | zero =>
    intro k n s hk hn h1 h2
    cases n with
    | zero => omega
    | succ n =>
      refine ⟨s.2.2.1 19, ?_, fun j hj => h2 j (by omega)⟩
      rw [wA_id, f_X11_note_11]
      simp (disch := omega) only [z_0, z_1, z_2, z_3, z_4, z_5, z_6, z_7, z_8, z_9, z_10, z_11, z_12, z_14, z_18, z_20, z_22, z_24, z_32, z_38, z_40, z_41, z_44, z_48, z_49, z_57, z_59, z_60, z_63, z_65, z_74, z_75, z_81, z_97, z_99, z_104, z_115, z_119, z_122, z_200, z_209, z_210, z_219, z_228, z_255, z_300, z_369, z_999, z_65537, z_268435456, z_1000000000, n_nat, n_add, n_sub, n_mul, n_neg, n_lt, n_le, n_eq, n_ix, n_gd, n_nz, lz_t, bd_some, tn, Int.reduceToNat, tn_1, if_pos, if_neg, if_true, if_false, z_77]
  | succ d ih =>
    intro k n s hk hn h1 h2
    cases n with
    | zero => omega
    | succ n =>
      have ek : ((k : Int) + 7).toNat = k + 7 := by omega
      obtain ⟨g, z1, z2⟩ := ih (k + 1) n (sA s 19 k (f (k + 7))) (by omega) (by omega) (fun j hj => by
        simp (disch := omega) only [sI_a, sI_b, sL_a, sL_b, sL_c, wA_a, wA_b, wA_c, wA_d, wB_a, wB_b, wB_c, wB_d, sA_w, sB_w, uN_s, uN_n, up_s, up_n, ul_s, ul_n, p_fst, p_snd]
        exact h1 j (by omega)) (fun j hj => by
        by_cases e : j = k
        · subst e
          simp (disch := omega) only [sI_a, sI_b, sL_a, sL_b, sL_c, wA_a, wA_b, wA_c, wA_d, wB_a, wB_b, wB_c, wB_d, sA_w, sB_w, uN_s, uN_n, up_s, up_n, ul_s, ul_n, p_fst, p_snd]
        · simp (disch := omega) only [sI_a, sI_b, sL_a, sL_b, sL_c, wA_a, wA_b, wA_c, wA_d, wB_a, wB_b, wB_c, wB_d, sA_w, sB_w, uN_s, uN_n, up_s, up_n, ul_s, ul_n, p_fst, p_snd]
          exact h2 j (by omega))
      refine ⟨g, ?_, z2⟩
      rw [sA_w, wA_wA] at z1
      rw [← z1, f_X11_note_11]
      simp (disch := omega) only [z_0, z_1, z_2, z_3, z_4, z_5, z_6, z_7, z_8, z_9, z_10, z_11, z_12, z_14, z_18, z_20, z_22, z_24, z_32, z_38, z_40, z_41, z_44, z_48, z_49, z_57, z_59, z_60, z_63, z_65, z_74, z_75, z_81, z_97, z_99, z_104, z_115, z_119, z_122, z_200, z_209, z_210, z_219, z_228, z_255, z_300, z_369, z_999, z_65537, z_268435456, z_1000000000, n_nat, n_add, n_sub, n_mul, n_neg, n_lt, n_le, n_eq, n_ix, n_gd, n_nz, lz_t, bd_some, tn, Int.reduceToNat, tn_1, if_pos, if_neg, if_true, if_false, z_77, ek, h1]
      rfl
theorem note_e {F : Nat} (hF : 100 ≤ F) {s : MS} {u : Nat} (hu : u ≤ 12) (h21 : s.1 21 = Int32.ofInt (u : Int)) :
    ∃ g s', f_X11_note F s = some s' ∧ s'.1 21 = Int32.ofInt ((min 12 (u + 1) : Nat) : Int) ∧ (∀ k, k ≠ 21 → s'.1 k = s.1 k) ∧ (∀ a, a ≠ 19 → s'.2.2.1 a = s.2.2.1 a) ∧ s'.2.2.1 19 = g ∧ (∀ k, k < 7 → g (7 * (min 12 (u + 1) - 1) + k) = s.2.2.1 18 k) ∧ (∀ j, j < u → j < 11 → ∀ k, k < 7 → g (7 * (min 12 (u + 1) - 2 - j) + k) = s.2.2.1 19 (7 * (u - 1 - j) + k)) := by
  unfold f_X11_note
  by_cases c : u = 12
  · subst c
    obtain ⟨g, z1, z2⟩ := sh_go (F := F) (s.2.2.1 19) 77 0 F s (by omega) (by omega) (fun _ _ => rfl) (fun j hj => by omega)
    have z1' : f_X11_note_11 F F (Int32.ofInt 0) s = _ := z1
    obtain ⟨g', y1, y2, y3⟩ := cp_e (F := F) hF (n0 := 7) (n1 := 84) (a := 0) (b := 77) (f := s.2.2.1 18) (by omega) (by omega) (by omega) (by omega) g
    have y1' : f_X11_copy F 7 (s.2.2.1 18) 84 (Int32.ofInt 0) (Int32.ofInt 77) (Int32.ofInt 7) g = some g' := y1
    have h21' : s.1 21 = Int32.ofInt 12 := h21
    have w1 : (wA s 19 g).1 21 = Int32.ofInt 12 := h21
    have w2 : (sI (wA s 19 g) 21 (Int32.ofInt 11)).2.2.1 18 = s.2.2.1 18 := by simp (disch := omega) only [sI_a, sI_b, sL_a, sL_b, sL_c, wA_a, wA_b, wA_c, wA_d, wB_a, wB_b, wB_c, wB_d, sA_w, sB_w, uN_s, uN_n, up_s, up_n, ul_s, ul_n, p_fst, p_snd]
    have w3 : (sI (wA s 19 g) 21 (Int32.ofInt 11)).2.2.1 19 = g := by simp (disch := omega) only [sI_a, sI_b, sL_a, sL_b, sL_c, wA_a, wA_b, wA_c, wA_d, wB_a, wB_b, wB_c, wB_d, sA_w, sB_w, uN_s, uN_n, up_s, up_n, ul_s, ul_n, p_fst, p_snd]
    refine ⟨g', sI (wA (sI (wA s 19 g) 21 (Int32.ofInt 11)) 19 g') 21 (Int32.ofInt 12), ?_, ?_, ?_, ?_, ?_, ?_, ?_⟩
    · simp (disch := omega) only [z_0, z_1, z_2, z_3, z_4, z_5, z_6, z_7, z_8, z_9, z_10, z_11, z_12, z_14, z_18, z_20, z_22, z_24, z_32, z_38, z_40, z_41, z_44, z_48, z_49, z_57, z_59, z_60, z_63, z_65, z_74, z_75, z_81, z_97, z_99, z_104, z_115, z_119, z_122, z_200, z_209, z_210, z_219, z_228, z_255, z_300, z_369, z_999, z_65537, z_268435456, z_1000000000, n_nat, n_add, n_sub, n_mul, n_neg, n_lt, n_le, n_eq, n_ix, n_gd, n_nz, lz_t, bd_some, tn, Int.reduceToNat, tn_1, if_pos, if_neg, if_true, if_false, h21', z1', f_X11_note_38, f_X11_note_48, w1, w2, w3, Int.reduceSub, Int.reduceMul, Int.reduceAdd, sI_a, uN_s, y1', wA_a]
    · simp (disch := omega) only [sI_a, sI_b, sL_a, sL_b, sL_c, wA_a, wA_b, wA_c, wA_d, wB_a, wB_b, wB_c, wB_d, sA_w, sB_w, uN_s, uN_n, up_s, up_n, ul_s, ul_n, p_fst, p_snd]; rfl
    · intro k hk
      simp (disch := omega) only [sI_a, sI_b, sL_a, sL_b, sL_c, wA_a, wA_b, wA_c, wA_d, wB_a, wB_b, wB_c, wB_d, sA_w, sB_w, uN_s, uN_n, up_s, up_n, ul_s, ul_n, p_fst, p_snd]
    · intro a ha
      simp (disch := omega) only [sI_a, sI_b, sL_a, sL_b, sL_c, wA_a, wA_b, wA_c, wA_d, wB_a, wB_b, wB_c, wB_d, sA_w, sB_w, uN_s, uN_n, up_s, up_n, ul_s, ul_n, p_fst, p_snd]
    · simp (disch := omega) only [sI_a, sI_b, sL_a, sL_b, sL_c, wA_a, wA_b, wA_c, wA_d, wB_a, wB_b, wB_c, wB_d, sA_w, sB_w, uN_s, uN_n, up_s, up_n, ul_s, ul_n, p_fst, p_snd]
    · intro k hk
      have := y2 k hk
      rw [show 7 * (min 12 (12 + 1) - 1) + k = 77 + k by omega, this, Nat.zero_add]
    · intro j h1 h2 k hk
      rw [y3 _ (by omega), z2 _ (by omega)]
      exact congrArg _ (by omega)
  · obtain ⟨g', y1, y2, y3⟩ := cp_e (F := F) hF (n0 := 7) (n1 := 84) (a := 0) (b := 7 * u) (f := s.2.2.1 18) (by omega) (by omega) (by omega) (by omega) (s.2.2.1 19)
    have e7 : ((7 * u : Nat) : Int) = 7 * (u : Int) := by omega
    rw [e7] at y1
    have y1' : f_X11_copy F 7 (s.2.2.1 18) 84 (Int32.ofInt 0) (Int32.ofInt (7 * (u : Int))) (Int32.ofInt 7) (s.2.2.1 19) = some g' := y1
    have em : min 12 (u + 1) = u + 1 := by omega
    rw [em]
    have w1 : (wA s 19 g').1 21 = Int32.ofInt (u : Int) := h21
    refine ⟨g', sI (wA s 19 g') 21 (Int32.ofInt ((u : Int) + 1)), ?_, ?_, ?_, ?_, ?_, ?_, ?_⟩
    · simp (disch := omega) only [z_0, z_1, z_2, z_3, z_4, z_5, z_6, z_7, z_8, z_9, z_10, z_11, z_12, z_14, z_18, z_20, z_22, z_24, z_32, z_38, z_40, z_41, z_44, z_48, z_49, z_57, z_59, z_60, z_63, z_65, z_74, z_75, z_81, z_97, z_99, z_104, z_115, z_119, z_122, z_200, z_209, z_210, z_219, z_228, z_255, z_300, z_369, z_999, z_65537, z_268435456, z_1000000000, n_nat, n_add, n_sub, n_mul, n_neg, n_lt, n_le, n_eq, n_ix, n_gd, n_nz, lz_t, bd_some, tn, Int.reduceToNat, tn_1, if_pos, if_neg, if_true, if_false, h21, f_X11_note_48, y1', w1]
    · simp (disch := omega) only [sI_a, sI_b, sL_a, sL_b, sL_c, wA_a, wA_b, wA_c, wA_d, wB_a, wB_b, wB_c, wB_d, sA_w, sB_w, uN_s, uN_n, up_s, up_n, ul_s, ul_n, p_fst, p_snd]; rfl
    · intro k hk
      simp (disch := omega) only [sI_a, sI_b, sL_a, sL_b, sL_c, wA_a, wA_b, wA_c, wA_d, wB_a, wB_b, wB_c, wB_d, sA_w, sB_w, uN_s, uN_n, up_s, up_n, ul_s, ul_n, p_fst, p_snd]
    · intro a ha
      simp (disch := omega) only [sI_a, sI_b, sL_a, sL_b, sL_c, wA_a, wA_b, wA_c, wA_d, wB_a, wB_b, wB_c, wB_d, sA_w, sB_w, uN_s, uN_n, up_s, up_n, ul_s, ul_n, p_fst, p_snd]
    · simp (disch := omega) only [sI_a, sI_b, sL_a, sL_b, sL_c, wA_a, wA_b, wA_c, wA_d, wB_a, wB_b, wB_c, wB_d, sA_w, sB_w, uN_s, uN_n, up_s, up_n, ul_s, ul_n, p_fst, p_snd]
    · intro k hk
      have := y2 k hk
      rw [show 7 * (u + 1 - 1) + k = 7 * u + k by omega, this, Nat.zero_add]
    · intro j h1 h2 k hk
      rw [y3 _ (by omega)]
      exact congrArg _ (by omega)
theorem cpy_7 (f g : Nat → Int32) (k : Nat) (hk : k < 7) : va_cpy f g 0 0 7 k = f k := by
  unfold va_cpy
  rw [if_pos ⟨by omega, by omega⟩]
  congr 1
  omega
theorem keep_e {F : Nat} {sJo sJk : MS} {u L : Nat} (hu : u ≤ 12) (hL : L < 12) (h1 : sJo.1 1 = Int32.ofInt (u : Int)) (h3 : sJo.1 3 = Int32.ofInt (L : Int)) :
    ∃ f, f_X3_keep F sJo sJk = some (sI (sI sJo 3 (Int32.ofInt (((L + 1) % 12 : Nat) : Int))) 1 (Int32.ofInt ((min 12 (u + 1) : Nat) : Int)), wA sJk ((L + 1) % 12) f) ∧ (∀ k, k < 7 → f k = sJo.2.2.1 0 k) := by
  have e : (L : Int) + 1 - ((L : Int) + 1) / 12 * 12 = (((L + 1) % 12 : Nat) : Int) := by omega
  have w3 : (sI sJo 3 (Int32.ofInt (((L + 1) % 12 : Nat) : Int))).1 3 = Int32.ofInt (((L + 1) % 12 : Nat) : Int) := sI_s _ _ _
  have w1 : (sI sJo 3 (Int32.ofInt (((L + 1) % 12 : Nat) : Int))).1 1 = Int32.ofInt (u : Int) := by rw [sI_n _ _ _ _ (by decide)]; exact h1
  refine ⟨va_cpy (sJo.2.2.1 0) (sJk.2.2.1 ((L + 1) % 12)) 0 0 7, ?_, fun k hk => cpy_7 _ _ k hk⟩
  unfold f_X3_keep
  by_cases c : (u : Int) + 1 < 12
  · have em : min 12 (u + 1) = u + 1 := by omega
    rw [em]
    simp (disch := omega) only [z_0, z_1, z_2, z_3, z_4, z_5, z_6, z_7, z_8, z_9, z_10, z_11, z_12, z_14, z_18, z_20, z_22, z_24, z_32, z_38, z_40, z_41, z_44, z_48, z_49, z_57, z_59, z_60, z_63, z_65, z_74, z_75, z_81, z_97, z_99, z_104, z_115, z_119, z_122, z_200, z_209, z_210, z_219, z_228, z_255, z_300, z_369, z_999, z_65537, z_268435456, z_1000000000, n_nat, n_add, n_sub, n_mul, n_neg, n_lt, n_le, n_eq, n_ix, n_gd, n_nz, lz_t, bd_some, tn, Int.reduceToNat, tn_1, if_pos, if_neg, if_true, if_false, n_div, h3, e, w3, w1, sI_b]
    rfl
  · have em : min 12 (u + 1) = 12 := by omega
    rw [em]
    simp (disch := omega) only [z_0, z_1, z_2, z_3, z_4, z_5, z_6, z_7, z_8, z_9, z_10, z_11, z_12, z_14, z_18, z_20, z_22, z_24, z_32, z_38, z_40, z_41, z_44, z_48, z_49, z_57, z_59, z_60, z_63, z_65, z_74, z_75, z_81, z_97, z_99, z_104, z_115, z_119, z_122, z_200, z_209, z_210, z_219, z_228, z_255, z_300, z_369, z_999, z_65537, z_268435456, z_1000000000, n_nat, n_add, n_sub, n_mul, n_neg, n_lt, n_le, n_eq, n_ix, n_gd, n_nz, lz_t, bd_some, tn, Int.reduceToNat, tn_1, if_pos, if_neg, if_true, if_false, n_div, h3, e, w3, w1, sI_b]
    rfl
/-- what is kept by both: rows stay in step -/
theorem JU_k {F : Nat} (hF : 100 ≤ F) {r : Nat → Int32} {sJo sJk s : MS} (H : JU r sJo sJk s) (hw : rowR r (sJo.2.2.1 0) (s.2.2.1 18)) :
    ∃ a b sJo' sJk' s', sJo' = sI (sI sJo 3 a) 1 b ∧ f_X3_keep F sJo sJk = some (sJo', sJk') ∧ f_X11_note F s = some s' ∧ KJ s s' ∧ (∀ k, k ≠ 21 → s'.1 k = s.1 k) ∧ (∀ a, a ≠ 19 → s'.2.2.1 a = s.2.2.1 a) ∧ (∀ (x y : MS), x.1 = sJo'.1 → y.1 21 = s'.1 21 → y.2.2.1 19 = s'.2.2.1 19 → JU r x sJk' y) := by
  obtain ⟨u, L, hu, hL, h1, h2, h3, h4⟩ := H
  obtain ⟨g, s', n1, n2, n3, n4, n5, n6, n7⟩ := note_e (F := F) hF hu h2
  obtain ⟨f, k1, k2⟩ := keep_e (F := F) (sJk := sJk) hu hL h1 h3
  refine ⟨_, _, _, _, s', rfl, k1, n1, ⟨fun k hk => n3 k (by omega), fun a ha => n4 a (by omega)⟩, n3, n4, ?_⟩
  intro x y hx hy hy2
  refine ⟨min 12 (u + 1), (L + 1) % 12, by omega, by omega, ?_, ?_, ?_, ?_⟩
  · rw [hx, sI_s]
  · rw [hy, n2]
  · rw [hx, sI_n _ _ _ _ (by decide), sI_s]
  · intro j hj
    rw [hy2, n5]
    by_cases j0 : j = 0
    · subst j0
      have ei : ((L + 1) % 12 + 12 - 0) % 12 = (L + 1) % 12 := by omega
      rw [ei]
      refine rowR_c hw (fun k hk => ?_) (fun k hk => ?_)
      · simp (disch := omega) only [sI_a, sI_b, sL_a, sL_b, sL_c, wA_a, wA_b, wA_c, wA_d, wB_a, wB_b, wB_c, wB_d, sA_w, sB_w, uN_s, uN_n, up_s, up_n, ul_s, ul_n, p_fst, p_snd]
        exact k2 k hk
      · show g (7 * (min 12 (u + 1) - 1 - 0) + k) = _
        rw [Nat.sub_zero]
        exact n6 k hk
    · have ei : ((L + 1) % 12 + 12 - j) % 12 = (L + 12 - (j - 1)) % 12 := by omega
      have en : (L + 12 - (j - 1)) % 12 ≠ (L + 1) % 12 := by omega
      rw [ei]
      refine rowR_c (h4 (j - 1) (by omega)) (fun k hk => ?_) (fun k hk => ?_)
      · simp (disch := omega) only [sI_a, sI_b, sL_a, sL_b, sL_c, wA_a, wA_b, wA_c, wA_d, wB_a, wB_b, wB_c, wB_d, sA_w, sB_w, uN_s, uN_n, up_s, up_n, ul_s, ul_n, p_fst, p_snd]
      · show g (7 * (min 12 (u + 1) - 1 - j) + k) = s.2.2.1 19 (7 * (u - 1 - (j - 1)) + k)
        rw [show min 12 (u + 1) - 1 - j = min 12 (u + 1) - 2 - (j - 1) by omega]
        exact n7 (j - 1) (by omega) (by omega) k hk
