/-! the next token; words -/
theorem skip_go {F : Nat} (hF : 1000 ≤ F) {f : Nat → Int32} {e Lb : Nat} {sRd sMo : MS} (hE : RZ f e sRd sMo) : ∀ (d k n n2 : Nat) (v : Int32), Lb ≤ k → k + d = e → d < n → d < n2 → v = Int32.ofInt (k : Int) → ∃ sRd' sMo', f_X7_lookOn_8 F 800 f n (sI sRd 6 v) = some sRd' ∧ f_X11_next_5 F n2 (Int32.ofInt (k : Int)) sMo = some sMo' ∧ RD f e Lb sRd' sMo' ∧ FRd sRd sRd' ∧ FMo sMo sMo' := by
  intro d
  induction d with
  | zero =>
    intro k n n2 v hL hk hn hn2 hv
    cases n with
    | zero => omega
    | succ n =>
      cases n2 with
      | zero => omega
      | succ n2 =>
        subst hv
        have hE' : RZ f e (sI sRd 6 (Int32.ofInt (k : Int))) sMo := RZ_f hE (FRw_i _ _ (by omega)) (FMo_r _)
        obtain ⟨sRd', sMo', z1, z2, z3, z4, z5⟩ := tok_at hF hL hE' (show k ≤ e by omega) (sI_s _ _ _)
        have e1 := look_out (F := F) (k := k) hE.1 hE.2.2.1 (by omega) (by have := hE.1; omega)
        have e3 : (sI sRd 6 (Int32.ofInt (k : Int))).1 3 = Int32.ofInt (e : Int) := hE'.2.1
        have e6 : (sI sRd 6 (Int32.ofInt (k : Int))).1 6 = Int32.ofInt (k : Int) := sI_s _ _ _
        have he := hE.1
        refine ⟨sRd', sMo', ?_, ?_, z3, FRd_t (FRd_i _ _ (by omega)) z4, z5⟩
        · rw [f_X7_lookOn_8, e3, e6, if_pos (by rw [n_le _ _ (by omega) (by omega) (by omega) (by omega)]; omega)]
          exact z1
        · rw [f_X11_next_5, e1, bd_some, if_neg (by decide)]
          exact z2
  | succ d ih =>
    intro k n n2 v hL hk hn hn2 hv
    cases n with
    | zero => omega
    | succ n =>
      cases n2 with
      | zero => omega
      | succ n2 =>
        subst hv
        have hE' : RZ f e (sI sRd 6 (Int32.ofInt (k : Int))) sMo := RZ_f hE (FRw_i _ _ (by omega)) (FMo_r _)
        have he := hE.1
        have e1 := look_in (F := F) (k := k) hE.1 hE.2.2.1 (by omega)
        obtain ⟨x, y, x1, y1, b1, b2, b3, b4, b5⟩ := byR_x (hE.2.2.2 k (by omega))
        rw [y1] at e1
        have e3 : (sI sRd 6 (Int32.ofInt (k : Int))).1 3 = Int32.ofInt (e : Int) := hE'.2.1
        have e6 : (sI sRd 6 (Int32.ofInt (k : Int))).1 6 = Int32.ofInt (k : Int) := sI_s _ _ _
        have e8 : (k : Int) + 1 = ((k + 1 : Nat) : Int) := by omega
        by_cases c : x = 32
        · obtain ⟨sRd', sMo', z1, z2, z3, z4, z5⟩ := ih (k + 1) n n2 _ (by omega) (by omega) (by omega) (by omega) rfl
          refine ⟨sRd', sMo', ?_, ?_, z3, z4, z5⟩
          · rw [f_X7_lookOn_8]
            simp (disch := omega) only [z_0, z_1, z_2, z_3, z_4, z_5, z_6, z_7, z_8, z_9, z_10, z_11, z_12, z_14, z_18, z_20, z_22, z_24, z_32, z_38, z_40, z_41, z_44, z_48, z_49, z_57, z_59, z_60, z_63, z_65, z_74, z_75, z_81, z_97, z_99, z_104, z_115, z_119, z_122, z_200, z_209, z_210, z_219, z_228, z_255, z_300, z_369, z_999, z_65537, z_268435456, z_1000000000, n_nat, n_add, n_sub, n_mul, n_neg, n_lt, n_le, n_eq, n_ix, n_gd, n_nz, lz_t, bd_some, tn, Int.reduceToNat, tn_1, if_pos, if_neg, if_true, if_false, e3, e6, x1, sI_2x, e8]
            exact z1
          · rw [f_X11_next_5]
            simp (disch := omega) only [z_0, z_1, z_2, z_3, z_4, z_5, z_6, z_7, z_8, z_9, z_10, z_11, z_12, z_14, z_18, z_20, z_22, z_24, z_32, z_38, z_40, z_41, z_44, z_48, z_49, z_57, z_59, z_60, z_63, z_65, z_74, z_75, z_81, z_97, z_99, z_104, z_115, z_119, z_122, z_200, z_209, z_210, z_219, z_228, z_255, z_300, z_369, z_999, z_65537, z_268435456, z_1000000000, n_nat, n_add, n_sub, n_mul, n_neg, n_lt, n_le, n_eq, n_ix, n_gd, n_nz, lz_t, bd_some, tn, Int.reduceToNat, tn_1, if_pos, if_neg, if_true, if_false, e1, e8]
            exact z2
        · obtain ⟨sRd', sMo', z1, z2, z3, z4, z5⟩ := tok_at hF hL hE' (show k ≤ e by omega) (sI_s _ _ _)
          refine ⟨sRd', sMo', ?_, ?_, z3, FRd_t (FRd_i _ _ (by omega)) z4, z5⟩
          · rw [f_X7_lookOn_8]
            simp (disch := omega) only [z_0, z_1, z_2, z_3, z_4, z_5, z_6, z_7, z_8, z_9, z_10, z_11, z_12, z_14, z_18, z_20, z_22, z_24, z_32, z_38, z_40, z_41, z_44, z_48, z_49, z_57, z_59, z_60, z_63, z_65, z_74, z_75, z_81, z_97, z_99, z_104, z_115, z_119, z_122, z_200, z_209, z_210, z_219, z_228, z_255, z_300, z_369, z_999, z_65537, z_268435456, z_1000000000, n_nat, n_add, n_sub, n_mul, n_neg, n_lt, n_le, n_eq, n_ix, n_gd, n_nz, lz_t, bd_some, tn, Int.reduceToNat, tn_1, if_pos, if_neg, if_true, if_false, e3, e6, x1]
            exact z1
          · rw [f_X11_next_5]
            simp (disch := omega) only [z_0, z_1, z_2, z_3, z_4, z_5, z_6, z_7, z_8, z_9, z_10, z_11, z_12, z_14, z_18, z_20, z_22, z_24, z_32, z_38, z_40, z_41, z_44, z_48, z_49, z_57, z_59, z_60, z_63, z_65, z_74, z_75, z_81, z_97, z_99, z_104, z_115, z_119, z_122, z_200, z_209, z_210, z_219, z_228, z_255, z_300, z_369, z_999, z_65537, z_268435456, z_1000000000, n_nat, n_add, n_sub, n_mul, n_neg, n_lt, n_le, n_eq, n_ix, n_gd, n_nz, lz_t, bd_some, tn, Int.reduceToNat, tn_1, if_pos, if_neg, if_true, if_false, e1]
            exact z2
theorem P_next {F : Nat} (hF : 1000 ≤ F) {f : Nat → Int32} {e Lb b : Nat} {sRd sMo : MS} (hE : RZ f e sRd sMo) (hL : Lb ≤ b) (hb : b ≤ e) (h7 : sRd.1 7 = Int32.ofInt (b : Int)) (h5 : sMo.1 5 = Int32.ofInt (b : Int)) : ∃ sRd' sMo', f_X7_lookOn F 800 f sRd = some sRd' ∧ f_X11_next F sMo = some sMo' ∧ RD f e Lb sRd' sMo' ∧ FRd sRd sRd' ∧ FMo sMo sMo' := by
  have he := hE.1
  obtain ⟨sRd', sMo', z1, z2, z3⟩ := skip_go hF hE (e - b) b F F _ hL (by omega) (by omega) (by omega) rfl
  refine ⟨sRd', sMo', ?_, ?_, z3⟩
  · unfold f_X7_lookOn
    rw [h7]
    exact z1
  · unfold f_X11_next
    rw [h5]
    exact z2
/-- after a token -/
theorem N_next {F : Nat} (hF : 1000 ≤ F) {f : Nat → Int32} {e Lb : Nat} {sRd sMo : MS} (hE : RZ f e sRd sMo) (hD : RD f e Lb sRd sMo) : ∃ sRd' sMo', f_X7_lookOn F 800 f sRd = some sRd' ∧ f_X11_next F sMo = some sMo' ∧ RD f e Lb sRd' sMo' ∧ FRd sRd sRd' ∧ FMo sMo sMo' := by
  obtain ⟨a, b, d1, d2, d3, d4, d5, d6, -⟩ := hD
  exact P_next hF hE (by omega) d2 d5 d6
theorem lenZ_b : ∀ p, p < 15 → lenZ.getD p 0 ≤ 8 := by decide
theorem w0_go {F : Nat} {s : MS} {p m : Nat} (hm : m ≤ 8) (h8 : s.1 8 = Int32.ofInt (m : Int)) : ∀ (d k n : Nat), k + d = m → d < n → f_X11_isWord_32 F s p n 0 (Int32.ofInt (k : Int)) = some 0 := by
  intro d
  induction d with
  | zero =>
    intro k n hk hn
    cases n with
    | zero => omega
    | succ n =>
      rw [f_X11_isWord_32, h8, if_pos (by rw [n_le _ _ (by omega) (by omega) (by omega) (by omega)]; omega)]
      rfl
  | succ d ih =>
    intro k n hk hn
    cases n with
    | zero => omega
    | succ n =>
      rw [f_X11_isWord_32, h8, if_neg (by rw [n_le _ _ (by omega) (by omega) (by omega) (by omega)]; omega), if_pos rfl]
      unfold f_X11_isWord_62 f_X11_isWord_63
      rw [lz_t, z_1, n_add]
      exact ih (k + 1) n (by omega) (by omega)
theorem w1_go {F : Nat} {f : Nat → Int32} {sRd s : MS} {p m a : Nat} (hp : p < 15) (hl : lenZ.getD p 0 = m) (hm : m ≤ 8) (ha : a + m ≤ 800) (h6 : sRd.1 6 = Int32.ofInt (a : Int)) (h8 : s.1 8 = Int32.ofInt (m : Int)) (hL : ∀ j, j < m → s.2.2.1 12 j = f (a + j)) : ∀ (d k n n2 : Nat), k + d = m → d < n → d < n2 → ∃ v : Bool, f_X7_isWord_28 F sRd 800 f p n (Int32.ofInt (k : Int)) = some (bi v) ∧ f_X11_isWord_32 F s p n2 1 (Int32.ofInt (k : Int)) = some (bi v) := by
  have g15 : ∀ {α : Type} (k : Option α), gd (decide (p < 15)) k = k := fun k => gd_t (decide_eq_true hp)
  intro d
  induction d with
  | zero =>
    intro k n n2 hk hn hn2
    cases n with
    | zero => omega
    | succ n =>
      cases n2 with
      | zero => omega
      | succ n2 =>
        refine ⟨true, ?_, ?_⟩
        · rw [f_X7_isWord_28, g15, lz_t, hl, n_nat, if_pos (by rw [n_le _ _ (by omega) (by omega) (by omega) (by omega)]; omega)]
          rfl
        · rw [f_X11_isWord_32, h8, if_pos (by rw [n_le _ _ (by omega) (by omega) (by omega) (by omega)]; omega)]
          rfl
  | succ d ih =>
    intro k n n2 hk hn hn2
    cases n with
    | zero => omega
    | succ n =>
      cases n2 with
      | zero => omega
      | succ n2 =>
        have e1 : (a : Int) + (k : Int) = ((a + k : Nat) : Int) := by omega
        have e2 : (k : Int) + 1 = ((k + 1 : Nat) : Int) := by omega
        have A : f_X7_isWord_28 F sRd 800 f p (n + 1) (Int32.ofInt (k : Int)) = (if f (a + k) = chZ p k then f_X7_isWord_28 F sRd 800 f p n (Int32.ofInt ((k + 1 : Nat) : Int)) else some 0) := by
          rw [f_X7_isWord_28, g15, lz_t, hl, n_nat, if_neg (by rw [n_le _ _ (by omega) (by omega) (by omega) (by omega)]; omega), h6, n_add, e1, n_gd _ _ _ (by omega) (by omega) (by omega), n_ix _ (by omega) (by omega), tn, lz_t, g15, n_gd _ _ _ (by omega) (by omega) (by omega), n_ix _ (by omega) (by omega), tn, lz_t, lz_t, z_1, n_add, e2]
        have B : f_X11_isWord_32 F s p (n2 + 1) 1 (Int32.ofInt (k : Int)) = (if f (a + k) = chZ p k then f_X11_isWord_32 F s p n2 1 (Int32.ofInt ((k + 1 : Nat) : Int)) else some 0) := by
          rw [f_X11_isWord_32, h8, if_neg (by rw [n_le _ _ (by omega) (by omega) (by omega) (by omega)]; omega), if_neg (by decide), n_gd _ _ _ (by omega) (by omega) (by omega), n_ix _ (by omega) (by omega), tn, lz_t, hL k (by omega), g15, hl, n_gd _ _ _ (by omega) (by omega) (by omega), lz_t]
          unfold f_X11_isWord_62 f_X11_isWord_63
          rw [lz_t, lz_t, z_1, n_add, e2, show Int32.ofInt 1 = (1 : Int32) from rfl, show (0 : Int32) = 0 from rfl, w0_go hm h8 d (k + 1) n2 (by omega) (by omega)]
        by_cases c : f (a + k) = chZ p k
        · obtain ⟨v, z1, z2⟩ := ih (k + 1) n n2 (by omega) (by omega) (by omega)
          exact ⟨v, by rw [A, if_pos c, z1], by rw [B, if_pos c, z2]⟩
        · exact ⟨false, by rw [A, if_neg c]; rfl, by rw [B, if_neg c]; rfl⟩
theorem P_isWord {F : Nat} (hF : 1000 ≤ F) {f : Nat → Int32} {e Lb : Nat} {sRd sMo : MS} (hE : RZ f e sRd sMo) (hD : RD f e Lb sRd sMo) (h13 : sMo.1 13 = 0) {p : Nat} (hp : p < 15) : ∃ v : Bool, f_X7_isWord F sRd 800 f p = some (bi v) ∧ f_X11_isWord F sMo p = some (bi v) ∧ (v = true → sRd.1 5 = 1 ∧ sMo.1 6 = 2) := by
  have g15 : ∀ {α : Type} (k : Option α), gd (decide (p < 15)) k = k := fun k => gd_t (decide_eq_true hp)
  have he := hE.1
  have lb := lenZ_b p hp
  obtain ⟨a, b, d1, d2, d3, d4, d5, d6, d7⟩ := hD
  unfold f_X7_isWord f_X11_isWord
  rw [h13, if_pos rfl]
  rcases d7 with ⟨w1, w2⟩ | ⟨w1, w2, w3, w4, w5, w6⟩ | ⟨w1, w2, w3⟩ | ⟨w1, w3, w2⟩ | ⟨w1, w2⟩
  · exact ⟨false, by rw [w1]; rfl, by rw [w2]; rfl, by simp⟩
  · rw [w1, w2, if_pos rfl, if_pos rfl, g15, g15, lz_t, lz_t, w5, d3, d5, n_nat, n_sub]
    by_cases c : b - a = lenZ.getD p 0
    · obtain ⟨v, z1, z2⟩ := w1_go (F := F) (f := f) (sRd := sRd) (s := sMo) (m := b - a) (a := a) hp c.symm (by omega) (by omega) d3 w5 w6 (b - a) 0 F F (by omega) (by omega) (by omega)
      refine ⟨v, ?_, ?_, fun _ => ⟨rfl, rfl⟩⟩
      · rw [if_pos (by rw [n_eq _ _ (by omega) (by omega) (by omega) (by omega)]; omega)]
        exact z1
      · rw [if_pos (by rw [n_eq _ _ (by omega) (by omega) (by omega) (by omega)]; omega)]
        exact z2
    · refine ⟨false, ?_, ?_, fun _ => ⟨rfl, rfl⟩⟩
      · rw [if_neg (by rw [n_eq _ _ (by omega) (by omega) (by omega) (by omega)]; omega)]; rfl
      · rw [if_neg (by rw [n_eq _ _ (by omega) (by omega) (by omega) (by omega)]; omega)]; rfl
  · exact ⟨false, by rw [w1]; rfl, by rw [w2]; rfl, by simp⟩
  · refine ⟨false, by rw [w1]; rfl, ?_, by simp⟩
    rcases w2 with ⟨w2, -⟩ | ⟨w2, -⟩
    · rw [w2]; rfl
    · rw [w2]; rfl
  · exact ⟨false, by rw [w1]; rfl, by rw [w2]; rfl, by simp⟩
