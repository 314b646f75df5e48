/-! tokens -/
def TK (f : Nat → Int32) (sRd sMo : MS) (a b : Nat) : Prop :=
  (sRd.1 5 = 0 ∧ sMo.1 6 = 0) ∨
  (sRd.1 5 = 1 ∧ sMo.1 6 = 2 ∧ a < b ∧ b ≤ a + 8 ∧ sMo.1 8 = Int32.ofInt ((b - a : Nat) : Int) ∧ ∀ j, j < b - a → sMo.2.2.1 12 j = f (a + j)) ∨
  (sRd.1 5 = 2 ∧ sMo.1 6 = 3 ∧ a < b ∧ b ≤ a + 3 ∧ sMo.1 7 = Int32.ofInt (dv f a (b - a)) ∧ ∀ j, j < b - a → 48 ≤ (f (a + j)).toInt ∧ (f (a + j)).toInt ≤ 57) ∨
  (sRd.1 5 = 3 ∧ a < b ∧ ((sMo.1 6 = 59 ∧ f a = 59) ∨ (sMo.1 6 = 44 ∧ f a = 44))) ∨
  (sRd.1 5 = 4 ∧ sMo.1 6 = 1)
def RD (f : Nat → Int32) (e Lb : Nat) (sRd sMo : MS) : Prop := ∃ a b : Nat, (Lb ≤ a ∧ a ≤ b) ∧ b ≤ e ∧ sRd.1 6 = Int32.ofInt (a : Int) ∧ sMo.1 4 = Int32.ofInt (a : Int) ∧ sRd.1 7 = Int32.ofInt (b : Int) ∧ sMo.1 5 = Int32.ofInt (b : Int) ∧ TK f sRd sMo a b
/-- ends, tape -/
def RZ (f : Nat → Int32) (e : Nat) (sRd sMo : MS) : Prop := e ≤ 800 ∧ sRd.1 3 = Int32.ofInt (e : Int) ∧ sMo.1 3 = Int32.ofInt (e : Int) ∧ TPR f sMo e
theorem RZ_f {f : Nat → Int32} {e : Nat} {sRd sMo sRd' sMo' : MS} (h : RZ f e sRd sMo) (g1 : FRw sRd sRd') (g2 : FMo sMo sMo') : RZ f e sRd' sMo' := ⟨h.1, (g1.1 3 (by omega)).trans h.2.1, (g2.1 3 (by omega)).trans h.2.2.1, TPR_f h.2.2.2 (g2.2 1 (by decide))⟩
theorem rl_c (f : Nat → Int32) (lo hi : Int) (d k : Nat) (h : lo ≤ (f k).toInt ∧ (f k).toInt ≤ hi) : 1 ≤ rl f lo hi (d + 1) k := by
  show 1 ≤ (if lo ≤ (f k).toInt ∧ (f k).toInt ≤ hi then 1 + rl f lo hi d (k + 1) else 0)
  rw [if_pos h]; omega
theorem rl_0 (f : Nat → Int32) (lo hi : Int) (d k : Nat) (h : ¬ (lo ≤ (f k).toInt ∧ (f k).toInt ≤ hi)) : rl f lo hi d k = 0 := by
  cases d with
  | zero => rfl
  | succ d =>
    show (if lo ≤ (f k).toInt ∧ (f k).toInt ≤ hi then 1 + rl f lo hi d (k + 1) else 0) = 0
    rw [if_neg h]
theorem tok_sg {F : Nat} {f : Nat → Int32} {e Lb k : Nat} {sRd sMo S : MS} (hL : Lb ≤ k) (he : e ≤ 800) (hk : k ≤ e) (h6 : sRd.1 6 = Int32.ofInt (k : Int)) (h3 : sRd.1 3 = Int32.ofInt (e : Int)) (k4 : S.1 4 = Int32.ofInt (k : Int)) (E4 : FMo sMo S) (hS : sI (sI (sI sMo 4 (Int32.ofInt (k : Int))) 8 (Int32.ofInt 0)) 7 (Int32.ofInt 0) = S) {d : Nat} (hd : k + (d + 1) = e) {x y : Int} (x1 : f k = Int32.ofInt x) (e1' : f_X11_look F (sI sMo 4 (Int32.ofInt (k : Int))) (Int32.ofInt (k : Int)) = some (Int32.ofInt y)) (b1 : -128 ≤ x) (b2 : x ≤ 127) (b3 : 0 ≤ y) (b4 : y ≤ 255) (b5 : x = y ∨ (x < 0 ∧ 128 ≤ y)) (c1 : ¬ (97 ≤ x ∧ x ≤ 122)) (c2 : ¬ (48 ≤ x ∧ x ≤ 57)) (q1 : f_X7_runLength F sRd 800 f (Int32.ofInt 97) (Int32.ofInt 122) = some (Int32.ofInt ((0 : Nat) : Int))) (q2 : f_X7_runLength F sRd 800 f (Int32.ofInt 48) (Int32.ofInt 57) = some (Int32.ofInt ((0 : Nat) : Int))) (s1 : f_X11_isSmall F (Int32.ofInt y) = some 0) (s2 : f_X11_isDigit F (Int32.ofInt y) = some 0) : ∃ sRd' sMo', f_X7_lookOn_46 F 800 f sRd = some sRd' ∧ f_X11_next_21 F (Int32.ofInt (k : Int)) sMo = some sMo' ∧ RD f e Lb sRd' sMo' ∧ FRd sRd sRd' ∧ FMo sMo sMo' := by
  have e4 : Int32.ofInt ((0 : Nat) : Int) = Int32.ofInt 0 := rfl
  have W : ∀ (kd tk : Int32), f_X7_lookOn_46 F 800 f sRd = some (sI (sI sRd 7 (Int32.ofInt ((k : Int) + 1))) 5 kd) → f_X11_next_21 F (Int32.ofInt (k : Int)) sMo = some (sI (sI S 5 (Int32.ofInt ((k : Int) + 1))) 6 tk) → ((kd = 3 ∧ ((tk = 59 ∧ f k = 59) ∨ (tk = 44 ∧ f k = 44))) ∨ (kd = 4 ∧ tk = 1)) → ∃ sRd' sMo', f_X7_lookOn_46 F 800 f sRd = some sRd' ∧ f_X11_next_21 F (Int32.ofInt (k : Int)) sMo = some sMo' ∧ RD f e Lb sRd' sMo' ∧ FRd sRd sRd' ∧ FMo sMo sMo' := by
    intro kd tk w1 w2 w3
    refine ⟨_, _, w1, w2, ⟨k, k + 1, by omega, by omega, ?_, ?_, ?_, ?_, ?_⟩, FRd_t (FRd_i sRd _ (by omega)) (FRd_i _ _ (by omega)), FMo_t E4 (FMo_t (FMo_i S _ (by omega) (by omega)) (FMo_i _ _ (by omega) (by omega)))⟩
    · rw [sI_n _ _ _ _ (by decide), sI_n _ _ _ _ (by decide), h6]
    · rw [sI_n _ _ _ _ (by decide), sI_n _ _ _ _ (by decide), k4]
    · rw [sI_n _ _ _ _ (by decide), sI_s]; rfl
    · rw [sI_n _ _ _ _ (by decide), sI_s]; rfl
    · rcases w3 with ⟨w3, w4⟩ | ⟨w3, w4⟩
      · refine Or.inr (Or.inr (Or.inr (Or.inl ⟨?_, by omega, ?_⟩)))
        · rw [sI_s, w3]
        · rw [sI_s]; exact w4
      · refine Or.inr (Or.inr (Or.inr (Or.inr ⟨?_, ?_⟩)))
        · rw [sI_s, w3]
        · rw [sI_s, w4]
  by_cases c59 : x = 59
  · have : y = 59 := by omega
    subst this
    subst c59
    refine W 3 59 ?_ ?_ (Or.inl ⟨rfl, Or.inl ⟨rfl, x1⟩⟩)
    · unfold f_X7_lookOn_46 f_X7_lookOn_117 f_X7_lookOn_122 f_X7_lookOn_192
      simp (disch := omega) only [z_0, z_1, z_2, z_3, z_4, z_5, z_6, z_7, z_8, z_9, z_10, z_11, z_12, z_14, z_18, z_20, z_22, z_24, z_32, z_38, z_40, z_41, z_44, z_48, z_49, z_57, z_59, z_60, z_63, z_65, z_74, z_75, z_81, z_97, z_99, z_104, z_115, z_119, z_122, z_200, z_209, z_210, z_219, z_228, z_255, z_300, z_369, z_999, z_65537, z_268435456, z_1000000000, n_nat, n_add, n_sub, n_mul, n_neg, n_lt, n_le, n_eq, n_ix, n_gd, n_nz, lz_t, bd_some, tn, Int.reduceToNat, tn_1, if_pos, if_neg, if_true, if_false, h6, h3, q1, q2, x1, e4]
    · unfold f_X11_next_21 f_X11_next_239 f_X11_next_244
      simp (disch := omega) only [z_0, z_1, z_2, z_3, z_4, z_5, z_6, z_7, z_8, z_9, z_10, z_11, z_12, z_14, z_18, z_20, z_22, z_24, z_32, z_38, z_40, z_41, z_44, z_48, z_49, z_57, z_59, z_60, z_63, z_65, z_74, z_75, z_81, z_97, z_99, z_104, z_115, z_119, z_122, z_200, z_209, z_210, z_219, z_228, z_255, z_300, z_369, z_999, z_65537, z_268435456, z_1000000000, n_nat, n_add, n_sub, n_mul, n_neg, n_lt, n_le, n_eq, n_ix, n_gd, n_nz, lz_t, bd_some, tn, Int.reduceToNat, tn_1, if_pos, if_neg, if_true, if_false, e1', hS, s1, s2]
  · by_cases c44 : x = 44
    · have : y = 44 := by omega
      subst this
      subst c44
      refine W 3 44 ?_ ?_ (Or.inl ⟨rfl, Or.inr ⟨rfl, x1⟩⟩)
      · unfold f_X7_lookOn_46 f_X7_lookOn_117 f_X7_lookOn_122 f_X7_lookOn_192
        simp (disch := omega) only [z_0, z_1, z_2, z_3, z_4, z_5, z_6, z_7, z_8, z_9, z_10, z_11, z_12, z_14, z_18, z_20, z_22, z_24, z_32, z_38, z_40, z_41, z_44, z_48, z_49, z_57, z_59, z_60, z_63, z_65, z_74, z_75, z_81, z_97, z_99, z_104, z_115, z_119, z_122, z_200, z_209, z_210, z_219, z_228, z_255, z_300, z_369, z_999, z_65537, z_268435456, z_1000000000, n_nat, n_add, n_sub, n_mul, n_neg, n_lt, n_le, n_eq, n_ix, n_gd, n_nz, lz_t, bd_some, tn, Int.reduceToNat, tn_1, if_pos, if_neg, if_true, if_false, h6, h3, q1, q2, x1, e4]
      · unfold f_X11_next_21 f_X11_next_239 f_X11_next_244
        simp (disch := omega) only [z_0, z_1, z_2, z_3, z_4, z_5, z_6, z_7, z_8, z_9, z_10, z_11, z_12, z_14, z_18, z_20, z_22, z_24, z_32, z_38, z_40, z_41, z_44, z_48, z_49, z_57, z_59, z_60, z_63, z_65, z_74, z_75, z_81, z_97, z_99, z_104, z_115, z_119, z_122, z_200, z_209, z_210, z_219, z_228, z_255, z_300, z_369, z_999, z_65537, z_268435456, z_1000000000, n_nat, n_add, n_sub, n_mul, n_neg, n_lt, n_le, n_eq, n_ix, n_gd, n_nz, lz_t, bd_some, tn, Int.reduceToNat, tn_1, if_pos, if_neg, if_true, if_false, e1', hS, s1, s2]
    · refine W 4 1 ?_ ?_ (Or.inr ⟨rfl, rfl⟩)
      · unfold f_X7_lookOn_46 f_X7_lookOn_122 f_X7_lookOn_192
        simp (disch := omega) only [z_0, z_1, z_2, z_3, z_4, z_5, z_6, z_7, z_8, z_9, z_10, z_11, z_12, z_14, z_18, z_20, z_22, z_24, z_32, z_38, z_40, z_41, z_44, z_48, z_49, z_57, z_59, z_60, z_63, z_65, z_74, z_75, z_81, z_97, z_99, z_104, z_115, z_119, z_122, z_200, z_209, z_210, z_219, z_228, z_255, z_300, z_369, z_999, z_65537, z_268435456, z_1000000000, n_nat, n_add, n_sub, n_mul, n_neg, n_lt, n_le, n_eq, n_ix, n_gd, n_nz, lz_t, bd_some, tn, Int.reduceToNat, tn_1, if_pos, if_neg, if_true, if_false, h6, h3, q1, q2, x1, e4]
      · unfold f_X11_next_21 f_X11_next_244
        simp (disch := omega) only [z_0, z_1, z_2, z_3, z_4, z_5, z_6, z_7, z_8, z_9, z_10, z_11, z_12, z_14, z_18, z_20, z_22, z_24, z_32, z_38, z_40, z_41, z_44, z_48, z_49, z_57, z_59, z_60, z_63, z_65, z_74, z_75, z_81, z_97, z_99, z_104, z_115, z_119, z_122, z_200, z_209, z_210, z_219, z_228, z_255, z_300, z_369, z_999, z_65537, z_268435456, z_1000000000, n_nat, n_add, n_sub, n_mul, n_neg, n_lt, n_le, n_eq, n_ix, n_gd, n_nz, lz_t, bd_some, tn, Int.reduceToNat, tn_1, if_pos, if_neg, if_true, if_false, e1', hS, s1, s2]
theorem tok_at {F : Nat} (hF : 1000 ≤ F) {f : Nat → Int32} {e Lb k : Nat} {sRd sMo : MS} (hL : Lb ≤ k) (hE : RZ f e sRd sMo) (hk : k ≤ e) (h6 : sRd.1 6 = Int32.ofInt (k : Int)) : ∃ sRd' sMo', f_X7_lookOn_46 F 800 f sRd = some sRd' ∧ f_X11_next_21 F (Int32.ofInt (k : Int)) sMo = some sMo' ∧ RD f e Lb sRd' sMo' ∧ FRd sRd sRd' ∧ FMo sMo sMo' := by
  obtain ⟨he, h3, g3, hT⟩ := hE
  have E4 : FMo sMo (sI (sI (sI sMo 4 (Int32.ofInt (k : Int))) 8 (Int32.ofInt 0)) 7 (Int32.ofInt 0)) := FMo_t (FMo_t (FMo_i sMo _ (by omega) (by omega)) (FMo_i _ _ (by omega) (by omega))) (FMo_i _ _ (by omega) (by omega))
  have k3 : (sI sMo 4 (Int32.ofInt (k : Int))).1 3 = Int32.ofInt (e : Int) := by rw [sI_n _ _ _ _ (by decide), g3]
  have k4 : (sI (sI (sI sMo 4 (Int32.ofInt (k : Int))) 8 (Int32.ofInt 0)) 7 (Int32.ofInt 0)).1 4 = Int32.ofInt (k : Int) := by rw [sI_n _ _ _ _ (by decide), sI_n _ _ _ _ (by decide), sI_s]
  have k8 : (sI (sI (sI sMo 4 (Int32.ofInt (k : Int))) 8 (Int32.ofInt 0)) 7 (Int32.ofInt 0)).1 8 = Int32.ofInt 0 := by rw [sI_n _ _ _ _ (by decide), sI_s]
  have k7 : (sI (sI (sI sMo 4 (Int32.ofInt (k : Int))) 8 (Int32.ofInt 0)) 7 (Int32.ofInt 0)).1 7 = Int32.ofInt 0 := by rw [sI_s]
  have k3' : (sI (sI (sI sMo 4 (Int32.ofInt (k : Int))) 8 (Int32.ofInt 0)) 7 (Int32.ofInt 0)).1 3 = Int32.ofInt (e : Int) := by rw [sI_n _ _ _ _ (by decide), sI_n _ _ _ _ (by decide), k3]
  generalize hS : sI (sI (sI sMo 4 (Int32.ofInt (k : Int))) 8 (Int32.ofInt 0)) 7 (Int32.ofInt 0) = S at *
  have hTS : TPR f S e := TPR_f hT (E4.2 1 (by decide))
  by_cases c : k = e
  · have e1 := look_out (F := F) (k := k) he k3 (by omega) (by omega)
    refine ⟨sI (sI sRd 7 (Int32.ofInt (k : Int))) 5 (Int32.ofInt 0), sI (sI S 6 (Int32.ofInt 0)) 5 (Int32.ofInt (k : Int)), ?_, ?_, ⟨k, k, ⟨hL, Nat.le_refl k⟩, hk, ?_, ?_, ?_, ?_, Or.inl ⟨?_, ?_⟩⟩, ?_, ?_⟩
    · unfold f_X7_lookOn_46
      simp (disch := omega) only [z_0, z_1, z_2, z_3, z_4, z_5, z_6, z_7, z_8, z_9, z_10, z_11, z_12, z_14, z_18, z_20, z_22, z_24, z_32, z_38, z_40, z_41, z_44, z_48, z_49, z_57, z_59, z_60, z_63, z_65, z_74, z_75, z_81, z_97, z_99, z_104, z_115, z_119, z_122, z_200, z_209, z_210, z_219, z_228, z_255, z_300, z_369, z_999, z_65537, z_268435456, z_1000000000, n_nat, n_add, n_sub, n_mul, n_neg, n_lt, n_le, n_eq, n_ix, n_gd, n_nz, lz_t, bd_some, tn, Int.reduceToNat, tn_1, if_pos, if_neg, if_true, if_false, h6, h3]
    · unfold f_X11_next_21
      simp (disch := omega) only [z_0, z_1, z_2, z_3, z_4, z_5, z_6, z_7, z_8, z_9, z_10, z_11, z_12, z_14, z_18, z_20, z_22, z_24, z_32, z_38, z_40, z_41, z_44, z_48, z_49, z_57, z_59, z_60, z_63, z_65, z_74, z_75, z_81, z_97, z_99, z_104, z_115, z_119, z_122, z_200, z_209, z_210, z_219, z_228, z_255, z_300, z_369, z_999, z_65537, z_268435456, z_1000000000, n_nat, n_add, n_sub, n_mul, n_neg, n_lt, n_le, n_eq, n_ix, n_gd, n_nz, lz_t, bd_some, tn, Int.reduceToNat, tn_1, if_pos, if_neg, if_true, if_false, e1, hS]
    · rw [sI_n _ _ _ _ (by decide), sI_n _ _ _ _ (by decide), h6]
    · rw [sI_n _ _ _ _ (by decide), sI_n _ _ _ _ (by decide), k4]
    · rw [sI_n _ _ _ _ (by decide), sI_s]
    · rw [sI_s]
    · rw [sI_s]; rfl
    · rw [sI_n _ _ _ _ (by decide), sI_s]; rfl
    · exact FRd_t (FRd_i sRd _ (by omega)) (FRd_i _ _ (by omega))
    · exact FMo_t E4 (FMo_t (FMo_i S _ (by omega) (by omega)) (FMo_i _ _ (by omega) (by omega)))
  · obtain ⟨d, hd⟩ : ∃ d, k + (d + 1) = e := ⟨e - k - 1, by omega⟩
    have e1 := look_in (F := F) (k := k) he k3 (by omega)
    obtain ⟨x, y, x1, y1, b1, b2, b3, b4, b5⟩ := byR_x (hT k (by omega))
    have et : (f k).toInt = x := by rw [x1]; exact n_toI _ (by omega) (by omega)
    have e1' : f_X11_look F (sI sMo 4 (Int32.ofInt (k : Int))) (Int32.ofInt (k : Int)) = some (Int32.ofInt y) := by rw [e1, ← y1]; rfl
    have hf : ∀ j, j < e → ∃ x : Int, f j = Int32.ofInt x ∧ -128 ≤ x ∧ x ≤ 127 := by
      intro j hj
      obtain ⟨x, y, x1, y1, b1, b2, -⟩ := byR_x (hT j hj)
      exact ⟨x, x1, b1, b2⟩
    have s1 := sm_y (F := F) (y := y) (by omega) (by omega)
    have s2 := dg_y (F := F) (y := y) (by omega) (by omega)
    have r1 := rlen_go (F := F) (sRd := sRd) (f := f) (lo := 97) (hi := 122) he h3 h6 (by omega) (by omega) (by omega) (by omega) (by omega) hf (d + 1) k F hd (by omega)
    have r2 := rlen_go (F := F) (sRd := sRd) (f := f) (lo := 48) (hi := 57) he h3 h6 (by omega) (by omega) (by omega) (by omega) (by omega) hf (d + 1) k F hd (by omega)
    have q1 : f_X7_runLength F sRd 800 f (Int32.ofInt 97) (Int32.ofInt 122) = some (Int32.ofInt (rl f 97 122 (d + 1) k : Int)) := by
      unfold f_X7_runLength
      rw [h6, r1]
      congr 2
      omega
    have q2 : f_X7_runLength F sRd 800 f (Int32.ofInt 48) (Int32.ofInt 57) = some (Int32.ofInt (rl f 48 57 (d + 1) k : Int)) := by
      unfold f_X7_runLength
      rw [h6, r2]
      congr 2
      omega
    have rb1 := rl_le f 97 122 (d + 1) k
    have rb2 := rl_le f 48 57 (d + 1) k
    clear r1 r2
    by_cases c1 : 97 ≤ x ∧ x ≤ 122
    · have g1 := rl_c f 97 122 d k (by rw [et]; exact c1)
      have g2 := rl_0 f 48 57 (d + 1) k (by rw [et]; omega)
      rw [if_pos (by omega)] at s1
      obtain ⟨S', z1, z2, z3, z4, z5, z6, z7, z8⟩ := word_go (F := F) (f := f) (a := k) he (d + 1) k F S hd (by omega) (by omega) k3' hTS (by rw [k8]; congr 1; omega)
      rw [g2] at q2
      generalize rl f 97 122 (d + 1) k = w at *
      refine ⟨sI (sI sRd 7 (Int32.ofInt ((k : Int) + (w : Int)))) 5 (if w ≤ 8 then 1 else 4), S', ?_, ?_, ⟨k, k + w, by omega, by omega, ?_, ?_, ?_, z2, ?_⟩, ?_, FMo_t E4 z6⟩
      · unfold f_X7_lookOn_46 f_X7_lookOn_117 f_X7_lookOn_122 f_X7_lookOn_155
        have e4 : Int32.ofInt ((0 : Nat) : Int) = Int32.ofInt 0 := rfl
        by_cases c8 : w ≤ 8
        · rw [if_pos c8]
          by_cases cw : 1 < w
          · simp (disch := omega) only [z_0, z_1, z_2, z_3, z_4, z_5, z_6, z_7, z_8, z_9, z_10, z_11, z_12, z_14, z_18, z_20, z_22, z_24, z_32, z_38, z_40, z_41, z_44, z_48, z_49, z_57, z_59, z_60, z_63, z_65, z_74, z_75, z_81, z_97, z_99, z_104, z_115, z_119, z_122, z_200, z_209, z_210, z_219, z_228, z_255, z_300, z_369, z_999, z_65537, z_268435456, z_1000000000, n_nat, n_add, n_sub, n_mul, n_neg, n_lt, n_le, n_eq, n_ix, n_gd, n_nz, lz_t, bd_some, tn, Int.reduceToNat, tn_1, if_pos, if_neg, if_true, if_false, h6, h3, q1, q2, x1, e4]
            congr 5
          · have : w = 1 := by omega
            subst this
            simp (disch := omega) only [z_0, z_1, z_2, z_3, z_4, z_5, z_6, z_7, z_8, z_9, z_10, z_11, z_12, z_14, z_18, z_20, z_22, z_24, z_32, z_38, z_40, z_41, z_44, z_48, z_49, z_57, z_59, z_60, z_63, z_65, z_74, z_75, z_81, z_97, z_99, z_104, z_115, z_119, z_122, z_200, z_209, z_210, z_219, z_228, z_255, z_300, z_369, z_999, z_65537, z_268435456, z_1000000000, n_nat, n_add, n_sub, n_mul, n_neg, n_lt, n_le, n_eq, n_ix, n_gd, n_nz, lz_t, bd_some, tn, Int.reduceToNat, tn_1, if_pos, if_neg, if_true, if_false, h6, h3, q1, q2, x1, e4]
            rfl
        · rw [if_neg c8]
          simp (disch := omega) only [z_0, z_1, z_2, z_3, z_4, z_5, z_6, z_7, z_8, z_9, z_10, z_11, z_12, z_14, z_18, z_20, z_22, z_24, z_32, z_38, z_40, z_41, z_44, z_48, z_49, z_57, z_59, z_60, z_63, z_65, z_74, z_75, z_81, z_97, z_99, z_104, z_115, z_119, z_122, z_200, z_209, z_210, z_219, z_228, z_255, z_300, z_369, z_999, z_65537, z_268435456, z_1000000000, n_nat, n_add, n_sub, n_mul, n_neg, n_lt, n_le, n_eq, n_ix, n_gd, n_nz, lz_t, bd_some, tn, Int.reduceToNat, tn_1, if_pos, if_neg, if_true, if_false, h6, h3, q1, q2, x1, e4]
          congr 5
      · unfold f_X11_next_21
        simp (disch := omega) only [z_0, z_1, z_2, z_3, z_4, z_5, z_6, z_7, z_8, z_9, z_10, z_11, z_12, z_14, z_18, z_20, z_22, z_24, z_32, z_38, z_40, z_41, z_44, z_48, z_49, z_57, z_59, z_60, z_63, z_65, z_74, z_75, z_81, z_97, z_99, z_104, z_115, z_119, z_122, z_200, z_209, z_210, z_219, z_228, z_255, z_300, z_369, z_999, z_65537, z_268435456, z_1000000000, n_nat, n_add, n_sub, n_mul, n_neg, n_lt, n_le, n_eq, n_ix, n_gd, n_nz, lz_t, bd_some, tn, Int.reduceToNat, tn_1, if_pos, if_neg, if_true, if_false, e1', hS, s1]
        exact z1
      · rw [sI_n _ _ _ _ (by decide), sI_n _ _ _ _ (by decide), h6]
      · rw [z5, k4]
      · rw [sI_n _ _ _ _ (by decide), sI_s]; congr 1
      · by_cases c8 : w ≤ 8
        · refine Or.inr (Or.inl ⟨?_, ?_, by omega, by omega, ?_, ?_⟩)
          · rw [sI_s, if_pos c8]
          · rw [z4, if_pos (by omega)]
          · exact z3
          · intro j hj
            exact z7 j (by omega) hj (by omega)
        · refine Or.inr (Or.inr (Or.inr (Or.inr ⟨?_, ?_⟩)))
          · rw [sI_s, if_neg c8]
          · rw [z4, if_neg (by omega)]
      · exact FRd_t (FRd_i sRd _ (by omega)) (FRd_i _ _ (by omega))
    · have g1 := rl_0 f 97 122 (d + 1) k (by rw [et]; exact c1)
      rw [if_neg (by omega)] at s1
      rw [g1] at q1
      have e4 : Int32.ofInt ((0 : Nat) : Int) = Int32.ofInt 0 := rfl
      by_cases c2 : 48 ≤ x ∧ x ≤ 57
      · have g2 := rl_c f 48 57 d k (by rw [et]; exact c2)
        rw [if_pos (by omega)] at s2
        have gi := rl_in f 48 57 (d + 1) k
        obtain ⟨S', z1, z2, z3, z4, z5, z6⟩ := digs_go (F := F) (f := f) (a := k) he (d + 1) k F S hd (by omega) (by omega) k3' hTS (by rw [k7]; congr 1; rw [show min 3 (k - k) = 0 by omega]; rfl)
        generalize rl f 48 57 (d + 1) k = w at *
        have ekk : Int32.ofInt ((k - k : Nat) : Int) = Int32.ofInt 0 := by congr 1; omega
        rw [ekk] at z1
        refine ⟨sI (sI sRd 7 (Int32.ofInt ((k : Int) + (w : Int)))) 5 (if w ≤ 3 then 2 else 4), S', ?_, ?_, ⟨k, k + w, by omega, by omega, ?_, ?_, ?_, z2, ?_⟩, ?_, FMo_t E4 z6⟩
        · unfold f_X7_lookOn_46 f_X7_lookOn_117 f_X7_lookOn_122 f_X7_lookOn_176
          by_cases c8 : w ≤ 3
          · rw [if_pos c8]
            by_cases cw : 1 < w
            · simp (disch := omega) only [z_0, z_1, z_2, z_3, z_4, z_5, z_6, z_7, z_8, z_9, z_10, z_11, z_12, z_14, z_18, z_20, z_22, z_24, z_32, z_38, z_40, z_41, z_44, z_48, z_49, z_57, z_59, z_60, z_63, z_65, z_74, z_75, z_81, z_97, z_99, z_104, z_115, z_119, z_122, z_200, z_209, z_210, z_219, z_228, z_255, z_300, z_369, z_999, z_65537, z_268435456, z_1000000000, n_nat, n_add, n_sub, n_mul, n_neg, n_lt, n_le, n_eq, n_ix, n_gd, n_nz, lz_t, bd_some, tn, Int.reduceToNat, tn_1, if_pos, if_neg, if_true, if_false, h6, h3, q1, q2, x1, e4]
              congr 5
              omega
            · have : w = 1 := by omega
              subst this
              simp (disch := omega) only [z_0, z_1, z_2, z_3, z_4, z_5, z_6, z_7, z_8, z_9, z_10, z_11, z_12, z_14, z_18, z_20, z_22, z_24, z_32, z_38, z_40, z_41, z_44, z_48, z_49, z_57, z_59, z_60, z_63, z_65, z_74, z_75, z_81, z_97, z_99, z_104, z_115, z_119, z_122, z_200, z_209, z_210, z_219, z_228, z_255, z_300, z_369, z_999, z_65537, z_268435456, z_1000000000, n_nat, n_add, n_sub, n_mul, n_neg, n_lt, n_le, n_eq, n_ix, n_gd, n_nz, lz_t, bd_some, tn, Int.reduceToNat, tn_1, if_pos, if_neg, if_true, if_false, h6, h3, q1, q2, x1, e4]
              rfl
          · rw [if_neg c8]
            simp (disch := omega) only [z_0, z_1, z_2, z_3, z_4, z_5, z_6, z_7, z_8, z_9, z_10, z_11, z_12, z_14, z_18, z_20, z_22, z_24, z_32, z_38, z_40, z_41, z_44, z_48, z_49, z_57, z_59, z_60, z_63, z_65, z_74, z_75, z_81, z_97, z_99, z_104, z_115, z_119, z_122, z_200, z_209, z_210, z_219, z_228, z_255, z_300, z_369, z_999, z_65537, z_268435456, z_1000000000, n_nat, n_add, n_sub, n_mul, n_neg, n_lt, n_le, n_eq, n_ix, n_gd, n_nz, lz_t, bd_some, tn, Int.reduceToNat, tn_1, if_pos, if_neg, if_true, if_false, h6, h3, q1, q2, x1, e4]
            congr 5
            omega
        · unfold f_X11_next_21
          simp (disch := omega) only [z_0, z_1, z_2, z_3, z_4, z_5, z_6, z_7, z_8, z_9, z_10, z_11, z_12, z_14, z_18, z_20, z_22, z_24, z_32, z_38, z_40, z_41, z_44, z_48, z_49, z_57, z_59, z_60, z_63, z_65, z_74, z_75, z_81, z_97, z_99, z_104, z_115, z_119, z_122, z_200, z_209, z_210, z_219, z_228, z_255, z_300, z_369, z_999, z_65537, z_268435456, z_1000000000, n_nat, n_add, n_sub, n_mul, n_neg, n_lt, n_le, n_eq, n_ix, n_gd, n_nz, lz_t, bd_some, tn, Int.reduceToNat, tn_1, if_pos, if_neg, if_true, if_false, e1', hS, s1, s2]
          exact z1
        · rw [sI_n _ _ _ _ (by decide), sI_n _ _ _ _ (by decide), h6]
        · rw [z5, k4]
        · rw [sI_n _ _ _ _ (by decide), sI_s]; congr 1
        · by_cases c8 : w ≤ 3
          · refine Or.inr (Or.inr (Or.inl ⟨?_, ?_, by omega, by omega, ?_, ?_⟩))
            · rw [sI_s, if_pos c8]
            · rw [z4, if_pos (by omega)]
            · rw [z3, show min 3 (k + w - k) = k + w - k by omega]
            · intro j hj
              exact gi j (by omega)
          · refine Or.inr (Or.inr (Or.inr (Or.inr ⟨?_, ?_⟩)))
            · rw [sI_s, if_neg c8]
            · rw [z4, if_neg (by omega)]
        · exact FRd_t (FRd_i sRd _ (by omega)) (FRd_i _ _ (by omega))
      · have g2 := rl_0 f 48 57 (d + 1) k (by rw [et]; exact c2)
        rw [if_neg (by omega)] at s2
        rw [g2] at q2
        exact tok_sg hL he hk h6 h3 k4 E4 hS hd x1 e1' b1 b2 b3 b4 b5 c1 c2 q1 q2 s1 s2
