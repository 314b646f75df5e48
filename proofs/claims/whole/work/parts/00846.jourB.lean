/-! calls of the journey -/
theorem rowR_x {r : Nat → Int32} (h : ROK r) {a b : Nat → Int32} (H : rowR r a b) : ∃ (p y : Nat) (q z : Int), p < 9 ∧ (p : Int) < rd r 5 ∧ (y : Int) ≤ rd r 0 ∧ 0 ≤ q ∧ q ≤ 99 ∧ 0 ≤ z ∧ z < 65537 ∧ b 0 = Int32.ofInt (p : Int) ∧ b 1 = Int32.ofInt (y : Int) ∧ b 4 = Int32.ofInt q ∧ b 6 = Int32.ofInt z ∧ a 0 = Int32.ofInt (p : Int) ∧ a 1 = Int32.ofInt (y : Int) ∧ a 4 = Int32.ofInt (if q = 0 then -2 else q) ∧ a 6 = Int32.ofInt z ∧ a 2 = b 2 ∧ a 3 = b 3 ∧ a 5 = b 5 ∧ (b 5 = 0 ∨ b 5 = 1) := by
  obtain ⟨t0, t1, t2, t3, t4, t5, t8, t9⟩ := ROKb h
  obtain ⟨h0, h1, h2, h3, h5, h6, h4, b0, b1, b4, b6, b5⟩ := H
  have e0 : b 0 = Int32.ofInt (((b 0).toInt.toNat : Nat) : Int) := by rw [show (((b 0).toInt.toNat : Nat) : Int) = (b 0).toInt by omega]; exact n_out _
  have e1 : b 1 = Int32.ofInt (((b 1).toInt.toNat : Nat) : Int) := by rw [show (((b 1).toInt.toNat : Nat) : Int) = (b 1).toInt by omega]; exact n_out _
  refine ⟨(b 0).toInt.toNat, (b 1).toInt.toNat, (b 4).toInt, (b 6).toInt, by omega, by omega, by omega, b4.1, b4.2, b6.1, b6.2, e0, e1, n_out _, n_out _, h0.trans e0, h1.trans e1, ?_, h6.trans (n_out _), h2, h3, h5, b5⟩
  rw [h4]
  by_cases c : b 4 = 0
  · rw [if_pos c, c]; rfl
  · rw [if_neg c, if_neg (fun q => c (by rw [i_eq]; exact q))]
    exact n_out _
theorem rowR_i {r : Nat → Int32} {a b : Nat → Int32} {p y : Nat} {q z : Int} (hp : (p : Int) < rd r 5) (h5 : rd r 5 ≤ 9) (hy : (y : Int) ≤ rd r 0) (h40 : rd r 0 ≤ 40) (q1 : 0 ≤ q) (q2 : q ≤ 99) (z1 : 0 ≤ z) (z2 : z < 65537) (b0 : b 0 = Int32.ofInt (p : Int)) (b1 : b 1 = Int32.ofInt (y : Int)) (b4 : b 4 = Int32.ofInt q) (b6 : b 6 = Int32.ofInt z) (a0 : a 0 = Int32.ofInt (p : Int)) (a1 : a 1 = Int32.ofInt (y : Int)) (a4 : a 4 = Int32.ofInt (if q = 0 then -2 else q)) (a6 : a 6 = Int32.ofInt z) (a2 : a 2 = b 2) (a3 : a 3 = b 3) (a5 : a 5 = b 5) (b5 : b 5 = 0 ∨ b 5 = 1) : rowR r a b := by
  refine ⟨by rw [a0, b0], by rw [a1, b1], a2, a3, a5, by rw [a6, b6], ?_, ?_, ?_, ?_, ?_, b5⟩
  · rw [a4, b4]
    by_cases c : q = 0
    · rw [if_pos c, c]; rfl
    · rw [if_neg c, if_neg]
      rw [z_0, n_eq _ _ (by omega) (by omega) (by omega) (by omega)]; exact c
  · rw [b0, oi ⟨by omega, by omega⟩]; omega
  · rw [b1, oi ⟨by omega, by omega⟩]; omega
  · rw [b4, oi ⟨by omega, by omega⟩]; omega
  · rw [b6, oi ⟨by omega, by omega⟩]; omega
theorem P_car {F : Nat} {sMn sRo sJo sJk sJi sMo : MS} (hR : RR sRo (sMo.2.2.1 15)) (H : HR (sMo.2.2.1 15) (sMo.1 14)) (J : JR (sMo.2.2.1 15) (sMo.1 14) sJo sJk sJi sMo) (p : Int32) :
    ∃ v sMn' sMo', f_X10_car F sJo sRo p sMn = some (v, sMn') ∧ f_X11_car F p sMo = some (v, sMo') ∧ TU sMn sMo sMn' sMo' := by
  unfold f_X10_car f_X11_car f_X10_car_19 f_X11_car_20 f_X11_car_45
  rw [X9_isTold hR H, bd_some, X11_good', bd_some, gQ_14]
  rcases H with ⟨h1, h2⟩ | ⟨h1, h2⟩
  · obtain ⟨a, y, q, z, pa, pb, yb, q1, q2, z1, z2, b0, b1, b4, b6, a0, a1, a4, a6, a2, a3, a5, b5⟩ := rowR_x h2 (J.1 h1)
    obtain ⟨w, w1, w2, rfl⟩ := i_ex p
    rw [h1, if_neg (c := (1 : Int32) = 0) (by decide), if_neg (c := (1 : Int32) = 0) (by decide)]
    have g18 : (gQ sMo).2.2.1 18 = sMo.2.2.1 18 := rfl
    by_cases c : 0 ≤ w ∧ w ≤ 4
    · by_cases c4 : w = 4
      · subst c4
        by_cases cq : q = 0
        · refine ⟨Int32.ofInt (-2), sI sMn 11 0, gQ sMo, ?_, ?_, TU_k (KP_r _)⟩
          · rw [if_pos cq] at a4
            simp (disch := omega) only [z_0, z_1, z_2, z_3, z_4, z_5, z_6, z_7, z_8, z_9, z_10, z_11, z_12, z_14, z_18, z_20, z_22, z_24, z_32, z_38, z_40, z_41, z_44, z_48, z_49, z_57, z_59, z_60, z_63, z_65, z_74, z_75, z_81, z_97, z_99, z_104, z_115, z_119, z_122, z_200, z_209, z_210, z_219, z_228, z_255, z_300, z_369, z_999, z_65537, z_268435456, z_1000000000, n_nat, n_add, n_sub, n_mul, n_neg, n_lt, n_le, n_eq, n_ix, n_gd, n_nz, lz_t, bd_some, tn, Int.reduceToNat, tn_1, if_pos, if_neg, if_true, if_false, a4, X10_accept]
          · simp (disch := omega) only [z_0, z_1, z_2, z_3, z_4, z_5, z_6, z_7, z_8, z_9, z_10, z_11, z_12, z_14, z_18, z_20, z_22, z_24, z_32, z_38, z_40, z_41, z_44, z_48, z_49, z_57, z_59, z_60, z_63, z_65, z_74, z_75, z_81, z_97, z_99, z_104, z_115, z_119, z_122, z_200, z_209, z_210, z_219, z_228, z_255, z_300, z_369, z_999, z_65537, z_268435456, z_1000000000, n_nat, n_add, n_sub, n_mul, n_neg, n_lt, n_le, n_eq, n_ix, n_gd, n_nz, lz_t, bd_some, tn, Int.reduceToNat, tn_1, if_pos, if_neg, if_true, if_false, f_X11_in, g18, b4]
        · refine ⟨Int32.ofInt q, sI sMn 11 0, gQ sMo, ?_, ?_, TU_k (KP_r _)⟩
          · rw [if_neg cq] at a4
            simp (disch := omega) only [z_0, z_1, z_2, z_3, z_4, z_5, z_6, z_7, z_8, z_9, z_10, z_11, z_12, z_14, z_18, z_20, z_22, z_24, z_32, z_38, z_40, z_41, z_44, z_48, z_49, z_57, z_59, z_60, z_63, z_65, z_74, z_75, z_81, z_97, z_99, z_104, z_115, z_119, z_122, z_200, z_209, z_210, z_219, z_228, z_255, z_300, z_369, z_999, z_65537, z_268435456, z_1000000000, n_nat, n_add, n_sub, n_mul, n_neg, n_lt, n_le, n_eq, n_ix, n_gd, n_nz, lz_t, bd_some, tn, Int.reduceToNat, tn_1, if_pos, if_neg, if_true, if_false, a4, X10_accept]
          · simp (disch := omega) only [z_0, z_1, z_2, z_3, z_4, z_5, z_6, z_7, z_8, z_9, z_10, z_11, z_12, z_14, z_18, z_20, z_22, z_24, z_32, z_38, z_40, z_41, z_44, z_48, z_49, z_57, z_59, z_60, z_63, z_65, z_74, z_75, z_81, z_97, z_99, z_104, z_115, z_119, z_122, z_200, z_209, z_210, z_219, z_228, z_255, z_300, z_369, z_999, z_65537, z_268435456, z_1000000000, n_nat, n_add, n_sub, n_mul, n_neg, n_lt, n_le, n_eq, n_ix, n_gd, n_nz, lz_t, bd_some, tn, Int.reduceToNat, tn_1, if_pos, if_neg, if_true, if_false, f_X11_in, g18, b4]
      · have e : sJo.2.2.1 0 w.toNat = sMo.2.2.1 18 w.toNat := by
          have : w = 0 ∨ w = 1 ∨ w = 2 ∨ w = 3 := by omega
          rcases this with rfl | rfl | rfl | rfl
          · exact a0.trans b0.symm
          · exact a1.trans b1.symm
          · exact a2
          · exact a3
        refine ⟨sMo.2.2.1 18 w.toNat, sI sMn 11 0, gQ sMo, ?_, ?_, TU_k (KP_r _)⟩
        · simp (disch := omega) only [z_0, z_1, z_2, z_3, z_4, z_5, z_6, z_7, z_8, z_9, z_10, z_11, z_12, z_14, z_18, z_20, z_22, z_24, z_32, z_38, z_40, z_41, z_44, z_48, z_49, z_57, z_59, z_60, z_63, z_65, z_74, z_75, z_81, z_97, z_99, z_104, z_115, z_119, z_122, z_200, z_209, z_210, z_219, z_228, z_255, z_300, z_369, z_999, z_65537, z_268435456, z_1000000000, n_nat, n_add, n_sub, n_mul, n_neg, n_lt, n_le, n_eq, n_ix, n_gd, n_nz, lz_t, bd_some, tn, Int.reduceToNat, tn_1, if_pos, if_neg, if_true, if_false, e, X10_accept]
        · simp (disch := omega) only [z_0, z_1, z_2, z_3, z_4, z_5, z_6, z_7, z_8, z_9, z_10, z_11, z_12, z_14, z_18, z_20, z_22, z_24, z_32, z_38, z_40, z_41, z_44, z_48, z_49, z_57, z_59, z_60, z_63, z_65, z_74, z_75, z_81, z_97, z_99, z_104, z_115, z_119, z_122, z_200, z_209, z_210, z_219, z_228, z_255, z_300, z_369, z_999, z_65537, z_268435456, z_1000000000, n_nat, n_add, n_sub, n_mul, n_neg, n_lt, n_le, n_eq, n_ix, n_gd, n_nz, lz_t, bd_some, tn, Int.reduceToNat, tn_1, if_pos, if_neg, if_true, if_false, f_X11_in, g18]
    · refine ⟨-1, sI sMn 11 1, sI (gQ sMo) 11 1, ?_, ?_, TU_n (KP_r _) 1⟩
      · by_cases c2 : w < 0
        · simp (disch := omega) only [z_0, z_1, z_2, z_3, z_4, z_5, z_6, z_7, z_8, z_9, z_10, z_11, z_12, z_14, z_18, z_20, z_22, z_24, z_32, z_38, z_40, z_41, z_44, z_48, z_49, z_57, z_59, z_60, z_63, z_65, z_74, z_75, z_81, z_97, z_99, z_104, z_115, z_119, z_122, z_200, z_209, z_210, z_219, z_228, z_255, z_300, z_369, z_999, z_65537, z_268435456, z_1000000000, n_nat, n_add, n_sub, n_mul, n_neg, n_lt, n_le, n_eq, n_ix, n_gd, n_nz, lz_t, bd_some, tn, Int.reduceToNat, tn_1, if_pos, if_neg, if_true, if_false, X10_refuse]
        · simp (disch := omega) only [z_0, z_1, z_2, z_3, z_4, z_5, z_6, z_7, z_8, z_9, z_10, z_11, z_12, z_14, z_18, z_20, z_22, z_24, z_32, z_38, z_40, z_41, z_44, z_48, z_49, z_57, z_59, z_60, z_63, z_65, z_74, z_75, z_81, z_97, z_99, z_104, z_115, z_119, z_122, z_200, z_209, z_210, z_219, z_228, z_255, z_300, z_369, z_999, z_65537, z_268435456, z_1000000000, n_nat, n_add, n_sub, n_mul, n_neg, n_lt, n_le, n_eq, n_ix, n_gd, n_nz, lz_t, bd_some, tn, Int.reduceToNat, tn_1, if_pos, if_neg, if_true, if_false, X10_refuse]
      · by_cases c2 : w < 0
        · simp (disch := omega) only [z_0, z_1, z_2, z_3, z_4, z_5, z_6, z_7, z_8, z_9, z_10, z_11, z_12, z_14, z_18, z_20, z_22, z_24, z_32, z_38, z_40, z_41, z_44, z_48, z_49, z_57, z_59, z_60, z_63, z_65, z_74, z_75, z_81, z_97, z_99, z_104, z_115, z_119, z_122, z_200, z_209, z_210, z_219, z_228, z_255, z_300, z_369, z_999, z_65537, z_268435456, z_1000000000, n_nat, n_add, n_sub, n_mul, n_neg, n_lt, n_le, n_eq, n_ix, n_gd, n_nz, lz_t, bd_some, tn, Int.reduceToNat, tn_1, if_pos, if_neg, if_true, if_false, f_X11_in, X11_no]
        · simp (disch := omega) only [z_0, z_1, z_2, z_3, z_4, z_5, z_6, z_7, z_8, z_9, z_10, z_11, z_12, z_14, z_18, z_20, z_22, z_24, z_32, z_38, z_40, z_41, z_44, z_48, z_49, z_57, z_59, z_60, z_63, z_65, z_74, z_75, z_81, z_97, z_99, z_104, z_115, z_119, z_122, z_200, z_209, z_210, z_219, z_228, z_255, z_300, z_369, z_999, z_65537, z_268435456, z_1000000000, n_nat, n_add, n_sub, n_mul, n_neg, n_lt, n_le, n_eq, n_ix, n_gd, n_nz, lz_t, bd_some, tn, Int.reduceToNat, tn_1, if_pos, if_neg, if_true, if_false, f_X11_in, X11_no]
  · rw [h1, if_pos rfl, if_pos rfl]
    exact ⟨_, _, _, rfl, rfl, TU_n (KP_r _) 1⟩
theorem JI_k {r : Nat → Int32} {sJo sJi sMo x y : MS} (H : JI r sJo sJi sMo) (hx : x.1 2 = sJo.1 2) (hy : y.1 22 = sMo.1 22) (hz : y.2.2.1 20 = sMo.2.2.1 20) : JI r x sJi y := by
  unfold JI at *
  rw [hx, hy, hz]
  exact H
theorem JU_c {r : Nat → Int32} {sJo sJk sMo x y : MS} (H : JU r sJo sJk sMo) (hx : x.1 1 = sJo.1 1) (hx3 : x.1 3 = sJo.1 3) (hy : y.1 21 = sMo.1 21) (hz : y.2.2.1 19 = sMo.2.2.1 19) : JU r x sJk y := by
  unfold JU at *
  rw [hx, hx3, hy, hz]
  exact H
theorem P_fill {F : Nat} (hF : 100 ≤ F) {sMn sRo sJo sJk sJi sMo : MS} (hR : RR sRo (sMo.2.2.1 15)) (H : HR (sMo.2.2.1 15) (sMo.1 14)) (J : JR (sMo.2.2.1 15) (sMo.1 14) sJo sJk sJi sMo) (p : Int32) :
    ∃ v sMn' sJo' sJk' sMo', f_X10_fill F sRo p sMn sJo sJk = some (v, sMn', sJo', sJk') ∧ f_X11_fill F p sMo = some (v, sMo') ∧ TJ sMn sMo sMn' sMo' ∧ JR (sMo.2.2.1 15) (sMo.1 14) sJo' sJk' sJi sMo' := by
  have JN : ∀ t, JR (sMo.2.2.1 15) (sMo.1 14) sJo sJk sJi (sI (gQ sMo) 11 t) := fun t => JR_n J rfl rfl rfl rfl rfl
  unfold f_X10_fill f_X11_fill f_X10_fill_63
  rw [X9_isTold hR H, bd_some, X11_good', bd_some, gQ_14]
  rcases H with ⟨h1, h2⟩ | ⟨h1, h2⟩
  · obtain ⟨q0, -, q2', q3', -⟩ := RRb hR
    obtain ⟨t0, t1, t2, t3, t4, t5, t8, t9⟩ := ROKb h2
    obtain ⟨a, y, q, z, pa, pb, yb, q1, q2, z1, z2, b0, b1, b4, b6, a0, a1, a4, a6, a2, a3, a5, b5⟩ := rowR_x h2 (J.1 h1)
    obtain ⟨w, w1, w2, rfl⟩ := i_ex p
    rw [h1, if_neg (c := (1 : Int32) = 0) (by decide), if_neg (c := (1 : Int32) = 0) (by decide)]
    have g18 : (gQ sMo).2.2.1 18 = sMo.2.2.1 18 := rfl
    have r0 : (gQ sMo).2.2.1 15 0 = Int32.ofInt (rd (sMo.2.2.1 15) 0) := rd_e _ 0
    by_cases cq : q = 0
    · rw [if_pos cq] at a4
      refine ⟨-1, sI sMn 11 6, sJo, sJk, sI (gQ sMo) 11 6, ?_, ?_, TJ_n _ _ 6, by rw [← h1]; exact JN 6⟩
      · simp (disch := omega) only [z_0, z_1, z_2, z_3, z_4, z_5, z_6, z_7, z_8, z_9, z_10, z_11, z_12, z_14, z_18, z_20, z_22, z_24, z_32, z_38, z_40, z_41, z_44, z_48, z_49, z_57, z_59, z_60, z_63, z_65, z_74, z_75, z_81, z_97, z_99, z_104, z_115, z_119, z_122, z_200, z_209, z_210, z_219, z_228, z_255, z_300, z_369, z_999, z_65537, z_268435456, z_1000000000, n_nat, n_add, n_sub, n_mul, n_neg, n_lt, n_le, n_eq, n_ix, n_gd, n_nz, lz_t, bd_some, tn, Int.reduceToNat, tn_1, if_pos, if_neg, if_true, if_false, a4, X10_refuse]
      · simp (disch := omega) only [z_0, z_1, z_2, z_3, z_4, z_5, z_6, z_7, z_8, z_9, z_10, z_11, z_12, z_14, z_18, z_20, z_22, z_24, z_32, z_38, z_40, z_41, z_44, z_48, z_49, z_57, z_59, z_60, z_63, z_65, z_74, z_75, z_81, z_97, z_99, z_104, z_115, z_119, z_122, z_200, z_209, z_210, z_219, z_228, z_255, z_300, z_369, z_999, z_65537, z_268435456, z_1000000000, n_nat, n_add, n_sub, n_mul, n_neg, n_lt, n_le, n_eq, n_ix, n_gd, n_nz, lz_t, bd_some, tn, Int.reduceToNat, tn_1, if_pos, if_neg, if_true, if_false, g18, b4, X11_no]
    · rw [if_neg cq] at a4
      by_cases c : 1 ≤ w ∧ w ≤ rd (sMo.2.2.1 15) 0 - y
      · obtain ⟨x1, x2, sJo', sJk', s', e0, e1, e2, e3, e4, e5, e6⟩ := JU_k (F := F) hF (s := gQ sMo) (JU_c J.2.2.1 rfl rfl rfl rfl) (J.1 h1)
        have j0 : sJo'.2.2.1 0 = sJo.2.2.1 0 := by rw [e0]; rfl
        have j2 : sJo'.1 2 = sJo.1 2 := by rw [e0, sI_n _ _ _ _ (by decide), sI_n _ _ _ _ (by decide)]
        have s18 : s'.2.2.1 18 = sMo.2.2.1 18 := e5 18 (by decide)
        have s15 : s'.2.2.1 15 = sMo.2.2.1 15 := e5 15 (by decide)
        have s20 : s'.2.2.1 20 = sMo.2.2.1 20 := e5 20 (by decide)
        have s22 : s'.1 22 = sMo.1 22 := e4 22 (by decide)
        have r2 : s'.2.2.1 15 2 = Int32.ofInt (rd (sMo.2.2.1 15) 2) := by rw [s15]; exact rd_e _ 2
        have r3 : s'.2.2.1 15 3 = Int32.ofInt (rd (sMo.2.2.1 15) 3) := by rw [s15]; exact rd_e _ 3
        have ey : (y : Int) + w = ((y + w.toNat : Nat) : Int) := by omega
        rcases b5 with b5 | b5
        · have b5' : sMo.2.2.1 18 5 = Int32.ofInt 0 := b5
          have a5' : sJo.2.2.1 0 5 = Int32.ofInt 0 := a5.trans b5
          refine ⟨(sMo.2.2.1 18 2 + Int32.ofInt (rd (sMo.2.2.1 15) 2)) + Int32.ofInt (w * q), sI sMn 11 0, (sA (sA (sA (sA (sA sJo' 0 2 (sMo.2.2.1 18 2 + Int32.ofInt (rd (sMo.2.2.1 15) 2))) 0 3 (sMo.2.2.1 18 3 + Int32.ofInt (rd (sMo.2.2.1 15) 3))) 0 5 (Int32.ofInt 1)) 0 1 (Int32.ofInt ((y : Int) + w))) 0 2 ((sMo.2.2.1 18 2 + Int32.ofInt (rd (sMo.2.2.1 15) 2)) + Int32.ofInt (w * q))), sJk', (sA (sA (sA (sA (sA s' 18 2 (sMo.2.2.1 18 2 + Int32.ofInt (rd (sMo.2.2.1 15) 2))) 18 3 (sMo.2.2.1 18 3 + Int32.ofInt (rd (sMo.2.2.1 15) 3))) 18 5 (Int32.ofInt 1)) 18 1 (Int32.ofInt ((y : Int) + w))) 18 2 ((sMo.2.2.1 18 2 + Int32.ofInt (rd (sMo.2.2.1 15) 2)) + Int32.ofInt (w * q))), ?_, ?_, TJ_k (KJ_t e3 (KJ_t (KJ_a _ _ _ (by decide)) (KJ_t (KJ_a _ _ _ (by decide)) (KJ_t (KJ_a _ _ _ (by decide)) (KJ_t (KJ_a _ _ _ (by decide)) (KJ_a _ _ _ (by decide))))))), ?_⟩
          · unfold f_X3_takeIn f_X3_takeIn_46
            simp (disch := omega) only [z_0, z_1, z_2, z_3, z_4, z_5, z_6, z_7, z_8, z_9, z_10, z_11, z_12, z_14, z_18, z_20, z_22, z_24, z_32, z_38, z_40, z_41, z_44, z_48, z_49, z_57, z_59, z_60, z_63, z_65, z_74, z_75, z_81, z_97, z_99, z_104, z_115, z_119, z_122, z_200, z_209, z_210, z_219, z_228, z_255, z_300, z_369, z_999, z_65537, z_268435456, z_1000000000, n_nat, n_add, n_sub, n_mul, n_neg, n_lt, n_le, n_eq, n_ix, n_gd, n_nz, lz_t, bd_some, tn, Int.reduceToNat, tn_1, if_pos, if_neg, if_true, if_false, sI_a, sI_b, sL_a, sL_b, sL_c, wA_a, wA_b, wA_c, wA_d, wB_a, wB_b, wB_c, wB_d, sA_w, sB_w, uN_s, uN_n, up_s, up_n, ul_s, ul_n, p_fst, p_snd, g18, a4, a1, q0, e1, j0, a5', q2', q3', a2, a3, X10_accept]
          · unfold f_X11_fill_103
            simp (disch := omega) only [z_0, z_1, z_2, z_3, z_4, z_5, z_6, z_7, z_8, z_9, z_10, z_11, z_12, z_14, z_18, z_20, z_22, z_24, z_32, z_38, z_40, z_41, z_44, z_48, z_49, z_57, z_59, z_60, z_63, z_65, z_74, z_75, z_81, z_97, z_99, z_104, z_115, z_119, z_122, z_200, z_209, z_210, z_219, z_228, z_255, z_300, z_369, z_999, z_65537, z_268435456, z_1000000000, n_nat, n_add, n_sub, n_mul, n_neg, n_lt, n_le, n_eq, n_ix, n_gd, n_nz, lz_t, bd_some, tn, Int.reduceToNat, tn_1, if_pos, if_neg, if_true, if_false, sI_a, sI_b, sL_a, sL_b, sL_c, wA_a, wA_b, wA_c, wA_d, wB_a, wB_b, wB_c, wB_d, sA_w, sB_w, uN_s, uN_n, up_s, up_n, ul_s, ul_n, p_fst, p_snd, g18, b4, b1, r0, f_X11_in, e2, s18, b5', r2, r3]
          · refine ⟨fun _ => ?_, fun q => absurd q (by decide), e6 _ _ rfl ?_ ?_, JI_k J.2.2.2 ?_ ?_ ?_⟩
            · refine rowR_i (p := a) (y := y + w.toNat) (q := q) (z := z) pb (by omega) (by omega) (by omega) q1 q2 z1 z2 ?_ ?_ ?_ ?_ ?_ ?_ ?_ ?_ ?_ ?_ ?_ ?_
              all_goals simp (disch := omega) only [sI_a, sI_b, sL_a, sL_b, sL_c, wA_a, wA_b, wA_c, wA_d, wB_a, wB_b, wB_c, wB_d, sA_w, sB_w, uN_s, uN_n, up_s, up_n, ul_s, ul_n, p_fst, p_snd, j0, s18, b0, b1, b4, b6, a0, a1, a4, a6, a2, a3, a5', ey, if_neg cq]
              exact Or.inr rfl
            all_goals simp (disch := omega) only [sI_a, sI_b, sL_a, sL_b, sL_c, wA_a, wA_b, wA_c, wA_d, wB_a, wB_b, wB_c, wB_d, sA_w, sB_w, uN_s, uN_n, up_s, up_n, ul_s, ul_n, p_fst, p_snd, j2, s20, s22]
        · have b5' : sMo.2.2.1 18 5 = Int32.ofInt 1 := b5
          have a5' : sJo.2.2.1 0 5 = Int32.ofInt 1 := a5.trans b5
          refine ⟨sMo.2.2.1 18 2 + Int32.ofInt (w * q), sI sMn 11 0, (sA (sA sJo' 0 1 (Int32.ofInt ((y : Int) + w))) 0 2 (sMo.2.2.1 18 2 + Int32.ofInt (w * q))), sJk', (sA (sA (sA s' 18 5 (Int32.ofInt 1)) 18 1 (Int32.ofInt ((y : Int) + w))) 18 2 (sMo.2.2.1 18 2 + Int32.ofInt (w * q))), ?_, ?_, TJ_k (KJ_t e3 (KJ_t (KJ_a _ _ _ (by decide)) (KJ_t (KJ_a _ _ _ (by decide)) (KJ_a _ _ _ (by decide))))), ?_⟩
          · unfold f_X3_takeIn f_X3_takeIn_46
            simp (disch := omega) only [z_0, z_1, z_2, z_3, z_4, z_5, z_6, z_7, z_8, z_9, z_10, z_11, z_12, z_14, z_18, z_20, z_22, z_24, z_32, z_38, z_40, z_41, z_44, z_48, z_49, z_57, z_59, z_60, z_63, z_65, z_74, z_75, z_81, z_97, z_99, z_104, z_115, z_119, z_122, z_200, z_209, z_210, z_219, z_228, z_255, z_300, z_369, z_999, z_65537, z_268435456, z_1000000000, n_nat, n_add, n_sub, n_mul, n_neg, n_lt, n_le, n_eq, n_ix, n_gd, n_nz, lz_t, bd_some, tn, Int.reduceToNat, tn_1, if_pos, if_neg, if_true, if_false, sI_a, sI_b, sL_a, sL_b, sL_c, wA_a, wA_b, wA_c, wA_d, wB_a, wB_b, wB_c, wB_d, sA_w, sB_w, uN_s, uN_n, up_s, up_n, ul_s, ul_n, p_fst, p_snd, g18, a4, a1, q0, e1, j0, a5', q2', q3', a2, a3, X10_accept]
          · unfold f_X11_fill_103
            simp (disch := omega) only [z_0, z_1, z_2, z_3, z_4, z_5, z_6, z_7, z_8, z_9, z_10, z_11, z_12, z_14, z_18, z_20, z_22, z_24, z_32, z_38, z_40, z_41, z_44, z_48, z_49, z_57, z_59, z_60, z_63, z_65, z_74, z_75, z_81, z_97, z_99, z_104, z_115, z_119, z_122, z_200, z_209, z_210, z_219, z_228, z_255, z_300, z_369, z_999, z_65537, z_268435456, z_1000000000, n_nat, n_add, n_sub, n_mul, n_neg, n_lt, n_le, n_eq, n_ix, n_gd, n_nz, lz_t, bd_some, tn, Int.reduceToNat, tn_1, if_pos, if_neg, if_true, if_false, sI_a, sI_b, sL_a, sL_b, sL_c, wA_a, wA_b, wA_c, wA_d, wB_a, wB_b, wB_c, wB_d, sA_w, sB_w, uN_s, uN_n, up_s, up_n, ul_s, ul_n, p_fst, p_snd, g18, b4, b1, r0, f_X11_in, e2, s18, b5', r2, r3]
          · refine ⟨fun _ => ?_, fun q => absurd q (by decide), e6 _ _ rfl ?_ ?_, JI_k J.2.2.2 ?_ ?_ ?_⟩
            · refine rowR_i (p := a) (y := y + w.toNat) (q := q) (z := z) pb (by omega) (by omega) (by omega) q1 q2 z1 z2 ?_ ?_ ?_ ?_ ?_ ?_ ?_ ?_ ?_ ?_ ?_ ?_
              all_goals simp (disch := omega) only [sI_a, sI_b, sL_a, sL_b, sL_c, wA_a, wA_b, wA_c, wA_d, wB_a, wB_b, wB_c, wB_d, sA_w, sB_w, uN_s, uN_n, up_s, up_n, ul_s, ul_n, p_fst, p_snd, j0, s18, b0, b1, b4, b6, a0, a1, a4, a6, a2, a3, a5', ey, if_neg cq]
              exact Or.inr rfl
            all_goals simp (disch := omega) only [sI_a, sI_b, sL_a, sL_b, sL_c, wA_a, wA_b, wA_c, wA_d, wB_a, wB_b, wB_c, wB_d, sA_w, sB_w, uN_s, uN_n, up_s, up_n, ul_s, ul_n, p_fst, p_snd, j2, s20, s22]
      · refine ⟨-1, sI sMn 11 2, sJo, sJk, sI (gQ sMo) 11 2, ?_, ?_, TJ_n _ _ 2, by rw [← h1]; exact JN 2⟩
        · by_cases c2 : w < 1
          · simp (disch := omega) only [z_0, z_1, z_2, z_3, z_4, z_5, z_6, z_7, z_8, z_9, z_10, z_11, z_12, z_14, z_18, z_20, z_22, z_24, z_32, z_38, z_40, z_41, z_44, z_48, z_49, z_57, z_59, z_60, z_63, z_65, z_74, z_75, z_81, z_97, z_99, z_104, z_115, z_119, z_122, z_200, z_209, z_210, z_219, z_228, z_255, z_300, z_369, z_999, z_65537, z_268435456, z_1000000000, n_nat, n_add, n_sub, n_mul, n_neg, n_lt, n_le, n_eq, n_ix, n_gd, n_nz, lz_t, bd_some, tn, Int.reduceToNat, tn_1, if_pos, if_neg, if_true, if_false, a4, X10_refuse]
          · simp (disch := omega) only [z_0, z_1, z_2, z_3, z_4, z_5, z_6, z_7, z_8, z_9, z_10, z_11, z_12, z_14, z_18, z_20, z_22, z_24, z_32, z_38, z_40, z_41, z_44, z_48, z_49, z_57, z_59, z_60, z_63, z_65, z_74, z_75, z_81, z_97, z_99, z_104, z_115, z_119, z_122, z_200, z_209, z_210, z_219, z_228, z_255, z_300, z_369, z_999, z_65537, z_268435456, z_1000000000, n_nat, n_add, n_sub, n_mul, n_neg, n_lt, n_le, n_eq, n_ix, n_gd, n_nz, lz_t, bd_some, tn, Int.reduceToNat, tn_1, if_pos, if_neg, if_true, if_false, a4, a1, q0, X10_refuse]
        · by_cases c2 : w < 1
          · simp (disch := omega) only [z_0, z_1, z_2, z_3, z_4, z_5, z_6, z_7, z_8, z_9, z_10, z_11, z_12, z_14, z_18, z_20, z_22, z_24, z_32, z_38, z_40, z_41, z_44, z_48, z_49, z_57, z_59, z_60, z_63, z_65, z_74, z_75, z_81, z_97, z_99, z_104, z_115, z_119, z_122, z_200, z_209, z_210, z_219, z_228, z_255, z_300, z_369, z_999, z_65537, z_268435456, z_1000000000, n_nat, n_add, n_sub, n_mul, n_neg, n_lt, n_le, n_eq, n_ix, n_gd, n_nz, lz_t, bd_some, tn, Int.reduceToNat, tn_1, if_pos, if_neg, if_true, if_false, g18, b4, b1, r0, f_X11_in, X11_no]
          · simp (disch := omega) only [z_0, z_1, z_2, z_3, z_4, z_5, z_6, z_7, z_8, z_9, z_10, z_11, z_12, z_14, z_18, z_20, z_22, z_24, z_32, z_38, z_40, z_41, z_44, z_48, z_49, z_57, z_59, z_60, z_63, z_65, z_74, z_75, z_81, z_97, z_99, z_104, z_115, z_119, z_122, z_200, z_209, z_210, z_219, z_228, z_255, z_300, z_369, z_999, z_65537, z_268435456, z_1000000000, n_nat, n_add, n_sub, n_mul, n_neg, n_lt, n_le, n_eq, n_ix, n_gd, n_nz, lz_t, bd_some, tn, Int.reduceToNat, tn_1, if_pos, if_neg, if_true, if_false, g18, b4, b1, r0, f_X11_in, X11_no]
  · rw [h1, if_pos rfl, if_pos rfl]
    exact ⟨_, _, _, _, _, rfl, rfl, TJ_n _ _ 1, by rw [← h1]; exact JN 1⟩
